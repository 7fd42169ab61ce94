theorem zx_X16_unroll_0 {G1_0 m x : Nat} (h0 : x < m + 276 + 2 * G1_0 ∨ m + 276 + 2 * G1_0 + (320 - 2 * G1_0) ≤ x) (h1 : G1_0 + 60 ≤ 160) : x < m + 276 + 2 * G1_0 ∨ m + 276 + 2 * G1_0 + 2 ≤ x := by omega
theorem zx_X16_unroll_1 {G1_0 G1_1 m x : Nat} (h0 : x < m + 276 + 2 * G1_0 ∨ m + 276 + 2 * G1_0 + (320 - 2 * G1_0) ≤ x) (h1 : G1_1 = G1_0 + 1) (h2 : G1_0 + 60 ≤ 160) : x < m + 276 + 2 * G1_1 ∨ m + 276 + 2 * G1_1 + 2 ≤ x := by omega
theorem zx_X16_unroll_2 {G1_0 G1_2 m x : Nat} (h0 : x < m + 276 + 2 * G1_0 ∨ m + 276 + 2 * G1_0 + (320 - 2 * G1_0) ≤ x) (h1 : G1_2 = G1_0 + 2) (h2 : G1_0 + 60 ≤ 160) : x < m + 276 + 2 * G1_2 ∨ m + 276 + 2 * G1_2 + 2 ≤ x := by omega
theorem zx_X16_unroll_3 {m x : Nat} (h0 : x < m ∨ m + 1 ≤ x) : x ≠ m := by omega
theorem zx_X16_unroll_4 {dn9 m : Nat} (h0 : m + 210 ≤ dn9 ∧ dn9 < m + 212) : dn9 < m ∨ m + 1 ≤ dn9 := by omega
theorem zx_X16_unroll_5 {dn9 m : Nat} (h0 : m + 210 ≤ dn9 ∧ dn9 < m + 212) : m ≠ dn9 := by omega
theorem zx_X16_unroll_6 {m u9 : Nat} (h0 : m + 7486 ≤ u9 ∧ u9 + 9 ≤ m + 7594) : u9 < m ∨ m + 1 ≤ u9 := by omega
theorem zx_X16_unroll_7 {G1_0 m u9 : Nat} (h0 : m + 7486 ≤ u9 ∧ u9 + 9 ≤ m + 7594) (h1 : G1_0 + 60 ≤ 160) : u9 < m + 276 + 2 * G1_0 ∨ m + 276 + 2 * G1_0 + 2 ≤ u9 := by omega
theorem zx_X16_unroll_8 {G1_0 G1_1 m u9 : Nat} (h0 : m + 7486 ≤ u9 ∧ u9 + 9 ≤ m + 7594) (h1 : G1_1 = G1_0 + 1) (h2 : G1_0 + 60 ≤ 160) : u9 < m + 276 + 2 * G1_1 ∨ m + 276 + 2 * G1_1 + 2 ≤ u9 := by omega
theorem zx_X16_unroll_9 {G1_0 G1_2 m u9 : Nat} (h0 : m + 7486 ≤ u9 ∧ u9 + 9 ≤ m + 7594) (h1 : G1_2 = G1_0 + 2) (h2 : G1_0 + 60 ≤ 160) : u9 < m + 276 + 2 * G1_2 ∨ m + 276 + 2 * G1_2 + 2 ≤ u9 := by omega
theorem zx_X16_unroll_10 {m u9 up9 : Nat} (h0 : m + 7486 ≤ u9 ∧ u9 + 9 ≤ m + 7594) (h1 : m + 100 ≤ up9 ∧ up9 + 8 ≤ m + 210) : u9 < up9 + 1 ∨ up9 + 1 + 7 ≤ u9 := by omega
theorem zx_X16_unroll_11 {dn9 m u9 : Nat} (h0 : m + 7486 ≤ u9 ∧ u9 + 9 ≤ m + 7594) (h1 : m + 210 ≤ dn9 ∧ dn9 < m + 212) : u9 < dn9 ∨ dn9 + 1 ≤ u9 := by omega
theorem zx_X16_unroll_12 {G1_0 m u9 : Nat} (h0 : m + 7486 ≤ u9 ∧ u9 + 9 ≤ m + 7594) (h1 : G1_0 + 60 ≤ 160) : u9 < m + 276 + 2 * G1_0 ∨ m + 276 + 2 * G1_0 + (320 - 2 * G1_0) ≤ u9 := by omega
theorem zx_X16_unroll_13 {m u9 : Nat} (h0 : m + 7486 ≤ u9 ∧ u9 + 9 ≤ m + 7594) : u9 ≠ m := by omega
theorem zx_X16_unroll_14 {dn9 m u9 : Nat} (h0 : m + 7486 ≤ u9 ∧ u9 + 9 ≤ m + 7594) (h1 : m + 210 ≤ dn9 ∧ dn9 < m + 212) : u9 ≠ dn9 := by omega
theorem zx_X16_unroll_15 {m u9 : Nat} (h0 : m + 7486 ≤ u9 ∧ u9 + 9 ≤ m + 7594) : (u9 + 7) < m ∨ m + 1 ≤ (u9 + 7) := by omega
theorem zx_X16_unroll_16 {G1_0 m u9 : Nat} (h0 : m + 7486 ≤ u9 ∧ u9 + 9 ≤ m + 7594) (h1 : G1_0 + 60 ≤ 160) : (u9 + 7) < m + 276 + 2 * G1_0 ∨ m + 276 + 2 * G1_0 + 2 ≤ (u9 + 7) := by omega
theorem zx_X16_unroll_17 {G1_0 G1_1 m u9 : Nat} (h0 : m + 7486 ≤ u9 ∧ u9 + 9 ≤ m + 7594) (h1 : G1_1 = G1_0 + 1) (h2 : G1_0 + 60 ≤ 160) : (u9 + 7) < m + 276 + 2 * G1_1 ∨ m + 276 + 2 * G1_1 + 2 ≤ (u9 + 7) := by omega
theorem zx_X16_unroll_18 {G1_0 G1_2 m u9 : Nat} (h0 : m + 7486 ≤ u9 ∧ u9 + 9 ≤ m + 7594) (h1 : G1_2 = G1_0 + 2) (h2 : G1_0 + 60 ≤ 160) : (u9 + 7) < m + 276 + 2 * G1_2 ∨ m + 276 + 2 * G1_2 + 2 ≤ (u9 + 7) := by omega
theorem zx_X16_unroll_19 {m u9 up9 : Nat} (h0 : m + 7486 ≤ u9 ∧ u9 + 9 ≤ m + 7594) (h1 : m + 100 ≤ up9 ∧ up9 + 8 ≤ m + 210) : (u9 + 7) < up9 + 1 ∨ up9 + 1 + 7 ≤ (u9 + 7) := by omega
theorem zx_X16_unroll_20 {dn9 m u9 : Nat} (h0 : m + 7486 ≤ u9 ∧ u9 + 9 ≤ m + 7594) (h1 : m + 210 ≤ dn9 ∧ dn9 < m + 212) : (u9 + 7) < dn9 ∨ dn9 + 1 ≤ (u9 + 7) := by omega
theorem zx_X16_unroll_21 {G1_0 m u9 : Nat} (h0 : m + 7486 ≤ u9 ∧ u9 + 9 ≤ m + 7594) (h1 : G1_0 + 60 ≤ 160) : (u9 + 7) < m + 276 + 2 * G1_0 ∨ m + 276 + 2 * G1_0 + (320 - 2 * G1_0) ≤ (u9 + 7) := by omega
theorem zx_X16_unroll_22 {m u9 : Nat} (h0 : m + 7486 ≤ u9 ∧ u9 + 9 ≤ m + 7594) : (u9 + 7) ≠ m := by omega
theorem zx_X16_unroll_23 {dn9 m u9 : Nat} (h0 : m + 7486 ≤ u9 ∧ u9 + 9 ≤ m + 7594) (h1 : m + 210 ≤ dn9 ∧ dn9 < m + 212) : (u9 + 7) ≠ dn9 := by omega
theorem zx_X16_unroll_24 {G1_0 dn9 m : Nat} (h0 : m + 210 ≤ dn9 ∧ dn9 < m + 212) (h1 : G1_0 + 60 ≤ 160) : dn9 < m + 276 + 2 * G1_0 ∨ m + 276 + 2 * G1_0 + 2 ≤ dn9 := by omega
theorem zx_X16_unroll_25 {G1_0 G1_1 dn9 m : Nat} (h0 : m + 210 ≤ dn9 ∧ dn9 < m + 212) (h1 : G1_1 = G1_0 + 1) (h2 : G1_0 + 60 ≤ 160) : dn9 < m + 276 + 2 * G1_1 ∨ m + 276 + 2 * G1_1 + 2 ≤ dn9 := by omega
theorem zx_X16_unroll_26 {G1_0 G1_1 m x : Nat} (h0 : m + 276 + 2 * G1_0 ≤ x) (h1 : x < m + 276 + 2 * G1_0 + 2) (h2 : G1_1 = G1_0 + 1) (h3 : G1_0 + 60 ≤ 160) : x < m + 276 + 2 * G1_1 ∨ m + 276 + 2 * G1_1 + 2 ≤ x := by omega
theorem zx_X16_unroll_27 {m up9 : Nat} (h0 : m + 100 ≤ up9 ∧ up9 + 8 ≤ m + 210) : up9 < m ∨ m + 1 ≤ up9 := by omega
theorem zx_X16_unroll_28 {G1_0 m up9 : Nat} (h0 : m + 100 ≤ up9 ∧ up9 + 8 ≤ m + 210) (h1 : G1_0 + 60 ≤ 160) : up9 < m + 276 + 2 * G1_0 ∨ m + 276 + 2 * G1_0 + 2 ≤ up9 := by omega
theorem zx_X16_unroll_29 {G1_0 G1_1 m up9 : Nat} (h0 : m + 100 ≤ up9 ∧ up9 + 8 ≤ m + 210) (h1 : G1_1 = G1_0 + 1) (h2 : G1_0 + 60 ≤ 160) : up9 < m + 276 + 2 * G1_1 ∨ m + 276 + 2 * G1_1 + 2 ≤ up9 := by omega
theorem zx_X16_unroll_30 {G1_0 G1_2 m up9 : Nat} (h0 : m + 100 ≤ up9 ∧ up9 + 8 ≤ m + 210) (h1 : G1_2 = G1_0 + 2) (h2 : G1_0 + 60 ≤ 160) : up9 < m + 276 + 2 * G1_2 ∨ m + 276 + 2 * G1_2 + 2 ≤ up9 := by omega
theorem zx_X16_unroll_31 {m up9 : Nat} (h0 : m + 100 ≤ up9 ∧ up9 + 8 ≤ m + 210) : up9 < up9 + 1 ∨ up9 + 1 + 7 ≤ up9 := by omega
theorem zx_X16_unroll_32 {dn9 m up9 : Nat} (h0 : m + 100 ≤ up9 ∧ up9 + 8 ≤ m + 210) (h1 : m + 210 ≤ dn9 ∧ dn9 < m + 212) : up9 < dn9 ∨ dn9 + 1 ≤ up9 := by omega
theorem zx_X16_unroll_33 {G1_0 m up9 : Nat} (h0 : m + 100 ≤ up9 ∧ up9 + 8 ≤ m + 210) (h1 : G1_0 + 60 ≤ 160) : up9 < m + 276 + 2 * G1_0 ∨ m + 276 + 2 * G1_0 + (320 - 2 * G1_0) ≤ up9 := by omega
theorem zx_X16_unroll_34 {m up9 : Nat} (h0 : m + 100 ≤ up9 ∧ up9 + 8 ≤ m + 210) : up9 ≠ m := by omega
theorem zx_X16_unroll_35 {dn9 m up9 : Nat} (h0 : m + 100 ≤ up9 ∧ up9 + 8 ≤ m + 210) (h1 : m + 210 ≤ dn9 ∧ dn9 < m + 212) : up9 ≠ dn9 := by omega
theorem zx_X16_unroll_36 {G1_0 m : Nat} (h0 : G1_0 + 60 ≤ 160) : m < m + 276 + 2 * G1_0 ∨ m + 276 + 2 * G1_0 + 2 ≤ m := by omega
theorem zx_X16_unroll_37 {G1_0 G1_1 m : Nat} (h0 : G1_1 = G1_0 + 1) (h1 : G1_0 + 60 ≤ 160) : m < m + 276 + 2 * G1_1 ∨ m + 276 + 2 * G1_1 + 2 ≤ m := by omega
theorem zx_X16_unroll_38 {G1_0 G1_2 m : Nat} (h0 : G1_2 = G1_0 + 2) (h1 : G1_0 + 60 ≤ 160) : m < m + 276 + 2 * G1_2 ∨ m + 276 + 2 * G1_2 + 2 ≤ m := by omega
theorem zx_X16_unroll_39 {G1_0 G1_2 dn9 m : Nat} (h0 : m + 210 ≤ dn9 ∧ dn9 < m + 212) (h1 : G1_2 = G1_0 + 2) (h2 : G1_0 + 60 ≤ 160) : dn9 < m + 276 + 2 * G1_2 ∨ m + 276 + 2 * G1_2 + 2 ≤ dn9 := by omega
theorem zx_X16_unroll_40 {dn9 m x : Nat} (h0 : x < dn9 ∨ dn9 + 1 ≤ x) (h1 : m + 210 ≤ dn9 ∧ dn9 < m + 212) : x ≠ dn9 := by omega
theorem zx_X16_unroll_41 {G1_0 G1_2 m x : Nat} (h0 : m + 276 + 2 * G1_2 ≤ x) (h1 : x < m + 276 + 2 * G1_2 + 2) (h2 : G1_2 = G1_0 + 2) (h3 : G1_0 + 60 ≤ 160) : x < m ∨ m + 1 ≤ x := by omega
theorem zx_X16_unroll_42 {G1_0 G1_2 m x : Nat} (h0 : m + 276 + 2 * G1_2 ≤ x) (h1 : x < m + 276 + 2 * G1_2 + 2) (h2 : G1_2 = G1_0 + 2) (h3 : G1_0 + 60 ≤ 160) : x < m + 276 + 2 * G1_0 ∨ m + 276 + 2 * G1_0 + 2 ≤ x := by omega
theorem zx_X16_unroll_43 {G1_0 G1_1 G1_2 m x : Nat} (h0 : m + 276 + 2 * G1_1 ≤ x) (h1 : x < m + 276 + 2 * G1_1 + 2) (h2 : G1_1 = G1_0 + 1) (h3 : G1_2 = G1_0 + 2) (h4 : G1_0 + 60 ≤ 160) : x < m + 276 + 2 * G1_2 ∨ m + 276 + 2 * G1_2 + 2 ≤ x := by omega
theorem zx_X16_unroll_44 {G1_0 G1_1 m x : Nat} (h0 : m + 276 + 2 * G1_1 ≤ x) (h1 : x < m + 276 + 2 * G1_1 + 2) (h2 : G1_1 = G1_0 + 1) (h3 : G1_0 + 60 ≤ 160) : x < m ∨ m + 1 ≤ x := by omega
theorem zx_X16_unroll_45 {G1_0 G1_1 m x : Nat} (h0 : m + 276 + 2 * G1_1 ≤ x) (h1 : x < m + 276 + 2 * G1_1 + 2) (h2 : G1_1 = G1_0 + 1) (h3 : G1_0 + 60 ≤ 160) : x < m + 276 + 2 * G1_0 ∨ m + 276 + 2 * G1_0 + 2 ≤ x := by omega
theorem zx_X16_unroll_46 {G1_0 m x : Nat} (h0 : m + 276 + 2 * G1_0 ≤ x) (h1 : x < m + 276 + 2 * G1_0 + 2) (h2 : G1_0 + 60 ≤ 160) : x < m ∨ m + 1 ≤ x := by omega
theorem zx_X16_unroll_47 {G1_0 G1_2 m x : Nat} (h0 : m + 276 + 2 * G1_0 ≤ x) (h1 : x < m + 276 + 2 * G1_0 + 2) (h2 : G1_2 = G1_0 + 2) (h3 : G1_0 + 60 ≤ 160) : x < m + 276 + 2 * G1_2 ∨ m + 276 + 2 * G1_2 + 2 ≤ x := by omega
set_option maxHeartbeats 8000000 in
set_option maxRecDepth 100000 in
theorem c_X16_unroll {w : zM} {g : Nat → Int32} {r : Nat → Value} {gu fu : Nat → Int32} {fw fd : Nat → Option Nat} {g1 : Int32} (m : Nat) (u9 : Nat) (up9 : Nat) (dn9 : Nat) (hm : w m = some (.inl (15, zMo m g r))) (hR_m : zR m w) (hT_u9 : w u9 = some (.inl (13, zTo u9 gu))) (hA_u9_7 : w (u9 + 7) = some (.inr (0, 175, .inl fu))) (hV_up9 : w up9 = some (.inr (8, 7, .inr fw))) (hV_dn9 : w dn9 = some (.inr (4, 7, .inr fd))) (hut : 0 ≤ g1.toInt ∧ g1.toInt + 60 ≤ 160) (ho : 1 ≤ (gu 10).toInt ∧ (gu 10).toInt ≤ 6) (hfu : ∀ i, i < 175 → zr1 (fu i)) (hmu : m + 7486 ≤ u9 ∧ u9 + 9 ≤ m + 7594) (hmw : m + 100 ≤ up9 ∧ up9 + 8 ≤ m + 210) (hmd : m + 210 ≤ dn9 ∧ dn9 < m + 212) (hfw : ∀ i, i < 7 → fw i = some (up9 + 1 + i)) (hrw : ∀ i, i < 7 → ∃ f, w (up9 + 1 + i) = some (.inr (4, 6, .inr f))) (hdg : ∀ j, j ≤ (gu 10).toNatClampNeg → zln (zaOf (fun i => zf (fu (25 * j + i))) 25) ≤ 7) (hld : 0 < zln (zaOf (fun i => zf (fu (25 * (gu 10).toNatClampNeg + i))) 25)) (hg1 : g 1 = g1) : zCon 6 zq_X16_unroll [.ref m, .ref u9, .ref up9, .ref dn9] w (fun v9 w9' => ∃ X9 : Int32, ∃ fq : Nat → Option Nat, ∃ Eb : Nat → Nat, ∃ Dn : Nat → zA1, ∃ Up : Nat → Nat → zA1, zSI w w9' ∧ (∀ x, (x < m ∨ m + 1 ≤ x) ∧ (x < up9 + 1 ∨ up9 + 1 + 7 ≤ x) ∧ (x < dn9 ∨ dn9 + 1 ≤ x) ∧ (x < m + 276 + 2 * g1.toNatClampNeg ∨ m + 276 + 2 * g1.toNatClampNeg + (320 - 2 * g1.toNatClampNeg) ≤ x) → w9' x = w x) ∧ w9' m = some (.inl (15, zMo m (zs g 1 X9) r)) ∧ w9' dn9 = some (.inr (4, 7, .inr fq)) ∧ (g1.toInt + 3 ≤ X9.toInt ∧ X9.toInt ≤ g1.toInt + 52) ∧ (∀ t, t < 7 → m + 276 + 2 * g1.toNatClampNeg ≤ Eb t ∧ Eb t + 2 + 2 * (gu 10).toNatClampNeg ≤ m + 276 + 2 * X9.toNatClampNeg ∧ fq t = some (Eb t)) ∧ (∀ t, t < 7 → ∃ f, w9' (up9 + 1 + t) = some (.inr (4, 6, .inr f)) ∧ ∀ j, j < (gu 10).toNatClampNeg → f j = some (Eb t + 2 + 2 * j)) ∧ (∀ t, t < 7 → zU w9' (Eb t) 1000 (Dn t) ∧ 0 < zln (Dn t) ∧ zln (Dn t) ≤ 6 * t + 1) ∧ (∀ t, t < 7 → ∀ j, j < (gu 10).toNatClampNeg → zU w9' (Eb t + 2 + 2 * j) 1000 (Up t j) ∧ zln (Up t j) ≤ 6 * t + 1) ∧ 0 < zln (Up 0 0) ∧ v9 = none) := by
  subst hg1
  intro d sz hd
  obtain ⟨d, rfl⟩ : ∃ d9, d = d9 + 1 := ⟨d - 1, by omega⟩
  generalize hPost : (fun (r9' : Option (Option Value)) (w9' : zM) (z9 : Nat) => z9 = sz ∧ ∃ v9, r9' = some v9 ∧ (∃ X9 : Int32, ∃ fq : Nat → Option Nat, ∃ Eb : Nat → Nat, ∃ Dn : Nat → zA1, ∃ Up : Nat → Nat → zA1, zSI w w9' ∧ (∀ x, (x < m ∨ m + 1 ≤ x) ∧ (x < up9 + 1 ∨ up9 + 1 + 7 ≤ x) ∧ (x < dn9 ∨ dn9 + 1 ≤ x) ∧ (x < m + 276 + 2 * (g 1).toNatClampNeg ∨ m + 276 + 2 * (g 1).toNatClampNeg + (320 - 2 * (g 1).toNatClampNeg) ≤ x) → w9' x = w x) ∧ w9' m = some (.inl (15, zMo m (zs g 1 X9) r)) ∧ w9' dn9 = some (.inr (4, 7, .inr fq)) ∧ ((g 1).toInt + 3 ≤ X9.toInt ∧ X9.toInt ≤ (g 1).toInt + 52) ∧ (∀ t, t < 7 → m + 276 + 2 * (g 1).toNatClampNeg ≤ Eb t ∧ Eb t + 2 + 2 * (gu 10).toNatClampNeg ≤ m + 276 + 2 * X9.toNatClampNeg ∧ fq t = some (Eb t)) ∧ (∀ t, t < 7 → ∃ f, w9' (up9 + 1 + t) = some (.inr (4, 6, .inr f)) ∧ ∀ j, j < (gu 10).toNatClampNeg → f j = some (Eb t + 2 + 2 * j)) ∧ (∀ t, t < 7 → zU w9' (Eb t) 1000 (Dn t) ∧ 0 < zln (Dn t) ∧ zln (Dn t) ≤ 6 * t + 1) ∧ (∀ t, t < 7 → ∀ j, j < (gu 10).toNatClampNeg → zU w9' (Eb t + 2 + 2 * j) 1000 (Up t j) ∧ zln (Up t j) ≤ 6 * t + 1) ∧ 0 < zln (Up 0 0) ∧ v9 = none)) = Post
  show zP (d + 1) zq_X16_unroll 0 [(0, .ref m), (1, .ref u9), (2, .ref up9), (3, .ref dn9)] [] w sz 0 0 Post
  have k1 := zrng (g 1)
  have hz2 : ((g 1).toNatClampNeg : Int) = (g 1).toInt := znat (by first | omega | decide)
  have hgb1 : (g 1).toNatClampNeg + 60 ≤ 160 := by omega
  have k4 := zaddC (g 1) 1 (n := 1) (by decide) (by omega) (by omega)
  have hz5 : ((g 1 + 1).toNatClampNeg : Int) = (g 1 + 1).toInt := znat (by first | omega | decide)
  have hgn1_1 : (g 1 + 1).toNatClampNeg = (g 1).toNatClampNeg + 1 := by omega
  have k6 := zaddC (g 1 + 1) 1 (n := 1) (by decide) (by omega) (by omega)
  have hz7 : ((g 1 + 1 + 1).toNatClampNeg : Int) = (g 1 + 1 + 1).toInt := znat (by first | omega | decide)
  have hgn1_2 : (g 1 + 1 + 1).toNatClampNeg = (g 1).toNatClampNeg + 2 := by omega
  have k8 := zaddC (g 1 + 1 + 1) 1 (n := 1) (by decide) (by omega) (by omega)
  have hz9 : ((g 1 + 1 + 1 + 1).toNatClampNeg : Int) = (g 1 + 1 + 1 + 1).toInt := znat (by first | omega | decide)
  have hgn1_3 : (g 1 + 1 + 1 + 1).toNatClampNeg = (g 1).toNatClampNeg + 3 := by omega
  have k10 := zrng (gu 10)
  have hz11 : ((gu 10).toNatClampNeg : Int) = (gu 10).toInt := znat (by first | omega | decide)
  refine zp_seg (pc' := 1) (lv' := [(0, .ref m), (1, .ref u9), (2, .ref up9), (3, .ref dn9)]) (st' := [.ref u9]) [(0, .aload_n 1)] (by decide +kernel) rfl ?_
  refine zr_get (idx := 234) (k := 10) (v := .int (gu 10)) (by decide +kernel) (by decide +kernel) hT_u9 rfl ?_
  refine zp_seg (pc' := 7) (lv' := [(4, .int (gu 10)), (0, .ref m), (1, .ref u9), (2, .ref up9), (3, .ref dn9)]) (st' := [.ref m]) [(4, .istore 4), (6, .aload_n 0)] (by decide +kernel) rfl ?_
  refine zr_callV (idx := 74) (j := 263) (by decide +kernel) (by decide +kernel) (show zMe 263 = some zq_X16_newU from rfl) rfl rfl (Nat.le_of_ble_eq_true rfl) rfl rfl hm (Nat.le_of_ble_eq_true rfl) (Nat.le_of_ble_eq_true rfl) (c_X16_newU (w := w) (g1 := (g 1)) m hm hR_m (by first | omega | decide | assumption | exact zr1_1 | exact zr1_0 | fail "num") rfl) (by omega) (fun v7 w7 hp7 => ?_)
  obtain ⟨hsi7, heq7, hp7_0, hp7_1, rfl⟩ := hp7
  have hM7 : w7 m = some (.inl (15, zMo m (zs g 1 (g 1 + 1)) r)) := hp7_0
  show zP _ _ _ _ [.ref (m + 276 + 2 * (g 1).toNatClampNeg)] _ _ _ _ _
  refine zp_seg (pc' := 13) (lv' := [(5, .ref (m + 276 + 2 * (g 1).toNatClampNeg)), (4, .int (gu 10)), (0, .ref m), (1, .ref u9), (2, .ref up9), (3, .ref dn9)]) (st' := [.ref m]) [(10, .astore 5), (12, .aload_n 0)] (by decide +kernel) rfl ?_
  have hb12 := hR_m.si hsi7
  refine zr_callV (idx := 74) (j := 263) (by decide +kernel) (by decide +kernel) (show zMe 263 = some zq_X16_newU from rfl) rfl rfl (Nat.le_of_ble_eq_true rfl) rfl rfl hM7 (Nat.le_of_ble_eq_true rfl) (Nat.le_of_ble_eq_true rfl) (c_X16_newU (w := w7) (g1 := (g 1 + 1)) m hM7 hb12 (by first | omega | decide | assumption | exact zr1_1 | exact zr1_0 | fail "num") rfl) (by omega) (fun v13 w13 hp13 => ?_)
  obtain ⟨hsi13, heq13, hp13_0, hp13_1, rfl⟩ := hp13
  have hM13 : w13 m = some (.inl (15, zMo m (zs g 1 (g 1 + 1 + 1)) r)) := hp13_0
  show zP _ _ _ _ [.ref (m + 276 + 2 * (g 1 + 1).toNatClampNeg)] _ _ _ _ _
  refine zp_seg (pc' := 19) (lv' := [(6, .ref (m + 276 + 2 * (g 1 + 1).toNatClampNeg)), (5, .ref (m + 276 + 2 * (g 1).toNatClampNeg)), (4, .int (gu 10)), (0, .ref m), (1, .ref u9), (2, .ref up9), (3, .ref dn9)]) (st' := [.ref m]) [(16, .astore 6), (18, .aload_n 0)] (by decide +kernel) rfl ?_
  have hb13 := hb12.si hsi13
  refine zr_callV (idx := 74) (j := 263) (by decide +kernel) (by decide +kernel) (show zMe 263 = some zq_X16_newU from rfl) rfl rfl (Nat.le_of_ble_eq_true rfl) rfl rfl hM13 (Nat.le_of_ble_eq_true rfl) (Nat.le_of_ble_eq_true rfl) (c_X16_newU (w := w13) (g1 := (g 1 + 1 + 1)) m hM13 hb13 (by first | omega | decide | assumption | exact zr1_1 | exact zr1_0 | fail "num") rfl) (by omega) (fun v19 w19 hp19 => ?_)
  obtain ⟨hsi19, heq19, hp19_0, hp19_1, rfl⟩ := hp19
  have hM19 : w19 m = some (.inl (15, zMo m (zs g 1 (g 1 + 1 + 1 + 1)) r)) := hp19_0
  show zP _ _ _ _ [.ref (m + 276 + 2 * (g 1 + 1 + 1).toNatClampNeg)] _ _ _ _ _
  refine zp_seg (pc' := 27) (lv' := [(8, .int 0), (7, .ref (m + 276 + 2 * (g 1 + 1 + 1).toNatClampNeg)), (6, .ref (m + 276 + 2 * (g 1 + 1).toNatClampNeg)), (5, .ref (m + 276 + 2 * (g 1).toNatClampNeg)), (4, .int (gu 10)), (0, .ref m), (1, .ref u9), (2, .ref up9), (3, .ref dn9)]) (st' := []) [(22, .astore 7), (24, .iconst 0), (25, .istore 8)] (by decide +kernel) rfl ?_
  have hL27 : ∀ (mm27 : Nat) (wL27 : zM) (y8_27 : Int32) (xT : Int32) (Eb : Nat → Nat) (fdw : Nat → Option Nat) (Dn : Nat → zA1) (Up : Nat → Nat → zA1), (zSI w19 wL27) → (∀ x, ((x < m ∨ m + 1 ≤ x) ∧ (x < up9 + 1 ∨ up9 + 1 + 7 ≤ x) ∧ (x < dn9 ∨ dn9 + 1 ≤ x) ∧ (x < m + 276 + 2 * (g 1).toNatClampNeg ∨ m + 276 + 2 * (g 1).toNatClampNeg + (320 - 2 * (g 1).toNatClampNeg) ≤ x)) ∧ x ≠ m → wL27 x = w19 x) → (0 ≤ y8_27.toInt) → (y8_27.toInt ≤ 7) → (wL27 m = some (.inl (15, zMo m (zs g 1 xT) r))) → (wL27 dn9 = some (.inr (4, 7, .inr fdw))) → (zUo wL27 (m + 276 + 2 * (g 1).toNatClampNeg) 1000) → (zUo wL27 (m + 276 + 2 * (g 1 + 1).toNatClampNeg) 1000) → (zUo wL27 (m + 276 + 2 * (g 1 + 1 + 1).toNatClampNeg) 1000) → ((g 1).toInt + 3 ≤ xT.toInt ∧ xT.toInt ≤ (g 1).toInt + 3 + 7 * y8_27.toInt) → (∀ t, t < y8_27.toNatClampNeg → m + 276 + 2 * (g 1).toNatClampNeg + 6 ≤ Eb t ∧ Eb t + 2 + 2 * (gu 10).toNatClampNeg ≤ m + 276 + 2 * xT.toNatClampNeg ∧ fdw t = some (Eb t)) → (∀ t, t < y8_27.toNatClampNeg → ∃ f, wL27 (up9 + 1 + t) = some (.inr (4, 6, .inr f)) ∧ ∀ j, j < (gu 10).toNatClampNeg → f j = some (Eb t + 2 + 2 * j)) → (∀ t, y8_27.toNatClampNeg ≤ t → t < 7 → ∃ f, wL27 (up9 + 1 + t) = some (.inr (4, 6, .inr f))) → (∀ t, t < y8_27.toNatClampNeg → zU wL27 (Eb t) 1000 (Dn t) ∧ 0 < zln (Dn t) ∧ zln (Dn t) ≤ 6 * t + 1) → (∀ t, t < y8_27.toNatClampNeg → ∀ j, j < (gu 10).toNatClampNeg → zU wL27 (Eb t + 2 + 2 * j) 1000 (Up t j) ∧ zln (Up t j) ≤ 6 * t + 1) → (0 < y8_27.toNatClampNeg → 0 < zln (Up 0 0)) → (20 - y8_27.toInt).toNat < mm27 → zP (d + 1) zq_X16_unroll 27 [(0, .ref m), (1, .ref u9), (2, .ref up9), (3, .ref dn9), (4, .int (gu 10)), (5, .ref (m + 276 + 2 * (g 1).toNatClampNeg)), (6, .ref (m + 276 + 2 * (g 1 + 1).toNatClampNeg)), (7, .ref (m + 276 + 2 * (g 1 + 1 + 1).toNatClampNeg)), (8, .int y8_27)] [] wL27 sz 0 0 Post := by
    intro mm27
    induction mm27 with
    | zero => intros; omega
    | succ mm27 ih27 =>
    intro wL27 y8_27 xT Eb fdw Dn Up hsiL27 heqL27 hi27_0 hi27_1 hxM hVd hUo0 hUo1 hUo2 hxT hEb hRw hRo hDn hUp hZ0 hmu27
    have ky8_27 := zrng y8_27
    have hz14 : (y8_27.toNatClampNeg : Int) = y8_27.toInt := znat (by first | omega | decide)
    refine zp_seg (pc' := 31) (lv' := [(0, .ref m), (1, .ref u9), (2, .ref up9), (3, .ref dn9), (4, .int (gu 10)), (5, .ref (m + 276 + 2 * (g 1).toNatClampNeg)), (6, .ref (m + 276 + 2 * (g 1 + 1).toNatClampNeg)), (7, .ref (m + 276 + 2 * (g 1 + 1 + 1).toNatClampNeg)), (8, .int y8_27)]) (st' := [.int 7, .int y8_27]) [(27, .iload 8), (29, .bipush 7)] (by decide +kernel) rfl ?_
    refine zp_if (i := .if_icmp .ge 273) (c := 7 ≤ y8_27) (t := 304) (e := 34) (lv' := [(0, .ref m), (1, .ref u9), (2, .ref up9), (3, .ref dn9), (4, .int (gu 10)), (5, .ref (m + 276 + 2 * (g 1).toNatClampNeg)), (6, .ref (m + 276 + 2 * (g 1 + 1).toNatClampNeg)), (7, .ref (m + 276 + 2 * (g 1 + 1 + 1).toNatClampNeg)), (8, .int y8_27)]) (st' := []) (by decide +kernel) rfl (fun cc31 => ?_) (fun cc31 => ?_)
    ·
      have f16 := zleI cc31
      rw [show (7 : Int32).toInt = 7 from by decide] at f16
      have hoffend : ∀ x, (x < m ∨ m + 1 ≤ x) ∧ (x < up9 + 1 ∨ up9 + 1 + 7 ≤ x) ∧ (x < dn9 ∨ dn9 + 1 ≤ x) ∧ (x < m + 276 + 2 * (g 1).toNatClampNeg ∨ m + 276 + 2 * (g 1).toNatClampNeg + (320 - 2 * (g 1).toNatClampNeg) ≤ x) → wL27 x = w x := fun x hx => ((heqL27 x ⟨⟨hx.1, hx.2.1, hx.2.2.1, hx.2.2.2⟩, (zx_X16_unroll_3 hx.1)⟩).trans ((heq19 x ⟨hx.1, (zx_X16_unroll_2 hx.2.2.2 hgn1_2 hgb1)⟩).trans ((heq13 x ⟨hx.1, (zx_X16_unroll_1 hx.2.2.2 hgn1_1 hgb1)⟩).trans (heq7 x ⟨hx.1, (zx_X16_unroll_0 hx.2.2.2 hgb1)⟩))))
      refine zr_retV (by decide +kernel) rfl ?_
      rw [← hPost]; exact ⟨rfl, _, rfl, xT, fdw, Eb, Dn, Up, (((hsi7.tr hsi13).tr hsi19).tr hsiL27), hoffend, hxM, hVd, (by
            exact ⟨by omega, by omega⟩), (by
            exact fun t ht => ⟨by have := (hEb t (by omega)).1; omega, (hEb t (by omega)).2⟩), (by
            exact fun t ht => hRw t (by omega)), (by
            exact fun t ht => hDn t (by omega)), (by
            exact fun t ht => hUp t (by omega)), (by
            exact hZ0 (by omega)), rfl⟩
    ·
      have f18 := znleI cc31
      rw [show (7 : Int32).toInt = 7 from by decide] at f18
      have k19 := zrng xT
      have hz20 : (xT.toNatClampNeg : Int) = xT.toInt := znat (by first | omega | decide)
      have k21 := zaddC xT 1 (n := 1) (by decide) (by omega) (by omega)
      have hz22 : ((xT + 1).toNatClampNeg : Int) = (xT + 1).toInt := znat (by first | omega | decide)
      refine zp_seg (pc' := 38) (lv' := [(0, .ref m), (1, .ref u9), (2, .ref up9), (3, .ref dn9), (4, .int (gu 10)), (5, .ref (m + 276 + 2 * (g 1).toNatClampNeg)), (6, .ref (m + 276 + 2 * (g 1 + 1).toNatClampNeg)), (7, .ref (m + 276 + 2 * (g 1 + 1 + 1).toNatClampNeg)), (8, .int y8_27)]) (st' := [.ref m, .int y8_27, .ref dn9]) [(34, .aload_n 3), (35, .iload 8), (37, .aload_n 0)] (by decide +kernel) rfl ?_
      have hb23 := hb13.si (hsi19.tr hsiL27)
      refine zr_callV (idx := 74) (j := 263) (by decide +kernel) (by decide +kernel) (show zMe 263 = some zq_X16_newU from rfl) rfl rfl (Nat.le_of_ble_eq_true rfl) rfl rfl hxM (Nat.le_of_ble_eq_true rfl) (Nat.le_of_ble_eq_true rfl) (c_X16_newU (w := wL27) (g1 := xT) m hxM hb23 (by first | omega | decide | assumption | exact zr1_1 | exact zr1_0 | fail "num") rfl) (by omega) (fun v38 w38 hp38 => ?_)
      obtain ⟨hsi38, heq38, hp38_0, hp38_1, rfl⟩ := hp38
      have hM38 : w38 m = some (.inl (15, zMo m (zs g 1 (xT + 1)) r)) := hp38_0
      show zP _ _ _ _ [.ref (m + 276 + 2 * xT.toNatClampNeg), .int y8_27, .ref dn9] _ _ _ _ _
      have hb24 : w38 dn9 = some (.inr (4, 7, .inr fdw)) := (heq38 dn9 (by omega)).trans hVd
      obtain ⟨n25, f26, hu27, hu28, hu29, hu30, hu31⟩ := id hp38_1
      have kn25 := zrng n25
      refine zr_aast (by decide +kernel) hb24 hu27 (by decide) (zin (by first | omega | decide) (by first | omega | decide)) ?_
      show zP (d + 1) zq_X16_unroll 42 [(0, .ref m), (1, .ref u9), (2, .ref up9), (3, .ref dn9), (4, .int (gu 10)), (5, .ref (m + 276 + 2 * (g 1).toNatClampNeg)), (6, .ref (m + 276 + 2 * (g 1 + 1).toNatClampNeg)), (7, .ref (m + 276 + 2 * (g 1 + 1 + 1).toNatClampNeg)), (8, .int y8_27)] [] (zup w38 dn9 (.inr (4, 7, .inr (va_up fdw (y8_27.toNatClampNeg) (some (m + 276 + 2 * xT.toNatClampNeg)))))) sz 0 0 Post
      obtain ⟨w41, ew41⟩ : ∃ wz9, wz9 = zup w38 dn9 (.inr (4, 7, .inr (va_up fdw (y8_27.toNatClampNeg) (some (m + 276 + 2 * xT.toNatClampNeg))))) := ⟨_, rfl⟩
      have hsi41 : zSI w38 w41 := by rw [ew41]; exact zSI.refs _ hb24 (by decide)
      have heq41 : ∀ x, x ≠ dn9 → w41 x = w38 x := fun x hx => by rw [ew41]; exact zup_n hx
      have hc41 : w41 dn9 = some (.inr (4, 7, .inr (va_up fdw (y8_27.toNatClampNeg) (some (m + 276 + 2 * xT.toNatClampNeg))))) := by rw [ew41]; exact zup_s
      rw [← ew41]
      clear ew41
      obtain ⟨fr0, hfr1⟩ := hRo y8_27.toNatClampNeg (by omega) (by omega)
      have hfrN : ∀ x, x = up9 + 1 + y8_27.toNatClampNeg → w41 x = wL27 x := fun x hx => ((heq41 x (by omega)).trans (heq38 x (by omega)))
      have hfr0 := (hfrN _ rfl).trans hfr1
      refine zp_seg (pc' := 45) (lv' := [(9, .int 0), (0, .ref m), (1, .ref u9), (2, .ref up9), (3, .ref dn9), (4, .int (gu 10)), (5, .ref (m + 276 + 2 * (g 1).toNatClampNeg)), (6, .ref (m + 276 + 2 * (g 1 + 1).toNatClampNeg)), (7, .ref (m + 276 + 2 * (g 1 + 1 + 1).toNatClampNeg)), (8, .int y8_27)]) (st' := []) [(42, .iconst 0), (43, .istore 9)] (by decide +kernel) rfl ?_
      have hb32 : w41 m = some (.inl (15, zMo m (zs g 1 (xT + 1)) r)) := (heq41 m (zx_X16_unroll_5 hmd)).trans hM38
      have hL45 : ∀ (mm45 : Nat) (wL45 : zM) (y9_45 : Int32) (xJ : Int32) (fr : Nat → Option Nat), (zSI w41 wL45) → (∀ x, ((x < m ∨ m + 1 ≤ x) ∧ (x < up9 + 1 + y8_27.toNatClampNeg ∨ up9 + 1 + y8_27.toNatClampNeg + 1 ≤ x) ∧ (x < m + 276 + 2 * (xT + 1).toNatClampNeg ∨ m + 276 + 2 * (xT + 1).toNatClampNeg + (320 - 2 * (xT + 1).toNatClampNeg) ≤ x)) ∧ x ≠ m → wL45 x = w41 x) → (0 ≤ y9_45.toInt) → (y9_45.toInt ≤ (gu 10).toInt) → (wL45 m = some (.inl (15, zMo m (zs g 1 xJ) r))) → (wL45 (up9 + 1 + y8_27.toNatClampNeg) = some (.inr (4, 6, .inr fr))) → (xJ.toInt = xT.toInt + 1 + y9_45.toInt) → (∀ t, t < y9_45.toNatClampNeg → fr t = some (m + 276 + 2 * xT.toNatClampNeg + 2 + 2 * t)) → (∀ t, t < y9_45.toNatClampNeg → zU wL45 (m + 276 + 2 * xT.toNatClampNeg + 2 + 2 * t) 1000 zaZ) → (20 - y9_45.toInt).toNat < mm45 → zP (d + 1) zq_X16_unroll 45 [(0, .ref m), (1, .ref u9), (2, .ref up9), (3, .ref dn9), (4, .int (gu 10)), (5, .ref (m + 276 + 2 * (g 1).toNatClampNeg)), (6, .ref (m + 276 + 2 * (g 1 + 1).toNatClampNeg)), (7, .ref (m + 276 + 2 * (g 1 + 1 + 1).toNatClampNeg)), (8, .int y8_27), (9, .int y9_45)] [] wL45 sz 0 0 Post := by
        intro mm45
        induction mm45 with
        | zero => intros; omega
        | succ mm45 ih45 =>
        intro wL45 y9_45 xJ fr hsiL45 heqL45 hi45_0 hi45_1 hxJM hVr hxJ hfr hPz hmu45
        have ky9_45 := zrng y9_45
        have hz33 : (y9_45.toNatClampNeg : Int) = y9_45.toInt := znat (by first | omega | decide)
        refine zp_seg (pc' := 49) (lv' := [(0, .ref m), (1, .ref u9), (2, .ref up9), (3, .ref dn9), (4, .int (gu 10)), (5, .ref (m + 276 + 2 * (g 1).toNatClampNeg)), (6, .ref (m + 276 + 2 * (g 1 + 1).toNatClampNeg)), (7, .ref (m + 276 + 2 * (g 1 + 1 + 1).toNatClampNeg)), (8, .int y8_27), (9, .int y9_45)]) (st' := [.int (gu 10), .int y9_45]) [(45, .iload 9), (47, .iload 4)] (by decide +kernel) rfl ?_
        refine zp_if (i := .if_icmp .ge 20) (c := (gu 10) ≤ y9_45) (t := 69) (e := 52) (lv' := [(0, .ref m), (1, .ref u9), (2, .ref up9), (3, .ref dn9), (4, .int (gu 10)), (5, .ref (m + 276 + 2 * (g 1).toNatClampNeg)), (6, .ref (m + 276 + 2 * (g 1 + 1).toNatClampNeg)), (7, .ref (m + 276 + 2 * (g 1 + 1 + 1).toNatClampNeg)), (8, .int y8_27), (9, .int y9_45)]) (st' := []) (by decide +kernel) rfl (fun cc49 => ?_) (fun cc49 => ?_)
        ·
          have f34 := zleI cc49
          have k35 := zrng xJ
          have hz36 : (xJ.toNatClampNeg : Int) = xJ.toInt := znat (by first | omega | decide)
          refine zp_seg (pc' := 71) (lv' := [(0, .ref m), (1, .ref u9), (2, .ref up9), (3, .ref dn9), (4, .int (gu 10)), (5, .ref (m + 276 + 2 * (g 1).toNatClampNeg)), (6, .ref (m + 276 + 2 * (g 1 + 1).toNatClampNeg)), (7, .ref (m + 276 + 2 * (g 1 + 1 + 1).toNatClampNeg)), (8, .int y8_27), (9, .int y9_45)]) (st' := [.int y8_27]) [(69, .iload 8)] (by decide +kernel) rfl ?_
          refine zp_if (i := .ifCond .ne 22) (c := ¬ y8_27 = 0) (t := 93) (e := 74) (lv' := [(0, .ref m), (1, .ref u9), (2, .ref up9), (3, .ref dn9), (4, .int (gu 10)), (5, .ref (m + 276 + 2 * (g 1).toNatClampNeg)), (6, .ref (m + 276 + 2 * (g 1 + 1).toNatClampNeg)), (7, .ref (m + 276 + 2 * (g 1 + 1 + 1).toNatClampNeg)), (8, .int y8_27), (9, .int y9_45)]) (st' := []) (by decide +kernel) rfl (fun cc71 => ?_) (fun cc71 => ?_)
          ·
            have f38 := zneI cc71
            rw [show (0 : Int32).toInt = 0 from by decide] at f38
            have hi1 : 1 ≤ y8_27.toNatClampNeg := by omega
            have hEp9 := hEb (y8_27.toNatClampNeg - 1) (by omega)
            have hEp8 := hEp9.1
            have hEp7 := hEp9.2.1
            obtain ⟨fpA, hfpAa, hfpAb⟩ := hRw (y8_27.toNatClampNeg - 1) (by omega)
            have hfpAN : ∀ x, x = up9 + 1 + (y8_27.toNatClampNeg - 1) → wL45 x = wL27 x := fun x hx => ((heqL45 x (by omega)).trans ((heq41 x (by omega)).trans (heq38 x (by omega))))
            have hfpAc := (hfpAN _ rfl).trans hfpAa
            have hUd9 := (hDn (y8_27.toNatClampNeg - 1) (by omega)).1.ag (w' := wL45) (fun x g1 g2 => ((heqL45 x (by omega)).trans ((heq41 x (by omega)).trans (heq38 x (by omega)))))
            have hld8 := (hDn (y8_27.toNatClampNeg - 1) (by omega)).2
            refine zp_seg (pc' := 100) (lv' := [(0, .ref m), (1, .ref u9), (2, .ref up9), (3, .ref dn9), (4, .int (gu 10)), (5, .ref (m + 276 + 2 * (g 1).toNatClampNeg)), (6, .ref (m + 276 + 2 * (g 1 + 1).toNatClampNeg)), (7, .ref (m + 276 + 2 * (g 1 + 1 + 1).toNatClampNeg)), (8, .int y8_27), (9, .int y9_45)]) (st' := [.int (y8_27 - 1), .ref dn9, .ref (m + 276 + 2 * (g 1).toNatClampNeg)]) [(93, .aload 5), (95, .aload_n 3), (96, .iload 8), (98, .iconst 1), (99, .isub)] (by decide +kernel) rfl ?_
            have k39 := zsubC y8_27 1 (n := 1) (by decide) (by omega) (by omega)
            generalize ev100 : (y8_27 - 1 : Int32) = v100 at k39 ⊢
            have kv100 := zrng v100
            have hz40 : (v100.toNatClampNeg : Int) = v100.toInt := znat (by first | omega | decide)
            have hip9 : v100.toNatClampNeg = y8_27.toNatClampNeg - 1 := by omega
            have hb41 : wL45 dn9 = some (.inr (4, 7, .inr (va_up fdw (y8_27.toNatClampNeg) (some (m + 276 + 2 * xT.toNatClampNeg))))) := (heqL45 dn9 (by omega)).trans hc41
            refine zr_aald (v := .ref (Eb (y8_27.toNatClampNeg - 1))) (by decide +kernel) hb41 (by decide) (zin (by first | omega | decide) (by first | omega | decide)) (by rw [hip9, va_up_ne _ _ (by omega), (hEb _ (by omega)).2.2]; rfl) ?_
            refine zp_seg (pc' := 102) (lv' := [(0, .ref m), (1, .ref u9), (2, .ref up9), (3, .ref dn9), (4, .int (gu 10)), (5, .ref (m + 276 + 2 * (g 1).toNatClampNeg)), (6, .ref (m + 276 + 2 * (g 1 + 1).toNatClampNeg)), (7, .ref (m + 276 + 2 * (g 1 + 1 + 1).toNatClampNeg)), (8, .int y8_27), (9, .int y9_45)]) (st' := [.int 1, .ref (Eb (y8_27.toNatClampNeg - 1)), .ref (m + 276 + 2 * (g 1).toNatClampNeg)]) [(101, .iconst 1)] (by decide +kernel) rfl ?_
            have hb42 := hUo0.si ((hsi38.tr hsi41).tr hsiL45)
            refine zr_callS (idx := 116) (j := 273) (by decide +kernel) (by decide +kernel) (by decide) (show zMe 273 = some zq_X16_shift from rfl) rfl rfl (Nat.le_of_ble_eq_true rfl) rfl rfl (Nat.le_of_ble_eq_true rfl) (Nat.le_of_ble_eq_true rfl) (c_X16_shiftD (w := wL45) (m + 276 + 2 * (g 1).toNatClampNeg) (Eb (y8_27.toNatClampNeg - 1)) 1 hb42 hUd9 (by first | omega | decide | assumption | exact zr1_1 | exact zr1_0 | fail "num") (by first | omega | decide | assumption | exact zr1_1 | exact zr1_0 | fail "num") (by first | omega | decide | assumption | exact zr1_1 | exact zr1_0 | fail "num") (by first | omega | decide | assumption | exact zr1_1 | exact zr1_0 | fail "num")) (by omega) (fun v102 w102 hp102 => ?_)
            obtain ⟨P9_102, hsi102, heq102, hp102_0, hp102_1, rfl⟩ := hp102
            show zP _ _ _ _ [] _ _ _ _ _
            refine zp_seg (pc' := 108) (lv' := [(0, .ref m), (1, .ref u9), (2, .ref up9), (3, .ref dn9), (4, .int (gu 10)), (5, .ref (m + 276 + 2 * (g 1).toNatClampNeg)), (6, .ref (m + 276 + 2 * (g 1 + 1).toNatClampNeg)), (7, .ref (m + 276 + 2 * (g 1 + 1 + 1).toNatClampNeg)), (8, .int y8_27), (9, .int y9_45)]) (st' := [.ref u9, .ref (m + 276 + 2 * (g 1 + 1).toNatClampNeg)]) [(105, .aload 6), (107, .aload_n 1)] (by decide +kernel) rfl ?_
            have hb43 : w102 u9 = some (.inl (13, zTo u9 gu)) := ((heq102 u9 (zx_X16_unroll_7 hmu hgb1)).trans ((heqL45 u9 (by omega)).trans ((heq41 u9 (zx_X16_unroll_14 hmu hmd)).trans ((heq38 u9 (by omega)).trans ((heqL27 u9 ⟨⟨(zx_X16_unroll_6 hmu), (zx_X16_unroll_10 hmu hmw), (zx_X16_unroll_11 hmu hmd), (zx_X16_unroll_12 hmu hgb1)⟩, (zx_X16_unroll_13 hmu)⟩).trans ((heq19 u9 ⟨(zx_X16_unroll_6 hmu), (zx_X16_unroll_9 hmu hgn1_2 hgb1)⟩).trans ((heq13 u9 ⟨(zx_X16_unroll_6 hmu), (zx_X16_unroll_8 hmu hgn1_1 hgb1)⟩).trans (heq7 u9 ⟨(zx_X16_unroll_6 hmu), (zx_X16_unroll_7 hmu hgb1)⟩)))))))).trans hT_u9
            refine zr_get (idx := 237) (k := 11) (v := .ref (u9 + 7)) (by decide +kernel) (by decide +kernel) hb43 rfl ?_
            refine zp_seg (pc' := 116) (lv' := [(0, .ref m), (1, .ref u9), (2, .ref up9), (3, .ref dn9), (4, .int (gu 10)), (5, .ref (m + 276 + 2 * (g 1).toNatClampNeg)), (6, .ref (m + 276 + 2 * (g 1 + 1).toNatClampNeg)), (7, .ref (m + 276 + 2 * (g 1 + 1 + 1).toNatClampNeg)), (8, .int y8_27), (9, .int y9_45)]) (st' := [.int (25 * (gu 10)), .ref (u9 + 7), .ref (m + 276 + 2 * (g 1 + 1).toNatClampNeg)]) [(111, .bipush 25), (113, .iload 4), (115, .imul)] (by decide +kernel) rfl ?_
            have k44 := zmulCl 25 ((gu 10)) (n := 25) (by decide) (by omega) (by omega)
            generalize ev116 : (25 * (gu 10) : Int32) = v116 at k44 ⊢
            have kv116 := zrng v116
            have hix8 : v116.toNatClampNeg = 25 * (gu 10).toNatClampNeg := by
              have h9 := znat (x := v116) (by omega)
              omega
            have hq70 : 0 < zln (zaOf (fun i => zf (fu (v116.toNatClampNeg + i))) 25) ∧ zln (zaOf (fun i => zf (fu (v116.toNatClampNeg + i))) 25) ≤ 7 := by rw [hix8]; exact ⟨hld, hdg _ (Nat.le_refl _)⟩
            have hb45 := hUo1.si (((hsi38.tr hsi41).tr hsiL45).tr hsi102)
            have hb46 : w102 (u9 + 7) = some (.inr (0, 175, .inl fu)) := ((heq102 (u9 + 7) (zx_X16_unroll_16 hmu hgb1)).trans ((heqL45 (u9 + 7) (by omega)).trans ((heq41 (u9 + 7) (zx_X16_unroll_23 hmu hmd)).trans ((heq38 (u9 + 7) (by omega)).trans ((heqL27 (u9 + 7) ⟨⟨(zx_X16_unroll_15 hmu), (zx_X16_unroll_19 hmu hmw), (zx_X16_unroll_20 hmu hmd), (zx_X16_unroll_21 hmu hgb1)⟩, (zx_X16_unroll_22 hmu)⟩).trans ((heq19 (u9 + 7) ⟨(zx_X16_unroll_15 hmu), (zx_X16_unroll_18 hmu hgn1_2 hgb1)⟩).trans ((heq13 (u9 + 7) ⟨(zx_X16_unroll_15 hmu), (zx_X16_unroll_17 hmu hgn1_1 hgb1)⟩).trans (heq7 (u9 + 7) ⟨(zx_X16_unroll_15 hmu), (zx_X16_unroll_16 hmu hgb1)⟩)))))))).trans hA_u9_7
            refine zr_callS (idx := 775) (j := 301) (by decide +kernel) (by decide +kernel) (by decide) (show zMe 301 = some zq_X16_load_ from rfl) rfl rfl (Nat.le_of_ble_eq_true rfl) rfl rfl (Nat.le_of_ble_eq_true rfl) (Nat.le_of_ble_eq_true rfl) (c_X16_load_ (w := w102) (m + 276 + 2 * (g 1 + 1).toNatClampNeg) (u9 + 7) v116 hb45 hb46 (by first | omega | decide | assumption | exact zr1_1 | exact zr1_0 | fail "num") (by first | omega | decide | assumption | exact zr1_1 | exact zr1_0 | fail "num") (by rw [hix8]; exact fun i hi => hfu _ (by omega)) (by first | omega | decide | assumption | exact zr1_1 | exact zr1_0 | fail "num")) (by omega) (fun v116 w116 hp116 => ?_)
            obtain ⟨hsi116, heq116, hp116_0, rfl⟩ := hp116
            show zP _ _ _ _ [] _ _ _ _ _
            obtain ⟨QQ, hQQ⟩ : ∃ Q, Q = (zaOf (fun i => zf (fu (v116.toNatClampNeg + i))) 25) := ⟨_, rfl⟩
            have hUq9 := hp116_0
            rw [← hQQ] at hUq9 hq70
            have hdm9 := zln_M (p := P9_102) (q := QQ) (by omega) hq70.1
            refine zp_seg (pc' := 122) (lv' := [(0, .ref m), (1, .ref u9), (2, .ref up9), (3, .ref dn9), (4, .int (gu 10)), (5, .ref (m + 276 + 2 * (g 1).toNatClampNeg)), (6, .ref (m + 276 + 2 * (g 1 + 1).toNatClampNeg)), (7, .ref (m + 276 + 2 * (g 1 + 1 + 1).toNatClampNeg)), (8, .int y8_27), (9, .int y9_45)]) (st' := [.int y8_27, .ref dn9]) [(119, .aload_n 3), (120, .iload 8)] (by decide +kernel) rfl ?_
            have hb47 : w116 dn9 = some (.inr (4, 7, .inr (va_up fdw (y8_27.toNatClampNeg) (some (m + 276 + 2 * xT.toNatClampNeg))))) := ((heq116 dn9 (zx_X16_unroll_25 hmd hgn1_1 hgb1)).trans (heq102 dn9 (zx_X16_unroll_24 hmd hgb1))).trans hb41
            refine zr_aald (v := .ref (m + 276 + 2 * xT.toNatClampNeg)) (by decide +kernel) hb47 (by decide) (zin (by first | omega | decide) (by first | omega | decide)) (by rw [va_up_self]; rfl) ?_
            refine zp_seg (pc' := 127) (lv' := [(0, .ref m), (1, .ref u9), (2, .ref up9), (3, .ref dn9), (4, .int (gu 10)), (5, .ref (m + 276 + 2 * (g 1).toNatClampNeg)), (6, .ref (m + 276 + 2 * (g 1 + 1).toNatClampNeg)), (7, .ref (m + 276 + 2 * (g 1 + 1 + 1).toNatClampNeg)), (8, .int y8_27), (9, .int y9_45)]) (st' := [.ref (m + 276 + 2 * (g 1 + 1).toNatClampNeg), .ref (m + 276 + 2 * (g 1).toNatClampNeg), .ref (m + 276 + 2 * xT.toNatClampNeg)]) [(123, .aload 5), (125, .aload 6)] (by decide +kernel) rfl ?_
            have hb48 : zU w116 (m + 276 + 2 * xT.toNatClampNeg) 1000 zaZ := hp38_1.ag (fun x hx1 hx2 => ((heq116 x (by omega)).trans ((heq102 x (by omega)).trans ((heqL45 x (by omega)).trans (heq41 x (by omega))))))
            have ho127_to := zU.o hb48
            have hb49 : zU w116 (m + 276 + 2 * (g 1).toNatClampNeg) 1000 P9_102 := hp102_0.ag (fun x hx1 hx2 => (heq116 x (zx_X16_unroll_26 hx1 hx2 hgn1_1 hgb1)))
            refine zr_callS (idx := 106) (j := 267) (by decide +kernel) (by decide +kernel) (by decide) (show zMe 267 = some zq_X16_times from rfl) rfl rfl (Nat.le_of_ble_eq_true rfl) rfl rfl (Nat.le_of_ble_eq_true rfl) (Nat.le_of_ble_eq_true rfl) (c_X16_times (w := w116) (m + 276 + 2 * xT.toNatClampNeg) (m + 276 + 2 * (g 1).toNatClampNeg) (m + 276 + 2 * (g 1 + 1).toNatClampNeg) ho127_to hb49 hUq9 (by first | omega | decide | assumption | exact zr1_1 | exact zr1_0 | fail "num") (by first | omega | decide | assumption | exact zr1_1 | exact zr1_0 | fail "num") (by first | omega | decide | assumption | exact zr1_1 | exact zr1_0 | fail "num") (by first | omega | decide | assumption | exact zr1_1 | exact zr1_0 | fail "num")) (by omega) (fun v127 w127 hp127 => ?_)
            obtain ⟨hsi127, heq127, hp127_0, rfl⟩ := hp127
            show zP _ _ _ _ [] _ _ _ _ _
            refine zp_seg (pc' := 137) (lv' := [(0, .ref m), (1, .ref u9), (2, .ref up9), (3, .ref dn9), (4, .int (gu 10)), (5, .ref (m + 276 + 2 * (g 1).toNatClampNeg)), (6, .ref (m + 276 + 2 * (g 1 + 1).toNatClampNeg)), (7, .ref (m + 276 + 2 * (g 1 + 1 + 1).toNatClampNeg)), (8, .int y8_27), (9, .int y9_45)]) (st' := [.int (y8_27 - 1), .ref up9, .ref (m + 276 + 2 * (g 1 + 1 + 1).toNatClampNeg)]) [(130, .aload 7), (132, .aload_n 2), (133, .iload 8), (135, .iconst 1), (136, .isub)] (by decide +kernel) rfl ?_
            have k50 := zsubC y8_27 1 (n := 1) (by decide) (by omega) (by omega)
            generalize ev137 : (y8_27 - 1 : Int32) = v137 at k50 ⊢
            have kv137 := zrng v137
            have hz51 : (v137.toNatClampNeg : Int) = v137.toInt := znat (by first | omega | decide)
            have hip8 : v137.toNatClampNeg = y8_27.toNatClampNeg - 1 := by omega
            have hb52 : w127 up9 = some (.inr (8, 7, .inr fw)) := ((heq127 up9 (by omega)).trans ((heq116 up9 (zx_X16_unroll_29 hmw hgn1_1 hgb1)).trans ((heq102 up9 (zx_X16_unroll_28 hmw hgb1)).trans ((heqL45 up9 (by omega)).trans ((heq41 up9 (zx_X16_unroll_35 hmw hmd)).trans ((heq38 up9 (by omega)).trans ((heqL27 up9 ⟨⟨(zx_X16_unroll_27 hmw), (zx_X16_unroll_31 hmw), (zx_X16_unroll_32 hmw hmd), (zx_X16_unroll_33 hmw hgb1)⟩, (zx_X16_unroll_34 hmw)⟩).trans ((heq19 up9 ⟨(zx_X16_unroll_27 hmw), (zx_X16_unroll_30 hmw hgn1_2 hgb1)⟩).trans ((heq13 up9 ⟨(zx_X16_unroll_27 hmw), (zx_X16_unroll_29 hmw hgn1_1 hgb1)⟩).trans (heq7 up9 ⟨(zx_X16_unroll_27 hmw), (zx_X16_unroll_28 hmw hgb1)⟩)))))))))).trans hV_up9
            refine zr_aald (v := .ref (up9 + 1 + (y8_27.toNatClampNeg - 1))) (by decide +kernel) hb52 (by decide) (zin (by first | omega | decide) (by first | omega | decide)) (by rw [hip8, hfw _ (by omega)]; rfl) ?_
            refine zp_seg (pc' := 142) (lv' := [(0, .ref m), (1, .ref u9), (2, .ref up9), (3, .ref dn9), (4, .int (gu 10)), (5, .ref (m + 276 + 2 * (g 1).toNatClampNeg)), (6, .ref (m + 276 + 2 * (g 1 + 1).toNatClampNeg)), (7, .ref (m + 276 + 2 * (g 1 + 1 + 1).toNatClampNeg)), (8, .int y8_27), (9, .int y9_45)]) (st' := [.int ((gu 10) - 1), .ref (up9 + 1 + (y8_27.toNatClampNeg - 1)), .ref (m + 276 + 2 * (g 1 + 1 + 1).toNatClampNeg)]) [(138, .iload 4), (140, .iconst 1), (141, .isub)] (by decide +kernel) rfl ?_
            have k53 := zsubC ((gu 10)) 1 (n := 1) (by decide) (by omega) (by omega)
            generalize ev142 : ((gu 10) - 1 : Int32) = v142 at k53 ⊢
            have kv142 := zrng v142
            have hz54 : (v142.toNatClampNeg : Int) = v142.toInt := znat (by first | omega | decide)
            have hir9 : v142.toNatClampNeg = (gu 10).toNatClampNeg - 1 := by omega
            have hUs9 := (hUp (y8_27.toNatClampNeg - 1) (by omega) ((gu 10).toNatClampNeg - 1) (by omega)).1.ag (w' := w127) (fun x g1 g2 => ((heq127 x (by omega)).trans ((heq116 x (by omega)).trans ((heq102 x (by omega)).trans ((heqL45 x (by omega)).trans ((heq41 x (by omega)).trans (heq38 x (by omega))))))))
            have hls8 := (hUp (y8_27.toNatClampNeg - 1) (by omega) ((gu 10).toNatClampNeg - 1) (by omega)).2
            have hb55 : w127 (up9 + 1 + (y8_27.toNatClampNeg - 1)) = some (.inr (4, 6, .inr fpA)) := ((heq127 (up9 + 1 + (y8_27.toNatClampNeg - 1)) (by omega)).trans ((heq116 (up9 + 1 + (y8_27.toNatClampNeg - 1)) (by omega)).trans (heq102 (up9 + 1 + (y8_27.toNatClampNeg - 1)) (by omega)))).trans hfpAc
            refine zr_aald (v := .ref (Eb (y8_27.toNatClampNeg - 1) + 2 + 2 * ((gu 10).toNatClampNeg - 1))) (by decide +kernel) hb55 (by decide) (zin (by first | omega | decide) (by first | omega | decide)) (by rw [hir9, hfpAb _ (by omega)]; rfl) ?_
            refine zp_seg (pc' := 144) (lv' := [(0, .ref m), (1, .ref u9), (2, .ref up9), (3, .ref dn9), (4, .int (gu 10)), (5, .ref (m + 276 + 2 * (g 1).toNatClampNeg)), (6, .ref (m + 276 + 2 * (g 1 + 1).toNatClampNeg)), (7, .ref (m + 276 + 2 * (g 1 + 1 + 1).toNatClampNeg)), (8, .int y8_27), (9, .int y9_45)]) (st' := [.int 1, .ref (Eb (y8_27.toNatClampNeg - 1) + 2 + 2 * ((gu 10).toNatClampNeg - 1)), .ref (m + 276 + 2 * (g 1 + 1 + 1).toNatClampNeg)]) [(143, .iconst 1)] (by decide +kernel) rfl ?_
            have hb56 := hUo2.si (((((hsi38.tr hsi41).tr hsiL45).tr hsi102).tr hsi116).tr hsi127)
            refine zr_callS (idx := 116) (j := 273) (by decide +kernel) (by decide +kernel) (by decide) (show zMe 273 = some zq_X16_shift from rfl) rfl rfl (Nat.le_of_ble_eq_true rfl) rfl rfl (Nat.le_of_ble_eq_true rfl) (Nat.le_of_ble_eq_true rfl) (c_X16_shiftD (w := w127) (m + 276 + 2 * (g 1 + 1 + 1).toNatClampNeg) (Eb (y8_27.toNatClampNeg - 1) + 2 + 2 * ((gu 10).toNatClampNeg - 1)) 1 hb56 hUs9 (by first | omega | decide | assumption | exact zr1_1 | exact zr1_0 | fail "num") (by first | omega | decide | assumption | exact zr1_1 | exact zr1_0 | fail "num") (by first | omega | decide | assumption | exact zr1_1 | exact zr1_0 | fail "num") (by first | omega | decide | assumption | exact zr1_1 | exact zr1_0 | fail "num")) (by omega) (fun v144 w144 hp144 => ?_)
            obtain ⟨P9_144, hsi144, heq144, hp144_0, hp144_1, rfl⟩ := hp144
            show zP _ _ _ _ [] _ _ _ _ _
            refine zp_seg (pc' := 150) (lv' := [(9, .int 0), (0, .ref m), (1, .ref u9), (2, .ref up9), (3, .ref dn9), (4, .int (gu 10)), (5, .ref (m + 276 + 2 * (g 1).toNatClampNeg)), (6, .ref (m + 276 + 2 * (g 1 + 1).toNatClampNeg)), (7, .ref (m + 276 + 2 * (g 1 + 1 + 1).toNatClampNeg)), (8, .int y8_27)]) (st' := []) [(147, .iconst 0), (148, .istore 9)] (by decide +kernel) rfl ?_
            have hb57 : w144 m = some (.inl (15, zMo m (zs g 1 xJ) r)) := ((heq144 m (zx_X16_unroll_38 hgn1_2 hgb1)).trans ((heq127 m (by omega)).trans ((heq116 m (zx_X16_unroll_37 hgn1_1 hgb1)).trans (heq102 m (zx_X16_unroll_36 hgb1))))).trans hxJM
            have hL150 : ∀ (mm150 : Nat) (wL150 : zM) (y9_150 : Int32) (xM : Int32) (Uf : Nat → zA1), (zSI w144 wL150) → (∀ x, ((x < m ∨ m + 1 ≤ x) ∧ (x < m + 276 + 2 * (g 1).toNatClampNeg ∨ m + 276 + 2 * (g 1).toNatClampNeg + 2 ≤ x) ∧ (x < m + 276 + 2 * xT.toNatClampNeg + 2 ∨ m + 276 + 2 * xT.toNatClampNeg + 2 + (2 * (gu 10).toNatClampNeg) ≤ x) ∧ (x < m + 276 + 2 * xJ.toNatClampNeg ∨ m + 276 + 2 * xJ.toNatClampNeg + (320 - 2 * xJ.toNatClampNeg) ≤ x)) ∧ x ≠ m → wL150 x = w144 x) → (0 ≤ y9_150.toInt) → (y9_150.toInt ≤ (gu 10).toInt) → (wL150 m = some (.inl (15, zMo m (zs g 1 xM) r))) → (zUo wL150 (m + 276 + 2 * (g 1).toNatClampNeg) 1000) → (xM.toInt = xJ.toInt) → (∀ t, t < (gu 10).toNatClampNeg → zU wL150 (m + 276 + 2 * xT.toNatClampNeg + 2 + 2 * t) 1000 (Uf t) ∧ zln (Uf t) ≤ 6 * y8_27.toNatClampNeg + 1) → (20 - y9_150.toInt).toNat < mm150 → zP (d + 1) zq_X16_unroll 150 [(0, .ref m), (1, .ref u9), (2, .ref up9), (3, .ref dn9), (4, .int (gu 10)), (5, .ref (m + 276 + 2 * (g 1).toNatClampNeg)), (6, .ref (m + 276 + 2 * (g 1 + 1).toNatClampNeg)), (7, .ref (m + 276 + 2 * (g 1 + 1 + 1).toNatClampNeg)), (8, .int y8_27), (9, .int y9_150)] [] wL150 sz 0 0 Post := by
              intro mm150
              induction mm150 with
              | zero => intros; omega
              | succ mm150 ih150 =>
              intro wL150 y9_150 xM Uf hsiL150 heqL150 hi150_0 hi150_1 hxMM hUoj hxM9 hUf hmu150
              have ky9_150 := zrng y9_150
              have hz58 : (y9_150.toNatClampNeg : Int) = y9_150.toInt := znat (by first | omega | decide)
              refine zp_seg (pc' := 154) (lv' := [(0, .ref m), (1, .ref u9), (2, .ref up9), (3, .ref dn9), (4, .int (gu 10)), (5, .ref (m + 276 + 2 * (g 1).toNatClampNeg)), (6, .ref (m + 276 + 2 * (g 1 + 1).toNatClampNeg)), (7, .ref (m + 276 + 2 * (g 1 + 1 + 1).toNatClampNeg)), (8, .int y8_27), (9, .int y9_150)]) (st' := [.int (gu 10), .int y9_150]) [(150, .iload 9), (152, .iload 4)] (by decide +kernel) rfl ?_
              refine zp_if (i := .if_icmp .ge 130) (c := (gu 10) ≤ y9_150) (t := 284) (e := 157) (lv' := [(0, .ref m), (1, .ref u9), (2, .ref up9), (3, .ref dn9), (4, .int (gu 10)), (5, .ref (m + 276 + 2 * (g 1).toNatClampNeg)), (6, .ref (m + 276 + 2 * (g 1 + 1).toNatClampNeg)), (7, .ref (m + 276 + 2 * (g 1 + 1 + 1).toNatClampNeg)), (8, .int y8_27), (9, .int y9_150)]) (st' := []) (by decide +kernel) rfl (fun cc154 => ?_) (fun cc154 => ?_)
              ·
                have f59 := zleI cc154
                refine zp_seg (pc' := 288) (lv' := [(0, .ref m), (1, .ref u9), (2, .ref up9), (3, .ref dn9), (4, .int (gu 10)), (5, .ref (m + 276 + 2 * (g 1).toNatClampNeg)), (6, .ref (m + 276 + 2 * (g 1 + 1).toNatClampNeg)), (7, .ref (m + 276 + 2 * (g 1 + 1 + 1).toNatClampNeg)), (8, .int y8_27), (9, .int y9_150)]) (st' := [.int y8_27, .ref up9, .ref m]) [(284, .aload_n 0), (285, .aload_n 2), (286, .iload 8)] (by decide +kernel) rfl ?_
                have hb60 : wL150 up9 = some (.inr (8, 7, .inr fw)) := ((heqL150 up9 (by omega)).trans (heq144 up9 (zx_X16_unroll_30 hmw hgn1_2 hgb1))).trans hb52
                refine zr_aald (v := .ref (up9 + 1 + y8_27.toNatClampNeg)) (by decide +kernel) hb60 (by decide) (zin (by first | omega | decide) (by first | omega | decide)) (by rw [hfw _ (by omega)]; rfl) ?_
                refine zp_seg (pc' := 292) (lv' := [(0, .ref m), (1, .ref u9), (2, .ref up9), (3, .ref dn9), (4, .int (gu 10)), (5, .ref (m + 276 + 2 * (g 1).toNatClampNeg)), (6, .ref (m + 276 + 2 * (g 1 + 1).toNatClampNeg)), (7, .ref (m + 276 + 2 * (g 1 + 1 + 1).toNatClampNeg)), (8, .int y8_27), (9, .int y9_150)]) (st' := [.int y8_27, .ref dn9, .ref (up9 + 1 + y8_27.toNatClampNeg), .ref m]) [(289, .aload_n 3), (290, .iload 8)] (by decide +kernel) rfl ?_
                have hb61 : wL150 dn9 = some (.inr (4, 7, .inr (va_up fdw (y8_27.toNatClampNeg) (some (m + 276 + 2 * xT.toNatClampNeg))))) := ((heqL150 dn9 (by omega)).trans ((heq144 dn9 (zx_X16_unroll_39 hmd hgn1_2 hgb1)).trans (heq127 dn9 (by omega)))).trans hb47
                refine zr_aald (v := .ref (m + 276 + 2 * xT.toNatClampNeg)) (by decide +kernel) hb61 (by decide) (zin (by first | omega | decide) (by first | omega | decide)) (by rw [va_up_self]; rfl) ?_
                refine zp_seg (pc' := 295) (lv' := [(0, .ref m), (1, .ref u9), (2, .ref up9), (3, .ref dn9), (4, .int (gu 10)), (5, .ref (m + 276 + 2 * (g 1).toNatClampNeg)), (6, .ref (m + 276 + 2 * (g 1 + 1).toNatClampNeg)), (7, .ref (m + 276 + 2 * (g 1 + 1 + 1).toNatClampNeg)), (8, .int y8_27), (9, .int y9_150)]) (st' := [.int (gu 10), .ref (m + 276 + 2 * xT.toNatClampNeg), .ref (up9 + 1 + y8_27.toNatClampNeg), .ref m]) [(293, .iload 4)] (by decide +kernel) rfl ?_
                have k62 := zrng xM
                have hz63 : (xM.toNatClampNeg : Int) = xM.toInt := znat (by first | omega | decide)
                have hb64 := hb23.si (((((((hsi38.tr hsi41).tr hsiL45).tr hsi102).tr hsi116).tr hsi127).tr hsi144).tr hsiL150)
                have hb65 : wL150 (up9 + 1 + y8_27.toNatClampNeg) = some (.inr (4, 6, .inr fr)) := ((heqL150 (up9 + 1 + y8_27.toNatClampNeg) (by omega)).trans ((heq144 (up9 + 1 + y8_27.toNatClampNeg) (by omega)).trans ((heq127 (up9 + 1 + y8_27.toNatClampNeg) (by omega)).trans ((heq116 (up9 + 1 + y8_27.toNatClampNeg) (by omega)).trans (heq102 (up9 + 1 + y8_27.toNatClampNeg) (by omega)))))).trans hVr
                have hb66 : zU wL150 (m + 276 + 2 * xT.toNatClampNeg) 1000 (zaM P9_102 QQ) := hp127_0.ag (fun x hx1 hx2 => ((heqL150 x (by omega)).trans (heq144 x (by omega))))
                refine zr_callV (idx := 787) (j := 410) (by decide +kernel) (by decide +kernel) (show zMe 410 = some zq_X16_lighten from rfl) rfl rfl (Nat.le_of_ble_eq_true rfl) rfl rfl hxMM (Nat.le_of_ble_eq_true rfl) (Nat.le_of_ble_eq_true rfl) (c_X16_lighten (w := wL150) (g1 := xM) m (up9 + 1 + y8_27.toNatClampNeg) (m + 276 + 2 * xT.toNatClampNeg) (gu 10) (m + 276 + 2 * xT.toNatClampNeg + 2) Uf hxMM hb64 hb65 hb66 (by first | omega | decide | assumption | exact zr1_1 | exact zr1_0 | fail "num") (by first | omega | decide | assumption | exact zr1_1 | exact zr1_0 | fail "num") (by exact fun j hj => hfr j (by omega)) (by first | omega | decide | assumption | exact zr1_1 | exact zr1_0 | fail "num") (by first | omega | decide | assumption | exact zr1_1 | exact zr1_0 | fail "num") (by first | omega | decide | assumption | exact zr1_1 | exact zr1_0 | fail "num") (by first | omega | decide | assumption | exact zr1_1 | exact zr1_0 | fail "num") (by exact fun j hj => ⟨(hUf j hj).1, by have h9 := (hUf j hj).2; omega⟩) (by first | omega | decide | assumption | exact zr1_1 | exact zr1_0 | fail "num") rfl) (by omega) (fun v295 w295 hp295 => ?_)
                obtain ⟨D9_295, Qf_295, hsi295, heq295, hp295_0, hp295_1, hp295_2, hp295_3, rfl⟩ := hp295
                have hM295 : w295 m = some (.inl (15, zMo m (zs g 1 xM) r)) := hp295_0
                show zP _ _ _ _ [] _ _ _ _ _
                obtain ⟨Dq, hDq⟩ : ∃ D, zU w295 (m + 276 + 2 * xT.toNatClampNeg) 1000 D ∧ 0 < zln D ∧ zln D ≤ 6 * y8_27.toNatClampNeg + 1 := ⟨_, hp295_1, by omega, by omega⟩
                obtain ⟨Uq, hUq, hUq0⟩ : ∃ V : Nat → zA1, (∀ j, j < (gu 10).toNatClampNeg → zU w295 (m + 276 + 2 * xT.toNatClampNeg + 2 + 2 * j) 1000 (V j) ∧ zln (V j) ≤ 6 * y8_27.toNatClampNeg + 1) ∧ (y8_27.toNatClampNeg = 0 → 0 < zln (V 0)) := ⟨Qf_295, fun j hj => ⟨(hp295_3 j hj).1, Nat.le_trans (hp295_3 j hj).2 (hUf j hj).2⟩, fun e => absurd e (by omega)⟩
                refine zp_seg (pc' := 301) (lv' := [(8, .int (y8_27 + 1)), (0, .ref m), (1, .ref u9), (2, .ref up9), (3, .ref dn9), (4, .int (gu 10)), (5, .ref (m + 276 + 2 * (g 1).toNatClampNeg)), (6, .ref (m + 276 + 2 * (g 1 + 1).toNatClampNeg)), (7, .ref (m + 276 + 2 * (g 1 + 1 + 1).toNatClampNeg)), (9, .int y9_150)]) (st' := []) [(298, .iinc 8 1)] (by decide +kernel) rfl ?_
                have k67 := zaddC y8_27 1 (n := 1) (by decide) (by omega) (by omega)
                generalize ev301 : (y8_27 + 1 : Int32) = v301 at k67 ⊢
                have kv301 := zrng v301
                refine zp_seg (pc' := 27) (lv' := [(8, .int v301), (0, .ref m), (1, .ref u9), (2, .ref up9), (3, .ref dn9), (4, .int (gu 10)), (5, .ref (m + 276 + 2 * (g 1).toNatClampNeg)), (6, .ref (m + 276 + 2 * (g 1 + 1).toNatClampNeg)), (7, .ref (m + 276 + 2 * (g 1 + 1 + 1).toNatClampNeg)), (9, .int y9_150)]) (st' := []) [(301, .goto (-274))] (by decide +kernel) rfl ?_
                have hz68 : (v301.toNatClampNeg : Int) = v301.toInt := znat (by first | omega | decide)
                have hb69 : w295 dn9 = some (.inr (4, 7, .inr (va_up fdw (y8_27.toNatClampNeg) (some (m + 276 + 2 * xT.toNatClampNeg))))) := (heq295 dn9 (by omega)).trans hb61
                have hb70 := hUoj.si hsi295
                have hb71 := hb45.si ((((hsi116.tr hsi127).tr hsi144).tr hsiL150).tr hsi295)
                have hb72 := hb56.si ((hsi144.tr hsiL150).tr hsi295)
                have hb73 : w295 (up9 + 1 + y8_27.toNatClampNeg) = some (.inr (4, 6, .inr fr)) := (heq295 (up9 + 1 + y8_27.toNatClampNeg) (by omega)).trans hb65
                exact (ih27 w295 v301 (xM) (fun t => if t = y8_27.toNatClampNeg then m + 276 + 2 * xT.toNatClampNeg else Eb t) ((va_up fdw (y8_27.toNatClampNeg) (some (m + 276 + 2 * xT.toNatClampNeg)))) (fun t => if t = y8_27.toNatClampNeg then Dq else Dn t) (fun t => if t = y8_27.toNatClampNeg then Uq else Up t) (((((((((hsiL27.tr hsi38).tr hsi41).tr hsiL45).tr hsi102).tr hsi116).tr hsi127).tr hsi144).tr hsiL150).tr hsi295) (fun x hx => ((heq295 x (by omega)).trans ((heqL150 x (by omega)).trans ((heq144 x (zx_X16_unroll_2 hx.1.2.2.2 hgn1_2 hgb1)).trans ((heq127 x (by omega)).trans ((heq116 x (zx_X16_unroll_1 hx.1.2.2.2 hgn1_1 hgb1)).trans ((heq102 x (zx_X16_unroll_0 hx.1.2.2.2 hgb1)).trans ((heqL45 x (by omega)).trans ((heq41 x (zx_X16_unroll_40 hx.1.2.2.1 hmd)).trans ((heq38 x (by omega)).trans (heqL27 x ⟨⟨hx.1.1, hx.1.2.1, hx.1.2.2.1, hx.1.2.2.2⟩, hx.2⟩))))))))))) (by first | assumption | omega | decide) (by first | assumption | omega | decide) (by
                      exact hM295) hb69 hb70 hb71 hb72 (by
                      exact ⟨by omega, by omega⟩) (by
                      intro t ht
                      by_cases e : t = y8_27.toNatClampNeg
                      · simp only [if_pos e]
                        rw [e, va_up_self]
                        exact ⟨by omega, by omega, rfl⟩
                      · simp only [if_neg e]
                        rw [va_up_ne _ _ e]
                        have h9 := hEb t (by omega)
                        exact ⟨h9.1, Nat.le_trans h9.2.1 (by omega), h9.2.2⟩) (by
                      intro t ht
                      by_cases e : t = y8_27.toNatClampNeg
                      · simp only [if_pos e]
                        rw [e]
                        exact ⟨fr, hb73, fun j hj => hfr j (by omega)⟩
                      · simp only [if_neg e]
                        have hN : ∀ x, x = up9 + 1 + t → w295 x = wL27 x := fun x hx => ((heq295 x (by omega)).trans ((heqL150 x (by omega)).trans ((heq144 x (by omega)).trans ((heq127 x (by omega)).trans ((heq116 x (by omega)).trans ((heq102 x (by omega)).trans ((heqL45 x (by omega)).trans ((heq41 x (by omega)).trans (heq38 x (by omega))))))))))
                        obtain ⟨f, h1, h2⟩ := hRw t (by omega)
                        exact ⟨f, (hN _ rfl).trans h1, h2⟩) (by
                      intro t h1 h2
                      have hN : ∀ x, x = up9 + 1 + t → w295 x = wL27 x := fun x hx => ((heq295 x (by omega)).trans ((heqL150 x (by omega)).trans ((heq144 x (by omega)).trans ((heq127 x (by omega)).trans ((heq116 x (by omega)).trans ((heq102 x (by omega)).trans ((heqL45 x (by omega)).trans ((heq41 x (by omega)).trans (heq38 x (by omega))))))))))
                      obtain ⟨f, h3⟩ := hRo t (by omega) h2
                      exact ⟨f, (hN _ rfl).trans h3⟩) (by
                      intro t ht
                      by_cases e : t = y8_27.toNatClampNeg
                      · simp only [if_pos e]
                        rw [e]
                        exact hDq
                      · simp only [if_neg e]
                        have h8 := hEb t (by omega)
                        have h9 := hDn t (by omega)
                        exact ⟨h9.1.ag (fun x g1 g2 => ((heq295 x (by omega)).trans ((heqL150 x (by omega)).trans ((heq144 x (by omega)).trans ((heq127 x (by omega)).trans ((heq116 x (by omega)).trans ((heq102 x (by omega)).trans ((heqL45 x (by omega)).trans ((heq41 x (by omega)).trans (heq38 x (by omega))))))))))), h9.2⟩) (by
                      intro t ht j hj
                      by_cases e : t = y8_27.toNatClampNeg
                      · simp only [if_pos e]
                        rw [e]
                        exact hUq j hj
                      · simp only [if_neg e]
                        have h8 := hEb t (by omega)
                        have h9 := hUp t (by omega) j hj
                        exact ⟨h9.1.ag (fun x g1 g2 => ((heq295 x (by omega)).trans ((heqL150 x (by omega)).trans ((heq144 x (by omega)).trans ((heq127 x (by omega)).trans ((heq116 x (by omega)).trans ((heq102 x (by omega)).trans ((heqL45 x (by omega)).trans ((heq41 x (by omega)).trans (heq38 x (by omega))))))))))), h9.2⟩) (by
                      intro _
                      by_cases e : 0 = y8_27.toNatClampNeg
                      · simp only [if_pos e]; exact hUq0 e.symm
                      · simp only [if_neg e]; exact hZ0 (by omega)) (by omega)).more (zfa1 rfl (zfa1 rfl (zfa1 rfl (zfa1 rfl (zfa1 rfl (zfa1 rfl (zfa1 rfl (zfa1 rfl (zfa1 rfl (zfa0))))))))))
              ·
                have f74 := znleI cc154
                refine zp_seg (pc' := 160) (lv' := [(0, .ref m), (1, .ref u9), (2, .ref up9), (3, .ref dn9), (4, .int (gu 10)), (5, .ref (m + 276 + 2 * (g 1).toNatClampNeg)), (6, .ref (m + 276 + 2 * (g 1 + 1).toNatClampNeg)), (7, .ref (m + 276 + 2 * (g 1 + 1 + 1).toNatClampNeg)), (8, .int y8_27), (9, .int y9_150)]) (st' := [.ref u9, .ref (m + 276 + 2 * (g 1).toNatClampNeg)]) [(157, .aload 5), (159, .aload_n 1)] (by decide +kernel) rfl ?_
                have hb75 : wL150 u9 = some (.inl (13, zTo u9 gu)) := ((heqL150 u9 (by omega)).trans ((heq144 u9 (zx_X16_unroll_9 hmu hgn1_2 hgb1)).trans ((heq127 u9 (by omega)).trans (heq116 u9 (zx_X16_unroll_8 hmu hgn1_1 hgb1))))).trans hb43
                refine zr_get (idx := 237) (k := 11) (v := .ref (u9 + 7)) (by decide +kernel) (by decide +kernel) hb75 rfl ?_
                refine zp_seg (pc' := 168) (lv' := [(0, .ref m), (1, .ref u9), (2, .ref up9), (3, .ref dn9), (4, .int (gu 10)), (5, .ref (m + 276 + 2 * (g 1).toNatClampNeg)), (6, .ref (m + 276 + 2 * (g 1 + 1).toNatClampNeg)), (7, .ref (m + 276 + 2 * (g 1 + 1 + 1).toNatClampNeg)), (8, .int y8_27), (9, .int y9_150)]) (st' := [.int (25 * y9_150), .ref (u9 + 7), .ref (m + 276 + 2 * (g 1).toNatClampNeg)]) [(163, .bipush 25), (165, .iload 9), (167, .imul)] (by decide +kernel) rfl ?_
                have k76 := zmulCl 25 y9_150 (n := 25) (by decide) (by omega) (by omega)
                generalize ev168 : (25 * y9_150 : Int32) = v168 at k76 ⊢
                have kv168 := zrng v168
                have hix7 : v168.toNatClampNeg = 25 * y9_150.toNatClampNeg := by
                  have h9 := znat (x := v168) (by omega)
                  omega
                have hp70 : zln (zaOf (fun i => zf (fu (v168.toNatClampNeg + i))) 25) ≤ 7 := by rw [hix7]; exact hdg _ (by omega)
                have hb77 : wL150 (u9 + 7) = some (.inr (0, 175, .inl fu)) := ((heqL150 (u9 + 7) (by omega)).trans ((heq144 (u9 + 7) (zx_X16_unroll_18 hmu hgn1_2 hgb1)).trans ((heq127 (u9 + 7) (by omega)).trans (heq116 (u9 + 7) (zx_X16_unroll_17 hmu hgn1_1 hgb1))))).trans hb46
                refine zr_callS (idx := 775) (j := 301) (by decide +kernel) (by decide +kernel) (by decide) (show zMe 301 = some zq_X16_load_ from rfl) rfl rfl (Nat.le_of_ble_eq_true rfl) rfl rfl (Nat.le_of_ble_eq_true rfl) (Nat.le_of_ble_eq_true rfl) (c_X16_load_ (w := wL150) (m + 276 + 2 * (g 1).toNatClampNeg) (u9 + 7) v168 hUoj hb77 (by first | omega | decide | assumption | exact zr1_1 | exact zr1_0 | fail "num") (by first | omega | decide | assumption | exact zr1_1 | exact zr1_0 | fail "num") (by rw [hix7]; exact fun i hi => hfu _ (by omega)) (by first | omega | decide | assumption | exact zr1_1 | exact zr1_0 | fail "num")) (by omega) (fun v168 w168 hp168 => ?_)
                obtain ⟨hsi168, heq168, hp168_0, rfl⟩ := hp168
                show zP _ _ _ _ [] _ _ _ _ _
                obtain ⟨PP, hPP⟩ : ∃ Q, Q = (zaOf (fun i => zf (fu (v168.toNatClampNeg + i))) 25) := ⟨_, rfl⟩
                have hUp9 := hp168_0
                rw [← hPP] at hUp9 hp70
                have htm9 := zln_Mle P9_144 PP
                have hUj9 := (hUf y9_150.toNatClampNeg (by omega)).1.ag (w' := w168) (fun x g1 g2 => (heq168 x (by omega)))
                have htc9 := zln_CMle (zf (2147483646 : Int32)) (zaM P9_144 PP)
                refine zp_seg (pc' := 174) (lv' := [(0, .ref m), (1, .ref u9), (2, .ref up9), (3, .ref dn9), (4, .int (gu 10)), (5, .ref (m + 276 + 2 * (g 1).toNatClampNeg)), (6, .ref (m + 276 + 2 * (g 1 + 1).toNatClampNeg)), (7, .ref (m + 276 + 2 * (g 1 + 1 + 1).toNatClampNeg)), (8, .int y8_27), (9, .int y9_150)]) (st' := [.int y8_27, .ref up9]) [(171, .aload_n 2), (172, .iload 8)] (by decide +kernel) rfl ?_
                have hb78 : w168 up9 = some (.inr (8, 7, .inr fw)) := ((heq168 up9 (zx_X16_unroll_28 hmw hgb1)).trans ((heqL150 up9 (by omega)).trans (heq144 up9 (zx_X16_unroll_30 hmw hgn1_2 hgb1)))).trans hb52
                refine zr_aald (v := .ref (up9 + 1 + y8_27.toNatClampNeg)) (by decide +kernel) hb78 (by decide) (zin (by first | omega | decide) (by first | omega | decide)) (by rw [hfw _ (by omega)]; rfl) ?_
                refine zp_seg (pc' := 177) (lv' := [(0, .ref m), (1, .ref u9), (2, .ref up9), (3, .ref dn9), (4, .int (gu 10)), (5, .ref (m + 276 + 2 * (g 1).toNatClampNeg)), (6, .ref (m + 276 + 2 * (g 1 + 1).toNatClampNeg)), (7, .ref (m + 276 + 2 * (g 1 + 1 + 1).toNatClampNeg)), (8, .int y8_27), (9, .int y9_150)]) (st' := [.int y9_150, .ref (up9 + 1 + y8_27.toNatClampNeg)]) [(175, .iload 9)] (by decide +kernel) rfl ?_
                have hb79 : w168 (up9 + 1 + y8_27.toNatClampNeg) = some (.inr (4, 6, .inr fr)) := ((heq168 (up9 + 1 + y8_27.toNatClampNeg) (by omega)).trans ((heqL150 (up9 + 1 + y8_27.toNatClampNeg) (by omega)).trans ((heq144 (up9 + 1 + y8_27.toNatClampNeg) (by omega)).trans ((heq127 (up9 + 1 + y8_27.toNatClampNeg) (by omega)).trans ((heq116 (up9 + 1 + y8_27.toNatClampNeg) (by omega)).trans (heq102 (up9 + 1 + y8_27.toNatClampNeg) (by omega))))))).trans hVr
                refine zr_aald (v := .ref (m + 276 + 2 * xT.toNatClampNeg + 2 + 2 * y9_150.toNatClampNeg)) (by decide +kernel) hb79 (by decide) (zin (by first | omega | decide) (by first | omega | decide)) (by rw [hfr _ (by omega)]; rfl) ?_
                refine zp_seg (pc' := 182) (lv' := [(0, .ref m), (1, .ref u9), (2, .ref up9), (3, .ref dn9), (4, .int (gu 10)), (5, .ref (m + 276 + 2 * (g 1).toNatClampNeg)), (6, .ref (m + 276 + 2 * (g 1 + 1).toNatClampNeg)), (7, .ref (m + 276 + 2 * (g 1 + 1 + 1).toNatClampNeg)), (8, .int y8_27), (9, .int y9_150)]) (st' := [.ref (m + 276 + 2 * (g 1).toNatClampNeg), .ref (m + 276 + 2 * (g 1 + 1 + 1).toNatClampNeg), .ref (m + 276 + 2 * xT.toNatClampNeg + 2 + 2 * y9_150.toNatClampNeg)]) [(178, .aload 7), (180, .aload 5)] (by decide +kernel) rfl ?_
                have ho182_to := zU.o hUj9
                have hb80 : zU w168 (m + 276 + 2 * (g 1 + 1 + 1).toNatClampNeg) 1000 P9_144 := hp144_0.ag (fun x hx1 hx2 => ((heq168 x (zx_X16_unroll_42 hx1 hx2 hgn1_2 hgb1)).trans (heqL150 x (by omega))))
                refine zr_callS (idx := 106) (j := 267) (by decide +kernel) (by decide +kernel) (by decide) (show zMe 267 = some zq_X16_times from rfl) rfl rfl (Nat.le_of_ble_eq_true rfl) rfl rfl (Nat.le_of_ble_eq_true rfl) (Nat.le_of_ble_eq_true rfl) (c_X16_times (w := w168) (m + 276 + 2 * xT.toNatClampNeg + 2 + 2 * y9_150.toNatClampNeg) (m + 276 + 2 * (g 1 + 1 + 1).toNatClampNeg) (m + 276 + 2 * (g 1).toNatClampNeg) ho182_to hb80 hUp9 (by first | omega | decide | assumption | exact zr1_1 | exact zr1_0 | fail "num") (by first | omega | decide | assumption | exact zr1_1 | exact zr1_0 | fail "num") (by first | omega | decide | assumption | exact zr1_1 | exact zr1_0 | fail "num") (by first | omega | decide | assumption | exact zr1_1 | exact zr1_0 | fail "num")) (by omega) (fun v182 w182 hp182 => ?_)
                obtain ⟨hsi182, heq182, hp182_0, rfl⟩ := hp182
                show zP _ _ _ _ [] _ _ _ _ _
                refine zp_seg (pc' := 188) (lv' := [(0, .ref m), (1, .ref u9), (2, .ref up9), (3, .ref dn9), (4, .int (gu 10)), (5, .ref (m + 276 + 2 * (g 1).toNatClampNeg)), (6, .ref (m + 276 + 2 * (g 1 + 1).toNatClampNeg)), (7, .ref (m + 276 + 2 * (g 1 + 1 + 1).toNatClampNeg)), (8, .int y8_27), (9, .int y9_150)]) (st' := [.int y8_27, .ref up9]) [(185, .aload_n 2), (186, .iload 8)] (by decide +kernel) rfl ?_
                have hb81 : w182 up9 = some (.inr (8, 7, .inr fw)) := (heq182 up9 (by omega)).trans hb78
                refine zr_aald (v := .ref (up9 + 1 + y8_27.toNatClampNeg)) (by decide +kernel) hb81 (by decide) (zin (by first | omega | decide) (by first | omega | decide)) (by rw [hfw _ (by omega)]; rfl) ?_
                refine zp_seg (pc' := 191) (lv' := [(0, .ref m), (1, .ref u9), (2, .ref up9), (3, .ref dn9), (4, .int (gu 10)), (5, .ref (m + 276 + 2 * (g 1).toNatClampNeg)), (6, .ref (m + 276 + 2 * (g 1 + 1).toNatClampNeg)), (7, .ref (m + 276 + 2 * (g 1 + 1 + 1).toNatClampNeg)), (8, .int y8_27), (9, .int y9_150)]) (st' := [.int y9_150, .ref (up9 + 1 + y8_27.toNatClampNeg)]) [(189, .iload 9)] (by decide +kernel) rfl ?_
                have hb82 : w182 (up9 + 1 + y8_27.toNatClampNeg) = some (.inr (4, 6, .inr fr)) := (heq182 (up9 + 1 + y8_27.toNatClampNeg) (by omega)).trans hb79
                refine zr_aald (v := .ref (m + 276 + 2 * xT.toNatClampNeg + 2 + 2 * y9_150.toNatClampNeg)) (by decide +kernel) hb82 (by decide) (zin (by first | omega | decide) (by first | omega | decide)) (by rw [hfr _ (by omega)]; rfl) ?_
                refine zp_seg (pc' := 195) (lv' := [(0, .ref m), (1, .ref u9), (2, .ref up9), (3, .ref dn9), (4, .int (gu 10)), (5, .ref (m + 276 + 2 * (g 1).toNatClampNeg)), (6, .ref (m + 276 + 2 * (g 1 + 1).toNatClampNeg)), (7, .ref (m + 276 + 2 * (g 1 + 1 + 1).toNatClampNeg)), (8, .int y8_27), (9, .int y9_150)]) (st' := [.int y8_27, .ref up9, .ref (m + 276 + 2 * xT.toNatClampNeg + 2 + 2 * y9_150.toNatClampNeg)]) [(192, .aload_n 2), (193, .iload 8)] (by decide +kernel) rfl ?_
                refine zr_aald (v := .ref (up9 + 1 + y8_27.toNatClampNeg)) (by decide +kernel) hb81 (by decide) (zin (by first | omega | decide) (by first | omega | decide)) (by rw [hfw _ (by omega)]; rfl) ?_
                refine zp_seg (pc' := 198) (lv' := [(0, .ref m), (1, .ref u9), (2, .ref up9), (3, .ref dn9), (4, .int (gu 10)), (5, .ref (m + 276 + 2 * (g 1).toNatClampNeg)), (6, .ref (m + 276 + 2 * (g 1 + 1).toNatClampNeg)), (7, .ref (m + 276 + 2 * (g 1 + 1 + 1).toNatClampNeg)), (8, .int y8_27), (9, .int y9_150)]) (st' := [.int y9_150, .ref (up9 + 1 + y8_27.toNatClampNeg), .ref (m + 276 + 2 * xT.toNatClampNeg + 2 + 2 * y9_150.toNatClampNeg)]) [(196, .iload 9)] (by decide +kernel) rfl ?_
                refine zr_aald (v := .ref (m + 276 + 2 * xT.toNatClampNeg + 2 + 2 * y9_150.toNatClampNeg)) (by decide +kernel) hb82 (by decide) (zin (by first | omega | decide) (by first | omega | decide)) (by rw [hfr _ (by omega)]; rfl) ?_
                refine zr_ldcw (idx := 720) (v := 2147483646) (by decide +kernel) (by decide +kernel) ?_
                have ho202_to := zU.o hp182_0
                refine zr_callS (idx := 70) (j := 266) (by decide +kernel) (by decide +kernel) (by decide) (show zMe 266 = some zq_X16_scale from rfl) rfl rfl (Nat.le_of_ble_eq_true rfl) rfl rfl (Nat.le_of_ble_eq_true rfl) (Nat.le_of_ble_eq_true rfl) (c_X16_scale (w := w182) (m + 276 + 2 * xT.toNatClampNeg + 2 + 2 * y9_150.toNatClampNeg) (m + 276 + 2 * xT.toNatClampNeg + 2 + 2 * y9_150.toNatClampNeg) 2147483646 ho202_to hp182_0 (by exact ⟨by decide, by decide⟩) (by first | omega | decide | assumption | exact zr1_1 | exact zr1_0 | fail "num")) (by omega) (fun v202 w202 hp202 => ?_)
                obtain ⟨hsi202, heq202, hp202_0, rfl⟩ := hp202
                show zP _ _ _ _ [] _ _ _ _ _
                refine zp_seg (pc' := 207) (lv' := [(0, .ref m), (1, .ref u9), (2, .ref up9), (3, .ref dn9), (4, .int (gu 10)), (5, .ref (m + 276 + 2 * (g 1).toNatClampNeg)), (6, .ref (m + 276 + 2 * (g 1 + 1).toNatClampNeg)), (7, .ref (m + 276 + 2 * (g 1 + 1 + 1).toNatClampNeg)), (8, .int y8_27), (9, .int y9_150)]) (st' := [.int y9_150]) [(205, .iload 9)] (by decide +kernel) rfl ?_
                refine zp_if (i := .ifCond .le 71) (c := y9_150 ≤ 0) (t := 278) (e := 210) (lv' := [(0, .ref m), (1, .ref u9), (2, .ref up9), (3, .ref dn9), (4, .int (gu 10)), (5, .ref (m + 276 + 2 * (g 1).toNatClampNeg)), (6, .ref (m + 276 + 2 * (g 1 + 1).toNatClampNeg)), (7, .ref (m + 276 + 2 * (g 1 + 1 + 1).toNatClampNeg)), (8, .int y8_27), (9, .int y9_150)]) (st' := []) (by decide +kernel) rfl (fun cc207 => ?_) (fun cc207 => ?_)
                ·
                  have f83 := zleI cc207
                  rw [show (0 : Int32).toInt = 0 from by decide] at f83
                  obtain ⟨VJ, hVJ, hVl⟩ : ∃ V, zU w202 (m + 276 + 2 * xT.toNatClampNeg + 2 + 2 * y9_150.toNatClampNeg) 1000 V ∧ zln V ≤ 6 * y8_27.toNatClampNeg + 1 := ⟨_, hp202_0, by omega⟩
                  refine zp_seg (pc' := 281) (lv' := [(9, .int (y9_150 + 1)), (0, .ref m), (1, .ref u9), (2, .ref up9), (3, .ref dn9), (4, .int (gu 10)), (5, .ref (m + 276 + 2 * (g 1).toNatClampNeg)), (6, .ref (m + 276 + 2 * (g 1 + 1).toNatClampNeg)), (7, .ref (m + 276 + 2 * (g 1 + 1 + 1).toNatClampNeg)), (8, .int y8_27)]) (st' := []) [(278, .iinc 9 1)] (by decide +kernel) rfl ?_
                  have k84 := zaddC y9_150 1 (n := 1) (by decide) (by omega) (by omega)
                  generalize ev281 : (y9_150 + 1 : Int32) = v281 at k84 ⊢
                  have kv281 := zrng v281
                  refine zp_seg (pc' := 150) (lv' := [(9, .int v281), (0, .ref m), (1, .ref u9), (2, .ref up9), (3, .ref dn9), (4, .int (gu 10)), (5, .ref (m + 276 + 2 * (g 1).toNatClampNeg)), (6, .ref (m + 276 + 2 * (g 1 + 1).toNatClampNeg)), (7, .ref (m + 276 + 2 * (g 1 + 1 + 1).toNatClampNeg)), (8, .int y8_27)]) (st' := []) [(281, .goto (-131))] (by decide +kernel) rfl ?_
                  have hz85 : (v281.toNatClampNeg : Int) = v281.toInt := znat (by first | omega | decide)
                  have hb86 : w202 m = some (.inl (15, zMo m (zs g 1 xM) r)) := ((heq202 m (by omega)).trans ((heq182 m (by omega)).trans (heq168 m (zx_X16_unroll_36 hgb1)))).trans hxMM
                  have hb87 := hUoj.si ((hsi168.tr hsi182).tr hsi202)
                  exact (ih150 w202 v281 (xM) (fun t => if t = y9_150.toNatClampNeg then VJ else Uf t) (((hsiL150.tr hsi168).tr hsi182).tr hsi202) (fun x hx => ((heq202 x (by omega)).trans ((heq182 x (by omega)).trans ((heq168 x hx.1.2.1).trans (heqL150 x ⟨⟨hx.1.1, hx.1.2.1, hx.1.2.2.1, hx.1.2.2.2⟩, hx.2⟩))))) (by first | assumption | omega | decide) (by first | assumption | omega | decide) (by
                        exact hb86) hb87 (by
                        first | exact hxM9 | omega) (by
                        intro t ht
                        by_cases e : t = y9_150.toNatClampNeg
                        · simp only [if_pos e]
                          rw [e]
                          exact ⟨hVJ, hVl⟩
                        · simp only [if_neg e]
                          exact ⟨(hUf t ht).1.ag (fun x g1 g2 => ((heq202 x (by omega)).trans ((heq182 x (by omega)).trans (heq168 x (by omega))))), (hUf t ht).2⟩) (by omega)).more (zfa1 rfl (zfa1 rfl (zfa1 rfl (zfa1 rfl (zfa1 rfl (zfa1 rfl (zfa1 rfl (zfa1 rfl (zfa1 rfl (zfa1 rfl (zfa0)))))))))))
                ·
                  have f88 := znleI cc207
                  rw [show (0 : Int32).toInt = 0 from by decide] at f88
                  have k89 := zrng xM
                  have hz90 : (xM.toNatClampNeg : Int) = xM.toInt := znat (by first | omega | decide)
                  have k91 := zaddC xM 1 (n := 1) (by decide) (by omega) (by omega)
                  have hz92 : ((xM + 1).toNatClampNeg : Int) = (xM + 1).toInt := znat (by first | omega | decide)
                  have k93 := zaddC (xM + 1) 1 (n := 1) (by decide) (by omega) (by omega)
                  have hz94 : ((xM + 1 + 1).toNatClampNeg : Int) = (xM + 1 + 1).toInt := znat (by first | omega | decide)
                  refine zp_seg (pc' := 211) (lv' := [(0, .ref m), (1, .ref u9), (2, .ref up9), (3, .ref dn9), (4, .int (gu 10)), (5, .ref (m + 276 + 2 * (g 1).toNatClampNeg)), (6, .ref (m + 276 + 2 * (g 1 + 1).toNatClampNeg)), (7, .ref (m + 276 + 2 * (g 1 + 1 + 1).toNatClampNeg)), (8, .int y8_27), (9, .int y9_150)]) (st' := [.ref m]) [(210, .aload_n 0)] (by decide +kernel) rfl ?_
                  have hb95 : w202 m = some (.inl (15, zMo m (zs g 1 xM) r)) := ((heq202 m (by omega)).trans ((heq182 m (by omega)).trans (heq168 m (zx_X16_unroll_36 hgb1)))).trans hxMM
                  have hb96 := hb23.si ((((((((((hsi38.tr hsi41).tr hsiL45).tr hsi102).tr hsi116).tr hsi127).tr hsi144).tr hsiL150).tr hsi168).tr hsi182).tr hsi202)
                  refine zr_callV (idx := 74) (j := 263) (by decide +kernel) (by decide +kernel) (show zMe 263 = some zq_X16_newU from rfl) rfl rfl (Nat.le_of_ble_eq_true rfl) rfl rfl hb95 (Nat.le_of_ble_eq_true rfl) (Nat.le_of_ble_eq_true rfl) (c_X16_newU (w := w202) (g1 := xM) m hb95 hb96 (by first | omega | decide | assumption | exact zr1_1 | exact zr1_0 | fail "num") rfl) (by omega) (fun v211 w211 hp211 => ?_)
                  obtain ⟨hsi211, heq211, hp211_0, hp211_1, rfl⟩ := hp211
                  have hM211 : w211 m = some (.inl (15, zMo m (zs g 1 (xM + 1)) r)) := hp211_0
                  show zP _ _ _ _ [.ref (m + 276 + 2 * xM.toNatClampNeg)] _ _ _ _ _
                  refine zp_seg (pc' := 217) (lv' := [(10, .ref (m + 276 + 2 * xM.toNatClampNeg)), (0, .ref m), (1, .ref u9), (2, .ref up9), (3, .ref dn9), (4, .int (gu 10)), (5, .ref (m + 276 + 2 * (g 1).toNatClampNeg)), (6, .ref (m + 276 + 2 * (g 1 + 1).toNatClampNeg)), (7, .ref (m + 276 + 2 * (g 1 + 1 + 1).toNatClampNeg)), (8, .int y8_27), (9, .int y9_150)]) (st' := [.ref m]) [(214, .astore 10), (216, .aload_n 0)] (by decide +kernel) rfl ?_
                  have hb97 := hb96.si hsi211
                  refine zr_callV (idx := 74) (j := 263) (by decide +kernel) (by decide +kernel) (show zMe 263 = some zq_X16_newU from rfl) rfl rfl (Nat.le_of_ble_eq_true rfl) rfl rfl hM211 (Nat.le_of_ble_eq_true rfl) (Nat.le_of_ble_eq_true rfl) (c_X16_newU (w := w211) (g1 := (xM + 1)) m hM211 hb97 (by first | omega | decide | assumption | exact zr1_1 | exact zr1_0 | fail "num") rfl) (by omega) (fun v217 w217 hp217 => ?_)
                  obtain ⟨hsi217, heq217, hp217_0, hp217_1, rfl⟩ := hp217
                  have hM217 : w217 m = some (.inl (15, zMo m (zs g 1 (xM + 1 + 1)) r)) := hp217_0
                  show zP _ _ _ _ [.ref (m + 276 + 2 * (xM + 1).toNatClampNeg)] _ _ _ _ _
                  refine zp_seg (pc' := 229) (lv' := [(11, .ref (m + 276 + 2 * (xM + 1).toNatClampNeg)), (10, .ref (m + 276 + 2 * xM.toNatClampNeg)), (0, .ref m), (1, .ref u9), (2, .ref up9), (3, .ref dn9), (4, .int (gu 10)), (5, .ref (m + 276 + 2 * (g 1).toNatClampNeg)), (6, .ref (m + 276 + 2 * (g 1 + 1).toNatClampNeg)), (7, .ref (m + 276 + 2 * (g 1 + 1 + 1).toNatClampNeg)), (8, .int y8_27), (9, .int y9_150)]) (st' := [.int (y8_27 - 1), .ref up9, .ref (m + 276 + 2 * xM.toNatClampNeg)]) [(220, .astore 11), (222, .aload 10), (224, .aload_n 2), (225, .iload 8), (227, .iconst 1), (228, .isub)] (by decide +kernel) rfl ?_
                  have k98 := zsubC y8_27 1 (n := 1) (by decide) (by omega) (by omega)
                  generalize ev229 : (y8_27 - 1 : Int32) = v229 at k98 ⊢
                  have kv229 := zrng v229
                  have hz99 : (v229.toNatClampNeg : Int) = v229.toInt := znat (by first | omega | decide)
                  have hip7 : v229.toNatClampNeg = y8_27.toNatClampNeg - 1 := by omega
                  have hb100 : w217 up9 = some (.inr (8, 7, .inr fw)) := ((heq217 up9 (by omega)).trans ((heq211 up9 (by omega)).trans (heq202 up9 (by omega)))).trans hb81
                  refine zr_aald (v := .ref (up9 + 1 + (y8_27.toNatClampNeg - 1))) (by decide +kernel) hb100 (by decide) (zin (by first | omega | decide) (by first | omega | decide)) (by rw [hip7, hfw _ (by omega)]; rfl) ?_
                  refine zp_seg (pc' := 234) (lv' := [(11, .ref (m + 276 + 2 * (xM + 1).toNatClampNeg)), (10, .ref (m + 276 + 2 * xM.toNatClampNeg)), (0, .ref m), (1, .ref u9), (2, .ref up9), (3, .ref dn9), (4, .int (gu 10)), (5, .ref (m + 276 + 2 * (g 1).toNatClampNeg)), (6, .ref (m + 276 + 2 * (g 1 + 1).toNatClampNeg)), (7, .ref (m + 276 + 2 * (g 1 + 1 + 1).toNatClampNeg)), (8, .int y8_27), (9, .int y9_150)]) (st' := [.int (y9_150 - 1), .ref (up9 + 1 + (y8_27.toNatClampNeg - 1)), .ref (m + 276 + 2 * xM.toNatClampNeg)]) [(230, .iload 9), (232, .iconst 1), (233, .isub)] (by decide +kernel) rfl ?_
                  have k101 := zsubC y9_150 1 (n := 1) (by decide) (by omega) (by omega)
                  generalize ev234 : (y9_150 - 1 : Int32) = v234 at k101 ⊢
                  have kv234 := zrng v234
                  have hz102 : (v234.toNatClampNeg : Int) = v234.toInt := znat (by first | omega | decide)
                  have hij9 : v234.toNatClampNeg = y9_150.toNatClampNeg - 1 := by omega
                  have hUt9 := (hUp (y8_27.toNatClampNeg - 1) (by omega) (y9_150.toNatClampNeg - 1) (by omega)).1.ag (w' := w217) (fun x g1 g2 => ((heq217 x (by omega)).trans ((heq211 x (by omega)).trans ((heq202 x (by omega)).trans ((heq182 x (by omega)).trans ((heq168 x (by omega)).trans ((heqL150 x (by omega)).trans ((heq144 x (by omega)).trans ((heq127 x (by omega)).trans ((heq116 x (by omega)).trans ((heq102 x (by omega)).trans ((heqL45 x (by omega)).trans ((heq41 x (by omega)).trans (heq38 x (by omega)))))))))))))))
                  have hlt8 := (hUp (y8_27.toNatClampNeg - 1) (by omega) (y9_150.toNatClampNeg - 1) (by omega)).2
                  have hb103 : w217 (up9 + 1 + (y8_27.toNatClampNeg - 1)) = some (.inr (4, 6, .inr fpA)) := ((heq217 (up9 + 1 + (y8_27.toNatClampNeg - 1)) (by omega)).trans ((heq211 (up9 + 1 + (y8_27.toNatClampNeg - 1)) (by omega)).trans ((heq202 (up9 + 1 + (y8_27.toNatClampNeg - 1)) (by omega)).trans ((heq182 (up9 + 1 + (y8_27.toNatClampNeg - 1)) (by omega)).trans ((heq168 (up9 + 1 + (y8_27.toNatClampNeg - 1)) (by omega)).trans ((heqL150 (up9 + 1 + (y8_27.toNatClampNeg - 1)) (by omega)).trans (heq144 (up9 + 1 + (y8_27.toNatClampNeg - 1)) (by omega)))))))).trans hb55
                  refine zr_aald (v := .ref (Eb (y8_27.toNatClampNeg - 1) + 2 + 2 * (y9_150.toNatClampNeg - 1))) (by decide +kernel) hb103 (by decide) (zin (by first | omega | decide) (by first | omega | decide)) (by rw [hij9, hfpAb _ (by omega)]; rfl) ?_
                  refine zp_seg (pc' := 236) (lv' := [(11, .ref (m + 276 + 2 * (xM + 1).toNatClampNeg)), (10, .ref (m + 276 + 2 * xM.toNatClampNeg)), (0, .ref m), (1, .ref u9), (2, .ref up9), (3, .ref dn9), (4, .int (gu 10)), (5, .ref (m + 276 + 2 * (g 1).toNatClampNeg)), (6, .ref (m + 276 + 2 * (g 1 + 1).toNatClampNeg)), (7, .ref (m + 276 + 2 * (g 1 + 1 + 1).toNatClampNeg)), (8, .int y8_27), (9, .int y9_150)]) (st' := [.int 1, .ref (Eb (y8_27.toNatClampNeg - 1) + 2 + 2 * (y9_150.toNatClampNeg - 1)), .ref (m + 276 + 2 * xM.toNatClampNeg)]) [(235, .iconst 1)] (by decide +kernel) rfl ?_
                  have hb104 : zU w217 (m + 276 + 2 * xM.toNatClampNeg) 1000 zaZ := hp211_1.ag (fun x hx1 hx2 => (heq217 x (by omega)))
                  have ho236_to := zU.o hb104
                  refine zr_callS (idx := 116) (j := 273) (by decide +kernel) (by decide +kernel) (by decide) (show zMe 273 = some zq_X16_shift from rfl) rfl rfl (Nat.le_of_ble_eq_true rfl) rfl rfl (Nat.le_of_ble_eq_true rfl) (Nat.le_of_ble_eq_true rfl) (c_X16_shiftD (w := w217) (m + 276 + 2 * xM.toNatClampNeg) (Eb (y8_27.toNatClampNeg - 1) + 2 + 2 * (y9_150.toNatClampNeg - 1)) 1 ho236_to hUt9 (by first | omega | decide | assumption | exact zr1_1 | exact zr1_0 | fail "num") (by first | omega | decide | assumption | exact zr1_1 | exact zr1_0 | fail "num") (by first | omega | decide | assumption | exact zr1_1 | exact zr1_0 | fail "num") (by first | omega | decide | assumption | exact zr1_1 | exact zr1_0 | fail "num")) (by omega) (fun v236 w236 hp236 => ?_)
                  obtain ⟨P9_236, hsi236, heq236, hp236_0, hp236_1, rfl⟩ := hp236
                  show zP _ _ _ _ [] _ _ _ _ _
                  have hxm9 := zln_Mle P9_236 QQ
                  refine zp_seg (pc' := 245) (lv' := [(11, .ref (m + 276 + 2 * (xM + 1).toNatClampNeg)), (10, .ref (m + 276 + 2 * xM.toNatClampNeg)), (0, .ref m), (1, .ref u9), (2, .ref up9), (3, .ref dn9), (4, .int (gu 10)), (5, .ref (m + 276 + 2 * (g 1).toNatClampNeg)), (6, .ref (m + 276 + 2 * (g 1 + 1).toNatClampNeg)), (7, .ref (m + 276 + 2 * (g 1 + 1 + 1).toNatClampNeg)), (8, .int y8_27), (9, .int y9_150)]) (st' := [.ref (m + 276 + 2 * (g 1 + 1).toNatClampNeg), .ref (m + 276 + 2 * xM.toNatClampNeg), .ref (m + 276 + 2 * (xM + 1).toNatClampNeg)]) [(239, .aload 11), (241, .aload 10), (243, .aload 6)] (by decide +kernel) rfl ?_
                  have hb105 : zU w236 (m + 276 + 2 * (xM + 1).toNatClampNeg) 1000 zaZ := hp217_1.ag (fun x hx1 hx2 => (heq236 x (by omega)))
                  have ho245_to := zU.o hb105
                  have hb106 : zU w236 (m + 276 + 2 * (g 1 + 1).toNatClampNeg) 1000 QQ := hUq9.ag (fun x hx1 hx2 => ((heq236 x (by omega)).trans ((heq217 x (by omega)).trans ((heq211 x (by omega)).trans ((heq202 x (by omega)).trans ((heq182 x (by omega)).trans ((heq168 x (zx_X16_unroll_45 hx1 hx2 hgn1_1 hgb1)).trans ((heqL150 x (by omega)).trans ((heq144 x (zx_X16_unroll_43 hx1 hx2 hgn1_1 hgn1_2 hgb1)).trans (heq127 x (by omega)))))))))))
                  refine zr_callS (idx := 106) (j := 267) (by decide +kernel) (by decide +kernel) (by decide) (show zMe 267 = some zq_X16_times from rfl) rfl rfl (Nat.le_of_ble_eq_true rfl) rfl rfl (Nat.le_of_ble_eq_true rfl) (Nat.le_of_ble_eq_true rfl) (c_X16_times (w := w236) (m + 276 + 2 * (xM + 1).toNatClampNeg) (m + 276 + 2 * xM.toNatClampNeg) (m + 276 + 2 * (g 1 + 1).toNatClampNeg) ho245_to hp236_0 hb106 (by first | omega | decide | assumption | exact zr1_1 | exact zr1_0 | fail "num") (by first | omega | decide | assumption | exact zr1_1 | exact zr1_0 | fail "num") (by first | omega | decide | assumption | exact zr1_1 | exact zr1_0 | fail "num") (by first | omega | decide | assumption | exact zr1_1 | exact zr1_0 | fail "num")) (by omega) (fun v245 w245 hp245 => ?_)
                  obtain ⟨hsi245, heq245, hp245_0, rfl⟩ := hp245
                  show zP _ _ _ _ [] _ _ _ _ _
                  have hsa9 := zln_A (zaM (zaC (zf (2147483646 : Int32))) (zaM P9_144 PP)) (zaM P9_236 QQ)
                  refine zp_seg (pc' := 251) (lv' := [(11, .ref (m + 276 + 2 * (xM + 1).toNatClampNeg)), (10, .ref (m + 276 + 2 * xM.toNatClampNeg)), (0, .ref m), (1, .ref u9), (2, .ref up9), (3, .ref dn9), (4, .int (gu 10)), (5, .ref (m + 276 + 2 * (g 1).toNatClampNeg)), (6, .ref (m + 276 + 2 * (g 1 + 1).toNatClampNeg)), (7, .ref (m + 276 + 2 * (g 1 + 1 + 1).toNatClampNeg)), (8, .int y8_27), (9, .int y9_150)]) (st' := [.int y8_27, .ref up9]) [(248, .aload_n 2), (249, .iload 8)] (by decide +kernel) rfl ?_
                  have hb107 : w245 up9 = some (.inr (8, 7, .inr fw)) := ((heq245 up9 (by omega)).trans (heq236 up9 (by omega))).trans hb100
                  refine zr_aald (v := .ref (up9 + 1 + y8_27.toNatClampNeg)) (by decide +kernel) hb107 (by decide) (zin (by first | omega | decide) (by first | omega | decide)) (by rw [hfw _ (by omega)]; rfl) ?_
                  refine zp_seg (pc' := 254) (lv' := [(11, .ref (m + 276 + 2 * (xM + 1).toNatClampNeg)), (10, .ref (m + 276 + 2 * xM.toNatClampNeg)), (0, .ref m), (1, .ref u9), (2, .ref up9), (3, .ref dn9), (4, .int (gu 10)), (5, .ref (m + 276 + 2 * (g 1).toNatClampNeg)), (6, .ref (m + 276 + 2 * (g 1 + 1).toNatClampNeg)), (7, .ref (m + 276 + 2 * (g 1 + 1 + 1).toNatClampNeg)), (8, .int y8_27), (9, .int y9_150)]) (st' := [.int y9_150, .ref (up9 + 1 + y8_27.toNatClampNeg)]) [(252, .iload 9)] (by decide +kernel) rfl ?_
                  have hb108 : w245 (up9 + 1 + y8_27.toNatClampNeg) = some (.inr (4, 6, .inr fr)) := ((heq245 (up9 + 1 + y8_27.toNatClampNeg) (by omega)).trans ((heq236 (up9 + 1 + y8_27.toNatClampNeg) (by omega)).trans ((heq217 (up9 + 1 + y8_27.toNatClampNeg) (by omega)).trans ((heq211 (up9 + 1 + y8_27.toNatClampNeg) (by omega)).trans (heq202 (up9 + 1 + y8_27.toNatClampNeg) (by omega)))))).trans hb82
                  refine zr_aald (v := .ref (m + 276 + 2 * xT.toNatClampNeg + 2 + 2 * y9_150.toNatClampNeg)) (by decide +kernel) hb108 (by decide) (zin (by first | omega | decide) (by first | omega | decide)) (by rw [hfr _ (by omega)]; rfl) ?_
                  refine zp_seg (pc' := 258) (lv' := [(11, .ref (m + 276 + 2 * (xM + 1).toNatClampNeg)), (10, .ref (m + 276 + 2 * xM.toNatClampNeg)), (0, .ref m), (1, .ref u9), (2, .ref up9), (3, .ref dn9), (4, .int (gu 10)), (5, .ref (m + 276 + 2 * (g 1).toNatClampNeg)), (6, .ref (m + 276 + 2 * (g 1 + 1).toNatClampNeg)), (7, .ref (m + 276 + 2 * (g 1 + 1 + 1).toNatClampNeg)), (8, .int y8_27), (9, .int y9_150)]) (st' := [.int y8_27, .ref up9, .ref (m + 276 + 2 * xT.toNatClampNeg + 2 + 2 * y9_150.toNatClampNeg)]) [(255, .aload_n 2), (256, .iload 8)] (by decide +kernel) rfl ?_
                  refine zr_aald (v := .ref (up9 + 1 + y8_27.toNatClampNeg)) (by decide +kernel) hb107 (by decide) (zin (by first | omega | decide) (by first | omega | decide)) (by rw [hfw _ (by omega)]; rfl) ?_
                  refine zp_seg (pc' := 261) (lv' := [(11, .ref (m + 276 + 2 * (xM + 1).toNatClampNeg)), (10, .ref (m + 276 + 2 * xM.toNatClampNeg)), (0, .ref m), (1, .ref u9), (2, .ref up9), (3, .ref dn9), (4, .int (gu 10)), (5, .ref (m + 276 + 2 * (g 1).toNatClampNeg)), (6, .ref (m + 276 + 2 * (g 1 + 1).toNatClampNeg)), (7, .ref (m + 276 + 2 * (g 1 + 1 + 1).toNatClampNeg)), (8, .int y8_27), (9, .int y9_150)]) (st' := [.int y9_150, .ref (up9 + 1 + y8_27.toNatClampNeg), .ref (m + 276 + 2 * xT.toNatClampNeg + 2 + 2 * y9_150.toNatClampNeg)]) [(259, .iload 9)] (by decide +kernel) rfl ?_
                  refine zr_aald (v := .ref (m + 276 + 2 * xT.toNatClampNeg + 2 + 2 * y9_150.toNatClampNeg)) (by decide +kernel) hb108 (by decide) (zin (by first | omega | decide) (by first | omega | decide)) (by rw [hfr _ (by omega)]; rfl) ?_
                  refine zp_seg (pc' := 265) (lv' := [(11, .ref (m + 276 + 2 * (xM + 1).toNatClampNeg)), (10, .ref (m + 276 + 2 * xM.toNatClampNeg)), (0, .ref m), (1, .ref u9), (2, .ref up9), (3, .ref dn9), (4, .int (gu 10)), (5, .ref (m + 276 + 2 * (g 1).toNatClampNeg)), (6, .ref (m + 276 + 2 * (g 1 + 1).toNatClampNeg)), (7, .ref (m + 276 + 2 * (g 1 + 1 + 1).toNatClampNeg)), (8, .int y8_27), (9, .int y9_150)]) (st' := [.int 0, .ref (m + 276 + 2 * (xM + 1).toNatClampNeg), .ref (m + 276 + 2 * xT.toNatClampNeg + 2 + 2 * y9_150.toNatClampNeg), .ref (m + 276 + 2 * xT.toNatClampNeg + 2 + 2 * y9_150.toNatClampNeg)]) [(262, .aload 11), (264, .iconst 0)] (by decide +kernel) rfl ?_
                  have hb109 : zU w245 (m + 276 + 2 * xT.toNatClampNeg + 2 + 2 * y9_150.toNatClampNeg) 1000 (zaM (zaC (zf 2147483646)) (zaM P9_144 PP)) := hp202_0.ag (fun x hx1 hx2 => ((heq245 x (by omega)).trans ((heq236 x (by omega)).trans ((heq217 x (by omega)).trans (heq211 x (by omega))))))
                  have ho265_to := zU.o hb109
                  refine zr_callS (idx := 101) (j := 265) (by decide +kernel) (by decide +kernel) (by decide) (show zMe 265 = some zq_X16_plus from rfl) rfl rfl (Nat.le_of_ble_eq_true rfl) rfl rfl (Nat.le_of_ble_eq_true rfl) (Nat.le_of_ble_eq_true rfl) (c_X16_plusA (w := w245) (m + 276 + 2 * xT.toNatClampNeg + 2 + 2 * y9_150.toNatClampNeg) (m + 276 + 2 * xT.toNatClampNeg + 2 + 2 * y9_150.toNatClampNeg) (m + 276 + 2 * (xM + 1).toNatClampNeg)  ho265_to hb109 hp245_0 (by first | omega | decide | assumption | exact zr1_1 | exact zr1_0 | fail "num") (by first | omega | decide | assumption | exact zr1_1 | exact zr1_0 | fail "num")) (by omega) (fun v265 w265 hp265 => ?_)
                  obtain ⟨hsi265, heq265, hp265_0, rfl⟩ := hp265
                  show zP _ _ _ _ [] _ _ _ _ _
                  refine zp_seg (pc' := 270) (lv' := [(11, .ref (m + 276 + 2 * (xM + 1).toNatClampNeg)), (10, .ref (m + 276 + 2 * xM.toNatClampNeg)), (0, .ref m), (1, .ref u9), (2, .ref up9), (3, .ref dn9), (4, .int (gu 10)), (5, .ref (m + 276 + 2 * (g 1).toNatClampNeg)), (6, .ref (m + 276 + 2 * (g 1 + 1).toNatClampNeg)), (7, .ref (m + 276 + 2 * (g 1 + 1 + 1).toNatClampNeg)), (8, .int y8_27), (9, .int y9_150)]) (st' := [.ref m, .ref m]) [(268, .aload_n 0), (269, .dup)] (by decide +kernel) rfl ?_
                  have hb110 : w265 m = some (.inl (15, zMo m (zs g 1 (xM + 1 + 1)) r)) := ((heq265 m (by omega)).trans ((heq245 m (by omega)).trans (heq236 m (by omega)))).trans hM217
                  refine zr_get (idx := 21) (k := 1) (v := .int ((xM + 1 + 1))) (by decide +kernel) (by decide +kernel) hb110 rfl ?_
                  refine zp_seg (pc' := 275) (lv' := [(11, .ref (m + 276 + 2 * (xM + 1).toNatClampNeg)), (10, .ref (m + 276 + 2 * xM.toNatClampNeg)), (0, .ref m), (1, .ref u9), (2, .ref up9), (3, .ref dn9), (4, .int (gu 10)), (5, .ref (m + 276 + 2 * (g 1).toNatClampNeg)), (6, .ref (m + 276 + 2 * (g 1 + 1).toNatClampNeg)), (7, .ref (m + 276 + 2 * (g 1 + 1 + 1).toNatClampNeg)), (8, .int y8_27), (9, .int y9_150)]) (st' := [.int (((xM + 1 + 1)) - 2), .ref m]) [(273, .iconst 2), (274, .isub)] (by decide +kernel) rfl ?_
                  have k111 := zsubC (((xM + 1 + 1))) 2 (n := 2) (by decide) (by omega) (by omega)
                  generalize ev275 : (((xM + 1 + 1)) - 2 : Int32) = v275 at k111 ⊢
                  have kv275 := zrng v275
                  refine zr_put2 (idx := 21) (k := 1) (fs2 := zMo m (zs g 1 v275) r) (by decide +kernel) (by decide +kernel) hb110 (Nat.le_of_ble_eq_true rfl) rfl rfl rfl ?_
                  show zP (d + 1) zq_X16_unroll 278 [(11, .ref (m + 276 + 2 * (xM + 1).toNatClampNeg)), (10, .ref (m + 276 + 2 * xM.toNatClampNeg)), (0, .ref m), (1, .ref u9), (2, .ref up9), (3, .ref dn9), (4, .int (gu 10)), (5, .ref (m + 276 + 2 * (g 1).toNatClampNeg)), (6, .ref (m + 276 + 2 * (g 1 + 1).toNatClampNeg)), (7, .ref (m + 276 + 2 * (g 1 + 1 + 1).toNatClampNeg)), (8, .int y8_27), (9, .int y9_150)] [] (zup w265 m (.inl (15, zMo m (zs g 1 v275) r))) sz 0 0 Post
                  obtain ⟨w275, ew275⟩ : ∃ wz9, wz9 = zup w265 m (.inl (15, zMo m (zs g 1 v275) r)) := ⟨_, rfl⟩
                  have hsi275 : zSI w265 w275 := by rw [ew275]; exact zSI.setG hb110 _ _
                  have heq275 : ∀ x, x ≠ m → w275 x = w265 x := fun x hx => by rw [ew275]; exact zup_n hx
                  have hc275 : w275 m = some (.inl (15, zMo m (zs g 1 v275) r)) := by rw [ew275]; exact zup_s
                  rw [← ew275]
                  clear ew275
                  have hb112 : zU w275 (m + 276 + 2 * xT.toNatClampNeg + 2 + 2 * y9_150.toNatClampNeg) 1000 (zaA (zaM (zaC (zf 2147483646)) (zaM P9_144 PP)) (zaM P9_236 QQ)) := hp265_0.ag (fun x hx1 hx2 => (heq275 x (by omega)))
                  obtain ⟨VJ, hVJ, hVl⟩ : ∃ V, zU w275 (m + 276 + 2 * xT.toNatClampNeg + 2 + 2 * y9_150.toNatClampNeg) 1000 V ∧ zln V ≤ 6 * y8_27.toNatClampNeg + 1 := ⟨_, hb112, by omega⟩
                  refine zp_seg (pc' := 281) (lv' := [(9, .int (y9_150 + 1)), (11, .ref (m + 276 + 2 * (xM + 1).toNatClampNeg)), (10, .ref (m + 276 + 2 * xM.toNatClampNeg)), (0, .ref m), (1, .ref u9), (2, .ref up9), (3, .ref dn9), (4, .int (gu 10)), (5, .ref (m + 276 + 2 * (g 1).toNatClampNeg)), (6, .ref (m + 276 + 2 * (g 1 + 1).toNatClampNeg)), (7, .ref (m + 276 + 2 * (g 1 + 1 + 1).toNatClampNeg)), (8, .int y8_27)]) (st' := []) [(278, .iinc 9 1)] (by decide +kernel) rfl ?_
                  have k113 := zaddC y9_150 1 (n := 1) (by decide) (by omega) (by omega)
                  generalize ev281 : (y9_150 + 1 : Int32) = v281 at k113 ⊢
                  have kv281 := zrng v281
                  refine zp_seg (pc' := 150) (lv' := [(9, .int v281), (11, .ref (m + 276 + 2 * (xM + 1).toNatClampNeg)), (10, .ref (m + 276 + 2 * xM.toNatClampNeg)), (0, .ref m), (1, .ref u9), (2, .ref up9), (3, .ref dn9), (4, .int (gu 10)), (5, .ref (m + 276 + 2 * (g 1).toNatClampNeg)), (6, .ref (m + 276 + 2 * (g 1 + 1).toNatClampNeg)), (7, .ref (m + 276 + 2 * (g 1 + 1 + 1).toNatClampNeg)), (8, .int y8_27)]) (st' := []) [(281, .goto (-131))] (by decide +kernel) rfl ?_
                  have hz114 : (v281.toNatClampNeg : Int) = v281.toInt := znat (by first | omega | decide)
                  have hb115 := hUoj.si ((((((((hsi168.tr hsi182).tr hsi202).tr hsi211).tr hsi217).tr hsi236).tr hsi245).tr hsi265).tr hsi275)
                  exact (ih150 w275 v281 (v275) (fun t => if t = y9_150.toNatClampNeg then VJ else Uf t) (((((((((hsiL150.tr hsi168).tr hsi182).tr hsi202).tr hsi211).tr hsi217).tr hsi236).tr hsi245).tr hsi265).tr hsi275) (fun x hx => ((heq275 x hx.2).trans ((heq265 x (by omega)).trans ((heq245 x (by omega)).trans ((heq236 x (by omega)).trans ((heq217 x (by omega)).trans ((heq211 x (by omega)).trans ((heq202 x (by omega)).trans ((heq182 x (by omega)).trans ((heq168 x hx.1.2.1).trans (heqL150 x ⟨⟨hx.1.1, hx.1.2.1, hx.1.2.2.1, hx.1.2.2.2⟩, hx.2⟩))))))))))) (by first | assumption | omega | decide) (by first | assumption | omega | decide) (by
                        exact hc275) hb115 (by
                        first | exact hxM9 | omega) (by
                        intro t ht
                        by_cases e : t = y9_150.toNatClampNeg
                        · simp only [if_pos e]
                          rw [e]
                          exact ⟨hVJ, hVl⟩
                        · simp only [if_neg e]
                          exact ⟨(hUf t ht).1.ag (fun x g1 g2 => ((heq275 x (by omega)).trans ((heq265 x (by omega)).trans ((heq245 x (by omega)).trans ((heq236 x (by omega)).trans ((heq217 x (by omega)).trans ((heq211 x (by omega)).trans ((heq202 x (by omega)).trans ((heq182 x (by omega)).trans (heq168 x (by omega))))))))))), (hUf t ht).2⟩) (by omega)).more (zfa1 rfl (zfa1 rfl (zfa1 rfl (zfa1 rfl (zfa1 rfl (zfa1 rfl (zfa1 rfl (zfa1 rfl (zfa1 rfl (zfa1 rfl (zfa0)))))))))))
            have hl116 : (0 : Int32).toInt = 0 := by decide
            have hz117 : ((0 : Int32).toNatClampNeg : Int) = 0 := by decide
            have hb118 := hb42.si (((hsi102.tr hsi116).tr hsi127).tr hsi144)
            exact (hL150 _ w144 0 (xJ) (fun _ => zaZ) zSI.rf (fun _ _ => rfl) (by first | assumption | omega | decide) (by first | assumption | omega | decide) (by
                  exact hb57) hb118 (by
                  exact rfl) (by
                  exact fun t ht => ⟨(hPz t (by omega)).ag (fun x g1 g2 => ((heq144 x (by omega)).trans ((heq127 x (by omega)).trans ((heq116 x (by omega)).trans (heq102 x (by omega)))))), by rw [zln_Z]; omega⟩) (Nat.lt_succ_self _)).more (zfa1 rfl (zfa1 rfl (zfa1 rfl (zfa1 rfl (zfa1 rfl (zfa1 rfl (zfa1 rfl (zfa1 rfl (zfa1 rfl (zfa1 rfl (zfa0)))))))))))
          ·
            replace cc71 := Classical.not_not.mp cc71
            have f120 := zeqI cc71
            rw [show (0 : Int32).toInt = 0 from by decide] at f120
            have h09 : y8_27.toNatClampNeg = 0 := by omega
            have h08 : up9 + 1 + (0 : Int32).toNatClampNeg = up9 + 1 + y8_27.toNatClampNeg := by rw [h09]; rfl
            have h07 : (0 : Int32).toNatClampNeg = y8_27.toNatClampNeg := by rw [h09]; rfl
            have hU00 := (hPz 0 (by omega)).ag (w' := wL45) (fun x g1 g2 => rfl)
            refine zp_seg (pc' := 76) (lv' := [(0, .ref m), (1, .ref u9), (2, .ref up9), (3, .ref dn9), (4, .int (gu 10)), (5, .ref (m + 276 + 2 * (g 1).toNatClampNeg)), (6, .ref (m + 276 + 2 * (g 1 + 1).toNatClampNeg)), (7, .ref (m + 276 + 2 * (g 1 + 1 + 1).toNatClampNeg)), (8, .int y8_27), (9, .int y9_45)]) (st' := [.int 0, .ref up9]) [(74, .aload_n 2), (75, .iconst 0)] (by decide +kernel) rfl ?_
            have hb121 : wL45 up9 = some (.inr (8, 7, .inr fw)) := ((heqL45 up9 (by omega)).trans ((heq41 up9 (zx_X16_unroll_35 hmw hmd)).trans ((heq38 up9 (by omega)).trans ((heqL27 up9 ⟨⟨(zx_X16_unroll_27 hmw), (zx_X16_unroll_31 hmw), (zx_X16_unroll_32 hmw hmd), (zx_X16_unroll_33 hmw hgb1)⟩, (zx_X16_unroll_34 hmw)⟩).trans ((heq19 up9 ⟨(zx_X16_unroll_27 hmw), (zx_X16_unroll_30 hmw hgn1_2 hgb1)⟩).trans ((heq13 up9 ⟨(zx_X16_unroll_27 hmw), (zx_X16_unroll_29 hmw hgn1_1 hgb1)⟩).trans (heq7 up9 ⟨(zx_X16_unroll_27 hmw), (zx_X16_unroll_28 hmw hgb1)⟩))))))).trans hV_up9
            have hl122 : (0 : Int32).toInt = 0 := by decide
            have hz123 : ((0 : Int32).toNatClampNeg : Int) = 0 := by decide
            refine zr_aald (v := .ref (up9 + 1 + y8_27.toNatClampNeg)) (by decide +kernel) hb121 (by decide) (zin (by decide) (by decide)) (by rw [hfw _ (by first | omega | decide), h08]; rfl) ?_
            refine zp_seg (pc' := 78) (lv' := [(0, .ref m), (1, .ref u9), (2, .ref up9), (3, .ref dn9), (4, .int (gu 10)), (5, .ref (m + 276 + 2 * (g 1).toNatClampNeg)), (6, .ref (m + 276 + 2 * (g 1 + 1).toNatClampNeg)), (7, .ref (m + 276 + 2 * (g 1 + 1 + 1).toNatClampNeg)), (8, .int y8_27), (9, .int y9_45)]) (st' := [.int 0, .ref (up9 + 1 + y8_27.toNatClampNeg)]) [(77, .iconst 0)] (by decide +kernel) rfl ?_
            refine zr_aald (v := .ref (m + 276 + 2 * xT.toNatClampNeg + 2 + 2 * 0)) (by decide +kernel) hVr (by decide) (zin (by decide) (by decide)) (by rw [hfr _ (by first | omega | decide)]; rfl) ?_
            refine zp_seg (pc' := 80) (lv' := [(0, .ref m), (1, .ref u9), (2, .ref up9), (3, .ref dn9), (4, .int (gu 10)), (5, .ref (m + 276 + 2 * (g 1).toNatClampNeg)), (6, .ref (m + 276 + 2 * (g 1 + 1).toNatClampNeg)), (7, .ref (m + 276 + 2 * (g 1 + 1 + 1).toNatClampNeg)), (8, .int y8_27), (9, .int y9_45)]) (st' := [.int 1, .ref (m + 276 + 2 * xT.toNatClampNeg + 2 + 2 * 0)]) [(79, .iconst 1)] (by decide +kernel) rfl ?_
            have ho80_u := zU.o hU00
            obtain ⟨n124, f125, hu126, hu127, hu128, hu129, hu130⟩ := id hU00
            have kn124 := zrng n124
            refine zr_callV (idx := 147) (j := 252) (by decide +kernel) (by decide +kernel) (show zMe 252 = some zq_X15_number from rfl) rfl rfl (Nat.le_of_ble_eq_true rfl) rfl rfl hu126 (Nat.le_of_ble_eq_true rfl) (Nat.le_of_ble_eq_true rfl) (c_X15_number (w := wL45) (m + 276 + 2 * xT.toNatClampNeg + 2 + 2 * 0) 1 ho80_u (by first | omega | decide | assumption | exact zr1_1 | exact zr1_0 | fail "num") (by first | omega | decide | assumption | exact zr1_1 | exact zr1_0 | fail "num")) (by omega) (fun v80 w80 hp80 => ?_)
            obtain ⟨hsi80, heq80, hp80_0, rfl⟩ := hp80
            show zP _ _ _ _ [] _ _ _ _ _
            refine zp_seg (pc' := 85) (lv' := [(0, .ref m), (1, .ref u9), (2, .ref up9), (3, .ref dn9), (4, .int (gu 10)), (5, .ref (m + 276 + 2 * (g 1).toNatClampNeg)), (6, .ref (m + 276 + 2 * (g 1 + 1).toNatClampNeg)), (7, .ref (m + 276 + 2 * (g 1 + 1 + 1).toNatClampNeg)), (8, .int y8_27), (9, .int y9_45)]) (st' := [.int 0, .ref dn9]) [(83, .aload_n 3), (84, .iconst 0)] (by decide +kernel) rfl ?_
            have hb131 : w80 dn9 = some (.inr (4, 7, .inr (va_up fdw (y8_27.toNatClampNeg) (some (m + 276 + 2 * xT.toNatClampNeg))))) := ((heq80 dn9 (by omega)).trans (heqL45 dn9 (by omega))).trans hc41
            refine zr_aald (v := .ref (m + 276 + 2 * xT.toNatClampNeg)) (by decide +kernel) hb131 (by decide) (zin (by decide) (by decide)) (by rw [h07, va_up_self]; rfl) ?_
            refine zp_seg (pc' := 87) (lv' := [(0, .ref m), (1, .ref u9), (2, .ref up9), (3, .ref dn9), (4, .int (gu 10)), (5, .ref (m + 276 + 2 * (g 1).toNatClampNeg)), (6, .ref (m + 276 + 2 * (g 1 + 1).toNatClampNeg)), (7, .ref (m + 276 + 2 * (g 1 + 1 + 1).toNatClampNeg)), (8, .int y8_27), (9, .int y9_45)]) (st' := [.int 1, .ref (m + 276 + 2 * xT.toNatClampNeg)]) [(86, .iconst 1)] (by decide +kernel) rfl ?_
            have hb132 : zU w80 (m + 276 + 2 * xT.toNatClampNeg) 1000 zaZ := hp38_1.ag (fun x hx1 hx2 => ((heq80 x (by omega)).trans ((heqL45 x (by omega)).trans (heq41 x (by omega)))))
            have ho87_u := zU.o hb132
            have hb133 : w80 (m + 276 + 2 * xT.toNatClampNeg) = some (.inl (14, [.ref (m + 276 + 2 * xT.toNatClampNeg + 1), .int n25])) := ((heq80 (m + 276 + 2 * xT.toNatClampNeg) (by omega)).trans ((heqL45 (m + 276 + 2 * xT.toNatClampNeg) (by omega)).trans (heq41 (m + 276 + 2 * xT.toNatClampNeg) (by omega)))).trans hu27
            refine zr_callV (idx := 147) (j := 252) (by decide +kernel) (by decide +kernel) (show zMe 252 = some zq_X15_number from rfl) rfl rfl (Nat.le_of_ble_eq_true rfl) rfl rfl hb133 (Nat.le_of_ble_eq_true rfl) (Nat.le_of_ble_eq_true rfl) (c_X15_number (w := w80) (m + 276 + 2 * xT.toNatClampNeg) 1 ho87_u (by first | omega | decide | assumption | exact zr1_1 | exact zr1_0 | fail "num") (by first | omega | decide | assumption | exact zr1_1 | exact zr1_0 | fail "num")) (by omega) (fun v87 w87 hp87 => ?_)
            obtain ⟨hsi87, heq87, hp87_0, rfl⟩ := hp87
            show zP _ _ _ _ [] _ _ _ _ _
            refine zp_seg (pc' := 298) (lv' := [(0, .ref m), (1, .ref u9), (2, .ref up9), (3, .ref dn9), (4, .int (gu 10)), (5, .ref (m + 276 + 2 * (g 1).toNatClampNeg)), (6, .ref (m + 276 + 2 * (g 1 + 1).toNatClampNeg)), (7, .ref (m + 276 + 2 * (g 1 + 1 + 1).toNatClampNeg)), (8, .int y8_27), (9, .int y9_45)]) (st' := []) [(90, .goto 208)] (by decide +kernel) rfl ?_
            have hb134 : zU w87 (m + 276 + 2 * xT.toNatClampNeg + 2 + 2 * 0) 1000 (zaC (zf 1)) := hp80_0.ag (fun x hx1 hx2 => (heq87 x (by omega)))
            have hc1n : zln (zaC (zf 1)) = 1 := zln_C (zf_nz zr1_1 (by decide))
            obtain ⟨Dq, hDq⟩ : ∃ D, zU w87 (m + 276 + 2 * xT.toNatClampNeg) 1000 D ∧ 0 < zln D ∧ zln D ≤ 6 * y8_27.toNatClampNeg + 1 := ⟨_, hp87_0, by omega, by omega⟩
            obtain ⟨Uq, hUq, hUq0⟩ : ∃ V : Nat → zA1, (∀ j, j < (gu 10).toNatClampNeg → zU w87 (m + 276 + 2 * xT.toNatClampNeg + 2 + 2 * j) 1000 (V j) ∧ zln (V j) ≤ 6 * y8_27.toNatClampNeg + 1) ∧ (y8_27.toNatClampNeg = 0 → 0 < zln (V 0)) := by
              refine ⟨fun t => if t = 0 then zaC (zf 1) else zaZ, fun j hj => ?_, fun _ => by simp only [if_true]; omega⟩
              by_cases e : j = 0
              · simp only [if_pos e]; rw [e]; exact ⟨hb134, by omega⟩
              · simp only [if_neg e]; exact ⟨(hPz j (by omega)).ag (fun x g1 g2 => ((heq87 x (by omega)).trans (heq80 x (by omega)))), by rw [zln_Z]; omega⟩
            refine zp_seg (pc' := 301) (lv' := [(8, .int (y8_27 + 1)), (0, .ref m), (1, .ref u9), (2, .ref up9), (3, .ref dn9), (4, .int (gu 10)), (5, .ref (m + 276 + 2 * (g 1).toNatClampNeg)), (6, .ref (m + 276 + 2 * (g 1 + 1).toNatClampNeg)), (7, .ref (m + 276 + 2 * (g 1 + 1 + 1).toNatClampNeg)), (9, .int y9_45)]) (st' := []) [(298, .iinc 8 1)] (by decide +kernel) rfl ?_
            have k135 := zaddC y8_27 1 (n := 1) (by decide) (by omega) (by omega)
            generalize ev301 : (y8_27 + 1 : Int32) = v301 at k135 ⊢
            have kv301 := zrng v301
            refine zp_seg (pc' := 27) (lv' := [(8, .int v301), (0, .ref m), (1, .ref u9), (2, .ref up9), (3, .ref dn9), (4, .int (gu 10)), (5, .ref (m + 276 + 2 * (g 1).toNatClampNeg)), (6, .ref (m + 276 + 2 * (g 1 + 1).toNatClampNeg)), (7, .ref (m + 276 + 2 * (g 1 + 1 + 1).toNatClampNeg)), (9, .int y9_45)]) (st' := []) [(301, .goto (-274))] (by decide +kernel) rfl ?_
            have hz136 : (v301.toNatClampNeg : Int) = v301.toInt := znat (by first | omega | decide)
            have hb137 : w87 m = some (.inl (15, zMo m (zs g 1 xJ) r)) := ((heq87 m (by omega)).trans (heq80 m (by omega))).trans hxJM
            have hb138 : w87 dn9 = some (.inr (4, 7, .inr (va_up fdw (y8_27.toNatClampNeg) (some (m + 276 + 2 * xT.toNatClampNeg))))) := (heq87 dn9 (by omega)).trans hb131
            have hb139 := hUo0.si ((((hsi38.tr hsi41).tr hsiL45).tr hsi80).tr hsi87)
            have hb140 := hUo1.si ((((hsi38.tr hsi41).tr hsiL45).tr hsi80).tr hsi87)
            have hb141 := hUo2.si ((((hsi38.tr hsi41).tr hsiL45).tr hsi80).tr hsi87)
            have hb142 : w87 (up9 + 1 + y8_27.toNatClampNeg) = some (.inr (4, 6, .inr fr)) := ((heq87 (up9 + 1 + y8_27.toNatClampNeg) (by omega)).trans (heq80 (up9 + 1 + y8_27.toNatClampNeg) (by omega))).trans hVr
            exact (ih27 w87 v301 (xJ) (fun t => if t = y8_27.toNatClampNeg then m + 276 + 2 * xT.toNatClampNeg else Eb t) ((va_up fdw (y8_27.toNatClampNeg) (some (m + 276 + 2 * xT.toNatClampNeg)))) (fun t => if t = y8_27.toNatClampNeg then Dq else Dn t) (fun t => if t = y8_27.toNatClampNeg then Uq else Up t) (((((hsiL27.tr hsi38).tr hsi41).tr hsiL45).tr hsi80).tr hsi87) (fun x hx => ((heq87 x (by omega)).trans ((heq80 x (by omega)).trans ((heqL45 x (by omega)).trans ((heq41 x (zx_X16_unroll_40 hx.1.2.2.1 hmd)).trans ((heq38 x (by omega)).trans (heqL27 x ⟨⟨hx.1.1, hx.1.2.1, hx.1.2.2.1, hx.1.2.2.2⟩, hx.2⟩))))))) (by first | assumption | omega | decide) (by first | assumption | omega | decide) (by
                  exact hb137) hb138 hb139 hb140 hb141 (by
                  exact ⟨by omega, by omega⟩) (by
                  intro t ht
                  by_cases e : t = y8_27.toNatClampNeg
                  · simp only [if_pos e]
                    rw [e, va_up_self]
                    exact ⟨by omega, by omega, rfl⟩
                  · simp only [if_neg e]
                    rw [va_up_ne _ _ e]
                    have h9 := hEb t (by omega)
                    exact ⟨h9.1, Nat.le_trans h9.2.1 (by omega), h9.2.2⟩) (by
                  intro t ht
                  by_cases e : t = y8_27.toNatClampNeg
                  · simp only [if_pos e]
                    rw [e]
                    exact ⟨fr, hb142, fun j hj => hfr j (by omega)⟩
                  · simp only [if_neg e]
                    have hN : ∀ x, x = up9 + 1 + t → w87 x = wL27 x := fun x hx => ((heq87 x (by omega)).trans ((heq80 x (by omega)).trans ((heqL45 x (by omega)).trans ((heq41 x (by omega)).trans (heq38 x (by omega))))))
                    obtain ⟨f, h1, h2⟩ := hRw t (by omega)
                    exact ⟨f, (hN _ rfl).trans h1, h2⟩) (by
                  intro t h1 h2
                  have hN : ∀ x, x = up9 + 1 + t → w87 x = wL27 x := fun x hx => ((heq87 x (by omega)).trans ((heq80 x (by omega)).trans ((heqL45 x (by omega)).trans ((heq41 x (by omega)).trans (heq38 x (by omega))))))
                  obtain ⟨f, h3⟩ := hRo t (by omega) h2
                  exact ⟨f, (hN _ rfl).trans h3⟩) (by
                  intro t ht
                  by_cases e : t = y8_27.toNatClampNeg
                  · simp only [if_pos e]
                    rw [e]
                    exact hDq
                  · simp only [if_neg e]
                    have h8 := hEb t (by omega)
                    have h9 := hDn t (by omega)
                    exact ⟨h9.1.ag (fun x g1 g2 => ((heq87 x (by omega)).trans ((heq80 x (by omega)).trans ((heqL45 x (by omega)).trans ((heq41 x (by omega)).trans (heq38 x (by omega))))))), h9.2⟩) (by
                  intro t ht j hj
                  by_cases e : t = y8_27.toNatClampNeg
                  · simp only [if_pos e]
                    rw [e]
                    exact hUq j hj
                  · simp only [if_neg e]
                    have h8 := hEb t (by omega)
                    have h9 := hUp t (by omega) j hj
                    exact ⟨h9.1.ag (fun x g1 g2 => ((heq87 x (by omega)).trans ((heq80 x (by omega)).trans ((heqL45 x (by omega)).trans ((heq41 x (by omega)).trans (heq38 x (by omega))))))), h9.2⟩) (by
                  intro _
                  by_cases e : 0 = y8_27.toNatClampNeg
                  · simp only [if_pos e]; exact hUq0 e.symm
                  · simp only [if_neg e]; exact hZ0 (by omega)) (by omega)).more (zfa1 rfl (zfa1 rfl (zfa1 rfl (zfa1 rfl (zfa1 rfl (zfa1 rfl (zfa1 rfl (zfa1 rfl (zfa1 rfl (zfa0))))))))))
        ·
          have f143 := znleI cc49
          refine zp_seg (pc' := 55) (lv' := [(0, .ref m), (1, .ref u9), (2, .ref up9), (3, .ref dn9), (4, .int (gu 10)), (5, .ref (m + 276 + 2 * (g 1).toNatClampNeg)), (6, .ref (m + 276 + 2 * (g 1 + 1).toNatClampNeg)), (7, .ref (m + 276 + 2 * (g 1 + 1 + 1).toNatClampNeg)), (8, .int y8_27), (9, .int y9_45)]) (st' := [.int y8_27, .ref up9]) [(52, .aload_n 2), (53, .iload 8)] (by decide +kernel) rfl ?_
          have hb144 : wL45 up9 = some (.inr (8, 7, .inr fw)) := ((heqL45 up9 (by omega)).trans ((heq41 up9 (zx_X16_unroll_35 hmw hmd)).trans ((heq38 up9 (by omega)).trans ((heqL27 up9 ⟨⟨(zx_X16_unroll_27 hmw), (zx_X16_unroll_31 hmw), (zx_X16_unroll_32 hmw hmd), (zx_X16_unroll_33 hmw hgb1)⟩, (zx_X16_unroll_34 hmw)⟩).trans ((heq19 up9 ⟨(zx_X16_unroll_27 hmw), (zx_X16_unroll_30 hmw hgn1_2 hgb1)⟩).trans ((heq13 up9 ⟨(zx_X16_unroll_27 hmw), (zx_X16_unroll_29 hmw hgn1_1 hgb1)⟩).trans (heq7 up9 ⟨(zx_X16_unroll_27 hmw), (zx_X16_unroll_28 hmw hgb1)⟩))))))).trans hV_up9
          refine zr_aald (v := .ref (up9 + 1 + y8_27.toNatClampNeg)) (by decide +kernel) hb144 (by decide) (zin (by first | omega | decide) (by first | omega | decide)) (by rw [hfw _ (by omega)]; rfl) ?_
          refine zp_seg (pc' := 59) (lv' := [(0, .ref m), (1, .ref u9), (2, .ref up9), (3, .ref dn9), (4, .int (gu 10)), (5, .ref (m + 276 + 2 * (g 1).toNatClampNeg)), (6, .ref (m + 276 + 2 * (g 1 + 1).toNatClampNeg)), (7, .ref (m + 276 + 2 * (g 1 + 1 + 1).toNatClampNeg)), (8, .int y8_27), (9, .int y9_45)]) (st' := [.ref m, .int y9_45, .ref (up9 + 1 + y8_27.toNatClampNeg)]) [(56, .iload 9), (58, .aload_n 0)] (by decide +kernel) rfl ?_
          have k145 := zrng xJ
          have hz146 : (xJ.toNatClampNeg : Int) = xJ.toInt := znat (by first | omega | decide)
          have hb147 := hb23.si ((hsi38.tr hsi41).tr hsiL45)
          refine zr_callV (idx := 74) (j := 263) (by decide +kernel) (by decide +kernel) (show zMe 263 = some zq_X16_newU from rfl) rfl rfl (Nat.le_of_ble_eq_true rfl) rfl rfl hxJM (Nat.le_of_ble_eq_true rfl) (Nat.le_of_ble_eq_true rfl) (c_X16_newU (w := wL45) (g1 := xJ) m hxJM hb147 (by first | omega | decide | assumption | exact zr1_1 | exact zr1_0 | fail "num") rfl) (by omega) (fun v59 w59 hp59 => ?_)
          obtain ⟨hsi59, heq59, hp59_0, hp59_1, rfl⟩ := hp59
          have hM59 : w59 m = some (.inl (15, zMo m (zs g 1 (xJ + 1)) r)) := hp59_0
          show zP _ _ _ _ [.ref (m + 276 + 2 * xJ.toNatClampNeg), .int y9_45, .ref (up9 + 1 + y8_27.toNatClampNeg)] _ _ _ _ _
          have hb148 : w59 (up9 + 1 + y8_27.toNatClampNeg) = some (.inr (4, 6, .inr fr)) := (heq59 (up9 + 1 + y8_27.toNatClampNeg) (by omega)).trans hVr
          obtain ⟨n149, f150, hu151, hu152, hu153, hu154, hu155⟩ := id hp59_1
          have kn149 := zrng n149
          refine zr_aast (by decide +kernel) hb148 hu151 (by decide) (zin (by first | omega | decide) (by first | omega | decide)) ?_
          show zP (d + 1) zq_X16_unroll 63 [(0, .ref m), (1, .ref u9), (2, .ref up9), (3, .ref dn9), (4, .int (gu 10)), (5, .ref (m + 276 + 2 * (g 1).toNatClampNeg)), (6, .ref (m + 276 + 2 * (g 1 + 1).toNatClampNeg)), (7, .ref (m + 276 + 2 * (g 1 + 1 + 1).toNatClampNeg)), (8, .int y8_27), (9, .int y9_45)] [] (zup w59 (up9 + 1 + y8_27.toNatClampNeg) (.inr (4, 6, .inr (va_up fr (y9_45.toNatClampNeg) (some (m + 276 + 2 * xJ.toNatClampNeg)))))) sz 0 0 Post
          obtain ⟨w62, ew62⟩ : ∃ wz9, wz9 = zup w59 (up9 + 1 + y8_27.toNatClampNeg) (.inr (4, 6, .inr (va_up fr (y9_45.toNatClampNeg) (some (m + 276 + 2 * xJ.toNatClampNeg))))) := ⟨_, rfl⟩
          have hsi62 : zSI w59 w62 := by rw [ew62]; exact zSI.refs _ hb148 (by decide)
          have heq62 : ∀ x, x ≠ up9 + 1 + y8_27.toNatClampNeg → w62 x = w59 x := fun x hx => by rw [ew62]; exact zup_n hx
          have hc62 : w62 (up9 + 1 + y8_27.toNatClampNeg) = some (.inr (4, 6, .inr (va_up fr (y9_45.toNatClampNeg) (some (m + 276 + 2 * xJ.toNatClampNeg))))) := by rw [ew62]; exact zup_s
          rw [← ew62]
          clear ew62
          refine zp_seg (pc' := 66) (lv' := [(9, .int (y9_45 + 1)), (0, .ref m), (1, .ref u9), (2, .ref up9), (3, .ref dn9), (4, .int (gu 10)), (5, .ref (m + 276 + 2 * (g 1).toNatClampNeg)), (6, .ref (m + 276 + 2 * (g 1 + 1).toNatClampNeg)), (7, .ref (m + 276 + 2 * (g 1 + 1 + 1).toNatClampNeg)), (8, .int y8_27)]) (st' := []) [(63, .iinc 9 1)] (by decide +kernel) rfl ?_
          have k156 := zaddC y9_45 1 (n := 1) (by decide) (by omega) (by omega)
          generalize ev66 : (y9_45 + 1 : Int32) = v66 at k156 ⊢
          have kv66 := zrng v66
          refine zp_seg (pc' := 45) (lv' := [(9, .int v66), (0, .ref m), (1, .ref u9), (2, .ref up9), (3, .ref dn9), (4, .int (gu 10)), (5, .ref (m + 276 + 2 * (g 1).toNatClampNeg)), (6, .ref (m + 276 + 2 * (g 1 + 1).toNatClampNeg)), (7, .ref (m + 276 + 2 * (g 1 + 1 + 1).toNatClampNeg)), (8, .int y8_27)]) (st' := []) [(66, .goto (-21))] (by decide +kernel) rfl ?_
          have hz157 : (v66.toNatClampNeg : Int) = v66.toInt := znat (by first | omega | decide)
          have hb158 : w62 m = some (.inl (15, zMo m (zs g 1 (xJ + 1)) r)) := (heq62 m (by omega)).trans hM59
          have hb159 : zU w62 (m + 276 + 2 * xJ.toNatClampNeg) 1000 zaZ := hp59_1.ag (fun x hx1 hx2 => (heq62 x (by omega)))
          exact (ih45 w62 v66 (((xJ + 1))) ((va_up fr (y9_45.toNatClampNeg) (some (m + 276 + 2 * xJ.toNatClampNeg)))) ((hsiL45.tr hsi59).tr hsi62) (fun x hx => ((heq62 x (by omega)).trans ((heq59 x (by omega)).trans (heqL45 x ⟨⟨hx.1.1, hx.1.2.1, hx.1.2.2⟩, hx.2⟩)))) (by first | assumption | omega | decide) (by first | assumption | omega | decide) (by
                exact hb158) hc62 (by
                have z9 := zaddC xJ 1 (n := 1) (by decide) (by omega) (by omega)
                omega) (by
                intro t ht
                have hzT := znat (x := xJ) (by omega)
                by_cases e : t = y9_45.toNatClampNeg
                · rw [e, va_up_self, show m + 276 + 2 * xJ.toNatClampNeg = m + 276 + 2 * xT.toNatClampNeg + 2 + 2 * y9_45.toNatClampNeg by omega]
                · rw [va_up_ne _ _ e]; exact hfr t (by omega)) (by
                intro t ht
                have hzT := znat (x := xJ) (by omega)
                by_cases e : t = y9_45.toNatClampNeg
                · rw [e, ← show m + 276 + 2 * xJ.toNatClampNeg = m + 276 + 2 * xT.toNatClampNeg + 2 + 2 * y9_45.toNatClampNeg by omega]; exact hb159
                · exact (hPz t (by omega)).ag (fun x g1 g2 => ((heq62 x (by omega)).trans (heq59 x (by omega))))) (by omega)).more (zfa1 rfl (zfa1 rfl (zfa1 rfl (zfa1 rfl (zfa1 rfl (zfa1 rfl (zfa1 rfl (zfa1 rfl (zfa1 rfl (zfa1 rfl (zfa0)))))))))))
      have hl160 : (0 : Int32).toInt = 0 := by decide
      have hz161 : ((0 : Int32).toNatClampNeg : Int) = 0 := by decide
      exact (hL45 _ w41 0 (((xT + 1))) (fr0) zSI.rf (fun _ _ => rfl) (by first | assumption | omega | decide) (by first | assumption | omega | decide) (by
            exact hb32) hfr0 (by
            omega) (by
            exact fun t ht => absurd ht (by omega)) (by
            exact fun t ht => absurd ht (by omega)) (Nat.lt_succ_self _)).more (zfa1 rfl (zfa1 rfl (zfa1 rfl (zfa1 rfl (zfa1 rfl (zfa1 rfl (zfa1 rfl (zfa1 rfl (zfa1 rfl (zfa1 rfl (zfa0)))))))))))
  have hl162 : (0 : Int32).toInt = 0 := by decide
  have hz163 : ((0 : Int32).toNatClampNeg : Int) = 0 := by decide
  have hb164 : w19 dn9 = some (.inr (4, 7, .inr fd)) := ((heq19 dn9 ⟨(zx_X16_unroll_4 hmd), (zx_X16_unroll_39 hmd hgn1_2 hgb1)⟩).trans ((heq13 dn9 ⟨(zx_X16_unroll_4 hmd), (zx_X16_unroll_25 hmd hgn1_1 hgb1)⟩).trans (heq7 dn9 ⟨(zx_X16_unroll_4 hmd), (zx_X16_unroll_24 hmd hgb1)⟩))).trans hV_dn9
  have hb165 : zU w19 (m + 276 + 2 * (g 1).toNatClampNeg) 1000 zaZ := hp7_1.ag (fun x hx1 hx2 => ((heq19 x ⟨(zx_X16_unroll_46 hx1 hx2 hgb1), (zx_X16_unroll_47 hx1 hx2 hgn1_2 hgb1)⟩).trans (heq13 x ⟨(zx_X16_unroll_46 hx1 hx2 hgb1), (zx_X16_unroll_26 hx1 hx2 hgn1_1 hgb1)⟩)))
  have hb166 : zU w19 (m + 276 + 2 * (g 1 + 1).toNatClampNeg) 1000 zaZ := hp13_1.ag (fun x hx1 hx2 => (heq19 x ⟨(zx_X16_unroll_44 hx1 hx2 hgn1_1 hgb1), (zx_X16_unroll_43 hx1 hx2 hgn1_1 hgn1_2 hgb1)⟩))
  exact (hL27 _ w19 0 (((g 1 + 1 + 1 + 1))) (fun _ => 0) (fd) (fun _ => zaZ) (fun _ _ => zaZ) zSI.rf (fun _ _ => rfl) (by first | assumption | omega | decide) (by first | assumption | omega | decide) (by
        exact hM19) hb164 (zU.o hb165) (zU.o hb166) (zU.o hp19_1) (by
        exact ⟨by omega, by omega⟩) (by
        exact fun t ht => absurd ht (by omega)) (by
        exact fun t ht => absurd ht (by omega)) (by
        intro t _ ht
        obtain ⟨f, hf⟩ := hrw t ht
        have hN : ∀ x, x = up9 + 1 + t → w19 x = w x := fun x hx => ((heq19 x (by omega)).trans ((heq13 x (by omega)).trans (heq7 x (by omega))))
        exact ⟨f, (hN _ rfl).trans hf⟩) (by
        exact fun t ht => absurd ht (by omega)) (by
        exact fun t ht => absurd ht (by omega)) (by
        exact fun ht => absurd ht (by omega)) (Nat.lt_succ_self _)).more (zfa1 rfl (zfa1 rfl (zfa1 rfl (zfa1 rfl (zfa1 rfl (zfa1 rfl (zfa1 rfl (zfa1 rfl (zfa1 rfl (zfa0))))))))))
