theorem zx_X16_strip_0 {G1_0 m : Nat} (h0 : G1_0 + 3 ≤ 160) : (m + 276 + 2 * G1_0) < m ∨ m + 1 ≤ (m + 276 + 2 * G1_0) := by omega
theorem zx_X16_strip_1 {G1_0 G1_1 m : Nat} (h0 : G1_1 = G1_0 + 1) (h1 : G1_0 + 3 ≤ 160) : (m + 276 + 2 * G1_0) < m + 276 + 2 * G1_1 ∨ m + 276 + 2 * G1_1 + 2 ≤ (m + 276 + 2 * G1_0) := by omega
theorem zx_X16_strip_2 {G1_0 G1_2 m : Nat} (h0 : G1_2 = G1_0 + 2) (h1 : G1_0 + 3 ≤ 160) : (m + 276 + 2 * G1_0) < m + 276 + 2 * G1_2 ∨ m + 276 + 2 * G1_2 + 2 ≤ (m + 276 + 2 * G1_0) := by omega
theorem zx_X16_strip_3 {G1_0 m : Nat} (h0 : G1_0 + 3 ≤ 160) : (m + 276 + 2 * G1_0 + 1) < m ∨ m + 1 ≤ (m + 276 + 2 * G1_0 + 1) := by omega
theorem zx_X16_strip_4 {G1_0 G1_1 m : Nat} (h0 : G1_1 = G1_0 + 1) (h1 : G1_0 + 3 ≤ 160) : (m + 276 + 2 * G1_0 + 1) < m + 276 + 2 * G1_1 ∨ m + 276 + 2 * G1_1 + 2 ≤ (m + 276 + 2 * G1_0 + 1) := by omega
theorem zx_X16_strip_5 {G1_0 G1_2 m : Nat} (h0 : G1_2 = G1_0 + 2) (h1 : G1_0 + 3 ≤ 160) : (m + 276 + 2 * G1_0 + 1) < m + 276 + 2 * G1_2 ∨ m + 276 + 2 * G1_2 + 2 ≤ (m + 276 + 2 * G1_0 + 1) := by omega
theorem zx_X16_strip_6 {G1_0 m : Nat} (h0 : G1_0 + 3 ≤ 160) : (m + 276 + 2 * G1_0) ≠ m + 276 + 2 * G1_0 + 1 := by omega
theorem zx_X16_strip_7 {G1_0 m : Nat} (h0 : G1_0 + 3 ≤ 160) : (m + 276 + 2 * G1_0 + 1) ≠ m + 276 + 2 * G1_0 := by omega
theorem zx_X16_strip_8 {G1_0 a m : Nat} (h0 : (m + 276 ≤ a ∧ a + 2 ≤ m + 276 + 2 * G1_0) ∨ m + 596 ≤ a) (h1 : G1_0 + 3 ≤ 160) : a < m ∨ m + 1 ≤ a := by omega
theorem zx_X16_strip_9 {G1_0 a m : Nat} (h0 : (m + 276 ≤ a ∧ a + 2 ≤ m + 276 + 2 * G1_0) ∨ m + 596 ≤ a) (h1 : G1_0 + 3 ≤ 160) : a < m + 276 + 2 * G1_0 ∨ m + 276 + 2 * G1_0 + 2 ≤ a := by omega
theorem zx_X16_strip_10 {G1_0 G1_1 a m : Nat} (h0 : (m + 276 ≤ a ∧ a + 2 ≤ m + 276 + 2 * G1_0) ∨ m + 596 ≤ a) (h1 : G1_1 = G1_0 + 1) (h2 : G1_0 + 3 ≤ 160) : a < m + 276 + 2 * G1_1 ∨ m + 276 + 2 * G1_1 + 2 ≤ a := by omega
theorem zx_X16_strip_11 {G1_0 G1_2 a m : Nat} (h0 : (m + 276 ≤ a ∧ a + 2 ≤ m + 276 + 2 * G1_0) ∨ m + 596 ≤ a) (h1 : G1_2 = G1_0 + 2) (h2 : G1_0 + 3 ≤ 160) : a < m + 276 + 2 * G1_2 ∨ m + 276 + 2 * G1_2 + 2 ≤ a := by omega
theorem zx_X16_strip_12 {G1_0 a m : Nat} (h0 : (m + 276 ≤ a ∧ a + 2 ≤ m + 276 + 2 * G1_0) ∨ m + 596 ≤ a) (h1 : G1_0 + 3 ≤ 160) : a ≠ m + 276 + 2 * G1_0 + 1 := by omega
theorem zx_X16_strip_13 {G1_0 a m : Nat} (h0 : (m + 276 ≤ a ∧ a + 2 ≤ m + 276 + 2 * G1_0) ∨ m + 596 ≤ a) (h1 : G1_0 + 3 ≤ 160) : a ≠ m + 276 + 2 * G1_0 := by omega
theorem zx_X16_strip_14 {G1_0 m : Nat} (h0 : G1_0 + 3 ≤ 160) : m ≠ m + 276 + 2 * G1_0 + 1 := by omega
theorem zx_X16_strip_15 {G1_0 m : Nat} (h0 : G1_0 + 3 ≤ 160) : m ≠ m + 276 + 2 * G1_0 := by omega
theorem zx_X16_strip_16 {G1_0 m x : Nat} (h0 : x < m + 276 + 2 * G1_0 ∨ m + 276 + 2 * G1_0 + (320 - 2 * G1_0) ≤ x) (h1 : G1_0 + 3 ≤ 160) : x < m + 276 + 2 * G1_0 ∨ m + 276 + 2 * G1_0 + 2 ≤ x := by omega
theorem zx_X16_strip_17 {G1_0 G1_1 m x : Nat} (h0 : x < m + 276 + 2 * G1_0 ∨ m + 276 + 2 * G1_0 + (320 - 2 * G1_0) ≤ x) (h1 : G1_1 = G1_0 + 1) (h2 : G1_0 + 3 ≤ 160) : x < m + 276 + 2 * G1_1 ∨ m + 276 + 2 * G1_1 + 2 ≤ x := by omega
theorem zx_X16_strip_18 {G1_0 G1_2 m x : Nat} (h0 : x < m + 276 + 2 * G1_0 ∨ m + 276 + 2 * G1_0 + (320 - 2 * G1_0) ≤ x) (h1 : G1_2 = G1_0 + 2) (h2 : G1_0 + 3 ≤ 160) : x < m + 276 + 2 * G1_2 ∨ m + 276 + 2 * G1_2 + 2 ≤ x := by omega
theorem zx_X16_strip_19 {G1_0 m x : Nat} (h0 : x < m + 276 + 2 * G1_0 ∨ m + 276 + 2 * G1_0 + (320 - 2 * G1_0) ≤ x) (h1 : G1_0 + 3 ≤ 160) : x ≠ m + 276 + 2 * G1_0 + 1 := by omega
theorem zx_X16_strip_20 {G1_0 m x : Nat} (h0 : x < m + 276 + 2 * G1_0 ∨ m + 276 + 2 * G1_0 + (320 - 2 * G1_0) ≤ x) (h1 : G1_0 + 3 ≤ 160) : x ≠ m + 276 + 2 * G1_0 := by omega
theorem zx_X16_strip_21 {G1_0 G1_1 m x : Nat} (h0 : x < m + 276 + 2 * G1_0 ∨ m + 276 + 2 * G1_0 + (320 - 2 * G1_0) ≤ x) (h1 : G1_1 = G1_0 + 1) (h2 : G1_0 + 3 ≤ 160) : x < m + 276 + 2 * G1_1 ∨ m + 276 + 2 * G1_1 + 4 ≤ x := by omega
theorem zx_X16_strip_22 {m x : Nat} (h0 : x < m ∨ m + 1 ≤ x) : x ≠ m := by omega
theorem zx_X16_strip_23 {G1_0 a m x : Nat} (h0 : a ≤ x) (h1 : x < a + 2) (h2 : (m + 276 ≤ a ∧ a + 2 ≤ m + 276 + 2 * G1_0) ∨ m + 596 ≤ a) (h3 : G1_0 + 3 ≤ 160) : x ≠ m := by omega
theorem zx_X16_strip_24 {G1_0 a m x : Nat} (h0 : m + 276 + 2 * G1_0 ≤ x) (h1 : x < m + 276 + 2 * G1_0 + 2) (h2 : (m + 276 ≤ a ∧ a + 2 ≤ m + 276 + 2 * G1_0) ∨ m + 596 ≤ a) (h3 : G1_0 + 3 ≤ 160) : x < a ∨ a + 2 ≤ x := by omega
theorem zx_X16_strip_25 {G1_0 G1_1 m x : Nat} (h0 : m + 276 + 2 * G1_0 ≤ x) (h1 : x < m + 276 + 2 * G1_0 + 2) (h2 : G1_1 = G1_0 + 1) (h3 : G1_0 + 3 ≤ 160) : x < m + 276 + 2 * G1_1 ∨ m + 276 + 2 * G1_1 + 4 ≤ x := by omega
theorem zx_X16_strip_26 {G1_0 m x : Nat} (h0 : m + 276 + 2 * G1_0 ≤ x) (h1 : x < m + 276 + 2 * G1_0 + 2) (h2 : G1_0 + 3 ≤ 160) : x ≠ m := by omega
theorem zx_X16_strip_27 {G1_0 G1_1 G1_2 m x : Nat} (h0 : x < m + 276 + 2 * G1_1 ∨ m + 276 + 2 * G1_1 + 4 ≤ x) (h1 : G1_1 = G1_0 + 1) (h2 : G1_2 = G1_0 + 2) (h3 : G1_0 + 3 ≤ 160) : x < m + 276 + 2 * G1_2 ∨ m + 276 + 2 * G1_2 + 2 ≤ x := by omega
theorem zx_X16_strip_28 {G1_0 G1_1 m x : Nat} (h0 : x < m + 276 + 2 * G1_1 ∨ m + 276 + 2 * G1_1 + 4 ≤ x) (h1 : G1_1 = G1_0 + 1) (h2 : G1_0 + 3 ≤ 160) : x < m + 276 + 2 * G1_1 ∨ m + 276 + 2 * G1_1 + 2 ≤ x := by omega
theorem zx_X16_strip_29 {G1_0 G1_2 a m x : Nat} (h0 : a ≤ x) (h1 : x < a + 2) (h2 : (m + 276 ≤ a ∧ a + 2 ≤ m + 276 + 2 * G1_0) ∨ m + 596 ≤ a) (h3 : G1_2 = G1_0 + 2) (h4 : G1_0 + 3 ≤ 160) : x < m + 276 + 2 * G1_2 ∨ m + 276 + 2 * G1_2 + 2 ≤ x := by omega
theorem zx_X16_strip_30 {G1_0 G1_1 a m x : Nat} (h0 : a ≤ x) (h1 : x < a + 2) (h2 : (m + 276 ≤ a ∧ a + 2 ≤ m + 276 + 2 * G1_0) ∨ m + 596 ≤ a) (h3 : G1_1 = G1_0 + 1) (h4 : G1_0 + 3 ≤ 160) : x < m + 276 + 2 * G1_1 ∨ m + 276 + 2 * G1_1 + 2 ≤ x := by omega
theorem zx_X16_strip_31 {G1_0 G1_2 m : Nat} (h0 : G1_2 = G1_0 + 2) (h1 : G1_0 + 3 ≤ 160) : m < m + 276 + 2 * G1_2 ∨ m + 276 + 2 * G1_2 + 2 ≤ m := by omega
theorem zx_X16_strip_32 {G1_0 G1_1 m : Nat} (h0 : G1_1 = G1_0 + 1) (h1 : G1_0 + 3 ≤ 160) : m < m + 276 + 2 * G1_1 ∨ m + 276 + 2 * G1_1 + 2 ≤ m := by omega
theorem zx_X16_strip_33 {G1_0 a m : Nat} (h0 : (m + 276 ≤ a ∧ a + 2 ≤ m + 276 + 2 * G1_0) ∨ m + 596 ≤ a) (h1 : G1_0 + 3 ≤ 160) : m < a ∨ a + 2 ≤ m := by omega
theorem zx_X16_strip_34 {G1_0 a m x : Nat} (h0 : a ≤ x) (h1 : x < a + 2) (h2 : (m + 276 ≤ a ∧ a + 2 ≤ m + 276 + 2 * G1_0) ∨ m + 596 ≤ a) (h3 : G1_0 + 3 ≤ 160) : x < m ∨ m + 1 ≤ x := by omega
theorem zx_X16_strip_35 {G1_0 a m x : Nat} (h0 : a ≤ x) (h1 : x < a + 2) (h2 : (m + 276 ≤ a ∧ a + 2 ≤ m + 276 + 2 * G1_0) ∨ m + 596 ≤ a) (h3 : G1_0 + 3 ≤ 160) : x < m + 276 + 2 * G1_0 ∨ m + 276 + 2 * G1_0 + 2 ≤ x := by omega
theorem zx_X16_strip_36 {G1_0 a m x : Nat} (h0 : a ≤ x) (h1 : x < a + 2) (h2 : (m + 276 ≤ a ∧ a + 2 ≤ m + 276 + 2 * G1_0) ∨ m + 596 ≤ a) (h3 : G1_0 + 3 ≤ 160) : x ≠ m + 276 + 2 * G1_0 + 1 := by omega
theorem zx_X16_strip_37 {G1_0 a m x : Nat} (h0 : a ≤ x) (h1 : x < a + 2) (h2 : (m + 276 ≤ a ∧ a + 2 ≤ m + 276 + 2 * G1_0) ∨ m + 596 ≤ a) (h3 : G1_0 + 3 ≤ 160) : x ≠ m + 276 + 2 * G1_0 := by omega
theorem zx_X16_strip_38 {G1_0 G1_1 m x : Nat} (h0 : m + 276 + 2 * G1_1 ≤ x) (h1 : x < m + 276 + 2 * G1_1 + 2) (h2 : G1_1 = G1_0 + 1) (h3 : G1_0 + 3 ≤ 160) : x < m ∨ m + 1 ≤ x := by omega
theorem zx_X16_strip_39 {G1_0 G1_1 G1_2 m x : Nat} (h0 : m + 276 + 2 * G1_1 ≤ x) (h1 : x < m + 276 + 2 * G1_1 + 2) (h2 : G1_1 = G1_0 + 1) (h3 : G1_2 = G1_0 + 2) (h4 : G1_0 + 3 ≤ 160) : x < m + 276 + 2 * G1_2 ∨ m + 276 + 2 * G1_2 + 2 ≤ x := by omega
theorem zx_X16_strip_40 {G1_0 G1_1 m x : Nat} (h0 : m + 276 + 2 * G1_1 ≤ x) (h1 : x < m + 276 + 2 * G1_1 + 2) (h2 : G1_1 = G1_0 + 1) (h3 : G1_0 + 3 ≤ 160) : x ≠ m + 276 + 2 * G1_0 + 1 := by omega
theorem zx_X16_strip_41 {G1_0 G1_1 m x : Nat} (h0 : m + 276 + 2 * G1_1 ≤ x) (h1 : x < m + 276 + 2 * G1_1 + 2) (h2 : G1_1 = G1_0 + 1) (h3 : G1_0 + 3 ≤ 160) : x ≠ m + 276 + 2 * G1_0 := by omega
theorem zx_X16_strip_42 {G1_0 G1_2 m x : Nat} (h0 : m + 276 + 2 * G1_2 ≤ x) (h1 : x < m + 276 + 2 * G1_2 + 2) (h2 : G1_2 = G1_0 + 2) (h3 : G1_0 + 3 ≤ 160) : x ≠ m + 276 + 2 * G1_0 + 1 := by omega
theorem zx_X16_strip_43 {G1_0 G1_2 m x : Nat} (h0 : m + 276 + 2 * G1_2 ≤ x) (h1 : x < m + 276 + 2 * G1_2 + 2) (h2 : G1_2 = G1_0 + 2) (h3 : G1_0 + 3 ≤ 160) : x ≠ m + 276 + 2 * G1_0 := by omega
set_option maxHeartbeats 8000000 in
set_option maxRecDepth 100000 in
theorem c_X16_strip {w : zM} {g : Nat → Int32} {r : Nat → Value} {ca : Nat} {p : zA1} {g1 : Int32} (m : Nat) (a : Nat) (c : Int32) (hm : w m = some (.inl (15, zMo m g r))) (hR_m : zR m w) (hU_a : zU w a ca p) (hut : 0 ≤ g1.toInt ∧ g1.toInt + 3 ≤ 160) (hoa : (m + 276 ≤ a ∧ a + 2 ≤ m + 276 + 2 * g1.toNatClampNeg) ∨ m + 596 ≤ a) (hc9 : -100 ≤ c.toInt ∧ c.toInt ≤ 100) (hsz : zln p ≤ 25 ∧ 25 ≤ ca ∧ ca ≤ 1000) (hg1 : g 1 = g1) : zCon 4 zq_X16_strip [.ref m, .ref a, .int c] w (fun v9 w9' => ∃ P9 : zA1, zSI w w9' ∧ (∀ x, (x < m ∨ m + 1 ≤ x) ∧ (x < a ∨ a + 2 ≤ x) ∧ (x < m + 276 + 2 * g1.toNatClampNeg ∨ m + 276 + 2 * g1.toNatClampNeg + (320 - 2 * g1.toNatClampNeg) ≤ x) → w9' x = w x) ∧ w9' m = some (.inl (15, zMo m g r)) ∧ zU w9' a ca P9 ∧ zln P9 ≤ zln p ∧ ∃ r9 : Int32, v9 = some (.int r9) ∧ (0 ≤ r9.toInt ∧ r9.toInt ≤ 25)) := by
  subst hg1
  intro d sz hd
  obtain ⟨d, rfl⟩ : ∃ d9, d = d9 + 1 := ⟨d - 1, by omega⟩
  generalize hPost : (fun (r9' : Option (Option Value)) (w9' : zM) (z9 : Nat) => z9 = sz ∧ ∃ v9, r9' = some v9 ∧ (∃ P9 : zA1, zSI w w9' ∧ (∀ x, (x < m ∨ m + 1 ≤ x) ∧ (x < a ∨ a + 2 ≤ x) ∧ (x < m + 276 + 2 * (g 1).toNatClampNeg ∨ m + 276 + 2 * (g 1).toNatClampNeg + (320 - 2 * (g 1).toNatClampNeg) ≤ x) → w9' x = w x) ∧ w9' m = some (.inl (15, zMo m g r)) ∧ zU w9' a ca P9 ∧ zln P9 ≤ zln p ∧ ∃ r9 : Int32, v9 = some (.int r9) ∧ (0 ≤ r9.toInt ∧ r9.toInt ≤ 25))) = Post
  show zP (d + 1) zq_X16_strip 0 [(0, .ref m), (1, .ref a), (2, .int c)] [] w sz 0 0 Post
  have k1 := zrng c
  have k2 := zrng (g 1)
  have hz3 : ((g 1).toNatClampNeg : Int) = (g 1).toInt := znat (by first | omega | decide)
  have hgb1 : (g 1).toNatClampNeg + 3 ≤ 160 := by omega
  refine zp_seg (pc' := 3) (lv' := [(3, .int 0), (0, .ref m), (1, .ref a), (2, .int c)]) (st' := [.ref m]) [(0, .iconst 0), (1, .istore_n 3), (2, .aload_n 0)] (by decide +kernel) rfl ?_
  refine zr_callV (idx := 74) (j := 263) (by decide +kernel) (by decide +kernel) (show zMe 263 = some zq_X16_newU from rfl) rfl rfl (Nat.le_of_ble_eq_true rfl) rfl rfl hm (Nat.le_of_ble_eq_true rfl) (Nat.le_of_ble_eq_true rfl) (c_X16_newU (w := w) (g1 := (g 1)) m hm hR_m (by first | omega | decide | assumption | exact zr1_1 | exact zr1_0 | fail "num") rfl) (by omega) (fun v3 w3 hp3 => ?_)
  obtain ⟨hsi3, heq3, hp3_0, hp3_1, rfl⟩ := hp3
  have hM3 : w3 m = some (.inl (15, zMo m (zs g 1 (g 1 + 1)) r)) := hp3_0
  show zP _ _ _ _ [.ref (m + 276 + 2 * (g 1).toNatClampNeg)] _ _ _ _ _
  refine zp_seg (pc' := 9) (lv' := [(4, .ref (m + 276 + 2 * (g 1).toNatClampNeg)), (3, .int 0), (0, .ref m), (1, .ref a), (2, .int c)]) (st' := [.ref m]) [(6, .astore 4), (8, .aload_n 0)] (by decide +kernel) rfl ?_
  have k5 := zaddC (g 1) 1 (n := 1) (by decide) (by omega) (by omega)
  have hz6 : ((g 1 + 1).toNatClampNeg : Int) = (g 1 + 1).toInt := znat (by first | omega | decide)
  have hgn1_1 : (g 1 + 1).toNatClampNeg = (g 1).toNatClampNeg + 1 := by omega
  have hb7 := hR_m.si hsi3
  refine zr_callV (idx := 74) (j := 263) (by decide +kernel) (by decide +kernel) (show zMe 263 = some zq_X16_newU from rfl) rfl rfl (Nat.le_of_ble_eq_true rfl) rfl rfl hM3 (Nat.le_of_ble_eq_true rfl) (Nat.le_of_ble_eq_true rfl) (c_X16_newU (w := w3) (g1 := (g 1 + 1)) m hM3 hb7 (by first | omega | decide | assumption | exact zr1_1 | exact zr1_0 | fail "num") rfl) (by omega) (fun v9 w9 hp9 => ?_)
  obtain ⟨hsi9, heq9, hp9_0, hp9_1, rfl⟩ := hp9
  have hM9 : w9 m = some (.inl (15, zMo m (zs g 1 (g 1 + 1 + 1)) r)) := hp9_0
  show zP _ _ _ _ [.ref (m + 276 + 2 * (g 1 + 1).toNatClampNeg)] _ _ _ _ _
  refine zp_seg (pc' := 15) (lv' := [(5, .ref (m + 276 + 2 * (g 1 + 1).toNatClampNeg)), (4, .ref (m + 276 + 2 * (g 1).toNatClampNeg)), (3, .int 0), (0, .ref m), (1, .ref a), (2, .int c)]) (st' := [.ref m]) [(12, .astore 5), (14, .aload_n 0)] (by decide +kernel) rfl ?_
  have k8 := zaddC (g 1 + 1) 1 (n := 1) (by decide) (by omega) (by omega)
  have hz9 : ((g 1 + 1 + 1).toNatClampNeg : Int) = (g 1 + 1 + 1).toInt := znat (by first | omega | decide)
  have hgn1_2 : (g 1 + 1 + 1).toNatClampNeg = (g 1).toNatClampNeg + 2 := by omega
  have hb10 := hb7.si hsi9
  refine zr_callV (idx := 74) (j := 263) (by decide +kernel) (by decide +kernel) (show zMe 263 = some zq_X16_newU from rfl) rfl rfl (Nat.le_of_ble_eq_true rfl) rfl rfl hM9 (Nat.le_of_ble_eq_true rfl) (Nat.le_of_ble_eq_true rfl) (c_X16_newU (w := w9) (g1 := (g 1 + 1 + 1)) m hM9 hb10 (by first | omega | decide | assumption | exact zr1_1 | exact zr1_0 | fail "num") rfl) (by omega) (fun v15 w15 hp15 => ?_)
  obtain ⟨hsi15, heq15, hp15_0, hp15_1, rfl⟩ := hp15
  have hM15 : w15 m = some (.inl (15, zMo m (zs g 1 (g 1 + 1 + 1 + 1)) r)) := hp15_0
  show zP _ _ _ _ [.ref (m + 276 + 2 * (g 1 + 1 + 1).toNatClampNeg)] _ _ _ _ _
  refine zp_seg (pc' := 22) (lv' := [(6, .ref (m + 276 + 2 * (g 1 + 1 + 1).toNatClampNeg)), (5, .ref (m + 276 + 2 * (g 1 + 1).toNatClampNeg)), (4, .ref (m + 276 + 2 * (g 1).toNatClampNeg)), (3, .int 0), (0, .ref m), (1, .ref a), (2, .int c)]) (st' := [.ref (m + 276 + 2 * (g 1).toNatClampNeg)]) [(18, .astore 6), (20, .aload 4)] (by decide +kernel) rfl ?_
  obtain ⟨n11, f12, hu13, hu14, hu15, hu16, hu17⟩ := id hp3_1
  have kn11 := zrng n11
  have hb18 : w15 (m + 276 + 2 * (g 1).toNatClampNeg) = some (.inl (14, [.ref (m + 276 + 2 * (g 1).toNatClampNeg + 1), .int n11])) := ((heq15 (m + 276 + 2 * (g 1).toNatClampNeg) ⟨(zx_X16_strip_0 hgb1), (zx_X16_strip_2 hgn1_2 hgb1)⟩).trans (heq9 (m + 276 + 2 * (g 1).toNatClampNeg) ⟨(zx_X16_strip_0 hgb1), (zx_X16_strip_1 hgn1_1 hgb1)⟩)).trans hu13
  refine zr_get (idx := 30) (k := 0) (v := .ref (m + 276 + 2 * (g 1).toNatClampNeg + 1)) (by decide +kernel) (by decide +kernel) hb18 rfl ?_
  refine zp_seg (pc' := 27) (lv' := [(6, .ref (m + 276 + 2 * (g 1 + 1 + 1).toNatClampNeg)), (5, .ref (m + 276 + 2 * (g 1 + 1).toNatClampNeg)), (4, .ref (m + 276 + 2 * (g 1).toNatClampNeg)), (3, .int 0), (0, .ref m), (1, .ref a), (2, .int c)]) (st' := [.int c, .int 0, .ref (m + 276 + 2 * (g 1).toNatClampNeg + 1)]) [(25, .iconst 0), (26, .iload_n 2)] (by decide +kernel) rfl ?_
  refine zr_callS (idx := 600) (j := 260) (by decide +kernel) (by decide +kernel) (by decide) (show zMe 260 = some zq_X16_rest from rfl) rfl rfl (Nat.le_of_ble_eq_true rfl) rfl rfl (Nat.le_of_ble_eq_true rfl) (Nat.le_of_ble_eq_true rfl) (c_X16_rest (w := w15) c ) (by omega) (fun v27 w27 hp27 => ?_)
  obtain ⟨hpw27, r27, rfl, hr27⟩ := hp27
  replace hpw27 := hpw27.symm
  subst hpw27
  have kr27 := zrng r27
  show zP _ _ _ _ [.int r27, .int 0, .ref (m + 276 + 2 * (g 1).toNatClampNeg + 1)] _ _ _ _ _
  have hb19 : w15 (m + 276 + 2 * (g 1).toNatClampNeg + 1) = some (.inr (0, 1000, .inl f12)) := ((heq15 (m + 276 + 2 * (g 1).toNatClampNeg + 1) ⟨(zx_X16_strip_3 hgb1), (zx_X16_strip_5 hgn1_2 hgb1)⟩).trans (heq9 (m + 276 + 2 * (g 1).toNatClampNeg + 1) ⟨(zx_X16_strip_3 hgb1), (zx_X16_strip_4 hgn1_1 hgb1)⟩)).trans hu14
  have hl21 : (0 : Int32).toInt = 0 := by decide
  have hz22 : ((0 : Int32).toNatClampNeg : Int) = 0 := by decide
  refine zr_iast (by decide +kernel) hb19 (zin (by decide) (by decide)) ?_
  show zP (d + 1) zq_X16_strip 31 [(6, .ref (m + 276 + 2 * (g 1 + 1 + 1).toNatClampNeg)), (5, .ref (m + 276 + 2 * (g 1 + 1).toNatClampNeg)), (4, .ref (m + 276 + 2 * (g 1).toNatClampNeg)), (3, .int 0), (0, .ref m), (1, .ref a), (2, .int c)] [] (zup w15 (m + 276 + 2 * (g 1).toNatClampNeg + 1) (.inr (0, 1000, .inl (upd f12 ((0 : Int32).toNatClampNeg) r27)))) sz 0 0 Post
  obtain ⟨w30, ew30⟩ : ∃ wz9, wz9 = zup w15 (m + 276 + 2 * (g 1).toNatClampNeg + 1) (.inr (0, 1000, .inl (upd f12 ((0 : Int32).toNatClampNeg) r27))) := ⟨_, rfl⟩
  have hsi30 : zSI w15 w30 := by rw [ew30]; exact zSI.arr _ hb19
  have heq30 : ∀ x, x ≠ m + 276 + 2 * (g 1).toNatClampNeg + 1 → w30 x = w15 x := fun x hx => by rw [ew30]; exact zup_n hx
  have hc30 : w30 (m + 276 + 2 * (g 1).toNatClampNeg + 1) = some (.inr (0, 1000, .inl (upd f12 ((0 : Int32).toNatClampNeg) r27))) := by rw [ew30]; exact zup_s
  rw [← ew30]
  clear ew30
  refine zp_seg (pc' := 33) (lv' := [(6, .ref (m + 276 + 2 * (g 1 + 1 + 1).toNatClampNeg)), (5, .ref (m + 276 + 2 * (g 1 + 1).toNatClampNeg)), (4, .ref (m + 276 + 2 * (g 1).toNatClampNeg)), (3, .int 0), (0, .ref m), (1, .ref a), (2, .int c)]) (st' := [.ref (m + 276 + 2 * (g 1).toNatClampNeg)]) [(31, .aload 4)] (by decide +kernel) rfl ?_
  have hb23 : w30 (m + 276 + 2 * (g 1).toNatClampNeg) = some (.inl (14, [.ref (m + 276 + 2 * (g 1).toNatClampNeg + 1), .int n11])) := (heq30 (m + 276 + 2 * (g 1).toNatClampNeg) (zx_X16_strip_6 hgb1)).trans hb18
  refine zr_get (idx := 30) (k := 0) (v := .ref (m + 276 + 2 * (g 1).toNatClampNeg + 1)) (by decide +kernel) (by decide +kernel) hb23 rfl ?_
  refine zp_seg (pc' := 38) (lv' := [(6, .ref (m + 276 + 2 * (g 1 + 1 + 1).toNatClampNeg)), (5, .ref (m + 276 + 2 * (g 1 + 1).toNatClampNeg)), (4, .ref (m + 276 + 2 * (g 1).toNatClampNeg)), (3, .int 0), (0, .ref m), (1, .ref a), (2, .int c)]) (st' := [.int 1, .int 1, .ref (m + 276 + 2 * (g 1).toNatClampNeg + 1)]) [(36, .iconst 1), (37, .iconst 1)] (by decide +kernel) rfl ?_
  have hl24 : (1 : Int32).toInt = 1 := by decide
  have hz25 : ((1 : Int32).toNatClampNeg : Int) = 1 := by decide
  refine zr_iast (by decide +kernel) hc30 (zin (by decide) (by decide)) ?_
  show zP (d + 1) zq_X16_strip 39 [(6, .ref (m + 276 + 2 * (g 1 + 1 + 1).toNatClampNeg)), (5, .ref (m + 276 + 2 * (g 1 + 1).toNatClampNeg)), (4, .ref (m + 276 + 2 * (g 1).toNatClampNeg)), (3, .int 0), (0, .ref m), (1, .ref a), (2, .int c)] [] (zup w30 (m + 276 + 2 * (g 1).toNatClampNeg + 1) (.inr (0, 1000, .inl (upd (upd f12 ((0 : Int32).toNatClampNeg) r27) ((1 : Int32).toNatClampNeg) 1)))) sz 0 0 Post
  obtain ⟨w38, ew38⟩ : ∃ wz9, wz9 = zup w30 (m + 276 + 2 * (g 1).toNatClampNeg + 1) (.inr (0, 1000, .inl (upd (upd f12 ((0 : Int32).toNatClampNeg) r27) ((1 : Int32).toNatClampNeg) 1))) := ⟨_, rfl⟩
  have hsi38 : zSI w30 w38 := by rw [ew38]; exact zSI.arr _ hc30
  have heq38 : ∀ x, x ≠ m + 276 + 2 * (g 1).toNatClampNeg + 1 → w38 x = w30 x := fun x hx => by rw [ew38]; exact zup_n hx
  have hc38 : w38 (m + 276 + 2 * (g 1).toNatClampNeg + 1) = some (.inr (0, 1000, .inl (upd (upd f12 ((0 : Int32).toNatClampNeg) r27) ((1 : Int32).toNatClampNeg) 1))) := by rw [ew38]; exact zup_s
  rw [← ew38]
  clear ew38
  refine zp_seg (pc' := 42) (lv' := [(6, .ref (m + 276 + 2 * (g 1 + 1 + 1).toNatClampNeg)), (5, .ref (m + 276 + 2 * (g 1 + 1).toNatClampNeg)), (4, .ref (m + 276 + 2 * (g 1).toNatClampNeg)), (3, .int 0), (0, .ref m), (1, .ref a), (2, .int c)]) (st' := [.int 2, .ref (m + 276 + 2 * (g 1).toNatClampNeg)]) [(39, .aload 4), (41, .iconst 2)] (by decide +kernel) rfl ?_
  have hb26 : w38 (m + 276 + 2 * (g 1).toNatClampNeg) = some (.inl (14, [.ref (m + 276 + 2 * (g 1).toNatClampNeg + 1), .int n11])) := (heq38 (m + 276 + 2 * (g 1).toNatClampNeg) (zx_X16_strip_6 hgb1)).trans hb23
  refine zr_put2 (idx := 25) (k := 1) (fs2 := [.ref (m + 276 + 2 * (g 1).toNatClampNeg + 1), .int 2]) (by decide +kernel) (by decide +kernel) hb26 (Nat.le_of_ble_eq_true rfl) rfl rfl rfl ?_
  show zP (d + 1) zq_X16_strip 45 [(6, .ref (m + 276 + 2 * (g 1 + 1 + 1).toNatClampNeg)), (5, .ref (m + 276 + 2 * (g 1 + 1).toNatClampNeg)), (4, .ref (m + 276 + 2 * (g 1).toNatClampNeg)), (3, .int 0), (0, .ref m), (1, .ref a), (2, .int c)] [] (zup w38 (m + 276 + 2 * (g 1).toNatClampNeg) (.inl (14, [.ref (m + 276 + 2 * (g 1).toNatClampNeg + 1), .int 2]))) sz 0 0 Post
  obtain ⟨w42, ew42⟩ : ∃ wz9, wz9 = zup w38 (m + 276 + 2 * (g 1).toNatClampNeg) (.inl (14, [.ref (m + 276 + 2 * (g 1).toNatClampNeg + 1), .int 2])) := ⟨_, rfl⟩
  have hsi42 : zSI w38 w42 := by rw [ew42]; exact zSI.setU hb26
  have heq42 : ∀ x, x ≠ m + 276 + 2 * (g 1).toNatClampNeg → w42 x = w38 x := fun x hx => by rw [ew42]; exact zup_n hx
  have hc42 : w42 (m + 276 + 2 * (g 1).toNatClampNeg) = some (.inl (14, [.ref (m + 276 + 2 * (g 1).toNatClampNeg + 1), .int 2])) := by rw [ew42]; exact zup_s
  rw [← ew42]
  clear ew42
  have hb27 : w42 (m + 276 + 2 * (g 1).toNatClampNeg + 1) = some (.inr (0, 1000, .inl (upd (upd f12 ((0 : Int32).toNatClampNeg) r27) ((1 : Int32).toNatClampNeg) 1))) := (heq42 (m + 276 + 2 * (g 1).toNatClampNeg + 1) (zx_X16_strip_7 hgb1)).trans hc38
  obtain ⟨pX, hpX, hlX⟩ := zline2 hc42 hb27 (by decide) hr27.1
  refine zp_seg (pc' := 46) (lv' := [(6, .ref (m + 276 + 2 * (g 1 + 1 + 1).toNatClampNeg)), (5, .ref (m + 276 + 2 * (g 1 + 1).toNatClampNeg)), (4, .ref (m + 276 + 2 * (g 1).toNatClampNeg)), (3, .int 0), (0, .ref m), (1, .ref a), (2, .int c)]) (st' := [.ref a]) [(45, .aload_n 1)] (by decide +kernel) rfl ?_
  obtain ⟨n28, f29, hu30, hu31, hu32, hu33, hu34⟩ := id hU_a
  have kn28 := zrng n28
  have hb35 : w42 a = some (.inl (14, [.ref (a + 1), .int n28])) := ((heq42 a (zx_X16_strip_13 hoa hgb1)).trans ((heq38 a (zx_X16_strip_12 hoa hgb1)).trans ((heq30 a (zx_X16_strip_12 hoa hgb1)).trans ((heq15 a ⟨(zx_X16_strip_8 hoa hgb1), (zx_X16_strip_11 hoa hgn1_2 hgb1)⟩).trans ((heq9 a ⟨(zx_X16_strip_8 hoa hgb1), (zx_X16_strip_10 hoa hgn1_1 hgb1)⟩).trans (heq3 a ⟨(zx_X16_strip_8 hoa hgb1), (zx_X16_strip_9 hoa hgb1)⟩)))))).trans hu30
  refine zr_get (idx := 25) (k := 1) (v := .int n28) (by decide +kernel) (by decide +kernel) hb35 rfl ?_
  refine zp_seg (pc' := 50) (lv' := [(6, .ref (m + 276 + 2 * (g 1 + 1 + 1).toNatClampNeg)), (5, .ref (m + 276 + 2 * (g 1 + 1).toNatClampNeg)), (4, .ref (m + 276 + 2 * (g 1).toNatClampNeg)), (3, .int 0), (0, .ref m), (1, .ref a), (2, .int c)]) (st' := [.int 1, .int n28]) [(49, .iconst 1)] (by decide +kernel) rfl ?_
  have hJ58 : ∀ (z0_58 : Int32), ((z0_58 = 0 ∨ z0_58 = 1)) → (z0_58 = 1 → 1 < zln p) → zP (d + 1) zq_X16_strip 58 [(0, .ref m), (1, .ref a), (3, .int 0), (4, .ref (m + 276 + 2 * (g 1).toNatClampNeg)), (5, .ref (m + 276 + 2 * (g 1 + 1).toNatClampNeg)), (6, .ref (m + 276 + 2 * (g 1 + 1 + 1).toNatClampNeg))] [.int z0_58] w42 sz 0 0 Post := by
    intro z0_58 hi58_0 hon
    have kz0_58 := zrng z0_58
    refine zp_seg (pc' := 60) (lv' := [(7, .int z0_58), (0, .ref m), (1, .ref a), (3, .int 0), (4, .ref (m + 276 + 2 * (g 1).toNatClampNeg)), (5, .ref (m + 276 + 2 * (g 1 + 1).toNatClampNeg)), (6, .ref (m + 276 + 2 * (g 1 + 1 + 1).toNatClampNeg))]) (st' := []) [(58, .istore 7)] (by decide +kernel) rfl ?_
    have hb36 : w42 m = some (.inl (15, zMo m (zs g 1 (g 1 + 1 + 1 + 1)) r)) := ((heq42 m (zx_X16_strip_15 hgb1)).trans ((heq38 m (zx_X16_strip_14 hgb1)).trans (heq30 m (zx_X16_strip_14 hgb1)))).trans hM15
    have hL60 : ∀ (mm60 : Nat) (wL60 : zM) (y3_60 : Int32) (y7_60 : Int32) (q9 : zA1), (zSI w42 wL60) → (∀ x, ((x < a ∨ a + 2 ≤ x) ∧ (x < m + 276 + 2 * (g 1 + 1).toNatClampNeg ∨ m + 276 + 2 * (g 1 + 1).toNatClampNeg + 4 ≤ x)) ∧ x ≠ m → wL60 x = w42 x) → ((y7_60 = 0 ∨ y7_60 = 1)) → (zU wL60 a ca q9) → (zUo wL60 (m + 276 + 2 * (g 1 + 1).toNatClampNeg) 1000) → (zUo wL60 (m + 276 + 2 * (g 1 + 1 + 1).toNatClampNeg) 1000) → (wL60 m = some (.inl (15, zMo m (zs g 1 (g 1 + 1 + 1 + 1)) r))) → ((zln q9 ≤ zln p ∧ zln q9 ≤ 25) ∧ (y7_60 = 1 → 1 < zln q9) ∧ 0 ≤ y3_60.toInt ∧ y3_60.toInt + (zln q9 : Int) ≤ 25) → 2 * zln q9 + y7_60.toInt.toNat < mm60 → zP (d + 1) zq_X16_strip 60 [(0, .ref m), (1, .ref a), (3, .int y3_60), (4, .ref (m + 276 + 2 * (g 1).toNatClampNeg)), (5, .ref (m + 276 + 2 * (g 1 + 1).toNatClampNeg)), (6, .ref (m + 276 + 2 * (g 1 + 1 + 1).toNatClampNeg)), (7, .int y7_60)] [] wL60 sz 0 0 Post := by
      intro mm60
      induction mm60 with
      | zero => intros; omega
      | succ mm60 ih60 =>
      intro wL60 y3_60 y7_60 q9 hsiL60 heqL60 hi60_0 hUq hUo1 hUo2 hmL60 hQ9 hmu60
      have ky3_60 := zrng y3_60
      have ky7_60 := zrng y7_60
      refine zp_seg (pc' := 62) (lv' := [(0, .ref m), (1, .ref a), (3, .int y3_60), (4, .ref (m + 276 + 2 * (g 1).toNatClampNeg)), (5, .ref (m + 276 + 2 * (g 1 + 1).toNatClampNeg)), (6, .ref (m + 276 + 2 * (g 1 + 1 + 1).toNatClampNeg)), (7, .int y7_60)]) (st' := [.int y7_60]) [(60, .iload 7)] (by decide +kernel) rfl ?_
      refine zp_if (i := .ifCond .eq 60) (c := y7_60 = 0) (t := 122) (e := 65) (lv' := [(0, .ref m), (1, .ref a), (3, .int y3_60), (4, .ref (m + 276 + 2 * (g 1).toNatClampNeg)), (5, .ref (m + 276 + 2 * (g 1 + 1).toNatClampNeg)), (6, .ref (m + 276 + 2 * (g 1 + 1 + 1).toNatClampNeg)), (7, .int y7_60)]) (st' := []) (by decide +kernel) rfl (fun cc62 => ?_) (fun cc62 => ?_)
      ·
        have f37 := zeqI cc62
        rw [show (0 : Int32).toInt = 0 from by decide] at f37
        refine zp_seg (pc' := 124) (lv' := [(0, .ref m), (1, .ref a), (3, .int y3_60), (4, .ref (m + 276 + 2 * (g 1).toNatClampNeg)), (5, .ref (m + 276 + 2 * (g 1 + 1).toNatClampNeg)), (6, .ref (m + 276 + 2 * (g 1 + 1 + 1).toNatClampNeg)), (7, .int y7_60)]) (st' := [.ref m, .ref m]) [(122, .aload_n 0), (123, .dup)] (by decide +kernel) rfl ?_
        refine zr_get (idx := 21) (k := 1) (v := .int ((g 1 + 1 + 1 + 1))) (by decide +kernel) (by decide +kernel) hmL60 rfl ?_
        refine zp_seg (pc' := 129) (lv' := [(0, .ref m), (1, .ref a), (3, .int y3_60), (4, .ref (m + 276 + 2 * (g 1).toNatClampNeg)), (5, .ref (m + 276 + 2 * (g 1 + 1).toNatClampNeg)), (6, .ref (m + 276 + 2 * (g 1 + 1 + 1).toNatClampNeg)), (7, .int y7_60)]) (st' := [.int (((g 1 + 1 + 1 + 1)) - 3), .ref m]) [(127, .iconst 3), (128, .isub)] (by decide +kernel) rfl ?_
        have k38 := zaddC (g 1 + 1 + 1) 1 (n := 1) (by decide) (by omega) (by omega)
        have k39 := zsubC (((g 1 + 1 + 1 + 1))) 3 (n := 3) (by decide) (by omega) (by omega)
        generalize ev129 : (((g 1 + 1 + 1 + 1)) - 3 : Int32) = v129 at k39 ⊢
        have kv129 := zrng v129
        refine zr_put2 (idx := 21) (k := 1) (fs2 := zMo m (zs g 1 v129) r) (by decide +kernel) (by decide +kernel) hmL60 (Nat.le_of_ble_eq_true rfl) rfl rfl rfl ?_
        show zP (d + 1) zq_X16_strip 132 [(0, .ref m), (1, .ref a), (3, .int y3_60), (4, .ref (m + 276 + 2 * (g 1).toNatClampNeg)), (5, .ref (m + 276 + 2 * (g 1 + 1).toNatClampNeg)), (6, .ref (m + 276 + 2 * (g 1 + 1 + 1).toNatClampNeg)), (7, .int y7_60)] [] (zup wL60 m (.inl (15, zMo m (zs g 1 v129) r))) sz 0 0 Post
        obtain ⟨w129, ew129⟩ : ∃ wz9, wz9 = zup wL60 m (.inl (15, zMo m (zs g 1 v129) r)) := ⟨_, rfl⟩
        have hsi129 : zSI wL60 w129 := by rw [ew129]; exact zSI.setG hmL60 _ _
        have heq129 : ∀ x, x ≠ m → w129 x = wL60 x := fun x hx => by rw [ew129]; exact zup_n hx
        have hc129 : w129 m = some (.inl (15, zMo m (zs g 1 v129) r)) := by rw [ew129]; exact zup_s
        rw [← ew129]
        clear ew129
        refine zp_seg (pc' := 133) (lv' := [(0, .ref m), (1, .ref a), (3, .int y3_60), (4, .ref (m + 276 + 2 * (g 1).toNatClampNeg)), (5, .ref (m + 276 + 2 * (g 1 + 1).toNatClampNeg)), (6, .ref (m + 276 + 2 * (g 1 + 1 + 1).toNatClampNeg)), (7, .int y7_60)]) (st' := [.int y3_60]) [(132, .iload_n 3)] (by decide +kernel) rfl ?_
        have hoffend : ∀ x, (x < m ∨ m + 1 ≤ x) ∧ (x < a ∨ a + 2 ≤ x) ∧ (x < m + 276 + 2 * (g 1).toNatClampNeg ∨ m + 276 + 2 * (g 1).toNatClampNeg + (320 - 2 * (g 1).toNatClampNeg) ≤ x) → w129 x = w x := fun x hx => ((heq129 x (zx_X16_strip_22 hx.1)).trans ((heqL60 x ⟨⟨hx.2.1, (zx_X16_strip_21 hx.2.2 hgn1_1 hgb1)⟩, (zx_X16_strip_22 hx.1)⟩).trans ((heq42 x (zx_X16_strip_20 hx.2.2 hgb1)).trans ((heq38 x (zx_X16_strip_19 hx.2.2 hgb1)).trans ((heq30 x (zx_X16_strip_19 hx.2.2 hgb1)).trans ((heq15 x ⟨hx.1, (zx_X16_strip_18 hx.2.2 hgn1_2 hgb1)⟩).trans ((heq9 x ⟨hx.1, (zx_X16_strip_17 hx.2.2 hgn1_1 hgb1)⟩).trans (heq3 x ⟨hx.1, (zx_X16_strip_16 hx.2.2 hgb1)⟩))))))))
        have hb40 : zU w129 a ca q9 := hUq.ag (fun x hx1 hx2 => (heq129 x (zx_X16_strip_23 hx1 hx2 hoa hgb1)))
        refine zr_retI (by decide +kernel) rfl ?_
        rw [← hPost]; exact ⟨rfl, _, rfl, q9, (((((((hsi3.tr hsi9).tr hsi15).tr hsi30).tr hsi38).tr hsi42).tr hsiL60).tr hsi129), hoffend, (by
              exact zM1 hc129 (by omega)), (by first | exact hb40 | (have z9 := hb40; simpa using z9)), (by
              exact hQ9.1.1), _, rfl, (by first | omega | decide | assumption)⟩
      ·
        have f41 := zneI cc62
        rw [show (0 : Int32).toInt = 0 from by decide] at f41
        have hgt9 := hQ9.2.1 (hi60_0.resolve_left cc62)
        have h1t : y7_60.toInt = 1 := by rw [hi60_0.resolve_left cc62]; decide
        have hl0 : (0 : Int32).toInt = 0 := by decide
        have hl1 : (1 : Int32).toInt = 1 := by decide
        refine zp_seg (pc' := 72) (lv' := [(0, .ref m), (1, .ref a), (3, .int y3_60), (4, .ref (m + 276 + 2 * (g 1).toNatClampNeg)), (5, .ref (m + 276 + 2 * (g 1 + 1).toNatClampNeg)), (6, .ref (m + 276 + 2 * (g 1 + 1 + 1).toNatClampNeg)), (7, .int y7_60)]) (st' := [.ref (m + 276 + 2 * (g 1).toNatClampNeg), .ref a, .ref (m + 276 + 2 * (g 1 + 1 + 1).toNatClampNeg), .ref (m + 276 + 2 * (g 1 + 1).toNatClampNeg)]) [(65, .aload 5), (67, .aload 6), (69, .aload_n 1), (70, .aload 4)] (by decide +kernel) rfl ?_
        have hb42 : zU wL60 (m + 276 + 2 * (g 1).toNatClampNeg) 1000 pX := hpX.ag (fun x hx1 hx2 => (heqL60 x ⟨⟨(zx_X16_strip_24 hx1 hx2 hoa hgb1), (zx_X16_strip_25 hx1 hx2 hgn1_1 hgb1)⟩, (zx_X16_strip_26 hx1 hx2 hgb1)⟩))
        refine zr_callS (idx := 78) (j := 268) (by decide +kernel) (by decide +kernel) (by decide) (show zMe 268 = some zq_X16_divide from rfl) rfl rfl (Nat.le_of_ble_eq_true rfl) rfl rfl (Nat.le_of_ble_eq_true rfl) (Nat.le_of_ble_eq_true rfl) (c_X16_divideQ (w := wL60) (m + 276 + 2 * (g 1 + 1).toNatClampNeg) (m + 276 + 2 * (g 1 + 1 + 1).toNatClampNeg) a (m + 276 + 2 * (g 1).toNatClampNeg) hUo1 hUo2 hUq hb42 (by first | omega | decide | assumption | exact zr1_1 | exact zr1_0 | fail "num") (by first | omega | decide | assumption | exact zr1_1 | exact zr1_0 | fail "num") (by first | omega | decide | assumption | exact zr1_1 | exact zr1_0 | fail "num") (by first | omega | decide | assumption | exact zr1_1 | exact zr1_0 | fail "num") (by first | omega | decide | assumption | exact zr1_1 | exact zr1_0 | fail "num") (by first | omega | decide | assumption | exact zr1_1 | exact zr1_0 | fail "num") (by first | omega | decide | assumption | exact zr1_1 | exact zr1_0 | fail "num") (by first | omega | decide | assumption | exact zr1_1 | exact zr1_0 | fail "num") (by first | omega | decide | assumption | exact zr1_1 | exact zr1_0 | fail "num")) (by omega) (fun v72 w72 hp72 => ?_)
        obtain ⟨hsi72, heq72, hp72_0, hp72_1, rfl⟩ := hp72
        show zP _ _ _ _ [] _ _ _ _ _
        have hlq9 := zquo_ln (p := q9) (d := pX) (by omega)
        refine zp_seg (pc' := 77) (lv' := [(0, .ref m), (1, .ref a), (3, .int y3_60), (4, .ref (m + 276 + 2 * (g 1).toNatClampNeg)), (5, .ref (m + 276 + 2 * (g 1 + 1).toNatClampNeg)), (6, .ref (m + 276 + 2 * (g 1 + 1 + 1).toNatClampNeg)), (7, .int y7_60)]) (st' := [.ref (m + 276 + 2 * (g 1 + 1 + 1).toNatClampNeg)]) [(75, .aload 6)] (by decide +kernel) rfl ?_
        obtain ⟨n43, f44, hu45, hu46, hu47, hu48, hu49⟩ := id hp72_0
        have kn43 := zrng n43
        refine zr_get (idx := 25) (k := 1) (v := .int n43) (by decide +kernel) (by decide +kernel) hu45 rfl ?_
        refine zp_if (i := .ifCond .ne 7) (c := ¬ n43 = 0) (t := 87) (e := 83) (lv' := [(0, .ref m), (1, .ref a), (3, .int y3_60), (4, .ref (m + 276 + 2 * (g 1).toNatClampNeg)), (5, .ref (m + 276 + 2 * (g 1 + 1).toNatClampNeg)), (6, .ref (m + 276 + 2 * (g 1 + 1 + 1).toNatClampNeg)), (7, .int y7_60)]) (st' := []) (by decide +kernel) rfl (fun cc80 => ?_) (fun cc80 => ?_)
        ·
          have f50 := zneI cc80
          rw [show (0 : Int32).toInt = 0 from by decide] at f50
          refine zp_seg (pc' := 92) (lv' := [(7, .int 0), (0, .ref m), (1, .ref a), (3, .int y3_60), (4, .ref (m + 276 + 2 * (g 1).toNatClampNeg)), (5, .ref (m + 276 + 2 * (g 1 + 1).toNatClampNeg)), (6, .ref (m + 276 + 2 * (g 1 + 1 + 1).toNatClampNeg))]) (st' := [.int 0]) [(87, .iconst 0), (88, .istore 7), (90, .iload 7)] (by decide +kernel) rfl ?_
          refine zp_pure (pc' := 60) (lv' := [(7, .int 0), (0, .ref m), (1, .ref a), (3, .int y3_60), (4, .ref (m + 276 + 2 * (g 1).toNatClampNeg)), (5, .ref (m + 276 + 2 * (g 1 + 1).toNatClampNeg)), (6, .ref (m + 276 + 2 * (g 1 + 1 + 1).toNatClampNeg))]) (st' := []) (i := .ifCond .eq (-32)) (by decide +kernel) rfl ?_
          have hb51 : zU w72 a ca q9 := hUq.ag (fun x hx1 hx2 => (heq72 x ⟨(zx_X16_strip_29 hx1 hx2 hoa hgn1_2 hgb1), (zx_X16_strip_30 hx1 hx2 hoa hgn1_1 hgb1)⟩))
          have hb52 := hUo1.si hsi72
          have hb53 := hUo2.si hsi72
          have hb54 : w72 m = some (.inl (15, zMo m (zs g 1 (g 1 + 1 + 1 + 1)) r)) := (heq72 m ⟨(zx_X16_strip_31 hgn1_2 hgb1), (zx_X16_strip_32 hgn1_1 hgb1)⟩).trans hmL60
          exact (ih60 w72 y3_60 0 (q9) (hsiL60.tr hsi72) (fun x hx => ((heq72 x ⟨(zx_X16_strip_27 hx.1.2 hgn1_1 hgn1_2 hgb1), (zx_X16_strip_28 hx.1.2 hgn1_1 hgb1)⟩).trans (heqL60 x ⟨⟨hx.1.1, hx.1.2⟩, hx.2⟩))) (by first | assumption | omega | decide) hb51 hb52 hb53 hb54 (by
                refine ⟨⟨by omega, by omega⟩, ?_, by omega, by omega⟩
                first
                | exact fun e => absurd e (by decide)
                | exact fun _ => by omega) (by omega)).more (zfa1 rfl (zfa1 rfl (zfa1 rfl (zfa1 rfl (zfa1 rfl (zfa1 rfl (zfa1 rfl (zfa0))))))))
        ·
          replace cc80 := Classical.not_not.mp cc80
          have f55 := zeqI cc80
          rw [show (0 : Int32).toInt = 0 from by decide] at f55
          refine zp_seg (pc' := 92) (lv' := [(7, .int 1), (0, .ref m), (1, .ref a), (3, .int y3_60), (4, .ref (m + 276 + 2 * (g 1).toNatClampNeg)), (5, .ref (m + 276 + 2 * (g 1 + 1).toNatClampNeg)), (6, .ref (m + 276 + 2 * (g 1 + 1 + 1).toNatClampNeg))]) (st' := [.int 1]) [(83, .iconst 1), (84, .goto 4), (88, .istore 7), (90, .iload 7)] (by decide +kernel) rfl ?_
          refine zp_pure (pc' := 95) (lv' := [(7, .int 1), (0, .ref m), (1, .ref a), (3, .int y3_60), (4, .ref (m + 276 + 2 * (g 1).toNatClampNeg)), (5, .ref (m + 276 + 2 * (g 1 + 1).toNatClampNeg)), (6, .ref (m + 276 + 2 * (g 1 + 1 + 1).toNatClampNeg))]) (st' := []) (i := .ifCond .eq (-32)) (by decide +kernel) rfl ?_
          refine zp_seg (pc' := 98) (lv' := [(7, .int 1), (0, .ref m), (1, .ref a), (3, .int y3_60), (4, .ref (m + 276 + 2 * (g 1).toNatClampNeg)), (5, .ref (m + 276 + 2 * (g 1 + 1).toNatClampNeg)), (6, .ref (m + 276 + 2 * (g 1 + 1 + 1).toNatClampNeg))]) (st' := [.ref (m + 276 + 2 * (g 1 + 1).toNatClampNeg), .ref a]) [(95, .aload_n 1), (96, .aload 5)] (by decide +kernel) rfl ?_
          have hb56 : zU w72 a ca q9 := hUq.ag (fun x hx1 hx2 => (heq72 x ⟨(zx_X16_strip_29 hx1 hx2 hoa hgn1_2 hgb1), (zx_X16_strip_30 hx1 hx2 hoa hgn1_1 hgb1)⟩))
          have ho98_to := zU.o hb56
          refine zr_callS (idx := 62) (j := 264) (by decide +kernel) (by decide +kernel) (by decide) (show zMe 264 = some zq_X16_set from rfl) rfl rfl (Nat.le_of_ble_eq_true rfl) rfl rfl (Nat.le_of_ble_eq_true rfl) (Nat.le_of_ble_eq_true rfl) (c_X16_set (w := w72) a (m + 276 + 2 * (g 1 + 1).toNatClampNeg) ho98_to hp72_1 (by first | omega | decide | assumption | exact zr1_1 | exact zr1_0 | fail "num") (by first | omega | decide | assumption | exact zr1_1 | exact zr1_0 | fail "num")) (by omega) (fun v98 w98 hp98 => ?_)
          obtain ⟨hsi98, heq98, hp98_0, rfl⟩ := hp98
          show zP _ _ _ _ [] _ _ _ _ _
          refine zp_seg (pc' := 104) (lv' := [(3, .int (y3_60 + 1)), (7, .int 1), (0, .ref m), (1, .ref a), (4, .ref (m + 276 + 2 * (g 1).toNatClampNeg)), (5, .ref (m + 276 + 2 * (g 1 + 1).toNatClampNeg)), (6, .ref (m + 276 + 2 * (g 1 + 1 + 1).toNatClampNeg))]) (st' := []) [(101, .iinc 3 1)] (by decide +kernel) rfl ?_
          have k57 := zaddC y3_60 1 (n := 1) (by decide) (by omega) (by omega)
          generalize ev104 : (y3_60 + 1 : Int32) = v104 at k57 ⊢
          have kv104 := zrng v104
          refine zp_seg (pc' := 105) (lv' := [(3, .int v104), (7, .int 1), (0, .ref m), (1, .ref a), (4, .ref (m + 276 + 2 * (g 1).toNatClampNeg)), (5, .ref (m + 276 + 2 * (g 1 + 1).toNatClampNeg)), (6, .ref (m + 276 + 2 * (g 1 + 1 + 1).toNatClampNeg))]) (st' := [.ref a]) [(104, .aload_n 1)] (by decide +kernel) rfl ?_
          obtain ⟨n58, f59, hu60, hu61, hu62, hu63, hu64⟩ := id hp98_0
          have kn58 := zrng n58
          refine zr_get (idx := 25) (k := 1) (v := .int n58) (by decide +kernel) (by decide +kernel) hu60 rfl ?_
          refine zp_seg (pc' := 109) (lv' := [(3, .int v104), (7, .int 1), (0, .ref m), (1, .ref a), (4, .ref (m + 276 + 2 * (g 1).toNatClampNeg)), (5, .ref (m + 276 + 2 * (g 1 + 1).toNatClampNeg)), (6, .ref (m + 276 + 2 * (g 1 + 1 + 1).toNatClampNeg))]) (st' := [.int 1, .int n58]) [(108, .iconst 1)] (by decide +kernel) rfl ?_
          refine zp_if (i := .if_icmp .le 7) (c := n58 ≤ 1) (t := 116) (e := 112) (lv' := [(3, .int v104), (7, .int 1), (0, .ref m), (1, .ref a), (4, .ref (m + 276 + 2 * (g 1).toNatClampNeg)), (5, .ref (m + 276 + 2 * (g 1 + 1).toNatClampNeg)), (6, .ref (m + 276 + 2 * (g 1 + 1 + 1).toNatClampNeg))]) (st' := []) (by decide +kernel) rfl (fun cc109 => ?_) (fun cc109 => ?_)
          ·
            have f65 := zleI cc109
            rw [show (1 : Int32).toInt = 1 from by decide] at f65
            refine zp_seg (pc' := 60) (lv' := [(7, .int 0), (3, .int v104), (0, .ref m), (1, .ref a), (4, .ref (m + 276 + 2 * (g 1).toNatClampNeg)), (5, .ref (m + 276 + 2 * (g 1 + 1).toNatClampNeg)), (6, .ref (m + 276 + 2 * (g 1 + 1 + 1).toNatClampNeg))]) (st' := []) [(116, .iconst 0), (117, .istore 7), (119, .goto (-59))] (by decide +kernel) rfl ?_
            have hb66 := hUo1.si (hsi72.tr hsi98)
            have hb67 := hUo2.si (hsi72.tr hsi98)
            have hb68 : w98 m = some (.inl (15, zMo m (zs g 1 (g 1 + 1 + 1 + 1)) r)) := ((heq98 m (zx_X16_strip_33 hoa hgb1)).trans (heq72 m ⟨(zx_X16_strip_31 hgn1_2 hgb1), (zx_X16_strip_32 hgn1_1 hgb1)⟩)).trans hmL60
            exact (ih60 w98 v104 0 (((zquo q9 pX))) ((hsiL60.tr hsi72).tr hsi98) (fun x hx => ((heq98 x hx.1.1).trans ((heq72 x ⟨(zx_X16_strip_27 hx.1.2 hgn1_1 hgn1_2 hgb1), (zx_X16_strip_28 hx.1.2 hgn1_1 hgb1)⟩).trans (heqL60 x ⟨⟨hx.1.1, hx.1.2⟩, hx.2⟩)))) (by first | assumption | omega | decide) hp98_0 hb66 hb67 hb68 (by
                  refine ⟨⟨by omega, by omega⟩, ?_, by omega, by omega⟩
                  first
                  | exact fun e => absurd e (by decide)
                  | exact fun _ => by omega) (by omega)).more (zfa1 rfl (zfa1 rfl (zfa1 rfl (zfa1 rfl (zfa1 rfl (zfa1 rfl (zfa1 rfl (zfa0))))))))
          ·
            have f69 := znleI cc109
            rw [show (1 : Int32).toInt = 1 from by decide] at f69
            refine zp_seg (pc' := 60) (lv' := [(7, .int 1), (3, .int v104), (0, .ref m), (1, .ref a), (4, .ref (m + 276 + 2 * (g 1).toNatClampNeg)), (5, .ref (m + 276 + 2 * (g 1 + 1).toNatClampNeg)), (6, .ref (m + 276 + 2 * (g 1 + 1 + 1).toNatClampNeg))]) (st' := []) [(112, .iconst 1), (113, .goto 4), (117, .istore 7), (119, .goto (-59))] (by decide +kernel) rfl ?_
            have hb70 := hUo1.si (hsi72.tr hsi98)
            have hb71 := hUo2.si (hsi72.tr hsi98)
            have hb72 : w98 m = some (.inl (15, zMo m (zs g 1 (g 1 + 1 + 1 + 1)) r)) := ((heq98 m (zx_X16_strip_33 hoa hgb1)).trans (heq72 m ⟨(zx_X16_strip_31 hgn1_2 hgb1), (zx_X16_strip_32 hgn1_1 hgb1)⟩)).trans hmL60
            exact (ih60 w98 v104 1 (((zquo q9 pX))) ((hsiL60.tr hsi72).tr hsi98) (fun x hx => ((heq98 x hx.1.1).trans ((heq72 x ⟨(zx_X16_strip_27 hx.1.2 hgn1_1 hgn1_2 hgb1), (zx_X16_strip_28 hx.1.2 hgn1_1 hgb1)⟩).trans (heqL60 x ⟨⟨hx.1.1, hx.1.2⟩, hx.2⟩)))) (by first | assumption | omega | decide) hp98_0 hb70 hb71 hb72 (by
                  refine ⟨⟨by omega, by omega⟩, ?_, by omega, by omega⟩
                  first
                  | exact fun e => absurd e (by decide)
                  | exact fun _ => by omega) (by omega)).more (zfa1 rfl (zfa1 rfl (zfa1 rfl (zfa1 rfl (zfa1 rfl (zfa1 rfl (zfa1 rfl (zfa0))))))))
    have hb73 : zU w42 a ca p := hU_a.ag (fun x hx1 hx2 => ((heq42 x (zx_X16_strip_37 hx1 hx2 hoa hgb1)).trans ((heq38 x (zx_X16_strip_36 hx1 hx2 hoa hgb1)).trans ((heq30 x (zx_X16_strip_36 hx1 hx2 hoa hgb1)).trans ((heq15 x ⟨(zx_X16_strip_34 hx1 hx2 hoa hgb1), (zx_X16_strip_29 hx1 hx2 hoa hgn1_2 hgb1)⟩).trans ((heq9 x ⟨(zx_X16_strip_34 hx1 hx2 hoa hgb1), (zx_X16_strip_30 hx1 hx2 hoa hgn1_1 hgb1)⟩).trans (heq3 x ⟨(zx_X16_strip_34 hx1 hx2 hoa hgb1), (zx_X16_strip_35 hx1 hx2 hoa hgb1)⟩)))))))
    have hb74 : zU w42 (m + 276 + 2 * (g 1 + 1).toNatClampNeg) 1000 zaZ := hp9_1.ag (fun x hx1 hx2 => ((heq42 x (zx_X16_strip_41 hx1 hx2 hgn1_1 hgb1)).trans ((heq38 x (zx_X16_strip_40 hx1 hx2 hgn1_1 hgb1)).trans ((heq30 x (zx_X16_strip_40 hx1 hx2 hgn1_1 hgb1)).trans (heq15 x ⟨(zx_X16_strip_38 hx1 hx2 hgn1_1 hgb1), (zx_X16_strip_39 hx1 hx2 hgn1_1 hgn1_2 hgb1)⟩)))))
    have hb75 : zU w42 (m + 276 + 2 * (g 1 + 1 + 1).toNatClampNeg) 1000 zaZ := hp15_1.ag (fun x hx1 hx2 => ((heq42 x (zx_X16_strip_43 hx1 hx2 hgn1_2 hgb1)).trans ((heq38 x (zx_X16_strip_42 hx1 hx2 hgn1_2 hgb1)).trans (heq30 x (zx_X16_strip_42 hx1 hx2 hgn1_2 hgb1)))))
    exact (hL60 _ w42 0 z0_58 (p) zSI.rf (fun _ _ => rfl) (by first | assumption | omega | decide) hb73 (zU.o hb74) (zU.o hb75) hb36 (by
          exact ⟨⟨by omega, by omega⟩, hon, by omega, by omega⟩) (Nat.lt_succ_self _)).more (zfa1 rfl (zfa1 rfl (zfa1 rfl (zfa1 rfl (zfa1 rfl (zfa1 rfl (zfa1 rfl (zfa0))))))))
  refine zp_if (i := .if_icmp .le 7) (c := n28 ≤ 1) (t := 57) (e := 53) (lv' := [(6, .ref (m + 276 + 2 * (g 1 + 1 + 1).toNatClampNeg)), (5, .ref (m + 276 + 2 * (g 1 + 1).toNatClampNeg)), (4, .ref (m + 276 + 2 * (g 1).toNatClampNeg)), (3, .int 0), (0, .ref m), (1, .ref a), (2, .int c)]) (st' := []) (by decide +kernel) rfl (fun cc50 => ?_) (fun cc50 => ?_)
  ·
    have f76 := zleI cc50
    rw [show (1 : Int32).toInt = 1 from by decide] at f76
    refine zp_seg (pc' := 58) (lv' := [(6, .ref (m + 276 + 2 * (g 1 + 1 + 1).toNatClampNeg)), (5, .ref (m + 276 + 2 * (g 1 + 1).toNatClampNeg)), (4, .ref (m + 276 + 2 * (g 1).toNatClampNeg)), (3, .int 0), (0, .ref m), (1, .ref a), (2, .int c)]) (st' := [.int 0]) [(57, .iconst 0)] (by decide +kernel) rfl ?_
    exact (hJ58 0 (by first | assumption | omega | decide) (by
          first | exact fun _ => by omega | exact fun e => absurd e (by decide))).more (zfa1 rfl (zfa1 rfl (zfa1 rfl (zfa1 rfl (zfa1 rfl (zfa1 rfl (zfa0)))))))
  ·
    have f77 := znleI cc50
    rw [show (1 : Int32).toInt = 1 from by decide] at f77
    refine zp_seg (pc' := 58) (lv' := [(6, .ref (m + 276 + 2 * (g 1 + 1 + 1).toNatClampNeg)), (5, .ref (m + 276 + 2 * (g 1 + 1).toNatClampNeg)), (4, .ref (m + 276 + 2 * (g 1).toNatClampNeg)), (3, .int 0), (0, .ref m), (1, .ref a), (2, .int c)]) (st' := [.int 1]) [(53, .iconst 1), (54, .goto 4)] (by decide +kernel) rfl ?_
    exact (hJ58 1 (by first | assumption | omega | decide) (by
          first | exact fun _ => by omega | exact fun e => absurd e (by decide))).more (zfa1 rfl (zfa1 rfl (zfa1 rfl (zfa1 rfl (zfa1 rfl (zfa1 rfl (zfa0)))))))
