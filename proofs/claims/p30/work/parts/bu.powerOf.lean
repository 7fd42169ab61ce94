theorem zx_X16_powerOf_0 {G1_0 m x : Nat} (h0 : m + 276 + 2 * G1_0 ≤ x) (h1 : x < m + 276 + 2 * G1_0 + 2) (h2 : G1_0 + 3 ≤ 160) : x < m ∨ m + 1 ≤ x := by omega
theorem zx_X16_powerOf_1 {G1_0 G1_1 m x : Nat} (h0 : m + 276 + 2 * G1_0 ≤ x) (h1 : x < m + 276 + 2 * G1_0 + 2) (h2 : G1_1 = G1_0 + 1) (h3 : G1_0 + 3 ≤ 160) : x < m + 276 + 2 * G1_1 ∨ m + 276 + 2 * G1_1 + 2 ≤ x := by omega
theorem zx_X16_powerOf_2 {G1_0 G1_2 m x : Nat} (h0 : m + 276 + 2 * G1_0 ≤ x) (h1 : x < m + 276 + 2 * G1_0 + 2) (h2 : G1_2 = G1_0 + 2) (h3 : G1_0 + 3 ≤ 160) : x < m + 276 + 2 * G1_2 ∨ m + 276 + 2 * G1_2 + 2 ≤ x := by omega
theorem zx_X16_powerOf_3 {G1_0 G1_2 m x : Nat} (h0 : m + 276 + 2 * G1_2 ≤ x) (h1 : x < m + 276 + 2 * G1_2 + 2) (h2 : G1_2 = G1_0 + 2) (h3 : G1_0 + 3 ≤ 160) : x < m + 276 + 2 * G1_0 ∨ m + 276 + 2 * G1_0 + 2 ≤ x := by omega
theorem zx_X16_powerOf_4 {G1_0 m x xu : Nat} (h0 : xu ≤ x) (h1 : x < xu + 2) (h2 : (m + 276 ≤ xu ∧ xu + 2 ≤ m + 276 + 2 * G1_0) ∨ m + 596 ≤ xu) (h3 : G1_0 + 3 ≤ 160) : x < m ∨ m + 1 ≤ x := by omega
theorem zx_X16_powerOf_5 {G1_0 m x xu : Nat} (h0 : xu ≤ x) (h1 : x < xu + 2) (h2 : (m + 276 ≤ xu ∧ xu + 2 ≤ m + 276 + 2 * G1_0) ∨ m + 596 ≤ xu) (h3 : G1_0 + 3 ≤ 160) : x < m + 276 + 2 * G1_0 ∨ m + 276 + 2 * G1_0 + 2 ≤ x := by omega
theorem zx_X16_powerOf_6 {G1_0 G1_1 m x xu : Nat} (h0 : xu ≤ x) (h1 : x < xu + 2) (h2 : (m + 276 ≤ xu ∧ xu + 2 ≤ m + 276 + 2 * G1_0) ∨ m + 596 ≤ xu) (h3 : G1_1 = G1_0 + 1) (h4 : G1_0 + 3 ≤ 160) : x < m + 276 + 2 * G1_1 ∨ m + 276 + 2 * G1_1 + 2 ≤ x := by omega
theorem zx_X16_powerOf_7 {G1_0 G1_2 m x xu : Nat} (h0 : xu ≤ x) (h1 : x < xu + 2) (h2 : (m + 276 ≤ xu ∧ xu + 2 ≤ m + 276 + 2 * G1_0) ∨ m + 596 ≤ xu) (h3 : G1_2 = G1_0 + 2) (h4 : G1_0 + 3 ≤ 160) : x < m + 276 + 2 * G1_2 ∨ m + 276 + 2 * G1_2 + 2 ≤ x := by omega
theorem zx_X16_powerOf_8 {G1_0 f m x : Nat} (h0 : f ≤ x) (h1 : x < f + 2) (h2 : (m + 276 ≤ f ∧ f + 2 ≤ m + 276 + 2 * G1_0) ∨ m + 596 ≤ f) (h3 : G1_0 + 3 ≤ 160) : x < m ∨ m + 1 ≤ x := by omega
theorem zx_X16_powerOf_9 {G1_0 f m x : Nat} (h0 : f ≤ x) (h1 : x < f + 2) (h2 : (m + 276 ≤ f ∧ f + 2 ≤ m + 276 + 2 * G1_0) ∨ m + 596 ≤ f) (h3 : G1_0 + 3 ≤ 160) : x < m + 276 + 2 * G1_0 ∨ m + 276 + 2 * G1_0 + 2 ≤ x := by omega
theorem zx_X16_powerOf_10 {G1_0 G1_1 f m x : Nat} (h0 : f ≤ x) (h1 : x < f + 2) (h2 : (m + 276 ≤ f ∧ f + 2 ≤ m + 276 + 2 * G1_0) ∨ m + 596 ≤ f) (h3 : G1_1 = G1_0 + 1) (h4 : G1_0 + 3 ≤ 160) : x < m + 276 + 2 * G1_1 ∨ m + 276 + 2 * G1_1 + 2 ≤ x := by omega
theorem zx_X16_powerOf_11 {G1_0 G1_2 f m x : Nat} (h0 : f ≤ x) (h1 : x < f + 2) (h2 : (m + 276 ≤ f ∧ f + 2 ≤ m + 276 + 2 * G1_0) ∨ m + 596 ≤ f) (h3 : G1_2 = G1_0 + 2) (h4 : G1_0 + 3 ≤ 160) : x < m + 276 + 2 * G1_2 ∨ m + 276 + 2 * G1_2 + 2 ≤ x := by omega
theorem zx_X16_powerOf_12 {G1_0 m : Nat} (h0 : G1_0 + 3 ≤ 160) : m < m + 276 + 2 * G1_0 ∨ m + 276 + 2 * G1_0 + 2 ≤ m := by omega
theorem zx_X16_powerOf_13 {G1_0 G1_2 m : Nat} (h0 : G1_2 = G1_0 + 2) (h1 : G1_0 + 3 ≤ 160) : m < m + 276 + 2 * G1_2 ∨ m + 276 + 2 * G1_2 + 2 ≤ m := by omega
theorem zx_X16_powerOf_14 {G1_0 m to : Nat} (h0 : (m + 276 ≤ to ∧ to + 2 ≤ m + 276 + 2 * G1_0) ∨ m + 596 ≤ to) (h1 : G1_0 + 3 ≤ 160) : m < to ∨ to + 2 ≤ m := by omega
theorem zx_X16_powerOf_15 {m x : Nat} (h0 : x ≠ m) : x < m ∨ m + 1 ≤ x := by omega
theorem zx_X16_powerOf_16 {G1_0 m x : Nat} (h0 : x < m + 276 + 2 * G1_0 ∨ m + 276 + 2 * G1_0 + (320 - 2 * G1_0) ≤ x) (h1 : G1_0 + 3 ≤ 160) : x < m + 276 + 2 * G1_0 ∨ m + 276 + 2 * G1_0 + 2 ≤ x := by omega
theorem zx_X16_powerOf_17 {G1_0 G1_1 m x : Nat} (h0 : x < m + 276 + 2 * G1_0 ∨ m + 276 + 2 * G1_0 + (320 - 2 * G1_0) ≤ x) (h1 : G1_1 = G1_0 + 1) (h2 : G1_0 + 3 ≤ 160) : x < m + 276 + 2 * G1_1 ∨ m + 276 + 2 * G1_1 + 2 ≤ x := by omega
theorem zx_X16_powerOf_18 {G1_0 G1_2 m x : Nat} (h0 : x < m + 276 + 2 * G1_0 ∨ m + 276 + 2 * G1_0 + (320 - 2 * G1_0) ≤ x) (h1 : G1_2 = G1_0 + 2) (h2 : G1_0 + 3 ≤ 160) : x < m + 276 + 2 * G1_2 ∨ m + 276 + 2 * G1_2 + 2 ≤ x := by omega
theorem zx_X16_powerOf_19 {G1_0 m x : Nat} (h0 : x < m + 276 + 2 * G1_0 ∨ m + 276 + 2 * G1_0 + (320 - 2 * G1_0) ≤ x) (h1 : G1_0 + 3 ≤ 160) : x < m + 276 + 2 * G1_0 ∨ m + 276 + 2 * G1_0 + 6 ≤ x := by omega
theorem zx_X16_powerOf_20 {G1_0 m to x : Nat} (h0 : to ≤ x) (h1 : x < to + 2) (h2 : (m + 276 ≤ to ∧ to + 2 ≤ m + 276 + 2 * G1_0) ∨ m + 596 ≤ to) (h3 : G1_0 + 3 ≤ 160) : x ≠ m := by omega
theorem zx_X16_powerOf_21 {G1_0 G1_1 G1_2 m x : Nat} (h0 : m + 276 + 2 * G1_2 ≤ x) (h1 : x < m + 276 + 2 * G1_2 + 2) (h2 : G1_1 = G1_0 + 1) (h3 : G1_2 = G1_0 + 2) (h4 : G1_0 + 3 ≤ 160) : x < m + 276 + 2 * G1_1 ∨ m + 276 + 2 * G1_1 + 2 ≤ x := by omega
theorem zx_X16_powerOf_22 {G1_0 f m x : Nat} (h0 : f ≤ x) (h1 : x < f + 2) (h2 : (m + 276 ≤ f ∧ f + 2 ≤ m + 276 + 2 * G1_0) ∨ m + 596 ≤ f) (h3 : G1_0 + 3 ≤ 160) : x < m + 276 + 2 * G1_0 ∨ m + 276 + 2 * G1_0 + 6 ≤ x := by omega
theorem zx_X16_powerOf_23 {G1_0 f m x : Nat} (h0 : f ≤ x) (h1 : x < f + 2) (h2 : (m + 276 ≤ f ∧ f + 2 ≤ m + 276 + 2 * G1_0) ∨ m + 596 ≤ f) (h3 : G1_0 + 3 ≤ 160) : x ≠ m := by omega
theorem zx_X16_powerOf_24 {G1_0 G1_1 m x : Nat} (h0 : x < m + 276 + 2 * G1_0 ∨ m + 276 + 2 * G1_0 + 6 ≤ x) (h1 : G1_1 = G1_0 + 1) (h2 : G1_0 + 3 ≤ 160) : x < m + 276 + 2 * G1_1 ∨ m + 276 + 2 * G1_1 + 2 ≤ x := by omega
theorem zx_X16_powerOf_25 {G1_0 G1_2 m x : Nat} (h0 : x < m + 276 + 2 * G1_0 ∨ m + 276 + 2 * G1_0 + 6 ≤ x) (h1 : G1_2 = G1_0 + 2) (h2 : G1_0 + 3 ≤ 160) : x < m + 276 + 2 * G1_2 ∨ m + 276 + 2 * G1_2 + 2 ≤ x := by omega
theorem zx_X16_powerOf_26 {G1_0 G1_1 m : Nat} (h0 : G1_1 = G1_0 + 1) (h1 : G1_0 + 3 ≤ 160) : m < m + 276 + 2 * G1_1 ∨ m + 276 + 2 * G1_1 + 2 ≤ m := by omega
theorem zx_X16_powerOf_27 {G1_0 G1_1 m x : Nat} (h0 : m + 276 + 2 * G1_1 ≤ x) (h1 : x < m + 276 + 2 * G1_1 + 2) (h2 : G1_1 = G1_0 + 1) (h3 : G1_0 + 3 ≤ 160) : x < m + 276 + 2 * G1_0 ∨ m + 276 + 2 * G1_0 + 2 ≤ x := by omega
theorem zx_X16_powerOf_28 {G1_0 m x : Nat} (h0 : x < m + 276 + 2 * G1_0 ∨ m + 276 + 2 * G1_0 + 6 ≤ x) (h1 : G1_0 + 3 ≤ 160) : x < m + 276 + 2 * G1_0 ∨ m + 276 + 2 * G1_0 + 2 ≤ x := by omega
theorem zx_X16_powerOf_29 {G1_0 G1_1 m x : Nat} (h0 : m + 276 + 2 * G1_1 ≤ x) (h1 : x < m + 276 + 2 * G1_1 + 2) (h2 : G1_1 = G1_0 + 1) (h3 : G1_0 + 3 ≤ 160) : x < m ∨ m + 1 ≤ x := by omega
theorem zx_X16_powerOf_30 {G1_0 G1_1 G1_2 m x : Nat} (h0 : m + 276 + 2 * G1_1 ≤ x) (h1 : x < m + 276 + 2 * G1_1 + 2) (h2 : G1_1 = G1_0 + 1) (h3 : G1_2 = G1_0 + 2) (h4 : G1_0 + 3 ≤ 160) : x < m + 276 + 2 * G1_2 ∨ m + 276 + 2 * G1_2 + 2 ≤ x := by omega
set_option maxHeartbeats 8000000 in
set_option maxRecDepth 100000 in
theorem c_X16_powerOf {w : zM} {g : Nat → Int32} {r : Nat → Value} {cx cf : Nat} {X F : zA1} {g1 : Int32} (m : Nat) (to : Nat) (xu : Nat) (en : Int64) (f : Nat) (hm : w m = some (.inl (15, zMo m g r))) (hR_m : zR m w) (hUo_to : zUo w to 1000) (hU_xu : zU w xu cx X) (hU_f : zU w f cf F) (hut : 0 ≤ g1.toInt ∧ g1.toInt + 3 ≤ 160) (hoto : (m + 276 ≤ to ∧ to + 2 ≤ m + 276 + 2 * g1.toNatClampNeg) ∨ m + 596 ≤ to) (hoxu : (m + 276 ≤ xu ∧ xu + 2 ≤ m + 276 + 2 * g1.toNatClampNeg) ∨ m + 596 ≤ xu) (hof : (m + 276 ≤ f ∧ f + 2 ≤ m + 276 + 2 * g1.toNatClampNeg) ∨ m + 596 ≤ f) (he : 0 ≤ en.toInt) (hF : 2 ≤ zln F ∧ zln F ≤ 26) (hX : zln X ≤ 1000) (hg1 : g 1 = g1) : zCon 4 zq_X16_powerOf [.ref m, .ref to, .ref xu, .long en, .ref f] w (fun v9 w9' => ∃ R9 : zA1, zSI w w9' ∧ (∀ x, (x < to ∨ to + 2 ≤ x) ∧ (x < m + 276 + 2 * g1.toNatClampNeg ∨ m + 276 + 2 * g1.toNatClampNeg + (320 - 2 * g1.toNatClampNeg) ≤ x) → w9' x = w x) ∧ zU w9' to 1000 R9 ∧ (zcg F R9 (zpq X en.toInt.toNat) ∧ zln R9 < zln F) ∧ v9 = none) := by
  subst hg1
  intro d sz hd
  obtain ⟨d, rfl⟩ : ∃ d9, d = d9 + 1 := ⟨d - 1, by omega⟩
  generalize hPost : (fun (r9' : Option (Option Value)) (w9' : zM) (z9 : Nat) => z9 = sz ∧ ∃ v9, r9' = some v9 ∧ (∃ R9 : zA1, zSI w w9' ∧ (∀ x, (x < to ∨ to + 2 ≤ x) ∧ (x < m + 276 + 2 * (g 1).toNatClampNeg ∨ m + 276 + 2 * (g 1).toNatClampNeg + (320 - 2 * (g 1).toNatClampNeg) ≤ x) → w9' x = w x) ∧ zU w9' to 1000 R9 ∧ (zcg F R9 (zpq X en.toInt.toNat) ∧ zln R9 < zln F) ∧ v9 = none)) = Post
  show zP (d + 1) zq_X16_powerOf 0 [(0, .ref m), (1, .ref to), (2, .ref xu), (3, .long en), (5, .ref f)] [] w sz 0 0 Post
  have ken := zrngL en
  have k1 := zrng (g 1)
  have hz2 : ((g 1).toNatClampNeg : Int) = (g 1).toInt := znat (by first | omega | decide)
  have hgb1 : (g 1).toNatClampNeg + 3 ≤ 160 := by omega
  have k4 := zaddC (g 1) 1 (n := 1) (by decide) (by omega) (by omega)
  have hz5 : ((g 1 + 1).toNatClampNeg : Int) = (g 1 + 1).toInt := znat (by first | omega | decide)
  have hgn1_1 : (g 1 + 1).toNatClampNeg = (g 1).toNatClampNeg + 1 := by omega
  have k6 := zaddC (g 1 + 1) 1 (n := 1) (by decide) (by omega) (by omega)
  have hz7 : ((g 1 + 1 + 1).toNatClampNeg : Int) = (g 1 + 1 + 1).toInt := znat (by first | omega | decide)
  have hgn1_2 : (g 1 + 1 + 1).toNatClampNeg = (g 1).toNatClampNeg + 2 := by omega
  refine zp_seg (pc' := 1) (lv' := [(0, .ref m), (1, .ref to), (2, .ref xu), (3, .long en), (5, .ref f)]) (st' := [.ref m]) [(0, .aload_n 0)] (by decide +kernel) rfl ?_
  refine zr_get (idx := 21) (k := 1) (v := .int (g 1)) (by decide +kernel) (by decide +kernel) hm rfl ?_
  refine zp_seg (pc' := 7) (lv' := [(6, .int (g 1)), (0, .ref m), (1, .ref to), (2, .ref xu), (3, .long en), (5, .ref f)]) (st' := [.ref m]) [(4, .istore 6), (6, .aload_n 0)] (by decide +kernel) rfl ?_
  refine zr_callV (idx := 74) (j := 263) (by decide +kernel) (by decide +kernel) (show zMe 263 = some zq_X16_newU from rfl) rfl rfl (Nat.le_of_ble_eq_true rfl) rfl rfl hm (Nat.le_of_ble_eq_true rfl) (Nat.le_of_ble_eq_true rfl) (c_X16_newU (w := w) (g1 := (g 1)) m hm hR_m (by first | omega | decide | assumption | exact zr1_1 | exact zr1_0 | fail "num") rfl) (by omega) (fun v7 w7 hp7 => ?_)
  obtain ⟨hsi7, heq7, hp7_0, hp7_1, rfl⟩ := hp7
  have hM7 : w7 m = some (.inl (15, zMo m (zs g 1 (g 1 + 1)) r)) := hp7_0
  show zP _ _ _ _ [.ref (m + 276 + 2 * (g 1).toNatClampNeg)] _ _ _ _ _
  refine zp_seg (pc' := 13) (lv' := [(7, .ref (m + 276 + 2 * (g 1).toNatClampNeg)), (6, .int (g 1)), (0, .ref m), (1, .ref to), (2, .ref xu), (3, .long en), (5, .ref f)]) (st' := [.ref m]) [(10, .astore 7), (12, .aload_n 0)] (by decide +kernel) rfl ?_
  have hb8 := hR_m.si hsi7
  refine zr_callV (idx := 74) (j := 263) (by decide +kernel) (by decide +kernel) (show zMe 263 = some zq_X16_newU from rfl) rfl rfl (Nat.le_of_ble_eq_true rfl) rfl rfl hM7 (Nat.le_of_ble_eq_true rfl) (Nat.le_of_ble_eq_true rfl) (c_X16_newU (w := w7) (g1 := (g 1 + 1)) m hM7 hb8 (by first | omega | decide | assumption | exact zr1_1 | exact zr1_0 | fail "num") rfl) (by omega) (fun v13 w13 hp13 => ?_)
  obtain ⟨hsi13, heq13, hp13_0, hp13_1, rfl⟩ := hp13
  have hM13 : w13 m = some (.inl (15, zMo m (zs g 1 (g 1 + 1 + 1)) r)) := hp13_0
  show zP _ _ _ _ [.ref (m + 276 + 2 * (g 1 + 1).toNatClampNeg)] _ _ _ _ _
  refine zp_seg (pc' := 19) (lv' := [(8, .ref (m + 276 + 2 * (g 1 + 1).toNatClampNeg)), (7, .ref (m + 276 + 2 * (g 1).toNatClampNeg)), (6, .int (g 1)), (0, .ref m), (1, .ref to), (2, .ref xu), (3, .long en), (5, .ref f)]) (st' := [.ref m]) [(16, .astore 8), (18, .aload_n 0)] (by decide +kernel) rfl ?_
  have hb9 := hb8.si hsi13
  refine zr_callV (idx := 74) (j := 263) (by decide +kernel) (by decide +kernel) (show zMe 263 = some zq_X16_newU from rfl) rfl rfl (Nat.le_of_ble_eq_true rfl) rfl rfl hM13 (Nat.le_of_ble_eq_true rfl) (Nat.le_of_ble_eq_true rfl) (c_X16_newU (w := w13) (g1 := (g 1 + 1 + 1)) m hM13 hb9 (by first | omega | decide | assumption | exact zr1_1 | exact zr1_0 | fail "num") rfl) (by omega) (fun v19 w19 hp19 => ?_)
  obtain ⟨hsi19, heq19, hp19_0, hp19_1, rfl⟩ := hp19
  have hM19 : w19 m = some (.inl (15, zMo m (zs g 1 (g 1 + 1 + 1 + 1)) r)) := hp19_0
  show zP _ _ _ _ [.ref (m + 276 + 2 * (g 1 + 1 + 1).toNatClampNeg)] _ _ _ _ _
  refine zp_seg (pc' := 27) (lv' := [(9, .ref (m + 276 + 2 * (g 1 + 1 + 1).toNatClampNeg)), (8, .ref (m + 276 + 2 * (g 1 + 1).toNatClampNeg)), (7, .ref (m + 276 + 2 * (g 1).toNatClampNeg)), (6, .int (g 1)), (0, .ref m), (1, .ref to), (2, .ref xu), (3, .long en), (5, .ref f)]) (st' := [.int 1, .ref (m + 276 + 2 * (g 1).toNatClampNeg)]) [(22, .astore 9), (24, .aload 7), (26, .iconst 1)] (by decide +kernel) rfl ?_
  have hb10 : zU w19 (m + 276 + 2 * (g 1).toNatClampNeg) 1000 zaZ := hp7_1.ag (fun x hx1 hx2 => ((heq19 x ⟨(zx_X16_powerOf_0 hx1 hx2 hgb1), (zx_X16_powerOf_2 hx1 hx2 hgn1_2 hgb1)⟩).trans (heq13 x ⟨(zx_X16_powerOf_0 hx1 hx2 hgb1), (zx_X16_powerOf_1 hx1 hx2 hgn1_1 hgb1)⟩)))
  have ho27_u := zU.o hb10
  obtain ⟨n11, f12, hu13, hu14, hu15, hu16, hu17⟩ := id hb10
  have kn11 := zrng n11
  refine zr_callV (idx := 147) (j := 252) (by decide +kernel) (by decide +kernel) (show zMe 252 = some zq_X15_number from rfl) rfl rfl (Nat.le_of_ble_eq_true rfl) rfl rfl hu13 (Nat.le_of_ble_eq_true rfl) (Nat.le_of_ble_eq_true rfl) (c_X15_number (w := w19) (m + 276 + 2 * (g 1).toNatClampNeg) 1 ho27_u (by exact zr1_1) (by first | omega | decide | assumption | exact zr1_1 | exact zr1_0 | fail "num")) (by omega) (fun v27 w27 hp27 => ?_)
  obtain ⟨hsi27, heq27, hp27_0, rfl⟩ := hp27
  show zP _ _ _ _ [] _ _ _ _ _
  refine zp_seg (pc' := 36) (lv' := [(9, .ref (m + 276 + 2 * (g 1 + 1 + 1).toNatClampNeg)), (8, .ref (m + 276 + 2 * (g 1 + 1).toNatClampNeg)), (7, .ref (m + 276 + 2 * (g 1).toNatClampNeg)), (6, .int (g 1)), (0, .ref m), (1, .ref to), (2, .ref xu), (3, .long en), (5, .ref f)]) (st' := [.ref f, .ref xu, .ref (m + 276 + 2 * (g 1 + 1 + 1).toNatClampNeg), .null]) [(30, .aconst_null), (31, .aload 9), (33, .aload_n 2), (34, .aload 5)] (by decide +kernel) rfl ?_
  have hb18 : zU w27 (m + 276 + 2 * (g 1 + 1 + 1).toNatClampNeg) 1000 zaZ := hp19_1.ag (fun x hx1 hx2 => (heq27 x (zx_X16_powerOf_3 hx1 hx2 hgn1_2 hgb1)))
  have ho36_r := zU.o hb18
  have hb19 : zU w27 xu cx X := hU_xu.ag (fun x hx1 hx2 => ((heq27 x (zx_X16_powerOf_5 hx1 hx2 hoxu hgb1)).trans ((heq19 x ⟨(zx_X16_powerOf_4 hx1 hx2 hoxu hgb1), (zx_X16_powerOf_7 hx1 hx2 hoxu hgn1_2 hgb1)⟩).trans ((heq13 x ⟨(zx_X16_powerOf_4 hx1 hx2 hoxu hgb1), (zx_X16_powerOf_6 hx1 hx2 hoxu hgn1_1 hgb1)⟩).trans (heq7 x ⟨(zx_X16_powerOf_4 hx1 hx2 hoxu hgb1), (zx_X16_powerOf_5 hx1 hx2 hoxu hgb1)⟩)))))
  have hb20 : zU w27 f cf F := hU_f.ag (fun x hx1 hx2 => ((heq27 x (zx_X16_powerOf_9 hx1 hx2 hof hgb1)).trans ((heq19 x ⟨(zx_X16_powerOf_8 hx1 hx2 hof hgb1), (zx_X16_powerOf_11 hx1 hx2 hof hgn1_2 hgb1)⟩).trans ((heq13 x ⟨(zx_X16_powerOf_8 hx1 hx2 hof hgb1), (zx_X16_powerOf_10 hx1 hx2 hof hgn1_1 hgb1)⟩).trans (heq7 x ⟨(zx_X16_powerOf_8 hx1 hx2 hof hgb1), (zx_X16_powerOf_9 hx1 hx2 hof hgb1)⟩)))))
  refine zr_callS (idx := 78) (j := 268) (by decide +kernel) (by decide +kernel) (by decide) (show zMe 268 = some zq_X16_divide from rfl) rfl rfl (Nat.le_of_ble_eq_true rfl) rfl rfl (Nat.le_of_ble_eq_true rfl) (Nat.le_of_ble_eq_true rfl) (c_X16_divideN (w := w27)  (m + 276 + 2 * (g 1 + 1 + 1).toNatClampNeg) xu f ho36_r hb19 hb20 (by first | omega | decide | assumption | exact zr1_1 | exact zr1_0 | fail "num") (by first | omega | decide | assumption | exact zr1_1 | exact zr1_0 | fail "num") (by first | omega | decide | assumption | exact zr1_1 | exact zr1_0 | fail "num") (by first | omega | decide | assumption | exact zr1_1 | exact zr1_0 | fail "num") (by first | omega | decide | assumption | exact zr1_1 | exact zr1_0 | fail "num")) (by omega) (fun v36 w36 hp36 => ?_)
  obtain ⟨hsi36, heq36, hp36_0, rfl⟩ := hp36
  show zP _ _ _ _ [] _ _ _ _ _
  have hon9 : zaC (zf 1) = zaO := by rw [zf_1]; exact zaC_1
  have hol9 : zln (zaC (zf 1)) = 1 := by rw [hon9]; exact zln_O
  have hlr9 := (zdm (p := X) (d := F) (by omega)).2
  refine zp_seg (pc' := 42) (lv' := [(10, .long en), (9, .ref (m + 276 + 2 * (g 1 + 1 + 1).toNatClampNeg)), (8, .ref (m + 276 + 2 * (g 1 + 1).toNatClampNeg)), (7, .ref (m + 276 + 2 * (g 1).toNatClampNeg)), (6, .int (g 1)), (0, .ref m), (1, .ref to), (2, .ref xu), (3, .long en), (5, .ref f)]) (st' := []) [(39, .lload_n 3), (40, .lstore 10)] (by decide +kernel) rfl ?_
  have hb21 : w36 m = some (.inl (15, zMo m (zs g 1 (g 1 + 1 + 1 + 1)) r)) := ((heq36 m (zx_X16_powerOf_13 hgn1_2 hgb1)).trans (heq27 m (zx_X16_powerOf_12 hgb1))).trans hM19
  have hL42 : ∀ (mm42 : Nat) (wL42 : zM) (y10_42 : Int64) (RR : zA1) (YY : zA1), (zSI w36 wL42) → (∀ x, ((x < m + 276 + 2 * (g 1).toNatClampNeg ∨ m + 276 + 2 * (g 1).toNatClampNeg + 6 ≤ x)) ∧ x ≠ m → wL42 x = w36 x) → (0 ≤ y10_42.toInt) → (zU wL42 (m + 276 + 2 * (g 1).toNatClampNeg) 1000 RR) → (zU wL42 (m + 276 + 2 * (g 1 + 1 + 1).toNatClampNeg) 1000 YY) → (zUo wL42 (m + 276 + 2 * (g 1 + 1).toNatClampNeg) 1000) → (wL42 m = some (.inl (15, zMo m (zs g 1 (g 1 + 1 + 1 + 1)) r))) → (zqJ F X RR YY en.toInt.toNat y10_42.toInt.toNat) → (zln RR < zln F ∧ zln YY < zln F) → y10_42.toInt.toNat < mm42 → zP (d + 1) zq_X16_powerOf 42 [(0, .ref m), (1, .ref to), (5, .ref f), (6, .int (g 1)), (7, .ref (m + 276 + 2 * (g 1).toNatClampNeg)), (8, .ref (m + 276 + 2 * (g 1 + 1).toNatClampNeg)), (9, .ref (m + 276 + 2 * (g 1 + 1 + 1).toNatClampNeg)), (10, .long y10_42)] [] wL42 sz 0 0 Post := by
    intro mm42
    induction mm42 with
    | zero => intros; omega
    | succ mm42 ih42 =>
    intro wL42 y10_42 RR YY hsiL42 heqL42 hi42_0 hUr hUy hUp hmL42 hI9 hln9 hmu42
    have ky10_42 := zrngL y10_42
    refine zp_seg (pc' := 46) (lv' := [(0, .ref m), (1, .ref to), (5, .ref f), (6, .int (g 1)), (7, .ref (m + 276 + 2 * (g 1).toNatClampNeg)), (8, .ref (m + 276 + 2 * (g 1 + 1).toNatClampNeg)), (9, .ref (m + 276 + 2 * (g 1 + 1 + 1).toNatClampNeg)), (10, .long y10_42)]) (st' := [.int (lg_cmp y10_42 0)]) [(42, .lload 10), (44, .lconst 0), (45, .lcmp)] (by decide +kernel) rfl ?_
    have k22 := zcmpI y10_42 0
    rw [show (0 : Int64).toInt = 0 from by decide] at k22
    generalize ev46 : (lg_cmp y10_42 0 : Int32) = v46 at k22 ⊢
    have kv46 := zrng v46
    refine zp_if (i := .ifCond .le 59) (c := v46 ≤ 0) (t := 105) (e := 49) (lv' := [(0, .ref m), (1, .ref to), (5, .ref f), (6, .int (g 1)), (7, .ref (m + 276 + 2 * (g 1).toNatClampNeg)), (8, .ref (m + 276 + 2 * (g 1 + 1).toNatClampNeg)), (9, .ref (m + 276 + 2 * (g 1 + 1 + 1).toNatClampNeg)), (10, .long y10_42)]) (st' := []) (by decide +kernel) rfl (fun cc46 => ?_) (fun cc46 => ?_)
    ·
      have f24 := zleI cc46
      rw [show (0 : Int32).toInt = 0 from by decide] at f24
      refine zp_seg (pc' := 108) (lv' := [(0, .ref m), (1, .ref to), (5, .ref f), (6, .int (g 1)), (7, .ref (m + 276 + 2 * (g 1).toNatClampNeg)), (8, .ref (m + 276 + 2 * (g 1 + 1).toNatClampNeg)), (9, .ref (m + 276 + 2 * (g 1 + 1 + 1).toNatClampNeg)), (10, .long y10_42)]) (st' := [.ref (m + 276 + 2 * (g 1).toNatClampNeg), .ref to]) [(105, .aload_n 1), (106, .aload 7)] (by decide +kernel) rfl ?_
      have hb25 := hUo_to.si (((((hsi7.tr hsi13).tr hsi19).tr hsi27).tr hsi36).tr hsiL42)
      refine zr_callS (idx := 62) (j := 264) (by decide +kernel) (by decide +kernel) (by decide) (show zMe 264 = some zq_X16_set from rfl) rfl rfl (Nat.le_of_ble_eq_true rfl) rfl rfl (Nat.le_of_ble_eq_true rfl) (Nat.le_of_ble_eq_true rfl) (c_X16_set (w := wL42) to (m + 276 + 2 * (g 1).toNatClampNeg) hb25 hUr (by first | omega | decide | assumption | exact zr1_1 | exact zr1_0 | fail "num") (by first | omega | decide | assumption | exact zr1_1 | exact zr1_0 | fail "num")) (by omega) (fun v108 w108 hp108 => ?_)
      obtain ⟨hsi108, heq108, hp108_0, rfl⟩ := hp108
      show zP _ _ _ _ [] _ _ _ _ _
      refine zp_seg (pc' := 114) (lv' := [(0, .ref m), (1, .ref to), (5, .ref f), (6, .int (g 1)), (7, .ref (m + 276 + 2 * (g 1).toNatClampNeg)), (8, .ref (m + 276 + 2 * (g 1 + 1).toNatClampNeg)), (9, .ref (m + 276 + 2 * (g 1 + 1 + 1).toNatClampNeg)), (10, .long y10_42)]) (st' := [.int (g 1), .ref m]) [(111, .aload_n 0), (112, .iload 6)] (by decide +kernel) rfl ?_
      have hb26 : w108 m = some (.inl (15, zMo m (zs g 1 (g 1 + 1 + 1 + 1)) r)) := (heq108 m (zx_X16_powerOf_14 hoto hgb1)).trans hmL42
      refine zr_put2 (idx := 21) (k := 1) (fs2 := zMo m g r) (by decide +kernel) (by decide +kernel) hb26 (Nat.le_of_ble_eq_true rfl) rfl rfl rfl ?_
      show zP (d + 1) zq_X16_powerOf 117 [(0, .ref m), (1, .ref to), (5, .ref f), (6, .int (g 1)), (7, .ref (m + 276 + 2 * (g 1).toNatClampNeg)), (8, .ref (m + 276 + 2 * (g 1 + 1).toNatClampNeg)), (9, .ref (m + 276 + 2 * (g 1 + 1 + 1).toNatClampNeg)), (10, .long y10_42)] [] (zup w108 m (.inl (15, zMo m g r))) sz 0 0 Post
      obtain ⟨w114, ew114⟩ : ∃ wz9, wz9 = zup w108 m (.inl (15, zMo m g r)) := ⟨_, rfl⟩
      have hsi114 : zSI w108 w114 := by rw [ew114]; exact zSI.setG hb26 _ _
      have heq114 : ∀ x, x ≠ m → w114 x = w108 x := fun x hx => by rw [ew114]; exact zup_n hx
      have hc114 : w114 m = some (.inl (15, zMo m g r)) := by rw [ew114]; exact zup_s
      rw [← ew114]
      clear ew114
      have hmend : w114 m = w m := by rw [hc114, hm]
      have hoffend : ∀ x, (x < to ∨ to + 2 ≤ x) ∧ (x < m + 276 + 2 * (g 1).toNatClampNeg ∨ m + 276 + 2 * (g 1).toNatClampNeg + (320 - 2 * (g 1).toNatClampNeg) ≤ x) → w114 x = w x := fun x hx => by
          by_cases ex : x = m
          · rw [ex]; exact hmend
          · exact ((heq114 x ex).trans ((heq108 x hx.1).trans ((heqL42 x ⟨(zx_X16_powerOf_19 hx.2 hgb1), ex⟩).trans ((heq36 x (zx_X16_powerOf_18 hx.2 hgn1_2 hgb1)).trans ((heq27 x (zx_X16_powerOf_16 hx.2 hgb1)).trans ((heq19 x ⟨(zx_X16_powerOf_15 ex), (zx_X16_powerOf_18 hx.2 hgn1_2 hgb1)⟩).trans ((heq13 x ⟨(zx_X16_powerOf_15 ex), (zx_X16_powerOf_17 hx.2 hgn1_1 hgb1)⟩).trans (heq7 x ⟨(zx_X16_powerOf_15 ex), (zx_X16_powerOf_16 hx.2 hgb1)⟩))))))))
      have hb27 : zU w114 to 1000 RR := hp108_0.ag (fun x hx1 hx2 => (heq114 x (zx_X16_powerOf_20 hx1 hx2 hoto hgb1)))
      refine zr_retV (by decide +kernel) rfl ?_
      rw [← hPost]; exact ⟨rfl, _, rfl, RR, (((((((hsi7.tr hsi13).tr hsi19).tr hsi27).tr hsi36).tr hsiL42).tr hsi108).tr hsi114), hoffend, (by first | exact hb27 | (have z9 := hb27; simpa using z9)), (by
            have hk0 : y10_42.toInt.toNat = 0 := by omega
            rw [hk0] at hI9
            exact ⟨zqJ_e hI9, hln9.1⟩), rfl⟩
    ·
      have f29 := znleI cc46
      rw [show (0 : Int32).toInt = 0 from by decide] at f29
      refine zp_seg (pc' := 53) (lv' := [(0, .ref m), (1, .ref to), (5, .ref f), (6, .int (g 1)), (7, .ref (m + 276 + 2 * (g 1).toNatClampNeg)), (8, .ref (m + 276 + 2 * (g 1 + 1).toNatClampNeg)), (9, .ref (m + 276 + 2 * (g 1 + 1 + 1).toNatClampNeg)), (10, .long y10_42)]) (st' := [.long (y10_42 &&& 1)]) [(49, .lload 10), (51, .lconst 1), (52, .land)] (by decide +kernel) rfl ?_
      have k30 := zandL1 y10_42 (by omega)
      generalize ev53 : (y10_42 &&& 1 : Int64) = v53 at k30 ⊢
      have kv53 := zrngL v53
      refine zp_seg (pc' := 55) (lv' := [(0, .ref m), (1, .ref to), (5, .ref f), (6, .int (g 1)), (7, .ref (m + 276 + 2 * (g 1).toNatClampNeg)), (8, .ref (m + 276 + 2 * (g 1 + 1).toNatClampNeg)), (9, .ref (m + 276 + 2 * (g 1 + 1 + 1).toNatClampNeg)), (10, .long y10_42)]) (st' := [.int (lg_cmp v53 1)]) [(53, .lconst 1), (54, .lcmp)] (by decide +kernel) rfl ?_
      have k31 := zcmpI v53 1
      rw [show (1 : Int64).toInt = 1 from by decide] at k31
      generalize ev55 : (lg_cmp v53 1 : Int32) = v55 at k31 ⊢
      have kv55 := zrng v55
      refine zp_if (i := .ifCond .ne 22) (c := ¬ v55 = 0) (t := 77) (e := 58) (lv' := [(0, .ref m), (1, .ref to), (5, .ref f), (6, .int (g 1)), (7, .ref (m + 276 + 2 * (g 1).toNatClampNeg)), (8, .ref (m + 276 + 2 * (g 1 + 1).toNatClampNeg)), (9, .ref (m + 276 + 2 * (g 1 + 1 + 1).toNatClampNeg)), (10, .long y10_42)]) (st' := []) (by decide +kernel) rfl (fun cc55 => ?_) (fun cc55 => ?_)
      ·
        have f32 := zneI cc55
        rw [show (0 : Int32).toInt = 0 from by decide] at f32
        have hm77 := zln_Mle YY YY
        have hm78 := (zdm (p := zaM YY YY) (d := F) (by omega)).2
        refine zp_seg (pc' := 83) (lv' := [(0, .ref m), (1, .ref to), (5, .ref f), (6, .int (g 1)), (7, .ref (m + 276 + 2 * (g 1).toNatClampNeg)), (8, .ref (m + 276 + 2 * (g 1 + 1).toNatClampNeg)), (9, .ref (m + 276 + 2 * (g 1 + 1 + 1).toNatClampNeg)), (10, .long y10_42)]) (st' := [.ref (m + 276 + 2 * (g 1 + 1 + 1).toNatClampNeg), .ref (m + 276 + 2 * (g 1 + 1 + 1).toNatClampNeg), .ref (m + 276 + 2 * (g 1 + 1).toNatClampNeg)]) [(77, .aload 8), (79, .aload 9), (81, .aload 9)] (by decide +kernel) rfl ?_
        refine zr_callS (idx := 106) (j := 267) (by decide +kernel) (by decide +kernel) (by decide) (show zMe 267 = some zq_X16_times from rfl) rfl rfl (Nat.le_of_ble_eq_true rfl) rfl rfl (Nat.le_of_ble_eq_true rfl) (Nat.le_of_ble_eq_true rfl) (c_X16_times (w := wL42) (m + 276 + 2 * (g 1 + 1).toNatClampNeg) (m + 276 + 2 * (g 1 + 1 + 1).toNatClampNeg) (m + 276 + 2 * (g 1 + 1 + 1).toNatClampNeg) hUp hUy hUy (by first | omega | decide | assumption | exact zr1_1 | exact zr1_0 | fail "num") (by first | omega | decide | assumption | exact zr1_1 | exact zr1_0 | fail "num") (by first | omega | decide | assumption | exact zr1_1 | exact zr1_0 | fail "num") (by first | omega | decide | assumption | exact zr1_1 | exact zr1_0 | fail "num")) (by omega) (fun v83 w83 hp83 => ?_)
        obtain ⟨hsi83, heq83, hp83_0, rfl⟩ := hp83
        show zP _ _ _ _ [] _ _ _ _ _
        refine zp_seg (pc' := 93) (lv' := [(0, .ref m), (1, .ref to), (5, .ref f), (6, .int (g 1)), (7, .ref (m + 276 + 2 * (g 1).toNatClampNeg)), (8, .ref (m + 276 + 2 * (g 1 + 1).toNatClampNeg)), (9, .ref (m + 276 + 2 * (g 1 + 1 + 1).toNatClampNeg)), (10, .long y10_42)]) (st' := [.ref f, .ref (m + 276 + 2 * (g 1 + 1).toNatClampNeg), .ref (m + 276 + 2 * (g 1 + 1 + 1).toNatClampNeg), .null]) [(86, .aconst_null), (87, .aload 9), (89, .aload 8), (91, .aload 5)] (by decide +kernel) rfl ?_
        have hb33 : zU w83 (m + 276 + 2 * (g 1 + 1 + 1).toNatClampNeg) 1000 YY := hUy.ag (fun x hx1 hx2 => (heq83 x (zx_X16_powerOf_21 hx1 hx2 hgn1_1 hgn1_2 hgb1)))
        have ho93_r := zU.o hb33
        have hb34 : zU w83 f cf F := hb20.ag (fun x hx1 hx2 => ((heq83 x (zx_X16_powerOf_10 hx1 hx2 hof hgn1_1 hgb1)).trans ((heqL42 x ⟨(zx_X16_powerOf_22 hx1 hx2 hof hgb1), (zx_X16_powerOf_23 hx1 hx2 hof hgb1)⟩).trans (heq36 x (zx_X16_powerOf_11 hx1 hx2 hof hgn1_2 hgb1)))))
        refine zr_callS (idx := 78) (j := 268) (by decide +kernel) (by decide +kernel) (by decide) (show zMe 268 = some zq_X16_divide from rfl) rfl rfl (Nat.le_of_ble_eq_true rfl) rfl rfl (Nat.le_of_ble_eq_true rfl) (Nat.le_of_ble_eq_true rfl) (c_X16_divideN (w := w83)  (m + 276 + 2 * (g 1 + 1 + 1).toNatClampNeg) (m + 276 + 2 * (g 1 + 1).toNatClampNeg) f ho93_r hp83_0 hb34 (by first | omega | decide | assumption | exact zr1_1 | exact zr1_0 | fail "num") (by first | omega | decide | assumption | exact zr1_1 | exact zr1_0 | fail "num") (by first | omega | decide | assumption | exact zr1_1 | exact zr1_0 | fail "num") (by first | omega | decide | assumption | exact zr1_1 | exact zr1_0 | fail "num") (by first | omega | decide | assumption | exact zr1_1 | exact zr1_0 | fail "num")) (by omega) (fun v93 w93 hp93 => ?_)
        obtain ⟨hsi93, heq93, hp93_0, rfl⟩ := hp93
        show zP _ _ _ _ [] _ _ _ _ _
        refine zp_seg (pc' := 100) (lv' := [(0, .ref m), (1, .ref to), (5, .ref f), (6, .int (g 1)), (7, .ref (m + 276 + 2 * (g 1).toNatClampNeg)), (8, .ref (m + 276 + 2 * (g 1 + 1).toNatClampNeg)), (9, .ref (m + 276 + 2 * (g 1 + 1 + 1).toNatClampNeg)), (10, .long y10_42)]) (st' := [.long (y10_42 >>> ((1 : Int32).toInt64 &&& 63))]) [(96, .lload 10), (98, .iconst 1), (99, .lshr)] (by decide +kernel) rfl ?_
        have k35 := zshrL1 y10_42
        generalize ev100 : (y10_42 >>> ((1 : Int32).toInt64 &&& 63) : Int64) = v100 at k35 ⊢
        have kv100 := zrngL v100
        refine zp_seg (pc' := 42) (lv' := [(10, .long v100), (0, .ref m), (1, .ref to), (5, .ref f), (6, .int (g 1)), (7, .ref (m + 276 + 2 * (g 1).toNatClampNeg)), (8, .ref (m + 276 + 2 * (g 1 + 1).toNatClampNeg)), (9, .ref (m + 276 + 2 * (g 1 + 1 + 1).toNatClampNeg))]) (st' := []) [(100, .lstore 10), (102, .goto (-60))] (by decide +kernel) rfl ?_
        have hb36 : zU w93 (m + 276 + 2 * (g 1).toNatClampNeg) 1000 RR := hUr.ag (fun x hx1 hx2 => ((heq93 x (zx_X16_powerOf_2 hx1 hx2 hgn1_2 hgb1)).trans (heq83 x (zx_X16_powerOf_1 hx1 hx2 hgn1_1 hgb1))))
        have hb37 := hUp.si (hsi83.tr hsi93)
        have hb38 : w93 m = some (.inl (15, zMo m (zs g 1 (g 1 + 1 + 1 + 1)) r)) := ((heq93 m (zx_X16_powerOf_13 hgn1_2 hgb1)).trans (heq83 m (zx_X16_powerOf_26 hgn1_1 hgb1))).trans hmL42
        exact (ih42 w93 v100 (RR) ((zrem (zaM YY YY) F)) ((hsiL42.tr hsi83).tr hsi93) (fun x hx => ((heq93 x (zx_X16_powerOf_25 hx.1 hgn1_2 hgb1)).trans ((heq83 x (zx_X16_powerOf_24 hx.1 hgn1_1 hgb1)).trans (heqL42 x ⟨hx.1, hx.2⟩)))) (by first | assumption | omega | decide) hb36 hp93_0 hb37 hb38 (by
              rw [show v100.toInt.toNat = y10_42.toInt.toNat / 2 by omega]
              first
              | exact zqJ_1 hI9 (by omega) (zcg_rem _ (by omega)) (zcg_rem _ (by omega))
              | exact zqJ_0 hI9 (by omega) (zcg_rem _ (by omega))) (by
              exact ⟨by omega, by omega⟩) (by omega)).more (zfa1 rfl (zfa1 rfl (zfa1 rfl (zfa1 rfl (zfa1 rfl (zfa1 rfl (zfa1 rfl (zfa1 rfl (zfa0)))))))))
      ·
        replace cc55 := Classical.not_not.mp cc55
        have f39 := zeqI cc55
        rw [show (0 : Int32).toInt = 0 from by decide] at f39
        have hm58 := zln_Mle RR YY
        refine zp_seg (pc' := 64) (lv' := [(0, .ref m), (1, .ref to), (5, .ref f), (6, .int (g 1)), (7, .ref (m + 276 + 2 * (g 1).toNatClampNeg)), (8, .ref (m + 276 + 2 * (g 1 + 1).toNatClampNeg)), (9, .ref (m + 276 + 2 * (g 1 + 1 + 1).toNatClampNeg)), (10, .long y10_42)]) (st' := [.ref (m + 276 + 2 * (g 1 + 1 + 1).toNatClampNeg), .ref (m + 276 + 2 * (g 1).toNatClampNeg), .ref (m + 276 + 2 * (g 1 + 1).toNatClampNeg)]) [(58, .aload 8), (60, .aload 7), (62, .aload 9)] (by decide +kernel) rfl ?_
        refine zr_callS (idx := 106) (j := 267) (by decide +kernel) (by decide +kernel) (by decide) (show zMe 267 = some zq_X16_times from rfl) rfl rfl (Nat.le_of_ble_eq_true rfl) rfl rfl (Nat.le_of_ble_eq_true rfl) (Nat.le_of_ble_eq_true rfl) (c_X16_times (w := wL42) (m + 276 + 2 * (g 1 + 1).toNatClampNeg) (m + 276 + 2 * (g 1).toNatClampNeg) (m + 276 + 2 * (g 1 + 1 + 1).toNatClampNeg) hUp hUr hUy (by first | omega | decide | assumption | exact zr1_1 | exact zr1_0 | fail "num") (by first | omega | decide | assumption | exact zr1_1 | exact zr1_0 | fail "num") (by first | omega | decide | assumption | exact zr1_1 | exact zr1_0 | fail "num") (by first | omega | decide | assumption | exact zr1_1 | exact zr1_0 | fail "num")) (by omega) (fun v64 w64 hp64 => ?_)
        obtain ⟨hsi64, heq64, hp64_0, rfl⟩ := hp64
        show zP _ _ _ _ [] _ _ _ _ _
        have hm67 := (zdm (p := zaM RR YY) (d := F) (by omega)).2
        refine zp_seg (pc' := 74) (lv' := [(0, .ref m), (1, .ref to), (5, .ref f), (6, .int (g 1)), (7, .ref (m + 276 + 2 * (g 1).toNatClampNeg)), (8, .ref (m + 276 + 2 * (g 1 + 1).toNatClampNeg)), (9, .ref (m + 276 + 2 * (g 1 + 1 + 1).toNatClampNeg)), (10, .long y10_42)]) (st' := [.ref f, .ref (m + 276 + 2 * (g 1 + 1).toNatClampNeg), .ref (m + 276 + 2 * (g 1).toNatClampNeg), .null]) [(67, .aconst_null), (68, .aload 7), (70, .aload 8), (72, .aload 5)] (by decide +kernel) rfl ?_
        have hb40 : zU w64 (m + 276 + 2 * (g 1).toNatClampNeg) 1000 RR := hUr.ag (fun x hx1 hx2 => (heq64 x (zx_X16_powerOf_1 hx1 hx2 hgn1_1 hgb1)))
        have ho74_r := zU.o hb40
        have hb41 : zU w64 f cf F := hb20.ag (fun x hx1 hx2 => ((heq64 x (zx_X16_powerOf_10 hx1 hx2 hof hgn1_1 hgb1)).trans ((heqL42 x ⟨(zx_X16_powerOf_22 hx1 hx2 hof hgb1), (zx_X16_powerOf_23 hx1 hx2 hof hgb1)⟩).trans (heq36 x (zx_X16_powerOf_11 hx1 hx2 hof hgn1_2 hgb1)))))
        refine zr_callS (idx := 78) (j := 268) (by decide +kernel) (by decide +kernel) (by decide) (show zMe 268 = some zq_X16_divide from rfl) rfl rfl (Nat.le_of_ble_eq_true rfl) rfl rfl (Nat.le_of_ble_eq_true rfl) (Nat.le_of_ble_eq_true rfl) (c_X16_divideN (w := w64)  (m + 276 + 2 * (g 1).toNatClampNeg) (m + 276 + 2 * (g 1 + 1).toNatClampNeg) f ho74_r hp64_0 hb41 (by first | omega | decide | assumption | exact zr1_1 | exact zr1_0 | fail "num") (by first | omega | decide | assumption | exact zr1_1 | exact zr1_0 | fail "num") (by first | omega | decide | assumption | exact zr1_1 | exact zr1_0 | fail "num") (by first | omega | decide | assumption | exact zr1_1 | exact zr1_0 | fail "num") (by first | omega | decide | assumption | exact zr1_1 | exact zr1_0 | fail "num")) (by omega) (fun v74 w74 hp74 => ?_)
        obtain ⟨hsi74, heq74, hp74_0, rfl⟩ := hp74
        show zP _ _ _ _ [] _ _ _ _ _
        have hm77 := zln_Mle YY YY
        have hm78 := (zdm (p := zaM YY YY) (d := F) (by omega)).2
        refine zp_seg (pc' := 83) (lv' := [(0, .ref m), (1, .ref to), (5, .ref f), (6, .int (g 1)), (7, .ref (m + 276 + 2 * (g 1).toNatClampNeg)), (8, .ref (m + 276 + 2 * (g 1 + 1).toNatClampNeg)), (9, .ref (m + 276 + 2 * (g 1 + 1 + 1).toNatClampNeg)), (10, .long y10_42)]) (st' := [.ref (m + 276 + 2 * (g 1 + 1 + 1).toNatClampNeg), .ref (m + 276 + 2 * (g 1 + 1 + 1).toNatClampNeg), .ref (m + 276 + 2 * (g 1 + 1).toNatClampNeg)]) [(77, .aload 8), (79, .aload 9), (81, .aload 9)] (by decide +kernel) rfl ?_
        have hb42 : zU w74 (m + 276 + 2 * (g 1 + 1).toNatClampNeg) 1000 (zaM RR YY) := hp64_0.ag (fun x hx1 hx2 => (heq74 x (zx_X16_powerOf_27 hx1 hx2 hgn1_1 hgb1)))
        have ho83_to := zU.o hb42
        have hb43 : zU w74 (m + 276 + 2 * (g 1 + 1 + 1).toNatClampNeg) 1000 YY := hUy.ag (fun x hx1 hx2 => ((heq74 x (zx_X16_powerOf_3 hx1 hx2 hgn1_2 hgb1)).trans (heq64 x (zx_X16_powerOf_21 hx1 hx2 hgn1_1 hgn1_2 hgb1))))
        refine zr_callS (idx := 106) (j := 267) (by decide +kernel) (by decide +kernel) (by decide) (show zMe 267 = some zq_X16_times from rfl) rfl rfl (Nat.le_of_ble_eq_true rfl) rfl rfl (Nat.le_of_ble_eq_true rfl) (Nat.le_of_ble_eq_true rfl) (c_X16_times (w := w74) (m + 276 + 2 * (g 1 + 1).toNatClampNeg) (m + 276 + 2 * (g 1 + 1 + 1).toNatClampNeg) (m + 276 + 2 * (g 1 + 1 + 1).toNatClampNeg) ho83_to hb43 hb43 (by first | omega | decide | assumption | exact zr1_1 | exact zr1_0 | fail "num") (by first | omega | decide | assumption | exact zr1_1 | exact zr1_0 | fail "num") (by first | omega | decide | assumption | exact zr1_1 | exact zr1_0 | fail "num") (by first | omega | decide | assumption | exact zr1_1 | exact zr1_0 | fail "num")) (by omega) (fun v83 w83 hp83 => ?_)
        obtain ⟨hsi83, heq83, hp83_0, rfl⟩ := hp83
        show zP _ _ _ _ [] _ _ _ _ _
        refine zp_seg (pc' := 93) (lv' := [(0, .ref m), (1, .ref to), (5, .ref f), (6, .int (g 1)), (7, .ref (m + 276 + 2 * (g 1).toNatClampNeg)), (8, .ref (m + 276 + 2 * (g 1 + 1).toNatClampNeg)), (9, .ref (m + 276 + 2 * (g 1 + 1 + 1).toNatClampNeg)), (10, .long y10_42)]) (st' := [.ref f, .ref (m + 276 + 2 * (g 1 + 1).toNatClampNeg), .ref (m + 276 + 2 * (g 1 + 1 + 1).toNatClampNeg), .null]) [(86, .aconst_null), (87, .aload 9), (89, .aload 8), (91, .aload 5)] (by decide +kernel) rfl ?_
        have hb44 : zU w83 (m + 276 + 2 * (g 1 + 1 + 1).toNatClampNeg) 1000 YY := hb43.ag (fun x hx1 hx2 => (heq83 x (zx_X16_powerOf_21 hx1 hx2 hgn1_1 hgn1_2 hgb1)))
        have ho93_r := zU.o hb44
        have hb45 : zU w83 f cf F := hb41.ag (fun x hx1 hx2 => ((heq83 x (zx_X16_powerOf_10 hx1 hx2 hof hgn1_1 hgb1)).trans (heq74 x (zx_X16_powerOf_9 hx1 hx2 hof hgb1))))
        refine zr_callS (idx := 78) (j := 268) (by decide +kernel) (by decide +kernel) (by decide) (show zMe 268 = some zq_X16_divide from rfl) rfl rfl (Nat.le_of_ble_eq_true rfl) rfl rfl (Nat.le_of_ble_eq_true rfl) (Nat.le_of_ble_eq_true rfl) (c_X16_divideN (w := w83)  (m + 276 + 2 * (g 1 + 1 + 1).toNatClampNeg) (m + 276 + 2 * (g 1 + 1).toNatClampNeg) f ho93_r hp83_0 hb45 (by first | omega | decide | assumption | exact zr1_1 | exact zr1_0 | fail "num") (by first | omega | decide | assumption | exact zr1_1 | exact zr1_0 | fail "num") (by first | omega | decide | assumption | exact zr1_1 | exact zr1_0 | fail "num") (by first | omega | decide | assumption | exact zr1_1 | exact zr1_0 | fail "num") (by first | omega | decide | assumption | exact zr1_1 | exact zr1_0 | fail "num")) (by omega) (fun v93 w93 hp93 => ?_)
        obtain ⟨hsi93, heq93, hp93_0, rfl⟩ := hp93
        show zP _ _ _ _ [] _ _ _ _ _
        refine zp_seg (pc' := 100) (lv' := [(0, .ref m), (1, .ref to), (5, .ref f), (6, .int (g 1)), (7, .ref (m + 276 + 2 * (g 1).toNatClampNeg)), (8, .ref (m + 276 + 2 * (g 1 + 1).toNatClampNeg)), (9, .ref (m + 276 + 2 * (g 1 + 1 + 1).toNatClampNeg)), (10, .long y10_42)]) (st' := [.long (y10_42 >>> ((1 : Int32).toInt64 &&& 63))]) [(96, .lload 10), (98, .iconst 1), (99, .lshr)] (by decide +kernel) rfl ?_
        have k46 := zshrL1 y10_42
        generalize ev100 : (y10_42 >>> ((1 : Int32).toInt64 &&& 63) : Int64) = v100 at k46 ⊢
        have kv100 := zrngL v100
        refine zp_seg (pc' := 42) (lv' := [(10, .long v100), (0, .ref m), (1, .ref to), (5, .ref f), (6, .int (g 1)), (7, .ref (m + 276 + 2 * (g 1).toNatClampNeg)), (8, .ref (m + 276 + 2 * (g 1 + 1).toNatClampNeg)), (9, .ref (m + 276 + 2 * (g 1 + 1 + 1).toNatClampNeg))]) (st' := []) [(100, .lstore 10), (102, .goto (-60))] (by decide +kernel) rfl ?_
        have hb47 : zU w93 (m + 276 + 2 * (g 1).toNatClampNeg) 1000 (zrem (zaM RR YY) F) := hp74_0.ag (fun x hx1 hx2 => ((heq93 x (zx_X16_powerOf_2 hx1 hx2 hgn1_2 hgb1)).trans (heq83 x (zx_X16_powerOf_1 hx1 hx2 hgn1_1 hgb1))))
        have hb48 := hUp.si (((hsi64.tr hsi74).tr hsi83).tr hsi93)
        have hb49 : w93 m = some (.inl (15, zMo m (zs g 1 (g 1 + 1 + 1 + 1)) r)) := ((heq93 m (zx_X16_powerOf_13 hgn1_2 hgb1)).trans ((heq83 m (zx_X16_powerOf_26 hgn1_1 hgb1)).trans ((heq74 m (zx_X16_powerOf_12 hgb1)).trans (heq64 m (zx_X16_powerOf_26 hgn1_1 hgb1))))).trans hmL42
        exact (ih42 w93 v100 ((zrem (zaM RR YY) F)) ((zrem (zaM YY YY) F)) ((((hsiL42.tr hsi64).tr hsi74).tr hsi83).tr hsi93) (fun x hx => ((heq93 x (zx_X16_powerOf_25 hx.1 hgn1_2 hgb1)).trans ((heq83 x (zx_X16_powerOf_24 hx.1 hgn1_1 hgb1)).trans ((heq74 x (zx_X16_powerOf_28 hx.1 hgb1)).trans ((heq64 x (zx_X16_powerOf_24 hx.1 hgn1_1 hgb1)).trans (heqL42 x ⟨hx.1, hx.2⟩)))))) (by first | assumption | omega | decide) hb47 hp93_0 hb48 hb49 (by
              rw [show v100.toInt.toNat = y10_42.toInt.toNat / 2 by omega]
              first
              | exact zqJ_1 hI9 (by omega) (zcg_rem _ (by omega)) (zcg_rem _ (by omega))
              | exact zqJ_0 hI9 (by omega) (zcg_rem _ (by omega))) (by
              exact ⟨by omega, by omega⟩) (by omega)).more (zfa1 rfl (zfa1 rfl (zfa1 rfl (zfa1 rfl (zfa1 rfl (zfa1 rfl (zfa1 rfl (zfa1 rfl (zfa0)))))))))
  have hb50 : zU w36 (m + 276 + 2 * (g 1).toNatClampNeg) 1000 (zaC (zf 1)) := hp27_0.ag (fun x hx1 hx2 => (heq36 x (zx_X16_powerOf_2 hx1 hx2 hgn1_2 hgb1)))
  have hb51 : zU w36 (m + 276 + 2 * (g 1 + 1).toNatClampNeg) 1000 zaZ := hp13_1.ag (fun x hx1 hx2 => ((heq36 x (zx_X16_powerOf_30 hx1 hx2 hgn1_1 hgn1_2 hgb1)).trans ((heq27 x (zx_X16_powerOf_27 hx1 hx2 hgn1_1 hgb1)).trans (heq19 x ⟨(zx_X16_powerOf_29 hx1 hx2 hgn1_1 hgb1), (zx_X16_powerOf_30 hx1 hx2 hgn1_1 hgn1_2 hgb1)⟩))))
  exact (hL42 _ w36 en ((zaC (zf 1))) ((zrem X F)) zSI.rf (fun _ _ => rfl) (by first | assumption | omega | decide) hb50 hp36_0 (zU.o hb51) hb21 (by
        rw [hon9]; exact zqJ_s (zcg_rem X (by omega)) _) (by
        exact ⟨by omega, by omega⟩) (Nat.lt_succ_self _)).more (zfa1 rfl (zfa1 rfl (zfa1 rfl (zfa1 rfl (zfa1 rfl (zfa1 rfl (zfa1 rfl (zfa1 rfl (zfa0)))))))))
