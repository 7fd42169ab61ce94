theorem zx_X16_fixed_0 {G1_0 m : Nat} (h0 : G1_0 + 2 ≤ 160) : (m + 276 + 2 * G1_0) < m ∨ m + 1 ≤ (m + 276 + 2 * G1_0) := by omega
theorem zx_X16_fixed_1 {G1_0 G1_1 m : Nat} (h0 : G1_1 = G1_0 + 1) (h1 : G1_0 + 2 ≤ 160) : (m + 276 + 2 * G1_0) < m + 276 + 2 * G1_1 ∨ m + 276 + 2 * G1_1 + 2 ≤ (m + 276 + 2 * G1_0) := by omega
theorem zx_X16_fixed_2 {a m : Nat} (h0 : m + 596 ≤ a) : a < m ∨ m + 1 ≤ a := by omega
theorem zx_X16_fixed_3 {G1_0 a m : Nat} (h0 : m + 596 ≤ a) (h1 : G1_0 + 2 ≤ 160) : a < m + 276 + 2 * G1_0 ∨ m + 276 + 2 * G1_0 + 2 ≤ a := by omega
theorem zx_X16_fixed_4 {G1_0 G1_1 a m : Nat} (h0 : m + 596 ≤ a) (h1 : G1_1 = G1_0 + 1) (h2 : G1_0 + 2 ≤ 160) : a < m + 276 + 2 * G1_1 ∨ m + 276 + 2 * G1_1 + 2 ≤ a := by omega
theorem zx_X16_fixed_5 {G1_0 a m : Nat} (h0 : m + 596 ≤ a) (h1 : G1_0 + 2 ≤ 160) : a ≠ m + 276 + 2 * G1_0 := by omega
theorem zx_X16_fixed_6 {G1_0 m : Nat} (h0 : G1_0 + 2 ≤ 160) : m ≠ m + 276 + 2 * G1_0 := by omega
theorem zx_X16_fixed_7 {m to : Nat} (h0 : m + 596 ≤ to) : to < to + 2 + 2 * 0 ∨ to + 2 + 2 * 0 + 2 ≤ to := by omega
theorem zx_X16_fixed_8 {m to x : Nat} (h0 : to + 2 + 2 * 0 ≤ x) (h1 : x < to + 2 + 2 * 0 + 2) (h2 : m + 596 ≤ to) : x ≠ to := by omega
theorem zx_X16_fixed_9 {m to : Nat} (h0 : m + 596 ≤ to) : m < to + 2 + 2 * 0 ∨ to + 2 + 2 * 0 + 2 ≤ m := by omega
theorem zx_X16_fixed_10 {m to : Nat} (h0 : m + 596 ≤ to) : m ≠ to := by omega
theorem zx_X16_fixed_11 {m to : Nat} (h0 : m + 596 ≤ to) : m < to ∨ to + 1 ≤ m := by omega
theorem zx_X16_fixed_12 {m x : Nat} (h0 : x ≠ m) : x < m ∨ m + 1 ≤ x := by omega
theorem zx_X16_fixed_13 {G1_0 m x : Nat} (h0 : x < m + 276 + 2 * G1_0 ∨ m + 276 + 2 * G1_0 + (320 - 2 * G1_0) ≤ x) (h1 : G1_0 + 2 ≤ 160) : x < m + 276 + 2 * G1_0 ∨ m + 276 + 2 * G1_0 + 2 ≤ x := by omega
theorem zx_X16_fixed_14 {G1_0 G1_1 m x : Nat} (h0 : x < m + 276 + 2 * G1_0 ∨ m + 276 + 2 * G1_0 + (320 - 2 * G1_0) ≤ x) (h1 : G1_1 = G1_0 + 1) (h2 : G1_0 + 2 ≤ 160) : x < m + 276 + 2 * G1_1 ∨ m + 276 + 2 * G1_1 + 2 ≤ x := by omega
theorem zx_X16_fixed_15 {G1_0 m x : Nat} (h0 : x < m + 276 + 2 * G1_0 ∨ m + 276 + 2 * G1_0 + (320 - 2 * G1_0) ≤ x) (h1 : G1_0 + 2 ≤ 160) : x ≠ m + 276 + 2 * G1_0 := by omega
theorem zx_X16_fixed_16 {G1_0 m x : Nat} (h0 : x < m + 276 + 2 * G1_0 ∨ m + 276 + 2 * G1_0 + (320 - 2 * G1_0) ≤ x) (h1 : G1_0 + 2 ≤ 160) : x < m + 276 + 2 * G1_0 ∨ m + 276 + 2 * G1_0 + 4 ≤ x := by omega
theorem zx_X16_fixed_17 {m to x : Nat} (h0 : x < to ∨ to + 130 ≤ x) (h1 : m + 596 ≤ to) : x < to + 2 + 2 * 0 ∨ to + 2 + 2 * 0 + 2 ≤ x := by omega
theorem zx_X16_fixed_18 {m to x : Nat} (h0 : x < to ∨ to + 130 ≤ x) (h1 : m + 596 ≤ to) : x ≠ to := by omega
theorem zx_X16_fixed_19 {m to x : Nat} (h0 : x < to ∨ to + 130 ≤ x) (h1 : m + 596 ≤ to) : x < to ∨ to + 1 ≤ x := by omega
theorem zx_X16_fixed_20 {m to x : Nat} (h0 : to ≤ x) (h1 : x < to + 130) (h2 : m + 596 ≤ to) : x ≠ m := by omega
theorem zx_X16_fixed_21 {G1_0 a m : Nat} (h0 : m + 596 ≤ a) (h1 : G1_0 + 2 ≤ 160) : a < m + 276 + 2 * G1_0 ∨ m + 276 + 2 * G1_0 + 4 ≤ a := by omega
theorem zx_X16_fixed_22 {a m : Nat} (h0 : m + 596 ≤ a) : a ≠ m := by omega
theorem zx_X16_fixed_23 {a m : Nat} (h0 : m + 596 ≤ a) : (a + 1) < m ∨ m + 1 ≤ (a + 1) := by omega
theorem zx_X16_fixed_24 {G1_0 a m : Nat} (h0 : m + 596 ≤ a) (h1 : G1_0 + 2 ≤ 160) : (a + 1) < m + 276 + 2 * G1_0 ∨ m + 276 + 2 * G1_0 + 2 ≤ (a + 1) := by omega
theorem zx_X16_fixed_25 {G1_0 G1_1 a m : Nat} (h0 : m + 596 ≤ a) (h1 : G1_1 = G1_0 + 1) (h2 : G1_0 + 2 ≤ 160) : (a + 1) < m + 276 + 2 * G1_1 ∨ m + 276 + 2 * G1_1 + 2 ≤ (a + 1) := by omega
theorem zx_X16_fixed_26 {G1_0 a m : Nat} (h0 : m + 596 ≤ a) (h1 : G1_0 + 2 ≤ 160) : (a + 1) ≠ m + 276 + 2 * G1_0 := by omega
theorem zx_X16_fixed_27 {G1_0 a m : Nat} (h0 : m + 596 ≤ a) (h1 : G1_0 + 2 ≤ 160) : (a + 1) < m + 276 + 2 * G1_0 ∨ m + 276 + 2 * G1_0 + 4 ≤ (a + 1) := by omega
theorem zx_X16_fixed_28 {a m : Nat} (h0 : m + 596 ≤ a) : (a + 1) ≠ m := by omega
theorem zx_X16_fixed_29 {a m x : Nat} (h0 : a ≤ x) (h1 : x < a + 130) (h2 : m + 596 ≤ a) : x < m ∨ m + 1 ≤ x := by omega
theorem zx_X16_fixed_30 {G1_0 a m x : Nat} (h0 : a ≤ x) (h1 : x < a + 130) (h2 : m + 596 ≤ a) (h3 : G1_0 + 2 ≤ 160) : x < m + 276 + 2 * G1_0 ∨ m + 276 + 2 * G1_0 + 2 ≤ x := by omega
theorem zx_X16_fixed_31 {G1_0 G1_1 a m x : Nat} (h0 : a ≤ x) (h1 : x < a + 130) (h2 : m + 596 ≤ a) (h3 : G1_1 = G1_0 + 1) (h4 : G1_0 + 2 ≤ 160) : x < m + 276 + 2 * G1_1 ∨ m + 276 + 2 * G1_1 + 2 ≤ x := by omega
theorem zx_X16_fixed_32 {G1_0 a m x : Nat} (h0 : a ≤ x) (h1 : x < a + 130) (h2 : m + 596 ≤ a) (h3 : G1_0 + 2 ≤ 160) : x ≠ m + 276 + 2 * G1_0 := by omega
theorem zx_X16_fixed_33 {G1_0 a m x : Nat} (h0 : a ≤ x) (h1 : x < a + 130) (h2 : m + 596 ≤ a) (h3 : G1_0 + 2 ≤ 160) : x < m + 276 + 2 * G1_0 ∨ m + 276 + 2 * G1_0 + 4 ≤ x := by omega
theorem zx_X16_fixed_34 {a m x : Nat} (h0 : a ≤ x) (h1 : x < a + 130) (h2 : m + 596 ≤ a) : x ≠ m := by omega
theorem zx_X16_fixed_35 {G1_0 G1_1 m x : Nat} (h0 : m + 276 + 2 * G1_0 ≤ x) (h1 : x < m + 276 + 2 * G1_0 + 2) (h2 : G1_1 = G1_0 + 1) (h3 : G1_0 + 2 ≤ 160) : x < m + 276 + 2 * G1_1 ∨ m + 276 + 2 * G1_1 + 2 ≤ x := by omega
theorem zx_X16_fixed_36 {G1_0 G1_1 m x : Nat} (h0 : x < m + 276 + 2 * G1_0 ∨ m + 276 + 2 * G1_0 + 4 ≤ x) (h1 : G1_1 = G1_0 + 1) (h2 : G1_0 + 2 ≤ 160) : x < m + 276 + 2 * G1_1 ∨ m + 276 + 2 * G1_1 + 2 ≤ x := by omega
theorem zx_X16_fixed_37 {G1_0 m x : Nat} (h0 : x < m + 276 + 2 * G1_0 ∨ m + 276 + 2 * G1_0 + 4 ≤ x) (h1 : G1_0 + 2 ≤ 160) : x < m + 276 + 2 * G1_0 ∨ m + 276 + 2 * G1_0 + 2 ≤ x := by omega
theorem zx_X16_fixed_38 {G1_0 G1_1 m : Nat} (h0 : G1_1 = G1_0 + 1) (h1 : G1_0 + 2 ≤ 160) : m < m + 276 + 2 * G1_1 ∨ m + 276 + 2 * G1_1 + 2 ≤ m := by omega
theorem zx_X16_fixed_39 {G1_0 m : Nat} (h0 : G1_0 + 2 ≤ 160) : m < m + 276 + 2 * G1_0 ∨ m + 276 + 2 * G1_0 + 2 ≤ m := by omega
theorem zx_X16_fixed_40 {G1_0 m : Nat} (h0 : G1_0 + 2 ≤ 160) : (m + 276 + 2 * G1_0 + 1) < m ∨ m + 1 ≤ (m + 276 + 2 * G1_0 + 1) := by omega
theorem zx_X16_fixed_41 {G1_0 G1_1 m : Nat} (h0 : G1_1 = G1_0 + 1) (h1 : G1_0 + 2 ≤ 160) : (m + 276 + 2 * G1_0 + 1) < m + 276 + 2 * G1_1 ∨ m + 276 + 2 * G1_1 + 2 ≤ (m + 276 + 2 * G1_0 + 1) := by omega
theorem zx_X16_fixed_42 {G1_0 m : Nat} (h0 : G1_0 + 2 ≤ 160) : (m + 276 + 2 * G1_0 + 1) ≠ m + 276 + 2 * G1_0 := by omega
theorem zx_X16_fixed_43 {G1_0 G1_1 m x : Nat} (h0 : m + 276 + 2 * G1_1 ≤ x) (h1 : x < m + 276 + 2 * G1_1 + 2) (h2 : G1_1 = G1_0 + 1) (h3 : G1_0 + 2 ≤ 160) : x ≠ m + 276 + 2 * G1_0 := by omega
theorem zx_X16_fixed_44 {a m to : Nat} (h0 : to + 130 ≤ a ∨ a + 130 ≤ to) (h1 : m + 596 ≤ to) (h2 : m + 596 ≤ a) : a < to + 2 ∨ to + 2 + 128 ≤ a := by omega
theorem zx_X16_fixed_45 {m to x : Nat} (h0 : x < to ∨ to + 130 ≤ x) (h1 : m + 596 ≤ to) : x < to + 2 ∨ to + 2 + 128 ≤ x := by omega
theorem zx_X16_fixed_46 {a m to : Nat} (h0 : to + 130 ≤ a ∨ a + 130 ≤ to) (h1 : m + 596 ≤ to) (h2 : m + 596 ≤ a) : (a + 1) < to + 2 ∨ to + 2 + 128 ≤ (a + 1) := by omega
theorem zx_X16_fixed_47 {a m to x : Nat} (h0 : a ≤ x) (h1 : x < a + 130) (h2 : to + 130 ≤ a ∨ a + 130 ≤ to) (h3 : m + 596 ≤ to) (h4 : m + 596 ≤ a) : x < to + 2 ∨ to + 2 + 128 ≤ x := by omega
set_option maxHeartbeats 8000000 in
set_option maxRecDepth 100000 in
theorem c_X16_fixed {w : zM} {g : Nat → Int32} {r : Nat → Value} {q : zA2} {g1 : Int32} (m : Nat) (to : Nat) (a : Nat) (v : Int32) (forN : Int32) (hm : w m = some (.inl (15, zMo m g r))) (hR_m : zR m w) (hBo_to : zBo w to) (hB_a : zB w a q) (hut : 0 ≤ g1.toInt ∧ g1.toInt + 2 ≤ 160) (hdj : to + 130 ≤ a ∨ a + 130 ≤ to) (hmt : m + 596 ≤ to) (hma : m + 596 ≤ a) (h_v : zr1 v) (hz_forN : forN = 0 ∨ forN = 1) (hg1 : g 1 = g1) : zCon 3 zq_X16_fixed [.ref m, .ref to, .ref a, .int v, .int forN] w (fun v9 w9' => ∃ P9 : zA2, zSI w w9' ∧ (∀ x, (x < to ∨ to + 130 ≤ x) ∧ (x < m + 276 + 2 * g1.toNatClampNeg ∨ m + 276 + 2 * g1.toNatClampNeg + (320 - 2 * g1.toNatClampNeg) ≤ x) → w9' x = w x) ∧ zB w9' to P9 ∧ ((∀ N, 1 ≤ N → zrw q ≤ N → zrw P9 ≤ N) ∧ zdn P9 ≤ zdn q) ∧ v9 = none) := by
  subst hg1
  intro d sz hd
  obtain ⟨d, rfl⟩ : ∃ d9, d = d9 + 1 := ⟨d - 1, by omega⟩
  generalize hPost : (fun (r9' : Option (Option Value)) (w9' : zM) (z9 : Nat) => z9 = sz ∧ ∃ v9, r9' = some v9 ∧ (∃ P9 : zA2, zSI w w9' ∧ (∀ x, (x < to ∨ to + 130 ≤ x) ∧ (x < m + 276 + 2 * (g 1).toNatClampNeg ∨ m + 276 + 2 * (g 1).toNatClampNeg + (320 - 2 * (g 1).toNatClampNeg) ≤ x) → w9' x = w x) ∧ zB w9' to P9 ∧ ((∀ N, 1 ≤ N → zrw q ≤ N → zrw P9 ≤ N) ∧ zdn P9 ≤ zdn q) ∧ v9 = none)) = Post
  show zP (d + 1) zq_X16_fixed 0 [(0, .ref m), (1, .ref to), (2, .ref a), (3, .int v), (4, .int forN)] [] w sz 0 0 Post
  have k1 := zrng v
  have k2 := zrng forN
  have k3 := zrng (g 1)
  have hz4 : ((g 1).toNatClampNeg : Int) = (g 1).toInt := znat (by first | omega | decide)
  have hgb1 : (g 1).toNatClampNeg + 2 ≤ 160 := by omega
  obtain ⟨n9, hQ91, hQ92, hQ93, hQ94, hQ95, hQ96⟩ := id hB_a
  have kn9 := zrng n9
  refine zp_seg (pc' := 1) (lv' := [(0, .ref m), (1, .ref to), (2, .ref a), (3, .int v), (4, .int forN)]) (st' := [.ref m]) [(0, .aload_n 0)] (by decide +kernel) rfl ?_
  refine zr_get (idx := 21) (k := 1) (v := .int (g 1)) (by decide +kernel) (by decide +kernel) hm rfl ?_
  refine zp_seg (pc' := 7) (lv' := [(5, .int (g 1)), (0, .ref m), (1, .ref to), (2, .ref a), (3, .int v), (4, .int forN)]) (st' := [.ref m]) [(4, .istore 5), (6, .aload_n 0)] (by decide +kernel) rfl ?_
  refine zr_callV (idx := 74) (j := 263) (by decide +kernel) (by decide +kernel) (show zMe 263 = some zq_X16_newU from rfl) rfl rfl (Nat.le_of_ble_eq_true rfl) rfl rfl hm (Nat.le_of_ble_eq_true rfl) (Nat.le_of_ble_eq_true rfl) (c_X16_newU (w := w) (g1 := (g 1)) m hm hR_m (by first | omega | decide | assumption | exact zr1_1 | exact zr1_0 | fail "num") rfl) (by omega) (fun v7 w7 hp7 => ?_)
  obtain ⟨hsi7, heq7, hp7_0, hp7_1, rfl⟩ := hp7
  have hM7 : w7 m = some (.inl (15, zMo m (zs g 1 (g 1 + 1)) r)) := hp7_0
  show zP _ _ _ _ [.ref (m + 276 + 2 * (g 1).toNatClampNeg)] _ _ _ _ _
  refine zp_seg (pc' := 13) (lv' := [(6, .ref (m + 276 + 2 * (g 1).toNatClampNeg)), (5, .int (g 1)), (0, .ref m), (1, .ref to), (2, .ref a), (3, .int v), (4, .int forN)]) (st' := [.ref m]) [(10, .astore 6), (12, .aload_n 0)] (by decide +kernel) rfl ?_
  have k6 := zaddC (g 1) 1 (n := 1) (by decide) (by omega) (by omega)
  have hz7 : ((g 1 + 1).toNatClampNeg : Int) = (g 1 + 1).toInt := znat (by first | omega | decide)
  have hgn1_1 : (g 1 + 1).toNatClampNeg = (g 1).toNatClampNeg + 1 := by omega
  have hb8 := hR_m.si hsi7
  refine zr_callV (idx := 74) (j := 263) (by decide +kernel) (by decide +kernel) (show zMe 263 = some zq_X16_newU from rfl) rfl rfl (Nat.le_of_ble_eq_true rfl) rfl rfl hM7 (Nat.le_of_ble_eq_true rfl) (Nat.le_of_ble_eq_true rfl) (c_X16_newU (w := w7) (g1 := (g 1 + 1)) m hM7 hb8 (by first | omega | decide | assumption | exact zr1_1 | exact zr1_0 | fail "num") rfl) (by omega) (fun v13 w13 hp13 => ?_)
  obtain ⟨hsi13, heq13, hp13_0, hp13_1, rfl⟩ := hp13
  have hM13 : w13 m = some (.inl (15, zMo m (zs g 1 (g 1 + 1 + 1)) r)) := hp13_0
  show zP _ _ _ _ [.ref (m + 276 + 2 * (g 1 + 1).toNatClampNeg)] _ _ _ _ _
  refine zp_seg (pc' := 20) (lv' := [(7, .ref (m + 276 + 2 * (g 1 + 1).toNatClampNeg)), (6, .ref (m + 276 + 2 * (g 1).toNatClampNeg)), (5, .int (g 1)), (0, .ref m), (1, .ref to), (2, .ref a), (3, .int v), (4, .int forN)]) (st' := [.int forN]) [(16, .astore 7), (18, .iload 4)] (by decide +kernel) rfl ?_
  refine zp_if (i := .ifCond .eq 57) (c := forN = 0) (t := 77) (e := 23) (lv' := [(7, .ref (m + 276 + 2 * (g 1 + 1).toNatClampNeg)), (6, .ref (m + 276 + 2 * (g 1).toNatClampNeg)), (5, .int (g 1)), (0, .ref m), (1, .ref to), (2, .ref a), (3, .int v), (4, .int forN)]) (st' := []) (by decide +kernel) rfl (fun cc20 => ?_) (fun cc20 => ?_)
  ·
    have f10 := zeqI cc20
    rw [show (0 : Int32).toInt = 0 from by decide] at f10
    refine zp_seg (pc' := 80) (lv' := [(7, .ref (m + 276 + 2 * (g 1 + 1).toNatClampNeg)), (6, .ref (m + 276 + 2 * (g 1).toNatClampNeg)), (5, .int (g 1)), (0, .ref m), (1, .ref to), (2, .ref a), (3, .int v), (4, .int forN)]) (st' := [.int 0, .ref (m + 276 + 2 * (g 1).toNatClampNeg)]) [(77, .aload 6), (79, .iconst 0)] (by decide +kernel) rfl ?_
    obtain ⟨n11, f12, hu13, hu14, hu15, hu16, hu17⟩ := id hp7_1
    have kn11 := zrng n11
    have hb18 : w13 (m + 276 + 2 * (g 1).toNatClampNeg) = some (.inl (14, [.ref (m + 276 + 2 * (g 1).toNatClampNeg + 1), .int n11])) := (heq13 (m + 276 + 2 * (g 1).toNatClampNeg) ⟨(zx_X16_fixed_0 hgb1), (zx_X16_fixed_1 hgn1_1 hgb1)⟩).trans hu13
    refine zr_put2 (idx := 25) (k := 1) (fs2 := [.ref (m + 276 + 2 * (g 1).toNatClampNeg + 1), .int 0]) (by decide +kernel) (by decide +kernel) hb18 (Nat.le_of_ble_eq_true rfl) rfl rfl rfl ?_
    show zP (d + 1) zq_X16_fixed 83 [(7, .ref (m + 276 + 2 * (g 1 + 1).toNatClampNeg)), (6, .ref (m + 276 + 2 * (g 1).toNatClampNeg)), (5, .int (g 1)), (0, .ref m), (1, .ref to), (2, .ref a), (3, .int v), (4, .int forN)] [] (zup w13 (m + 276 + 2 * (g 1).toNatClampNeg) (.inl (14, [.ref (m + 276 + 2 * (g 1).toNatClampNeg + 1), .int 0]))) sz 0 0 Post
    obtain ⟨w80, ew80⟩ : ∃ wz9, wz9 = zup w13 (m + 276 + 2 * (g 1).toNatClampNeg) (.inl (14, [.ref (m + 276 + 2 * (g 1).toNatClampNeg + 1), .int 0])) := ⟨_, rfl⟩
    have hsi80 : zSI w13 w80 := by rw [ew80]; exact zSI.setU hb18
    have heq80 : ∀ x, x ≠ m + 276 + 2 * (g 1).toNatClampNeg → w80 x = w13 x := fun x hx => by rw [ew80]; exact zup_n hx
    have hc80 : w80 (m + 276 + 2 * (g 1).toNatClampNeg) = some (.inl (14, [.ref (m + 276 + 2 * (g 1).toNatClampNeg + 1), .int 0])) := by rw [ew80]; exact zup_s
    rw [← ew80]
    clear ew80
    refine zp_seg (pc' := 84) (lv' := [(7, .ref (m + 276 + 2 * (g 1 + 1).toNatClampNeg)), (6, .ref (m + 276 + 2 * (g 1).toNatClampNeg)), (5, .int (g 1)), (0, .ref m), (1, .ref to), (2, .ref a), (3, .int v), (4, .int forN)]) (st' := [.ref a]) [(83, .aload_n 2)] (by decide +kernel) rfl ?_
    have hb19 : w80 a = some (.inl (11, [.ref (a + 1), .int n9])) := ((heq80 a (zx_X16_fixed_5 hma hgb1)).trans ((heq13 a ⟨(zx_X16_fixed_2 hma), (zx_X16_fixed_4 hma hgn1_1 hgb1)⟩).trans (heq7 a ⟨(zx_X16_fixed_2 hma), (zx_X16_fixed_3 hma hgb1)⟩))).trans hQ91
    refine zr_get (idx := 93) (k := 1) (v := .int n9) (by decide +kernel) (by decide +kernel) hb19 rfl ?_
    refine zp_seg (pc' := 89) (lv' := [(7, .ref (m + 276 + 2 * (g 1 + 1).toNatClampNeg)), (6, .ref (m + 276 + 2 * (g 1).toNatClampNeg)), (5, .int (g 1)), (0, .ref m), (1, .ref to), (2, .ref a), (3, .int v), (4, .int forN)]) (st' := [.int (n9 - 1)]) [(87, .iconst 1), (88, .isub)] (by decide +kernel) rfl ?_
    have k20 := zrng n9
    have k21 := zsubC n9 1 (n := 1) (by decide) (by omega) (by omega)
    generalize ev89 : (n9 - 1 : Int32) = v89 at k21 ⊢
    have kv89 := zrng v89
    refine zp_seg (pc' := 91) (lv' := [(8, .int v89), (7, .ref (m + 276 + 2 * (g 1 + 1).toNatClampNeg)), (6, .ref (m + 276 + 2 * (g 1).toNatClampNeg)), (5, .int (g 1)), (0, .ref m), (1, .ref to), (2, .ref a), (3, .int v), (4, .int forN)]) (st' := []) [(89, .istore 8)] (by decide +kernel) rfl ?_
    have hb22 : w80 m = some (.inl (15, zMo m (zs g 1 (g 1 + 1 + 1)) r)) := (heq80 m (zx_X16_fixed_6 hgb1)).trans hM13
    have hL91 : ∀ (mm91 : Nat) (wL91 : zM) (y8_91 : Int32) (Pp : zA1), (zSI w80 wL91) → (∀ x, ((x < m + 276 + 2 * (g 1).toNatClampNeg ∨ m + 276 + 2 * (g 1).toNatClampNeg + 4 ≤ x)) ∧ x ≠ m → wL91 x = w80 x) → (-1 ≤ y8_91.toInt) → (y8_91.toInt < (zrw q : Int)) → (zU wL91 (m + 276 + 2 * (g 1).toNatClampNeg) 1000 Pp) → (zUo wL91 (m + 276 + 2 * (g 1 + 1).toNatClampNeg) 1000) → (wL91 m = some (.inl (15, zMo m (zs g 1 (g 1 + 1 + 1)) r))) → (zln Pp ≤ zdn q + 1 ∧ zln Pp ≤ 200) → (y8_91.toInt + 1).toNat < mm91 → zP (d + 1) zq_X16_fixed 91 [(0, .ref m), (1, .ref to), (2, .ref a), (3, .int v), (5, .int (g 1)), (6, .ref (m + 276 + 2 * (g 1).toNatClampNeg)), (7, .ref (m + 276 + 2 * (g 1 + 1).toNatClampNeg)), (8, .int y8_91)] [] wL91 sz 0 0 Post := by
      intro mm91
      induction mm91 with
      | zero => intros; omega
      | succ mm91 ih91 =>
      intro wL91 y8_91 Pp hsiL91 heqL91 hi91_0 hi91_1 hUp hUs hmL91 hPl hmu91
      have ky8_91 := zrng y8_91
      refine zp_seg (pc' := 93) (lv' := [(0, .ref m), (1, .ref to), (2, .ref a), (3, .int v), (5, .int (g 1)), (6, .ref (m + 276 + 2 * (g 1).toNatClampNeg)), (7, .ref (m + 276 + 2 * (g 1 + 1).toNatClampNeg)), (8, .int y8_91)]) (st' := [.int y8_91]) [(91, .iload 8)] (by decide +kernel) rfl ?_
      refine zp_if (i := .ifCond .lt 32) (c := y8_91 < 0) (t := 125) (e := 96) (lv' := [(0, .ref m), (1, .ref to), (2, .ref a), (3, .int v), (5, .int (g 1)), (6, .ref (m + 276 + 2 * (g 1).toNatClampNeg)), (7, .ref (m + 276 + 2 * (g 1 + 1).toNatClampNeg)), (8, .int y8_91)]) (st' := []) (by decide +kernel) rfl (fun cc93 => ?_) (fun cc93 => ?_)
      ·
        have f23 := zltI cc93
        rw [show (0 : Int32).toInt = 0 from by decide] at f23
        refine zp_seg (pc' := 126) (lv' := [(0, .ref m), (1, .ref to), (2, .ref a), (3, .int v), (5, .int (g 1)), (6, .ref (m + 276 + 2 * (g 1).toNatClampNeg)), (7, .ref (m + 276 + 2 * (g 1 + 1).toNatClampNeg)), (8, .int y8_91)]) (st' := [.ref to]) [(125, .aload_n 1)] (by decide +kernel) rfl ?_
        have hb29 := hBo_to.si (((hsi7.tr hsi13).tr hsi80).tr hsiL91)
        obtain ⟨n24, hb25, hb26, -⟩ := id hb29
        have kn24 := zrng n24
        refine zr_get (idx := 98) (k := 0) (v := .ref (to + 1)) (by decide +kernel) (by decide +kernel) hb25 rfl ?_
        refine zp_seg (pc' := 130) (lv' := [(0, .ref m), (1, .ref to), (2, .ref a), (3, .int v), (5, .int (g 1)), (6, .ref (m + 276 + 2 * (g 1).toNatClampNeg)), (7, .ref (m + 276 + 2 * (g 1 + 1).toNatClampNeg)), (8, .int y8_91)]) (st' := [.int 0, .ref (to + 1)]) [(129, .iconst 0)] (by decide +kernel) rfl ?_
        have hl30 : (0 : Int32).toInt = 0 := by decide
        have hz31 : ((0 : Int32).toNatClampNeg : Int) = 0 := by decide
        refine zr_aald (v := .ref (to + 2 + 2 * 0)) (by decide +kernel) hb26 (by decide) (zin (by decide) (by decide)) rfl ?_
        have hrow32 := hb29.rowo 0 (by omega)
        refine zp_seg (pc' := 133) (lv' := [(0, .ref m), (1, .ref to), (2, .ref a), (3, .int v), (5, .int (g 1)), (6, .ref (m + 276 + 2 * (g 1).toNatClampNeg)), (7, .ref (m + 276 + 2 * (g 1 + 1).toNatClampNeg)), (8, .int y8_91)]) (st' := [.ref (m + 276 + 2 * (g 1).toNatClampNeg), .ref (to + 2 + 2 * 0)]) [(131, .aload 6)] (by decide +kernel) rfl ?_
        refine zr_callS (idx := 62) (j := 264) (by decide +kernel) (by decide +kernel) (by decide) (show zMe 264 = some zq_X16_set from rfl) rfl rfl (Nat.le_of_ble_eq_true rfl) rfl rfl (Nat.le_of_ble_eq_true rfl) (Nat.le_of_ble_eq_true rfl) (c_X16_set (w := wL91) (to + 2 + 2 * 0) (m + 276 + 2 * (g 1).toNatClampNeg) hrow32 hUp (by first | omega | decide | assumption | exact zr1_1 | exact zr1_0 | fail "num") (by first | omega | decide | assumption | exact zr1_1 | exact zr1_0 | fail "num")) (by omega) (fun v133 w133 hp133 => ?_)
        obtain ⟨hsi133, heq133, hp133_0, rfl⟩ := hp133
        show zP _ _ _ _ [] _ _ _ _ _
        refine zp_seg (pc' := 138) (lv' := [(0, .ref m), (1, .ref to), (2, .ref a), (3, .int v), (5, .int (g 1)), (6, .ref (m + 276 + 2 * (g 1).toNatClampNeg)), (7, .ref (m + 276 + 2 * (g 1 + 1).toNatClampNeg)), (8, .int y8_91)]) (st' := [.int 1, .ref to]) [(136, .aload_n 1), (137, .iconst 1)] (by decide +kernel) rfl ?_
        have hb33 : w133 to = some (.inl (11, [.ref (to + 1), .int n24])) := (heq133 to (zx_X16_fixed_7 hmt)).trans hb25
        refine zr_put2 (idx := 93) (k := 1) (fs2 := [.ref (to + 1), .int 1]) (by decide +kernel) (by decide +kernel) hb33 (Nat.le_of_ble_eq_true rfl) rfl rfl rfl ?_
        show zP (d + 1) zq_X16_fixed 141 [(0, .ref m), (1, .ref to), (2, .ref a), (3, .int v), (5, .int (g 1)), (6, .ref (m + 276 + 2 * (g 1).toNatClampNeg)), (7, .ref (m + 276 + 2 * (g 1 + 1).toNatClampNeg)), (8, .int y8_91)] [] (zup w133 to (.inl (11, [.ref (to + 1), .int 1]))) sz 0 0 Post
        obtain ⟨w138, ew138⟩ : ∃ wz9, wz9 = zup w133 to (.inl (11, [.ref (to + 1), .int 1])) := ⟨_, rfl⟩
        have hsi138 : zSI w133 w138 := by rw [ew138]; exact zSI.setB hb33
        have heq138 : ∀ x, x ≠ to → w138 x = w133 x := fun x hx => by rw [ew138]; exact zup_n hx
        have hc138 : w138 to = some (.inl (11, [.ref (to + 1), .int 1])) := by rw [ew138]; exact zup_s
        rw [← ew138]
        clear ew138
        have hb34 := hb29.si (hsi133.tr hsi138)
        have hb35 : zU w138 (to + 2 + 2 * 0) 200 Pp := hp133_0.ag (fun x hx1 hx2 => (heq138 x (zx_X16_fixed_8 hx1 hx2 hmt)))
        have hBn9 : zBw w138 to 1 (zbOf (fun _ => Pp) 1) := zBw.mk hb34 hc138 (by decide) (by omega) (fun j hj => by rw [zbOf_y hj, show j = 0 by omega]; exact hb35) (fun j hj => zbOf_n hj)
        have hrw9 : ∀ N, 1 ≤ N → zrw q ≤ N → zrw (zbOf (fun _ => Pp) 1) ≤ N := fun N h _ => Nat.le_trans (zrw_le fun i hi => zbOf_n hi) h
        have hdn9 : zdn (zbOf (fun _ => Pp) 1) ≤ zdn q := zbOf_dn fun j hj => hPl.1
        refine zp_seg (pc' := 142) (lv' := [(0, .ref m), (1, .ref to), (2, .ref a), (3, .int v), (5, .int (g 1)), (6, .ref (m + 276 + 2 * (g 1).toNatClampNeg)), (7, .ref (m + 276 + 2 * (g 1 + 1).toNatClampNeg)), (8, .int y8_91)]) (st' := [.ref to]) [(141, .aload_n 1)] (by decide +kernel) rfl ?_
        refine zr_callV (idx := 105) (j := 244) (by decide +kernel) (by decide +kernel) (show zMe 244 = some zq_X12_trim from rfl) rfl rfl (Nat.le_of_ble_eq_true rfl) rfl rfl hc138 (Nat.le_of_ble_eq_true rfl) (Nat.le_of_ble_eq_true rfl) (c_X12_trim (w := w138) to hBn9) (by omega) (fun v142 w142 hp142 => ?_)
        obtain ⟨hsi142, heq142, hp142_0, rfl⟩ := hp142
        show zP _ _ _ _ [] _ _ _ _ _
        refine zp_seg (pc' := 148) (lv' := [(0, .ref m), (1, .ref to), (2, .ref a), (3, .int v), (5, .int (g 1)), (6, .ref (m + 276 + 2 * (g 1).toNatClampNeg)), (7, .ref (m + 276 + 2 * (g 1 + 1).toNatClampNeg)), (8, .int y8_91)]) (st' := [.int (g 1), .ref m]) [(145, .aload_n 0), (146, .iload 5)] (by decide +kernel) rfl ?_
        have hb36 : w142 m = some (.inl (15, zMo m (zs g 1 (g 1 + 1 + 1)) r)) := ((heq142 m (zx_X16_fixed_11 hmt)).trans ((heq138 m (zx_X16_fixed_10 hmt)).trans (heq133 m (zx_X16_fixed_9 hmt)))).trans hmL91
        refine zr_put2 (idx := 21) (k := 1) (fs2 := zMo m g r) (by decide +kernel) (by decide +kernel) hb36 (Nat.le_of_ble_eq_true rfl) rfl rfl rfl ?_
        show zP (d + 1) zq_X16_fixed 151 [(0, .ref m), (1, .ref to), (2, .ref a), (3, .int v), (5, .int (g 1)), (6, .ref (m + 276 + 2 * (g 1).toNatClampNeg)), (7, .ref (m + 276 + 2 * (g 1 + 1).toNatClampNeg)), (8, .int y8_91)] [] (zup w142 m (.inl (15, zMo m g r))) sz 0 0 Post
        obtain ⟨w148, ew148⟩ : ∃ wz9, wz9 = zup w142 m (.inl (15, zMo m g r)) := ⟨_, rfl⟩
        have hsi148 : zSI w142 w148 := by rw [ew148]; exact zSI.setG hb36 _ _
        have heq148 : ∀ x, x ≠ m → w148 x = w142 x := fun x hx => by rw [ew148]; exact zup_n hx
        have hc148 : w148 m = some (.inl (15, zMo m g r)) := by rw [ew148]; exact zup_s
        rw [← ew148]
        clear ew148
        have hmend : w148 m = w m := by rw [hc148, hm]
        have hoffend : ∀ x, (x < to ∨ to + 130 ≤ x) ∧ (x < m + 276 + 2 * (g 1).toNatClampNeg ∨ m + 276 + 2 * (g 1).toNatClampNeg + (320 - 2 * (g 1).toNatClampNeg) ≤ x) → w148 x = w x := fun x hx => by
            by_cases ex : x = m
            · rw [ex]; exact hmend
            · exact ((heq148 x ex).trans ((heq142 x (zx_X16_fixed_19 hx.1 hmt)).trans ((heq138 x (zx_X16_fixed_18 hx.1 hmt)).trans ((heq133 x (zx_X16_fixed_17 hx.1 hmt)).trans ((heqL91 x ⟨(zx_X16_fixed_16 hx.2 hgb1), ex⟩).trans ((heq80 x (zx_X16_fixed_15 hx.2 hgb1)).trans ((heq13 x ⟨(zx_X16_fixed_12 ex), (zx_X16_fixed_14 hx.2 hgn1_1 hgb1)⟩).trans (heq7 x ⟨(zx_X16_fixed_12 ex), (zx_X16_fixed_13 hx.2 hgb1)⟩))))))))
        have hb37 : zB w148 to ((zbOf (fun _ => Pp) 1)) := hp142_0.ag (fun x hx1 hx2 => (heq148 x (zx_X16_fixed_20 hx1 hx2 hmt)))
        refine zr_retV (by decide +kernel) rfl ?_
        rw [← hPost]; exact ⟨rfl, _, rfl, ((zbOf (fun _ => Pp) 1)), (((((((hsi7.tr hsi13).tr hsi80).tr hsiL91).tr hsi133).tr hsi138).tr hsi142).tr hsi148), hoffend, (by first | exact hb37 | (have z9 := hb37; simpa using z9)), (by
              exact ⟨hrw9, hdn9⟩), rfl⟩
      ·
        have f38 := znltI cc93
        rw [show (0 : Int32).toInt = 0 from by decide] at f38
        refine zp_seg (pc' := 101) (lv' := [(0, .ref m), (1, .ref to), (2, .ref a), (3, .int v), (5, .int (g 1)), (6, .ref (m + 276 + 2 * (g 1).toNatClampNeg)), (7, .ref (m + 276 + 2 * (g 1 + 1).toNatClampNeg)), (8, .int y8_91)]) (st' := [.int v, .ref (m + 276 + 2 * (g 1).toNatClampNeg), .ref (m + 276 + 2 * (g 1 + 1).toNatClampNeg)]) [(96, .aload 7), (98, .aload 6), (100, .iload_n 3)] (by decide +kernel) rfl ?_
        refine zr_callS (idx := 70) (j := 266) (by decide +kernel) (by decide +kernel) (by decide) (show zMe 266 = some zq_X16_scale from rfl) rfl rfl (Nat.le_of_ble_eq_true rfl) rfl rfl (Nat.le_of_ble_eq_true rfl) (Nat.le_of_ble_eq_true rfl) (c_X16_scale (w := wL91) (m + 276 + 2 * (g 1 + 1).toNatClampNeg) (m + 276 + 2 * (g 1).toNatClampNeg) v hUs hUp (by first | omega | decide | assumption | exact zr1_1 | exact zr1_0 | fail "num") (by first | omega | decide | assumption | exact zr1_1 | exact zr1_0 | fail "num")) (by omega) (fun v101 w101 hp101 => ?_)
        obtain ⟨hsi101, heq101, hp101_0, rfl⟩ := hp101
        show zP _ _ _ _ [] _ _ _ _ _
        refine zp_seg (pc' := 109) (lv' := [(0, .ref m), (1, .ref to), (2, .ref a), (3, .int v), (5, .int (g 1)), (6, .ref (m + 276 + 2 * (g 1).toNatClampNeg)), (7, .ref (m + 276 + 2 * (g 1 + 1).toNatClampNeg)), (8, .int y8_91)]) (st' := [.ref a, .ref (m + 276 + 2 * (g 1 + 1).toNatClampNeg), .ref (m + 276 + 2 * (g 1).toNatClampNeg)]) [(104, .aload 6), (106, .aload 7), (108, .aload_n 2)] (by decide +kernel) rfl ?_
        have hb39 : w101 a = some (.inl (11, [.ref (a + 1), .int n9])) := ((heq101 a (zx_X16_fixed_4 hma hgn1_1 hgb1)).trans (heqL91 a ⟨(zx_X16_fixed_21 hma hgb1), (zx_X16_fixed_22 hma)⟩)).trans hb19
        refine zr_get (idx := 98) (k := 0) (v := .ref (a + 1)) (by decide +kernel) (by decide +kernel) hb39 rfl ?_
        refine zp_seg (pc' := 114) (lv' := [(0, .ref m), (1, .ref to), (2, .ref a), (3, .int v), (5, .int (g 1)), (6, .ref (m + 276 + 2 * (g 1).toNatClampNeg)), (7, .ref (m + 276 + 2 * (g 1 + 1).toNatClampNeg)), (8, .int y8_91)]) (st' := [.int y8_91, .ref (a + 1), .ref (m + 276 + 2 * (g 1 + 1).toNatClampNeg), .ref (m + 276 + 2 * (g 1).toNatClampNeg)]) [(112, .iload 8)] (by decide +kernel) rfl ?_
        have hb40 : w101 (a + 1) = some (.inr (4, 64, zbr a)) := ((heq101 (a + 1) (zx_X16_fixed_25 hma hgn1_1 hgb1)).trans ((heqL91 (a + 1) ⟨(zx_X16_fixed_27 hma hgb1), (zx_X16_fixed_28 hma)⟩).trans ((heq80 (a + 1) (zx_X16_fixed_26 hma hgb1)).trans ((heq13 (a + 1) ⟨(zx_X16_fixed_23 hma), (zx_X16_fixed_25 hma hgn1_1 hgb1)⟩).trans (heq7 (a + 1) ⟨(zx_X16_fixed_23 hma), (zx_X16_fixed_24 hma hgb1)⟩))))).trans hQ92
        have hz41 : (y8_91.toNatClampNeg : Int) = y8_91.toInt := znat (by first | omega | decide)
        refine zr_aald (v := .ref (a + 2 + 2 * y8_91.toNatClampNeg)) (by decide +kernel) hb40 (by decide) (zin (by first | omega | decide) (by first | omega | decide)) (zbr_at (by omega)) ?_
        have hb42 : zB w101 a q := hB_a.ag (fun x hx1 hx2 => ((heq101 x (zx_X16_fixed_31 hx1 hx2 hma hgn1_1 hgb1)).trans ((heqL91 x ⟨(zx_X16_fixed_33 hx1 hx2 hma hgb1), (zx_X16_fixed_34 hx1 hx2 hma)⟩).trans ((heq80 x (zx_X16_fixed_32 hx1 hx2 hma hgb1)).trans ((heq13 x ⟨(zx_X16_fixed_29 hx1 hx2 hma), (zx_X16_fixed_31 hx1 hx2 hma hgn1_1 hgb1)⟩).trans (heq7 x ⟨(zx_X16_fixed_29 hx1 hx2 hma), (zx_X16_fixed_30 hx1 hx2 hma hgb1)⟩))))))
        have hrow43 := hb42.row (y8_91.toNatClampNeg) (by omega)
        refine zp_seg (pc' := 116) (lv' := [(0, .ref m), (1, .ref to), (2, .ref a), (3, .int v), (5, .int (g 1)), (6, .ref (m + 276 + 2 * (g 1).toNatClampNeg)), (7, .ref (m + 276 + 2 * (g 1 + 1).toNatClampNeg)), (8, .int y8_91)]) (st' := [.int 0, .ref (a + 2 + 2 * y8_91.toNatClampNeg), .ref (m + 276 + 2 * (g 1 + 1).toNatClampNeg), .ref (m + 276 + 2 * (g 1).toNatClampNeg)]) [(115, .iconst 0)] (by decide +kernel) rfl ?_
        have hca := (hQ95 y8_91.toNatClampNeg (by omega)).cap
        have hdq := zdn_le q y8_91.toNatClampNeg
        have hcm := zln_CMle (zf v) Pp
        have hb44 : zU w101 (m + 276 + 2 * (g 1).toNatClampNeg) 1000 Pp := hUp.ag (fun x hx1 hx2 => (heq101 x (zx_X16_fixed_35 hx1 hx2 hgn1_1 hgb1)))
        have ho116_to := zU.o hb44
        refine zr_callS (idx := 101) (j := 265) (by decide +kernel) (by decide +kernel) (by decide) (show zMe 265 = some zq_X16_plus from rfl) rfl rfl (Nat.le_of_ble_eq_true rfl) rfl rfl (Nat.le_of_ble_eq_true rfl) (Nat.le_of_ble_eq_true rfl) (c_X16_plusA (w := w101) (m + 276 + 2 * (g 1).toNatClampNeg) (m + 276 + 2 * (g 1 + 1).toNatClampNeg) (a + 2 + 2 * y8_91.toNatClampNeg)  ho116_to hp101_0 hrow43 (by first | omega | decide | assumption | exact zr1_1 | exact zr1_0 | fail "num") (by first | omega | decide | assumption | exact zr1_1 | exact zr1_0 | fail "num")) (by omega) (fun v116 w116 hp116 => ?_)
        obtain ⟨hsi116, heq116, hp116_0, rfl⟩ := hp116
        show zP _ _ _ _ [] _ _ _ _ _
        refine zp_seg (pc' := 122) (lv' := [(8, .int (y8_91 + (Int32.ofInt (-1)))), (0, .ref m), (1, .ref to), (2, .ref a), (3, .int v), (5, .int (g 1)), (6, .ref (m + 276 + 2 * (g 1).toNatClampNeg)), (7, .ref (m + 276 + 2 * (g 1 + 1).toNatClampNeg))]) (st' := []) [(119, .iinc 8 (-1))] (by decide +kernel) rfl ?_
        have k45 := zaddC y8_91 ((Int32.ofInt (-1))) (n := (-1)) (by decide) (by omega) (by omega)
        generalize ev122 : (y8_91 + (Int32.ofInt (-1)) : Int32) = v122 at k45 ⊢
        have kv122 := zrng v122
        refine zp_seg (pc' := 91) (lv' := [(8, .int v122), (0, .ref m), (1, .ref to), (2, .ref a), (3, .int v), (5, .int (g 1)), (6, .ref (m + 276 + 2 * (g 1).toNatClampNeg)), (7, .ref (m + 276 + 2 * (g 1 + 1).toNatClampNeg))]) (st' := []) [(122, .goto (-31))] (by decide +kernel) rfl ?_
        have hb46 := hUs.si (hsi101.tr hsi116)
        have hb47 : w116 m = some (.inl (15, zMo m (zs g 1 (g 1 + 1 + 1)) r)) := ((heq116 m (zx_X16_fixed_39 hgb1)).trans (heq101 m (zx_X16_fixed_38 hgn1_1 hgb1))).trans hmL91
        exact (ih91 w116 v122 ((zaA (zaM (zaC (zf v)) Pp) (q.1 (y8_91.toNatClampNeg)))) ((hsiL91.tr hsi101).tr hsi116) (fun x hx => ((heq116 x (zx_X16_fixed_37 hx.1 hgb1)).trans ((heq101 x (zx_X16_fixed_36 hx.1 hgn1_1 hgb1)).trans (heqL91 x ⟨hx.1, hx.2⟩)))) (by first | assumption | omega | decide) (by first | assumption | omega | decide) (by
              exact hp116_0) hb46 hb47 (by
              have h9 := zln_A (zaM (zaC (zf v)) Pp) (q.1 y8_91.toNatClampNeg)
              have h8 := zln_CMle (zf v) Pp
              omega) (by omega)).more (zfa1 rfl (zfa1 rfl (zfa1 rfl (zfa1 rfl (zfa1 rfl (zfa1 rfl (zfa1 rfl (zfa1 rfl (zfa0)))))))))
    have hb48 : w80 (m + 276 + 2 * (g 1).toNatClampNeg + 1) = some (.inr (0, 1000, .inl f12)) := ((heq80 (m + 276 + 2 * (g 1).toNatClampNeg + 1) (zx_X16_fixed_42 hgb1)).trans (heq13 (m + 276 + 2 * (g 1).toNatClampNeg + 1) ⟨(zx_X16_fixed_40 hgb1), (zx_X16_fixed_41 hgn1_1 hgb1)⟩)).trans hu14
    have hb49 : zU w80 (m + 276 + 2 * (g 1 + 1).toNatClampNeg) 1000 zaZ := hp13_1.ag (fun x hx1 hx2 => (heq80 x (zx_X16_fixed_43 hx1 hx2 hgn1_1 hgb1)))
    exact (hL91 _ w80 v89 (zaZ) zSI.rf (fun _ _ => rfl) (by first | assumption | omega | decide) (by first | assumption | omega | decide) (by
          exact zU.mk0 hc80 hb48) (zU.o hb49) hb22 (by
          rw [zln_Z]; omega) (Nat.lt_succ_self _)).more (zfa1 rfl (zfa1 rfl (zfa1 rfl (zfa1 rfl (zfa1 rfl (zfa1 rfl (zfa1 rfl (zfa1 rfl (zfa0)))))))))
  ·
    have f51 := zneI cc20
    rw [show (0 : Int32).toInt = 0 from by decide] at f51
    refine zp_seg (pc' := 26) (lv' := [(8, .int 0), (7, .ref (m + 276 + 2 * (g 1 + 1).toNatClampNeg)), (6, .ref (m + 276 + 2 * (g 1).toNatClampNeg)), (5, .int (g 1)), (0, .ref m), (1, .ref to), (2, .ref a), (3, .int v), (4, .int forN)]) (st' := []) [(23, .iconst 0), (24, .istore 8)] (by decide +kernel) rfl ?_
    have hL26 : ∀ (mm26 : Nat) (wL26 : zM) (y8_26 : Int32) (T : Nat → zA1), (zSI w13 wL26) → (∀ x, ((x < to + 2 ∨ to + 2 + 128 ≤ x)) ∧ x ≠ m → wL26 x = w13 x) → (0 ≤ y8_26.toInt) → (y8_26.toInt ≤ (zrw q : Int)) → (wL26 m = some (.inl (15, zMo m (zs g 1 (g 1 + 1 + 1)) r))) → (∀ t, t < y8_26.toNatClampNeg → zU wL26 (to + 2 + 2 * t) 200 (T t) ∧ zln (T t) ≤ 1) → (300 - y8_26.toInt).toNat < mm26 → zP (d + 1) zq_X16_fixed 26 [(0, .ref m), (1, .ref to), (2, .ref a), (3, .int v), (5, .int (g 1)), (8, .int y8_26)] [] wL26 sz 0 0 Post := by
      intro mm26
      induction mm26 with
      | zero => intros; omega
      | succ mm26 ih26 =>
      intro wL26 y8_26 T hsiL26 heqL26 hi26_0 hi26_1 hmL26 hT hmu26
      have ky8_26 := zrng y8_26
      have hz52 : (y8_26.toNatClampNeg : Int) = y8_26.toInt := znat (by first | omega | decide)
      refine zp_seg (pc' := 29) (lv' := [(0, .ref m), (1, .ref to), (2, .ref a), (3, .int v), (5, .int (g 1)), (8, .int y8_26)]) (st' := [.ref a, .int y8_26]) [(26, .iload 8), (28, .aload_n 2)] (by decide +kernel) rfl ?_
      have hb53 : wL26 a = some (.inl (11, [.ref (a + 1), .int n9])) := ((heqL26 a ⟨(zx_X16_fixed_44 hdj hmt hma), (zx_X16_fixed_22 hma)⟩).trans ((heq13 a ⟨(zx_X16_fixed_2 hma), (zx_X16_fixed_4 hma hgn1_1 hgb1)⟩).trans (heq7 a ⟨(zx_X16_fixed_2 hma), (zx_X16_fixed_3 hma hgb1)⟩))).trans hQ91
      refine zr_get (idx := 93) (k := 1) (v := .int n9) (by decide +kernel) (by decide +kernel) hb53 rfl ?_
      refine zp_if (i := .if_icmp .ge 30) (c := n9 ≤ y8_26) (t := 62) (e := 35) (lv' := [(0, .ref m), (1, .ref to), (2, .ref a), (3, .int v), (5, .int (g 1)), (8, .int y8_26)]) (st' := []) (by decide +kernel) rfl (fun cc32 => ?_) (fun cc32 => ?_)
      ·
        have k54 := zrng n9
        have f55 := zleI cc32
        refine zp_seg (pc' := 64) (lv' := [(0, .ref m), (1, .ref to), (2, .ref a), (3, .int v), (5, .int (g 1)), (8, .int y8_26)]) (st' := [.ref a, .ref to]) [(62, .aload_n 1), (63, .aload_n 2)] (by decide +kernel) rfl ?_
        refine zr_get (idx := 93) (k := 1) (v := .int n9) (by decide +kernel) (by decide +kernel) hb53 rfl ?_
        have hb61 := hBo_to.si ((hsi7.tr hsi13).tr hsiL26)
        obtain ⟨n56, hb57, hb58, -⟩ := id hb61
        have kn56 := zrng n56
        refine zr_put2 (idx := 93) (k := 1) (fs2 := [.ref (to + 1), .int n9]) (by decide +kernel) (by decide +kernel) hb57 (Nat.le_of_ble_eq_true rfl) rfl rfl rfl ?_
        show zP (d + 1) zq_X16_fixed 70 [(0, .ref m), (1, .ref to), (2, .ref a), (3, .int v), (5, .int (g 1)), (8, .int y8_26)] [] (zup wL26 to (.inl (11, [.ref (to + 1), .int n9]))) sz 0 0 Post
        obtain ⟨w67, ew67⟩ : ∃ wz9, wz9 = zup wL26 to (.inl (11, [.ref (to + 1), .int n9])) := ⟨_, rfl⟩
        have hsi67 : zSI wL26 w67 := by rw [ew67]; exact zSI.setB hb57
        have heq67 : ∀ x, x ≠ to → w67 x = wL26 x := fun x hx => by rw [ew67]; exact zup_n hx
        have hc67 : w67 to = some (.inl (11, [.ref (to + 1), .int n9])) := by rw [ew67]; exact zup_s
        rw [← ew67]
        clear ew67
        have hb62 := hb61.si hsi67
        have hBn9 : zBw w67 to (zrw q) (zbOf T (zrw q)) := zBw.mk hb62 hc67 (by omega) (by omega) (fun j hj => by rw [zbOf_y hj]; exact (hT j (by omega)).1.ag (fun x g1 g2 => (heq67 x (by omega)))) (fun j hj => zbOf_n hj)
        have hrw9 : ∀ N, 1 ≤ N → zrw q ≤ N → zrw (zbOf T (zrw q)) ≤ N := fun N _ h => Nat.le_trans (zrw_le fun i hi => zbOf_n hi) h
        have hdn9 : zdn (zbOf T (zrw q)) ≤ zdn q := zbOf_dn fun j hj => Nat.le_trans (hT j (by omega)).2 (by omega)
        refine zp_seg (pc' := 71) (lv' := [(0, .ref m), (1, .ref to), (2, .ref a), (3, .int v), (5, .int (g 1)), (8, .int y8_26)]) (st' := [.ref to]) [(70, .aload_n 1)] (by decide +kernel) rfl ?_
        refine zr_callV (idx := 105) (j := 244) (by decide +kernel) (by decide +kernel) (show zMe 244 = some zq_X12_trim from rfl) rfl rfl (Nat.le_of_ble_eq_true rfl) rfl rfl hc67 (Nat.le_of_ble_eq_true rfl) (Nat.le_of_ble_eq_true rfl) (c_X12_trim (w := w67) to hBn9) (by omega) (fun v71 w71 hp71 => ?_)
        obtain ⟨hsi71, heq71, hp71_0, rfl⟩ := hp71
        show zP _ _ _ _ [] _ _ _ _ _
        refine zp_seg (pc' := 148) (lv' := [(0, .ref m), (1, .ref to), (2, .ref a), (3, .int v), (5, .int (g 1)), (8, .int y8_26)]) (st' := [.int (g 1), .ref m]) [(74, .goto 71), (145, .aload_n 0), (146, .iload 5)] (by decide +kernel) rfl ?_
        have hb63 : w71 m = some (.inl (15, zMo m (zs g 1 (g 1 + 1 + 1)) r)) := ((heq71 m (zx_X16_fixed_11 hmt)).trans (heq67 m (zx_X16_fixed_10 hmt))).trans hmL26
        refine zr_put2 (idx := 21) (k := 1) (fs2 := zMo m g r) (by decide +kernel) (by decide +kernel) hb63 (Nat.le_of_ble_eq_true rfl) rfl rfl rfl ?_
        show zP (d + 1) zq_X16_fixed 151 [(0, .ref m), (1, .ref to), (2, .ref a), (3, .int v), (5, .int (g 1)), (8, .int y8_26)] [] (zup w71 m (.inl (15, zMo m g r))) sz 0 0 Post
        obtain ⟨w148, ew148⟩ : ∃ wz9, wz9 = zup w71 m (.inl (15, zMo m g r)) := ⟨_, rfl⟩
        have hsi148 : zSI w71 w148 := by rw [ew148]; exact zSI.setG hb63 _ _
        have heq148 : ∀ x, x ≠ m → w148 x = w71 x := fun x hx => by rw [ew148]; exact zup_n hx
        have hc148 : w148 m = some (.inl (15, zMo m g r)) := by rw [ew148]; exact zup_s
        rw [← ew148]
        clear ew148
        have hmend : w148 m = w m := by rw [hc148, hm]
        have hoffend : ∀ x, (x < to ∨ to + 130 ≤ x) ∧ (x < m + 276 + 2 * (g 1).toNatClampNeg ∨ m + 276 + 2 * (g 1).toNatClampNeg + (320 - 2 * (g 1).toNatClampNeg) ≤ x) → w148 x = w x := fun x hx => by
            by_cases ex : x = m
            · rw [ex]; exact hmend
            · exact ((heq148 x ex).trans ((heq71 x (zx_X16_fixed_19 hx.1 hmt)).trans ((heq67 x (zx_X16_fixed_18 hx.1 hmt)).trans ((heqL26 x ⟨(zx_X16_fixed_45 hx.1 hmt), ex⟩).trans ((heq13 x ⟨(zx_X16_fixed_12 ex), (zx_X16_fixed_14 hx.2 hgn1_1 hgb1)⟩).trans (heq7 x ⟨(zx_X16_fixed_12 ex), (zx_X16_fixed_13 hx.2 hgb1)⟩))))))
        have hb64 : zB w148 to ((zbOf T (zrw q))) := hp71_0.ag (fun x hx1 hx2 => (heq148 x (zx_X16_fixed_20 hx1 hx2 hmt)))
        refine zr_retV (by decide +kernel) rfl ?_
        rw [← hPost]; exact ⟨rfl, _, rfl, ((zbOf T (zrw q))), (((((hsi7.tr hsi13).tr hsiL26).tr hsi67).tr hsi71).tr hsi148), hoffend, (by first | exact hb64 | (have z9 := hb64; simpa using z9)), (by
              exact ⟨hrw9, hdn9⟩), rfl⟩
      ·
        have k65 := zrng n9
        have f66 := znleI cc32
        refine zp_seg (pc' := 36) (lv' := [(0, .ref m), (1, .ref to), (2, .ref a), (3, .int v), (5, .int (g 1)), (8, .int y8_26)]) (st' := [.ref to]) [(35, .aload_n 1)] (by decide +kernel) rfl ?_
        have hb72 := hBo_to.si ((hsi7.tr hsi13).tr hsiL26)
        obtain ⟨n67, hb68, hb69, -⟩ := id hb72
        have kn67 := zrng n67
        refine zr_get (idx := 98) (k := 0) (v := .ref (to + 1)) (by decide +kernel) (by decide +kernel) hb68 rfl ?_
        refine zp_seg (pc' := 41) (lv' := [(0, .ref m), (1, .ref to), (2, .ref a), (3, .int v), (5, .int (g 1)), (8, .int y8_26)]) (st' := [.int y8_26, .ref (to + 1)]) [(39, .iload 8)] (by decide +kernel) rfl ?_
        refine zr_aald (v := .ref (to + 2 + 2 * y8_26.toNatClampNeg)) (by decide +kernel) hb69 (by decide) (zin (by first | omega | decide) (by first | omega | decide)) (zbr_at (by omega)) ?_
        have hrow73 := hb72.rowo (y8_26.toNatClampNeg) (by omega)
        refine zp_seg (pc' := 43) (lv' := [(0, .ref m), (1, .ref to), (2, .ref a), (3, .int v), (5, .int (g 1)), (8, .int y8_26)]) (st' := [.ref a, .ref (to + 2 + 2 * y8_26.toNatClampNeg)]) [(42, .aload_n 2)] (by decide +kernel) rfl ?_
        refine zr_get (idx := 98) (k := 0) (v := .ref (a + 1)) (by decide +kernel) (by decide +kernel) hb53 rfl ?_
        refine zp_seg (pc' := 48) (lv' := [(0, .ref m), (1, .ref to), (2, .ref a), (3, .int v), (5, .int (g 1)), (8, .int y8_26)]) (st' := [.int y8_26, .ref (a + 1), .ref (to + 2 + 2 * y8_26.toNatClampNeg)]) [(46, .iload 8)] (by decide +kernel) rfl ?_
        have hb74 : wL26 (a + 1) = some (.inr (4, 64, zbr a)) := ((heqL26 (a + 1) ⟨(zx_X16_fixed_46 hdj hmt hma), (zx_X16_fixed_28 hma)⟩).trans ((heq13 (a + 1) ⟨(zx_X16_fixed_23 hma), (zx_X16_fixed_25 hma hgn1_1 hgb1)⟩).trans (heq7 (a + 1) ⟨(zx_X16_fixed_23 hma), (zx_X16_fixed_24 hma hgb1)⟩))).trans hQ92
        refine zr_aald (v := .ref (a + 2 + 2 * y8_26.toNatClampNeg)) (by decide +kernel) hb74 (by decide) (zin (by first | omega | decide) (by first | omega | decide)) (zbr_at (by omega)) ?_
        have hb75 : zB wL26 a q := hB_a.ag (fun x hx1 hx2 => ((heqL26 x ⟨(zx_X16_fixed_47 hx1 hx2 hdj hmt hma), (zx_X16_fixed_34 hx1 hx2 hma)⟩).trans ((heq13 x ⟨(zx_X16_fixed_29 hx1 hx2 hma), (zx_X16_fixed_31 hx1 hx2 hma hgn1_1 hgb1)⟩).trans (heq7 x ⟨(zx_X16_fixed_29 hx1 hx2 hma), (zx_X16_fixed_30 hx1 hx2 hma hgb1)⟩))))
        have hrow76 := hb75.row (y8_26.toNatClampNeg) (by omega)
        refine zp_seg (pc' := 50) (lv' := [(0, .ref m), (1, .ref to), (2, .ref a), (3, .int v), (5, .int (g 1)), (8, .int y8_26)]) (st' := [.int v, .ref (a + 2 + 2 * y8_26.toNatClampNeg), .ref (to + 2 + 2 * y8_26.toNatClampNeg)]) [(49, .iload_n 3)] (by decide +kernel) rfl ?_
        refine zr_callS (idx := 136) (j := 272) (by decide +kernel) (by decide +kernel) (by decide) (show zMe 272 = some zq_X16_eval from rfl) rfl rfl (Nat.le_of_ble_eq_true rfl) rfl rfl (Nat.le_of_ble_eq_true rfl) (Nat.le_of_ble_eq_true rfl) (c_X16_eval (w := wL26) (a + 2 + 2 * y8_26.toNatClampNeg) v hrow76 (by first | omega | decide | assumption | exact zr1_1 | exact zr1_0 | fail "num") (by exact Nat.le_trans (hQ95 _ (by omega)).cap (by omega))) (by omega) (fun v50 w50 hp50 => ?_)
        obtain ⟨hpw50, r50, rfl, hr50⟩ := hp50
        replace hpw50 := hpw50.symm
        subst hpw50
        have kr50 := zrng r50
        show zP _ _ _ _ [.int r50, .ref (to + 2 + 2 * y8_26.toNatClampNeg)] _ _ _ _ _
        obtain ⟨n77, f78, hu79, hu80⟩ := id hrow73
        have kn77 := zrng n77
        refine zr_callV (idx := 147) (j := 252) (by decide +kernel) (by decide +kernel) (show zMe 252 = some zq_X15_number from rfl) rfl rfl (Nat.le_of_ble_eq_true rfl) rfl rfl hu79 (Nat.le_of_ble_eq_true rfl) (Nat.le_of_ble_eq_true rfl) (c_X15_number (w := wL26) (to + 2 + 2 * y8_26.toNatClampNeg) r50 hrow73 (by exact hr50.1) (by first | omega | decide | assumption | exact zr1_1 | exact zr1_0 | fail "num")) (by omega) (fun v53 w53 hp53 => ?_)
        obtain ⟨hsi53, heq53, hp53_0, rfl⟩ := hp53
        show zP _ _ _ _ [] _ _ _ _ _
        refine zp_seg (pc' := 59) (lv' := [(8, .int (y8_26 + 1)), (0, .ref m), (1, .ref to), (2, .ref a), (3, .int v), (5, .int (g 1))]) (st' := []) [(56, .iinc 8 1)] (by decide +kernel) rfl ?_
        have k81 := zaddC y8_26 1 (n := 1) (by decide) (by omega) (by omega)
        generalize ev59 : (y8_26 + 1 : Int32) = v59 at k81 ⊢
        have kv59 := zrng v59
        refine zp_seg (pc' := 26) (lv' := [(8, .int v59), (0, .ref m), (1, .ref to), (2, .ref a), (3, .int v), (5, .int (g 1))]) (st' := []) [(59, .goto (-33))] (by decide +kernel) rfl ?_
        have hz82 : (v59.toNatClampNeg : Int) = v59.toInt := znat (by first | omega | decide)
        have hb83 : w53 m = some (.inl (15, zMo m (zs g 1 (g 1 + 1 + 1)) r)) := (heq53 m (by omega)).trans hmL26
        exact (ih26 w53 v59 (fun j => if j = y8_26.toNatClampNeg then zaC (zf r50) else T j) (hsiL26.tr hsi53) (fun x hx => ((heq53 x (by omega)).trans (heqL26 x ⟨hx.1, hx.2⟩))) (by first | assumption | omega | decide) (by first | assumption | omega | decide) hb83 (by
              intro t ht
              show zU w53 (to + 2 + 2 * t) 200 (if t = y8_26.toNatClampNeg then zaC (zf r50) else T t) ∧ zln (if t = y8_26.toNatClampNeg then zaC (zf r50) else T t) ≤ _
              by_cases e : t = y8_26.toNatClampNeg
              · rw [if_pos e, e]; exact ⟨hp53_0, zln_le fun i hi => by rw [zaC_c, if_neg (by omega)]⟩
              · rw [if_neg e]; exact ⟨(hT t (by omega)).1.ag (fun x g1 g2 => (heq53 x (by omega))), (hT t (by omega)).2⟩) (by omega)).more (zfa1 rfl (zfa1 rfl (zfa1 rfl (zfa1 rfl (zfa1 rfl (zfa1 rfl (zfa0)))))))
    have hl84 : (0 : Int32).toInt = 0 := by decide
    have hz85 : ((0 : Int32).toNatClampNeg : Int) = 0 := by decide
    exact (hL26 _ w13 0 (fun _ => zaZ) zSI.rf (fun _ _ => rfl) (by first | assumption | omega | decide) (by first | assumption | omega | decide) hM13 (by
          exact fun t ht => absurd ht (by omega)) (Nat.lt_succ_self _)).more (zfa1 rfl (zfa1 rfl (zfa1 rfl (zfa1 rfl (zfa1 rfl (zfa1 rfl (zfa0)))))))
