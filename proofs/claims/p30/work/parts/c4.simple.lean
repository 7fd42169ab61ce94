theorem zx_X16_simple_0 {G1_0 m x : Nat} (h0 : x < m + 276 + 2 * G1_0 ∨ m + 276 + 2 * G1_0 + (320 - 2 * G1_0) ≤ x) (h1 : G1_0 + 9 ≤ 160) : x < m + 276 + 2 * G1_0 ∨ m + 276 + 2 * G1_0 + 2 ≤ x := by omega
theorem zx_X16_simple_1 {G1_0 G1_1 m x : Nat} (h0 : x < m + 276 + 2 * G1_0 ∨ m + 276 + 2 * G1_0 + (320 - 2 * G1_0) ≤ x) (h1 : G1_1 = G1_0 + 1) (h2 : G1_0 + 9 ≤ 160) : x < m + 276 + 2 * G1_1 ∨ m + 276 + 2 * G1_1 + (320 - 2 * G1_1) ≤ x := by omega
theorem zx_X16_simple_2 {m x : Nat} (h0 : x < m ∨ m + 1 ≤ x) : x ≠ m := by omega
theorem zx_X16_simple_3 {G1_0 m : Nat} (h0 : G1_0 + 9 ≤ 160) : (m + 193) < m + 276 + 2 * G1_0 ∨ m + 276 + 2 * G1_0 + (320 - 2 * G1_0) ≤ (m + 193) := by omega
theorem zx_X16_simple_4 {m : Nat}  : (m + 193) ≠ m := by omega
theorem zx_X16_simple_5 {m u9 : Nat} (h0 : m + 7486 ≤ u9 ∧ u9 + 9 ≤ m + 7594) : u9 < m ∨ m + 1 ≤ u9 := by omega
theorem zx_X16_simple_6 {G1_0 m u9 : Nat} (h0 : m + 7486 ≤ u9 ∧ u9 + 9 ≤ m + 7594) (h1 : G1_0 + 9 ≤ 160) : u9 < m + 276 + 2 * G1_0 ∨ m + 276 + 2 * G1_0 + 2 ≤ u9 := by omega
theorem zx_X16_simple_7 {m u9 : Nat} (h0 : m + 7486 ≤ u9 ∧ u9 + 9 ≤ m + 7594) : u9 < m + 193 ∨ m + 193 + 1 ≤ u9 := by omega
theorem zx_X16_simple_8 {G1_0 G1_1 m u9 : Nat} (h0 : m + 7486 ≤ u9 ∧ u9 + 9 ≤ m + 7594) (h1 : G1_1 = G1_0 + 1) (h2 : G1_0 + 9 ≤ 160) : u9 < m + 276 + 2 * G1_1 ∨ m + 276 + 2 * G1_1 + (320 - 2 * G1_1) ≤ u9 := by omega
theorem zx_X16_simple_9 {m u9 : Nat} (h0 : m + 7486 ≤ u9 ∧ u9 + 9 ≤ m + 7594) : u9 ≠ m := by omega
theorem zx_X16_simple_10 {G1_0 m u9 : Nat} (h0 : m + 7486 ≤ u9 ∧ u9 + 9 ≤ m + 7594) (h1 : G1_0 + 9 ≤ 160) : u9 < m + 276 + 2 * G1_0 ∨ m + 276 + 2 * G1_0 + (320 - 2 * G1_0) ≤ u9 := by omega
theorem zx_X16_simple_11 {m u9 : Nat} (h0 : m + 7486 ≤ u9 ∧ u9 + 9 ≤ m + 7594) : (u9 + 7) < m ∨ m + 1 ≤ (u9 + 7) := by omega
theorem zx_X16_simple_12 {G1_0 m u9 : Nat} (h0 : m + 7486 ≤ u9 ∧ u9 + 9 ≤ m + 7594) (h1 : G1_0 + 9 ≤ 160) : (u9 + 7) < m + 276 + 2 * G1_0 ∨ m + 276 + 2 * G1_0 + 2 ≤ (u9 + 7) := by omega
theorem zx_X16_simple_13 {m u9 : Nat} (h0 : m + 7486 ≤ u9 ∧ u9 + 9 ≤ m + 7594) : (u9 + 7) < m + 193 ∨ m + 193 + 1 ≤ (u9 + 7) := by omega
theorem zx_X16_simple_14 {G1_0 G1_1 m u9 : Nat} (h0 : m + 7486 ≤ u9 ∧ u9 + 9 ≤ m + 7594) (h1 : G1_1 = G1_0 + 1) (h2 : G1_0 + 9 ≤ 160) : (u9 + 7) < m + 276 + 2 * G1_1 ∨ m + 276 + 2 * G1_1 + (320 - 2 * G1_1) ≤ (u9 + 7) := by omega
theorem zx_X16_simple_15 {m u9 : Nat} (h0 : m + 7486 ≤ u9 ∧ u9 + 9 ≤ m + 7594) : (u9 + 7) ≠ m := by omega
theorem zx_X16_simple_16 {G1_0 m u9 : Nat} (h0 : m + 7486 ≤ u9 ∧ u9 + 9 ≤ m + 7594) (h1 : G1_0 + 9 ≤ 160) : (u9 + 7) < m + 276 + 2 * G1_0 ∨ m + 276 + 2 * G1_0 + (320 - 2 * G1_0) ≤ (u9 + 7) := by omega
theorem zx_X16_simple_17 {G1_0 m : Nat} (h0 : G1_0 + 9 ≤ 160) : m < m + 276 + 2 * G1_0 ∨ m + 276 + 2 * G1_0 + 2 ≤ m := by omega
theorem zx_X16_simple_18 {G1_0 m : Nat} (h0 : G1_0 + 9 ≤ 160) : (m + 193) < m + 276 + 2 * G1_0 ∨ m + 276 + 2 * G1_0 + 2 ≤ (m + 193) := by omega
theorem zx_X16_simple_19 {G1_0 m x : Nat} (h0 : m + 276 + 2 * G1_0 ≤ x) (h1 : x < m + 276 + 2 * G1_0 + 2) (h2 : G1_0 + 9 ≤ 160) : x < m ∨ m + 1 ≤ x := by omega
theorem zx_X16_simple_20 {G1_0 m x : Nat} (h0 : m + 276 + 2 * G1_0 ≤ x) (h1 : x < m + 276 + 2 * G1_0 + 2) (h2 : G1_0 + 9 ≤ 160) : x < m + 193 ∨ m + 193 + 1 ≤ x := by omega
theorem zx_X16_simple_21 {G1_0 G1_1 m x : Nat} (h0 : m + 276 + 2 * G1_0 ≤ x) (h1 : x < m + 276 + 2 * G1_0 + 2) (h2 : G1_1 = G1_0 + 1) (h3 : G1_0 + 9 ≤ 160) : x < m + 276 + 2 * G1_1 ∨ m + 276 + 2 * G1_1 + (320 - 2 * G1_1) ≤ x := by omega
theorem zx_X16_simple_22 {G1_0 m x : Nat} (h0 : m + 276 + 2 * G1_0 ≤ x) (h1 : x < m + 276 + 2 * G1_0 + 2) (h2 : G1_0 + 9 ≤ 160) : x ≠ m := by omega
theorem zx_X16_simple_23 {m : Nat}  : (m + 193) < m ∨ m + 1 ≤ (m + 193) := by omega
theorem zx_X16_simple_24 {m x : Nat} (h0 : x < m + 193 ∨ m + 193 + 1 ≤ x) : x ≠ m + 193 := by omega
theorem zx_X16_simple_25 {m : Nat}  : m ≠ m + 193 := by omega
set_option maxHeartbeats 8000000 in
set_option maxRecDepth 100000 in
theorem c_X16_simple {w : zM} {g : Nat → Int32} {r : Nat → Value} {gu fu : Nat → Int32} {g1 : Int32} (m : Nat) (u9 : Nat) (sm : Int32) (hm : w m = some (.inl (15, zMo m g r))) (hR_m : zR m w) (hT_u9 : w u9 = some (.inl (13, zTo u9 gu))) (hA_u9_7 : w (u9 + 7) = some (.inr (0, 175, .inl fu))) (hut : 0 ≤ g1.toInt ∧ g1.toInt + 9 ≤ 160) (ho : 1 ≤ (gu 10).toInt ∧ (gu 10).toInt ≤ 6) (hfu : ∀ i, i < 175 → zr1 (fu i)) (hmu : m + 7486 ≤ u9 ∧ u9 + 9 ≤ m + 7594) (hz_sm : sm = 0 ∨ sm = 1) (hg1 : g 1 = g1) : zCon 3 zq_X16_simple [.ref m, .ref u9, .int sm] w (fun v9 w9' => ∃ X9 : Int32, ∃ fw : Nat → Option Nat, ∃ Pg : Nat → zA1, zSI w w9' ∧ (∀ x, (x < m ∨ m + 1 ≤ x) ∧ (x < m + 193 ∨ m + 193 + 1 ≤ x) ∧ (x < m + 276 + 2 * g1.toNatClampNeg ∨ m + 276 + 2 * g1.toNatClampNeg + (320 - 2 * g1.toNatClampNeg) ≤ x) → w9' x = w x) ∧ w9' m = some (.inl (15, zMo m (zs g 1 X9) r)) ∧ w9' (m + 193) = some (.inr (4, 8, .inr fw)) ∧ X9.toInt = g1.toInt + 3 + (gu 10).toInt ∧ (∀ t, t ≤ (gu 10).toNatClampNeg + 1 → fw t = some (m + 276 + 2 * (g1 + 1).toNatClampNeg + 2 * t) ∧ zU w9' (m + 276 + 2 * (g1 + 1).toNatClampNeg + 2 * t) 1000 (Pg t) ∧ zln (Pg t) ≤ 25) ∧ (sm = 1 → zln (Pg ((gu 10).toNatClampNeg + 1)) = zln (zaOf (fun i => zf (fu (25 * (gu 10).toNatClampNeg + i))) 25)) ∧ (sm = 0 → zln (Pg (gu 10).toNatClampNeg) = zln (zaOf (fun i => zf (fu (25 * (gu 10).toNatClampNeg + i))) 25)) ∧ v9 = none) := by
  subst hg1
  intro d sz hd
  obtain ⟨d, rfl⟩ : ∃ d9, d = d9 + 1 := ⟨d - 1, by omega⟩
  generalize hPost : (fun (r9' : Option (Option Value)) (w9' : zM) (z9 : Nat) => z9 = sz ∧ ∃ v9, r9' = some v9 ∧ (∃ X9 : Int32, ∃ fw : Nat → Option Nat, ∃ Pg : Nat → zA1, zSI w w9' ∧ (∀ x, (x < m ∨ m + 1 ≤ x) ∧ (x < m + 193 ∨ m + 193 + 1 ≤ x) ∧ (x < m + 276 + 2 * (g 1).toNatClampNeg ∨ m + 276 + 2 * (g 1).toNatClampNeg + (320 - 2 * (g 1).toNatClampNeg) ≤ x) → w9' x = w x) ∧ w9' m = some (.inl (15, zMo m (zs g 1 X9) r)) ∧ w9' (m + 193) = some (.inr (4, 8, .inr fw)) ∧ X9.toInt = (g 1).toInt + 3 + (gu 10).toInt ∧ (∀ t, t ≤ (gu 10).toNatClampNeg + 1 → fw t = some (m + 276 + 2 * ((g 1) + 1).toNatClampNeg + 2 * t) ∧ zU w9' (m + 276 + 2 * ((g 1) + 1).toNatClampNeg + 2 * t) 1000 (Pg t) ∧ zln (Pg t) ≤ 25) ∧ (sm = 1 → zln (Pg ((gu 10).toNatClampNeg + 1)) = zln (zaOf (fun i => zf (fu (25 * (gu 10).toNatClampNeg + i))) 25)) ∧ (sm = 0 → zln (Pg (gu 10).toNatClampNeg) = zln (zaOf (fun i => zf (fu (25 * (gu 10).toNatClampNeg + i))) 25)) ∧ v9 = none)) = Post
  show zP (d + 1) zq_X16_simple 0 [(0, .ref m), (1, .ref u9), (2, .int sm)] [] w sz 0 0 Post
  have k1 := zrng sm
  have k2 := zrng (g 1)
  have hz3 : ((g 1).toNatClampNeg : Int) = (g 1).toInt := znat (by first | omega | decide)
  have hgb1 : (g 1).toNatClampNeg + 9 ≤ 160 := by omega
  have k5 := zaddC (g 1) 1 (n := 1) (by decide) (by omega) (by omega)
  have hz6 : ((g 1 + 1).toNatClampNeg : Int) = (g 1 + 1).toInt := znat (by first | omega | decide)
  have hgn1_1 : (g 1 + 1).toNatClampNeg = (g 1).toNatClampNeg + 1 := by omega
  have k7 := zrng (gu 10)
  have hz8 : ((gu 10).toNatClampNeg : Int) = (gu 10).toInt := znat (by first | omega | decide)
  refine zp_seg (pc' := 1) (lv' := [(0, .ref m), (1, .ref u9), (2, .int sm)]) (st' := [.ref u9]) [(0, .aload_n 1)] (by decide +kernel) rfl ?_
  refine zr_get (idx := 234) (k := 10) (v := .int (gu 10)) (by decide +kernel) (by decide +kernel) hT_u9 rfl ?_
  refine zp_seg (pc' := 6) (lv' := [(3, .int (gu 10)), (0, .ref m), (1, .ref u9), (2, .int sm)]) (st' := [.ref m]) [(4, .istore_n 3), (5, .aload_n 0)] (by decide +kernel) rfl ?_
  refine zr_callV (idx := 74) (j := 263) (by decide +kernel) (by decide +kernel) (show zMe 263 = some zq_X16_newU from rfl) rfl rfl (Nat.le_of_ble_eq_true rfl) rfl rfl hm (Nat.le_of_ble_eq_true rfl) (Nat.le_of_ble_eq_true rfl) (c_X16_newU (w := w) (g1 := (g 1)) m hm hR_m (by first | omega | decide | assumption | exact zr1_1 | exact zr1_0 | fail "num") rfl) (by omega) (fun v6 w6 hp6 => ?_)
  obtain ⟨hsi6, heq6, hp6_0, hp6_1, rfl⟩ := hp6
  have hM6 : w6 m = some (.inl (15, zMo m (zs g 1 (g 1 + 1)) r)) := hp6_0
  show zP _ _ _ _ [.ref (m + 276 + 2 * (g 1).toNatClampNeg)] _ _ _ _ _
  refine zp_seg (pc' := 14) (lv' := [(5, .int 0), (4, .ref (m + 276 + 2 * (g 1).toNatClampNeg)), (3, .int (gu 10)), (0, .ref m), (1, .ref u9), (2, .int sm)]) (st' := []) [(9, .astore 4), (11, .iconst 0), (12, .istore 5)] (by decide +kernel) rfl ?_
  have hL14 : ∀ (mm14 : Nat) (wL14 : zM) (y5_14 : Int32) (xT : Int32) (fw : Nat → Option Nat), (zSI w6 wL14) → (∀ x, ((x < m ∨ m + 1 ≤ x) ∧ (x < m + 193 ∨ m + 193 + 1 ≤ x) ∧ (x < m + 276 + 2 * (g 1 + 1).toNatClampNeg ∨ m + 276 + 2 * (g 1 + 1).toNatClampNeg + (320 - 2 * (g 1 + 1).toNatClampNeg) ≤ x)) ∧ x ≠ m → wL14 x = w6 x) → (0 ≤ y5_14.toInt) → (y5_14.toInt ≤ (gu 10).toInt + 2) → (wL14 m = some (.inl (15, zMo m (zs g 1 xT) r))) → (wL14 (m + 193) = some (.inr (4, 8, .inr fw))) → (xT.toInt = (g 1).toInt + 1 + y5_14.toInt) → (∀ t, t < y5_14.toNatClampNeg → fw t = some (m + 276 + 2 * (g 1 + 1).toNatClampNeg + 2 * t)) → (∀ t, t < y5_14.toNatClampNeg → zU wL14 (m + 276 + 2 * (g 1 + 1).toNatClampNeg + 2 * t) 1000 zaZ) → (20 - y5_14.toInt).toNat < mm14 → zP (d + 1) zq_X16_simple 14 [(0, .ref m), (1, .ref u9), (2, .int sm), (3, .int (gu 10)), (4, .ref (m + 276 + 2 * (g 1).toNatClampNeg)), (5, .int y5_14)] [] wL14 sz 0 0 Post := by
    intro mm14
    induction mm14 with
    | zero => intros; omega
    | succ mm14 ih14 =>
    intro wL14 y5_14 xT fw hsiL14 heqL14 hi14_0 hi14_1 hxM hV9 hxT hfw hPz hmu14
    have ky5_14 := zrng y5_14
    have hz9 : (y5_14.toNatClampNeg : Int) = y5_14.toInt := znat (by first | omega | decide)
    refine zp_seg (pc' := 19) (lv' := [(0, .ref m), (1, .ref u9), (2, .int sm), (3, .int (gu 10)), (4, .ref (m + 276 + 2 * (g 1).toNatClampNeg)), (5, .int y5_14)]) (st' := [.int ((gu 10) + 1), .int y5_14]) [(14, .iload 5), (16, .iload_n 3), (17, .iconst 1), (18, .iadd)] (by decide +kernel) rfl ?_
    have k10 := zaddC ((gu 10)) 1 (n := 1) (by decide) (by omega) (by omega)
    generalize ev19 : ((gu 10) + 1 : Int32) = v19 at k10 ⊢
    have kv19 := zrng v19
    refine zp_if (i := .if_icmp .gt 20) (c := v19 < y5_14) (t := 39) (e := 22) (lv' := [(0, .ref m), (1, .ref u9), (2, .int sm), (3, .int (gu 10)), (4, .ref (m + 276 + 2 * (g 1).toNatClampNeg)), (5, .int y5_14)]) (st' := []) (by decide +kernel) rfl (fun cc19 => ?_) (fun cc19 => ?_)
    ·
      have f11 := zltI cc19
      refine zp_seg (pc' := 42) (lv' := [(5, .int 0), (0, .ref m), (1, .ref u9), (2, .int sm), (3, .int (gu 10)), (4, .ref (m + 276 + 2 * (g 1).toNatClampNeg))]) (st' := []) [(39, .iconst 0), (40, .istore 5)] (by decide +kernel) rfl ?_
      have hL42 : ∀ (mm42 : Nat) (wL42 : zM) (y5_42 : Int32) (Pg : Nat → zA1), (zSI wL14 wL42) → (∀ x, ((x < m + 276 + 2 * (g 1).toNatClampNeg ∨ m + 276 + 2 * (g 1).toNatClampNeg + (320 - 2 * (g 1).toNatClampNeg) ≤ x)) ∧ x ≠ m → wL42 x = wL14 x) → (0 ≤ y5_42.toInt) → (y5_42.toInt ≤ (gu 10).toInt + 1) → (zUo wL42 (m + 276 + 2 * (g 1).toNatClampNeg) 1000) → (wL42 m = some (.inl (15, zMo m (zs g 1 xT) r))) → (∀ t, t ≤ (gu 10).toNatClampNeg + 1 → zU wL42 (m + 276 + 2 * (g 1 + 1).toNatClampNeg + 2 * t) 1000 (Pg t) ∧ zln (Pg t) ≤ 25) → (∀ t, y5_42.toNatClampNeg < t → Pg t = zaZ) → (sm = 1 → (gu 10).toInt < y5_42.toInt → zln (Pg ((gu 10).toNatClampNeg + 1)) = zln (zaOf (fun i => zf (fu (25 * (gu 10).toNatClampNeg + i))) 25)) → (sm = 0 → (gu 10).toInt < y5_42.toInt → zln (Pg (gu 10).toNatClampNeg) = zln (zaOf (fun i => zf (fu (25 * (gu 10).toNatClampNeg + i))) 25)) → (20 - y5_42.toInt).toNat < mm42 → zP (d + 1) zq_X16_simple 42 [(0, .ref m), (1, .ref u9), (2, .int sm), (3, .int (gu 10)), (4, .ref (m + 276 + 2 * (g 1).toNatClampNeg)), (5, .int y5_42)] [] wL42 sz 0 0 Post := by
        intro mm42
        induction mm42 with
        | zero => intros; omega
        | succ mm42 ih42 =>
        intro wL42 y5_42 Pg hsiL42 heqL42 hi42_0 hi42_1 hU0o hmL42 hPg hPz hld1 hld0 hmu42
        have ky5_42 := zrng y5_42
        have hz12 : (y5_42.toNatClampNeg : Int) = y5_42.toInt := znat (by first | omega | decide)
        refine zp_seg (pc' := 45) (lv' := [(0, .ref m), (1, .ref u9), (2, .int sm), (3, .int (gu 10)), (4, .ref (m + 276 + 2 * (g 1).toNatClampNeg)), (5, .int y5_42)]) (st' := [.int (gu 10), .int y5_42]) [(42, .iload 5), (44, .iload_n 3)] (by decide +kernel) rfl ?_
        refine zp_if (i := .if_icmp .gt 94) (c := (gu 10) < y5_42) (t := 139) (e := 48) (lv' := [(0, .ref m), (1, .ref u9), (2, .int sm), (3, .int (gu 10)), (4, .ref (m + 276 + 2 * (g 1).toNatClampNeg)), (5, .int y5_42)]) (st' := []) (by decide +kernel) rfl (fun cc45 => ?_) (fun cc45 => ?_)
        ·
          have f13 := zltI cc45
          have hoffend : ∀ x, (x < m ∨ m + 1 ≤ x) ∧ (x < m + 193 ∨ m + 193 + 1 ≤ x) ∧ (x < m + 276 + 2 * (g 1).toNatClampNeg ∨ m + 276 + 2 * (g 1).toNatClampNeg + (320 - 2 * (g 1).toNatClampNeg) ≤ x) → wL42 x = w x := fun x hx => ((heqL42 x ⟨hx.2.2, (zx_X16_simple_2 hx.1)⟩).trans ((heqL14 x ⟨⟨hx.1, hx.2.1, (zx_X16_simple_1 hx.2.2 hgn1_1 hgb1)⟩, (zx_X16_simple_2 hx.1)⟩).trans (heq6 x ⟨hx.1, (zx_X16_simple_0 hx.2.2 hgb1)⟩)))
          have hb14 : wL42 (m + 193) = some (.inr (4, 8, .inr fw)) := (heqL42 (m + 193) ⟨(zx_X16_simple_3 hgb1), (zx_X16_simple_4)⟩).trans hV9
          refine zr_retV (by decide +kernel) rfl ?_
          rw [← hPost]; exact ⟨rfl, _, rfl, xT, fw, Pg, ((hsi6.tr hsiL14).tr hsiL42), hoffend, hmL42, hb14, (by
                omega), (by
                exact fun t ht => ⟨hfw t (by omega), hPg t ht⟩), (by
                exact fun e => hld1 e (by omega)), (by
                exact fun e => hld0 e (by omega)), rfl⟩
        ·
          have f15 := znltI cc45
          refine zp_seg (pc' := 51) (lv' := [(0, .ref m), (1, .ref u9), (2, .int sm), (3, .int (gu 10)), (4, .ref (m + 276 + 2 * (g 1).toNatClampNeg)), (5, .int y5_42)]) (st' := [.ref u9, .ref (m + 276 + 2 * (g 1).toNatClampNeg)]) [(48, .aload 4), (50, .aload_n 1)] (by decide +kernel) rfl ?_
          have hb16 : wL42 u9 = some (.inl (13, zTo u9 gu)) := ((heqL42 u9 ⟨(zx_X16_simple_10 hmu hgb1), (zx_X16_simple_9 hmu)⟩).trans ((heqL14 u9 ⟨⟨(zx_X16_simple_5 hmu), (zx_X16_simple_7 hmu), (zx_X16_simple_8 hmu hgn1_1 hgb1)⟩, (zx_X16_simple_9 hmu)⟩).trans (heq6 u9 ⟨(zx_X16_simple_5 hmu), (zx_X16_simple_6 hmu hgb1)⟩))).trans hT_u9
          refine zr_get (idx := 237) (k := 11) (v := .ref (u9 + 7)) (by decide +kernel) (by decide +kernel) hb16 rfl ?_
          refine zp_seg (pc' := 59) (lv' := [(0, .ref m), (1, .ref u9), (2, .int sm), (3, .int (gu 10)), (4, .ref (m + 276 + 2 * (g 1).toNatClampNeg)), (5, .int y5_42)]) (st' := [.int (25 * y5_42), .ref (u9 + 7), .ref (m + 276 + 2 * (g 1).toNatClampNeg)]) [(54, .bipush 25), (56, .iload 5), (58, .imul)] (by decide +kernel) rfl ?_
          have k17 := zmulCl 25 y5_42 (n := 25) (by decide) (by omega) (by omega)
          generalize ev59 : (25 * y5_42 : Int32) = v59 at k17 ⊢
          have kv59 := zrng v59
          have hix8 : v59.toNatClampNeg = 25 * y5_42.toNatClampNeg := by
            have h9 := znat (x := v59) (by omega)
            omega
          have hz59 := zaOf_ln (fun i => zf (fu (v59.toNatClampNeg + i))) 25
          have hb18 : wL42 (u9 + 7) = some (.inr (0, 175, .inl fu)) := ((heqL42 (u9 + 7) ⟨(zx_X16_simple_16 hmu hgb1), (zx_X16_simple_15 hmu)⟩).trans ((heqL14 (u9 + 7) ⟨⟨(zx_X16_simple_11 hmu), (zx_X16_simple_13 hmu), (zx_X16_simple_14 hmu hgn1_1 hgb1)⟩, (zx_X16_simple_15 hmu)⟩).trans (heq6 (u9 + 7) ⟨(zx_X16_simple_11 hmu), (zx_X16_simple_12 hmu hgb1)⟩))).trans hA_u9_7
          refine zr_callS (idx := 775) (j := 301) (by decide +kernel) (by decide +kernel) (by decide) (show zMe 301 = some zq_X16_load_ from rfl) rfl rfl (Nat.le_of_ble_eq_true rfl) rfl rfl (Nat.le_of_ble_eq_true rfl) (Nat.le_of_ble_eq_true rfl) (c_X16_load_ (w := wL42) (m + 276 + 2 * (g 1).toNatClampNeg) (u9 + 7) v59 hU0o hb18 (by first | omega | decide | assumption | exact zr1_1 | exact zr1_0 | fail "num") (by first | omega | decide | assumption | exact zr1_1 | exact zr1_0 | fail "num") (by rw [hix8]; exact fun i hi => hfu _ (by omega)) (by first | omega | decide | assumption | exact zr1_1 | exact zr1_0 | fail "num")) (by omega) (fun v59 w59 hp59 => ?_)
          obtain ⟨hsi59, heq59, hp59_0, rfl⟩ := hp59
          show zP _ _ _ _ [] _ _ _ _ _
          refine zp_seg (pc' := 67) (lv' := [(0, .ref m), (1, .ref u9), (2, .int sm), (3, .int (gu 10)), (4, .ref (m + 276 + 2 * (g 1).toNatClampNeg)), (5, .int y5_42)]) (st' := [.int 1, .ref (m + 276 + 2 * (g 1).toNatClampNeg), .ref (m + 276 + 2 * (g 1).toNatClampNeg)]) [(62, .aload 4), (64, .aload 4), (66, .iconst 1)] (by decide +kernel) rfl ?_
          refine zr_callS (idx := 116) (j := 273) (by decide +kernel) (by decide +kernel) (by decide) (show zMe 273 = some zq_X16_shift from rfl) rfl rfl (Nat.le_of_ble_eq_true rfl) rfl rfl (Nat.le_of_ble_eq_true rfl) (Nat.le_of_ble_eq_true rfl) (c_X16_shiftS (w := w59) (m + 276 + 2 * (g 1).toNatClampNeg)  1 hp59_0 (by first | omega | decide | assumption | exact zr1_1 | exact zr1_0 | fail "num") (by first | omega | decide | assumption | exact zr1_1 | exact zr1_0 | fail "num")) (by omega) (fun v67 w67 hp67 => ?_)
          obtain ⟨P9_67, hsi67, heq67, hp67_0, hp67_1, rfl⟩ := hp67
          show zP _ _ _ _ [] _ _ _ _ _
          have hpl9 : zln P9_67 = zln (zaOf (fun i => zf (fu (25 * y5_42.toNatClampNeg + i))) 25) := by rw [hp67_1, hix8]
          have hpb9 := zaOf_ln (fun i => zf (fu (25 * y5_42.toNatClampNeg + i))) 25
          have hUa9 := (hPg (y5_42.toNatClampNeg + 1) (by omega)).1.ag (w' := w67) (fun x g1 g2 => ((heq67 x (by omega)).trans (heq59 x (by omega))))
          have hUb9 := (hPg y5_42.toNatClampNeg (by omega)).1.ag (w' := w67) (fun x g1 g2 => ((heq67 x (by omega)).trans (heq59 x (by omega))))
          have hUal := (hPg (y5_42.toNatClampNeg + 1) (by omega)).2
          have hUbl := (hPg y5_42.toNatClampNeg (by omega)).2
          refine zp_seg (pc' := 71) (lv' := [(0, .ref m), (1, .ref u9), (2, .int sm), (3, .int (gu 10)), (4, .ref (m + 276 + 2 * (g 1).toNatClampNeg)), (5, .int y5_42)]) (st' := [.int sm]) [(70, .iload_n 2)] (by decide +kernel) rfl ?_
          refine zp_if (i := .ifCond .eq 50) (c := sm = 0) (t := 121) (e := 74) (lv' := [(0, .ref m), (1, .ref u9), (2, .int sm), (3, .int (gu 10)), (4, .ref (m + 276 + 2 * (g 1).toNatClampNeg)), (5, .int y5_42)]) (st' := []) (by decide +kernel) rfl (fun cc71 => ?_) (fun cc71 => ?_)
          ·
            have f20 := zeqI cc71
            rw [show (0 : Int32).toInt = 0 from by decide] at f20
            refine zp_seg (pc' := 122) (lv' := [(0, .ref m), (1, .ref u9), (2, .int sm), (3, .int (gu 10)), (4, .ref (m + 276 + 2 * (g 1).toNatClampNeg)), (5, .int y5_42)]) (st' := [.ref m]) [(121, .aload_n 0)] (by decide +kernel) rfl ?_
            have hb21 : w67 m = some (.inl (15, zMo m (zs g 1 xT) r)) := ((heq67 m (zx_X16_simple_17 hgb1)).trans (heq59 m (zx_X16_simple_17 hgb1))).trans hmL42
            refine zr_get (idx := 517) (k := 55) (v := .ref (m + 193)) (by decide +kernel) (by decide +kernel) hb21 rfl ?_
            refine zp_seg (pc' := 127) (lv' := [(0, .ref m), (1, .ref u9), (2, .int sm), (3, .int (gu 10)), (4, .ref (m + 276 + 2 * (g 1).toNatClampNeg)), (5, .int y5_42)]) (st' := [.int y5_42, .ref (m + 193)]) [(125, .iload 5)] (by decide +kernel) rfl ?_
            have hb22 : w67 (m + 193) = some (.inr (4, 8, .inr fw)) := ((heq67 (m + 193) (zx_X16_simple_18 hgb1)).trans ((heq59 (m + 193) (zx_X16_simple_18 hgb1)).trans (heqL42 (m + 193) ⟨(zx_X16_simple_3 hgb1), (zx_X16_simple_4)⟩))).trans hV9
            refine zr_aald (v := .ref (m + 276 + 2 * (g 1 + 1).toNatClampNeg + 2 * y5_42.toNatClampNeg)) (by decide +kernel) hb22 (by decide) (zin (by first | omega | decide) (by first | omega | decide)) (by rw [hfw _ (by omega)]; rfl) ?_
            refine zp_seg (pc' := 130) (lv' := [(0, .ref m), (1, .ref u9), (2, .int sm), (3, .int (gu 10)), (4, .ref (m + 276 + 2 * (g 1).toNatClampNeg)), (5, .int y5_42)]) (st' := [.ref (m + 276 + 2 * (g 1).toNatClampNeg), .ref (m + 276 + 2 * (g 1 + 1).toNatClampNeg + 2 * y5_42.toNatClampNeg)]) [(128, .aload 4)] (by decide +kernel) rfl ?_
            have ho130_to := zU.o hUb9
            refine zr_callS (idx := 62) (j := 264) (by decide +kernel) (by decide +kernel) (by decide) (show zMe 264 = some zq_X16_set from rfl) rfl rfl (Nat.le_of_ble_eq_true rfl) rfl rfl (Nat.le_of_ble_eq_true rfl) (Nat.le_of_ble_eq_true rfl) (c_X16_set (w := w67) (m + 276 + 2 * (g 1 + 1).toNatClampNeg + 2 * y5_42.toNatClampNeg) (m + 276 + 2 * (g 1).toNatClampNeg) ho130_to hp67_0 (by first | omega | decide | assumption | exact zr1_1 | exact zr1_0 | fail "num") (by first | omega | decide | assumption | exact zr1_1 | exact zr1_0 | fail "num")) (by omega) (fun v130 w130 hp130 => ?_)
            obtain ⟨hsi130, heq130, hp130_0, rfl⟩ := hp130
            show zP _ _ _ _ [] _ _ _ _ _
            obtain ⟨Pn, hPn⟩ : ∃ Pn : Nat → zA1, (∀ t, t ≤ (gu 10).toNatClampNeg + 1 → zU w130 (m + 276 + 2 * (g 1 + 1).toNatClampNeg + 2 * t) 1000 (Pn t) ∧ zln (Pn t) ≤ 25) ∧ (∀ t, y5_42.toNatClampNeg + 1 < t → Pn t = zaZ) ∧ (sm = 1 → y5_42.toNatClampNeg = (gu 10).toNatClampNeg → zln (Pn ((gu 10).toNatClampNeg + 1)) = zln (zaOf (fun i => zf (fu (25 * (gu 10).toNatClampNeg + i))) 25)) ∧ (sm = 0 → y5_42.toNatClampNeg = (gu 10).toNatClampNeg → zln (Pn (gu 10).toNatClampNeg) = zln (zaOf (fun i => zf (fu (25 * (gu 10).toNatClampNeg + i))) 25)) := by
              refine ⟨fun t => if t = y5_42.toNatClampNeg then P9_67 else Pg t, fun t ht => ?_, fun t ht => ?_, fun e => absurd (e.symm.trans cc71) (by decide), fun _ e => ?_⟩
              · by_cases e2 : t = y5_42.toNatClampNeg
                · simp only [if_pos e2]
                  rw [e2]
                  exact ⟨hp130_0, by omega⟩
                · simp only [if_neg e2]
                  exact ⟨(hPg t ht).1.ag (fun x g1 g2 => ((heq130 x (by omega)).trans ((heq67 x (by omega)).trans (heq59 x (by omega))))), (hPg t ht).2⟩
              · simp only [if_neg (show ¬ t = y5_42.toNatClampNeg by omega)]
                exact hPz t (by omega)
              · simp only [if_pos (show (gu 10).toNatClampNeg = y5_42.toNatClampNeg by omega)]
                rw [hpl9, e]
            refine zp_seg (pc' := 136) (lv' := [(5, .int (y5_42 + 1)), (0, .ref m), (1, .ref u9), (2, .int sm), (3, .int (gu 10)), (4, .ref (m + 276 + 2 * (g 1).toNatClampNeg))]) (st' := []) [(133, .iinc 5 1)] (by decide +kernel) rfl ?_
            have k23 := zaddC y5_42 1 (n := 1) (by decide) (by omega) (by omega)
            generalize ev136 : (y5_42 + 1 : Int32) = v136 at k23 ⊢
            have kv136 := zrng v136
            refine zp_seg (pc' := 42) (lv' := [(5, .int v136), (0, .ref m), (1, .ref u9), (2, .int sm), (3, .int (gu 10)), (4, .ref (m + 276 + 2 * (g 1).toNatClampNeg))]) (st' := []) [(136, .goto (-94))] (by decide +kernel) rfl ?_
            have hz24 : (v136.toNatClampNeg : Int) = v136.toInt := znat (by first | omega | decide)
            have hb25 := hU0o.si ((hsi59.tr hsi67).tr hsi130)
            have hb26 : w130 m = some (.inl (15, zMo m (zs g 1 xT) r)) := (heq130 m (by omega)).trans hb21
            exact (ih42 w130 v136 (Pn) (((hsiL42.tr hsi59).tr hsi67).tr hsi130) (fun x hx => ((heq130 x (by omega)).trans ((heq67 x (zx_X16_simple_0 hx.1 hgb1)).trans ((heq59 x (zx_X16_simple_0 hx.1 hgb1)).trans (heqL42 x ⟨hx.1, hx.2⟩))))) (by first | assumption | omega | decide) (by first | assumption | omega | decide) hb25 hb26 (by
                  exact hPn.1) (by
                  exact fun t ht => hPn.2.1 t (by omega)) (by
                  exact fun e h9 => hPn.2.2.1 e (by omega)) (by
                  exact fun e h9 => hPn.2.2.2 e (by omega)) (by omega)).more (zfa1 rfl (zfa1 rfl (zfa1 rfl (zfa1 rfl (zfa1 rfl (zfa1 rfl (zfa0)))))))
          ·
            have f28 := zneI cc71
            rw [show (0 : Int32).toInt = 0 from by decide] at f28
            refine zp_seg (pc' := 75) (lv' := [(0, .ref m), (1, .ref u9), (2, .int sm), (3, .int (gu 10)), (4, .ref (m + 276 + 2 * (g 1).toNatClampNeg)), (5, .int y5_42)]) (st' := [.ref m]) [(74, .aload_n 0)] (by decide +kernel) rfl ?_
            have hb29 : w67 m = some (.inl (15, zMo m (zs g 1 xT) r)) := ((heq67 m (zx_X16_simple_17 hgb1)).trans (heq59 m (zx_X16_simple_17 hgb1))).trans hmL42
            refine zr_get (idx := 517) (k := 55) (v := .ref (m + 193)) (by decide +kernel) (by decide +kernel) hb29 rfl ?_
            refine zp_seg (pc' := 82) (lv' := [(0, .ref m), (1, .ref u9), (2, .int sm), (3, .int (gu 10)), (4, .ref (m + 276 + 2 * (g 1).toNatClampNeg)), (5, .int y5_42)]) (st' := [.int (y5_42 + 1), .ref (m + 193)]) [(78, .iload 5), (80, .iconst 1), (81, .iadd)] (by decide +kernel) rfl ?_
            have k30 := zaddC y5_42 1 (n := 1) (by decide) (by omega) (by omega)
            generalize ev82 : (y5_42 + 1 : Int32) = v82 at k30 ⊢
            have kv82 := zrng v82
            have hz31 : (v82.toNatClampNeg : Int) = v82.toInt := znat (by first | omega | decide)
            have hix9 : v82.toNatClampNeg = y5_42.toNatClampNeg + 1 := by omega
            have hb32 : w67 (m + 193) = some (.inr (4, 8, .inr fw)) := ((heq67 (m + 193) (zx_X16_simple_18 hgb1)).trans ((heq59 (m + 193) (zx_X16_simple_18 hgb1)).trans (heqL42 (m + 193) ⟨(zx_X16_simple_3 hgb1), (zx_X16_simple_4)⟩))).trans hV9
            refine zr_aald (v := .ref (m + 276 + 2 * (g 1 + 1).toNatClampNeg + 2 * (y5_42.toNatClampNeg + 1))) (by decide +kernel) hb32 (by decide) (zin (by first | omega | decide) (by first | omega | decide)) (by rw [hix9, hfw _ (by omega)]; rfl) ?_
            refine zp_seg (pc' := 84) (lv' := [(0, .ref m), (1, .ref u9), (2, .int sm), (3, .int (gu 10)), (4, .ref (m + 276 + 2 * (g 1).toNatClampNeg)), (5, .int y5_42)]) (st' := [.ref m, .ref (m + 276 + 2 * (g 1 + 1).toNatClampNeg + 2 * (y5_42.toNatClampNeg + 1))]) [(83, .aload_n 0)] (by decide +kernel) rfl ?_
            refine zr_get (idx := 517) (k := 55) (v := .ref (m + 193)) (by decide +kernel) (by decide +kernel) hb29 rfl ?_
            refine zp_seg (pc' := 91) (lv' := [(0, .ref m), (1, .ref u9), (2, .int sm), (3, .int (gu 10)), (4, .ref (m + 276 + 2 * (g 1).toNatClampNeg)), (5, .int y5_42)]) (st' := [.int (y5_42 + 1), .ref (m + 193), .ref (m + 276 + 2 * (g 1 + 1).toNatClampNeg + 2 * (y5_42.toNatClampNeg + 1))]) [(87, .iload 5), (89, .iconst 1), (90, .iadd)] (by decide +kernel) rfl ?_
            have k33 := zaddC y5_42 1 (n := 1) (by decide) (by omega) (by omega)
            generalize ev91 : (y5_42 + 1 : Int32) = v91 at k33 ⊢
            have kv91 := zrng v91
            have hz34 : (v91.toNatClampNeg : Int) = v91.toInt := znat (by first | omega | decide)
            have hix9 : v91.toNatClampNeg = y5_42.toNatClampNeg + 1 := by omega
            refine zr_aald (v := .ref (m + 276 + 2 * (g 1 + 1).toNatClampNeg + 2 * (y5_42.toNatClampNeg + 1))) (by decide +kernel) hb32 (by decide) (zin (by first | omega | decide) (by first | omega | decide)) (by rw [hix9, hfw _ (by omega)]; rfl) ?_
            refine zp_seg (pc' := 95) (lv' := [(0, .ref m), (1, .ref u9), (2, .int sm), (3, .int (gu 10)), (4, .ref (m + 276 + 2 * (g 1).toNatClampNeg)), (5, .int y5_42)]) (st' := [.int 0, .ref (m + 276 + 2 * (g 1).toNatClampNeg), .ref (m + 276 + 2 * (g 1 + 1).toNatClampNeg + 2 * (y5_42.toNatClampNeg + 1)), .ref (m + 276 + 2 * (g 1 + 1).toNatClampNeg + 2 * (y5_42.toNatClampNeg + 1))]) [(92, .aload 4), (94, .iconst 0)] (by decide +kernel) rfl ?_
            have ho95_to := zU.o hUa9
            refine zr_callS (idx := 101) (j := 265) (by decide +kernel) (by decide +kernel) (by decide) (show zMe 265 = some zq_X16_plus from rfl) rfl rfl (Nat.le_of_ble_eq_true rfl) rfl rfl (Nat.le_of_ble_eq_true rfl) (Nat.le_of_ble_eq_true rfl) (c_X16_plusA (w := w67) (m + 276 + 2 * (g 1 + 1).toNatClampNeg + 2 * (y5_42.toNatClampNeg + 1)) (m + 276 + 2 * (g 1 + 1).toNatClampNeg + 2 * (y5_42.toNatClampNeg + 1)) (m + 276 + 2 * (g 1).toNatClampNeg)  ho95_to hUa9 hp67_0 (by first | omega | decide | assumption | exact zr1_1 | exact zr1_0 | fail "num") (by first | omega | decide | assumption | exact zr1_1 | exact zr1_0 | fail "num")) (by omega) (fun v95 w95 hp95 => ?_)
            obtain ⟨hsi95, heq95, hp95_0, rfl⟩ := hp95
            show zP _ _ _ _ [] _ _ _ _ _
            refine zp_seg (pc' := 99) (lv' := [(0, .ref m), (1, .ref u9), (2, .int sm), (3, .int (gu 10)), (4, .ref (m + 276 + 2 * (g 1).toNatClampNeg)), (5, .int y5_42)]) (st' := [.ref m]) [(98, .aload_n 0)] (by decide +kernel) rfl ?_
            have hb35 : w95 m = some (.inl (15, zMo m (zs g 1 xT) r)) := (heq95 m (by omega)).trans hb29
            refine zr_get (idx := 517) (k := 55) (v := .ref (m + 193)) (by decide +kernel) (by decide +kernel) hb35 rfl ?_
            refine zp_seg (pc' := 104) (lv' := [(0, .ref m), (1, .ref u9), (2, .int sm), (3, .int (gu 10)), (4, .ref (m + 276 + 2 * (g 1).toNatClampNeg)), (5, .int y5_42)]) (st' := [.int y5_42, .ref (m + 193)]) [(102, .iload 5)] (by decide +kernel) rfl ?_
            have hb36 : w95 (m + 193) = some (.inr (4, 8, .inr fw)) := (heq95 (m + 193) (by omega)).trans hb32
            refine zr_aald (v := .ref (m + 276 + 2 * (g 1 + 1).toNatClampNeg + 2 * y5_42.toNatClampNeg)) (by decide +kernel) hb36 (by decide) (zin (by first | omega | decide) (by first | omega | decide)) (by rw [hfw _ (by omega)]; rfl) ?_
            refine zp_seg (pc' := 106) (lv' := [(0, .ref m), (1, .ref u9), (2, .int sm), (3, .int (gu 10)), (4, .ref (m + 276 + 2 * (g 1).toNatClampNeg)), (5, .int y5_42)]) (st' := [.ref m, .ref (m + 276 + 2 * (g 1 + 1).toNatClampNeg + 2 * y5_42.toNatClampNeg)]) [(105, .aload_n 0)] (by decide +kernel) rfl ?_
            refine zr_get (idx := 517) (k := 55) (v := .ref (m + 193)) (by decide +kernel) (by decide +kernel) hb35 rfl ?_
            refine zp_seg (pc' := 111) (lv' := [(0, .ref m), (1, .ref u9), (2, .int sm), (3, .int (gu 10)), (4, .ref (m + 276 + 2 * (g 1).toNatClampNeg)), (5, .int y5_42)]) (st' := [.int y5_42, .ref (m + 193), .ref (m + 276 + 2 * (g 1 + 1).toNatClampNeg + 2 * y5_42.toNatClampNeg)]) [(109, .iload 5)] (by decide +kernel) rfl ?_
            refine zr_aald (v := .ref (m + 276 + 2 * (g 1 + 1).toNatClampNeg + 2 * y5_42.toNatClampNeg)) (by decide +kernel) hb36 (by decide) (zin (by first | omega | decide) (by first | omega | decide)) (by rw [hfw _ (by omega)]; rfl) ?_
            refine zp_seg (pc' := 115) (lv' := [(0, .ref m), (1, .ref u9), (2, .int sm), (3, .int (gu 10)), (4, .ref (m + 276 + 2 * (g 1).toNatClampNeg)), (5, .int y5_42)]) (st' := [.int 1, .ref (m + 276 + 2 * (g 1).toNatClampNeg), .ref (m + 276 + 2 * (g 1 + 1).toNatClampNeg + 2 * y5_42.toNatClampNeg), .ref (m + 276 + 2 * (g 1 + 1).toNatClampNeg + 2 * y5_42.toNatClampNeg)]) [(112, .aload 4), (114, .iconst 1)] (by decide +kernel) rfl ?_
            have hb37 : zU w95 (m + 276 + 2 * (g 1 + 1).toNatClampNeg + 2 * y5_42.toNatClampNeg) 1000 (Pg y5_42.toNatClampNeg) := hUb9.ag (fun x hx1 hx2 => (heq95 x (by omega)))
            have ho115_to := zU.o hb37
            have hb38 : zU w95 (m + 276 + 2 * (g 1).toNatClampNeg) 1000 P9_67 := hp67_0.ag (fun x hx1 hx2 => (heq95 x (by omega)))
            refine zr_callS (idx := 101) (j := 265) (by decide +kernel) (by decide +kernel) (by decide) (show zMe 265 = some zq_X16_plus from rfl) rfl rfl (Nat.le_of_ble_eq_true rfl) rfl rfl (Nat.le_of_ble_eq_true rfl) (Nat.le_of_ble_eq_true rfl) (c_X16_plusS (w := w95) (m + 276 + 2 * (g 1 + 1).toNatClampNeg + 2 * y5_42.toNatClampNeg) (m + 276 + 2 * (g 1 + 1).toNatClampNeg + 2 * y5_42.toNatClampNeg) (m + 276 + 2 * (g 1).toNatClampNeg)  ho115_to hb37 hb38 (by first | omega | decide | assumption | exact zr1_1 | exact zr1_0 | fail "num") (by first | omega | decide | assumption | exact zr1_1 | exact zr1_0 | fail "num")) (by omega) (fun v115 w115 hp115 => ?_)
            obtain ⟨hsi115, heq115, hp115_0, rfl⟩ := hp115
            show zP _ _ _ _ [] _ _ _ _ _
            refine zp_seg (pc' := 133) (lv' := [(0, .ref m), (1, .ref u9), (2, .int sm), (3, .int (gu 10)), (4, .ref (m + 276 + 2 * (g 1).toNatClampNeg)), (5, .int y5_42)]) (st' := []) [(118, .goto 15)] (by decide +kernel) rfl ?_
            have hb39 : zU w115 (m + 276 + 2 * (g 1 + 1).toNatClampNeg + 2 * (y5_42.toNatClampNeg + 1)) 1000 (zaA (Pg (y5_42.toNatClampNeg + 1)) P9_67) := hp95_0.ag (fun x hx1 hx2 => (heq115 x (by omega)))
            obtain ⟨Pn, hPn⟩ : ∃ Pn : Nat → zA1, (∀ t, t ≤ (gu 10).toNatClampNeg + 1 → zU w115 (m + 276 + 2 * (g 1 + 1).toNatClampNeg + 2 * t) 1000 (Pn t) ∧ zln (Pn t) ≤ 25) ∧ (∀ t, y5_42.toNatClampNeg + 1 < t → Pn t = zaZ) ∧ (sm = 1 → y5_42.toNatClampNeg = (gu 10).toNatClampNeg → zln (Pn ((gu 10).toNatClampNeg + 1)) = zln (zaOf (fun i => zf (fu (25 * (gu 10).toNatClampNeg + i))) 25)) ∧ (sm = 0 → y5_42.toNatClampNeg = (gu 10).toNatClampNeg → zln (Pn (gu 10).toNatClampNeg) = zln (zaOf (fun i => zf (fu (25 * (gu 10).toNatClampNeg + i))) 25)) := by
              refine ⟨fun t => if t = y5_42.toNatClampNeg + 1 then zaA (Pg (y5_42.toNatClampNeg + 1)) P9_67 else if t = y5_42.toNatClampNeg then zaS (Pg y5_42.toNatClampNeg) P9_67 else Pg t, fun t ht => ?_, fun t ht => ?_, fun _ e => ?_, fun e => absurd e cc71⟩
              · by_cases e : t = y5_42.toNatClampNeg + 1
                · simp only [if_pos e]
                  rw [e]
                  have z9 := zln_A (Pg (y5_42.toNatClampNeg + 1)) P9_67
                  exact ⟨hb39, by omega⟩
                · by_cases e2 : t = y5_42.toNatClampNeg
                  · simp only [if_neg e, if_pos e2]
                    rw [e2]
                    have z9 := zln_S (Pg y5_42.toNatClampNeg) P9_67
                    exact ⟨hp115_0, by omega⟩
                  · simp only [if_neg e, if_neg e2]
                    exact ⟨(hPg t ht).1.ag (fun x g1 g2 => ((heq115 x (by omega)).trans ((heq95 x (by omega)).trans ((heq67 x (by omega)).trans (heq59 x (by omega)))))), (hPg t ht).2⟩
              · simp only [if_neg (show ¬ t = y5_42.toNatClampNeg + 1 by omega), if_neg (show ¬ t = y5_42.toNatClampNeg by omega)]
                exact hPz t (by omega)
              · simp only [if_pos (show (gu 10).toNatClampNeg + 1 = y5_42.toNatClampNeg + 1 by omega)]
                rw [hPz (y5_42.toNatClampNeg + 1) (by omega), zaA_Zl, hpl9, e]
            refine zp_seg (pc' := 136) (lv' := [(5, .int (y5_42 + 1)), (0, .ref m), (1, .ref u9), (2, .int sm), (3, .int (gu 10)), (4, .ref (m + 276 + 2 * (g 1).toNatClampNeg))]) (st' := []) [(133, .iinc 5 1)] (by decide +kernel) rfl ?_
            have k40 := zaddC y5_42 1 (n := 1) (by decide) (by omega) (by omega)
            generalize ev136 : (y5_42 + 1 : Int32) = v136 at k40 ⊢
            have kv136 := zrng v136
            refine zp_seg (pc' := 42) (lv' := [(5, .int v136), (0, .ref m), (1, .ref u9), (2, .int sm), (3, .int (gu 10)), (4, .ref (m + 276 + 2 * (g 1).toNatClampNeg))]) (st' := []) [(136, .goto (-94))] (by decide +kernel) rfl ?_
            have hz41 : (v136.toNatClampNeg : Int) = v136.toInt := znat (by first | omega | decide)
            have hb42 := hU0o.si (((hsi59.tr hsi67).tr hsi95).tr hsi115)
            have hb43 : w115 m = some (.inl (15, zMo m (zs g 1 xT) r)) := (heq115 m (by omega)).trans hb35
            exact (ih42 w115 v136 (Pn) ((((hsiL42.tr hsi59).tr hsi67).tr hsi95).tr hsi115) (fun x hx => ((heq115 x (by omega)).trans ((heq95 x (by omega)).trans ((heq67 x (zx_X16_simple_0 hx.1 hgb1)).trans ((heq59 x (zx_X16_simple_0 hx.1 hgb1)).trans (heqL42 x ⟨hx.1, hx.2⟩)))))) (by first | assumption | omega | decide) (by first | assumption | omega | decide) hb42 hb43 (by
                  exact hPn.1) (by
                  exact fun t ht => hPn.2.1 t (by omega)) (by
                  exact fun e h9 => hPn.2.2.1 e (by omega)) (by
                  exact fun e h9 => hPn.2.2.2 e (by omega)) (by omega)).more (zfa1 rfl (zfa1 rfl (zfa1 rfl (zfa1 rfl (zfa1 rfl (zfa1 rfl (zfa0)))))))
      have hl44 : (0 : Int32).toInt = 0 := by decide
      have hz45 : ((0 : Int32).toNatClampNeg : Int) = 0 := by decide
      have hb46 : zU wL14 (m + 276 + 2 * (g 1).toNatClampNeg) 1000 zaZ := hp6_1.ag (fun x hx1 hx2 => (heqL14 x ⟨⟨(zx_X16_simple_19 hx1 hx2 hgb1), (zx_X16_simple_20 hx1 hx2 hgb1), (zx_X16_simple_21 hx1 hx2 hgn1_1 hgb1)⟩, (zx_X16_simple_22 hx1 hx2 hgb1)⟩))
      exact (hL42 _ wL14 0 (fun _ => zaZ) zSI.rf (fun _ _ => rfl) (by first | assumption | omega | decide) (by first | assumption | omega | decide) (zU.o hb46) hxM (by
            exact fun t ht => ⟨(hPz t (by omega)).ag (fun x g1 g2 => rfl), by rw [zln_Z]; omega⟩) (by
            exact fun _ _ => rfl) (by
            exact fun _ h9 => absurd h9 (by omega)) (by
            exact fun _ h9 => absurd h9 (by omega)) (Nat.lt_succ_self _)).more (zfa1 rfl (zfa1 rfl (zfa1 rfl (zfa1 rfl (zfa1 rfl (zfa1 rfl (zfa0)))))))
    ·
      have f47 := znltI cc19
      refine zp_seg (pc' := 23) (lv' := [(0, .ref m), (1, .ref u9), (2, .int sm), (3, .int (gu 10)), (4, .ref (m + 276 + 2 * (g 1).toNatClampNeg)), (5, .int y5_14)]) (st' := [.ref m]) [(22, .aload_n 0)] (by decide +kernel) rfl ?_
      refine zr_get (idx := 517) (k := 55) (v := .ref (m + 193)) (by decide +kernel) (by decide +kernel) hxM rfl ?_
      refine zp_seg (pc' := 29) (lv' := [(0, .ref m), (1, .ref u9), (2, .int sm), (3, .int (gu 10)), (4, .ref (m + 276 + 2 * (g 1).toNatClampNeg)), (5, .int y5_14)]) (st' := [.ref m, .int y5_14, .ref (m + 193)]) [(26, .iload 5), (28, .aload_n 0)] (by decide +kernel) rfl ?_
      have k48 := zrng xT
      have hz49 : (xT.toNatClampNeg : Int) = xT.toInt := znat (by first | omega | decide)
      have hb50 := hR_m.si (hsi6.tr hsiL14)
      refine zr_callV (idx := 74) (j := 263) (by decide +kernel) (by decide +kernel) (show zMe 263 = some zq_X16_newU from rfl) rfl rfl (Nat.le_of_ble_eq_true rfl) rfl rfl hxM (Nat.le_of_ble_eq_true rfl) (Nat.le_of_ble_eq_true rfl) (c_X16_newU (w := wL14) (g1 := xT) m hxM hb50 (by first | omega | decide | assumption | exact zr1_1 | exact zr1_0 | fail "num") rfl) (by omega) (fun v29 w29 hp29 => ?_)
      obtain ⟨hsi29, heq29, hp29_0, hp29_1, rfl⟩ := hp29
      have hM29 : w29 m = some (.inl (15, zMo m (zs g 1 (xT + 1)) r)) := hp29_0
      show zP _ _ _ _ [.ref (m + 276 + 2 * xT.toNatClampNeg), .int y5_14, .ref (m + 193)] _ _ _ _ _
      have hb51 : w29 (m + 193) = some (.inr (4, 8, .inr fw)) := (heq29 (m + 193) (by omega)).trans hV9
      obtain ⟨n52, f53, hu54, hu55, hu56, hu57, hu58⟩ := id hp29_1
      have kn52 := zrng n52
      refine zr_aast (by decide +kernel) hb51 hu54 (by decide) (zin (by first | omega | decide) (by first | omega | decide)) ?_
      show zP (d + 1) zq_X16_simple 33 [(0, .ref m), (1, .ref u9), (2, .int sm), (3, .int (gu 10)), (4, .ref (m + 276 + 2 * (g 1).toNatClampNeg)), (5, .int y5_14)] [] (zup w29 (m + 193) (.inr (4, 8, .inr (va_up fw (y5_14.toNatClampNeg) (some (m + 276 + 2 * xT.toNatClampNeg)))))) sz 0 0 Post
      obtain ⟨w32, ew32⟩ : ∃ wz9, wz9 = zup w29 (m + 193) (.inr (4, 8, .inr (va_up fw (y5_14.toNatClampNeg) (some (m + 276 + 2 * xT.toNatClampNeg))))) := ⟨_, rfl⟩
      have hsi32 : zSI w29 w32 := by rw [ew32]; exact zSI.refs _ hb51 (by decide)
      have heq32 : ∀ x, x ≠ m + 193 → w32 x = w29 x := fun x hx => by rw [ew32]; exact zup_n hx
      have hc32 : w32 (m + 193) = some (.inr (4, 8, .inr (va_up fw (y5_14.toNatClampNeg) (some (m + 276 + 2 * xT.toNatClampNeg))))) := by rw [ew32]; exact zup_s
      rw [← ew32]
      clear ew32
      refine zp_seg (pc' := 36) (lv' := [(5, .int (y5_14 + 1)), (0, .ref m), (1, .ref u9), (2, .int sm), (3, .int (gu 10)), (4, .ref (m + 276 + 2 * (g 1).toNatClampNeg))]) (st' := []) [(33, .iinc 5 1)] (by decide +kernel) rfl ?_
      have k59 := zaddC y5_14 1 (n := 1) (by decide) (by omega) (by omega)
      generalize ev36 : (y5_14 + 1 : Int32) = v36 at k59 ⊢
      have kv36 := zrng v36
      refine zp_seg (pc' := 14) (lv' := [(5, .int v36), (0, .ref m), (1, .ref u9), (2, .int sm), (3, .int (gu 10)), (4, .ref (m + 276 + 2 * (g 1).toNatClampNeg))]) (st' := []) [(36, .goto (-22))] (by decide +kernel) rfl ?_
      have hz60 : (v36.toNatClampNeg : Int) = v36.toInt := znat (by first | omega | decide)
      have hb61 : w32 m = some (.inl (15, zMo m (zs g 1 (xT + 1)) r)) := (heq32 m (zx_X16_simple_25)).trans hM29
      have hb62 : zU w32 (m + 276 + 2 * xT.toNatClampNeg) 1000 zaZ := hp29_1.ag (fun x hx1 hx2 => (heq32 x (by omega)))
      exact (ih14 w32 v36 (((xT + 1))) ((va_up fw (y5_14.toNatClampNeg) (some (m + 276 + 2 * xT.toNatClampNeg)))) ((hsiL14.tr hsi29).tr hsi32) (fun x hx => ((heq32 x (zx_X16_simple_24 hx.1.2.1)).trans ((heq29 x (by omega)).trans (heqL14 x ⟨⟨hx.1.1, hx.1.2.1, hx.1.2.2⟩, hx.2⟩)))) (by first | assumption | omega | decide) (by first | assumption | omega | decide) (by
            exact hb61) hc32 (by
            have z9 := zaddC xT 1 (n := 1) (by decide) (by omega) (by omega)
            omega) (by
            intro t ht
            have hzT := znat (x := xT) (by omega)
            by_cases e : t = y5_14.toNatClampNeg
            · rw [e, va_up_self, show m + 276 + 2 * xT.toNatClampNeg = m + 276 + 2 * (g 1 + 1).toNatClampNeg + 2 * y5_14.toNatClampNeg by omega]
            · rw [va_up_ne _ _ e]; exact hfw t (by omega)) (by
            intro t ht
            have hzT := znat (x := xT) (by omega)
            by_cases e : t = y5_14.toNatClampNeg
            · rw [e, ← show m + 276 + 2 * xT.toNatClampNeg = m + 276 + 2 * (g 1 + 1).toNatClampNeg + 2 * y5_14.toNatClampNeg by omega]; exact hb62
            · exact (hPz t (by omega)).ag (fun x g1 g2 => ((heq32 x (by omega)).trans (heq29 x (by omega))))) (by omega)).more (zfa1 rfl (zfa1 rfl (zfa1 rfl (zfa1 rfl (zfa1 rfl (zfa1 rfl (zfa0)))))))
  have hl63 : (0 : Int32).toInt = 0 := by decide
  have hz64 : ((0 : Int32).toNatClampNeg : Int) = 0 := by decide
  have hb65 := hR_m.si hsi6
  obtain ⟨f66, hb67⟩ := zR_va hb65 (j := 193) (t := 4) (n := 8) (by decide) rfl
  exact (hL14 _ w6 0 (((g 1 + 1))) (f66) zSI.rf (fun _ _ => rfl) (by first | assumption | omega | decide) (by first | assumption | omega | decide) (by
        exact hM6) hb67 (by
        omega) (by
        exact fun t ht => absurd ht (by omega)) (by
        exact fun t ht => absurd ht (by omega)) (Nat.lt_succ_self _)).more (zfa1 rfl (zfa1 rfl (zfa1 rfl (zfa1 rfl (zfa1 rfl (zfa1 rfl (zfa0)))))))
