theorem zx_X16_makeRow_0 {G1_0 m : Nat} (h0 : G1_0 + 6 ≤ 160) : (m + 276 + 2 * G1_0 + 1) ≠ m + 276 + 2 * G1_0 := by omega
theorem zx_X16_makeRow_1 {G1_0 m : Nat} (h0 : G1_0 + 6 ≤ 160) : m ≠ m + 276 + 2 * G1_0 := by omega
theorem zx_X16_makeRow_2 {m : Nat}  : (m + 83) < m ∨ m + 1 ≤ (m + 83) := by omega
theorem zx_X16_makeRow_3 {G1_0 m : Nat} (h0 : G1_0 + 6 ≤ 160) : (m + 83) < m + 276 + 2 * G1_0 ∨ m + 276 + 2 * G1_0 + 2 ≤ (m + 83) := by omega
theorem zx_X16_makeRow_4 {G1_0 m : Nat} (h0 : G1_0 + 6 ≤ 160) : (m + 83) ≠ m + 276 + 2 * G1_0 := by omega
theorem zx_X16_makeRow_5 {G1_0 G1_1 m : Nat} (h0 : G1_1 = G1_0 + 1) (h1 : G1_0 + 6 ≤ 160) : (m + 83) < m + 276 + 2 * G1_1 ∨ m + 276 + 2 * G1_1 + (320 - 2 * G1_1) ≤ (m + 83) := by omega
theorem zx_X16_makeRow_6 {m : Nat}  : (m + 83) ≠ m := by omega
theorem zx_X16_makeRow_7 {m : Nat}  : m < m + 83 ∨ m + 83 + 1 ≤ m := by omega
theorem zx_X16_makeRow_8 {m : Nat}  : m ≠ m + 83 := by omega
theorem zx_X16_makeRow_9 {G1_0 m x : Nat} (h0 : x < m + 276 + 2 * G1_0 ∨ m + 276 + 2 * G1_0 + (320 - 2 * G1_0) ≤ x) (h1 : G1_0 + 6 ≤ 160) : x < m + 276 + 2 * G1_0 ∨ m + 276 + 2 * G1_0 + 2 ≤ x := by omega
theorem zx_X16_makeRow_10 {G1_0 m x : Nat} (h0 : x < m + 276 + 2 * G1_0 ∨ m + 276 + 2 * G1_0 + (320 - 2 * G1_0) ≤ x) (h1 : G1_0 + 6 ≤ 160) : x ≠ m + 276 + 2 * G1_0 := by omega
theorem zx_X16_makeRow_11 {G1_0 G1_1 m x : Nat} (h0 : x < m + 276 + 2 * G1_0 ∨ m + 276 + 2 * G1_0 + (320 - 2 * G1_0) ≤ x) (h1 : G1_1 = G1_0 + 1) (h2 : G1_0 + 6 ≤ 160) : x < m + 276 + 2 * G1_1 ∨ m + 276 + 2 * G1_1 + (320 - 2 * G1_1) ≤ x := by omega
theorem zx_X16_makeRow_12 {m x : Nat} (h0 : x < m ∨ m + 1 ≤ x) : x ≠ m := by omega
theorem zx_X16_makeRow_13 {m x : Nat} (h0 : x < m + 83 ∨ m + 83 + 1 ≤ x) (h1 : x < m + 83 + 7 ∨ m + 83 + 7 + 1 ≤ x) : x ≠ m + 83 := by omega
theorem zx_X16_makeRow_14 {m : Nat}  : (m + 83) < m + 83 + 7 ∨ m + 83 + 7 + 1 ≤ (m + 83) := by omega
theorem zx_X16_makeRow_15 {G1_0 m x : Nat} (h0 : m + 276 + 2 * G1_0 ≤ x) (h1 : x < m + 276 + 2 * G1_0 + 2) (h2 : G1_0 + 6 ≤ 160) : x < m + 83 ∨ m + 83 + 1 ≤ x := by omega
theorem zx_X16_makeRow_16 {G1_0 m x : Nat} (h0 : m + 276 + 2 * G1_0 ≤ x) (h1 : x < m + 276 + 2 * G1_0 + 2) (h2 : G1_0 + 6 ≤ 160) : x ≠ m + 83 := by omega
theorem zx_X16_makeRow_17 {G1_0 m x : Nat} (h0 : m + 276 + 2 * G1_0 ≤ x) (h1 : x < m + 276 + 2 * G1_0 + 2) (h2 : G1_0 + 6 ≤ 160) : x < m + 83 + 7 ∨ m + 83 + 7 + 1 ≤ x := by omega
theorem zx_X16_makeRow_18 {G1_0 m x : Nat} (h0 : m + 276 + 2 * G1_0 ≤ x) (h1 : x < m + 276 + 2 * G1_0 + 2) (h2 : G1_0 + 6 ≤ 160) : x ≠ m := by omega
theorem zx_X16_makeRow_19 {a m : Nat} (h0 : m + 100 ≤ a ∧ a < m + 276) : a < m ∨ m + 1 ≤ a := by omega
theorem zx_X16_makeRow_20 {G1_0 a m : Nat} (h0 : m + 100 ≤ a ∧ a < m + 276) (h1 : G1_0 + 6 ≤ 160) : a < m + 276 + 2 * G1_0 ∨ m + 276 + 2 * G1_0 + 2 ≤ a := by omega
theorem zx_X16_makeRow_21 {G1_0 a m : Nat} (h0 : m + 100 ≤ a ∧ a < m + 276) (h1 : G1_0 + 6 ≤ 160) : a ≠ m + 276 + 2 * G1_0 := by omega
theorem zx_X16_makeRow_22 {G1_0 G1_1 a m : Nat} (h0 : m + 100 ≤ a ∧ a < m + 276) (h1 : G1_1 = G1_0 + 1) (h2 : G1_0 + 6 ≤ 160) : a < m + 276 + 2 * G1_1 ∨ m + 276 + 2 * G1_1 + (320 - 2 * G1_1) ≤ a := by omega
theorem zx_X16_makeRow_23 {a m : Nat} (h0 : m + 100 ≤ a ∧ a < m + 276) : a ≠ m := by omega
theorem zx_X16_makeRow_24 {a m : Nat} (h0 : m + 100 ≤ a ∧ a < m + 276) : a < m + 83 ∨ m + 83 + 1 ≤ a := by omega
theorem zx_X16_makeRow_25 {a m : Nat} (h0 : m + 100 ≤ a ∧ a < m + 276) : a ≠ m + 83 := by omega
theorem zx_X16_makeRow_26 {a m : Nat} (h0 : m + 100 ≤ a ∧ a < m + 276) : a < m + 83 + 7 ∨ m + 83 + 7 + 1 ≤ a := by omega
theorem zx_X16_makeRow_27 {m : Nat}  : m < m + 83 + 7 ∨ m + 83 + 7 + 1 ≤ m := by omega
theorem zx_X16_makeRow_28 {m x : Nat} (h0 : x < m + 83 + 7 ∨ m + 83 + 7 + 1 ≤ x) : x ≠ m + 83 + 7 := by omega
theorem zx_X16_makeRow_29 {m : Nat}  : m ≠ m + 83 + 7 := by omega
theorem zx_X16_makeRow_30 {m : Nat}  : (m + 83 + 7) < m ∨ m + 1 ≤ (m + 83 + 7) := by omega
theorem zx_X16_makeRow_31 {G1_0 m : Nat} (h0 : G1_0 + 6 ≤ 160) : (m + 83 + 7) < m + 276 + 2 * G1_0 ∨ m + 276 + 2 * G1_0 + 2 ≤ (m + 83 + 7) := by omega
theorem zx_X16_makeRow_32 {G1_0 m : Nat} (h0 : G1_0 + 6 ≤ 160) : (m + 83 + 7) ≠ m + 276 + 2 * G1_0 := by omega
theorem zx_X16_makeRow_33 {G1_0 G1_1 m : Nat} (h0 : G1_1 = G1_0 + 1) (h1 : G1_0 + 6 ≤ 160) : (m + 83 + 7) < m + 276 + 2 * G1_1 ∨ m + 276 + 2 * G1_1 + (320 - 2 * G1_1) ≤ (m + 83 + 7) := by omega
theorem zx_X16_makeRow_34 {m : Nat}  : (m + 83 + 7) ≠ m := by omega
theorem zx_X16_makeRow_35 {m : Nat}  : (m + 83 + 7) < m + 83 ∨ m + 83 + 1 ≤ (m + 83 + 7) := by omega
theorem zx_X16_makeRow_36 {m : Nat}  : (m + 83 + 7) ≠ m + 83 := by omega
theorem zx_X16_makeRow_37 {G1_0 m : Nat} (h0 : G1_0 + 6 ≤ 160) : m < m + 276 + 2 * G1_0 ∨ m + 276 + 2 * G1_0 + 2 ≤ m := by omega
theorem zx_X16_makeRow_38 {G1_0 G1_1 m : Nat} (h0 : G1_1 = G1_0 + 1) (h1 : G1_0 + 6 ≤ 160) : m < m + 276 + 2 * G1_1 ∨ m + 276 + 2 * G1_1 + (320 - 2 * G1_1) ≤ m := by omega
set_option maxHeartbeats 8000000 in
set_option maxRecDepth 100000 in
theorem c_X16_makeRow {w : zM} {g : Nat → Int32} {r : Nat → Value} {fa : Nat → Option Nat} {gt fr : Nat → Int32} {g1 : Int32} (m : Nat) (a : Nat) (o9 : Int32) (A0 : Nat) (P : Nat → zA1) (hm : w m = some (.inl (15, zMo m g r))) (hR_m : zR m w) (hV_a : w a = some (.inr (4, 8, .inr fa))) (hT_m_83 : w (m + 83) = some (.inl (13, zTo (m + 83) gt))) (hA_m_83_7 : w (m + 83 + 7) = some (.inr (0, 175, .inl fr))) (hut : 0 ≤ g1.toInt ∧ g1.toInt + 6 ≤ 160) (ho : 1 ≤ o9.toInt ∧ o9.toInt ≤ 6) (hfa : ∀ j, j ≤ o9.toNatClampNeg → fa j = some (A0 + 2 * j)) (hA0 : m + 276 ≤ A0 ∧ A0 + 2 * o9.toNatClampNeg + 2 ≤ m + 276 + 2 * g1.toNatClampNeg) (hP : ∀ j, j ≤ o9.toNatClampNeg → zU w (A0 + 2 * j) 1000 (P j)) (hP0 : 0 < zln (P o9.toNatClampNeg)) (ham : m + 100 ≤ a ∧ a < m + 276) (hfr : ∀ i, i < 175 → zr1 (fr i)) (hg1 : g 1 = g1) : zCon 5 zq_X16_makeRow [.ref m, .ref a, .int o9] w (fun v9 w9' => ∃ F9 : Nat → Int32, ∃ X9 : Int32, zSI w w9' ∧ (∀ x, (x < m ∨ m + 1 ≤ x) ∧ (x < A0 ∨ A0 + (2 * o9.toNatClampNeg + 2) ≤ x) ∧ (x < m + 83 ∨ m + 83 + 1 ≤ x) ∧ (x < m + 83 + 7 ∨ m + 83 + 7 + 1 ≤ x) ∧ (x < m + 276 + 2 * g1.toNatClampNeg ∨ m + 276 + 2 * g1.toNatClampNeg + (320 - 2 * g1.toNatClampNeg) ≤ x) → w9' x = w x) ∧ w9' m = some (.inl (15, zMo m (zs g 1 X9) r)) ∧ w9' (m + 83) = some (.inl (13, zTo (m + 83) (zs (zs (zs (zs (zs (zs gt 0 4) 3 1) 4 1) 5 0) 10 o9) 13 0))) ∧ w9' (m + 83 + 7) = some (.inr (0, 175, .inl F9)) ∧ (∀ i, i < 175 → zr1 (F9 i)) ∧ ∃ r9 : Int32, v9 = some (.int r9) ∧ (r9 = 0 ∨ r9 = 1) ∧ ((r9 = 1 → ∃ i, i < 25 ∧ F9 (25 * o9.toNatClampNeg + i) ≠ 0) ∧ ((∀ j, j ≤ o9.toNatClampNeg → zln (P j) ≤ 25) → r9 = 1))) := by
  subst hg1
  intro d sz hd
  obtain ⟨d, rfl⟩ : ∃ d9, d = d9 + 1 := ⟨d - 1, by omega⟩
  generalize hPost : (fun (r9' : Option (Option Value)) (w9' : zM) (z9 : Nat) => z9 = sz ∧ ∃ v9, r9' = some v9 ∧ (∃ F9 : Nat → Int32, ∃ X9 : Int32, zSI w w9' ∧ (∀ x, (x < m ∨ m + 1 ≤ x) ∧ (x < A0 ∨ A0 + (2 * o9.toNatClampNeg + 2) ≤ x) ∧ (x < m + 83 ∨ m + 83 + 1 ≤ x) ∧ (x < m + 83 + 7 ∨ m + 83 + 7 + 1 ≤ x) ∧ (x < m + 276 + 2 * (g 1).toNatClampNeg ∨ m + 276 + 2 * (g 1).toNatClampNeg + (320 - 2 * (g 1).toNatClampNeg) ≤ x) → w9' x = w x) ∧ w9' m = some (.inl (15, zMo m (zs g 1 X9) r)) ∧ w9' (m + 83) = some (.inl (13, zTo (m + 83) (zs (zs (zs (zs (zs (zs gt 0 4) 3 1) 4 1) 5 0) 10 o9) 13 0))) ∧ w9' (m + 83 + 7) = some (.inr (0, 175, .inl F9)) ∧ (∀ i, i < 175 → zr1 (F9 i)) ∧ ∃ r9 : Int32, v9 = some (.int r9) ∧ (r9 = 0 ∨ r9 = 1) ∧ ((r9 = 1 → ∃ i, i < 25 ∧ F9 (25 * o9.toNatClampNeg + i) ≠ 0) ∧ ((∀ j, j ≤ o9.toNatClampNeg → zln (P j) ≤ 25) → r9 = 1)))) = Post
  show zP (d + 1) zq_X16_makeRow 0 [(0, .ref m), (1, .ref a), (2, .int o9)] [] w sz 0 0 Post
  have k1 := zrng o9
  have k2 := zrng (g 1)
  have hz3 : ((g 1).toNatClampNeg : Int) = (g 1).toInt := znat (by first | omega | decide)
  have hgb1 : (g 1).toNatClampNeg + 6 ≤ 160 := by omega
  have hz4 : (o9.toNatClampNeg : Int) = o9.toInt := znat (by first | omega | decide)
  refine zp_seg (pc' := 1) (lv' := [(0, .ref m), (1, .ref a), (2, .int o9)]) (st' := [.ref m]) [(0, .aload_n 0)] (by decide +kernel) rfl ?_
  refine zr_callV (idx := 74) (j := 263) (by decide +kernel) (by decide +kernel) (show zMe 263 = some zq_X16_newU from rfl) rfl rfl (Nat.le_of_ble_eq_true rfl) rfl rfl hm (Nat.le_of_ble_eq_true rfl) (Nat.le_of_ble_eq_true rfl) (c_X16_newU (w := w) (g1 := (g 1)) m hm hR_m (by first | omega | decide | assumption | exact zr1_1 | exact zr1_0 | fail "num") rfl) (by omega) (fun v1 w1 hp1 => ?_)
  obtain ⟨hsi1, heq1, hp1_0, hp1_1, rfl⟩ := hp1
  have hM1 : w1 m = some (.inl (15, zMo m (zs g 1 (g 1 + 1)) r)) := hp1_0
  show zP _ _ _ _ [.ref (m + 276 + 2 * (g 1).toNatClampNeg)] _ _ _ _ _
  refine zp_seg (pc' := 7) (lv' := [(3, .ref (m + 276 + 2 * (g 1).toNatClampNeg)), (0, .ref m), (1, .ref a), (2, .int o9)]) (st' := [.int 0, .ref (m + 276 + 2 * (g 1).toNatClampNeg)]) [(4, .astore_n 3), (5, .aload_n 3), (6, .iconst 0)] (by decide +kernel) rfl ?_
  obtain ⟨n5, f6, hu7, hu8, hu9, hu10, hu11⟩ := id hp1_1
  have kn5 := zrng n5
  refine zr_put2 (idx := 25) (k := 1) (fs2 := [.ref (m + 276 + 2 * (g 1).toNatClampNeg + 1), .int 0]) (by decide +kernel) (by decide +kernel) hu7 (Nat.le_of_ble_eq_true rfl) rfl rfl rfl ?_
  show zP (d + 1) zq_X16_makeRow 10 [(3, .ref (m + 276 + 2 * (g 1).toNatClampNeg)), (0, .ref m), (1, .ref a), (2, .int o9)] [] (zup w1 (m + 276 + 2 * (g 1).toNatClampNeg) (.inl (14, [.ref (m + 276 + 2 * (g 1).toNatClampNeg + 1), .int 0]))) sz 0 0 Post
  obtain ⟨w7, ew7⟩ : ∃ wz9, wz9 = zup w1 (m + 276 + 2 * (g 1).toNatClampNeg) (.inl (14, [.ref (m + 276 + 2 * (g 1).toNatClampNeg + 1), .int 0])) := ⟨_, rfl⟩
  have hsi7 : zSI w1 w7 := by rw [ew7]; exact zSI.setU hu7
  have heq7 : ∀ x, x ≠ m + 276 + 2 * (g 1).toNatClampNeg → w7 x = w1 x := fun x hx => by rw [ew7]; exact zup_n hx
  have hc7 : w7 (m + 276 + 2 * (g 1).toNatClampNeg) = some (.inl (14, [.ref (m + 276 + 2 * (g 1).toNatClampNeg + 1), .int 0])) := by rw [ew7]; exact zup_s
  rw [← ew7]
  clear ew7
  have k13 := zaddC (g 1) 1 (n := 1) (by decide) (by omega) (by omega)
  have hz14 : ((g 1 + 1).toNatClampNeg : Int) = (g 1 + 1).toInt := znat (by first | omega | decide)
  have hgn1_1 : (g 1 + 1).toNatClampNeg = (g 1).toNatClampNeg + 1 := by omega
  have hb15 : w7 (m + 276 + 2 * (g 1).toNatClampNeg + 1) = some (.inr (0, 1000, .inl f6)) := (heq7 (m + 276 + 2 * (g 1).toNatClampNeg + 1) (zx_X16_makeRow_0 hgb1)).trans hu8
  have hG00 := zU.mk0 hc7 hb15
  refine zp_seg (pc' := 13) (lv' := [(4, .int 0), (3, .ref (m + 276 + 2 * (g 1).toNatClampNeg)), (0, .ref m), (1, .ref a), (2, .int o9)]) (st' := []) [(10, .iconst 0), (11, .istore 4)] (by decide +kernel) rfl ?_
  have hb16 : w7 m = some (.inl (15, zMo m (zs g 1 (g 1 + 1)) r)) := (heq7 m (zx_X16_makeRow_1 hgb1)).trans hM1
  have hL13 : ∀ (mm13 : Nat) (wL13 : zM) (y4_13 : Int32) (G9 : zA1), (zSI w7 wL13) → (∀ x, ((x < m + 276 + 2 * (g 1).toNatClampNeg ∨ m + 276 + 2 * (g 1).toNatClampNeg + 2 ≤ x) ∧ (x < m + 276 + 2 * (g 1 + 1).toNatClampNeg ∨ m + 276 + 2 * (g 1 + 1).toNatClampNeg + (320 - 2 * (g 1 + 1).toNatClampNeg) ≤ x)) ∧ x ≠ m → wL13 x = w7 x) → (0 ≤ y4_13.toInt) → (y4_13.toInt ≤ o9.toInt + 1) → (zU wL13 (m + 276 + 2 * (g 1).toNatClampNeg) 1000 G9) → (wL13 m = some (.inl (15, zMo m (zs g 1 (g 1 + 1)) r))) → (o9.toInt < y4_13.toInt → 0 < zln G9 ∧ zln G9 ≤ zln (P o9.toNatClampNeg)) → (20 - y4_13.toInt).toNat < mm13 → zP (d + 1) zq_X16_makeRow 13 [(0, .ref m), (1, .ref a), (2, .int o9), (3, .ref (m + 276 + 2 * (g 1).toNatClampNeg)), (4, .int y4_13)] [] wL13 sz 0 0 Post := by
    intro mm13
    induction mm13 with
    | zero => intros; omega
    | succ mm13 ih13 =>
    intro wL13 y4_13 G9 hsiL13 heqL13 hi13_0 hi13_1 hUG hmL13 hG9 hmu13
    have ky4_13 := zrng y4_13
    have hz17 : (y4_13.toNatClampNeg : Int) = y4_13.toInt := znat (by first | omega | decide)
    refine zp_seg (pc' := 16) (lv' := [(0, .ref m), (1, .ref a), (2, .int o9), (3, .ref (m + 276 + 2 * (g 1).toNatClampNeg)), (4, .int y4_13)]) (st' := [.int o9, .int y4_13]) [(13, .iload 4), (15, .iload_n 2)] (by decide +kernel) rfl ?_
    refine zp_if (i := .if_icmp .gt 19) (c := o9 < y4_13) (t := 35) (e := 19) (lv' := [(0, .ref m), (1, .ref a), (2, .int o9), (3, .ref (m + 276 + 2 * (g 1).toNatClampNeg)), (4, .int y4_13)]) (st' := []) (by decide +kernel) rfl (fun cc16 => ?_) (fun cc16 => ?_)
    ·
      have f18 := zltI cc16
      refine zp_seg (pc' := 36) (lv' := [(0, .ref m), (1, .ref a), (2, .int o9), (3, .ref (m + 276 + 2 * (g 1).toNatClampNeg)), (4, .int y4_13)]) (st' := [.ref m]) [(35, .aload_n 0)] (by decide +kernel) rfl ?_
      refine zr_get (idx := 453) (k := 21) (v := .ref (m + 83)) (by decide +kernel) (by decide +kernel) hmL13 rfl ?_
      have hb19 : wL13 (m + 83) = some (.inl (13, zTo (m + 83) gt)) := ((heqL13 (m + 83) ⟨⟨(zx_X16_makeRow_3 hgb1), (zx_X16_makeRow_5 hgn1_1 hgb1)⟩, (zx_X16_makeRow_6)⟩).trans ((heq7 (m + 83) (zx_X16_makeRow_4 hgb1)).trans (heq1 (m + 83) ⟨(zx_X16_makeRow_2), (zx_X16_makeRow_3 hgb1)⟩))).trans hT_m_83
      refine zr_callS (idx := 257) (j := 304) (by decide +kernel) (by decide +kernel) (by decide) (show zMe 304 = some zq_X16_plain from rfl) rfl rfl (Nat.le_of_ble_eq_true rfl) rfl rfl (Nat.le_of_ble_eq_true rfl) (Nat.le_of_ble_eq_true rfl) (c_X16_plain (w := wL13) (m + 83) hb19) (by omega) (fun v39 w39 hp39 => ?_)
      obtain ⟨hsi39, heq39, hp39_0, rfl⟩ := hp39
      have hT39 : w39 (m + 83) = some (.inl (13, zTo (m + 83) (zs (zs (zs (zs gt 0 1) 3 1) 4 1) 5 0))) := hp39_0
      show zP _ _ _ _ [] _ _ _ _ _
      refine zp_seg (pc' := 43) (lv' := [(0, .ref m), (1, .ref a), (2, .int o9), (3, .ref (m + 276 + 2 * (g 1).toNatClampNeg)), (4, .int y4_13)]) (st' := [.ref m]) [(42, .aload_n 0)] (by decide +kernel) rfl ?_
      have hb20 : w39 m = some (.inl (15, zMo m (zs g 1 (g 1 + 1)) r)) := (heq39 m (zx_X16_makeRow_7)).trans hmL13
      refine zr_get (idx := 453) (k := 21) (v := .ref (m + 83)) (by decide +kernel) (by decide +kernel) hb20 rfl ?_
      refine zp_seg (pc' := 47) (lv' := [(0, .ref m), (1, .ref a), (2, .int o9), (3, .ref (m + 276 + 2 * (g 1).toNatClampNeg)), (4, .int y4_13)]) (st' := [.int 4, .ref (m + 83)]) [(46, .iconst 4)] (by decide +kernel) rfl ?_
      refine zr_put2 (idx := 202) (k := 0) (fs2 := zTo (m + 83) (zs (zs (zs (zs gt 0 4) 3 1) 4 1) 5 0)) (by decide +kernel) (by decide +kernel) hT39 (Nat.le_of_ble_eq_true rfl) rfl rfl rfl ?_
      show zP (d + 1) zq_X16_makeRow 50 [(0, .ref m), (1, .ref a), (2, .int o9), (3, .ref (m + 276 + 2 * (g 1).toNatClampNeg)), (4, .int y4_13)] [] (zup w39 (m + 83) (.inl (13, zTo (m + 83) (zs (zs (zs (zs gt 0 4) 3 1) 4 1) 5 0)))) sz 0 0 Post
      obtain ⟨w47, ew47⟩ : ∃ wz9, wz9 = zup w39 (m + 83) (.inl (13, zTo (m + 83) (zs (zs (zs (zs gt 0 4) 3 1) 4 1) 5 0))) := ⟨_, rfl⟩
      have hsi47 : zSI w39 w47 := by rw [ew47]; exact zSI.setT hT39 _
      have heq47 : ∀ x, x ≠ m + 83 → w47 x = w39 x := fun x hx => by rw [ew47]; exact zup_n hx
      have hc47 : w47 (m + 83) = some (.inl (13, zTo (m + 83) (zs (zs (zs (zs gt 0 4) 3 1) 4 1) 5 0))) := by rw [ew47]; exact zup_s
      rw [← ew47]
      clear ew47
      refine zp_seg (pc' := 51) (lv' := [(0, .ref m), (1, .ref a), (2, .int o9), (3, .ref (m + 276 + 2 * (g 1).toNatClampNeg)), (4, .int y4_13)]) (st' := [.ref m]) [(50, .aload_n 0)] (by decide +kernel) rfl ?_
      have hb21 : w47 m = some (.inl (15, zMo m (zs g 1 (g 1 + 1)) r)) := (heq47 m (zx_X16_makeRow_8)).trans hb20
      refine zr_get (idx := 453) (k := 21) (v := .ref (m + 83)) (by decide +kernel) (by decide +kernel) hb21 rfl ?_
      refine zp_seg (pc' := 55) (lv' := [(0, .ref m), (1, .ref a), (2, .int o9), (3, .ref (m + 276 + 2 * (g 1).toNatClampNeg)), (4, .int y4_13)]) (st' := [.int o9, .ref (m + 83)]) [(54, .iload_n 2)] (by decide +kernel) rfl ?_
      refine zr_put2 (idx := 234) (k := 10) (fs2 := zTo (m + 83) (zs (zs (zs (zs (zs gt 0 4) 3 1) 4 1) 5 0) 10 o9)) (by decide +kernel) (by decide +kernel) hc47 (Nat.le_of_ble_eq_true rfl) rfl rfl rfl ?_
      show zP (d + 1) zq_X16_makeRow 58 [(0, .ref m), (1, .ref a), (2, .int o9), (3, .ref (m + 276 + 2 * (g 1).toNatClampNeg)), (4, .int y4_13)] [] (zup w47 (m + 83) (.inl (13, zTo (m + 83) (zs (zs (zs (zs (zs gt 0 4) 3 1) 4 1) 5 0) 10 o9)))) sz 0 0 Post
      obtain ⟨w55, ew55⟩ : ∃ wz9, wz9 = zup w47 (m + 83) (.inl (13, zTo (m + 83) (zs (zs (zs (zs (zs gt 0 4) 3 1) 4 1) 5 0) 10 o9))) := ⟨_, rfl⟩
      have hsi55 : zSI w47 w55 := by rw [ew55]; exact zSI.setT hc47 _
      have heq55 : ∀ x, x ≠ m + 83 → w55 x = w47 x := fun x hx => by rw [ew55]; exact zup_n hx
      have hc55 : w55 (m + 83) = some (.inl (13, zTo (m + 83) (zs (zs (zs (zs (zs gt 0 4) 3 1) 4 1) 5 0) 10 o9))) := by rw [ew55]; exact zup_s
      rw [← ew55]
      clear ew55
      refine zp_seg (pc' := 59) (lv' := [(0, .ref m), (1, .ref a), (2, .int o9), (3, .ref (m + 276 + 2 * (g 1).toNatClampNeg)), (4, .int y4_13)]) (st' := [.ref m]) [(58, .aload_n 0)] (by decide +kernel) rfl ?_
      have hb22 : w55 m = some (.inl (15, zMo m (zs g 1 (g 1 + 1)) r)) := (heq55 m (zx_X16_makeRow_8)).trans hb21
      refine zr_get (idx := 453) (k := 21) (v := .ref (m + 83)) (by decide +kernel) (by decide +kernel) hb22 rfl ?_
      refine zp_seg (pc' := 63) (lv' := [(0, .ref m), (1, .ref a), (2, .int o9), (3, .ref (m + 276 + 2 * (g 1).toNatClampNeg)), (4, .int y4_13)]) (st' := [.int 0, .ref (m + 83)]) [(62, .iconst 0)] (by decide +kernel) rfl ?_
      refine zr_put2 (idx := 243) (k := 13) (fs2 := zTo (m + 83) (zs (zs (zs (zs (zs (zs gt 0 4) 3 1) 4 1) 5 0) 10 o9) 13 0)) (by decide +kernel) (by decide +kernel) hc55 (Nat.le_of_ble_eq_true rfl) rfl rfl rfl ?_
      show zP (d + 1) zq_X16_makeRow 66 [(0, .ref m), (1, .ref a), (2, .int o9), (3, .ref (m + 276 + 2 * (g 1).toNatClampNeg)), (4, .int y4_13)] [] (zup w55 (m + 83) (.inl (13, zTo (m + 83) (zs (zs (zs (zs (zs (zs gt 0 4) 3 1) 4 1) 5 0) 10 o9) 13 0)))) sz 0 0 Post
      obtain ⟨w63, ew63⟩ : ∃ wz9, wz9 = zup w55 (m + 83) (.inl (13, zTo (m + 83) (zs (zs (zs (zs (zs (zs gt 0 4) 3 1) 4 1) 5 0) 10 o9) 13 0))) := ⟨_, rfl⟩
      have hsi63 : zSI w55 w63 := by rw [ew63]; exact zSI.setT hc55 _
      have heq63 : ∀ x, x ≠ m + 83 → w63 x = w55 x := fun x hx => by rw [ew63]; exact zup_n hx
      have hc63 : w63 (m + 83) = some (.inl (13, zTo (m + 83) (zs (zs (zs (zs (zs (zs gt 0 4) 3 1) 4 1) 5 0) 10 o9) 13 0))) := by rw [ew63]; exact zup_s
      rw [← ew63]
      clear ew63
      refine zp_seg (pc' := 69) (lv' := [(4, .int 0), (0, .ref m), (1, .ref a), (2, .int o9), (3, .ref (m + 276 + 2 * (g 1).toNatClampNeg))]) (st' := []) [(66, .iconst 0), (67, .istore 4)] (by decide +kernel) rfl ?_
      have hb23 : w63 m = some (.inl (15, zMo m (zs g 1 (g 1 + 1)) r)) := (heq63 m (zx_X16_makeRow_8)).trans hb22
      have hL69 : ∀ (mm69 : Nat) (wL69 : zM) (y4_69 : Int32) (za : Nat → Int32), (zSI w63 wL69) → (∀ x, ((x < m + 83 + 7 ∨ m + 83 + 7 + 1 ≤ x)) ∧ x ≠ m → wL69 x = w63 x) → (0 ≤ y4_69.toInt) → (y4_69.toInt ≤ 175) → (wL69 (m + 83 + 7) = some (.inr (0, 175, .inl za))) → (wL69 m = some (.inl (15, zMo m (zs g 1 (g 1 + 1)) r))) → (∀ i, i < 175 → zr1 (za i)) → (200 - y4_69.toInt).toNat < mm69 → zP (d + 1) zq_X16_makeRow 69 [(0, .ref m), (1, .ref a), (2, .int o9), (3, .ref (m + 276 + 2 * (g 1).toNatClampNeg)), (4, .int y4_69)] [] wL69 sz 0 0 Post := by
        intro mm69
        induction mm69 with
        | zero => intros; omega
        | succ mm69 ih69 =>
        intro wL69 y4_69 za hsiL69 heqL69 hi69_0 hi69_1 hAz hmL69 hz9 hmu69
        have ky4_69 := zrng y4_69
        have hz24 : (y4_69.toNatClampNeg : Int) = y4_69.toInt := znat (by first | omega | decide)
        refine zp_seg (pc' := 74) (lv' := [(0, .ref m), (1, .ref a), (2, .int o9), (3, .ref (m + 276 + 2 * (g 1).toNatClampNeg)), (4, .int y4_69)]) (st' := [.int 175, .int y4_69]) [(69, .iload 4), (71, .sipush 175)] (by decide +kernel) rfl ?_
        refine zp_if (i := .if_icmp .ge 20) (c := 175 ≤ y4_69) (t := 94) (e := 77) (lv' := [(0, .ref m), (1, .ref a), (2, .int o9), (3, .ref (m + 276 + 2 * (g 1).toNatClampNeg)), (4, .int y4_69)]) (st' := []) (by decide +kernel) rfl (fun cc74 => ?_) (fun cc74 => ?_)
        ·
          have f26 := zleI cc74
          rw [show (175 : Int32).toInt = 175 from by decide] at f26
          refine zp_seg (pc' := 103) (lv' := [(6, .int o9), (5, .int 1), (4, .int 1), (0, .ref m), (1, .ref a), (2, .int o9), (3, .ref (m + 276 + 2 * (g 1).toNatClampNeg))]) (st' := []) [(94, .iconst 1), (95, .istore 4), (97, .iconst 1), (98, .istore 5), (100, .iload_n 2), (101, .istore 6)] (by decide +kernel) rfl ?_
          have hL103 : ∀ (mm103 : Nat) (wL103 : zM) (y4_103 : Int32) (y5_103 : Int32) (y6_103 : Int32) (sa : Nat → Int32), (zSI wL69 wL103) → (∀ x, ((x < A0 ∨ A0 + (2 * o9.toNatClampNeg + 2) ≤ x) ∧ (x < m + 83 + 7 ∨ m + 83 + 7 + 1 ≤ x) ∧ (x < m + 276 + 2 * (g 1 + 1).toNatClampNeg ∨ m + 276 + 2 * (g 1 + 1).toNatClampNeg + (320 - 2 * (g 1 + 1).toNatClampNeg) ≤ x)) ∧ x ≠ m → wL103 x = wL69 x) → ((y4_103 = 0 ∨ y4_103 = 1)) → (-1 ≤ y6_103.toInt) → (y6_103.toInt ≤ o9.toInt) → (wL103 (m + 83 + 7) = some (.inr (0, 175, .inl sa))) → (wL103 m = some (.inl (15, zMo m (zs g 1 (g 1 + 1)) r))) → (zr1 y5_103) → (∀ t : Nat, (t : Int) ≤ y6_103.toInt → zU wL103 (A0 + 2 * t) 1000 (P t)) → ((∀ i, i < 175 → zr1 (sa i)) ∧ (y6_103.toInt < o9.toInt → y4_103 = 1 → ∃ i, i < 25 ∧ sa (25 * o9.toNatClampNeg + i) ≠ 0) ∧ ((∀ j, j ≤ o9.toNatClampNeg → zln (P j) ≤ 25) → y4_103 = 1)) → (y6_103.toInt + 1).toNat < mm103 → zP (d + 1) zq_X16_makeRow 103 [(0, .ref m), (1, .ref a), (2, .int o9), (3, .ref (m + 276 + 2 * (g 1).toNatClampNeg)), (4, .int y4_103), (5, .int y5_103), (6, .int y6_103)] [] wL103 sz 0 0 Post := by
            intro mm103
            induction mm103 with
            | zero => intros; omega
            | succ mm103 ih103 =>
            intro wL103 y4_103 y5_103 y6_103 sa hsiL103 heqL103 hi103_0 hi103_1 hi103_2 hAs hmL103 hh9 hT9 hF9 hmu103
            have ky4_103 := zrng y4_103
            have ky5_103 := zrng y5_103
            have ky6_103 := zrng y6_103
            refine zp_seg (pc' := 105) (lv' := [(0, .ref m), (1, .ref a), (2, .int o9), (3, .ref (m + 276 + 2 * (g 1).toNatClampNeg)), (4, .int y4_103), (5, .int y5_103), (6, .int y6_103)]) (st' := [.int y6_103]) [(103, .iload 6)] (by decide +kernel) rfl ?_
            refine zp_if (i := .ifCond .lt 104) (c := y6_103 < 0) (t := 209) (e := 108) (lv' := [(0, .ref m), (1, .ref a), (2, .int o9), (3, .ref (m + 276 + 2 * (g 1).toNatClampNeg)), (4, .int y4_103), (5, .int y5_103), (6, .int y6_103)]) (st' := []) (by decide +kernel) rfl (fun cc105 => ?_) (fun cc105 => ?_)
            ·
              have f28 := zltI cc105
              rw [show (0 : Int32).toInt = 0 from by decide] at f28
              refine zp_seg (pc' := 211) (lv' := [(0, .ref m), (1, .ref a), (2, .int o9), (3, .ref (m + 276 + 2 * (g 1).toNatClampNeg)), (4, .int y4_103), (5, .int y5_103), (6, .int y6_103)]) (st' := [.int y4_103]) [(209, .iload 4)] (by decide +kernel) rfl ?_
              have hoffend : ∀ x, (x < m ∨ m + 1 ≤ x) ∧ (x < A0 ∨ A0 + (2 * o9.toNatClampNeg + 2) ≤ x) ∧ (x < m + 83 ∨ m + 83 + 1 ≤ x) ∧ (x < m + 83 + 7 ∨ m + 83 + 7 + 1 ≤ x) ∧ (x < m + 276 + 2 * (g 1).toNatClampNeg ∨ m + 276 + 2 * (g 1).toNatClampNeg + (320 - 2 * (g 1).toNatClampNeg) ≤ x) → wL103 x = w x := fun x hx => ((heqL103 x ⟨⟨hx.2.1, hx.2.2.2.1, (zx_X16_makeRow_11 hx.2.2.2.2 hgn1_1 hgb1)⟩, (zx_X16_makeRow_12 hx.1)⟩).trans ((heqL69 x ⟨hx.2.2.2.1, (zx_X16_makeRow_12 hx.1)⟩).trans ((heq63 x (zx_X16_makeRow_13 hx.2.2.1 hx.2.2.2.1)).trans ((heq55 x (zx_X16_makeRow_13 hx.2.2.1 hx.2.2.2.1)).trans ((heq47 x (zx_X16_makeRow_13 hx.2.2.1 hx.2.2.2.1)).trans ((heq39 x hx.2.2.1).trans ((heqL13 x ⟨⟨(zx_X16_makeRow_9 hx.2.2.2.2 hgb1), (zx_X16_makeRow_11 hx.2.2.2.2 hgn1_1 hgb1)⟩, (zx_X16_makeRow_12 hx.1)⟩).trans ((heq7 x (zx_X16_makeRow_10 hx.2.2.2.2 hgb1)).trans (heq1 x ⟨hx.1, (zx_X16_makeRow_9 hx.2.2.2.2 hgb1)⟩)))))))))
              have hb29 : wL103 (m + 83) = some (.inl (13, zTo (m + 83) (zs (zs (zs (zs (zs (zs gt 0 4) 3 1) 4 1) 5 0) 10 o9) 13 0))) := ((heqL103 (m + 83) (by omega)).trans (heqL69 (m + 83) ⟨(zx_X16_makeRow_14), (zx_X16_makeRow_6)⟩)).trans hc63
              refine zr_retB (by decide +kernel) rfl hi103_0 ?_
              rw [← hPost]; exact ⟨rfl, _, rfl, sa, ((g 1 + 1)), ((((((((hsi1.tr hsi7).tr hsiL13).tr hsi39).tr hsi47).tr hsi55).tr hsi63).tr hsiL69).tr hsiL103), hoffend, hmL103, hb29, hAs, (by
                    exact hF9.1), _, rfl, hi103_0, (by
                    exact ⟨fun e => hF9.2.1 (by omega) e, hF9.2.2⟩)⟩
            ·
              have f31 := znltI cc105
              rw [show (0 : Int32).toInt = 0 from by decide] at f31
              have hz32 : (y6_103.toNatClampNeg : Int) = y6_103.toInt := znat (by first | omega | decide)
              have hUj9 := hT9 y6_103.toNatClampNeg (by omega)
              have hb33 : zU wL103 (m + 276 + 2 * (g 1).toNatClampNeg) 1000 G9 := hUG.ag (fun x hx1 hx2 => ((heqL103 x (by omega)).trans ((heqL69 x ⟨(zx_X16_makeRow_17 hx1 hx2 hgb1), (zx_X16_makeRow_18 hx1 hx2 hgb1)⟩).trans ((heq63 x (zx_X16_makeRow_16 hx1 hx2 hgb1)).trans ((heq55 x (zx_X16_makeRow_16 hx1 hx2 hgb1)).trans ((heq47 x (zx_X16_makeRow_16 hx1 hx2 hgb1)).trans (heq39 x (zx_X16_makeRow_15 hx1 hx2 hgb1))))))))
              have hcj9 := hUj9.cap
              have hgc8 := (hb33).cap
              have hq9 := zquo_ln (p := P y6_103.toNatClampNeg) (d := G9) (hG9 (by omega)).1
              have hgz9 := hG9 (by omega)
              refine zp_seg (pc' := 112) (lv' := [(0, .ref m), (1, .ref a), (2, .int o9), (3, .ref (m + 276 + 2 * (g 1).toNatClampNeg)), (4, .int y4_103), (5, .int y5_103), (6, .int y6_103)]) (st' := [.int y6_103, .ref a, .ref m]) [(108, .aload_n 0), (109, .aload_n 1), (110, .iload 6)] (by decide +kernel) rfl ?_
              have hb34 : wL103 a = some (.inr (4, 8, .inr fa)) := ((heqL103 a (by omega)).trans ((heqL69 a ⟨(zx_X16_makeRow_26 ham), (zx_X16_makeRow_23 ham)⟩).trans ((heq63 a (zx_X16_makeRow_25 ham)).trans ((heq55 a (zx_X16_makeRow_25 ham)).trans ((heq47 a (zx_X16_makeRow_25 ham)).trans ((heq39 a (zx_X16_makeRow_24 ham)).trans ((heqL13 a ⟨⟨(zx_X16_makeRow_20 ham hgb1), (zx_X16_makeRow_22 ham hgn1_1 hgb1)⟩, (zx_X16_makeRow_23 ham)⟩).trans ((heq7 a (zx_X16_makeRow_21 ham hgb1)).trans (heq1 a ⟨(zx_X16_makeRow_19 ham), (zx_X16_makeRow_20 ham hgb1)⟩))))))))).trans hV_a
              refine zr_aald (v := .ref (A0 + 2 * y6_103.toNatClampNeg)) (by decide +kernel) hb34 (by decide) (zin (by first | omega | decide) (by first | omega | decide)) (by rw [hfa _ (by omega)]; rfl) ?_
              refine zp_seg (pc' := 116) (lv' := [(0, .ref m), (1, .ref a), (2, .int o9), (3, .ref (m + 276 + 2 * (g 1).toNatClampNeg)), (4, .int y4_103), (5, .int y5_103), (6, .int y6_103)]) (st' := [.int y6_103, .ref a, .ref (A0 + 2 * y6_103.toNatClampNeg), .ref m]) [(113, .aload_n 1), (114, .iload 6)] (by decide +kernel) rfl ?_
              refine zr_aald (v := .ref (A0 + 2 * y6_103.toNatClampNeg)) (by decide +kernel) hb34 (by decide) (zin (by first | omega | decide) (by first | omega | decide)) (by rw [hfa _ (by omega)]; rfl) ?_
              refine zp_seg (pc' := 118) (lv' := [(0, .ref m), (1, .ref a), (2, .int o9), (3, .ref (m + 276 + 2 * (g 1).toNatClampNeg)), (4, .int y4_103), (5, .int y5_103), (6, .int y6_103)]) (st' := [.ref (m + 276 + 2 * (g 1).toNatClampNeg), .ref (A0 + 2 * y6_103.toNatClampNeg), .ref (A0 + 2 * y6_103.toNatClampNeg), .ref m]) [(117, .aload_n 3)] (by decide +kernel) rfl ?_
              have hb35 := hR_m.si ((((((((hsi1.tr hsi7).tr hsiL13).tr hsi39).tr hsi47).tr hsi55).tr hsi63).tr hsiL69).tr hsiL103)
              have ho118_to := zU.o hUj9
              refine zr_callV (idx := 110) (j := 271) (by decide +kernel) (by decide +kernel) (show zMe 271 = some zq_X16_exact from rfl) rfl rfl (Nat.le_of_ble_eq_true rfl) rfl rfl hmL103 (Nat.le_of_ble_eq_true rfl) (Nat.le_of_ble_eq_true rfl) (c_X16_exact (w := wL103) (g1 := (g 1 + 1)) m (A0 + 2 * y6_103.toNatClampNeg) (A0 + 2 * y6_103.toNatClampNeg) (m + 276 + 2 * (g 1).toNatClampNeg) hmL103 hb35 ho118_to hUj9 hb33 (by first | omega | decide | assumption | exact zr1_1 | exact zr1_0 | fail "num") (by first | omega | decide | assumption | exact zr1_1 | exact zr1_0 | fail "num") (by first | omega | decide | assumption | exact zr1_1 | exact zr1_0 | fail "num") (by first | omega | decide | assumption | exact zr1_1 | exact zr1_0 | fail "num") (by first | omega | decide | assumption | exact zr1_1 | exact zr1_0 | fail "num") (by first | omega | decide | assumption | exact zr1_1 | exact zr1_0 | fail "num") (by first | omega | decide | assumption | exact zr1_1 | exact zr1_0 | fail "num") (by first | omega | decide | assumption | exact zr1_1 | exact zr1_0 | fail "num") rfl) (by omega) (fun v118 w118 hp118 => ?_)
              obtain ⟨hsi118, heq118, hp118_0, rfl⟩ := hp118
              show zP _ _ _ _ [] _ _ _ _ _
              refine zp_seg (pc' := 124) (lv' := [(0, .ref m), (1, .ref a), (2, .int o9), (3, .ref (m + 276 + 2 * (g 1).toNatClampNeg)), (4, .int y4_103), (5, .int y5_103), (6, .int y6_103)]) (st' := [.int o9, .int y6_103]) [(121, .iload 6), (123, .iload_n 2)] (by decide +kernel) rfl ?_
              have hJ142 : ∀ (z0_142 : Int32), (zr1 z0_142 ∧ (o9.toInt = y6_103.toInt → 0 < zln (zquo (P y6_103.toNatClampNeg) G9) → z0_142 ≠ 0)) → zP (d + 1) zq_X16_makeRow 142 [(0, .ref m), (1, .ref a), (2, .int o9), (3, .ref (m + 276 + 2 * (g 1).toNatClampNeg)), (4, .int y4_103), (6, .int y6_103)] [.int z0_142] w118 sz 0 0 Post := by
                intro z0_142 hz1
                have kz0_142 := zrng z0_142
                refine zp_seg (pc' := 147) (lv' := [(5, .int z0_142), (0, .ref m), (1, .ref a), (2, .int o9), (3, .ref (m + 276 + 2 * (g 1).toNatClampNeg)), (4, .int y4_103), (6, .int y6_103)]) (st' := [.int y6_103, .ref a]) [(142, .istore 5), (144, .aload_n 1), (145, .iload 6)] (by decide +kernel) rfl ?_
                have hb36 : w118 a = some (.inr (4, 8, .inr fa)) := (heq118 a (by omega)).trans hb34
                refine zr_aald (v := .ref (A0 + 2 * y6_103.toNatClampNeg)) (by decide +kernel) hb36 (by decide) (zin (by first | omega | decide) (by first | omega | decide)) (by rw [hfa _ (by omega)]; rfl) ?_
                refine zp_seg (pc' := 151) (lv' := [(5, .int z0_142), (0, .ref m), (1, .ref a), (2, .int o9), (3, .ref (m + 276 + 2 * (g 1).toNatClampNeg)), (4, .int y4_103), (6, .int y6_103)]) (st' := [.int y6_103, .ref a, .ref (A0 + 2 * y6_103.toNatClampNeg)]) [(148, .aload_n 1), (149, .iload 6)] (by decide +kernel) rfl ?_
                refine zr_aald (v := .ref (A0 + 2 * y6_103.toNatClampNeg)) (by decide +kernel) hb36 (by decide) (zin (by first | omega | decide) (by first | omega | decide)) (by rw [hfa _ (by omega)]; rfl) ?_
                refine zp_seg (pc' := 154) (lv' := [(5, .int z0_142), (0, .ref m), (1, .ref a), (2, .int o9), (3, .ref (m + 276 + 2 * (g 1).toNatClampNeg)), (4, .int y4_103), (6, .int y6_103)]) (st' := [.int z0_142, .ref (A0 + 2 * y6_103.toNatClampNeg), .ref (A0 + 2 * y6_103.toNatClampNeg)]) [(152, .iload 5)] (by decide +kernel) rfl ?_
                have ho154_to := zU.o hp118_0
                refine zr_callS (idx := 70) (j := 266) (by decide +kernel) (by decide +kernel) (by decide) (show zMe 266 = some zq_X16_scale from rfl) rfl rfl (Nat.le_of_ble_eq_true rfl) rfl rfl (Nat.le_of_ble_eq_true rfl) (Nat.le_of_ble_eq_true rfl) (c_X16_scale (w := w118) (A0 + 2 * y6_103.toNatClampNeg) (A0 + 2 * y6_103.toNatClampNeg) z0_142 ho154_to hp118_0 (by exact hz1.1) (by first | omega | decide | assumption | exact zr1_1 | exact zr1_0 | fail "num")) (by omega) (fun v154 w154 hp154 => ?_)
                obtain ⟨hsi154, heq154, hp154_0, rfl⟩ := hp154
                show zP _ _ _ _ [] _ _ _ _ _
                have hsl9 := zln_CMle (zf z0_142) (zquo (P y6_103.toNatClampNeg) G9)
                refine zp_seg (pc' := 162) (lv' := [(5, .int z0_142), (0, .ref m), (1, .ref a), (2, .int o9), (3, .ref (m + 276 + 2 * (g 1).toNatClampNeg)), (4, .int y4_103), (6, .int y6_103)]) (st' := [.int y6_103, .ref a, .int y4_103]) [(157, .iload 4), (159, .aload_n 1), (160, .iload 6)] (by decide +kernel) rfl ?_
                have hb37 : w154 a = some (.inr (4, 8, .inr fa)) := (heq154 a (by omega)).trans hb36
                refine zr_aald (v := .ref (A0 + 2 * y6_103.toNatClampNeg)) (by decide +kernel) hb37 (by decide) (zin (by first | omega | decide) (by first | omega | decide)) (by rw [hfa _ (by omega)]; rfl) ?_
                obtain ⟨n38, f39, hu40, hu41, hu42, hu43, hu44⟩ := id hp154_0
                have kn38 := zrng n38
                have hnj9 := hu42
                refine zr_get (idx := 25) (k := 1) (v := .int n38) (by decide +kernel) (by decide +kernel) hu40 rfl ?_
                refine zp_seg (pc' := 168) (lv' := [(5, .int z0_142), (0, .ref m), (1, .ref a), (2, .int o9), (3, .ref (m + 276 + 2 * (g 1).toNatClampNeg)), (4, .int y4_103), (6, .int y6_103)]) (st' := [.int 25, .int n38, .int y4_103]) [(166, .bipush 25)] (by decide +kernel) rfl ?_
                have hJ176 : ∀ (z0_176 : Int32), ((z0_176 = 0 ∨ z0_176 = 1)) → ((z0_176 = 1 → zln (zaM (zaC (zf z0_142)) (zquo (P y6_103.toNatClampNeg) G9)) ≤ 25) ∧ (zln (zaM (zaC (zf z0_142)) (zquo (P y6_103.toNatClampNeg) G9)) ≤ 25 → z0_176 = 1)) → zP (d + 1) zq_X16_makeRow 176 [(0, .ref m), (1, .ref a), (2, .int o9), (3, .ref (m + 276 + 2 * (g 1).toNatClampNeg)), (5, .int z0_142), (6, .int y6_103)] [.int z0_176, .int y4_103] w154 sz 0 0 Post := by
                  intro z0_176 hi176_0 hle
                  have kz0_176 := zrng z0_176
                  refine zp_seg (pc' := 179) (lv' := [(4, .int (y4_103 &&& z0_176)), (0, .ref m), (1, .ref a), (2, .int o9), (3, .ref (m + 276 + 2 * (g 1).toNatClampNeg)), (5, .int z0_142), (6, .int y6_103)]) (st' := []) [(176, .iand), (177, .istore 4)] (by decide +kernel) rfl ?_
                  generalize ev179 : (y4_103 &&& z0_176 : Int32) = v179
                  have kv179 := zrng v179
                  have ha9 := zand1 hi103_0 hi176_0 ev179
                  have hb177 := ha9.1
                  refine zp_seg (pc' := 181) (lv' := [(4, .int v179), (0, .ref m), (1, .ref a), (2, .int o9), (3, .ref (m + 276 + 2 * (g 1).toNatClampNeg)), (5, .int z0_142), (6, .int y6_103)]) (st' := [.int v179]) [(179, .iload 4)] (by decide +kernel) rfl ?_
                  refine zp_if (i := .ifCond .eq 22) (c := v179 = 0) (t := 203) (e := 184) (lv' := [(4, .int v179), (0, .ref m), (1, .ref a), (2, .int o9), (3, .ref (m + 276 + 2 * (g 1).toNatClampNeg)), (5, .int z0_142), (6, .int y6_103)]) (st' := []) (by decide +kernel) rfl (fun cc181 => ?_) (fun cc181 => ?_)
                  ·
                    have f45 := zeqI cc181
                    rw [show (0 : Int32).toInt = 0 from by decide] at f45
                    refine zp_seg (pc' := 206) (lv' := [(6, .int (y6_103 + (Int32.ofInt (-1)))), (4, .int v179), (0, .ref m), (1, .ref a), (2, .int o9), (3, .ref (m + 276 + 2 * (g 1).toNatClampNeg)), (5, .int z0_142)]) (st' := []) [(203, .iinc 6 (-1))] (by decide +kernel) rfl ?_
                    have k46 := zaddC y6_103 ((Int32.ofInt (-1))) (n := (-1)) (by decide) (by omega) (by omega)
                    generalize ev206 : (y6_103 + (Int32.ofInt (-1)) : Int32) = v206 at k46 ⊢
                    have kv206 := zrng v206
                    refine zp_seg (pc' := 103) (lv' := [(6, .int v206), (4, .int v179), (0, .ref m), (1, .ref a), (2, .int o9), (3, .ref (m + 276 + 2 * (g 1).toNatClampNeg)), (5, .int z0_142)]) (st' := []) [(206, .goto (-103))] (by decide +kernel) rfl ?_
                    have hb47 : w154 (m + 83 + 7) = some (.inr (0, 175, .inl sa)) := ((heq154 (m + 83 + 7) (by omega)).trans (heq118 (m + 83 + 7) (by omega))).trans hAs
                    have hb48 : w154 m = some (.inl (15, zMo m (zs g 1 (g 1 + 1)) r)) := ((heq154 m (by omega)).trans (heq118 m (by omega))).trans hmL103
                    exact (ih103 w154 v179 z0_142 v206 (sa) ((hsiL103.tr hsi118).tr hsi154) (fun x hx => ((heq154 x (by omega)).trans ((heq118 x (by omega)).trans (heqL103 x ⟨⟨hx.1.1, hx.1.2.1, hx.1.2.2⟩, hx.2⟩)))) (by first | assumption | omega | decide) (by first | assumption | omega | decide) (by first | assumption | omega | decide) hb47 hb48 (by
                          exact hz1.1) (by
                          exact fun t ht => (hT9 t (by omega)).ag (fun x g1 g2 => ((heq154 x (by omega)).trans (heq118 x (by omega))))) (by
                          first
                          | exact ⟨hF9.1, fun _ e => absurd (cc181.symm.trans e) (by decide), fun hall => ha9.2.2 (hF9.2.2 hall) (hle.2 (by have h9 := hall y6_103.toNatClampNeg (by omega); omega))⟩
                          | (have hs1 := hp200_1
                             rw [hzv] at hs1
                             refine ⟨fun i hi => ?_, fun _ e => ?_, fun hall => ha9.2.2 (hF9.2.2 hall) (hle.2 (by have h9 := hall y6_103.toNatClampNeg (by omega); omega))⟩
                             · by_cases k : 25 * y6_103.toNatClampNeg ≤ i ∧ i < 25 * y6_103.toNatClampNeg + 25
                               · have h9 := (hs1.1 (i - 25 * y6_103.toNatClampNeg) (by omega)).1
                                 rwa [show 25 * y6_103.toNatClampNeg + (i - 25 * y6_103.toNatClampNeg) = i by omega] at h9
                               · rw [hs1.2 i (by omega)]; exact hF9.1 i hi
                             · by_cases k : o9.toInt = y6_103.toInt
                               · have k2 : y6_103.toNatClampNeg = o9.toNatClampNeg := by omega
                                 rw [k2] at hq9 hz1 hle hs1
                                 have h7 : 0 < zln (zquo (P o9.toNatClampNeg) G9) := by omega
                                 have h8 := zln_CM (zf_nz hz1.1 (hz1.2 k h7)) (zquo (P o9.toNatClampNeg) G9)
                                 exact zst_nz hs1.1 (by omega) (hle.1 (ha9.2.1 e).2)
                               · obtain ⟨i, hi, hn⟩ := hF9.2.1 (by omega) (ha9.2.1 e).1
                                 exact ⟨i, hi, by rw [hs1.2 _ (by omega)]; exact hn⟩)) (by omega)).more (zfa1 rfl (zfa1 rfl (zfa1 rfl (zfa1 rfl (zfa1 rfl (zfa1 rfl (zfa1 rfl (zfa0))))))))
                  ·
                    have f49 := zneI cc181
                    rw [show (0 : Int32).toInt = 0 from by decide] at f49
                    refine zp_seg (pc' := 185) (lv' := [(4, .int v179), (0, .ref m), (1, .ref a), (2, .int o9), (3, .ref (m + 276 + 2 * (g 1).toNatClampNeg)), (5, .int z0_142), (6, .int y6_103)]) (st' := [.ref m]) [(184, .aload_n 0)] (by decide +kernel) rfl ?_
                    have hb50 : w154 m = some (.inl (15, zMo m (zs g 1 (g 1 + 1)) r)) := ((heq154 m (by omega)).trans (heq118 m (by omega))).trans hmL103
                    refine zr_get (idx := 453) (k := 21) (v := .ref (m + 83)) (by decide +kernel) (by decide +kernel) hb50 rfl ?_
                    have hb51 : w154 (m + 83) = some (.inl (13, zTo (m + 83) (zs (zs (zs (zs (zs (zs gt 0 4) 3 1) 4 1) 5 0) 10 o9) 13 0))) := ((heq154 (m + 83) (by omega)).trans ((heq118 (m + 83) (by omega)).trans ((heqL103 (m + 83) (by omega)).trans (heqL69 (m + 83) ⟨(zx_X16_makeRow_14), (zx_X16_makeRow_6)⟩)))).trans hc63
                    refine zr_get (idx := 237) (k := 11) (v := .ref (m + 83 + 7)) (by decide +kernel) (by decide +kernel) hb51 rfl ?_
                    refine zp_seg (pc' := 196) (lv' := [(4, .int v179), (0, .ref m), (1, .ref a), (2, .int o9), (3, .ref (m + 276 + 2 * (g 1).toNatClampNeg)), (5, .int z0_142), (6, .int y6_103)]) (st' := [.int (25 * y6_103), .ref (m + 83 + 7)]) [(191, .bipush 25), (193, .iload 6), (195, .imul)] (by decide +kernel) rfl ?_
                    have k52 := zmulCl 25 y6_103 (n := 25) (by decide) (by omega) (by omega)
                    generalize ev196 : (25 * y6_103 : Int32) = v196 at k52 ⊢
                    have kv196 := zrng v196
                    have hzv : (v196).toNatClampNeg = 25 * y6_103.toNatClampNeg := by
                      have h9 := znat (x := v196) (by omega)
                      omega
                    refine zp_seg (pc' := 199) (lv' := [(4, .int v179), (0, .ref m), (1, .ref a), (2, .int o9), (3, .ref (m + 276 + 2 * (g 1).toNatClampNeg)), (5, .int z0_142), (6, .int y6_103)]) (st' := [.int y6_103, .ref a, .int v196, .ref (m + 83 + 7)]) [(196, .aload_n 1), (197, .iload 6)] (by decide +kernel) rfl ?_
                    refine zr_aald (v := .ref (A0 + 2 * y6_103.toNatClampNeg)) (by decide +kernel) hb37 (by decide) (zin (by first | omega | decide) (by first | omega | decide)) (by rw [hfa _ (by omega)]; rfl) ?_
                    have hb53 : w154 (m + 83 + 7) = some (.inr (0, 175, .inl sa)) := ((heq154 (m + 83 + 7) (by omega)).trans (heq118 (m + 83 + 7) (by omega))).trans hAs
                    refine zr_callS (idx := 762) (j := 302) (by decide +kernel) (by decide +kernel) (by decide) (show zMe 302 = some zq_X16_store_ from rfl) rfl rfl (Nat.le_of_ble_eq_true rfl) rfl rfl (Nat.le_of_ble_eq_true rfl) (Nat.le_of_ble_eq_true rfl) (c_X16_store_ (w := w154) (m + 83 + 7) v196 (A0 + 2 * y6_103.toNatClampNeg) hb53 hp154_0 (by first | omega | decide | assumption | exact zr1_1 | exact zr1_0 | fail "num") (by first | omega | decide | assumption | exact zr1_1 | exact zr1_0 | fail "num")) (by omega) (fun v200 w200 hp200 => ?_)
                    obtain ⟨F9_200, hsi200, heq200, hp200_0, hp200_1, rfl⟩ := hp200
                    show zP _ _ _ _ [] _ _ _ _ _
                    refine zp_seg (pc' := 206) (lv' := [(6, .int (y6_103 + (Int32.ofInt (-1)))), (4, .int v179), (0, .ref m), (1, .ref a), (2, .int o9), (3, .ref (m + 276 + 2 * (g 1).toNatClampNeg)), (5, .int z0_142)]) (st' := []) [(203, .iinc 6 (-1))] (by decide +kernel) rfl ?_
                    have k54 := zaddC y6_103 ((Int32.ofInt (-1))) (n := (-1)) (by decide) (by omega) (by omega)
                    generalize ev206 : (y6_103 + (Int32.ofInt (-1)) : Int32) = v206 at k54 ⊢
                    have kv206 := zrng v206
                    refine zp_seg (pc' := 103) (lv' := [(6, .int v206), (4, .int v179), (0, .ref m), (1, .ref a), (2, .int o9), (3, .ref (m + 276 + 2 * (g 1).toNatClampNeg)), (5, .int z0_142)]) (st' := []) [(206, .goto (-103))] (by decide +kernel) rfl ?_
                    have hb55 : w200 m = some (.inl (15, zMo m (zs g 1 (g 1 + 1)) r)) := (heq200 m (zx_X16_makeRow_27)).trans hb50
                    exact (ih103 w200 v179 z0_142 v206 (F9_200) (((hsiL103.tr hsi118).tr hsi154).tr hsi200) (fun x hx => ((heq200 x hx.1.2.1).trans ((heq154 x (by omega)).trans ((heq118 x (by omega)).trans (heqL103 x ⟨⟨hx.1.1, hx.1.2.1, hx.1.2.2⟩, hx.2⟩))))) (by first | assumption | omega | decide) (by first | assumption | omega | decide) (by first | assumption | omega | decide) hp200_0 hb55 (by
                          exact hz1.1) (by
                          exact fun t ht => (hT9 t (by omega)).ag (fun x g1 g2 => ((heq200 x (by omega)).trans ((heq154 x (by omega)).trans (heq118 x (by omega)))))) (by
                          first
                          | exact ⟨hF9.1, fun _ e => absurd (cc181.symm.trans e) (by decide), fun hall => ha9.2.2 (hF9.2.2 hall) (hle.2 (by have h9 := hall y6_103.toNatClampNeg (by omega); omega))⟩
                          | (have hs1 := hp200_1
                             rw [hzv] at hs1
                             refine ⟨fun i hi => ?_, fun _ e => ?_, fun hall => ha9.2.2 (hF9.2.2 hall) (hle.2 (by have h9 := hall y6_103.toNatClampNeg (by omega); omega))⟩
                             · by_cases k : 25 * y6_103.toNatClampNeg ≤ i ∧ i < 25 * y6_103.toNatClampNeg + 25
                               · have h9 := (hs1.1 (i - 25 * y6_103.toNatClampNeg) (by omega)).1
                                 rwa [show 25 * y6_103.toNatClampNeg + (i - 25 * y6_103.toNatClampNeg) = i by omega] at h9
                               · rw [hs1.2 i (by omega)]; exact hF9.1 i hi
                             · by_cases k : o9.toInt = y6_103.toInt
                               · have k2 : y6_103.toNatClampNeg = o9.toNatClampNeg := by omega
                                 rw [k2] at hq9 hz1 hle hs1
                                 have h7 : 0 < zln (zquo (P o9.toNatClampNeg) G9) := by omega
                                 have h8 := zln_CM (zf_nz hz1.1 (hz1.2 k h7)) (zquo (P o9.toNatClampNeg) G9)
                                 exact zst_nz hs1.1 (by omega) (hle.1 (ha9.2.1 e).2)
                               · obtain ⟨i, hi, hn⟩ := hF9.2.1 (by omega) (ha9.2.1 e).1
                                 exact ⟨i, hi, by rw [hs1.2 _ (by omega)]; exact hn⟩)) (by omega)).more (zfa1 rfl (zfa1 rfl (zfa1 rfl (zfa1 rfl (zfa1 rfl (zfa1 rfl (zfa1 rfl (zfa0))))))))
                refine zp_if (i := .if_icmp .gt 7) (c := 25 < n38) (t := 175) (e := 171) (lv' := [(5, .int z0_142), (0, .ref m), (1, .ref a), (2, .int o9), (3, .ref (m + 276 + 2 * (g 1).toNatClampNeg)), (4, .int y4_103), (6, .int y6_103)]) (st' := [.int y4_103]) (by decide +kernel) rfl (fun cc168 => ?_) (fun cc168 => ?_)
                ·
                  have f57 := zltI cc168
                  rw [show (25 : Int32).toInt = 25 from by decide] at f57
                  refine zp_seg (pc' := 176) (lv' := [(5, .int z0_142), (0, .ref m), (1, .ref a), (2, .int o9), (3, .ref (m + 276 + 2 * (g 1).toNatClampNeg)), (4, .int y4_103), (6, .int y6_103)]) (st' := [.int 0, .int y4_103]) [(175, .iconst 0)] (by decide +kernel) rfl ?_
                  have hl58 : (0 : Int32).toInt = 0 := by decide
                  exact (hJ176 0 (by first | assumption | omega | decide) (by
                        first | exact ⟨fun _ => by omega, fun _ => rfl⟩ | exact ⟨fun e => absurd e (by decide), fun e => by omega⟩)).more (zfa1 rfl (zfa1 rfl (zfa1 rfl (zfa1 rfl (zfa1 rfl (zfa1 rfl (zfa0)))))))
                ·
                  have f60 := znltI cc168
                  rw [show (25 : Int32).toInt = 25 from by decide] at f60
                  refine zp_seg (pc' := 176) (lv' := [(5, .int z0_142), (0, .ref m), (1, .ref a), (2, .int o9), (3, .ref (m + 276 + 2 * (g 1).toNatClampNeg)), (4, .int y4_103), (6, .int y6_103)]) (st' := [.int 1, .int y4_103]) [(171, .iconst 1), (172, .goto 4)] (by decide +kernel) rfl ?_
                  have hl61 : (1 : Int32).toInt = 1 := by decide
                  exact (hJ176 1 (by first | assumption | omega | decide) (by
                        first | exact ⟨fun _ => by omega, fun _ => rfl⟩ | exact ⟨fun e => absurd e (by decide), fun e => by omega⟩)).more (zfa1 rfl (zfa1 rfl (zfa1 rfl (zfa1 rfl (zfa1 rfl (zfa1 rfl (zfa0)))))))
              refine zp_if (i := .if_icmp .ne 16) (c := ¬ y6_103 = o9) (t := 140) (e := 127) (lv' := [(0, .ref m), (1, .ref a), (2, .int o9), (3, .ref (m + 276 + 2 * (g 1).toNatClampNeg)), (4, .int y4_103), (5, .int y5_103), (6, .int y6_103)]) (st' := []) (by decide +kernel) rfl (fun cc124 => ?_) (fun cc124 => ?_)
              ·
                have f62 := zneI cc124
                refine zp_seg (pc' := 142) (lv' := [(0, .ref m), (1, .ref a), (2, .int o9), (3, .ref (m + 276 + 2 * (g 1).toNatClampNeg)), (4, .int y4_103), (5, .int y5_103), (6, .int y6_103)]) (st' := [.int y5_103]) [(140, .iload 5)] (by decide +kernel) rfl ?_
                exact (hJ142 y5_103 (by
                      first | exact ⟨hr134.1, fun _ hq e => zinvF_ne (zhd_nz hq) (by rw [← hr131.2, ← hr134.2, e, zf_0])⟩ | exact ⟨hh9, fun e => by omega⟩)).more (zfa1 rfl (zfa1 rfl (zfa1 rfl (zfa1 rfl (zfa1 rfl (zfa1 rfl (zfa0)))))))
              ·
                replace cc124 := Classical.not_not.mp cc124
                have f63 := zeqI cc124
                refine zp_seg (pc' := 130) (lv' := [(0, .ref m), (1, .ref a), (2, .int o9), (3, .ref (m + 276 + 2 * (g 1).toNatClampNeg)), (4, .int y4_103), (5, .int y5_103), (6, .int y6_103)]) (st' := [.int y6_103, .ref a]) [(127, .aload_n 1), (128, .iload 6)] (by decide +kernel) rfl ?_
                have hb64 : w118 a = some (.inr (4, 8, .inr fa)) := (heq118 a (by omega)).trans hb34
                refine zr_aald (v := .ref (A0 + 2 * y6_103.toNatClampNeg)) (by decide +kernel) hb64 (by decide) (zin (by first | omega | decide) (by first | omega | decide)) (by rw [hfa _ (by omega)]; rfl) ?_
                obtain ⟨n65, f66, hu67, hu68, hu69, hu70, hu71⟩ := id hp118_0
                have kn65 := zrng n65
                refine zr_callV (idx := 66) (j := 253) (by decide +kernel) (by decide +kernel) (show zMe 253 = some zq_X15_head from rfl) rfl rfl (Nat.le_of_ble_eq_true rfl) rfl rfl hu67 (Nat.le_of_ble_eq_true rfl) (Nat.le_of_ble_eq_true rfl) (c_X15_head (w := w118) (A0 + 2 * y6_103.toNatClampNeg) hp118_0) (by omega) (fun v131 w131 hp131 => ?_)
                obtain ⟨hpw131, r131, rfl, hr131⟩ := hp131
                replace hpw131 := hpw131.symm
                subst hpw131
                have kr131 := zrng r131
                show zP _ _ _ _ [.int r131] _ _ _ _ _
                refine zr_callS (idx := 13) (j := 259) (by decide +kernel) (by decide +kernel) (by decide) (show zMe 259 = some zq_X16_inv from rfl) rfl rfl (Nat.le_of_ble_eq_true rfl) rfl rfl (Nat.le_of_ble_eq_true rfl) (Nat.le_of_ble_eq_true rfl) (c_X16_inv (w := w118) r131 (by first | exact hr131.1 | omega | decide | assumption | exact zr1_1 | exact zr1_0 | fail "num")) (by omega) (fun v134 w134 hp134 => ?_)
                obtain ⟨hpw134, r134, rfl, hr134⟩ := hp134
                replace hpw134 := hpw134.symm
                subst hpw134
                have kr134 := zrng r134
                show zP _ _ _ _ [.int r134] _ _ _ _ _
                refine zp_seg (pc' := 142) (lv' := [(0, .ref m), (1, .ref a), (2, .int o9), (3, .ref (m + 276 + 2 * (g 1).toNatClampNeg)), (4, .int y4_103), (5, .int y5_103), (6, .int y6_103)]) (st' := [.int r134]) [(137, .goto 5)] (by decide +kernel) rfl ?_
                exact (hJ142 r134 (by
                      first | exact ⟨hr134.1, fun _ hq e => zinvF_ne (zhd_nz hq) (by rw [← hr131.2, ← hr134.2, e, zf_0])⟩ | exact ⟨hh9, fun e => by omega⟩)).more (zfa1 rfl (zfa1 rfl (zfa1 rfl (zfa1 rfl (zfa1 rfl (zfa1 rfl (zfa0)))))))
          have hl72 : (1 : Int32).toInt = 1 := by decide
          exact (hL103 _ wL69 1 1 o9 (za) zSI.rf (fun _ _ => rfl) (by first | assumption | omega | decide) (by first | assumption | omega | decide) (by first | assumption | omega | decide) hAz hmL69 (by
                exact zr1_1) (by
                exact fun t ht => (hP t (by omega)).ag (fun x g1 g2 => ((heqL69 x (by omega)).trans ((heq63 x (by omega)).trans ((heq55 x (by omega)).trans ((heq47 x (by omega)).trans ((heq39 x (by omega)).trans ((heqL13 x (by omega)).trans ((heq7 x (by omega)).trans (heq1 x (by omega))))))))))) (by
                exact ⟨hz9, fun e => absurd e (by omega), fun _ => rfl⟩) (Nat.lt_succ_self _)).more (zfa1 rfl (zfa1 rfl (zfa1 rfl (zfa1 rfl (zfa1 rfl (zfa1 rfl (zfa1 rfl (zfa0))))))))
        ·
          have f74 := znleI cc74
          rw [show (175 : Int32).toInt = 175 from by decide] at f74
          refine zp_seg (pc' := 78) (lv' := [(0, .ref m), (1, .ref a), (2, .int o9), (3, .ref (m + 276 + 2 * (g 1).toNatClampNeg)), (4, .int y4_69)]) (st' := [.ref m]) [(77, .aload_n 0)] (by decide +kernel) rfl ?_
          refine zr_get (idx := 453) (k := 21) (v := .ref (m + 83)) (by decide +kernel) (by decide +kernel) hmL69 rfl ?_
          have hb75 : wL69 (m + 83) = some (.inl (13, zTo (m + 83) (zs (zs (zs (zs (zs (zs gt 0 4) 3 1) 4 1) 5 0) 10 o9) 13 0))) := (heqL69 (m + 83) ⟨(zx_X16_makeRow_14), (zx_X16_makeRow_6)⟩).trans hc63
          refine zr_get (idx := 237) (k := 11) (v := .ref (m + 83 + 7)) (by decide +kernel) (by decide +kernel) hb75 rfl ?_
          refine zp_seg (pc' := 87) (lv' := [(0, .ref m), (1, .ref a), (2, .int o9), (3, .ref (m + 276 + 2 * (g 1).toNatClampNeg)), (4, .int y4_69)]) (st' := [.int 0, .int y4_69, .ref (m + 83 + 7)]) [(84, .iload 4), (86, .iconst 0)] (by decide +kernel) rfl ?_
          refine zr_iast (by decide +kernel) hAz (zin (by first | omega | decide) (by first | omega | decide)) ?_
          show zP (d + 1) zq_X16_makeRow 88 [(0, .ref m), (1, .ref a), (2, .int o9), (3, .ref (m + 276 + 2 * (g 1).toNatClampNeg)), (4, .int y4_69)] [] (zup wL69 (m + 83 + 7) (.inr (0, 175, .inl (upd za (y4_69.toNatClampNeg) 0)))) sz 0 0 Post
          obtain ⟨w87, ew87⟩ : ∃ wz9, wz9 = zup wL69 (m + 83 + 7) (.inr (0, 175, .inl (upd za (y4_69.toNatClampNeg) 0))) := ⟨_, rfl⟩
          have hsi87 : zSI wL69 w87 := by rw [ew87]; exact zSI.arr _ hAz
          have heq87 : ∀ x, x ≠ m + 83 + 7 → w87 x = wL69 x := fun x hx => by rw [ew87]; exact zup_n hx
          have hc87 : w87 (m + 83 + 7) = some (.inr (0, 175, .inl (upd za (y4_69.toNatClampNeg) 0))) := by rw [ew87]; exact zup_s
          rw [← ew87]
          clear ew87
          refine zp_seg (pc' := 91) (lv' := [(4, .int (y4_69 + 1)), (0, .ref m), (1, .ref a), (2, .int o9), (3, .ref (m + 276 + 2 * (g 1).toNatClampNeg))]) (st' := []) [(88, .iinc 4 1)] (by decide +kernel) rfl ?_
          have k76 := zaddC y4_69 1 (n := 1) (by decide) (by omega) (by omega)
          generalize ev91 : (y4_69 + 1 : Int32) = v91 at k76 ⊢
          have kv91 := zrng v91
          refine zp_seg (pc' := 69) (lv' := [(4, .int v91), (0, .ref m), (1, .ref a), (2, .int o9), (3, .ref (m + 276 + 2 * (g 1).toNatClampNeg))]) (st' := []) [(91, .goto (-22))] (by decide +kernel) rfl ?_
          have hz77 : (v91.toNatClampNeg : Int) = v91.toInt := znat (by first | omega | decide)
          have hb78 : w87 m = some (.inl (15, zMo m (zs g 1 (g 1 + 1)) r)) := (heq87 m (zx_X16_makeRow_29)).trans hmL69
          exact (ih69 w87 v91 ((upd za (y4_69.toNatClampNeg) 0)) (hsiL69.tr hsi87) (fun x hx => ((heq87 x (zx_X16_makeRow_28 hx.1)).trans (heqL69 x ⟨hx.1, hx.2⟩))) (by first | assumption | omega | decide) (by first | assumption | omega | decide) hc87 hb78 (by
                exact zall_up hz9 zr1_0) (by omega)).more (zfa1 rfl (zfa1 rfl (zfa1 rfl (zfa1 rfl (zfa1 rfl (zfa0))))))
      have hl79 : (0 : Int32).toInt = 0 := by decide
      have hz80 : ((0 : Int32).toNatClampNeg : Int) = 0 := by decide
      have hb81 : w63 (m + 83 + 7) = some (.inr (0, 175, .inl fr)) := ((heq63 (m + 83 + 7) (zx_X16_makeRow_36)).trans ((heq55 (m + 83 + 7) (zx_X16_makeRow_36)).trans ((heq47 (m + 83 + 7) (zx_X16_makeRow_36)).trans ((heq39 (m + 83 + 7) (zx_X16_makeRow_35)).trans ((heqL13 (m + 83 + 7) ⟨⟨(zx_X16_makeRow_31 hgb1), (zx_X16_makeRow_33 hgn1_1 hgb1)⟩, (zx_X16_makeRow_34)⟩).trans ((heq7 (m + 83 + 7) (zx_X16_makeRow_32 hgb1)).trans (heq1 (m + 83 + 7) ⟨(zx_X16_makeRow_30), (zx_X16_makeRow_31 hgb1)⟩))))))).trans hA_m_83_7
      exact (hL69 _ w63 0 (fr) zSI.rf (fun _ _ => rfl) (by first | assumption | omega | decide) (by first | assumption | omega | decide) hb81 hb23 (by
            exact hfr) (Nat.lt_succ_self _)).more (zfa1 rfl (zfa1 rfl (zfa1 rfl (zfa1 rfl (zfa1 rfl (zfa0))))))
    ·
      have f82 := znltI cc16
      refine zp_seg (pc' := 25) (lv' := [(0, .ref m), (1, .ref a), (2, .int o9), (3, .ref (m + 276 + 2 * (g 1).toNatClampNeg)), (4, .int y4_13)]) (st' := [.int y4_13, .ref a, .ref (m + 276 + 2 * (g 1).toNatClampNeg), .ref (m + 276 + 2 * (g 1).toNatClampNeg), .ref m]) [(19, .aload_n 0), (20, .aload_n 3), (21, .aload_n 3), (22, .aload_n 1), (23, .iload 4)] (by decide +kernel) rfl ?_
      have hb83 : wL13 a = some (.inr (4, 8, .inr fa)) := ((heqL13 a ⟨⟨(zx_X16_makeRow_20 ham hgb1), (zx_X16_makeRow_22 ham hgn1_1 hgb1)⟩, (zx_X16_makeRow_23 ham)⟩).trans ((heq7 a (zx_X16_makeRow_21 ham hgb1)).trans (heq1 a ⟨(zx_X16_makeRow_19 ham), (zx_X16_makeRow_20 ham hgb1)⟩))).trans hV_a
      refine zr_aald (v := .ref (A0 + 2 * y4_13.toNatClampNeg)) (by decide +kernel) hb83 (by decide) (zin (by first | omega | decide) (by first | omega | decide)) (by rw [hfa _ (by omega)]; rfl) ?_
      have hUj9 := (hP y4_13.toNatClampNeg (by omega)).ag (w' := wL13) (fun x g1 g2 => ((heqL13 x (by omega)).trans ((heq7 x (by omega)).trans (heq1 x (by omega)))))
      have hcj9 := hUj9.cap
      have hgl9 := zgcd_le (p := G9) (q := P y4_13.toNatClampNeg)
      have hgc9 := (hUG).cap
      have hb84 := hR_m.si ((hsi1.tr hsi7).tr hsiL13)
      have ho26_to := zU.o hUG
      refine zr_callV (idx := 125) (j := 270) (by decide +kernel) (by decide +kernel) (show zMe 270 = some zq_X16_gcd from rfl) rfl rfl (Nat.le_of_ble_eq_true rfl) rfl rfl hmL13 (Nat.le_of_ble_eq_true rfl) (Nat.le_of_ble_eq_true rfl) (c_X16_gcd (w := wL13) (g1 := (g 1 + 1)) m (m + 276 + 2 * (g 1).toNatClampNeg) (m + 276 + 2 * (g 1).toNatClampNeg) (A0 + 2 * y4_13.toNatClampNeg) hmL13 hb84 ho26_to hUG hUj9 (by first | omega | decide | assumption | exact zr1_1 | exact zr1_0 | fail "num") (by first | omega | decide | assumption | exact zr1_1 | exact zr1_0 | fail "num") (by first | omega | decide | assumption | exact zr1_1 | exact zr1_0 | fail "num") (by first | omega | decide | assumption | exact zr1_1 | exact zr1_0 | fail "num") (by first | omega | decide | assumption | exact zr1_1 | exact zr1_0 | fail "num") (by first | omega | decide | assumption | exact zr1_1 | exact zr1_0 | fail "num") (by first | omega | decide | assumption | exact zr1_1 | exact zr1_0 | fail "num") rfl) (by omega) (fun v26 w26 hp26 => ?_)
      obtain ⟨hsi26, heq26, hp26_0, rfl⟩ := hp26
      show zP _ _ _ _ [] _ _ _ _ _
      refine zp_seg (pc' := 32) (lv' := [(4, .int (y4_13 + 1)), (0, .ref m), (1, .ref a), (2, .int o9), (3, .ref (m + 276 + 2 * (g 1).toNatClampNeg))]) (st' := []) [(29, .iinc 4 1)] (by decide +kernel) rfl ?_
      have k85 := zaddC y4_13 1 (n := 1) (by decide) (by omega) (by omega)
      generalize ev32 : (y4_13 + 1 : Int32) = v32 at k85 ⊢
      have kv32 := zrng v32
      refine zp_seg (pc' := 13) (lv' := [(4, .int v32), (0, .ref m), (1, .ref a), (2, .int o9), (3, .ref (m + 276 + 2 * (g 1).toNatClampNeg))]) (st' := []) [(32, .goto (-19))] (by decide +kernel) rfl ?_
      have hz86 : (v32.toNatClampNeg : Int) = v32.toInt := znat (by first | omega | decide)
      have hb87 : w26 m = some (.inl (15, zMo m (zs g 1 (g 1 + 1)) r)) := (heq26 m ⟨(zx_X16_makeRow_37 hgb1), (zx_X16_makeRow_38 hgn1_1 hgb1)⟩).trans hmL13
      exact (ih13 w26 v32 ((zgcd G9 (P y4_13.toNatClampNeg))) (hsiL13.tr hsi26) (fun x hx => ((heq26 x ⟨hx.1.1, hx.1.2⟩).trans (heqL13 x ⟨⟨hx.1.1, hx.1.2⟩, hx.2⟩))) (by first | assumption | omega | decide) (by first | assumption | omega | decide) hp26_0 hb87 (by
            intro e
            have h9 : y4_13.toNatClampNeg = o9.toNatClampNeg := by omega
            have h8 := zgcd_le2 (p := G9) (q := P y4_13.toNatClampNeg) (by rw [h9]; exact hP0)
            rw [h9] at h8
            rw [h9]
            exact h8) (by omega)).more (zfa1 rfl (zfa1 rfl (zfa1 rfl (zfa1 rfl (zfa1 rfl (zfa0))))))
  have hl88 : (0 : Int32).toInt = 0 := by decide
  have hz89 : ((0 : Int32).toNatClampNeg : Int) = 0 := by decide
  exact (hL13 _ w7 0 (zaZ) zSI.rf (fun _ _ => rfl) (by first | assumption | omega | decide) (by first | assumption | omega | decide) hG00 hb16 (by
        exact fun e => absurd e (by omega)) (Nat.lt_succ_self _)).more (zfa1 rfl (zfa1 rfl (zfa1 rfl (zfa1 rfl (zfa1 rfl (zfa0))))))
