theorem zx_X16_lighten_0 {G1_0 dn9 m x : Nat} (h0 : dn9 ≤ x) (h1 : x < dn9 + 2) (h2 : m + 276 ≤ dn9 ∧ dn9 + 2 ≤ m + 276 + 2 * G1_0) (h3 : G1_0 + 4 ≤ 160) : x < m ∨ m + 1 ≤ x := by omega
theorem zx_X16_lighten_1 {G1_0 dn9 m x : Nat} (h0 : dn9 ≤ x) (h1 : x < dn9 + 2) (h2 : m + 276 ≤ dn9 ∧ dn9 + 2 ≤ m + 276 + 2 * G1_0) (h3 : G1_0 + 4 ≤ 160) : x < m + 276 + 2 * G1_0 ∨ m + 276 + 2 * G1_0 + 2 ≤ x := by omega
theorem zx_X16_lighten_2 {G1_0 m : Nat} (h0 : G1_0 + 4 ≤ 160) : m < m + 276 + 2 * G1_0 ∨ m + 276 + 2 * G1_0 + 2 ≤ m := by omega
theorem zx_X16_lighten_3 {G1_0 G1_1 dn9 m x : Nat} (h0 : dn9 ≤ x) (h1 : x < dn9 + 2) (h2 : m + 276 ≤ dn9 ∧ dn9 + 2 ≤ m + 276 + 2 * G1_0) (h3 : G1_1 = G1_0 + 1) (h4 : G1_0 + 4 ≤ 160) : x < m + 276 + 2 * G1_1 ∨ m + 276 + 2 * G1_1 + (320 - 2 * G1_1) ≤ x := by omega
theorem zx_X16_lighten_4 {G1_0 dn9 m x : Nat} (h0 : dn9 ≤ x) (h1 : x < dn9 + 2) (h2 : m + 276 ≤ dn9 ∧ dn9 + 2 ≤ m + 276 + 2 * G1_0) (h3 : G1_0 + 4 ≤ 160) : x ≠ m := by omega
theorem zx_X16_lighten_5 {G1_0 dn9 m : Nat} (h0 : m + 276 ≤ dn9 ∧ dn9 + 2 ≤ m + 276 + 2 * G1_0) (h1 : G1_0 + 4 ≤ 160) : m < dn9 ∨ dn9 + 2 ≤ m := by omega
theorem zx_X16_lighten_6 {G1_0 G1_1 m : Nat} (h0 : G1_1 = G1_0 + 1) (h1 : G1_0 + 4 ≤ 160) : m < m + 276 + 2 * G1_1 ∨ m + 276 + 2 * G1_1 + (320 - 2 * G1_1) ≤ m := by omega
theorem zx_X16_lighten_7 {G1_0 m x : Nat} (h0 : x < m + 276 + 2 * G1_0 ∨ m + 276 + 2 * G1_0 + (320 - 2 * G1_0) ≤ x) (h1 : G1_0 + 4 ≤ 160) : x < m + 276 + 2 * G1_0 ∨ m + 276 + 2 * G1_0 + 2 ≤ x := by omega
theorem zx_X16_lighten_8 {G1_0 G1_1 m x : Nat} (h0 : x < m + 276 + 2 * G1_0 ∨ m + 276 + 2 * G1_0 + (320 - 2 * G1_0) ≤ x) (h1 : G1_1 = G1_0 + 1) (h2 : G1_0 + 4 ≤ 160) : x < m + 276 + 2 * G1_1 ∨ m + 276 + 2 * G1_1 + (320 - 2 * G1_1) ≤ x := by omega
theorem zx_X16_lighten_9 {m x : Nat} (h0 : x < m ∨ m + 1 ≤ x) : x ≠ m := by omega
theorem zx_X16_lighten_10 {a9 m : Nat} (h0 : m + 100 ≤ a9 ∧ a9 < m + 276) : a9 < m ∨ m + 1 ≤ a9 := by omega
theorem zx_X16_lighten_11 {G1_0 a9 m : Nat} (h0 : m + 100 ≤ a9 ∧ a9 < m + 276) (h1 : G1_0 + 4 ≤ 160) : a9 < m + 276 + 2 * G1_0 ∨ m + 276 + 2 * G1_0 + 2 ≤ a9 := by omega
theorem zx_X16_lighten_12 {G1_0 G1_1 a9 m : Nat} (h0 : m + 100 ≤ a9 ∧ a9 < m + 276) (h1 : G1_1 = G1_0 + 1) (h2 : G1_0 + 4 ≤ 160) : a9 < m + 276 + 2 * G1_1 ∨ m + 276 + 2 * G1_1 + (320 - 2 * G1_1) ≤ a9 := by omega
theorem zx_X16_lighten_13 {a9 m : Nat} (h0 : m + 100 ≤ a9 ∧ a9 < m + 276) : a9 ≠ m := by omega
set_option maxHeartbeats 8000000 in
set_option maxRecDepth 100000 in
theorem c_X16_lighten {w : zM} {g : Nat → Int32} {r : Nat → Value} {fa : Nat → Option Nat} {D : zA1}  {g1 : Int32} (m : Nat) (a9 : Nat) (dn9 : Nat) (o9 : Int32) (A0 : Nat) (P : Nat → zA1) (hm : w m = some (.inl (15, zMo m g r))) (hR_m : zR m w) (hV_a9 : w a9 = some (.inr (4, 6, .inr fa))) (hU_dn9 : zU w dn9 1000 D) (hut : 0 ≤ g1.toInt ∧ g1.toInt + 4 ≤ 160) (ho : 0 ≤ o9.toInt ∧ o9.toInt ≤ 6) (hfa : ∀ j, j < o9.toNatClampNeg → fa j = some (A0 + 2 * j)) (hA0 : m + 276 ≤ A0 ∧ A0 + 2 * o9.toNatClampNeg ≤ m + 276 + 2 * g1.toNatClampNeg) (hdn : m + 276 ≤ dn9 ∧ dn9 + 2 ≤ m + 276 + 2 * g1.toNatClampNeg) (hdA : dn9 + 2 ≤ A0) (ham : m + 100 ≤ a9 ∧ a9 < m + 276) (hP : ∀ j, j < o9.toNatClampNeg → zU w (A0 + 2 * j) 1000 (P j) ∧ zln (P j) ≤ 499) (hD : 0 < zln D ∧ zln D ≤ 499) (hg1 : g 1 = g1) : zCon 5 zq_X16_lighten [.ref m, .ref a9, .ref dn9, .int o9] w (fun v9 w9' => ∃ D9 : zA1, ∃ Qf : Nat → zA1, zSI w w9' ∧ (∀ x, (x < m ∨ m + 1 ≤ x) ∧ (x < dn9 ∨ dn9 + 2 ≤ x) ∧ (x < A0 ∨ A0 + (2 * o9.toNatClampNeg) ≤ x) ∧ (x < m + 276 + 2 * g1.toNatClampNeg ∨ m + 276 + 2 * g1.toNatClampNeg + (320 - 2 * g1.toNatClampNeg) ≤ x) → w9' x = w x) ∧ w9' m = some (.inl (15, zMo m g r)) ∧ zU w9' dn9 1000 D9 ∧ (0 < zln D9 ∧ zln D9 ≤ zln D) ∧ (∀ t, t < o9.toNatClampNeg → zU w9' (A0 + 2 * t) 1000 (Qf t) ∧ zln (Qf t) ≤ zln (P t)) ∧ v9 = none) := by
  subst hg1
  intro d sz hd
  obtain ⟨d, rfl⟩ : ∃ d9, d = d9 + 1 := ⟨d - 1, by omega⟩
  generalize hPost : (fun (r9' : Option (Option Value)) (w9' : zM) (z9 : Nat) => z9 = sz ∧ ∃ v9, r9' = some v9 ∧ (∃ D9 : zA1, ∃ Qf : Nat → zA1, zSI w w9' ∧ (∀ x, (x < m ∨ m + 1 ≤ x) ∧ (x < dn9 ∨ dn9 + 2 ≤ x) ∧ (x < A0 ∨ A0 + (2 * o9.toNatClampNeg) ≤ x) ∧ (x < m + 276 + 2 * (g 1).toNatClampNeg ∨ m + 276 + 2 * (g 1).toNatClampNeg + (320 - 2 * (g 1).toNatClampNeg) ≤ x) → w9' x = w x) ∧ w9' m = some (.inl (15, zMo m g r)) ∧ zU w9' dn9 1000 D9 ∧ (0 < zln D9 ∧ zln D9 ≤ zln D) ∧ (∀ t, t < o9.toNatClampNeg → zU w9' (A0 + 2 * t) 1000 (Qf t) ∧ zln (Qf t) ≤ zln (P t)) ∧ v9 = none)) = Post
  show zP (d + 1) zq_X16_lighten 0 [(0, .ref m), (1, .ref a9), (2, .ref dn9), (3, .int o9)] [] w sz 0 0 Post
  have k1 := zrng o9
  have k2 := zrng (g 1)
  have hz3 : ((g 1).toNatClampNeg : Int) = (g 1).toInt := znat (by first | omega | decide)
  have hgb1 : (g 1).toNatClampNeg + 4 ≤ 160 := by omega
  have hz4 : (o9.toNatClampNeg : Int) = o9.toInt := znat (by first | omega | decide)
  have k6 := zaddC (g 1) 1 (n := 1) (by decide) (by omega) (by omega)
  have hz7 : ((g 1 + 1).toNatClampNeg : Int) = (g 1 + 1).toInt := znat (by first | omega | decide)
  have hgn1_1 : (g 1 + 1).toNatClampNeg = (g 1).toNatClampNeg + 1 := by omega
  refine zp_seg (pc' := 1) (lv' := [(0, .ref m), (1, .ref a9), (2, .ref dn9), (3, .int o9)]) (st' := [.ref m]) [(0, .aload_n 0)] (by decide +kernel) rfl ?_
  refine zr_callV (idx := 74) (j := 263) (by decide +kernel) (by decide +kernel) (show zMe 263 = some zq_X16_newU from rfl) rfl rfl (Nat.le_of_ble_eq_true rfl) rfl rfl hm (Nat.le_of_ble_eq_true rfl) (Nat.le_of_ble_eq_true rfl) (c_X16_newU (w := w) (g1 := (g 1)) m hm hR_m (by first | omega | decide | assumption | exact zr1_1 | exact zr1_0 | fail "num") rfl) (by omega) (fun v1 w1 hp1 => ?_)
  obtain ⟨hsi1, heq1, hp1_0, hp1_1, rfl⟩ := hp1
  have hM1 : w1 m = some (.inl (15, zMo m (zs g 1 (g 1 + 1)) r)) := hp1_0
  show zP _ _ _ _ [.ref (m + 276 + 2 * (g 1).toNatClampNeg)] _ _ _ _ _
  refine zp_seg (pc' := 9) (lv' := [(4, .ref (m + 276 + 2 * (g 1).toNatClampNeg)), (0, .ref m), (1, .ref a9), (2, .ref dn9), (3, .int o9)]) (st' := [.ref dn9, .ref (m + 276 + 2 * (g 1).toNatClampNeg)]) [(4, .astore 4), (6, .aload 4), (8, .aload_n 2)] (by decide +kernel) rfl ?_
  have ho9_to := zU.o hp1_1
  have hb8 : zU w1 dn9 1000 D := hU_dn9.ag (fun x hx1 hx2 => (heq1 x ⟨(zx_X16_lighten_0 hx1 hx2 hdn hgb1), (zx_X16_lighten_1 hx1 hx2 hdn hgb1)⟩))
  refine zr_callS (idx := 62) (j := 264) (by decide +kernel) (by decide +kernel) (by decide) (show zMe 264 = some zq_X16_set from rfl) rfl rfl (Nat.le_of_ble_eq_true rfl) rfl rfl (Nat.le_of_ble_eq_true rfl) (Nat.le_of_ble_eq_true rfl) (c_X16_set (w := w1) (m + 276 + 2 * (g 1).toNatClampNeg) dn9 ho9_to hb8 (by first | omega | decide | assumption | exact zr1_1 | exact zr1_0 | fail "num") (by first | omega | decide | assumption | exact zr1_1 | exact zr1_0 | fail "num")) (by omega) (fun v9 w9 hp9 => ?_)
  obtain ⟨hsi9, heq9, hp9_0, rfl⟩ := hp9
  show zP _ _ _ _ [] _ _ _ _ _
  refine zp_seg (pc' := 15) (lv' := [(5, .int 0), (4, .ref (m + 276 + 2 * (g 1).toNatClampNeg)), (0, .ref m), (1, .ref a9), (2, .ref dn9), (3, .int o9)]) (st' := []) [(12, .iconst 0), (13, .istore 5)] (by decide +kernel) rfl ?_
  have hb9 : w9 m = some (.inl (15, zMo m (zs g 1 (g 1 + 1)) r)) := (heq9 m (zx_X16_lighten_2 hgb1)).trans hM1
  have hL15 : ∀ (mm15 : Nat) (wL15 : zM) (y5_15 : Int32) (G9 : zA1), (zSI w9 wL15) → (∀ x, ((x < m + 276 + 2 * (g 1).toNatClampNeg ∨ m + 276 + 2 * (g 1).toNatClampNeg + 2 ≤ x) ∧ (x < m + 276 + 2 * (g 1 + 1).toNatClampNeg ∨ m + 276 + 2 * (g 1 + 1).toNatClampNeg + (320 - 2 * (g 1 + 1).toNatClampNeg) ≤ x)) ∧ x ≠ m → wL15 x = w9 x) → (0 ≤ y5_15.toInt) → (y5_15.toInt ≤ o9.toInt) → (zU wL15 (m + 276 + 2 * (g 1).toNatClampNeg) 1000 G9) → (wL15 m = some (.inl (15, zMo m (zs g 1 (g 1 + 1)) r))) → (0 < zln G9 ∧ zln G9 ≤ zln D) → (20 - y5_15.toInt).toNat < mm15 → zP (d + 1) zq_X16_lighten 15 [(0, .ref m), (1, .ref a9), (2, .ref dn9), (3, .int o9), (4, .ref (m + 276 + 2 * (g 1).toNatClampNeg)), (5, .int y5_15)] [] wL15 sz 0 0 Post := by
    intro mm15
    induction mm15 with
    | zero => intros; omega
    | succ mm15 ih15 =>
    intro wL15 y5_15 G9 hsiL15 heqL15 hi15_0 hi15_1 hUG hmL15 hG9 hmu15
    have ky5_15 := zrng y5_15
    have hz10 : (y5_15.toNatClampNeg : Int) = y5_15.toInt := znat (by first | omega | decide)
    refine zp_seg (pc' := 18) (lv' := [(0, .ref m), (1, .ref a9), (2, .ref dn9), (3, .int o9), (4, .ref (m + 276 + 2 * (g 1).toNatClampNeg)), (5, .int y5_15)]) (st' := [.int o9, .int y5_15]) [(15, .iload 5), (17, .iload_n 3)] (by decide +kernel) rfl ?_
    have hJ48 : ∀ (_ : True), zP (d + 1) zq_X16_lighten 48 [(0, .ref m), (1, .ref a9), (2, .ref dn9), (3, .int o9), (4, .ref (m + 276 + 2 * (g 1).toNatClampNeg))] [] wL15 sz 0 0 Post := by
      intro _
      refine zp_seg (pc' := 51) (lv' := [(5, .int 0), (0, .ref m), (1, .ref a9), (2, .ref dn9), (3, .int o9), (4, .ref (m + 276 + 2 * (g 1).toNatClampNeg))]) (st' := []) [(48, .iconst 0), (49, .istore 5)] (by decide +kernel) rfl ?_
      have hL51 : ∀ (mm51 : Nat) (wL51 : zM) (y5_51 : Int32) (Qf : Nat → zA1), (zSI wL15 wL51) → (∀ x, ((x < A0 ∨ A0 + (2 * o9.toNatClampNeg) ≤ x) ∧ (x < m + 276 + 2 * (g 1 + 1).toNatClampNeg ∨ m + 276 + 2 * (g 1 + 1).toNatClampNeg + (320 - 2 * (g 1 + 1).toNatClampNeg) ≤ x)) ∧ x ≠ m → wL51 x = wL15 x) → (0 ≤ y5_51.toInt) → (y5_51.toInt ≤ o9.toInt) → (wL51 m = some (.inl (15, zMo m (zs g 1 (g 1 + 1)) r))) → (∀ t, t < o9.toNatClampNeg → zU wL51 (A0 + 2 * t) 1000 (Qf t) ∧ zln (Qf t) ≤ zln (P t)) → (20 - y5_51.toInt).toNat < mm51 → zP (d + 1) zq_X16_lighten 51 [(0, .ref m), (1, .ref a9), (2, .ref dn9), (3, .int o9), (4, .ref (m + 276 + 2 * (g 1).toNatClampNeg)), (5, .int y5_51)] [] wL51 sz 0 0 Post := by
        intro mm51
        induction mm51 with
        | zero => intros; omega
        | succ mm51 ih51 =>
        intro wL51 y5_51 Qf hsiL51 heqL51 hi51_0 hi51_1 hmL51 hQf hmu51
        have ky5_51 := zrng y5_51
        have hz11 : (y5_51.toNatClampNeg : Int) = y5_51.toInt := znat (by first | omega | decide)
        refine zp_seg (pc' := 54) (lv' := [(0, .ref m), (1, .ref a9), (2, .ref dn9), (3, .int o9), (4, .ref (m + 276 + 2 * (g 1).toNatClampNeg)), (5, .int y5_51)]) (st' := [.int o9, .int y5_51]) [(51, .iload 5), (53, .iload_n 3)] (by decide +kernel) rfl ?_
        refine zp_if (i := .if_icmp .ge 23) (c := o9 ≤ y5_51) (t := 77) (e := 57) (lv' := [(0, .ref m), (1, .ref a9), (2, .ref dn9), (3, .int o9), (4, .ref (m + 276 + 2 * (g 1).toNatClampNeg)), (5, .int y5_51)]) (st' := []) (by decide +kernel) rfl (fun cc54 => ?_) (fun cc54 => ?_)
        ·
          have f12 := zleI cc54
          have hqd9 := zquo_ln (p := D) hG9.1
          refine zp_seg (pc' := 82) (lv' := [(0, .ref m), (1, .ref a9), (2, .ref dn9), (3, .int o9), (4, .ref (m + 276 + 2 * (g 1).toNatClampNeg)), (5, .int y5_51)]) (st' := [.ref (m + 276 + 2 * (g 1).toNatClampNeg), .ref dn9, .ref dn9, .ref m]) [(77, .aload_n 0), (78, .aload_n 2), (79, .aload_n 2), (80, .aload 4)] (by decide +kernel) rfl ?_
          have hb13 := hR_m.si (((hsi1.tr hsi9).tr hsiL15).tr hsiL51)
          have hb14 : zU wL51 dn9 1000 D := hb8.ag (fun x hx1 hx2 => ((heqL51 x (by omega)).trans ((heqL15 x ⟨⟨(zx_X16_lighten_1 hx1 hx2 hdn hgb1), (zx_X16_lighten_3 hx1 hx2 hdn hgn1_1 hgb1)⟩, (zx_X16_lighten_4 hx1 hx2 hdn hgb1)⟩).trans (heq9 x (zx_X16_lighten_1 hx1 hx2 hdn hgb1)))))
          have ho82_to := zU.o hb14
          have hb15 : zU wL51 (m + 276 + 2 * (g 1).toNatClampNeg) 1000 G9 := hUG.ag (fun x hx1 hx2 => (heqL51 x (by omega)))
          refine zr_callV (idx := 110) (j := 271) (by decide +kernel) (by decide +kernel) (show zMe 271 = some zq_X16_exact from rfl) rfl rfl (Nat.le_of_ble_eq_true rfl) rfl rfl hmL51 (Nat.le_of_ble_eq_true rfl) (Nat.le_of_ble_eq_true rfl) (c_X16_exact (w := wL51) (g1 := (g 1 + 1)) m dn9 dn9 (m + 276 + 2 * (g 1).toNatClampNeg) hmL51 hb13 ho82_to hb14 hb15 (by first | omega | decide | assumption | exact zr1_1 | exact zr1_0 | fail "num") (by first | omega | decide | assumption | exact zr1_1 | exact zr1_0 | fail "num") (by first | omega | decide | assumption | exact zr1_1 | exact zr1_0 | fail "num") (by first | omega | decide | assumption | exact zr1_1 | exact zr1_0 | fail "num") (by first | omega | decide | assumption | exact zr1_1 | exact zr1_0 | fail "num") (by first | omega | decide | assumption | exact zr1_1 | exact zr1_0 | fail "num") (by first | omega | decide | assumption | exact zr1_1 | exact zr1_0 | fail "num") (by first | omega | decide | assumption | exact zr1_1 | exact zr1_0 | fail "num") rfl) (by omega) (fun v82 w82 hp82 => ?_)
          obtain ⟨hsi82, heq82, hp82_0, rfl⟩ := hp82
          show zP _ _ _ _ [] _ _ _ _ _
          refine zp_seg (pc' := 87) (lv' := [(0, .ref m), (1, .ref a9), (2, .ref dn9), (3, .int o9), (4, .ref (m + 276 + 2 * (g 1).toNatClampNeg)), (5, .int y5_51)]) (st' := [.ref m, .ref m]) [(85, .aload_n 0), (86, .dup)] (by decide +kernel) rfl ?_
          have hb16 : w82 m = some (.inl (15, zMo m (zs g 1 (g 1 + 1)) r)) := (heq82 m ⟨(zx_X16_lighten_5 hdn hgb1), (zx_X16_lighten_6 hgn1_1 hgb1)⟩).trans hmL51
          refine zr_get (idx := 21) (k := 1) (v := .int ((g 1 + 1))) (by decide +kernel) (by decide +kernel) hb16 rfl ?_
          refine zp_seg (pc' := 92) (lv' := [(0, .ref m), (1, .ref a9), (2, .ref dn9), (3, .int o9), (4, .ref (m + 276 + 2 * (g 1).toNatClampNeg)), (5, .int y5_51)]) (st' := [.int (((g 1 + 1)) - 1), .ref m]) [(90, .iconst 1), (91, .isub)] (by decide +kernel) rfl ?_
          have k17 := zsubC (((g 1 + 1))) 1 (n := 1) (by decide) (by omega) (by omega)
          generalize ev92 : (((g 1 + 1)) - 1 : Int32) = v92 at k17 ⊢
          have kv92 := zrng v92
          refine zr_put2 (idx := 21) (k := 1) (fs2 := zMo m (zs g 1 v92) r) (by decide +kernel) (by decide +kernel) hb16 (Nat.le_of_ble_eq_true rfl) rfl rfl rfl ?_
          show zP (d + 1) zq_X16_lighten 95 [(0, .ref m), (1, .ref a9), (2, .ref dn9), (3, .int o9), (4, .ref (m + 276 + 2 * (g 1).toNatClampNeg)), (5, .int y5_51)] [] (zup w82 m (.inl (15, zMo m (zs g 1 v92) r))) sz 0 0 Post
          obtain ⟨w92, ew92⟩ : ∃ wz9, wz9 = zup w82 m (.inl (15, zMo m (zs g 1 v92) r)) := ⟨_, rfl⟩
          have hsi92 : zSI w82 w92 := by rw [ew92]; exact zSI.setG hb16 _ _
          have heq92 : ∀ x, x ≠ m → w92 x = w82 x := fun x hx => by rw [ew92]; exact zup_n hx
          have hc92 : w92 m = some (.inl (15, zMo m (zs g 1 v92) r)) := by rw [ew92]; exact zup_s
          rw [← ew92]
          clear ew92
          have hoffend : ∀ x, (x < m ∨ m + 1 ≤ x) ∧ (x < dn9 ∨ dn9 + 2 ≤ x) ∧ (x < A0 ∨ A0 + (2 * o9.toNatClampNeg) ≤ x) ∧ (x < m + 276 + 2 * (g 1).toNatClampNeg ∨ m + 276 + 2 * (g 1).toNatClampNeg + (320 - 2 * (g 1).toNatClampNeg) ≤ x) → w92 x = w x := fun x hx => ((heq92 x (zx_X16_lighten_9 hx.1)).trans ((heq82 x ⟨hx.2.1, (zx_X16_lighten_8 hx.2.2.2 hgn1_1 hgb1)⟩).trans ((heqL51 x ⟨⟨hx.2.2.1, (zx_X16_lighten_8 hx.2.2.2 hgn1_1 hgb1)⟩, (zx_X16_lighten_9 hx.1)⟩).trans ((heqL15 x ⟨⟨(zx_X16_lighten_7 hx.2.2.2 hgb1), (zx_X16_lighten_8 hx.2.2.2 hgn1_1 hgb1)⟩, (zx_X16_lighten_9 hx.1)⟩).trans ((heq9 x (zx_X16_lighten_7 hx.2.2.2 hgb1)).trans (heq1 x ⟨hx.1, (zx_X16_lighten_7 hx.2.2.2 hgb1)⟩))))))
          have hb18 : zU w92 dn9 1000 (zquo D G9) := hp82_0.ag (fun x hx1 hx2 => (heq92 x (zx_X16_lighten_4 hx1 hx2 hdn hgb1)))
          refine zr_retV (by decide +kernel) rfl ?_
          rw [← hPost]; exact ⟨rfl, _, rfl, (zquo D G9), Qf, (((((hsi1.tr hsi9).tr hsiL15).tr hsiL51).tr hsi82).tr hsi92), hoffend, (by
                exact zM1 hc92 (by omega)), (by first | exact hb18 | (have z9 := hb18; simpa using z9)), (by
                exact ⟨by omega, by omega⟩), (by
                exact fun t ht => ⟨(hQf t ht).1.ag (fun x g1 g2 => ((heq92 x (by omega)).trans (heq82 x (by omega)))), (hQf t ht).2⟩), rfl⟩
        ·
          have f19 := znleI cc54
          have hUj9 := (hQf y5_51.toNatClampNeg (by omega)).1
          have hlj9 := (hQf y5_51.toNatClampNeg (by omega)).2
          have hlp9 := (hP y5_51.toNatClampNeg (by omega)).2
          have hqj9 := zquo_ln (p := Qf y5_51.toNatClampNeg) hG9.1
          refine zp_seg (pc' := 61) (lv' := [(0, .ref m), (1, .ref a9), (2, .ref dn9), (3, .int o9), (4, .ref (m + 276 + 2 * (g 1).toNatClampNeg)), (5, .int y5_51)]) (st' := [.int y5_51, .ref a9, .ref m]) [(57, .aload_n 0), (58, .aload_n 1), (59, .iload 5)] (by decide +kernel) rfl ?_
          have hb20 : wL51 a9 = some (.inr (4, 6, .inr fa)) := ((heqL51 a9 (by omega)).trans ((heqL15 a9 ⟨⟨(zx_X16_lighten_11 ham hgb1), (zx_X16_lighten_12 ham hgn1_1 hgb1)⟩, (zx_X16_lighten_13 ham)⟩).trans ((heq9 a9 (zx_X16_lighten_11 ham hgb1)).trans (heq1 a9 ⟨(zx_X16_lighten_10 ham), (zx_X16_lighten_11 ham hgb1)⟩)))).trans hV_a9
          refine zr_aald (v := .ref (A0 + 2 * y5_51.toNatClampNeg)) (by decide +kernel) hb20 (by decide) (zin (by first | omega | decide) (by first | omega | decide)) (by rw [hfa _ (by omega)]; rfl) ?_
          refine zp_seg (pc' := 65) (lv' := [(0, .ref m), (1, .ref a9), (2, .ref dn9), (3, .int o9), (4, .ref (m + 276 + 2 * (g 1).toNatClampNeg)), (5, .int y5_51)]) (st' := [.int y5_51, .ref a9, .ref (A0 + 2 * y5_51.toNatClampNeg), .ref m]) [(62, .aload_n 1), (63, .iload 5)] (by decide +kernel) rfl ?_
          refine zr_aald (v := .ref (A0 + 2 * y5_51.toNatClampNeg)) (by decide +kernel) hb20 (by decide) (zin (by first | omega | decide) (by first | omega | decide)) (by rw [hfa _ (by omega)]; rfl) ?_
          refine zp_seg (pc' := 68) (lv' := [(0, .ref m), (1, .ref a9), (2, .ref dn9), (3, .int o9), (4, .ref (m + 276 + 2 * (g 1).toNatClampNeg)), (5, .int y5_51)]) (st' := [.ref (m + 276 + 2 * (g 1).toNatClampNeg), .ref (A0 + 2 * y5_51.toNatClampNeg), .ref (A0 + 2 * y5_51.toNatClampNeg), .ref m]) [(66, .aload 4)] (by decide +kernel) rfl ?_
          have hb21 := hR_m.si (((hsi1.tr hsi9).tr hsiL15).tr hsiL51)
          have ho68_to := zU.o hUj9
          have hb22 : zU wL51 (m + 276 + 2 * (g 1).toNatClampNeg) 1000 G9 := hUG.ag (fun x hx1 hx2 => (heqL51 x (by omega)))
          refine zr_callV (idx := 110) (j := 271) (by decide +kernel) (by decide +kernel) (show zMe 271 = some zq_X16_exact from rfl) rfl rfl (Nat.le_of_ble_eq_true rfl) rfl rfl hmL51 (Nat.le_of_ble_eq_true rfl) (Nat.le_of_ble_eq_true rfl) (c_X16_exact (w := wL51) (g1 := (g 1 + 1)) m (A0 + 2 * y5_51.toNatClampNeg) (A0 + 2 * y5_51.toNatClampNeg) (m + 276 + 2 * (g 1).toNatClampNeg) hmL51 hb21 ho68_to hUj9 hb22 (by first | omega | decide | assumption | exact zr1_1 | exact zr1_0 | fail "num") (by first | omega | decide | assumption | exact zr1_1 | exact zr1_0 | fail "num") (by first | omega | decide | assumption | exact zr1_1 | exact zr1_0 | fail "num") (by first | omega | decide | assumption | exact zr1_1 | exact zr1_0 | fail "num") (by first | omega | decide | assumption | exact zr1_1 | exact zr1_0 | fail "num") (by first | omega | decide | assumption | exact zr1_1 | exact zr1_0 | fail "num") (by first | omega | decide | assumption | exact zr1_1 | exact zr1_0 | fail "num") (by first | omega | decide | assumption | exact zr1_1 | exact zr1_0 | fail "num") rfl) (by omega) (fun v68 w68 hp68 => ?_)
          obtain ⟨hsi68, heq68, hp68_0, rfl⟩ := hp68
          show zP _ _ _ _ [] _ _ _ _ _
          refine zp_seg (pc' := 74) (lv' := [(5, .int (y5_51 + 1)), (0, .ref m), (1, .ref a9), (2, .ref dn9), (3, .int o9), (4, .ref (m + 276 + 2 * (g 1).toNatClampNeg))]) (st' := []) [(71, .iinc 5 1)] (by decide +kernel) rfl ?_
          have k23 := zaddC y5_51 1 (n := 1) (by decide) (by omega) (by omega)
          generalize ev74 : (y5_51 + 1 : Int32) = v74 at k23 ⊢
          have kv74 := zrng v74
          refine zp_seg (pc' := 51) (lv' := [(5, .int v74), (0, .ref m), (1, .ref a9), (2, .ref dn9), (3, .int o9), (4, .ref (m + 276 + 2 * (g 1).toNatClampNeg))]) (st' := []) [(74, .goto (-23))] (by decide +kernel) rfl ?_
          have hz24 : (v74.toNatClampNeg : Int) = v74.toInt := znat (by first | omega | decide)
          have hb25 : w68 m = some (.inl (15, zMo m (zs g 1 (g 1 + 1)) r)) := (heq68 m (by omega)).trans hmL51
          exact (ih51 w68 v74 (fun t => if t = y5_51.toNatClampNeg then zquo (Qf y5_51.toNatClampNeg) G9 else Qf t) (hsiL51.tr hsi68) (fun x hx => ((heq68 x (by omega)).trans (heqL51 x ⟨⟨hx.1.1, hx.1.2⟩, hx.2⟩))) (by first | assumption | omega | decide) (by first | assumption | omega | decide) hb25 (by
                intro t ht
                by_cases e : t = y5_51.toNatClampNeg
                · simp only [if_pos e]
                  rw [e]
                  exact ⟨hp68_0, by omega⟩
                · simp only [if_neg e]
                  exact ⟨(hQf t ht).1.ag (fun x g1 g2 => (heq68 x (by omega))), (hQf t ht).2⟩) (by omega)).more (zfa1 rfl (zfa1 rfl (zfa1 rfl (zfa1 rfl (zfa1 rfl (zfa1 rfl (zfa0)))))))
      have hl26 : (0 : Int32).toInt = 0 := by decide
      have hz27 : ((0 : Int32).toNatClampNeg : Int) = 0 := by decide
      exact (hL51 _ wL15 0 (P) zSI.rf (fun _ _ => rfl) (by first | assumption | omega | decide) (by first | assumption | omega | decide) hmL15 (by
            exact fun t ht => ⟨(hP t ht).1.ag (fun x g1 g2 => ((heqL15 x (by omega)).trans ((heq9 x (by omega)).trans (heq1 x (by omega))))), Nat.le_refl _⟩) (Nat.lt_succ_self _)).more (zfa1 rfl (zfa1 rfl (zfa1 rfl (zfa1 rfl (zfa1 rfl (zfa1 rfl (zfa0)))))))
    refine zp_if (i := .if_icmp .ge 30) (c := o9 ≤ y5_15) (t := 48) (e := 21) (lv' := [(0, .ref m), (1, .ref a9), (2, .ref dn9), (3, .int o9), (4, .ref (m + 276 + 2 * (g 1).toNatClampNeg)), (5, .int y5_15)]) (st' := []) (by decide +kernel) rfl (fun cc18 => ?_) (fun cc18 => ?_)
    ·
      have f28 := zleI cc18
      exact (hJ48 trivial ).more (zfa1 rfl (zfa1 rfl (zfa1 rfl (zfa1 rfl (zfa1 rfl (zfa0))))))
    ·
      have f29 := znleI cc18
      refine zp_seg (pc' := 23) (lv' := [(0, .ref m), (1, .ref a9), (2, .ref dn9), (3, .int o9), (4, .ref (m + 276 + 2 * (g 1).toNatClampNeg)), (5, .int y5_15)]) (st' := [.ref (m + 276 + 2 * (g 1).toNatClampNeg)]) [(21, .aload 4)] (by decide +kernel) rfl ?_
      obtain ⟨n30, f31, hu32, hu33, hu34, hu35, hu36⟩ := id hUG
      have kn30 := zrng n30
      refine zr_get (idx := 25) (k := 1) (v := .int n30) (by decide +kernel) (by decide +kernel) hu32 rfl ?_
      refine zp_seg (pc' := 27) (lv' := [(0, .ref m), (1, .ref a9), (2, .ref dn9), (3, .int o9), (4, .ref (m + 276 + 2 * (g 1).toNatClampNeg)), (5, .int y5_15)]) (st' := [.int 1, .int n30]) [(26, .iconst 1)] (by decide +kernel) rfl ?_
      refine zp_if (i := .if_icmp .eq 21) (c := n30 = 1) (t := 48) (e := 30) (lv' := [(0, .ref m), (1, .ref a9), (2, .ref dn9), (3, .int o9), (4, .ref (m + 276 + 2 * (g 1).toNatClampNeg)), (5, .int y5_15)]) (st' := []) (by decide +kernel) rfl (fun cc27 => ?_) (fun cc27 => ?_)
      ·
        have f37 := zeqI cc27
        rw [show (1 : Int32).toInt = 1 from by decide] at f37
        exact (hJ48 trivial ).more (zfa1 rfl (zfa1 rfl (zfa1 rfl (zfa1 rfl (zfa1 rfl (zfa0))))))
      ·
        have f38 := zneI cc27
        rw [show (1 : Int32).toInt = 1 from by decide] at f38
        refine zp_seg (pc' := 38) (lv' := [(0, .ref m), (1, .ref a9), (2, .ref dn9), (3, .int o9), (4, .ref (m + 276 + 2 * (g 1).toNatClampNeg)), (5, .int y5_15)]) (st' := [.int y5_15, .ref a9, .ref (m + 276 + 2 * (g 1).toNatClampNeg), .ref (m + 276 + 2 * (g 1).toNatClampNeg), .ref m]) [(30, .aload_n 0), (31, .aload 4), (33, .aload 4), (35, .aload_n 1), (36, .iload 5)] (by decide +kernel) rfl ?_
        have hb39 : wL15 a9 = some (.inr (4, 6, .inr fa)) := ((heqL15 a9 ⟨⟨(zx_X16_lighten_11 ham hgb1), (zx_X16_lighten_12 ham hgn1_1 hgb1)⟩, (zx_X16_lighten_13 ham)⟩).trans ((heq9 a9 (zx_X16_lighten_11 ham hgb1)).trans (heq1 a9 ⟨(zx_X16_lighten_10 ham), (zx_X16_lighten_11 ham hgb1)⟩))).trans hV_a9
        refine zr_aald (v := .ref (A0 + 2 * y5_15.toNatClampNeg)) (by decide +kernel) hb39 (by decide) (zin (by first | omega | decide) (by first | omega | decide)) (by rw [hfa _ (by omega)]; rfl) ?_
        have hUj9 := (hP y5_15.toNatClampNeg (by omega)).1.ag (w' := wL15) (fun x g1 g2 => ((heqL15 x (by omega)).trans ((heq9 x (by omega)).trans (heq1 x (by omega)))))
        have hlj9 := (hP y5_15.toNatClampNeg (by omega)).2
        have hgl9 := zgcd_le1 (q := P y5_15.toNatClampNeg) hG9.1
        have hb40 := hR_m.si ((hsi1.tr hsi9).tr hsiL15)
        have ho39_to := zU.o hUG
        refine zr_callV (idx := 125) (j := 270) (by decide +kernel) (by decide +kernel) (show zMe 270 = some zq_X16_gcd from rfl) rfl rfl (Nat.le_of_ble_eq_true rfl) rfl rfl hmL15 (Nat.le_of_ble_eq_true rfl) (Nat.le_of_ble_eq_true rfl) (c_X16_gcd (w := wL15) (g1 := (g 1 + 1)) m (m + 276 + 2 * (g 1).toNatClampNeg) (m + 276 + 2 * (g 1).toNatClampNeg) (A0 + 2 * y5_15.toNatClampNeg) hmL15 hb40 ho39_to hUG hUj9 (by first | omega | decide | assumption | exact zr1_1 | exact zr1_0 | fail "num") (by first | omega | decide | assumption | exact zr1_1 | exact zr1_0 | fail "num") (by first | omega | decide | assumption | exact zr1_1 | exact zr1_0 | fail "num") (by first | omega | decide | assumption | exact zr1_1 | exact zr1_0 | fail "num") (by first | omega | decide | assumption | exact zr1_1 | exact zr1_0 | fail "num") (by first | omega | decide | assumption | exact zr1_1 | exact zr1_0 | fail "num") (by first | omega | decide | assumption | exact zr1_1 | exact zr1_0 | fail "num") rfl) (by omega) (fun v39 w39 hp39 => ?_)
        obtain ⟨hsi39, heq39, hp39_0, rfl⟩ := hp39
        show zP _ _ _ _ [] _ _ _ _ _
        refine zp_seg (pc' := 45) (lv' := [(5, .int (y5_15 + 1)), (0, .ref m), (1, .ref a9), (2, .ref dn9), (3, .int o9), (4, .ref (m + 276 + 2 * (g 1).toNatClampNeg))]) (st' := []) [(42, .iinc 5 1)] (by decide +kernel) rfl ?_
        have k41 := zaddC y5_15 1 (n := 1) (by decide) (by omega) (by omega)
        generalize ev45 : (y5_15 + 1 : Int32) = v45 at k41 ⊢
        have kv45 := zrng v45
        refine zp_seg (pc' := 15) (lv' := [(5, .int v45), (0, .ref m), (1, .ref a9), (2, .ref dn9), (3, .int o9), (4, .ref (m + 276 + 2 * (g 1).toNatClampNeg))]) (st' := []) [(45, .goto (-30))] (by decide +kernel) rfl ?_
        have hz42 : (v45.toNatClampNeg : Int) = v45.toInt := znat (by first | omega | decide)
        have hb43 : w39 m = some (.inl (15, zMo m (zs g 1 (g 1 + 1)) r)) := (heq39 m ⟨(zx_X16_lighten_2 hgb1), (zx_X16_lighten_6 hgn1_1 hgb1)⟩).trans hmL15
        exact (ih15 w39 v45 ((zgcd G9 (P y5_15.toNatClampNeg))) (hsiL15.tr hsi39) (fun x hx => ((heq39 x ⟨hx.1.1, hx.1.2⟩).trans (heqL15 x ⟨⟨hx.1.1, hx.1.2⟩, hx.2⟩))) (by first | assumption | omega | decide) (by first | assumption | omega | decide) hp39_0 hb43 (by
              exact ⟨hgl9.1, Nat.le_trans hgl9.2 hG9.2⟩) (by omega)).more (zfa1 rfl (zfa1 rfl (zfa1 rfl (zfa1 rfl (zfa1 rfl (zfa1 rfl (zfa0)))))))
  have hl44 : (0 : Int32).toInt = 0 := by decide
  have hz45 : ((0 : Int32).toNatClampNeg : Int) = 0 := by decide
  exact (hL15 _ w9 0 (D) zSI.rf (fun _ _ => rfl) (by first | assumption | omega | decide) (by first | assumption | omega | decide) hp9_0 hb9 (by
        exact ⟨hD.1, Nat.le_refl _⟩) (Nat.lt_succ_self _)).more (zfa1 rfl (zfa1 rfl (zfa1 rfl (zfa1 rfl (zfa1 rfl (zfa1 rfl (zfa0)))))))
