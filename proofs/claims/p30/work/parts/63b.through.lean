set_option maxHeartbeats 8000000 in
set_option maxRecDepth 100000 in
theorem c_X16_through {w : zM} {g : Nat → Int32} {r : Nat → Value} {ct ny : Nat} {fx fy : Nat → Int32} {g1 : Int32} (m : Nat) (to : Nat) (ys : Nat) (many : Int32) (hm : w m = some (.inl (15, zMo m g r))) (hR_m : zR m w) (hUo_to : zUo w to ct) (hA_m_3 : w (m + 3) = some (.inr (0, 700, .inl fx))) (hA_ys : w ys = some (.inr (0, ny, .inl fy))) (hut : 0 ≤ g1.toInt ∧ g1.toInt + 3 ≤ 160) (ht : (m + 276 ≤ to ∧ to + 2 ≤ m + 276 + 2 * g1.toNatClampNeg) ∨ m + 596 ≤ to) (hys : m < ys ∧ (ys < m + 276 + 2 * g1.toNatClampNeg ∨ m + 596 ≤ ys) ∧ (ys < to ∨ to + 2 ≤ ys)) (hmy : 0 ≤ many.toInt ∧ many.toInt ≤ 700 ∧ many.toInt ≤ (ny : Int) ∧ many.toInt ≤ (ct : Int)) (hxr : ∀ t, t < many.toNatClampNeg → zr1 (fx t)) (hyr : ∀ t, t < many.toNatClampNeg → zr1 (fy t)) (hxd : ∀ t u, t < many.toNatClampNeg → u < many.toNatClampNeg → zf (fx t) = zf (fx u) → t = u) (hg1 : g 1 = g1) : zCon 3 zq_X16_through [.ref m, .ref to, .ref ys, .int many] w (fun v9 w9' => ∃ T : zA1, ∃ Bx : zA1, zSI w w9' ∧ (∀ x, (x < to ∨ to + 2 ≤ x) ∧ (x < m + 276 + 2 * g1.toNatClampNeg ∨ m + 276 + 2 * g1.toNatClampNeg + (320 - 2 * g1.toNatClampNeg) ≤ x) → w9' x = w x) ∧ zU w9' to ct T ∧ zThr (fun t => zf (fx t)) (fun t => zf (fy t)) many.toNatClampNeg Bx T ∧ v9 = none) := by
  subst hg1
  intro d sz hd
  obtain ⟨d, rfl⟩ : ∃ d9, d = d9 + 1 := ⟨d - 1, by omega⟩
  generalize hPost : (fun (r9' : Option (Option Value)) (w9' : zM) (z9 : Nat) => z9 = sz ∧ ∃ v9, r9' = some v9 ∧ (∃ T : zA1, ∃ Bx : zA1, zSI w w9' ∧ (∀ x, (x < to ∨ to + 2 ≤ x) ∧ (x < m + 276 + 2 * (g 1).toNatClampNeg ∨ m + 276 + 2 * (g 1).toNatClampNeg + (320 - 2 * (g 1).toNatClampNeg) ≤ x) → w9' x = w x) ∧ zU w9' to ct T ∧ zThr (fun t => zf (fx t)) (fun t => zf (fy t)) many.toNatClampNeg Bx T ∧ v9 = none)) = Post
  show zP (d + 1) zq_X16_through 0 [(0, .ref m), (1, .ref to), (2, .ref ys), (3, .int many)] [] w sz 0 0 Post
  have k1 := zrng many
  have k2 := zrng (g 1)
  have hz3 : ((g 1).toNatClampNeg : Int) = (g 1).toInt := znat (by first | omega | decide)
  have hz4 : (many.toNatClampNeg : Int) = many.toInt := znat (by first | omega | decide)
  refine zp_seg (pc' := 1) (lv' := [(0, .ref m), (1, .ref to), (2, .ref ys), (3, .int many)]) (st' := [.ref m]) [(0, .aload_n 0)] (by decide +kernel) rfl ?_
  refine zr_get (idx := 21) (k := 1) (v := .int (g 1)) (by decide +kernel) (by decide +kernel) hm rfl ?_
  refine zp_seg (pc' := 7) (lv' := [(4, .int (g 1)), (0, .ref m), (1, .ref to), (2, .ref ys), (3, .int many)]) (st' := [.ref m]) [(4, .istore 4), (6, .aload_n 0)] (by decide +kernel) rfl ?_
  refine zr_callV (idx := 74) (j := 263) (by decide +kernel) (by decide +kernel) (show zMe 263 = some zq_X16_newU from rfl) rfl rfl (Nat.le_of_ble_eq_true rfl) rfl rfl hm (Nat.le_of_ble_eq_true rfl) (Nat.le_of_ble_eq_true rfl) (c_X16_newU (w := w) (g1 := (g 1)) m hm hR_m (by first | omega | decide | assumption) rfl) (by omega) (fun v7 w7 hp7 => ?_)
  obtain ⟨hsi7, heq7, hp7_0, hp7_1, rfl⟩ := hp7
  have hM7 : w7 m = some (.inl (15, zMo m (zs g 1 (g 1 + 1)) r)) := hp7_0
  show zP _ _ _ _ [.ref (m + 276 + 2 * (g 1).toNatClampNeg)] _ _ _ _ _
  refine zp_seg (pc' := 13) (lv' := [(5, .ref (m + 276 + 2 * (g 1).toNatClampNeg)), (4, .int (g 1)), (0, .ref m), (1, .ref to), (2, .ref ys), (3, .int many)]) (st' := [.ref m]) [(10, .astore 5), (12, .aload_n 0)] (by decide +kernel) rfl ?_
  have k6 := zaddC (g 1) 1 (n := 1) (by decide) (by omega) (by omega)
  have hz7 : ((g 1 + 1).toNatClampNeg : Int) = (g 1 + 1).toInt := znat (by first | omega | decide)
  have hb8 := hR_m.si hsi7
  refine zr_callV (idx := 74) (j := 263) (by decide +kernel) (by decide +kernel) (show zMe 263 = some zq_X16_newU from rfl) rfl rfl (Nat.le_of_ble_eq_true rfl) rfl rfl hM7 (Nat.le_of_ble_eq_true rfl) (Nat.le_of_ble_eq_true rfl) (c_X16_newU (w := w7) (g1 := (g 1 + 1)) m hM7 hb8 (by first | omega | decide | assumption) rfl) (by omega) (fun v13 w13 hp13 => ?_)
  obtain ⟨hsi13, heq13, hp13_0, hp13_1, rfl⟩ := hp13
  have hM13 : w13 m = some (.inl (15, zMo m (zs g 1 (g 1 + 1 + 1)) r)) := hp13_0
  show zP _ _ _ _ [.ref (m + 276 + 2 * (g 1 + 1).toNatClampNeg)] _ _ _ _ _
  refine zp_seg (pc' := 19) (lv' := [(6, .ref (m + 276 + 2 * (g 1 + 1).toNatClampNeg)), (5, .ref (m + 276 + 2 * (g 1).toNatClampNeg)), (4, .int (g 1)), (0, .ref m), (1, .ref to), (2, .ref ys), (3, .int many)]) (st' := [.ref m]) [(16, .astore 6), (18, .aload_n 0)] (by decide +kernel) rfl ?_
  have k9 := zaddC (g 1 + 1) 1 (n := 1) (by decide) (by omega) (by omega)
  have hz10 : ((g 1 + 1 + 1).toNatClampNeg : Int) = (g 1 + 1 + 1).toInt := znat (by first | omega | decide)
  have hb11 := hb8.si hsi13
  refine zr_callV (idx := 74) (j := 263) (by decide +kernel) (by decide +kernel) (show zMe 263 = some zq_X16_newU from rfl) rfl rfl (Nat.le_of_ble_eq_true rfl) rfl rfl hM13 (Nat.le_of_ble_eq_true rfl) (Nat.le_of_ble_eq_true rfl) (c_X16_newU (w := w13) (g1 := (g 1 + 1 + 1)) m hM13 hb11 (by first | omega | decide | assumption) rfl) (by omega) (fun v19 w19 hp19 => ?_)
  obtain ⟨hsi19, heq19, hp19_0, hp19_1, rfl⟩ := hp19
  have hM19 : w19 m = some (.inl (15, zMo m (zs g 1 (g 1 + 1 + 1 + 1)) r)) := hp19_0
  show zP _ _ _ _ [.ref (m + 276 + 2 * (g 1 + 1 + 1).toNatClampNeg)] _ _ _ _ _
  refine zp_seg (pc' := 27) (lv' := [(7, .ref (m + 276 + 2 * (g 1 + 1 + 1).toNatClampNeg)), (6, .ref (m + 276 + 2 * (g 1 + 1).toNatClampNeg)), (5, .ref (m + 276 + 2 * (g 1).toNatClampNeg)), (4, .int (g 1)), (0, .ref m), (1, .ref to), (2, .ref ys), (3, .int many)]) (st' := [.int 1, .ref (m + 276 + 2 * (g 1).toNatClampNeg)]) [(22, .astore 7), (24, .aload 5), (26, .iconst 1)] (by decide +kernel) rfl ?_
  have hb12 : zU w19 (m + 276 + 2 * (g 1).toNatClampNeg) 1000 zaZ := hp7_1.ag (fun x hx1 hx2 => ((heq19 x (by omega)).trans (heq13 x (by omega))))
  have ho27_u := zU.o hb12
  obtain ⟨n13, f14, hu15, hu16, hu17, hu18, hu19⟩ := id hb12
  have kn13 := zrng n13
  refine zr_callV (idx := 147) (j := 252) (by decide +kernel) (by decide +kernel) (show zMe 252 = some zq_X15_number from rfl) rfl rfl (Nat.le_of_ble_eq_true rfl) rfl rfl hu15 (Nat.le_of_ble_eq_true rfl) (Nat.le_of_ble_eq_true rfl) (c_X15_number (w := w19) (m + 276 + 2 * (g 1).toNatClampNeg) 1 ho27_u (by exact zr1_1) (by first | omega | decide | assumption)) (by omega) (fun v27 w27 hp27 => ?_)
  obtain ⟨hsi27, heq27, hp27_0, rfl⟩ := hp27
  show zP _ _ _ _ [] _ _ _ _ _
  refine zp_seg (pc' := 32) (lv' := [(7, .ref (m + 276 + 2 * (g 1 + 1 + 1).toNatClampNeg)), (6, .ref (m + 276 + 2 * (g 1 + 1).toNatClampNeg)), (5, .ref (m + 276 + 2 * (g 1).toNatClampNeg)), (4, .int (g 1)), (0, .ref m), (1, .ref to), (2, .ref ys), (3, .int many)]) (st' := [.int 0, .ref to]) [(30, .aload_n 1), (31, .iconst 0)] (by decide +kernel) rfl ?_
  have hb24 := hUo_to.si (((hsi7.tr hsi13).tr hsi19).tr hsi27)
  obtain ⟨n20, f21, hu22, hu23⟩ := id hb24
  have kn20 := zrng n20
  refine zr_put2 (idx := 25) (k := 1) (fs2 := [.ref (to + 1), .int 0]) (by decide +kernel) (by decide +kernel) hu22 (Nat.le_of_ble_eq_true rfl) rfl rfl rfl ?_
  show zP (d + 1) zq_X16_through 35 [(7, .ref (m + 276 + 2 * (g 1 + 1 + 1).toNatClampNeg)), (6, .ref (m + 276 + 2 * (g 1 + 1).toNatClampNeg)), (5, .ref (m + 276 + 2 * (g 1).toNatClampNeg)), (4, .int (g 1)), (0, .ref m), (1, .ref to), (2, .ref ys), (3, .int many)] [] (zup w27 to (.inl (14, [.ref (to + 1), .int 0]))) sz 0 0 Post
  obtain ⟨w32, ew32⟩ : ∃ wz9, wz9 = zup w27 to (.inl (14, [.ref (to + 1), .int 0])) := ⟨_, rfl⟩
  have hsi32 : zSI w27 w32 := by rw [ew32]; exact zSI.setU hu22
  have heq32 : ∀ x, x ≠ to → w32 x = w27 x := fun x hx => by rw [ew32]; exact zup_n hx
  have hc32 : w32 to = some (.inl (14, [.ref (to + 1), .int 0])) := by rw [ew32]; exact zup_s
  rw [← ew32]
  clear ew32
  have hb25 : w32 (to + 1) = some (.inr (0, ct, .inl f21)) := (heq32 (to + 1) (by omega)).trans hu23
  have hUt0 := zU.mk0 hc32 hb25
  refine zp_seg (pc' := 38) (lv' := [(8, .int 0), (7, .ref (m + 276 + 2 * (g 1 + 1 + 1).toNatClampNeg)), (6, .ref (m + 276 + 2 * (g 1 + 1).toNatClampNeg)), (5, .ref (m + 276 + 2 * (g 1).toNatClampNeg)), (4, .int (g 1)), (0, .ref m), (1, .ref to), (2, .ref ys), (3, .int many)]) (st' := []) [(35, .iconst 0), (36, .istore 8)] (by decide +kernel) rfl ?_
  have hb26 : w32 m = some (.inl (15, zMo m (zs g 1 (g 1 + 1 + 1 + 1)) r)) := ((heq32 m (by omega)).trans (heq27 m (by omega))).trans hM19
  have hL38 : ∀ (mm38 : Nat) (wL38 : zM) (y8_38 : Int32) (Bp : zA1) (Tp : zA1), (zSI w32 wL38) → (∀ x, ((x < m + 276 + 2 * (g 1).toNatClampNeg ∨ m + 276 + 2 * (g 1).toNatClampNeg + 6 ≤ x) ∧ (x < to ∨ to + 2 ≤ x)) ∧ x ≠ m → wL38 x = w32 x) → (0 ≤ y8_38.toInt) → (y8_38.toInt ≤ many.toInt) → (zU wL38 (m + 276 + 2 * (g 1).toNatClampNeg) 1000 Bp) → (zU wL38 to ct Tp) → (zUo wL38 (m + 276 + 2 * (g 1 + 1).toNatClampNeg) 1000) → (zUo wL38 (m + 276 + 2 * (g 1 + 1 + 1).toNatClampNeg) 1000) → (wL38 m = some (.inl (15, zMo m (zs g 1 (g 1 + 1 + 1 + 1)) r))) → (zThr (fun t => zf (fx t)) (fun t => zf (fy t)) y8_38.toNatClampNeg Bp Tp) → (2147483647 - y8_38.toInt).toNat < mm38 → zP (d + 1) zq_X16_through 38 [(0, .ref m), (1, .ref to), (2, .ref ys), (3, .int many), (4, .int (g 1)), (5, .ref (m + 276 + 2 * (g 1).toNatClampNeg)), (6, .ref (m + 276 + 2 * (g 1 + 1).toNatClampNeg)), (7, .ref (m + 276 + 2 * (g 1 + 1 + 1).toNatClampNeg)), (8, .int y8_38)] [] wL38 sz 0 0 Post := by
    intro mm38
    induction mm38 with
    | zero => intros; omega
    | succ mm38 ih38 =>
    intro wL38 y8_38 Bp Tp hsiL38 heqL38 hi38_0 hi38_1 hUB hUT hUn hUl hmL38 hThr hmu38
    have ky8_38 := zrng y8_38
    refine zp_seg (pc' := 41) (lv' := [(0, .ref m), (1, .ref to), (2, .ref ys), (3, .int many), (4, .int (g 1)), (5, .ref (m + 276 + 2 * (g 1).toNatClampNeg)), (6, .ref (m + 276 + 2 * (g 1 + 1).toNatClampNeg)), (7, .ref (m + 276 + 2 * (g 1 + 1 + 1).toNatClampNeg)), (8, .int y8_38)]) (st' := [.int many, .int y8_38]) [(38, .iload 8), (40, .iload_n 3)] (by decide +kernel) rfl ?_
    refine zp_if (i := .if_icmp .ge 112) (c := many ≤ y8_38) (t := 153) (e := 44) (lv' := [(0, .ref m), (1, .ref to), (2, .ref ys), (3, .int many), (4, .int (g 1)), (5, .ref (m + 276 + 2 * (g 1).toNatClampNeg)), (6, .ref (m + 276 + 2 * (g 1 + 1).toNatClampNeg)), (7, .ref (m + 276 + 2 * (g 1 + 1 + 1).toNatClampNeg)), (8, .int y8_38)]) (st' := []) (by decide +kernel) rfl (fun cc41 => ?_) (fun cc41 => ?_)
    ·
      have f27 := zleI cc41
      have hz28 : (y8_38.toNatClampNeg : Int) = y8_38.toInt := znat (by first | omega | decide)
      refine zp_seg (pc' := 156) (lv' := [(0, .ref m), (1, .ref to), (2, .ref ys), (3, .int many), (4, .int (g 1)), (5, .ref (m + 276 + 2 * (g 1).toNatClampNeg)), (6, .ref (m + 276 + 2 * (g 1 + 1).toNatClampNeg)), (7, .ref (m + 276 + 2 * (g 1 + 1 + 1).toNatClampNeg)), (8, .int y8_38)]) (st' := [.int (g 1), .ref m]) [(153, .aload_n 0), (154, .iload 4)] (by decide +kernel) rfl ?_
      refine zr_put2 (idx := 21) (k := 1) (fs2 := zMo m g r) (by decide +kernel) (by decide +kernel) hmL38 (Nat.le_of_ble_eq_true rfl) rfl rfl rfl ?_
      show zP (d + 1) zq_X16_through 159 [(0, .ref m), (1, .ref to), (2, .ref ys), (3, .int many), (4, .int (g 1)), (5, .ref (m + 276 + 2 * (g 1).toNatClampNeg)), (6, .ref (m + 276 + 2 * (g 1 + 1).toNatClampNeg)), (7, .ref (m + 276 + 2 * (g 1 + 1 + 1).toNatClampNeg)), (8, .int y8_38)] [] (zup wL38 m (.inl (15, zMo m g r))) sz 0 0 Post
      obtain ⟨w156, ew156⟩ : ∃ wz9, wz9 = zup wL38 m (.inl (15, zMo m g r)) := ⟨_, rfl⟩
      have hsi156 : zSI wL38 w156 := by rw [ew156]; exact zSI.setG hmL38 _ _
      have heq156 : ∀ x, x ≠ m → w156 x = wL38 x := fun x hx => by rw [ew156]; exact zup_n hx
      have hc156 : w156 m = some (.inl (15, zMo m g r)) := by rw [ew156]; exact zup_s
      rw [← ew156]
      clear ew156
      have hmend : w156 m = w m := by rw [hc156, hm]
      have hoffend : ∀ x, (x < to ∨ to + 2 ≤ x) ∧ (x < m + 276 + 2 * (g 1).toNatClampNeg ∨ m + 276 + 2 * (g 1).toNatClampNeg + (320 - 2 * (g 1).toNatClampNeg) ≤ x) → w156 x = w x := fun x hx => by
          by_cases ex : x = m
          · rw [ex]; exact hmend
          · exact ((heq156 x (by omega)).trans ((heqL38 x (by omega)).trans ((heq32 x (by omega)).trans ((heq27 x (by omega)).trans ((heq19 x (by omega)).trans ((heq13 x (by omega)).trans (heq7 x (by omega))))))))
      have hb29 : zU w156 to ct Tp := hUT.ag (fun x hx1 hx2 => (heq156 x (by omega)))
      refine zr_retV (by decide +kernel) rfl ?_
      rw [← hPost]; exact ⟨rfl, _, rfl, Tp, Bp, ((((((hsi7.tr hsi13).tr hsi19).tr hsi27).tr hsi32).tr hsiL38).tr hsi156), hoffend, (by first | exact hb29 | (have z9 := hb29; simpa using z9)), (by
            rw [show many.toNatClampNeg = y8_38.toNatClampNeg by omega]
            exact hThr), rfl⟩
    ·
      have f30 := znleI cc41
      have hTB : zln Bp = y8_38.toNatClampNeg + 1 ∧ zln Tp ≤ y8_38.toNatClampNeg := ⟨hThr.1, hThr.2.1⟩
      refine zp_seg (pc' := 47) (lv' := [(0, .ref m), (1, .ref to), (2, .ref ys), (3, .int many), (4, .int (g 1)), (5, .ref (m + 276 + 2 * (g 1).toNatClampNeg)), (6, .ref (m + 276 + 2 * (g 1 + 1).toNatClampNeg)), (7, .ref (m + 276 + 2 * (g 1 + 1 + 1).toNatClampNeg)), (8, .int y8_38)]) (st' := [.int y8_38, .ref ys]) [(44, .aload_n 2), (45, .iload 8)] (by decide +kernel) rfl ?_
      have hb31 : wL38 ys = some (.inr (0, ny, .inl fy)) := ((heqL38 ys (by omega)).trans ((heq32 ys (by omega)).trans ((heq27 ys (by omega)).trans ((heq19 ys (by omega)).trans ((heq13 ys (by omega)).trans (heq7 ys (by omega))))))).trans hA_ys
      refine zr_iald (by decide +kernel) hb31 (zin (by first | omega | decide) (by first | omega | decide)) ?_
      have hz32 : (y8_38.toNatClampNeg : Int) = y8_38.toInt := znat (by first | omega | decide)
      obtain ⟨x47, ex47⟩ : ∃ x9, x9 = fy (y8_38.toNatClampNeg) := ⟨_, rfl⟩
      rw [← ex47]
      have kx47 := zrng x47
      refine zp_seg (pc' := 50) (lv' := [(0, .ref m), (1, .ref to), (2, .ref ys), (3, .int many), (4, .int (g 1)), (5, .ref (m + 276 + 2 * (g 1).toNatClampNeg)), (6, .ref (m + 276 + 2 * (g 1 + 1).toNatClampNeg)), (7, .ref (m + 276 + 2 * (g 1 + 1 + 1).toNatClampNeg)), (8, .int y8_38)]) (st' := [.ref m, .ref to, .int x47]) [(48, .aload_n 1), (49, .aload_n 0)] (by decide +kernel) rfl ?_
      refine zr_get (idx := 151) (k := 4) (v := .ref (m + 3)) (by decide +kernel) (by decide +kernel) hmL38 rfl ?_
      refine zp_seg (pc' := 55) (lv' := [(0, .ref m), (1, .ref to), (2, .ref ys), (3, .int many), (4, .int (g 1)), (5, .ref (m + 276 + 2 * (g 1).toNatClampNeg)), (6, .ref (m + 276 + 2 * (g 1 + 1).toNatClampNeg)), (7, .ref (m + 276 + 2 * (g 1 + 1 + 1).toNatClampNeg)), (8, .int y8_38)]) (st' := [.int y8_38, .ref (m + 3), .ref to, .int x47]) [(53, .iload 8)] (by decide +kernel) rfl ?_
      have hb33 : wL38 (m + 3) = some (.inr (0, 700, .inl fx)) := ((heqL38 (m + 3) (by omega)).trans ((heq32 (m + 3) (by omega)).trans ((heq27 (m + 3) (by omega)).trans ((heq19 (m + 3) (by omega)).trans ((heq13 (m + 3) (by omega)).trans (heq7 (m + 3) (by omega))))))).trans hA_m_3
      refine zr_iald (by decide +kernel) hb33 (zin (by first | omega | decide) (by first | omega | decide)) ?_
      obtain ⟨x55, ex55⟩ : ∃ x9, x9 = fx (y8_38.toNatClampNeg) := ⟨_, rfl⟩
      rw [← ex55]
      have kx55 := zrng x55
      refine zr_callS (idx := 136) (j := 272) (by decide +kernel) (by decide +kernel) (by decide) (show zMe 272 = some zq_X16_eval from rfl) rfl rfl (Nat.le_of_ble_eq_true rfl) rfl rfl (Nat.le_of_ble_eq_true rfl) (Nat.le_of_ble_eq_true rfl) (c_X16_eval (w := wL38) to x55 hUT (by rw [ex55]; exact hxr _ (by omega)) (by first | omega | decide | assumption)) (by omega) (fun v56 w56 hp56 => ?_)
      obtain ⟨hpw56, r56, rfl, hr56⟩ := hp56
      replace hpw56 := hpw56.symm
      subst hpw56
      have kr56 := zrng r56
      show zP _ _ _ _ [.int r56, .int x47] _ _ _ _ _
      refine zr_callS (idx := 46) (j := 256) (by decide +kernel) (by decide +kernel) (by decide) (show zMe 256 = some zq_X16_sub from rfl) rfl rfl (Nat.le_of_ble_eq_true rfl) rfl rfl (Nat.le_of_ble_eq_true rfl) (Nat.le_of_ble_eq_true rfl) (c_X16_sub (w := wL38) x47 r56 (by rw [ex47]; exact hyr _ (by omega)) (by exact hr56.1)) (by omega) (fun v59 w59 hp59 => ?_)
      obtain ⟨hpw59, r59, rfl, hr59⟩ := hp59
      replace hpw59 := hpw59.symm
      subst hpw59
      have kr59 := zrng r59
      show zP _ _ _ _ [.int r59] _ _ _ _ _
      refine zp_seg (pc' := 73) (lv' := [(9, .int r59), (0, .ref m), (1, .ref to), (2, .ref ys), (3, .int many), (4, .int (g 1)), (5, .ref (m + 276 + 2 * (g 1).toNatClampNeg)), (6, .ref (m + 276 + 2 * (g 1 + 1).toNatClampNeg)), (7, .ref (m + 276 + 2 * (g 1 + 1 + 1).toNatClampNeg)), (8, .int y8_38)]) (st' := [.ref m, .ref (m + 276 + 2 * (g 1).toNatClampNeg), .int r59, .ref (m + 276 + 2 * (g 1).toNatClampNeg), .ref (m + 276 + 2 * (g 1 + 1).toNatClampNeg)]) [(62, .istore 9), (64, .aload 6), (66, .aload 5), (68, .iload 9), (70, .aload 5), (72, .aload_n 0)] (by decide +kernel) rfl ?_
      refine zr_get (idx := 151) (k := 4) (v := .ref (m + 3)) (by decide +kernel) (by decide +kernel) hmL38 rfl ?_
      refine zp_seg (pc' := 78) (lv' := [(9, .int r59), (0, .ref m), (1, .ref to), (2, .ref ys), (3, .int many), (4, .int (g 1)), (5, .ref (m + 276 + 2 * (g 1).toNatClampNeg)), (6, .ref (m + 276 + 2 * (g 1 + 1).toNatClampNeg)), (7, .ref (m + 276 + 2 * (g 1 + 1 + 1).toNatClampNeg)), (8, .int y8_38)]) (st' := [.int y8_38, .ref (m + 3), .ref (m + 276 + 2 * (g 1).toNatClampNeg), .int r59, .ref (m + 276 + 2 * (g 1).toNatClampNeg), .ref (m + 276 + 2 * (g 1 + 1).toNatClampNeg)]) [(76, .iload 8)] (by decide +kernel) rfl ?_
      refine zr_iald (by decide +kernel) hb33 (zin (by first | omega | decide) (by first | omega | decide)) ?_
      obtain ⟨x78, ex78⟩ : ∃ x9, x9 = fx (y8_38.toNatClampNeg) := ⟨_, rfl⟩
      rw [← ex78]
      have kx78 := zrng x78
      refine zr_callS (idx := 136) (j := 272) (by decide +kernel) (by decide +kernel) (by decide) (show zMe 272 = some zq_X16_eval from rfl) rfl rfl (Nat.le_of_ble_eq_true rfl) rfl rfl (Nat.le_of_ble_eq_true rfl) (Nat.le_of_ble_eq_true rfl) (c_X16_eval (w := wL38) (m + 276 + 2 * (g 1).toNatClampNeg) x78 hUB (by rw [ex78]; exact hxr _ (by omega)) (by first | omega | decide | assumption)) (by omega) (fun v79 w79 hp79 => ?_)
      obtain ⟨hpw79, r79, rfl, hr79⟩ := hp79
      replace hpw79 := hpw79.symm
      subst hpw79
      have kr79 := zrng r79
      show zP _ _ _ _ [.int r79, .int r59, .ref (m + 276 + 2 * (g 1).toNatClampNeg), .ref (m + 276 + 2 * (g 1 + 1).toNatClampNeg)] _ _ _ _ _
      refine zr_callS (idx := 13) (j := 259) (by decide +kernel) (by decide +kernel) (by decide) (show zMe 259 = some zq_X16_inv from rfl) rfl rfl (Nat.le_of_ble_eq_true rfl) rfl rfl (Nat.le_of_ble_eq_true rfl) (Nat.le_of_ble_eq_true rfl) (c_X16_inv (w := wL38) r79 (by exact hr79.1)) (by omega) (fun v82 w82 hp82 => ?_)
      obtain ⟨hpw82, r82, rfl, hr82⟩ := hp82
      replace hpw82 := hpw82.symm
      subst hpw82
      have kr82 := zrng r82
      show zP _ _ _ _ [.int r82, .int r59, .ref (m + 276 + 2 * (g 1).toNatClampNeg), .ref (m + 276 + 2 * (g 1 + 1).toNatClampNeg)] _ _ _ _ _
      refine zr_callS (idx := 56) (j := 257) (by decide +kernel) (by decide +kernel) (by decide) (show zMe 257 = some zq_X16_mul from rfl) rfl rfl (Nat.le_of_ble_eq_true rfl) rfl rfl (Nat.le_of_ble_eq_true rfl) (Nat.le_of_ble_eq_true rfl) (c_X16_mul (w := wL38) r59 r82 (by exact hr59.1) (by exact hr82.1)) (by omega) (fun v85 w85 hp85 => ?_)
      obtain ⟨hpw85, r85, rfl, hr85⟩ := hp85
      replace hpw85 := hpw85.symm
      subst hpw85
      have kr85 := zrng r85
      show zP _ _ _ _ [.int r85, .ref (m + 276 + 2 * (g 1).toNatClampNeg), .ref (m + 276 + 2 * (g 1 + 1).toNatClampNeg)] _ _ _ _ _
      refine zr_callS (idx := 70) (j := 266) (by decide +kernel) (by decide +kernel) (by decide) (show zMe 266 = some zq_X16_scale from rfl) rfl rfl (Nat.le_of_ble_eq_true rfl) rfl rfl (Nat.le_of_ble_eq_true rfl) (Nat.le_of_ble_eq_true rfl) (c_X16_scale (w := wL38) (m + 276 + 2 * (g 1 + 1).toNatClampNeg) (m + 276 + 2 * (g 1).toNatClampNeg) r85 hUn hUB (by exact hr85.1) (by first | omega | decide | assumption)) (by omega) (fun v88 w88 hp88 => ?_)
      obtain ⟨hsi88, heq88, hp88_0, rfl⟩ := hp88
      show zP _ _ _ _ [] _ _ _ _ _
      have hq9 := zln_CMle (zf r85) Bp
      refine zp_seg (pc' := 96) (lv' := [(9, .int r59), (0, .ref m), (1, .ref to), (2, .ref ys), (3, .int many), (4, .int (g 1)), (5, .ref (m + 276 + 2 * (g 1).toNatClampNeg)), (6, .ref (m + 276 + 2 * (g 1 + 1).toNatClampNeg)), (7, .ref (m + 276 + 2 * (g 1 + 1 + 1).toNatClampNeg)), (8, .int y8_38)]) (st' := [.int 0, .ref (m + 276 + 2 * (g 1 + 1).toNatClampNeg), .ref to, .ref to]) [(91, .aload_n 1), (92, .aload_n 1), (93, .aload 6), (95, .iconst 0)] (by decide +kernel) rfl ?_
      have hb34 : zU w88 to ct Tp := hUT.ag (fun x hx1 hx2 => (heq88 x (by omega)))
      have ho96_to := zU.o hb34
      refine zr_callS (idx := 101) (j := 265) (by decide +kernel) (by decide +kernel) (by decide) (show zMe 265 = some zq_X16_plus from rfl) rfl rfl (Nat.le_of_ble_eq_true rfl) rfl rfl (Nat.le_of_ble_eq_true rfl) (Nat.le_of_ble_eq_true rfl) (c_X16_plusA (w := w88) to to (m + 276 + 2 * (g 1 + 1).toNatClampNeg)  ho96_to hb34 hp88_0 (by first | omega | decide | assumption) (by first | omega | decide | assumption)) (by omega) (fun v96 w96 hp96 => ?_)
      obtain ⟨hsi96, heq96, hp96_0, rfl⟩ := hp96
      show zP _ _ _ _ [] _ _ _ _ _
      refine zp_seg (pc' := 101) (lv' := [(9, .int r59), (0, .ref m), (1, .ref to), (2, .ref ys), (3, .int many), (4, .int (g 1)), (5, .ref (m + 276 + 2 * (g 1).toNatClampNeg)), (6, .ref (m + 276 + 2 * (g 1 + 1).toNatClampNeg)), (7, .ref (m + 276 + 2 * (g 1 + 1 + 1).toNatClampNeg)), (8, .int y8_38)]) (st' := [.ref (m + 276 + 2 * (g 1 + 1 + 1).toNatClampNeg)]) [(99, .aload 7)] (by decide +kernel) rfl ?_
      have hb39 := hUl.si (hsi88.tr hsi96)
      obtain ⟨n35, f36, hu37, hu38⟩ := id hb39
      have kn35 := zrng n35
      refine zr_get (idx := 30) (k := 0) (v := .ref (m + 276 + 2 * (g 1 + 1 + 1).toNatClampNeg + 1)) (by decide +kernel) (by decide +kernel) hu37 rfl ?_
      refine zp_seg (pc' := 107) (lv' := [(9, .int r59), (0, .ref m), (1, .ref to), (2, .ref ys), (3, .int many), (4, .int (g 1)), (5, .ref (m + 276 + 2 * (g 1).toNatClampNeg)), (6, .ref (m + 276 + 2 * (g 1 + 1).toNatClampNeg)), (7, .ref (m + 276 + 2 * (g 1 + 1 + 1).toNatClampNeg)), (8, .int y8_38)]) (st' := [.ref m, .int 0, .int 0, .ref (m + 276 + 2 * (g 1 + 1 + 1).toNatClampNeg + 1)]) [(104, .iconst 0), (105, .iconst 0), (106, .aload_n 0)] (by decide +kernel) rfl ?_
      have hb40 : w96 m = some (.inl (15, zMo m (zs g 1 (g 1 + 1 + 1 + 1)) r)) := ((heq96 m (by omega)).trans (heq88 m (by omega))).trans hmL38
      refine zr_get (idx := 151) (k := 4) (v := .ref (m + 3)) (by decide +kernel) (by decide +kernel) hb40 rfl ?_
      refine zp_seg (pc' := 112) (lv' := [(9, .int r59), (0, .ref m), (1, .ref to), (2, .ref ys), (3, .int many), (4, .int (g 1)), (5, .ref (m + 276 + 2 * (g 1).toNatClampNeg)), (6, .ref (m + 276 + 2 * (g 1 + 1).toNatClampNeg)), (7, .ref (m + 276 + 2 * (g 1 + 1 + 1).toNatClampNeg)), (8, .int y8_38)]) (st' := [.int y8_38, .ref (m + 3), .int 0, .int 0, .ref (m + 276 + 2 * (g 1 + 1 + 1).toNatClampNeg + 1)]) [(110, .iload 8)] (by decide +kernel) rfl ?_
      have hb41 : w96 (m + 3) = some (.inr (0, 700, .inl fx)) := ((heq96 (m + 3) (by omega)).trans (heq88 (m + 3) (by omega))).trans hb33
      refine zr_iald (by decide +kernel) hb41 (zin (by first | omega | decide) (by first | omega | decide)) ?_
      obtain ⟨x112, ex112⟩ : ∃ x9, x9 = fx (y8_38.toNatClampNeg) := ⟨_, rfl⟩
      rw [← ex112]
      have kx112 := zrng x112
      refine zr_callS (idx := 46) (j := 256) (by decide +kernel) (by decide +kernel) (by decide) (show zMe 256 = some zq_X16_sub from rfl) rfl rfl (Nat.le_of_ble_eq_true rfl) rfl rfl (Nat.le_of_ble_eq_true rfl) (Nat.le_of_ble_eq_true rfl) (c_X16_sub (w := w96) 0 x112 (by exact zr1_0) (by rw [ex112]; exact hxr _ (by omega))) (by omega) (fun v113 w113 hp113 => ?_)
      obtain ⟨hpw113, r113, rfl, hr113⟩ := hp113
      replace hpw113 := hpw113.symm
      subst hpw113
      have kr113 := zrng r113
      show zP _ _ _ _ [.int r113, .int 0, .ref (m + 276 + 2 * (g 1 + 1 + 1).toNatClampNeg + 1)] _ _ _ _ _
      have hl43 : (0 : Int32).toInt = 0 := by decide
      have hz44 : ((0 : Int32).toNatClampNeg : Int) = 0 := by decide
      refine zr_iast (by decide +kernel) hu38 (zin (by decide) (by decide)) ?_
      show zP (d + 1) zq_X16_through 117 [(9, .int r59), (0, .ref m), (1, .ref to), (2, .ref ys), (3, .int many), (4, .int (g 1)), (5, .ref (m + 276 + 2 * (g 1).toNatClampNeg)), (6, .ref (m + 276 + 2 * (g 1 + 1).toNatClampNeg)), (7, .ref (m + 276 + 2 * (g 1 + 1 + 1).toNatClampNeg)), (8, .int y8_38)] [] (zup w96 (m + 276 + 2 * (g 1 + 1 + 1).toNatClampNeg + 1) (.inr (0, 1000, .inl (upd f36 ((0 : Int32).toNatClampNeg) r113)))) sz 0 0 Post
      obtain ⟨w116, ew116⟩ : ∃ wz9, wz9 = zup w96 (m + 276 + 2 * (g 1 + 1 + 1).toNatClampNeg + 1) (.inr (0, 1000, .inl (upd f36 ((0 : Int32).toNatClampNeg) r113))) := ⟨_, rfl⟩
      have hsi116 : zSI w96 w116 := by rw [ew116]; exact zSI.arr _ hu38
      have heq116 : ∀ x, x ≠ m + 276 + 2 * (g 1 + 1 + 1).toNatClampNeg + 1 → w116 x = w96 x := fun x hx => by rw [ew116]; exact zup_n hx
      have hc116 : w116 (m + 276 + 2 * (g 1 + 1 + 1).toNatClampNeg + 1) = some (.inr (0, 1000, .inl (upd f36 ((0 : Int32).toNatClampNeg) r113))) := by rw [ew116]; exact zup_s
      rw [← ew116]
      clear ew116
      refine zp_seg (pc' := 119) (lv' := [(9, .int r59), (0, .ref m), (1, .ref to), (2, .ref ys), (3, .int many), (4, .int (g 1)), (5, .ref (m + 276 + 2 * (g 1).toNatClampNeg)), (6, .ref (m + 276 + 2 * (g 1 + 1).toNatClampNeg)), (7, .ref (m + 276 + 2 * (g 1 + 1 + 1).toNatClampNeg)), (8, .int y8_38)]) (st' := [.ref (m + 276 + 2 * (g 1 + 1 + 1).toNatClampNeg)]) [(117, .aload 7)] (by decide +kernel) rfl ?_
      have hb45 : w116 (m + 276 + 2 * (g 1 + 1 + 1).toNatClampNeg) = some (.inl (14, [.ref (m + 276 + 2 * (g 1 + 1 + 1).toNatClampNeg + 1), .int n35])) := (heq116 (m + 276 + 2 * (g 1 + 1 + 1).toNatClampNeg) (by omega)).trans hu37
      refine zr_get (idx := 30) (k := 0) (v := .ref (m + 276 + 2 * (g 1 + 1 + 1).toNatClampNeg + 1)) (by decide +kernel) (by decide +kernel) hb45 rfl ?_
      refine zp_seg (pc' := 124) (lv' := [(9, .int r59), (0, .ref m), (1, .ref to), (2, .ref ys), (3, .int many), (4, .int (g 1)), (5, .ref (m + 276 + 2 * (g 1).toNatClampNeg)), (6, .ref (m + 276 + 2 * (g 1 + 1).toNatClampNeg)), (7, .ref (m + 276 + 2 * (g 1 + 1 + 1).toNatClampNeg)), (8, .int y8_38)]) (st' := [.int 1, .int 1, .ref (m + 276 + 2 * (g 1 + 1 + 1).toNatClampNeg + 1)]) [(122, .iconst 1), (123, .iconst 1)] (by decide +kernel) rfl ?_
      have hl46 : (1 : Int32).toInt = 1 := by decide
      have hz47 : ((1 : Int32).toNatClampNeg : Int) = 1 := by decide
      refine zr_iast (by decide +kernel) hc116 (zin (by decide) (by decide)) ?_
      show zP (d + 1) zq_X16_through 125 [(9, .int r59), (0, .ref m), (1, .ref to), (2, .ref ys), (3, .int many), (4, .int (g 1)), (5, .ref (m + 276 + 2 * (g 1).toNatClampNeg)), (6, .ref (m + 276 + 2 * (g 1 + 1).toNatClampNeg)), (7, .ref (m + 276 + 2 * (g 1 + 1 + 1).toNatClampNeg)), (8, .int y8_38)] [] (zup w116 (m + 276 + 2 * (g 1 + 1 + 1).toNatClampNeg + 1) (.inr (0, 1000, .inl (upd (upd f36 ((0 : Int32).toNatClampNeg) r113) ((1 : Int32).toNatClampNeg) 1)))) sz 0 0 Post
      obtain ⟨w124, ew124⟩ : ∃ wz9, wz9 = zup w116 (m + 276 + 2 * (g 1 + 1 + 1).toNatClampNeg + 1) (.inr (0, 1000, .inl (upd (upd f36 ((0 : Int32).toNatClampNeg) r113) ((1 : Int32).toNatClampNeg) 1))) := ⟨_, rfl⟩
      have hsi124 : zSI w116 w124 := by rw [ew124]; exact zSI.arr _ hc116
      have heq124 : ∀ x, x ≠ m + 276 + 2 * (g 1 + 1 + 1).toNatClampNeg + 1 → w124 x = w116 x := fun x hx => by rw [ew124]; exact zup_n hx
      have hc124 : w124 (m + 276 + 2 * (g 1 + 1 + 1).toNatClampNeg + 1) = some (.inr (0, 1000, .inl (upd (upd f36 ((0 : Int32).toNatClampNeg) r113) ((1 : Int32).toNatClampNeg) 1))) := by rw [ew124]; exact zup_s
      rw [← ew124]
      clear ew124
      refine zp_seg (pc' := 128) (lv' := [(9, .int r59), (0, .ref m), (1, .ref to), (2, .ref ys), (3, .int many), (4, .int (g 1)), (5, .ref (m + 276 + 2 * (g 1).toNatClampNeg)), (6, .ref (m + 276 + 2 * (g 1 + 1).toNatClampNeg)), (7, .ref (m + 276 + 2 * (g 1 + 1 + 1).toNatClampNeg)), (8, .int y8_38)]) (st' := [.int 2, .ref (m + 276 + 2 * (g 1 + 1 + 1).toNatClampNeg)]) [(125, .aload 7), (127, .iconst 2)] (by decide +kernel) rfl ?_
      have hb48 : w124 (m + 276 + 2 * (g 1 + 1 + 1).toNatClampNeg) = some (.inl (14, [.ref (m + 276 + 2 * (g 1 + 1 + 1).toNatClampNeg + 1), .int n35])) := (heq124 (m + 276 + 2 * (g 1 + 1 + 1).toNatClampNeg) (by omega)).trans hb45
      refine zr_put2 (idx := 25) (k := 1) (fs2 := [.ref (m + 276 + 2 * (g 1 + 1 + 1).toNatClampNeg + 1), .int 2]) (by decide +kernel) (by decide +kernel) hb48 (Nat.le_of_ble_eq_true rfl) rfl rfl rfl ?_
      show zP (d + 1) zq_X16_through 131 [(9, .int r59), (0, .ref m), (1, .ref to), (2, .ref ys), (3, .int many), (4, .int (g 1)), (5, .ref (m + 276 + 2 * (g 1).toNatClampNeg)), (6, .ref (m + 276 + 2 * (g 1 + 1).toNatClampNeg)), (7, .ref (m + 276 + 2 * (g 1 + 1 + 1).toNatClampNeg)), (8, .int y8_38)] [] (zup w124 (m + 276 + 2 * (g 1 + 1 + 1).toNatClampNeg) (.inl (14, [.ref (m + 276 + 2 * (g 1 + 1 + 1).toNatClampNeg + 1), .int 2]))) sz 0 0 Post
      obtain ⟨w128, ew128⟩ : ∃ wz9, wz9 = zup w124 (m + 276 + 2 * (g 1 + 1 + 1).toNatClampNeg) (.inl (14, [.ref (m + 276 + 2 * (g 1 + 1 + 1).toNatClampNeg + 1), .int 2])) := ⟨_, rfl⟩
      have hsi128 : zSI w124 w128 := by rw [ew128]; exact zSI.setU hb48
      have heq128 : ∀ x, x ≠ m + 276 + 2 * (g 1 + 1 + 1).toNatClampNeg → w128 x = w124 x := fun x hx => by rw [ew128]; exact zup_n hx
      have hc128 : w128 (m + 276 + 2 * (g 1 + 1 + 1).toNatClampNeg) = some (.inl (14, [.ref (m + 276 + 2 * (g 1 + 1 + 1).toNatClampNeg + 1), .int 2])) := by rw [ew128]; exact zup_s
      rw [← ew128]
      clear ew128
      have hb49 : w128 (m + 276 + 2 * (g 1 + 1 + 1).toNatClampNeg + 1) = some (.inr (0, 1000, .inl (upd (upd f36 ((0 : Int32).toNatClampNeg) r113) ((1 : Int32).toNatClampNeg) 1))) := (heq128 (m + 276 + 2 * (g 1 + 1 + 1).toNatClampNeg + 1) (by omega)).trans hc124
      have hUl9 : zU w128 (m + 276 + 2 * (g 1 + 1 + 1).toNatClampNeg) 1000 (zlin (zf x112)) := zU.mk hc128 hb49 (by rw [zlin_ln]; decide) (by rw [zlin_ln]; decide) (zlin_arr ⟨hr113.1, by rw [hr113.2, zf_0]⟩ (by decide) (by decide))
      have hl9 := zlin_ln (zf x112)
      refine zp_seg (pc' := 137) (lv' := [(9, .int r59), (0, .ref m), (1, .ref to), (2, .ref ys), (3, .int many), (4, .int (g 1)), (5, .ref (m + 276 + 2 * (g 1).toNatClampNeg)), (6, .ref (m + 276 + 2 * (g 1 + 1).toNatClampNeg)), (7, .ref (m + 276 + 2 * (g 1 + 1 + 1).toNatClampNeg)), (8, .int y8_38)]) (st' := [.ref (m + 276 + 2 * (g 1 + 1 + 1).toNatClampNeg), .ref (m + 276 + 2 * (g 1).toNatClampNeg), .ref (m + 276 + 2 * (g 1 + 1).toNatClampNeg)]) [(131, .aload 6), (133, .aload 5), (135, .aload 7)] (by decide +kernel) rfl ?_
      have hb50 : zU w128 (m + 276 + 2 * (g 1 + 1).toNatClampNeg) 1000 (zaM (zaC (zf r85)) Bp) := hp88_0.ag (fun x hx1 hx2 => ((heq128 x (by omega)).trans ((heq124 x (by omega)).trans ((heq116 x (by omega)).trans (heq96 x (by omega))))))
      have ho137_to := zU.o hb50
      have hb51 : zU w128 (m + 276 + 2 * (g 1).toNatClampNeg) 1000 Bp := hUB.ag (fun x hx1 hx2 => ((heq128 x (by omega)).trans ((heq124 x (by omega)).trans ((heq116 x (by omega)).trans ((heq96 x (by omega)).trans (heq88 x (by omega)))))))
      refine zr_callS (idx := 106) (j := 267) (by decide +kernel) (by decide +kernel) (by decide) (show zMe 267 = some zq_X16_times from rfl) rfl rfl (Nat.le_of_ble_eq_true rfl) rfl rfl (Nat.le_of_ble_eq_true rfl) (Nat.le_of_ble_eq_true rfl) (c_X16_times (w := w128) (m + 276 + 2 * (g 1 + 1).toNatClampNeg) (m + 276 + 2 * (g 1).toNatClampNeg) (m + 276 + 2 * (g 1 + 1 + 1).toNatClampNeg) ho137_to hb51 hUl9 (by first | omega | decide | assumption) (by first | omega | decide | assumption) (by first | omega | decide | assumption) (by first | omega | decide | assumption)) (by omega) (fun v137 w137 hp137 => ?_)
      obtain ⟨hsi137, heq137, hp137_0, rfl⟩ := hp137
      show zP _ _ _ _ [] _ _ _ _ _
      have hl8 := @zln_M Bp (zlin (zf x112)) (by omega) (by omega)
      refine zp_seg (pc' := 144) (lv' := [(9, .int r59), (0, .ref m), (1, .ref to), (2, .ref ys), (3, .int many), (4, .int (g 1)), (5, .ref (m + 276 + 2 * (g 1).toNatClampNeg)), (6, .ref (m + 276 + 2 * (g 1 + 1).toNatClampNeg)), (7, .ref (m + 276 + 2 * (g 1 + 1 + 1).toNatClampNeg)), (8, .int y8_38)]) (st' := [.ref (m + 276 + 2 * (g 1 + 1).toNatClampNeg), .ref (m + 276 + 2 * (g 1).toNatClampNeg)]) [(140, .aload 5), (142, .aload 6)] (by decide +kernel) rfl ?_
      have hb52 : zU w137 (m + 276 + 2 * (g 1).toNatClampNeg) 1000 Bp := hb51.ag (fun x hx1 hx2 => (heq137 x (by omega)))
      have ho144_to := zU.o hb52
      refine zr_callS (idx := 62) (j := 264) (by decide +kernel) (by decide +kernel) (by decide) (show zMe 264 = some zq_X16_set from rfl) rfl rfl (Nat.le_of_ble_eq_true rfl) rfl rfl (Nat.le_of_ble_eq_true rfl) (Nat.le_of_ble_eq_true rfl) (c_X16_set (w := w137) (m + 276 + 2 * (g 1).toNatClampNeg) (m + 276 + 2 * (g 1 + 1).toNatClampNeg) ho144_to hp137_0 (by first | omega | decide | assumption) (by first | omega | decide | assumption)) (by omega) (fun v144 w144 hp144 => ?_)
      obtain ⟨hsi144, heq144, hp144_0, rfl⟩ := hp144
      show zP _ _ _ _ [] _ _ _ _ _
      refine zp_seg (pc' := 150) (lv' := [(8, .int (y8_38 + 1)), (9, .int r59), (0, .ref m), (1, .ref to), (2, .ref ys), (3, .int many), (4, .int (g 1)), (5, .ref (m + 276 + 2 * (g 1).toNatClampNeg)), (6, .ref (m + 276 + 2 * (g 1 + 1).toNatClampNeg)), (7, .ref (m + 276 + 2 * (g 1 + 1 + 1).toNatClampNeg))]) (st' := []) [(147, .iinc 8 1)] (by decide +kernel) rfl ?_
      have k53 := zaddC y8_38 1 (n := 1) (by decide) (by omega) (by omega)
      generalize ev150 : (y8_38 + 1 : Int32) = v150 at k53 ⊢
      have kv150 := zrng v150
      refine zp_seg (pc' := 38) (lv' := [(8, .int v150), (9, .int r59), (0, .ref m), (1, .ref to), (2, .ref ys), (3, .int many), (4, .int (g 1)), (5, .ref (m + 276 + 2 * (g 1).toNatClampNeg)), (6, .ref (m + 276 + 2 * (g 1 + 1).toNatClampNeg)), (7, .ref (m + 276 + 2 * (g 1 + 1 + 1).toNatClampNeg))]) (st' := []) [(150, .goto (-112))] (by decide +kernel) rfl ?_
      have hz54 : (v150.toNatClampNeg : Int) = v150.toInt := znat (by first | omega | decide)
      have hb55 : zU w144 to ct (zaA Tp (zaM (zaC (zf r85)) Bp)) := hp96_0.ag (fun x hx1 hx2 => ((heq144 x (by omega)).trans ((heq137 x (by omega)).trans ((heq128 x (by omega)).trans ((heq124 x (by omega)).trans (heq116 x (by omega)))))))
      have hb56 := hUn.si ((((((hsi88.tr hsi96).tr hsi116).tr hsi124).tr hsi128).tr hsi137).tr hsi144)
      have hb57 := hb39.si ((((hsi116.tr hsi124).tr hsi128).tr hsi137).tr hsi144)
      have hb58 : w144 m = some (.inl (15, zMo m (zs g 1 (g 1 + 1 + 1 + 1)) r)) := ((heq144 m (by omega)).trans ((heq137 m (by omega)).trans ((heq128 m (by omega)).trans ((heq124 m (by omega)).trans (heq116 m (by omega)))))).trans hb40
      exact (ih38 w144 v150 (zaM Bp (zlin (zf x112))) (zaA Tp (zaM (zaC (zf r85)) Bp)) (((((((hsiL38.tr hsi88).tr hsi96).tr hsi116).tr hsi124).tr hsi128).tr hsi137).tr hsi144) (fun x hx => ((heq144 x (by omega)).trans ((heq137 x (by omega)).trans ((heq128 x (by omega)).trans ((heq124 x (by omega)).trans ((heq116 x (by omega)).trans ((heq96 x (by omega)).trans ((heq88 x (by omega)).trans (heqL38 x (by omega)))))))))) (by first | assumption | omega | decide) (by first | assumption | omega | decide) hp144_0 hb55 hb56 hb57 hb58 (by
            have h9 := zThr_s (X := fun t => zf (fx t)) (Y := fun t => zf (fy t)) hThr (fun t ht e => absurd (hxd _ _ (by omega) (by omega) e) (by omega)) (c := zf r85) (by
              show zf r85 = (zf (fy y8_38.toNatClampNeg) - zVl (zf (fx y8_38.toNatClampNeg)) Tp) * zinvF (zVl (zf (fx y8_38.toNatClampNeg)) Bp)
              rw [hr85.2, hr59.2, hr56.2, hr82.2, hr79.2, ex47, ex55, ex78])
            rw [show v150.toNatClampNeg = y8_38.toNatClampNeg + 1 by omega, ex112]
            exact h9) (by omega)).more (zfa1 rfl (zfa1 rfl (zfa1 rfl (zfa1 rfl (zfa1 rfl (zfa1 rfl (zfa1 rfl (zfa1 rfl (zfa1 rfl (zfa0))))))))))
  have hl59 : (0 : Int32).toInt = 0 := by decide
  have hz60 : ((0 : Int32).toNatClampNeg : Int) = 0 := by decide
  have hb61 : zU w32 (m + 276 + 2 * (g 1).toNatClampNeg) 1000 (zaC (zf 1)) := hp27_0.ag (fun x hx1 hx2 => (heq32 x (by omega)))
  have hb62 : zU w32 (m + 276 + 2 * (g 1 + 1).toNatClampNeg) 1000 zaZ := hp13_1.ag (fun x hx1 hx2 => ((heq32 x (by omega)).trans ((heq27 x (by omega)).trans (heq19 x (by omega)))))
  have hb63 : zU w32 (m + 276 + 2 * (g 1 + 1 + 1).toNatClampNeg) 1000 zaZ := hp19_1.ag (fun x hx1 hx2 => ((heq32 x (by omega)).trans (heq27 x (by omega))))
  exact (hL38 _ w32 0 (zaC (zf 1)) (zaZ) zSI.rf (fun _ _ => rfl) (by first | assumption | omega | decide) (by first | assumption | omega | decide) hb61 hUt0 (zU.o hb62) (zU.o hb63) hb26 (by
        rw [show (0 : Int32).toNatClampNeg = 0 by decide]
        exact zThr_0 _ _ _ (by rw [zf_1]; exact z1_ne)) (Nat.lt_succ_self _)).more (zfa1 rfl (zfa1 rfl (zfa1 rfl (zfa1 rfl (zfa1 rfl (zfa1 rfl (zfa1 rfl (zfa1 rfl (zfa1 rfl (zfa0))))))))))
