set_option maxHeartbeats 8000000 in
set_option maxRecDepth 100000 in
theorem c_X16_timesU {w : zM} {g : Nat → Int32} {r : Nat → Value} {cu : Nat} {q : zA2} {v : zA1} {g1 : Int32} (m : Nat) (to : Nat) (a : Nat) (u : Nat) (hm : w m = some (.inl (15, zMo m g r))) (hR_m : zR m w) (hBo_to : zBo w to) (hB_a : zB w a q) (hU_u : zU w u cu v) (hut : 0 ≤ g1.toInt ∧ g1.toInt + 1 ≤ 160) (hal : to = a ∨ to + 130 ≤ a ∨ a + 130 ≤ to) (hmt : m + 596 ≤ to) (hma : m + 596 ≤ a) (hmu : (m + 276 ≤ u ∧ u + 2 ≤ m + 276 + 2 * g1.toNatClampNeg) ∨ m + 596 ≤ u) (hut2 : u + 2 ≤ to ∨ to + 130 ≤ u) (hsz : zdn q + zln v ≤ 200) (hg1 : g 1 = g1) : zCon 2 zq_X16_timesU [.ref m, .ref to, .ref a, .ref u] w (fun v9 w9' => zSI w w9' ∧ (∀ x, (x < to ∨ to + 130 ≤ x) ∧ (x < m + 276 + 2 * g1.toNatClampNeg ∨ m + 276 + 2 * g1.toNatClampNeg + (320 - 2 * g1.toNatClampNeg) ≤ x) → w9' x = w x) ∧ zB w9' to (zbM (zbC v) q) ∧ v9 = none) := by
  subst hg1
  intro d sz hd
  obtain ⟨d, rfl⟩ : ∃ d9, d = d9 + 1 := ⟨d - 1, by omega⟩
  generalize hPost : (fun (r9' : Option (Option Value)) (w9' : zM) (z9 : Nat) => z9 = sz ∧ ∃ v9, r9' = some v9 ∧ (zSI w w9' ∧ (∀ x, (x < to ∨ to + 130 ≤ x) ∧ (x < m + 276 + 2 * (g 1).toNatClampNeg ∨ m + 276 + 2 * (g 1).toNatClampNeg + (320 - 2 * (g 1).toNatClampNeg) ≤ x) → w9' x = w x) ∧ zB w9' to (zbM (zbC v) q) ∧ v9 = none)) = Post
  show zP (d + 1) zq_X16_timesU 0 [(0, .ref m), (1, .ref to), (2, .ref a), (3, .ref u)] [] w sz 0 0 Post
  have k1 := zrng (g 1)
  have hz2 : ((g 1).toNatClampNeg : Int) = (g 1).toInt := znat (by first | omega | decide)
  obtain ⟨na, hQa1, hQa2, hQa3, hQa4, hQa5, hQa6⟩ := id hB_a
  have kna := zrng na
  refine zp_seg (pc' := 1) (lv' := [(0, .ref m), (1, .ref to), (2, .ref a), (3, .ref u)]) (st' := [.ref m]) [(0, .aload_n 0)] (by decide +kernel) rfl ?_
  refine zr_get (idx := 21) (k := 1) (v := .int (g 1)) (by decide +kernel) (by decide +kernel) hm rfl ?_
  refine zp_seg (pc' := 7) (lv' := [(4, .int (g 1)), (0, .ref m), (1, .ref to), (2, .ref a), (3, .ref u)]) (st' := [.ref m]) [(4, .istore 4), (6, .aload_n 0)] (by decide +kernel) rfl ?_
  refine zr_callV (idx := 74) (j := 263) (by decide +kernel) (by decide +kernel) (show zMe 263 = some zq_X16_newU from rfl) rfl rfl (Nat.le_of_ble_eq_true rfl) rfl rfl hm (Nat.le_of_ble_eq_true rfl) (Nat.le_of_ble_eq_true rfl) (c_X16_newU (w := w) (g1 := (g 1)) m hm hR_m (by first | omega | decide | assumption) rfl) (by omega) (fun v7 w7 hp7 => ?_)
  obtain ⟨hsi7, heq7, hp7_0, hp7_1, rfl⟩ := hp7
  have hM7 : w7 m = some (.inl (15, zMo m (zs g 1 ((g 1) + 1)) r)) := hp7_0
  show zP _ _ _ _ [.ref (m + 276 + 2 * (g 1).toNatClampNeg)] _ _ _ _ _
  refine zp_seg (pc' := 15) (lv' := [(6, .int 0), (5, .ref (m + 276 + 2 * (g 1).toNatClampNeg)), (4, .int (g 1)), (0, .ref m), (1, .ref to), (2, .ref a), (3, .ref u)]) (st' := []) [(10, .astore 5), (12, .iconst 0), (13, .istore 6)] (by decide +kernel) rfl ?_
  have hL15 : ∀ (mm15 : Nat) (wL15 : zM) (y6_15 : Int32), (zSI w7 wL15) → (∀ x, ((x < to + 2 ∨ to + 2 + 128 ≤ x) ∧ (x < m + 276 + 2 * (g 1).toNatClampNeg ∨ m + 276 + 2 * (g 1).toNatClampNeg + 2 ≤ x)) ∧ x ≠ m → wL15 x = w7 x) → (0 ≤ y6_15.toInt) → (y6_15.toInt ≤ (zrw q : Int)) → (zUo wL15 (m + 276 + 2 * (g 1).toNatClampNeg) 1000) → (wL15 m = some (.inl (15, zMo m (zs g 1 ((g 1) + 1)) r))) → (∀ t, t < y6_15.toNatClampNeg → zU wL15 (to + 2 + 2 * t) 200 (zaM v (q.1 t))) → (∀ t, y6_15.toNatClampNeg ≤ t → t < zrw q → zU wL15 (a + 2 + 2 * t) 200 (q.1 t)) → (2147483647 - y6_15.toInt).toNat < mm15 → zP (d + 1) zq_X16_timesU 15 [(0, .ref m), (1, .ref to), (2, .ref a), (3, .ref u), (4, .int (g 1)), (5, .ref (m + 276 + 2 * (g 1).toNatClampNeg)), (6, .int y6_15)] [] wL15 sz 0 0 Post := by
    intro mm15
    induction mm15 with
    | zero => intros; omega
    | succ mm15 ih15 =>
    intro wL15 y6_15 hsiL15 heqL15 hi15_0 hi15_1 hUp hmL15 hT hA hmu15
    have ky6_15 := zrng y6_15
    refine zp_seg (pc' := 18) (lv' := [(0, .ref m), (1, .ref to), (2, .ref a), (3, .ref u), (4, .int (g 1)), (5, .ref (m + 276 + 2 * (g 1).toNatClampNeg)), (6, .int y6_15)]) (st' := [.ref a, .int y6_15]) [(15, .iload 6), (17, .aload_n 2)] (by decide +kernel) rfl ?_
    have hb3 : wL15 a = some (.inl (11, [.ref (a + 1), .int na])) := ((heqL15 a (by omega)).trans (heq7 a (by omega))).trans hQa1
    refine zr_get (idx := 93) (k := 1) (v := .int na) (by decide +kernel) (by decide +kernel) hb3 rfl ?_
    refine zp_if (i := .if_icmp .ge 34) (c := na ≤ y6_15) (t := 55) (e := 24) (lv' := [(0, .ref m), (1, .ref to), (2, .ref a), (3, .ref u), (4, .int (g 1)), (5, .ref (m + 276 + 2 * (g 1).toNatClampNeg)), (6, .int y6_15)]) (st' := []) (by decide +kernel) rfl (fun cc21 => ?_) (fun cc21 => ?_)
    ·
      have k4 := zrng na
      have f5 := zleI cc21
      have hz6 : (y6_15.toNatClampNeg : Int) = y6_15.toInt := znat (by first | omega | decide)
      refine zp_seg (pc' := 57) (lv' := [(0, .ref m), (1, .ref to), (2, .ref a), (3, .ref u), (4, .int (g 1)), (5, .ref (m + 276 + 2 * (g 1).toNatClampNeg)), (6, .int y6_15)]) (st' := [.ref a, .ref to]) [(55, .aload_n 1), (56, .aload_n 2)] (by decide +kernel) rfl ?_
      refine zr_get (idx := 93) (k := 1) (v := .int na) (by decide +kernel) (by decide +kernel) hb3 rfl ?_
      have hb12 := hBo_to.si (hsi7.tr hsiL15)
      obtain ⟨n7, hb8, hb9, -⟩ := id hb12
      have kn7 := zrng n7
      refine zr_put2 (idx := 93) (k := 1) (fs2 := [.ref (to + 1), .int na]) (by decide +kernel) (by decide +kernel) hb8 (Nat.le_of_ble_eq_true rfl) rfl rfl rfl ?_
      show zP (d + 1) zq_X16_timesU 63 [(0, .ref m), (1, .ref to), (2, .ref a), (3, .ref u), (4, .int (g 1)), (5, .ref (m + 276 + 2 * (g 1).toNatClampNeg)), (6, .int y6_15)] [] (zup wL15 to (.inl (11, [.ref (to + 1), .int na]))) sz 0 0 Post
      obtain ⟨w60, ew60⟩ : ∃ wz9, wz9 = zup wL15 to (.inl (11, [.ref (to + 1), .int na])) := ⟨_, rfl⟩
      have hsi60 : zSI wL15 w60 := by rw [ew60]; exact zSI.setB hb8
      have heq60 : ∀ x, x ≠ to → w60 x = wL15 x := fun x hx => by rw [ew60]; exact zup_n hx
      have hc60 : w60 to = some (.inl (11, [.ref (to + 1), .int na])) := by rw [ew60]; exact zup_s
      rw [← ew60]
      clear ew60
      have hb13 := hb12.si hsi60
      have hBn9 : zBw w60 to (zrw q) (zbM (zbC v) q) := zBw.mk hb13 hc60 (by omega) hQa4 (fun j hj => by rw [zbCM_c]; exact (hT j (by omega)).ag (fun x g1 g2 => heq60 x (by omega))) (fun j hj => by rw [zbCM_c, zrw_dg q j (by omega)]; exact zaM_Zr _)
      refine zp_seg (pc' := 64) (lv' := [(0, .ref m), (1, .ref to), (2, .ref a), (3, .ref u), (4, .int (g 1)), (5, .ref (m + 276 + 2 * (g 1).toNatClampNeg)), (6, .int y6_15)]) (st' := [.ref to]) [(63, .aload_n 1)] (by decide +kernel) rfl ?_
      refine zr_callV (idx := 105) (j := 244) (by decide +kernel) (by decide +kernel) (show zMe 244 = some zq_X12_trim from rfl) rfl rfl (Nat.le_of_ble_eq_true rfl) rfl rfl hc60 (Nat.le_of_ble_eq_true rfl) (Nat.le_of_ble_eq_true rfl) (c_X12_trim (w := w60) to hBn9) (by omega) (fun v64 w64 hp64 => ?_)
      obtain ⟨hsi64, heq64, hp64_0, rfl⟩ := hp64
      show zP _ _ _ _ [] _ _ _ _ _
      refine zp_seg (pc' := 70) (lv' := [(0, .ref m), (1, .ref to), (2, .ref a), (3, .ref u), (4, .int (g 1)), (5, .ref (m + 276 + 2 * (g 1).toNatClampNeg)), (6, .int y6_15)]) (st' := [.int (g 1), .ref m]) [(67, .aload_n 0), (68, .iload 4)] (by decide +kernel) rfl ?_
      have hb14 : w64 m = some (.inl (15, zMo m (zs g 1 ((g 1) + 1)) r)) := ((heq64 m (by omega)).trans (heq60 m (by omega))).trans hmL15
      refine zr_put2 (idx := 21) (k := 1) (fs2 := zMo m g r) (by decide +kernel) (by decide +kernel) hb14 (Nat.le_of_ble_eq_true rfl) rfl rfl rfl ?_
      show zP (d + 1) zq_X16_timesU 73 [(0, .ref m), (1, .ref to), (2, .ref a), (3, .ref u), (4, .int (g 1)), (5, .ref (m + 276 + 2 * (g 1).toNatClampNeg)), (6, .int y6_15)] [] (zup w64 m (.inl (15, zMo m g r))) sz 0 0 Post
      obtain ⟨w70, ew70⟩ : ∃ wz9, wz9 = zup w64 m (.inl (15, zMo m g r)) := ⟨_, rfl⟩
      have hsi70 : zSI w64 w70 := by rw [ew70]; exact zSI.setG hb14 _ _
      have heq70 : ∀ x, x ≠ m → w70 x = w64 x := fun x hx => by rw [ew70]; exact zup_n hx
      have hc70 : w70 m = some (.inl (15, zMo m g r)) := by rw [ew70]; exact zup_s
      rw [← ew70]
      clear ew70
      have hmend : w70 m = w m := by rw [hc70, hm]
      have hoffend : ∀ x, (x < to ∨ to + 130 ≤ x) ∧ (x < m + 276 + 2 * (g 1).toNatClampNeg ∨ m + 276 + 2 * (g 1).toNatClampNeg + (320 - 2 * (g 1).toNatClampNeg) ≤ x) → w70 x = w x := fun x hx => by
          by_cases ex : x = m
          · rw [ex]; exact hmend
          · exact ((heq70 x (by omega)).trans ((heq64 x (by omega)).trans ((heq60 x (by omega)).trans ((heqL15 x (by omega)).trans (heq7 x (by omega))))))
      have hb15 : zB w70 to ((zbM (zbC v) q)) := hp64_0.ag (fun x hx1 hx2 => (heq70 x (by omega)))
      refine zr_retV (by decide +kernel) rfl ?_
      rw [← hPost]; exact ⟨rfl, _, rfl, ((((hsi7.tr hsiL15).tr hsi60).tr hsi64).tr hsi70), hoffend, (by first | exact hb15 | (have z9 := hb15; simpa using z9)), rfl⟩
    ·
      have k16 := zrng na
      have f17 := znleI cc21
      refine zp_seg (pc' := 27) (lv' := [(0, .ref m), (1, .ref to), (2, .ref a), (3, .ref u), (4, .int (g 1)), (5, .ref (m + 276 + 2 * (g 1).toNatClampNeg)), (6, .int y6_15)]) (st' := [.ref a, .ref (m + 276 + 2 * (g 1).toNatClampNeg)]) [(24, .aload 5), (26, .aload_n 2)] (by decide +kernel) rfl ?_
      refine zr_get (idx := 98) (k := 0) (v := .ref (a + 1)) (by decide +kernel) (by decide +kernel) hb3 rfl ?_
      refine zp_seg (pc' := 32) (lv' := [(0, .ref m), (1, .ref to), (2, .ref a), (3, .ref u), (4, .int (g 1)), (5, .ref (m + 276 + 2 * (g 1).toNatClampNeg)), (6, .int y6_15)]) (st' := [.int y6_15, .ref (a + 1), .ref (m + 276 + 2 * (g 1).toNatClampNeg)]) [(30, .iload 6)] (by decide +kernel) rfl ?_
      have hb18 : wL15 (a + 1) = some (.inr (4, 64, zbr a)) := ((heqL15 (a + 1) (by omega)).trans (heq7 (a + 1) (by omega))).trans hQa2
      have hz19 : (y6_15.toNatClampNeg : Int) = y6_15.toInt := znat (by first | omega | decide)
      refine zr_aald (v := .ref (a + 2 + 2 * y6_15.toNatClampNeg)) (by decide +kernel) hb18 (by decide) (zin (by first | omega | decide) (by first | omega | decide)) (zbr_at (by omega)) ?_
      refine zp_seg (pc' := 34) (lv' := [(0, .ref m), (1, .ref to), (2, .ref a), (3, .ref u), (4, .int (g 1)), (5, .ref (m + 276 + 2 * (g 1).toNatClampNeg)), (6, .int y6_15)]) (st' := [.ref u, .ref (a + 2 + 2 * y6_15.toNatClampNeg), .ref (m + 276 + 2 * (g 1).toNatClampNeg)]) [(33, .aload_n 3)] (by decide +kernel) rfl ?_
      have hUa := hA y6_15.toNatClampNeg (by omega) (by omega)
      have hca := hUa.cap
      have hdn := zdn_le q y6_15.toNatClampNeg
      have hml := zln_Mle (q.1 y6_15.toNatClampNeg) v
      have hb20 : zU wL15 u cu v := hU_u.ag (fun x hx1 hx2 => ((heqL15 x (by omega)).trans (heq7 x (by omega))))
      refine zr_callS (idx := 106) (j := 267) (by decide +kernel) (by decide +kernel) (by decide) (show zMe 267 = some zq_X16_times from rfl) rfl rfl (Nat.le_of_ble_eq_true rfl) rfl rfl (Nat.le_of_ble_eq_true rfl) (Nat.le_of_ble_eq_true rfl) (c_X16_times (w := wL15) (m + 276 + 2 * (g 1).toNatClampNeg) (a + 2 + 2 * y6_15.toNatClampNeg) u hUp hUa hb20 (by first | omega | decide | assumption) (by first | omega | decide | assumption) (by first | omega | decide | assumption) (by first | omega | decide | assumption)) (by omega) (fun v34 w34 hp34 => ?_)
      obtain ⟨hsi34, heq34, hp34_0, rfl⟩ := hp34
      show zP _ _ _ _ [] _ _ _ _ _
      refine zp_seg (pc' := 38) (lv' := [(0, .ref m), (1, .ref to), (2, .ref a), (3, .ref u), (4, .int (g 1)), (5, .ref (m + 276 + 2 * (g 1).toNatClampNeg)), (6, .int y6_15)]) (st' := [.ref to]) [(37, .aload_n 1)] (by decide +kernel) rfl ?_
      have hb26 := hBo_to.si ((hsi7.tr hsiL15).tr hsi34)
      obtain ⟨n21, hb22, hb23, -⟩ := id hb26
      have kn21 := zrng n21
      refine zr_get (idx := 98) (k := 0) (v := .ref (to + 1)) (by decide +kernel) (by decide +kernel) hb22 rfl ?_
      refine zp_seg (pc' := 43) (lv' := [(0, .ref m), (1, .ref to), (2, .ref a), (3, .ref u), (4, .int (g 1)), (5, .ref (m + 276 + 2 * (g 1).toNatClampNeg)), (6, .int y6_15)]) (st' := [.int y6_15, .ref (to + 1)]) [(41, .iload 6)] (by decide +kernel) rfl ?_
      refine zr_aald (v := .ref (to + 2 + 2 * y6_15.toNatClampNeg)) (by decide +kernel) hb23 (by decide) (zin (by first | omega | decide) (by first | omega | decide)) (zbr_at (by omega)) ?_
      have hrow27 := hb26.rowo (y6_15.toNatClampNeg) (by omega)
      refine zp_seg (pc' := 46) (lv' := [(0, .ref m), (1, .ref to), (2, .ref a), (3, .ref u), (4, .int (g 1)), (5, .ref (m + 276 + 2 * (g 1).toNatClampNeg)), (6, .int y6_15)]) (st' := [.ref (m + 276 + 2 * (g 1).toNatClampNeg), .ref (to + 2 + 2 * y6_15.toNatClampNeg)]) [(44, .aload 5)] (by decide +kernel) rfl ?_
      refine zr_callS (idx := 62) (j := 264) (by decide +kernel) (by decide +kernel) (by decide) (show zMe 264 = some zq_X16_set from rfl) rfl rfl (Nat.le_of_ble_eq_true rfl) rfl rfl (Nat.le_of_ble_eq_true rfl) (Nat.le_of_ble_eq_true rfl) (c_X16_set (w := w34) (to + 2 + 2 * y6_15.toNatClampNeg) (m + 276 + 2 * (g 1).toNatClampNeg) hrow27 hp34_0 (by first | omega | decide | assumption) (by first | omega | decide | assumption)) (by omega) (fun v46 w46 hp46 => ?_)
      obtain ⟨hsi46, heq46, hp46_0, rfl⟩ := hp46
      show zP _ _ _ _ [] _ _ _ _ _
      refine zp_seg (pc' := 52) (lv' := [(6, .int (y6_15 + 1)), (0, .ref m), (1, .ref to), (2, .ref a), (3, .ref u), (4, .int (g 1)), (5, .ref (m + 276 + 2 * (g 1).toNatClampNeg))]) (st' := []) [(49, .iinc 6 1)] (by decide +kernel) rfl ?_
      have k28 := zaddC y6_15 1 (n := 1) (by decide) (by omega) (by omega)
      generalize ev52 : (y6_15 + 1 : Int32) = v52 at k28 ⊢
      have kv52 := zrng v52
      refine zp_seg (pc' := 15) (lv' := [(6, .int v52), (0, .ref m), (1, .ref to), (2, .ref a), (3, .ref u), (4, .int (g 1)), (5, .ref (m + 276 + 2 * (g 1).toNatClampNeg))]) (st' := []) [(52, .goto (-37))] (by decide +kernel) rfl ?_
      have hz29 : (v52.toNatClampNeg : Int) = v52.toInt := znat (by first | omega | decide)
      have hb30 := hUp.si (hsi34.tr hsi46)
      have hb31 : w46 m = some (.inl (15, zMo m (zs g 1 ((g 1) + 1)) r)) := ((heq46 m (by omega)).trans (heq34 m (by omega))).trans hmL15
      exact (ih15 w46 v52 ((hsiL15.tr hsi34).tr hsi46) (fun x hx => ((heq46 x (by omega)).trans ((heq34 x (by omega)).trans (heqL15 x (by omega))))) (by first | assumption | omega | decide) (by first | assumption | omega | decide) hb30 hb31 (by
            intro t ht
            by_cases e : t = y6_15.toNatClampNeg
            · rw [e, zaM_cm]; exact hp46_0
            · exact (hT t (by omega)).ag (fun x g1 g2 => (heq46 x (by omega)).trans (heq34 x (by omega)))) (by
            exact fun t h1 h2 => (hA t (by omega) h2).ag (fun x g1 g2 => (heq46 x (by omega)).trans (heq34 x (by omega)))) (by omega)).more (zfa1 rfl (zfa1 rfl (zfa1 rfl (zfa1 rfl (zfa1 rfl (zfa1 rfl (zfa1 rfl (zfa0))))))))
  have hl32 : (0 : Int32).toInt = 0 := by decide
  have hz33 : ((0 : Int32).toNatClampNeg : Int) = 0 := by decide
  exact (hL15 _ w7 0 zSI.rf (fun _ _ => rfl) (by first | assumption | omega | decide) (by first | assumption | omega | decide) (zU.o hp7_1) hM7 (by
        exact fun t ht => absurd ht (by omega)) (by
        exact fun t _ ht => (hQa5 t ht).ag (fun x g1 g2 => heq7 x (by omega))) (Nat.lt_succ_self _)).more (zfa1 rfl (zfa1 rfl (zfa1 rfl (zfa1 rfl (zfa1 rfl (zfa1 rfl (zfa1 rfl (zfa0))))))))

set_option maxHeartbeats 8000000 in
set_option maxRecDepth 100000 in
theorem c_X16_byU {w : zM} {g : Nat → Int32} {r : Nat → Value} {cu : Nat} {q : zA2} {v : zA1} {g1 : Int32} (m : Nat) (to : Nat) (a : Nat) (u : Nat) (hm : w m = some (.inl (15, zMo m g r))) (hR_m : zR m w) (hBo_to : zBo w to) (hB_a : zB w a q) (hU_u : zU w u cu v) (hut : 0 ≤ g1.toInt ∧ g1.toInt + 2 ≤ 160) (hal : to = a ∨ to + 130 ≤ a ∨ a + 130 ≤ to) (hmt : m + 596 ≤ to) (hma : m + 596 ≤ a) (hmu : (m + 276 ≤ u ∧ u + 2 ≤ m + 276 + 2 * g1.toNatClampNeg) ∨ m + 596 ≤ u) (hut2 : u + 2 ≤ to ∨ to + 130 ≤ u) (hv : 0 < zrw q → 0 < zln v) (hvd : ∀ j, zdv v (q.1 j)) (hvc : zln v ≤ 1000) (hg1 : g 1 = g1) : zCon 5 zq_X16_byU [.ref m, .ref to, .ref a, .ref u] w (fun v9 w9' => zSI w w9' ∧ (∀ x, (x < to ∨ to + 130 ≤ x) ∧ (x < m + 276 + 2 * g1.toNatClampNeg ∨ m + 276 + 2 * g1.toNatClampNeg + (320 - 2 * g1.toNatClampNeg) ≤ x) → w9' x = w x) ∧ zB w9' to (zbQ q v) ∧ v9 = none) := by
  subst hg1
  intro d sz hd
  obtain ⟨d, rfl⟩ : ∃ d9, d = d9 + 1 := ⟨d - 1, by omega⟩
  generalize hPost : (fun (r9' : Option (Option Value)) (w9' : zM) (z9 : Nat) => z9 = sz ∧ ∃ v9, r9' = some v9 ∧ (zSI w w9' ∧ (∀ x, (x < to ∨ to + 130 ≤ x) ∧ (x < m + 276 + 2 * (g 1).toNatClampNeg ∨ m + 276 + 2 * (g 1).toNatClampNeg + (320 - 2 * (g 1).toNatClampNeg) ≤ x) → w9' x = w x) ∧ zB w9' to (zbQ q v) ∧ v9 = none)) = Post
  show zP (d + 1) zq_X16_byU 0 [(0, .ref m), (1, .ref to), (2, .ref a), (3, .ref u)] [] w sz 0 0 Post
  have k1 := zrng (g 1)
  have hz2 : ((g 1).toNatClampNeg : Int) = (g 1).toInt := znat (by first | omega | decide)
  obtain ⟨na, hQa1, hQa2, hQa3, hQa4, hQa5, hQa6⟩ := id hB_a
  have kna := zrng na
  refine zp_seg (pc' := 3) (lv' := [(4, .int 0), (0, .ref m), (1, .ref to), (2, .ref a), (3, .ref u)]) (st' := []) [(0, .iconst 0), (1, .istore 4)] (by decide +kernel) rfl ?_
  have hL3 : ∀ (mm3 : Nat) (wL3 : zM) (y4_3 : Int32), (zSI w wL3) → (∀ x, ((x < to + 2 ∨ to + 2 + 128 ≤ x) ∧ (x < m + 276 + 2 * (g 1).toNatClampNeg ∨ m + 276 + 2 * (g 1).toNatClampNeg + (320 - 2 * (g 1).toNatClampNeg) ≤ x)) ∧ x ≠ m → wL3 x = w x) → (0 ≤ y4_3.toInt) → (y4_3.toInt ≤ (zrw q : Int)) → (wL3 m = some (.inl (15, zMo m g r))) → (∀ t, t < y4_3.toNatClampNeg → zU wL3 (to + 2 + 2 * t) 200 (zquo (q.1 t) v)) → (∀ t, y4_3.toNatClampNeg ≤ t → t < zrw q → zU wL3 (a + 2 + 2 * t) 200 (q.1 t)) → (2147483647 - y4_3.toInt).toNat < mm3 → zP (d + 1) zq_X16_byU 3 [(0, .ref m), (1, .ref to), (2, .ref a), (3, .ref u), (4, .int y4_3)] [] wL3 sz 0 0 Post := by
    intro mm3
    induction mm3 with
    | zero => intros; omega
    | succ mm3 ih3 =>
    intro wL3 y4_3 hsiL3 heqL3 hi3_0 hi3_1 hmL3 hT hA hmu3
    have ky4_3 := zrng y4_3
    refine zp_seg (pc' := 6) (lv' := [(0, .ref m), (1, .ref to), (2, .ref a), (3, .ref u), (4, .int y4_3)]) (st' := [.ref a, .int y4_3]) [(3, .iload 4), (5, .aload_n 2)] (by decide +kernel) rfl ?_
    have hb3 : wL3 a = some (.inl (11, [.ref (a + 1), .int na])) := (heqL3 a (by omega)).trans hQa1
    refine zr_get (idx := 93) (k := 1) (v := .int na) (by decide +kernel) (by decide +kernel) hb3 rfl ?_
    refine zp_if (i := .if_icmp .ge 28) (c := na ≤ y4_3) (t := 37) (e := 12) (lv' := [(0, .ref m), (1, .ref to), (2, .ref a), (3, .ref u), (4, .int y4_3)]) (st' := []) (by decide +kernel) rfl (fun cc9 => ?_) (fun cc9 => ?_)
    ·
      have k4 := zrng na
      have f5 := zleI cc9
      have hz6 : (y4_3.toNatClampNeg : Int) = y4_3.toInt := znat (by first | omega | decide)
      refine zp_seg (pc' := 39) (lv' := [(0, .ref m), (1, .ref to), (2, .ref a), (3, .ref u), (4, .int y4_3)]) (st' := [.ref a, .ref to]) [(37, .aload_n 1), (38, .aload_n 2)] (by decide +kernel) rfl ?_
      refine zr_get (idx := 93) (k := 1) (v := .int na) (by decide +kernel) (by decide +kernel) hb3 rfl ?_
      have hb12 := hBo_to.si hsiL3
      obtain ⟨n7, hb8, hb9, -⟩ := id hb12
      have kn7 := zrng n7
      refine zr_put2 (idx := 93) (k := 1) (fs2 := [.ref (to + 1), .int na]) (by decide +kernel) (by decide +kernel) hb8 (Nat.le_of_ble_eq_true rfl) rfl rfl rfl ?_
      show zP (d + 1) zq_X16_byU 45 [(0, .ref m), (1, .ref to), (2, .ref a), (3, .ref u), (4, .int y4_3)] [] (zup wL3 to (.inl (11, [.ref (to + 1), .int na]))) sz 0 0 Post
      obtain ⟨w42, ew42⟩ : ∃ wz9, wz9 = zup wL3 to (.inl (11, [.ref (to + 1), .int na])) := ⟨_, rfl⟩
      have hsi42 : zSI wL3 w42 := by rw [ew42]; exact zSI.setB hb8
      have heq42 : ∀ x, x ≠ to → w42 x = wL3 x := fun x hx => by rw [ew42]; exact zup_n hx
      have hc42 : w42 to = some (.inl (11, [.ref (to + 1), .int na])) := by rw [ew42]; exact zup_s
      rw [← ew42]
      clear ew42
      have hb13 : w42 m = some (.inl (15, zMo m g r)) := (heq42 m (by omega)).trans hmL3
      have hmend : w42 m = w m := by rw [hb13, hm]
      have hoffend : ∀ x, (x < to ∨ to + 130 ≤ x) ∧ (x < m + 276 + 2 * (g 1).toNatClampNeg ∨ m + 276 + 2 * (g 1).toNatClampNeg + (320 - 2 * (g 1).toNatClampNeg) ≤ x) → w42 x = w x := fun x hx => by
          by_cases ex : x = m
          · rw [ex]; exact hmend
          · exact ((heq42 x (by omega)).trans (heqL3 x (by omega)))
      have hb14 := hb12.si hsi42
      refine zr_retV (by decide +kernel) rfl ?_
      rw [← hPost]; exact ⟨rfl, _, rfl, (hsiL3.tr hsi42), hoffend, (by
            have e9 : zrw (zbQ q v) = zrw q := by
              by_cases h9 : 0 < zrw q
              · exact zbQ_rw (hv h9) hvd
              · exact zbQ_rw0 (by omega)
            exact zB.mk hb14 hc42 (by omega) (by omega) (fun j hj => (hT j (by omega)).ag (fun x g1 g2 => heq42 x (by omega)))), rfl⟩
    ·
      have k15 := zrng na
      have f16 := znleI cc9
      refine zp_seg (pc' := 14) (lv' := [(0, .ref m), (1, .ref to), (2, .ref a), (3, .ref u), (4, .int y4_3)]) (st' := [.ref to, .ref m]) [(12, .aload_n 0), (13, .aload_n 1)] (by decide +kernel) rfl ?_
      have hb22 := hBo_to.si hsiL3
      obtain ⟨n17, hb18, hb19, -⟩ := id hb22
      have kn17 := zrng n17
      refine zr_get (idx := 98) (k := 0) (v := .ref (to + 1)) (by decide +kernel) (by decide +kernel) hb18 rfl ?_
      refine zp_seg (pc' := 19) (lv' := [(0, .ref m), (1, .ref to), (2, .ref a), (3, .ref u), (4, .int y4_3)]) (st' := [.int y4_3, .ref (to + 1), .ref m]) [(17, .iload 4)] (by decide +kernel) rfl ?_
      have hz23 : (y4_3.toNatClampNeg : Int) = y4_3.toInt := znat (by first | omega | decide)
      refine zr_aald (v := .ref (to + 2 + 2 * y4_3.toNatClampNeg)) (by decide +kernel) hb19 (by decide) (zin (by first | omega | decide) (by first | omega | decide)) (zbr_at (by omega)) ?_
      have hrow24 := hb22.rowo (y4_3.toNatClampNeg) (by omega)
      refine zp_seg (pc' := 21) (lv' := [(0, .ref m), (1, .ref to), (2, .ref a), (3, .ref u), (4, .int y4_3)]) (st' := [.ref a, .ref (to + 2 + 2 * y4_3.toNatClampNeg), .ref m]) [(20, .aload_n 2)] (by decide +kernel) rfl ?_
      refine zr_get (idx := 98) (k := 0) (v := .ref (a + 1)) (by decide +kernel) (by decide +kernel) hb3 rfl ?_
      refine zp_seg (pc' := 26) (lv' := [(0, .ref m), (1, .ref to), (2, .ref a), (3, .ref u), (4, .int y4_3)]) (st' := [.int y4_3, .ref (a + 1), .ref (to + 2 + 2 * y4_3.toNatClampNeg), .ref m]) [(24, .iload 4)] (by decide +kernel) rfl ?_
      have hb25 : wL3 (a + 1) = some (.inr (4, 64, zbr a)) := (heqL3 (a + 1) (by omega)).trans hQa2
      refine zr_aald (v := .ref (a + 2 + 2 * y4_3.toNatClampNeg)) (by decide +kernel) hb25 (by decide) (zin (by first | omega | decide) (by first | omega | decide)) (zbr_at (by omega)) ?_
      refine zp_seg (pc' := 28) (lv' := [(0, .ref m), (1, .ref to), (2, .ref a), (3, .ref u), (4, .int y4_3)]) (st' := [.ref u, .ref (a + 2 + 2 * y4_3.toNatClampNeg), .ref (to + 2 + 2 * y4_3.toNatClampNeg), .ref m]) [(27, .aload_n 3)] (by decide +kernel) rfl ?_
      have hUa := hA y4_3.toNatClampNeg (by omega) (by omega)
      have hca := hUa.cap
      have hv0 := hv (by omega)
      have hb26 := hR_m.si hsiL3
      have hb27 : zU wL3 u cu v := hU_u.ag (fun x hx1 hx2 => (heqL3 x (by omega)))
      refine zr_callV (idx := 110) (j := 271) (by decide +kernel) (by decide +kernel) (show zMe 271 = some zq_X16_exact from rfl) rfl rfl (Nat.le_of_ble_eq_true rfl) rfl rfl hmL3 (Nat.le_of_ble_eq_true rfl) (Nat.le_of_ble_eq_true rfl) (c_X16_exact (w := wL3) (g1 := (g 1)) m (to + 2 + 2 * y4_3.toNatClampNeg) (a + 2 + 2 * y4_3.toNatClampNeg) u hmL3 hb26 hrow24 hUa hb27 (by first | omega | decide | assumption) (by first | omega | decide | assumption) (by first | omega | decide | assumption) (by first | omega | decide | assumption) (by first | omega | decide | assumption) (by first | omega | decide | assumption) (by first | omega | decide | assumption) (by first | omega | decide | assumption) rfl) (by omega) (fun v28 w28 hp28 => ?_)
      obtain ⟨hsi28, heq28, hp28_0, rfl⟩ := hp28
      show zP _ _ _ _ [] _ _ _ _ _
      refine zp_seg (pc' := 34) (lv' := [(4, .int (y4_3 + 1)), (0, .ref m), (1, .ref to), (2, .ref a), (3, .ref u)]) (st' := []) [(31, .iinc 4 1)] (by decide +kernel) rfl ?_
      have k28 := zaddC y4_3 1 (n := 1) (by decide) (by omega) (by omega)
      generalize ev34 : (y4_3 + 1 : Int32) = v34 at k28 ⊢
      have kv34 := zrng v34
      refine zp_seg (pc' := 3) (lv' := [(4, .int v34), (0, .ref m), (1, .ref to), (2, .ref a), (3, .ref u)]) (st' := []) [(34, .goto (-31))] (by decide +kernel) rfl ?_
      have hz29 : (v34.toNatClampNeg : Int) = v34.toInt := znat (by first | omega | decide)
      have hb30 : w28 m = some (.inl (15, zMo m g r)) := (heq28 m (by omega)).trans hmL3
      exact (ih3 w28 v34 (hsiL3.tr hsi28) (fun x hx => ((heq28 x (by omega)).trans (heqL3 x (by omega)))) (by first | assumption | omega | decide) (by first | assumption | omega | decide) hb30 (by
            intro t ht
            by_cases e : t = y4_3.toNatClampNeg
            · rw [e]; exact hp28_0
            · exact (hT t (by omega)).ag (fun x g1 g2 => heq28 x (by omega))) (by
            exact fun t h1 h2 => (hA t (by omega) h2).ag (fun x g1 g2 => heq28 x (by omega))) (by omega)).more (zfa1 rfl (zfa1 rfl (zfa1 rfl (zfa1 rfl (zfa1 rfl (zfa0))))))
  have hl31 : (0 : Int32).toInt = 0 := by decide
  have hz32 : ((0 : Int32).toNatClampNeg : Int) = 0 := by decide
  exact (hL3 _ w 0 zSI.rf (fun _ _ => rfl) (by first | assumption | omega | decide) (by first | assumption | omega | decide) hm (by
        exact fun t ht => absurd ht (by omega)) (by
        exact fun t _ ht => hQa5 t ht) (Nat.lt_succ_self _)).more (zfa1 rfl (zfa1 rfl (zfa1 rfl (zfa1 rfl (zfa1 rfl (zfa0))))))
