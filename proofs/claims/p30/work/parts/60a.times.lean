set_option maxHeartbeats 8000000 in
set_option maxRecDepth 100000 in
theorem c_X16_times_ {w : zM} {g : Nat → Int32} {r : Nat → Value} {p q : zA2} {g1 : Int32} (m : Nat) (to : Nat) (a : Nat) (b : Nat) (hm : w m = some (.inl (15, zMo m g r))) (hR_m : zR m w) (hBo_to : zBo w to) (hB_a : zB w a p) (hB_b : zB w b q) (hut : 0 ≤ g1.toInt ∧ g1.toInt + 1 ≤ 160) (hta : to + 130 ≤ a ∨ a + 130 ≤ to) (htb : to + 130 ≤ b ∨ b + 130 ≤ to) (hmt : m + 596 ≤ to) (hma : m + 596 ≤ a) (hmb : m + 596 ≤ b) (hrw : zrw p + zrw q ≤ 65) (hdn : zdn p + zdn q + 1 ≤ 200) (hg1 : g 1 = g1) : zCon 3 zq_X16_times_ [.ref m, .ref to, .ref a, .ref b] w (fun v9 w9' => zSI w w9' ∧ (∀ x, (x < to ∨ to + 130 ≤ x) ∧ (x < m + 276 + 2 * g1.toNatClampNeg ∨ m + 276 + 2 * g1.toNatClampNeg + (320 - 2 * g1.toNatClampNeg) ≤ x) → w9' x = w x) ∧ zB w9' to (zbM p q) ∧ v9 = none) := by
  subst hg1
  intro d sz hd
  obtain ⟨d, rfl⟩ : ∃ d9, d = d9 + 1 := ⟨d - 1, by omega⟩
  generalize hPost : (fun (r9' : Option (Option Value)) (w9' : zM) (z9 : Nat) => z9 = sz ∧ ∃ v9, r9' = some v9 ∧ (zSI w w9' ∧ (∀ x, (x < to ∨ to + 130 ≤ x) ∧ (x < m + 276 + 2 * (g 1).toNatClampNeg ∨ m + 276 + 2 * (g 1).toNatClampNeg + (320 - 2 * (g 1).toNatClampNeg) ≤ x) → w9' x = w x) ∧ zB w9' to (zbM p q) ∧ v9 = none)) = Post
  show zP (d + 1) zq_X16_times_ 0 [(0, .ref m), (1, .ref to), (2, .ref a), (3, .ref b)] [] w sz 0 0 Post
  have k1 := zrng (g 1)
  have hz2 : ((g 1).toNatClampNeg : Int) = (g 1).toInt := znat (by first | omega | decide)
  obtain ⟨na, hQa1, hQa2, hQa3, hQa4, hQa5, hQa6⟩ := id hB_a
  have kna := zrng na
  obtain ⟨nb, hQb1, hQb2, hQb3, hQb4, hQb5, hQb6⟩ := id hB_b
  have knb := zrng nb
  refine zp_seg (pc' := 1) (lv' := [(0, .ref m), (1, .ref to), (2, .ref a), (3, .ref b)]) (st' := [.ref m]) [(0, .aload_n 0)] (by decide +kernel) rfl ?_
  refine zr_get (idx := 21) (k := 1) (v := .int (g 1)) (by decide +kernel) (by decide +kernel) hm rfl ?_
  refine zp_seg (pc' := 7) (lv' := [(4, .int (g 1)), (0, .ref m), (1, .ref to), (2, .ref a), (3, .ref b)]) (st' := [.ref m]) [(4, .istore 4), (6, .aload_n 0)] (by decide +kernel) rfl ?_
  refine zr_callV (idx := 74) (j := 263) (by decide +kernel) (by decide +kernel) (show zMe 263 = some zq_X16_newU from rfl) rfl rfl (Nat.le_of_ble_eq_true rfl) rfl rfl hm (Nat.le_of_ble_eq_true rfl) (Nat.le_of_ble_eq_true rfl) (c_X16_newU (w := w) (g1 := (g 1)) m hm hR_m (by first | omega | decide | assumption) rfl) (by omega) (fun v7 w7 hp7 => ?_)
  obtain ⟨hsi7, heq7, hp7_0, hp7_1, rfl⟩ := hp7
  have hM7 : w7 m = some (.inl (15, zMo m (zs g 1 ((g 1) + 1)) r)) := hp7_0
  show zP _ _ _ _ [.ref (m + 276 + 2 * (g 1).toNatClampNeg)] _ _ _ _ _
  refine zp_seg (pc' := 13) (lv' := [(5, .ref (m + 276 + 2 * (g 1).toNatClampNeg)), (4, .int (g 1)), (0, .ref m), (1, .ref to), (2, .ref a), (3, .ref b)]) (st' := [.ref a]) [(10, .astore 5), (12, .aload_n 2)] (by decide +kernel) rfl ?_
  have hb3 : w7 a = some (.inl (11, [.ref (a + 1), .int na])) := (heq7 a (by omega)).trans hQa1
  refine zr_get (idx := 93) (k := 1) (v := .int na) (by decide +kernel) (by decide +kernel) hb3 rfl ?_
  refine zp_if (i := .ifCond .eq 10) (c := na = 0) (t := 26) (e := 19) (lv' := [(5, .ref (m + 276 + 2 * (g 1).toNatClampNeg)), (4, .int (g 1)), (0, .ref m), (1, .ref to), (2, .ref a), (3, .ref b)]) (st' := []) (by decide +kernel) rfl (fun cc16 => ?_) (fun cc16 => ?_)
  ·
    have k4 := zrng na
    have f6 := zeqI cc16
    rw [show (0 : Int32).toInt = 0 from by decide] at f6
    refine zp_seg (pc' := 46) (lv' := [(7, .int 0), (6, .int 0), (5, .ref (m + 276 + 2 * (g 1).toNatClampNeg)), (4, .int (g 1)), (0, .ref m), (1, .ref to), (2, .ref a), (3, .ref b)]) (st' := []) [(26, .iconst 0), (27, .goto 14), (41, .istore 6), (43, .iconst 0), (44, .istore 7)] (by decide +kernel) rfl ?_
    have hL46 : ∀ (mm46 : Nat) (wL46 : zM) (y7_46 : Int32), (zSI w7 wL46) → (∀ x, ((x < to + 2 ∨ to + 2 + 128 ≤ x)) ∧ x ≠ m → wL46 x = w7 x) → (0 ≤ y7_46.toInt) → (y7_46.toInt ≤ (0 : Int32).toInt) → (wL46 m = some (.inl (15, zMo m (zs g 1 ((g 1) + 1)) r))) → (∀ t, t < y7_46.toNatClampNeg → zU wL46 (to + 2 + 2 * t) 200 zaZ) → (2147483647 - y7_46.toInt).toNat < mm46 → zP (d + 1) zq_X16_times_ 46 [(0, .ref m), (1, .ref to), (2, .ref a), (3, .ref b), (4, .int (g 1)), (5, .ref (m + 276 + 2 * (g 1).toNatClampNeg)), (6, .int 0), (7, .int y7_46)] [] wL46 sz 0 0 Post := by
      intro mm46
      induction mm46 with
      | zero => intros; omega
      | succ mm46 ih46 =>
      intro wL46 y7_46 hsiL46 heqL46 hi46_0 hi46_1 hmL46 hZ hmu46
      have ky7_46 := zrng y7_46
      refine zp_seg (pc' := 50) (lv' := [(0, .ref m), (1, .ref to), (2, .ref a), (3, .ref b), (4, .int (g 1)), (5, .ref (m + 276 + 2 * (g 1).toNatClampNeg)), (6, .int 0), (7, .int y7_46)]) (st' := [.int 0, .int y7_46]) [(46, .iload 7), (48, .iload 6)] (by decide +kernel) rfl ?_
      refine zp_if (i := .if_icmp .ge 20) (c := 0 ≤ y7_46) (t := 70) (e := 53) (lv' := [(0, .ref m), (1, .ref to), (2, .ref a), (3, .ref b), (4, .int (g 1)), (5, .ref (m + 276 + 2 * (g 1).toNatClampNeg)), (6, .int 0), (7, .int y7_46)]) (st' := []) (by decide +kernel) rfl (fun cc50 => ?_) (fun cc50 => ?_)
      ·
        have f7 := zleI cc50
        rw [show (0 : Int32).toInt = 0 from by decide] at f7
        have hz8 : (y7_46.toNatClampNeg : Int) = y7_46.toInt := znat (by first | omega | decide)
        refine zp_seg (pc' := 73) (lv' := [(7, .int 0), (0, .ref m), (1, .ref to), (2, .ref a), (3, .ref b), (4, .int (g 1)), (5, .ref (m + 276 + 2 * (g 1).toNatClampNeg)), (6, .int 0)]) (st' := []) [(70, .iconst 0), (71, .istore 7)] (by decide +kernel) rfl ?_
        have hL73 : ∀ (mm73 : Nat) (wL73 : zM) (y7_73 : Int32), (zSI wL46 wL73) → (∀ x, ((x < to + 2 ∨ to + 2 + 128 ≤ x) ∧ (x < m + 276 + 2 * (g 1).toNatClampNeg ∨ m + 276 + 2 * (g 1).toNatClampNeg + 2 ≤ x)) ∧ x ≠ m → wL73 x = wL46 x) → (0 ≤ y7_73.toInt) → (y7_73.toInt ≤ (zrw p : Int)) → (zUo wL73 (m + 276 + 2 * (g 1).toNatClampNeg) 1000) → (wL73 m = some (.inl (15, zMo m (zs g 1 ((g 1) + 1)) r))) → (∀ t : Nat, (t : Int) < (0 : Int32).toInt → zU wL73 (to + 2 + 2 * t) 200 (zbAcc p q y7_73.toNatClampNeg 0 t)) → (2147483647 - y7_73.toInt).toNat < mm73 → zP (d + 1) zq_X16_times_ 73 [(0, .ref m), (1, .ref to), (2, .ref a), (3, .ref b), (4, .int (g 1)), (5, .ref (m + 276 + 2 * (g 1).toNatClampNeg)), (6, .int 0), (7, .int y7_73)] [] wL73 sz 0 0 Post := by
          intro mm73
          induction mm73 with
          | zero => intros; omega
          | succ mm73 ih73 =>
          intro wL73 y7_73 hsiL73 heqL73 hi73_0 hi73_1 hUp hmL73 hT hmu73
          have ky7_73 := zrng y7_73
          refine zp_seg (pc' := 76) (lv' := [(0, .ref m), (1, .ref to), (2, .ref a), (3, .ref b), (4, .int (g 1)), (5, .ref (m + 276 + 2 * (g 1).toNatClampNeg)), (6, .int 0), (7, .int y7_73)]) (st' := [.ref a, .int y7_73]) [(73, .iload 7), (75, .aload_n 2)] (by decide +kernel) rfl ?_
          have hb9 : wL73 a = some (.inl (11, [.ref (a + 1), .int na])) := ((heqL73 a (by omega)).trans (heqL46 a (by omega))).trans hb3
          refine zr_get (idx := 93) (k := 1) (v := .int na) (by decide +kernel) (by decide +kernel) hb9 rfl ?_
          refine zp_if (i := .if_icmp .ge 77) (c := na ≤ y7_73) (t := 156) (e := 82) (lv' := [(0, .ref m), (1, .ref to), (2, .ref a), (3, .ref b), (4, .int (g 1)), (5, .ref (m + 276 + 2 * (g 1).toNatClampNeg)), (6, .int 0), (7, .int y7_73)]) (st' := []) (by decide +kernel) rfl (fun cc79 => ?_) (fun cc79 => ?_)
          ·
            have f10 := zleI cc79
            have hz11 : (y7_73.toNatClampNeg : Int) = y7_73.toInt := znat (by first | omega | decide)
            refine zp_seg (pc' := 159) (lv' := [(0, .ref m), (1, .ref to), (2, .ref a), (3, .ref b), (4, .int (g 1)), (5, .ref (m + 276 + 2 * (g 1).toNatClampNeg)), (6, .int 0), (7, .int y7_73)]) (st' := [.int 0, .ref to]) [(156, .aload_n 1), (157, .iload 6)] (by decide +kernel) rfl ?_
            have hb17 := hBo_to.si ((hsi7.tr hsiL46).tr hsiL73)
            obtain ⟨n12, hb13, hb14, -⟩ := id hb17
            have kn12 := zrng n12
            refine zr_put2 (idx := 93) (k := 1) (fs2 := [.ref (to + 1), .int 0]) (by decide +kernel) (by decide +kernel) hb13 (Nat.le_of_ble_eq_true rfl) rfl rfl rfl ?_
            show zP (d + 1) zq_X16_times_ 162 [(0, .ref m), (1, .ref to), (2, .ref a), (3, .ref b), (4, .int (g 1)), (5, .ref (m + 276 + 2 * (g 1).toNatClampNeg)), (6, .int 0), (7, .int y7_73)] [] (zup wL73 to (.inl (11, [.ref (to + 1), .int 0]))) sz 0 0 Post
            obtain ⟨w159, ew159⟩ : ∃ wz9, wz9 = zup wL73 to (.inl (11, [.ref (to + 1), .int 0])) := ⟨_, rfl⟩
            have hsi159 : zSI wL73 w159 := by rw [ew159]; exact zSI.setB hb13
            have heq159 : ∀ x, x ≠ to → w159 x = wL73 x := fun x hx => by rw [ew159]; exact zup_n hx
            have hc159 : w159 to = some (.inl (11, [.ref (to + 1), .int 0])) := by rw [ew159]; exact zup_s
            rw [← ew159]
            clear ew159
            have hz18 : ((0 : Int32).toNatClampNeg : Int) = 0 := by decide
            have hl19 : (0 : Int32).toInt = 0 := by decide
            have hb20 := hb17.si hsi159
            have hBn9 : zBw w159 to (0 : Int32).toNatClampNeg (zbM p q) := zBw.mk hb20 hc159 (by omega) (by omega) (fun j hj => by rw [← zbAcc_e p q y7_73.toNatClampNeg j (by omega)]; exact (hT j (by omega)).ag (fun x g1 g2 => heq159 x (by omega))) (fun j hj => zrw_dg _ j (by have := zrw_Mle p q; have := zrw_M0 p q; omega))
            refine zp_seg (pc' := 163) (lv' := [(0, .ref m), (1, .ref to), (2, .ref a), (3, .ref b), (4, .int (g 1)), (5, .ref (m + 276 + 2 * (g 1).toNatClampNeg)), (6, .int 0), (7, .int y7_73)]) (st' := [.ref to]) [(162, .aload_n 1)] (by decide +kernel) rfl ?_
            refine zr_callV (idx := 105) (j := 244) (by decide +kernel) (by decide +kernel) (show zMe 244 = some zq_X12_trim from rfl) rfl rfl (Nat.le_of_ble_eq_true rfl) rfl rfl hc159 (Nat.le_of_ble_eq_true rfl) (Nat.le_of_ble_eq_true rfl) (c_X12_trim (w := w159) to hBn9) (by omega) (fun v163 w163 hp163 => ?_)
            obtain ⟨hsi163, heq163, hp163_0, rfl⟩ := hp163
            show zP _ _ _ _ [] _ _ _ _ _
            refine zp_seg (pc' := 169) (lv' := [(0, .ref m), (1, .ref to), (2, .ref a), (3, .ref b), (4, .int (g 1)), (5, .ref (m + 276 + 2 * (g 1).toNatClampNeg)), (6, .int 0), (7, .int y7_73)]) (st' := [.int (g 1), .ref m]) [(166, .aload_n 0), (167, .iload 4)] (by decide +kernel) rfl ?_
            have hb21 : w163 m = some (.inl (15, zMo m (zs g 1 ((g 1) + 1)) r)) := ((heq163 m (by omega)).trans (heq159 m (by omega))).trans hmL73
            refine zr_put2 (idx := 21) (k := 1) (fs2 := zMo m g r) (by decide +kernel) (by decide +kernel) hb21 (Nat.le_of_ble_eq_true rfl) rfl rfl rfl ?_
            show zP (d + 1) zq_X16_times_ 172 [(0, .ref m), (1, .ref to), (2, .ref a), (3, .ref b), (4, .int (g 1)), (5, .ref (m + 276 + 2 * (g 1).toNatClampNeg)), (6, .int 0), (7, .int y7_73)] [] (zup w163 m (.inl (15, zMo m g r))) sz 0 0 Post
            obtain ⟨w169, ew169⟩ : ∃ wz9, wz9 = zup w163 m (.inl (15, zMo m g r)) := ⟨_, rfl⟩
            have hsi169 : zSI w163 w169 := by rw [ew169]; exact zSI.setG hb21 _ _
            have heq169 : ∀ x, x ≠ m → w169 x = w163 x := fun x hx => by rw [ew169]; exact zup_n hx
            have hc169 : w169 m = some (.inl (15, zMo m g r)) := by rw [ew169]; exact zup_s
            rw [← ew169]
            clear ew169
            have hmend : w169 m = w m := by rw [hc169, hm]
            have hoffend : ∀ x, (x < to ∨ to + 130 ≤ x) ∧ (x < m + 276 + 2 * (g 1).toNatClampNeg ∨ m + 276 + 2 * (g 1).toNatClampNeg + (320 - 2 * (g 1).toNatClampNeg) ≤ x) → w169 x = w x := fun x hx => by
                by_cases ex : x = m
                · rw [ex]; exact hmend
                · exact ((heq169 x (by omega)).trans ((heq163 x (by omega)).trans ((heq159 x (by omega)).trans ((heqL73 x (by omega)).trans ((heqL46 x (by omega)).trans (heq7 x (by omega)))))))
            have hb22 : zB w169 to ((zbM p q)) := hp163_0.ag (fun x hx1 hx2 => (heq169 x (by omega)))
            refine zr_retV (by decide +kernel) rfl ?_
            rw [← hPost]; exact ⟨rfl, _, rfl, (((((hsi7.tr hsiL46).tr hsiL73).tr hsi159).tr hsi163).tr hsi169), hoffend, (by first | exact hb22 | (have z9 := hb22; simpa using z9)), rfl⟩
          ·
            have f23 := znleI cc79
            have hz24 : (y7_73.toNatClampNeg : Int) = y7_73.toInt := znat (by first | omega | decide)
            refine zp_seg (pc' := 85) (lv' := [(8, .int 0), (0, .ref m), (1, .ref to), (2, .ref a), (3, .ref b), (4, .int (g 1)), (5, .ref (m + 276 + 2 * (g 1).toNatClampNeg)), (6, .int 0), (7, .int y7_73)]) (st' := []) [(82, .iconst 0), (83, .istore 8)] (by decide +kernel) rfl ?_
            have hL85 : ∀ (mm85 : Nat) (wL85 : zM) (y8_85 : Int32), (zSI wL73 wL85) → (∀ x, ((x < to + 2 ∨ to + 2 + 128 ≤ x) ∧ (x < m + 276 + 2 * (g 1).toNatClampNeg ∨ m + 276 + 2 * (g 1).toNatClampNeg + 2 ≤ x)) ∧ x ≠ m → wL85 x = wL73 x) → (0 ≤ y8_85.toInt) → (y8_85.toInt ≤ (zrw q : Int)) → (zUo wL85 (m + 276 + 2 * (g 1).toNatClampNeg) 1000) → (wL85 m = some (.inl (15, zMo m (zs g 1 ((g 1) + 1)) r))) → (∀ t : Nat, (t : Int) < (0 : Int32).toInt → zU wL85 (to + 2 + 2 * t) 200 (zbAcc p q y7_73.toNatClampNeg y8_85.toNatClampNeg t)) → (2147483647 - y8_85.toInt).toNat < mm85 → zP (d + 1) zq_X16_times_ 85 [(0, .ref m), (1, .ref to), (2, .ref a), (3, .ref b), (4, .int (g 1)), (5, .ref (m + 276 + 2 * (g 1).toNatClampNeg)), (6, .int 0), (7, .int y7_73), (8, .int y8_85)] [] wL85 sz 0 0 Post := by
              intro mm85
              induction mm85 with
              | zero => intros; omega
              | succ mm85 ih85 =>
              intro wL85 y8_85 hsiL85 heqL85 hi85_0 hi85_1 hUp2 hmL85 hS hmu85
              have ky8_85 := zrng y8_85
              refine zp_seg (pc' := 88) (lv' := [(0, .ref m), (1, .ref to), (2, .ref a), (3, .ref b), (4, .int (g 1)), (5, .ref (m + 276 + 2 * (g 1).toNatClampNeg)), (6, .int 0), (7, .int y7_73), (8, .int y8_85)]) (st' := [.ref b, .int y8_85]) [(85, .iload 8), (87, .aload_n 3)] (by decide +kernel) rfl ?_
              have hb25 : wL85 b = some (.inl (11, [.ref (b + 1), .int nb])) := ((heqL85 b (by omega)).trans ((heqL73 b (by omega)).trans ((heqL46 b (by omega)).trans (heq7 b (by omega))))).trans hQb1
              refine zr_get (idx := 93) (k := 1) (v := .int nb) (by decide +kernel) (by decide +kernel) hb25 rfl ?_
              refine zp_if (i := .if_icmp .ge 59) (c := nb ≤ y8_85) (t := 150) (e := 94) (lv' := [(0, .ref m), (1, .ref to), (2, .ref a), (3, .ref b), (4, .int (g 1)), (5, .ref (m + 276 + 2 * (g 1).toNatClampNeg)), (6, .int 0), (7, .int y7_73), (8, .int y8_85)]) (st' := []) (by decide +kernel) rfl (fun cc91 => ?_) (fun cc91 => ?_)
              ·
                have k26 := zrng nb
                have f27 := zleI cc91
                have hz28 : (y8_85.toNatClampNeg : Int) = y8_85.toInt := znat (by first | omega | decide)
                refine zp_seg (pc' := 153) (lv' := [(7, .int (y7_73 + 1)), (0, .ref m), (1, .ref to), (2, .ref a), (3, .ref b), (4, .int (g 1)), (5, .ref (m + 276 + 2 * (g 1).toNatClampNeg)), (6, .int 0), (8, .int y8_85)]) (st' := []) [(150, .iinc 7 1)] (by decide +kernel) rfl ?_
                have k29 := zaddC y7_73 1 (n := 1) (by decide) (by omega) (by omega)
                generalize ev153 : (y7_73 + 1 : Int32) = v153 at k29 ⊢
                have kv153 := zrng v153
                refine zp_seg (pc' := 73) (lv' := [(7, .int v153), (0, .ref m), (1, .ref to), (2, .ref a), (3, .ref b), (4, .int (g 1)), (5, .ref (m + 276 + 2 * (g 1).toNatClampNeg)), (6, .int 0), (8, .int y8_85)]) (st' := []) [(153, .goto (-80))] (by decide +kernel) rfl ?_
                have hz30 : (v153.toNatClampNeg : Int) = v153.toInt := znat (by first | omega | decide)
                exact (ih73 wL85 v153 (hsiL73.tr hsiL85) (fun x hx => ((heqL85 x (by omega)).trans (heqL73 x (by omega)))) (by first | assumption | omega | decide) (by first | assumption | omega | decide) hUp2 hmL85 (by
                      intro t ht
                      rw [show v153.toNatClampNeg = y7_73.toNatClampNeg + 1 by omega, zbAcc_i p q _ y8_85.toNatClampNeg t (by omega)]
                      exact hS t ht) (by omega)).more (zfa1 rfl (zfa1 rfl (zfa1 rfl (zfa1 rfl (zfa1 rfl (zfa1 rfl (zfa1 rfl (zfa1 rfl (zfa0)))))))))
              ·
                have k31 := zrng nb
                have f32 := znleI cc91
                have hz33 : (y8_85.toNatClampNeg : Int) = y8_85.toInt := znat (by first | omega | decide)
                refine zp_seg (pc' := 96) (lv' := [(0, .ref m), (1, .ref to), (2, .ref a), (3, .ref b), (4, .int (g 1)), (5, .ref (m + 276 + 2 * (g 1).toNatClampNeg)), (6, .int 0), (7, .int y7_73), (8, .int y8_85)]) (st' := [.int 0]) [(94, .iload 6)] (by decide +kernel) rfl ?_
                refine zp_pure (pc' := 150) (lv' := [(0, .ref m), (1, .ref to), (2, .ref a), (3, .ref b), (4, .int (g 1)), (5, .ref (m + 276 + 2 * (g 1).toNatClampNeg)), (6, .int 0), (7, .int y7_73), (8, .int y8_85)]) (st' := []) (i := .ifCond .le 54) (by decide +kernel) rfl ?_
                refine zp_seg (pc' := 153) (lv' := [(7, .int (y7_73 + 1)), (0, .ref m), (1, .ref to), (2, .ref a), (3, .ref b), (4, .int (g 1)), (5, .ref (m + 276 + 2 * (g 1).toNatClampNeg)), (6, .int 0), (8, .int y8_85)]) (st' := []) [(150, .iinc 7 1)] (by decide +kernel) rfl ?_
                have k34 := zaddC y7_73 1 (n := 1) (by decide) (by omega) (by omega)
                generalize ev153 : (y7_73 + 1 : Int32) = v153 at k34 ⊢
                have kv153 := zrng v153
                refine zp_seg (pc' := 73) (lv' := [(7, .int v153), (0, .ref m), (1, .ref to), (2, .ref a), (3, .ref b), (4, .int (g 1)), (5, .ref (m + 276 + 2 * (g 1).toNatClampNeg)), (6, .int 0), (8, .int y8_85)]) (st' := []) [(153, .goto (-80))] (by decide +kernel) rfl ?_
                have hz35 : (v153.toNatClampNeg : Int) = v153.toInt := znat (by first | omega | decide)
                exact (ih73 wL85 v153 (hsiL73.tr hsiL85) (fun x hx => ((heqL85 x (by omega)).trans (heqL73 x (by omega)))) (by first | assumption | omega | decide) (by first | assumption | omega | decide) hUp2 hmL85 (by
                      intro t ht
                      rw [show v153.toNatClampNeg = y7_73.toNatClampNeg + 1 by omega, zbAcc_i p q _ y8_85.toNatClampNeg t (by omega)]
                      exact hS t ht) (by omega)).more (zfa1 rfl (zfa1 rfl (zfa1 rfl (zfa1 rfl (zfa1 rfl (zfa1 rfl (zfa1 rfl (zfa1 rfl (zfa0)))))))))
            have hl36 : (0 : Int32).toInt = 0 := by decide
            have hz37 : ((0 : Int32).toNatClampNeg : Int) = 0 := by decide
            exact (hL85 _ wL73 0 zSI.rf (fun _ _ => rfl) (by first | assumption | omega | decide) (by first | assumption | omega | decide) hUp hmL73 (by
                  exact fun t ht => by rw [show (0 : Int32).toNatClampNeg = 0 by decide]; exact hT t ht) (Nat.lt_succ_self _)).more (zfa1 rfl (zfa1 rfl (zfa1 rfl (zfa1 rfl (zfa1 rfl (zfa1 rfl (zfa1 rfl (zfa1 rfl (zfa1 rfl (zfa0))))))))))
        have hl38 : (0 : Int32).toInt = 0 := by decide
        have hz39 : ((0 : Int32).toNatClampNeg : Int) = 0 := by decide
        have hb40 : zU wL46 (m + 276 + 2 * (g 1).toNatClampNeg) 1000 zaZ := hp7_1.ag (fun x hx1 hx2 => (heqL46 x (by omega)))
        exact (hL73 _ wL46 0 zSI.rf (fun _ _ => rfl) (by first | assumption | omega | decide) (by first | assumption | omega | decide) (zU.o hb40) hmL46 (by
              exact fun t ht => by rw [show (0 : Int32).toNatClampNeg = 0 by decide, zbAcc_0]; exact hZ t (by omega)) (Nat.lt_succ_self _)).more (zfa1 rfl (zfa1 rfl (zfa1 rfl (zfa1 rfl (zfa1 rfl (zfa1 rfl (zfa1 rfl (zfa1 rfl (zfa0)))))))))
      ·
        have f41 := znleI cc50
        rw [show (0 : Int32).toInt = 0 from by decide] at f41
        have hz42 : (y7_46.toNatClampNeg : Int) = y7_46.toInt := znat (by first | omega | decide)
        refine zp_seg (pc' := 54) (lv' := [(0, .ref m), (1, .ref to), (2, .ref a), (3, .ref b), (4, .int (g 1)), (5, .ref (m + 276 + 2 * (g 1).toNatClampNeg)), (6, .int 0), (7, .int y7_46)]) (st' := [.ref to]) [(53, .aload_n 1)] (by decide +kernel) rfl ?_
        have hb48 := hBo_to.si (hsi7.tr hsiL46)
        obtain ⟨n43, hb44, hb45, -⟩ := id hb48
        have kn43 := zrng n43
        refine zr_get (idx := 98) (k := 0) (v := .ref (to + 1)) (by decide +kernel) (by decide +kernel) hb44 rfl ?_
        refine zp_seg (pc' := 59) (lv' := [(0, .ref m), (1, .ref to), (2, .ref a), (3, .ref b), (4, .int (g 1)), (5, .ref (m + 276 + 2 * (g 1).toNatClampNeg)), (6, .int 0), (7, .int y7_46)]) (st' := [.int y7_46, .ref (to + 1)]) [(57, .iload 7)] (by decide +kernel) rfl ?_
        refine zr_aald (v := .ref (to + 2 + 2 * y7_46.toNatClampNeg)) (by decide +kernel) hb45 (by decide) (zin (by first | omega | decide) (by first | omega | decide)) (zbr_at (by omega)) ?_
        have hrow49 := hb48.rowo (y7_46.toNatClampNeg) (by omega)
        refine zp_seg (pc' := 61) (lv' := [(0, .ref m), (1, .ref to), (2, .ref a), (3, .ref b), (4, .int (g 1)), (5, .ref (m + 276 + 2 * (g 1).toNatClampNeg)), (6, .int 0), (7, .int y7_46)]) (st' := [.int 0, .ref (to + 2 + 2 * y7_46.toNatClampNeg)]) [(60, .iconst 0)] (by decide +kernel) rfl ?_
        obtain ⟨n50, f51, hu52, hu53⟩ := id hrow49
        have kn50 := zrng n50
        refine zr_put2 (idx := 25) (k := 1) (fs2 := [.ref (to + 2 + 2 * y7_46.toNatClampNeg + 1), .int 0]) (by decide +kernel) (by decide +kernel) hu52 (Nat.le_of_ble_eq_true rfl) rfl rfl rfl ?_
        show zP (d + 1) zq_X16_times_ 64 [(0, .ref m), (1, .ref to), (2, .ref a), (3, .ref b), (4, .int (g 1)), (5, .ref (m + 276 + 2 * (g 1).toNatClampNeg)), (6, .int 0), (7, .int y7_46)] [] (zup wL46 (to + 2 + 2 * y7_46.toNatClampNeg) (.inl (14, [.ref (to + 2 + 2 * y7_46.toNatClampNeg + 1), .int 0]))) sz 0 0 Post
        obtain ⟨w61, ew61⟩ : ∃ wz9, wz9 = zup wL46 (to + 2 + 2 * y7_46.toNatClampNeg) (.inl (14, [.ref (to + 2 + 2 * y7_46.toNatClampNeg + 1), .int 0])) := ⟨_, rfl⟩
        have hsi61 : zSI wL46 w61 := by rw [ew61]; exact zSI.setU hu52
        have heq61 : ∀ x, x ≠ to + 2 + 2 * y7_46.toNatClampNeg → w61 x = wL46 x := fun x hx => by rw [ew61]; exact zup_n hx
        have hc61 : w61 (to + 2 + 2 * y7_46.toNatClampNeg) = some (.inl (14, [.ref (to + 2 + 2 * y7_46.toNatClampNeg + 1), .int 0])) := by rw [ew61]; exact zup_s
        rw [← ew61]
        clear ew61
        refine zp_seg (pc' := 67) (lv' := [(7, .int (y7_46 + 1)), (0, .ref m), (1, .ref to), (2, .ref a), (3, .ref b), (4, .int (g 1)), (5, .ref (m + 276 + 2 * (g 1).toNatClampNeg)), (6, .int 0)]) (st' := []) [(64, .iinc 7 1)] (by decide +kernel) rfl ?_
        have k54 := zaddC y7_46 1 (n := 1) (by decide) (by omega) (by omega)
        generalize ev67 : (y7_46 + 1 : Int32) = v67 at k54 ⊢
        have kv67 := zrng v67
        refine zp_seg (pc' := 46) (lv' := [(7, .int v67), (0, .ref m), (1, .ref to), (2, .ref a), (3, .ref b), (4, .int (g 1)), (5, .ref (m + 276 + 2 * (g 1).toNatClampNeg)), (6, .int 0)]) (st' := []) [(67, .goto (-21))] (by decide +kernel) rfl ?_
        have hz55 : (v67.toNatClampNeg : Int) = v67.toInt := znat (by first | omega | decide)
        have hb56 : w61 m = some (.inl (15, zMo m (zs g 1 ((g 1) + 1)) r)) := (heq61 m (by omega)).trans hmL46
        have hb57 : w61 (to + 2 + 2 * y7_46.toNatClampNeg + 1) = some (.inr (0, 200, .inl f51)) := (heq61 (to + 2 + 2 * y7_46.toNatClampNeg + 1) (by omega)).trans hu53
        exact (ih46 w61 v67 (hsiL46.tr hsi61) (fun x hx => ((heq61 x (by omega)).trans (heqL46 x (by omega)))) (by first | assumption | omega | decide) (by first | assumption | omega | decide) hb56 (by
              intro t ht
              by_cases e : t = y7_46.toNatClampNeg
              · rw [e]
                exact zU.mk0 hc61 hb57
              · exact (hZ t (by omega)).ag (fun x g1 g2 => heq61 x (by omega))) (by omega)).more (zfa1 rfl (zfa1 rfl (zfa1 rfl (zfa1 rfl (zfa1 rfl (zfa1 rfl (zfa1 rfl (zfa1 rfl (zfa0)))))))))
    have hl58 : (0 : Int32).toInt = 0 := by decide
    have hz59 : ((0 : Int32).toNatClampNeg : Int) = 0 := by decide
    exact (hL46 _ w7 0 zSI.rf (fun _ _ => rfl) (by first | assumption | omega | decide) (by first | assumption | omega | decide) hM7 (by
          exact fun t ht => absurd ht (by omega)) (Nat.lt_succ_self _)).more (zfa1 rfl (zfa1 rfl (zfa1 rfl (zfa1 rfl (zfa1 rfl (zfa1 rfl (zfa1 rfl (zfa1 rfl (zfa0)))))))))
  ·
    have k60 := zrng na
    have f62 := zneI cc16
    rw [show (0 : Int32).toInt = 0 from by decide] at f62
    refine zp_seg (pc' := 20) (lv' := [(5, .ref (m + 276 + 2 * (g 1).toNatClampNeg)), (4, .int (g 1)), (0, .ref m), (1, .ref to), (2, .ref a), (3, .ref b)]) (st' := [.ref b]) [(19, .aload_n 3)] (by decide +kernel) rfl ?_
    have hb63 : w7 b = some (.inl (11, [.ref (b + 1), .int nb])) := (heq7 b (by omega)).trans hQb1
    refine zr_get (idx := 93) (k := 1) (v := .int nb) (by decide +kernel) (by decide +kernel) hb63 rfl ?_
    refine zp_if (i := .ifCond .ne 7) (c := ¬ nb = 0) (t := 30) (e := 26) (lv' := [(5, .ref (m + 276 + 2 * (g 1).toNatClampNeg)), (4, .int (g 1)), (0, .ref m), (1, .ref to), (2, .ref a), (3, .ref b)]) (st' := []) (by decide +kernel) rfl (fun cc23 => ?_) (fun cc23 => ?_)
    ·
      have k64 := zrng nb
      have f65 := zneI cc23
      rw [show (0 : Int32).toInt = 0 from by decide] at f65
      refine zp_seg (pc' := 31) (lv' := [(5, .ref (m + 276 + 2 * (g 1).toNatClampNeg)), (4, .int (g 1)), (0, .ref m), (1, .ref to), (2, .ref a), (3, .ref b)]) (st' := [.ref a]) [(30, .aload_n 2)] (by decide +kernel) rfl ?_
      refine zr_get (idx := 93) (k := 1) (v := .int na) (by decide +kernel) (by decide +kernel) hb3 rfl ?_
      refine zp_seg (pc' := 35) (lv' := [(5, .ref (m + 276 + 2 * (g 1).toNatClampNeg)), (4, .int (g 1)), (0, .ref m), (1, .ref to), (2, .ref a), (3, .ref b)]) (st' := [.ref b, .int na]) [(34, .aload_n 3)] (by decide +kernel) rfl ?_
      refine zr_get (idx := 93) (k := 1) (v := .int nb) (by decide +kernel) (by decide +kernel) hb63 rfl ?_
      refine zp_seg (pc' := 39) (lv' := [(5, .ref (m + 276 + 2 * (g 1).toNatClampNeg)), (4, .int (g 1)), (0, .ref m), (1, .ref to), (2, .ref a), (3, .ref b)]) (st' := [.int (na + nb)]) [(38, .iadd)] (by decide +kernel) rfl ?_
      have k66 := zadd na nb (by omega) (by omega)
      generalize ev39 : (na + nb : Int32) = v39 at k66 ⊢
      have kv39 := zrng v39
      refine zp_seg (pc' := 41) (lv' := [(5, .ref (m + 276 + 2 * (g 1).toNatClampNeg)), (4, .int (g 1)), (0, .ref m), (1, .ref to), (2, .ref a), (3, .ref b)]) (st' := [.int (v39 - 1)]) [(39, .iconst 1), (40, .isub)] (by decide +kernel) rfl ?_
      have k67 := zsubC v39 1 (n := 1) (by decide) (by omega) (by omega)
      generalize ev41 : (v39 - 1 : Int32) = v41 at k67 ⊢
      have kv41 := zrng v41
      refine zp_seg (pc' := 46) (lv' := [(7, .int 0), (6, .int v41), (5, .ref (m + 276 + 2 * (g 1).toNatClampNeg)), (4, .int (g 1)), (0, .ref m), (1, .ref to), (2, .ref a), (3, .ref b)]) (st' := []) [(41, .istore 6), (43, .iconst 0), (44, .istore 7)] (by decide +kernel) rfl ?_
      have hL46 : ∀ (mm46 : Nat) (wL46 : zM) (y7_46 : Int32), (zSI w7 wL46) → (∀ x, ((x < to + 2 ∨ to + 2 + 128 ≤ x)) ∧ x ≠ m → wL46 x = w7 x) → (0 ≤ y7_46.toInt) → (y7_46.toInt ≤ v41.toInt) → (wL46 m = some (.inl (15, zMo m (zs g 1 ((g 1) + 1)) r))) → (∀ t, t < y7_46.toNatClampNeg → zU wL46 (to + 2 + 2 * t) 200 zaZ) → (2147483647 - y7_46.toInt).toNat < mm46 → zP (d + 1) zq_X16_times_ 46 [(0, .ref m), (1, .ref to), (2, .ref a), (3, .ref b), (4, .int (g 1)), (5, .ref (m + 276 + 2 * (g 1).toNatClampNeg)), (6, .int v41), (7, .int y7_46)] [] wL46 sz 0 0 Post := by
        intro mm46
        induction mm46 with
        | zero => intros; omega
        | succ mm46 ih46 =>
        intro wL46 y7_46 hsiL46 heqL46 hi46_0 hi46_1 hmL46 hZ hmu46
        have ky7_46 := zrng y7_46
        refine zp_seg (pc' := 50) (lv' := [(0, .ref m), (1, .ref to), (2, .ref a), (3, .ref b), (4, .int (g 1)), (5, .ref (m + 276 + 2 * (g 1).toNatClampNeg)), (6, .int v41), (7, .int y7_46)]) (st' := [.int v41, .int y7_46]) [(46, .iload 7), (48, .iload 6)] (by decide +kernel) rfl ?_
        refine zp_if (i := .if_icmp .ge 20) (c := v41 ≤ y7_46) (t := 70) (e := 53) (lv' := [(0, .ref m), (1, .ref to), (2, .ref a), (3, .ref b), (4, .int (g 1)), (5, .ref (m + 276 + 2 * (g 1).toNatClampNeg)), (6, .int v41), (7, .int y7_46)]) (st' := []) (by decide +kernel) rfl (fun cc50 => ?_) (fun cc50 => ?_)
        ·
          have f68 := zleI cc50
          have hz69 : (y7_46.toNatClampNeg : Int) = y7_46.toInt := znat (by first | omega | decide)
          refine zp_seg (pc' := 73) (lv' := [(7, .int 0), (0, .ref m), (1, .ref to), (2, .ref a), (3, .ref b), (4, .int (g 1)), (5, .ref (m + 276 + 2 * (g 1).toNatClampNeg)), (6, .int v41)]) (st' := []) [(70, .iconst 0), (71, .istore 7)] (by decide +kernel) rfl ?_
          have hL73 : ∀ (mm73 : Nat) (wL73 : zM) (y7_73 : Int32), (zSI wL46 wL73) → (∀ x, ((x < to + 2 ∨ to + 2 + 128 ≤ x) ∧ (x < m + 276 + 2 * (g 1).toNatClampNeg ∨ m + 276 + 2 * (g 1).toNatClampNeg + 2 ≤ x)) ∧ x ≠ m → wL73 x = wL46 x) → (0 ≤ y7_73.toInt) → (y7_73.toInt ≤ (zrw p : Int)) → (zUo wL73 (m + 276 + 2 * (g 1).toNatClampNeg) 1000) → (wL73 m = some (.inl (15, zMo m (zs g 1 ((g 1) + 1)) r))) → (∀ t : Nat, (t : Int) < v41.toInt → zU wL73 (to + 2 + 2 * t) 200 (zbAcc p q y7_73.toNatClampNeg 0 t)) → (2147483647 - y7_73.toInt).toNat < mm73 → zP (d + 1) zq_X16_times_ 73 [(0, .ref m), (1, .ref to), (2, .ref a), (3, .ref b), (4, .int (g 1)), (5, .ref (m + 276 + 2 * (g 1).toNatClampNeg)), (6, .int v41), (7, .int y7_73)] [] wL73 sz 0 0 Post := by
            intro mm73
            induction mm73 with
            | zero => intros; omega
            | succ mm73 ih73 =>
            intro wL73 y7_73 hsiL73 heqL73 hi73_0 hi73_1 hUp hmL73 hT hmu73
            have ky7_73 := zrng y7_73
            refine zp_seg (pc' := 76) (lv' := [(0, .ref m), (1, .ref to), (2, .ref a), (3, .ref b), (4, .int (g 1)), (5, .ref (m + 276 + 2 * (g 1).toNatClampNeg)), (6, .int v41), (7, .int y7_73)]) (st' := [.ref a, .int y7_73]) [(73, .iload 7), (75, .aload_n 2)] (by decide +kernel) rfl ?_
            have hb70 : wL73 a = some (.inl (11, [.ref (a + 1), .int na])) := ((heqL73 a (by omega)).trans (heqL46 a (by omega))).trans hb3
            refine zr_get (idx := 93) (k := 1) (v := .int na) (by decide +kernel) (by decide +kernel) hb70 rfl ?_
            refine zp_if (i := .if_icmp .ge 77) (c := na ≤ y7_73) (t := 156) (e := 82) (lv' := [(0, .ref m), (1, .ref to), (2, .ref a), (3, .ref b), (4, .int (g 1)), (5, .ref (m + 276 + 2 * (g 1).toNatClampNeg)), (6, .int v41), (7, .int y7_73)]) (st' := []) (by decide +kernel) rfl (fun cc79 => ?_) (fun cc79 => ?_)
            ·
              have f71 := zleI cc79
              have hz72 : (y7_73.toNatClampNeg : Int) = y7_73.toInt := znat (by first | omega | decide)
              refine zp_seg (pc' := 159) (lv' := [(0, .ref m), (1, .ref to), (2, .ref a), (3, .ref b), (4, .int (g 1)), (5, .ref (m + 276 + 2 * (g 1).toNatClampNeg)), (6, .int v41), (7, .int y7_73)]) (st' := [.int v41, .ref to]) [(156, .aload_n 1), (157, .iload 6)] (by decide +kernel) rfl ?_
              have hb78 := hBo_to.si ((hsi7.tr hsiL46).tr hsiL73)
              obtain ⟨n73, hb74, hb75, -⟩ := id hb78
              have kn73 := zrng n73
              refine zr_put2 (idx := 93) (k := 1) (fs2 := [.ref (to + 1), .int v41]) (by decide +kernel) (by decide +kernel) hb74 (Nat.le_of_ble_eq_true rfl) rfl rfl rfl ?_
              show zP (d + 1) zq_X16_times_ 162 [(0, .ref m), (1, .ref to), (2, .ref a), (3, .ref b), (4, .int (g 1)), (5, .ref (m + 276 + 2 * (g 1).toNatClampNeg)), (6, .int v41), (7, .int y7_73)] [] (zup wL73 to (.inl (11, [.ref (to + 1), .int v41]))) sz 0 0 Post
              obtain ⟨w159, ew159⟩ : ∃ wz9, wz9 = zup wL73 to (.inl (11, [.ref (to + 1), .int v41])) := ⟨_, rfl⟩
              have hsi159 : zSI wL73 w159 := by rw [ew159]; exact zSI.setB hb74
              have heq159 : ∀ x, x ≠ to → w159 x = wL73 x := fun x hx => by rw [ew159]; exact zup_n hx
              have hc159 : w159 to = some (.inl (11, [.ref (to + 1), .int v41])) := by rw [ew159]; exact zup_s
              rw [← ew159]
              clear ew159
              have hz79 : (v41.toNatClampNeg : Int) = v41.toInt := znat (by first | omega | decide)
              have hb80 := hb78.si hsi159
              have hBn9 : zBw w159 to v41.toNatClampNeg (zbM p q) := zBw.mk hb80 hc159 (by omega) (by omega) (fun j hj => by rw [← zbAcc_e p q y7_73.toNatClampNeg j (by omega)]; exact (hT j (by omega)).ag (fun x g1 g2 => heq159 x (by omega))) (fun j hj => zrw_dg _ j (by have := zrw_Mle p q; have := zrw_M0 p q; omega))
              refine zp_seg (pc' := 163) (lv' := [(0, .ref m), (1, .ref to), (2, .ref a), (3, .ref b), (4, .int (g 1)), (5, .ref (m + 276 + 2 * (g 1).toNatClampNeg)), (6, .int v41), (7, .int y7_73)]) (st' := [.ref to]) [(162, .aload_n 1)] (by decide +kernel) rfl ?_
              refine zr_callV (idx := 105) (j := 244) (by decide +kernel) (by decide +kernel) (show zMe 244 = some zq_X12_trim from rfl) rfl rfl (Nat.le_of_ble_eq_true rfl) rfl rfl hc159 (Nat.le_of_ble_eq_true rfl) (Nat.le_of_ble_eq_true rfl) (c_X12_trim (w := w159) to hBn9) (by omega) (fun v163 w163 hp163 => ?_)
              obtain ⟨hsi163, heq163, hp163_0, rfl⟩ := hp163
              show zP _ _ _ _ [] _ _ _ _ _
              refine zp_seg (pc' := 169) (lv' := [(0, .ref m), (1, .ref to), (2, .ref a), (3, .ref b), (4, .int (g 1)), (5, .ref (m + 276 + 2 * (g 1).toNatClampNeg)), (6, .int v41), (7, .int y7_73)]) (st' := [.int (g 1), .ref m]) [(166, .aload_n 0), (167, .iload 4)] (by decide +kernel) rfl ?_
              have hb81 : w163 m = some (.inl (15, zMo m (zs g 1 ((g 1) + 1)) r)) := ((heq163 m (by omega)).trans (heq159 m (by omega))).trans hmL73
              refine zr_put2 (idx := 21) (k := 1) (fs2 := zMo m g r) (by decide +kernel) (by decide +kernel) hb81 (Nat.le_of_ble_eq_true rfl) rfl rfl rfl ?_
              show zP (d + 1) zq_X16_times_ 172 [(0, .ref m), (1, .ref to), (2, .ref a), (3, .ref b), (4, .int (g 1)), (5, .ref (m + 276 + 2 * (g 1).toNatClampNeg)), (6, .int v41), (7, .int y7_73)] [] (zup w163 m (.inl (15, zMo m g r))) sz 0 0 Post
              obtain ⟨w169, ew169⟩ : ∃ wz9, wz9 = zup w163 m (.inl (15, zMo m g r)) := ⟨_, rfl⟩
              have hsi169 : zSI w163 w169 := by rw [ew169]; exact zSI.setG hb81 _ _
              have heq169 : ∀ x, x ≠ m → w169 x = w163 x := fun x hx => by rw [ew169]; exact zup_n hx
              have hc169 : w169 m = some (.inl (15, zMo m g r)) := by rw [ew169]; exact zup_s
              rw [← ew169]
              clear ew169
              have hmend : w169 m = w m := by rw [hc169, hm]
              have hoffend : ∀ x, (x < to ∨ to + 130 ≤ x) ∧ (x < m + 276 + 2 * (g 1).toNatClampNeg ∨ m + 276 + 2 * (g 1).toNatClampNeg + (320 - 2 * (g 1).toNatClampNeg) ≤ x) → w169 x = w x := fun x hx => by
                  by_cases ex : x = m
                  · rw [ex]; exact hmend
                  · exact ((heq169 x (by omega)).trans ((heq163 x (by omega)).trans ((heq159 x (by omega)).trans ((heqL73 x (by omega)).trans ((heqL46 x (by omega)).trans (heq7 x (by omega)))))))
              have hb82 : zB w169 to ((zbM p q)) := hp163_0.ag (fun x hx1 hx2 => (heq169 x (by omega)))
              refine zr_retV (by decide +kernel) rfl ?_
              rw [← hPost]; exact ⟨rfl, _, rfl, (((((hsi7.tr hsiL46).tr hsiL73).tr hsi159).tr hsi163).tr hsi169), hoffend, (by first | exact hb82 | (have z9 := hb82; simpa using z9)), rfl⟩
            ·
              have f83 := znleI cc79
              have hz84 : (y7_73.toNatClampNeg : Int) = y7_73.toInt := znat (by first | omega | decide)
              refine zp_seg (pc' := 85) (lv' := [(8, .int 0), (0, .ref m), (1, .ref to), (2, .ref a), (3, .ref b), (4, .int (g 1)), (5, .ref (m + 276 + 2 * (g 1).toNatClampNeg)), (6, .int v41), (7, .int y7_73)]) (st' := []) [(82, .iconst 0), (83, .istore 8)] (by decide +kernel) rfl ?_
              have hL85 : ∀ (mm85 : Nat) (wL85 : zM) (y8_85 : Int32), (zSI wL73 wL85) → (∀ x, ((x < to + 2 ∨ to + 2 + 128 ≤ x) ∧ (x < m + 276 + 2 * (g 1).toNatClampNeg ∨ m + 276 + 2 * (g 1).toNatClampNeg + 2 ≤ x)) ∧ x ≠ m → wL85 x = wL73 x) → (0 ≤ y8_85.toInt) → (y8_85.toInt ≤ (zrw q : Int)) → (zUo wL85 (m + 276 + 2 * (g 1).toNatClampNeg) 1000) → (wL85 m = some (.inl (15, zMo m (zs g 1 ((g 1) + 1)) r))) → (∀ t : Nat, (t : Int) < v41.toInt → zU wL85 (to + 2 + 2 * t) 200 (zbAcc p q y7_73.toNatClampNeg y8_85.toNatClampNeg t)) → (2147483647 - y8_85.toInt).toNat < mm85 → zP (d + 1) zq_X16_times_ 85 [(0, .ref m), (1, .ref to), (2, .ref a), (3, .ref b), (4, .int (g 1)), (5, .ref (m + 276 + 2 * (g 1).toNatClampNeg)), (6, .int v41), (7, .int y7_73), (8, .int y8_85)] [] wL85 sz 0 0 Post := by
                intro mm85
                induction mm85 with
                | zero => intros; omega
                | succ mm85 ih85 =>
                intro wL85 y8_85 hsiL85 heqL85 hi85_0 hi85_1 hUp2 hmL85 hS hmu85
                have ky8_85 := zrng y8_85
                refine zp_seg (pc' := 88) (lv' := [(0, .ref m), (1, .ref to), (2, .ref a), (3, .ref b), (4, .int (g 1)), (5, .ref (m + 276 + 2 * (g 1).toNatClampNeg)), (6, .int v41), (7, .int y7_73), (8, .int y8_85)]) (st' := [.ref b, .int y8_85]) [(85, .iload 8), (87, .aload_n 3)] (by decide +kernel) rfl ?_
                have hb85 : wL85 b = some (.inl (11, [.ref (b + 1), .int nb])) := ((heqL85 b (by omega)).trans ((heqL73 b (by omega)).trans (heqL46 b (by omega)))).trans hb63
                refine zr_get (idx := 93) (k := 1) (v := .int nb) (by decide +kernel) (by decide +kernel) hb85 rfl ?_
                refine zp_if (i := .if_icmp .ge 59) (c := nb ≤ y8_85) (t := 150) (e := 94) (lv' := [(0, .ref m), (1, .ref to), (2, .ref a), (3, .ref b), (4, .int (g 1)), (5, .ref (m + 276 + 2 * (g 1).toNatClampNeg)), (6, .int v41), (7, .int y7_73), (8, .int y8_85)]) (st' := []) (by decide +kernel) rfl (fun cc91 => ?_) (fun cc91 => ?_)
                ·
                  have f86 := zleI cc91
                  have hz87 : (y8_85.toNatClampNeg : Int) = y8_85.toInt := znat (by first | omega | decide)
                  refine zp_seg (pc' := 153) (lv' := [(7, .int (y7_73 + 1)), (0, .ref m), (1, .ref to), (2, .ref a), (3, .ref b), (4, .int (g 1)), (5, .ref (m + 276 + 2 * (g 1).toNatClampNeg)), (6, .int v41), (8, .int y8_85)]) (st' := []) [(150, .iinc 7 1)] (by decide +kernel) rfl ?_
                  have k88 := zaddC y7_73 1 (n := 1) (by decide) (by omega) (by omega)
                  generalize ev153 : (y7_73 + 1 : Int32) = v153 at k88 ⊢
                  have kv153 := zrng v153
                  refine zp_seg (pc' := 73) (lv' := [(7, .int v153), (0, .ref m), (1, .ref to), (2, .ref a), (3, .ref b), (4, .int (g 1)), (5, .ref (m + 276 + 2 * (g 1).toNatClampNeg)), (6, .int v41), (8, .int y8_85)]) (st' := []) [(153, .goto (-80))] (by decide +kernel) rfl ?_
                  have hz89 : (v153.toNatClampNeg : Int) = v153.toInt := znat (by first | omega | decide)
                  exact (ih73 wL85 v153 (hsiL73.tr hsiL85) (fun x hx => ((heqL85 x (by omega)).trans (heqL73 x (by omega)))) (by first | assumption | omega | decide) (by first | assumption | omega | decide) hUp2 hmL85 (by
                        intro t ht
                        rw [show v153.toNatClampNeg = y7_73.toNatClampNeg + 1 by omega, zbAcc_i p q _ y8_85.toNatClampNeg t (by omega)]
                        exact hS t ht) (by omega)).more (zfa1 rfl (zfa1 rfl (zfa1 rfl (zfa1 rfl (zfa1 rfl (zfa1 rfl (zfa1 rfl (zfa1 rfl (zfa0)))))))))
                ·
                  have f90 := znleI cc91
                  have hz91 : (y8_85.toNatClampNeg : Int) = y8_85.toInt := znat (by first | omega | decide)
                  refine zp_seg (pc' := 96) (lv' := [(0, .ref m), (1, .ref to), (2, .ref a), (3, .ref b), (4, .int (g 1)), (5, .ref (m + 276 + 2 * (g 1).toNatClampNeg)), (6, .int v41), (7, .int y7_73), (8, .int y8_85)]) (st' := [.int v41]) [(94, .iload 6)] (by decide +kernel) rfl ?_
                  refine zp_if (i := .ifCond .le 54) (c := v41 ≤ 0) (t := 150) (e := 99) (lv' := [(0, .ref m), (1, .ref to), (2, .ref a), (3, .ref b), (4, .int (g 1)), (5, .ref (m + 276 + 2 * (g 1).toNatClampNeg)), (6, .int v41), (7, .int y7_73), (8, .int y8_85)]) (st' := []) (by decide +kernel) rfl (fun cc96 => ?_) (fun cc96 => ?_)
                  ·
                    have f92 := zleI cc96
                    rw [show (0 : Int32).toInt = 0 from by decide] at f92
                    exfalso
                    omega
                  ·
                    have f93 := znleI cc96
                    rw [show (0 : Int32).toInt = 0 from by decide] at f93
                    refine zp_seg (pc' := 102) (lv' := [(0, .ref m), (1, .ref to), (2, .ref a), (3, .ref b), (4, .int (g 1)), (5, .ref (m + 276 + 2 * (g 1).toNatClampNeg)), (6, .int v41), (7, .int y7_73), (8, .int y8_85)]) (st' := [.ref a, .ref (m + 276 + 2 * (g 1).toNatClampNeg)]) [(99, .aload 5), (101, .aload_n 2)] (by decide +kernel) rfl ?_
                    have hb94 : wL85 a = some (.inl (11, [.ref (a + 1), .int na])) := (heqL85 a (by omega)).trans hb70
                    refine zr_get (idx := 98) (k := 0) (v := .ref (a + 1)) (by decide +kernel) (by decide +kernel) hb94 rfl ?_
                    refine zp_seg (pc' := 107) (lv' := [(0, .ref m), (1, .ref to), (2, .ref a), (3, .ref b), (4, .int (g 1)), (5, .ref (m + 276 + 2 * (g 1).toNatClampNeg)), (6, .int v41), (7, .int y7_73), (8, .int y8_85)]) (st' := [.int y7_73, .ref (a + 1), .ref (m + 276 + 2 * (g 1).toNatClampNeg)]) [(105, .iload 7)] (by decide +kernel) rfl ?_
                    have hb95 : wL85 (a + 1) = some (.inr (4, 64, zbr a)) := ((heqL85 (a + 1) (by omega)).trans ((heqL73 (a + 1) (by omega)).trans ((heqL46 (a + 1) (by omega)).trans (heq7 (a + 1) (by omega))))).trans hQa2
                    refine zr_aald (v := .ref (a + 2 + 2 * y7_73.toNatClampNeg)) (by decide +kernel) hb95 (by decide) (zin (by first | omega | decide) (by first | omega | decide)) (zbr_at (by omega)) ?_
                    have hb96 : zB wL85 a p := hB_a.ag (fun x hx1 hx2 => ((heqL85 x (by omega)).trans ((heqL73 x (by omega)).trans ((heqL46 x (by omega)).trans (heq7 x (by omega))))))
                    have hrow97 := hb96.row (y7_73.toNatClampNeg) (by omega)
                    refine zp_seg (pc' := 109) (lv' := [(0, .ref m), (1, .ref to), (2, .ref a), (3, .ref b), (4, .int (g 1)), (5, .ref (m + 276 + 2 * (g 1).toNatClampNeg)), (6, .int v41), (7, .int y7_73), (8, .int y8_85)]) (st' := [.ref b, .ref (a + 2 + 2 * y7_73.toNatClampNeg), .ref (m + 276 + 2 * (g 1).toNatClampNeg)]) [(108, .aload_n 3)] (by decide +kernel) rfl ?_
                    refine zr_get (idx := 98) (k := 0) (v := .ref (b + 1)) (by decide +kernel) (by decide +kernel) hb85 rfl ?_
                    refine zp_seg (pc' := 114) (lv' := [(0, .ref m), (1, .ref to), (2, .ref a), (3, .ref b), (4, .int (g 1)), (5, .ref (m + 276 + 2 * (g 1).toNatClampNeg)), (6, .int v41), (7, .int y7_73), (8, .int y8_85)]) (st' := [.int y8_85, .ref (b + 1), .ref (a + 2 + 2 * y7_73.toNatClampNeg), .ref (m + 276 + 2 * (g 1).toNatClampNeg)]) [(112, .iload 8)] (by decide +kernel) rfl ?_
                    have hb98 : wL85 (b + 1) = some (.inr (4, 64, zbr b)) := ((heqL85 (b + 1) (by omega)).trans ((heqL73 (b + 1) (by omega)).trans ((heqL46 (b + 1) (by omega)).trans (heq7 (b + 1) (by omega))))).trans hQb2
                    refine zr_aald (v := .ref (b + 2 + 2 * y8_85.toNatClampNeg)) (by decide +kernel) hb98 (by decide) (zin (by first | omega | decide) (by first | omega | decide)) (zbr_at (by omega)) ?_
                    have hb99 : zB wL85 b q := hB_b.ag (fun x hx1 hx2 => ((heqL85 x (by omega)).trans ((heqL73 x (by omega)).trans ((heqL46 x (by omega)).trans (heq7 x (by omega))))))
                    have hrow100 := hb99.row (y8_85.toNatClampNeg) (by omega)
                    have hca := (hrow97).cap
                    have hcb := (hrow100).cap
                    have hd1 := zdn_le p y7_73.toNatClampNeg
                    have hd2 := zdn_le q y8_85.toNatClampNeg
                    have hml := zln_Mle (p.1 y7_73.toNatClampNeg) (q.1 y8_85.toNatClampNeg)
                    refine zr_callS (idx := 106) (j := 267) (by decide +kernel) (by decide +kernel) (by decide) (show zMe 267 = some zq_X16_times from rfl) rfl rfl (Nat.le_of_ble_eq_true rfl) rfl rfl (Nat.le_of_ble_eq_true rfl) (Nat.le_of_ble_eq_true rfl) (c_X16_times (w := wL85) (m + 276 + 2 * (g 1).toNatClampNeg) (a + 2 + 2 * y7_73.toNatClampNeg) (b + 2 + 2 * y8_85.toNatClampNeg) hUp2 hrow97 hrow100 (by first | omega | decide | assumption) (by first | omega | decide | assumption) (by first | omega | decide | assumption) (by first | omega | decide | assumption)) (by omega) (fun v115 w115 hp115 => ?_)
                    obtain ⟨hsi115, heq115, hp115_0, rfl⟩ := hp115
                    show zP _ _ _ _ [] _ _ _ _ _
                    refine zp_seg (pc' := 119) (lv' := [(0, .ref m), (1, .ref to), (2, .ref a), (3, .ref b), (4, .int (g 1)), (5, .ref (m + 276 + 2 * (g 1).toNatClampNeg)), (6, .int v41), (7, .int y7_73), (8, .int y8_85)]) (st' := [.ref to]) [(118, .aload_n 1)] (by decide +kernel) rfl ?_
                    have hb106 := hBo_to.si ((((hsi7.tr hsiL46).tr hsiL73).tr hsiL85).tr hsi115)
                    obtain ⟨n101, hb102, hb103, -⟩ := id hb106
                    have kn101 := zrng n101
                    refine zr_get (idx := 98) (k := 0) (v := .ref (to + 1)) (by decide +kernel) (by decide +kernel) hb102 rfl ?_
                    refine zp_seg (pc' := 127) (lv' := [(0, .ref m), (1, .ref to), (2, .ref a), (3, .ref b), (4, .int (g 1)), (5, .ref (m + 276 + 2 * (g 1).toNatClampNeg)), (6, .int v41), (7, .int y7_73), (8, .int y8_85)]) (st' := [.int (y7_73 + y8_85), .ref (to + 1)]) [(122, .iload 7), (124, .iload 8), (126, .iadd)] (by decide +kernel) rfl ?_
                    have k107 := zadd y7_73 y8_85 (by omega) (by omega)
                    generalize ev127 : (y7_73 + y8_85 : Int32) = v127 at k107 ⊢
                    have kv127 := zrng v127
                    have hz108 : (v127.toNatClampNeg : Int) = v127.toInt := znat (by first | omega | decide)
                    refine zr_aald (v := .ref (to + 2 + 2 * v127.toNatClampNeg)) (by decide +kernel) hb103 (by decide) (zin (by first | omega | decide) (by first | omega | decide)) (zbr_at (by omega)) ?_
                    have hrow109 := hb106.rowo (v127.toNatClampNeg) (by omega)
                    refine zp_seg (pc' := 129) (lv' := [(0, .ref m), (1, .ref to), (2, .ref a), (3, .ref b), (4, .int (g 1)), (5, .ref (m + 276 + 2 * (g 1).toNatClampNeg)), (6, .int v41), (7, .int y7_73), (8, .int y8_85)]) (st' := [.ref to, .ref (to + 2 + 2 * v127.toNatClampNeg)]) [(128, .aload_n 1)] (by decide +kernel) rfl ?_
                    refine zr_get (idx := 98) (k := 0) (v := .ref (to + 1)) (by decide +kernel) (by decide +kernel) hb102 rfl ?_
                    refine zp_seg (pc' := 137) (lv' := [(0, .ref m), (1, .ref to), (2, .ref a), (3, .ref b), (4, .int (g 1)), (5, .ref (m + 276 + 2 * (g 1).toNatClampNeg)), (6, .int v41), (7, .int y7_73), (8, .int y8_85)]) (st' := [.int (y7_73 + y8_85), .ref (to + 1), .ref (to + 2 + 2 * v127.toNatClampNeg)]) [(132, .iload 7), (134, .iload 8), (136, .iadd)] (by decide +kernel) rfl ?_
                    have k110 := zadd y7_73 y8_85 (by omega) (by omega)
                    generalize ev137 : (y7_73 + y8_85 : Int32) = v137 at k110 ⊢
                    have kv137 := zrng v137
                    have hz111 : (v137.toNatClampNeg : Int) = v137.toInt := znat (by first | omega | decide)
                    refine zr_aald (v := .ref (to + 2 + 2 * v137.toNatClampNeg)) (by decide +kernel) hb103 (by decide) (zin (by first | omega | decide) (by first | omega | decide)) (zbr_at (by omega)) ?_
                    refine zp_seg (pc' := 141) (lv' := [(0, .ref m), (1, .ref to), (2, .ref a), (3, .ref b), (4, .int (g 1)), (5, .ref (m + 276 + 2 * (g 1).toNatClampNeg)), (6, .int v41), (7, .int y7_73), (8, .int y8_85)]) (st' := [.int 0, .ref (m + 276 + 2 * (g 1).toNatClampNeg), .ref (to + 2 + 2 * v137.toNatClampNeg), .ref (to + 2 + 2 * v127.toNatClampNeg)]) [(138, .aload 5), (140, .iconst 0)] (by decide +kernel) rfl ?_
                    have hUt := (hS (y7_73.toNatClampNeg + y8_85.toNatClampNeg) (by omega)).ag (w' := w115) (fun x g1 g2 => heq115 x (by omega))
                    rw [← show v137.toNatClampNeg = y7_73.toNatClampNeg + y8_85.toNatClampNeg by omega] at hUt
                    have hcl := zbAcc_ln p q y7_73.toNatClampNeg y8_85.toNatClampNeg v137.toNatClampNeg
                    refine zr_callS (idx := 101) (j := 265) (by decide +kernel) (by decide +kernel) (by decide) (show zMe 265 = some zq_X16_plus from rfl) rfl rfl (Nat.le_of_ble_eq_true rfl) rfl rfl (Nat.le_of_ble_eq_true rfl) (Nat.le_of_ble_eq_true rfl) (c_X16_plusA (w := w115) (to + 2 + 2 * v127.toNatClampNeg) (to + 2 + 2 * v137.toNatClampNeg) (m + 276 + 2 * (g 1).toNatClampNeg)  hrow109 hUt hp115_0 (by first | omega | decide | assumption) (by first | omega | decide | assumption)) (by omega) (fun v141 w141 hp141 => ?_)
                    obtain ⟨hsi141, heq141, hp141_0, rfl⟩ := hp141
                    show zP _ _ _ _ [] _ _ _ _ _
                    refine zp_seg (pc' := 147) (lv' := [(8, .int (y8_85 + 1)), (0, .ref m), (1, .ref to), (2, .ref a), (3, .ref b), (4, .int (g 1)), (5, .ref (m + 276 + 2 * (g 1).toNatClampNeg)), (6, .int v41), (7, .int y7_73)]) (st' := []) [(144, .iinc 8 1)] (by decide +kernel) rfl ?_
                    have k112 := zaddC y8_85 1 (n := 1) (by decide) (by omega) (by omega)
                    generalize ev147 : (y8_85 + 1 : Int32) = v147 at k112 ⊢
                    have kv147 := zrng v147
                    refine zp_seg (pc' := 85) (lv' := [(8, .int v147), (0, .ref m), (1, .ref to), (2, .ref a), (3, .ref b), (4, .int (g 1)), (5, .ref (m + 276 + 2 * (g 1).toNatClampNeg)), (6, .int v41), (7, .int y7_73)]) (st' := []) [(147, .goto (-62))] (by decide +kernel) rfl ?_
                    have hz113 : (v147.toNatClampNeg : Int) = v147.toInt := znat (by first | omega | decide)
                    have hb114 := hUp2.si (hsi115.tr hsi141)
                    have hb115 : w141 m = some (.inl (15, zMo m (zs g 1 ((g 1) + 1)) r)) := ((heq141 m (by omega)).trans (heq115 m (by omega))).trans hmL85
                    exact (ih85 w141 v147 ((hsiL85.tr hsi115).tr hsi141) (fun x hx => ((heq141 x (by omega)).trans ((heq115 x (by omega)).trans (heqL85 x (by omega))))) (by first | assumption | omega | decide) (by first | assumption | omega | decide) hb114 hb115 (by
                          intro t ht
                          rw [show v147.toNatClampNeg = y8_85.toNatClampNeg + 1 by omega, zbAcc_j]
                          by_cases e : t = y7_73.toNatClampNeg + y8_85.toNatClampNeg
                          · rw [if_pos e]
                            have h9 := hp141_0
                            rw [show v127.toNatClampNeg = t by omega, show v137.toNatClampNeg = t by omega] at h9
                            exact h9
                          · rw [if_neg e]
                            exact (hS t ht).ag (fun x g1 g2 => (heq141 x (by omega)).trans (heq115 x (by omega)))) (by omega)).more (zfa1 rfl (zfa1 rfl (zfa1 rfl (zfa1 rfl (zfa1 rfl (zfa1 rfl (zfa1 rfl (zfa1 rfl (zfa1 rfl (zfa0))))))))))
              have hl116 : (0 : Int32).toInt = 0 := by decide
              have hz117 : ((0 : Int32).toNatClampNeg : Int) = 0 := by decide
              exact (hL85 _ wL73 0 zSI.rf (fun _ _ => rfl) (by first | assumption | omega | decide) (by first | assumption | omega | decide) hUp hmL73 (by
                    exact fun t ht => by rw [show (0 : Int32).toNatClampNeg = 0 by decide]; exact hT t ht) (Nat.lt_succ_self _)).more (zfa1 rfl (zfa1 rfl (zfa1 rfl (zfa1 rfl (zfa1 rfl (zfa1 rfl (zfa1 rfl (zfa1 rfl (zfa1 rfl (zfa0))))))))))
          have hl118 : (0 : Int32).toInt = 0 := by decide
          have hz119 : ((0 : Int32).toNatClampNeg : Int) = 0 := by decide
          have hb120 : zU wL46 (m + 276 + 2 * (g 1).toNatClampNeg) 1000 zaZ := hp7_1.ag (fun x hx1 hx2 => (heqL46 x (by omega)))
          exact (hL73 _ wL46 0 zSI.rf (fun _ _ => rfl) (by first | assumption | omega | decide) (by first | assumption | omega | decide) (zU.o hb120) hmL46 (by
                exact fun t ht => by rw [show (0 : Int32).toNatClampNeg = 0 by decide, zbAcc_0]; exact hZ t (by omega)) (Nat.lt_succ_self _)).more (zfa1 rfl (zfa1 rfl (zfa1 rfl (zfa1 rfl (zfa1 rfl (zfa1 rfl (zfa1 rfl (zfa1 rfl (zfa0)))))))))
        ·
          have f121 := znleI cc50
          have hz122 : (y7_46.toNatClampNeg : Int) = y7_46.toInt := znat (by first | omega | decide)
          refine zp_seg (pc' := 54) (lv' := [(0, .ref m), (1, .ref to), (2, .ref a), (3, .ref b), (4, .int (g 1)), (5, .ref (m + 276 + 2 * (g 1).toNatClampNeg)), (6, .int v41), (7, .int y7_46)]) (st' := [.ref to]) [(53, .aload_n 1)] (by decide +kernel) rfl ?_
          have hb128 := hBo_to.si (hsi7.tr hsiL46)
          obtain ⟨n123, hb124, hb125, -⟩ := id hb128
          have kn123 := zrng n123
          refine zr_get (idx := 98) (k := 0) (v := .ref (to + 1)) (by decide +kernel) (by decide +kernel) hb124 rfl ?_
          refine zp_seg (pc' := 59) (lv' := [(0, .ref m), (1, .ref to), (2, .ref a), (3, .ref b), (4, .int (g 1)), (5, .ref (m + 276 + 2 * (g 1).toNatClampNeg)), (6, .int v41), (7, .int y7_46)]) (st' := [.int y7_46, .ref (to + 1)]) [(57, .iload 7)] (by decide +kernel) rfl ?_
          refine zr_aald (v := .ref (to + 2 + 2 * y7_46.toNatClampNeg)) (by decide +kernel) hb125 (by decide) (zin (by first | omega | decide) (by first | omega | decide)) (zbr_at (by omega)) ?_
          have hrow129 := hb128.rowo (y7_46.toNatClampNeg) (by omega)
          refine zp_seg (pc' := 61) (lv' := [(0, .ref m), (1, .ref to), (2, .ref a), (3, .ref b), (4, .int (g 1)), (5, .ref (m + 276 + 2 * (g 1).toNatClampNeg)), (6, .int v41), (7, .int y7_46)]) (st' := [.int 0, .ref (to + 2 + 2 * y7_46.toNatClampNeg)]) [(60, .iconst 0)] (by decide +kernel) rfl ?_
          obtain ⟨n130, f131, hu132, hu133⟩ := id hrow129
          have kn130 := zrng n130
          refine zr_put2 (idx := 25) (k := 1) (fs2 := [.ref (to + 2 + 2 * y7_46.toNatClampNeg + 1), .int 0]) (by decide +kernel) (by decide +kernel) hu132 (Nat.le_of_ble_eq_true rfl) rfl rfl rfl ?_
          show zP (d + 1) zq_X16_times_ 64 [(0, .ref m), (1, .ref to), (2, .ref a), (3, .ref b), (4, .int (g 1)), (5, .ref (m + 276 + 2 * (g 1).toNatClampNeg)), (6, .int v41), (7, .int y7_46)] [] (zup wL46 (to + 2 + 2 * y7_46.toNatClampNeg) (.inl (14, [.ref (to + 2 + 2 * y7_46.toNatClampNeg + 1), .int 0]))) sz 0 0 Post
          obtain ⟨w61, ew61⟩ : ∃ wz9, wz9 = zup wL46 (to + 2 + 2 * y7_46.toNatClampNeg) (.inl (14, [.ref (to + 2 + 2 * y7_46.toNatClampNeg + 1), .int 0])) := ⟨_, rfl⟩
          have hsi61 : zSI wL46 w61 := by rw [ew61]; exact zSI.setU hu132
          have heq61 : ∀ x, x ≠ to + 2 + 2 * y7_46.toNatClampNeg → w61 x = wL46 x := fun x hx => by rw [ew61]; exact zup_n hx
          have hc61 : w61 (to + 2 + 2 * y7_46.toNatClampNeg) = some (.inl (14, [.ref (to + 2 + 2 * y7_46.toNatClampNeg + 1), .int 0])) := by rw [ew61]; exact zup_s
          rw [← ew61]
          clear ew61
          refine zp_seg (pc' := 67) (lv' := [(7, .int (y7_46 + 1)), (0, .ref m), (1, .ref to), (2, .ref a), (3, .ref b), (4, .int (g 1)), (5, .ref (m + 276 + 2 * (g 1).toNatClampNeg)), (6, .int v41)]) (st' := []) [(64, .iinc 7 1)] (by decide +kernel) rfl ?_
          have k134 := zaddC y7_46 1 (n := 1) (by decide) (by omega) (by omega)
          generalize ev67 : (y7_46 + 1 : Int32) = v67 at k134 ⊢
          have kv67 := zrng v67
          refine zp_seg (pc' := 46) (lv' := [(7, .int v67), (0, .ref m), (1, .ref to), (2, .ref a), (3, .ref b), (4, .int (g 1)), (5, .ref (m + 276 + 2 * (g 1).toNatClampNeg)), (6, .int v41)]) (st' := []) [(67, .goto (-21))] (by decide +kernel) rfl ?_
          have hz135 : (v67.toNatClampNeg : Int) = v67.toInt := znat (by first | omega | decide)
          have hb136 : w61 m = some (.inl (15, zMo m (zs g 1 ((g 1) + 1)) r)) := (heq61 m (by omega)).trans hmL46
          have hb137 : w61 (to + 2 + 2 * y7_46.toNatClampNeg + 1) = some (.inr (0, 200, .inl f131)) := (heq61 (to + 2 + 2 * y7_46.toNatClampNeg + 1) (by omega)).trans hu133
          exact (ih46 w61 v67 (hsiL46.tr hsi61) (fun x hx => ((heq61 x (by omega)).trans (heqL46 x (by omega)))) (by first | assumption | omega | decide) (by first | assumption | omega | decide) hb136 (by
                intro t ht
                by_cases e : t = y7_46.toNatClampNeg
                · rw [e]
                  exact zU.mk0 hc61 hb137
                · exact (hZ t (by omega)).ag (fun x g1 g2 => heq61 x (by omega))) (by omega)).more (zfa1 rfl (zfa1 rfl (zfa1 rfl (zfa1 rfl (zfa1 rfl (zfa1 rfl (zfa1 rfl (zfa1 rfl (zfa0)))))))))
      have hl138 : (0 : Int32).toInt = 0 := by decide
      have hz139 : ((0 : Int32).toNatClampNeg : Int) = 0 := by decide
      exact (hL46 _ w7 0 zSI.rf (fun _ _ => rfl) (by first | assumption | omega | decide) (by first | assumption | omega | decide) hM7 (by
            exact fun t ht => absurd ht (by omega)) (Nat.lt_succ_self _)).more (zfa1 rfl (zfa1 rfl (zfa1 rfl (zfa1 rfl (zfa1 rfl (zfa1 rfl (zfa1 rfl (zfa1 rfl (zfa0)))))))))
    ·
      replace cc23 := Classical.not_not.mp cc23
      have k140 := zrng nb
      have f141 := zeqI cc23
      rw [show (0 : Int32).toInt = 0 from by decide] at f141
      refine zp_seg (pc' := 46) (lv' := [(7, .int 0), (6, .int 0), (5, .ref (m + 276 + 2 * (g 1).toNatClampNeg)), (4, .int (g 1)), (0, .ref m), (1, .ref to), (2, .ref a), (3, .ref b)]) (st' := []) [(26, .iconst 0), (27, .goto 14), (41, .istore 6), (43, .iconst 0), (44, .istore 7)] (by decide +kernel) rfl ?_
      have hL46 : ∀ (mm46 : Nat) (wL46 : zM) (y7_46 : Int32), (zSI w7 wL46) → (∀ x, ((x < to + 2 ∨ to + 2 + 128 ≤ x)) ∧ x ≠ m → wL46 x = w7 x) → (0 ≤ y7_46.toInt) → (y7_46.toInt ≤ (0 : Int32).toInt) → (wL46 m = some (.inl (15, zMo m (zs g 1 ((g 1) + 1)) r))) → (∀ t, t < y7_46.toNatClampNeg → zU wL46 (to + 2 + 2 * t) 200 zaZ) → (2147483647 - y7_46.toInt).toNat < mm46 → zP (d + 1) zq_X16_times_ 46 [(0, .ref m), (1, .ref to), (2, .ref a), (3, .ref b), (4, .int (g 1)), (5, .ref (m + 276 + 2 * (g 1).toNatClampNeg)), (6, .int 0), (7, .int y7_46)] [] wL46 sz 0 0 Post := by
        intro mm46
        induction mm46 with
        | zero => intros; omega
        | succ mm46 ih46 =>
        intro wL46 y7_46 hsiL46 heqL46 hi46_0 hi46_1 hmL46 hZ hmu46
        have ky7_46 := zrng y7_46
        refine zp_seg (pc' := 50) (lv' := [(0, .ref m), (1, .ref to), (2, .ref a), (3, .ref b), (4, .int (g 1)), (5, .ref (m + 276 + 2 * (g 1).toNatClampNeg)), (6, .int 0), (7, .int y7_46)]) (st' := [.int 0, .int y7_46]) [(46, .iload 7), (48, .iload 6)] (by decide +kernel) rfl ?_
        refine zp_if (i := .if_icmp .ge 20) (c := 0 ≤ y7_46) (t := 70) (e := 53) (lv' := [(0, .ref m), (1, .ref to), (2, .ref a), (3, .ref b), (4, .int (g 1)), (5, .ref (m + 276 + 2 * (g 1).toNatClampNeg)), (6, .int 0), (7, .int y7_46)]) (st' := []) (by decide +kernel) rfl (fun cc50 => ?_) (fun cc50 => ?_)
        ·
          have f142 := zleI cc50
          rw [show (0 : Int32).toInt = 0 from by decide] at f142
          have hz143 : (y7_46.toNatClampNeg : Int) = y7_46.toInt := znat (by first | omega | decide)
          refine zp_seg (pc' := 73) (lv' := [(7, .int 0), (0, .ref m), (1, .ref to), (2, .ref a), (3, .ref b), (4, .int (g 1)), (5, .ref (m + 276 + 2 * (g 1).toNatClampNeg)), (6, .int 0)]) (st' := []) [(70, .iconst 0), (71, .istore 7)] (by decide +kernel) rfl ?_
          have hL73 : ∀ (mm73 : Nat) (wL73 : zM) (y7_73 : Int32), (zSI wL46 wL73) → (∀ x, ((x < to + 2 ∨ to + 2 + 128 ≤ x) ∧ (x < m + 276 + 2 * (g 1).toNatClampNeg ∨ m + 276 + 2 * (g 1).toNatClampNeg + 2 ≤ x)) ∧ x ≠ m → wL73 x = wL46 x) → (0 ≤ y7_73.toInt) → (y7_73.toInt ≤ (zrw p : Int)) → (zUo wL73 (m + 276 + 2 * (g 1).toNatClampNeg) 1000) → (wL73 m = some (.inl (15, zMo m (zs g 1 ((g 1) + 1)) r))) → (∀ t : Nat, (t : Int) < (0 : Int32).toInt → zU wL73 (to + 2 + 2 * t) 200 (zbAcc p q y7_73.toNatClampNeg 0 t)) → (2147483647 - y7_73.toInt).toNat < mm73 → zP (d + 1) zq_X16_times_ 73 [(0, .ref m), (1, .ref to), (2, .ref a), (3, .ref b), (4, .int (g 1)), (5, .ref (m + 276 + 2 * (g 1).toNatClampNeg)), (6, .int 0), (7, .int y7_73)] [] wL73 sz 0 0 Post := by
            intro mm73
            induction mm73 with
            | zero => intros; omega
            | succ mm73 ih73 =>
            intro wL73 y7_73 hsiL73 heqL73 hi73_0 hi73_1 hUp hmL73 hT hmu73
            have ky7_73 := zrng y7_73
            refine zp_seg (pc' := 76) (lv' := [(0, .ref m), (1, .ref to), (2, .ref a), (3, .ref b), (4, .int (g 1)), (5, .ref (m + 276 + 2 * (g 1).toNatClampNeg)), (6, .int 0), (7, .int y7_73)]) (st' := [.ref a, .int y7_73]) [(73, .iload 7), (75, .aload_n 2)] (by decide +kernel) rfl ?_
            have hb144 : wL73 a = some (.inl (11, [.ref (a + 1), .int na])) := ((heqL73 a (by omega)).trans (heqL46 a (by omega))).trans hb3
            refine zr_get (idx := 93) (k := 1) (v := .int na) (by decide +kernel) (by decide +kernel) hb144 rfl ?_
            refine zp_if (i := .if_icmp .ge 77) (c := na ≤ y7_73) (t := 156) (e := 82) (lv' := [(0, .ref m), (1, .ref to), (2, .ref a), (3, .ref b), (4, .int (g 1)), (5, .ref (m + 276 + 2 * (g 1).toNatClampNeg)), (6, .int 0), (7, .int y7_73)]) (st' := []) (by decide +kernel) rfl (fun cc79 => ?_) (fun cc79 => ?_)
            ·
              have f145 := zleI cc79
              have hz146 : (y7_73.toNatClampNeg : Int) = y7_73.toInt := znat (by first | omega | decide)
              refine zp_seg (pc' := 159) (lv' := [(0, .ref m), (1, .ref to), (2, .ref a), (3, .ref b), (4, .int (g 1)), (5, .ref (m + 276 + 2 * (g 1).toNatClampNeg)), (6, .int 0), (7, .int y7_73)]) (st' := [.int 0, .ref to]) [(156, .aload_n 1), (157, .iload 6)] (by decide +kernel) rfl ?_
              have hb152 := hBo_to.si ((hsi7.tr hsiL46).tr hsiL73)
              obtain ⟨n147, hb148, hb149, -⟩ := id hb152
              have kn147 := zrng n147
              refine zr_put2 (idx := 93) (k := 1) (fs2 := [.ref (to + 1), .int 0]) (by decide +kernel) (by decide +kernel) hb148 (Nat.le_of_ble_eq_true rfl) rfl rfl rfl ?_
              show zP (d + 1) zq_X16_times_ 162 [(0, .ref m), (1, .ref to), (2, .ref a), (3, .ref b), (4, .int (g 1)), (5, .ref (m + 276 + 2 * (g 1).toNatClampNeg)), (6, .int 0), (7, .int y7_73)] [] (zup wL73 to (.inl (11, [.ref (to + 1), .int 0]))) sz 0 0 Post
              obtain ⟨w159, ew159⟩ : ∃ wz9, wz9 = zup wL73 to (.inl (11, [.ref (to + 1), .int 0])) := ⟨_, rfl⟩
              have hsi159 : zSI wL73 w159 := by rw [ew159]; exact zSI.setB hb148
              have heq159 : ∀ x, x ≠ to → w159 x = wL73 x := fun x hx => by rw [ew159]; exact zup_n hx
              have hc159 : w159 to = some (.inl (11, [.ref (to + 1), .int 0])) := by rw [ew159]; exact zup_s
              rw [← ew159]
              clear ew159
              have hz153 : ((0 : Int32).toNatClampNeg : Int) = 0 := by decide
              have hl154 : (0 : Int32).toInt = 0 := by decide
              have hb155 := hb152.si hsi159
              have hBn9 : zBw w159 to (0 : Int32).toNatClampNeg (zbM p q) := zBw.mk hb155 hc159 (by omega) (by omega) (fun j hj => by rw [← zbAcc_e p q y7_73.toNatClampNeg j (by omega)]; exact (hT j (by omega)).ag (fun x g1 g2 => heq159 x (by omega))) (fun j hj => zrw_dg _ j (by have := zrw_Mle p q; have := zrw_M0 p q; omega))
              refine zp_seg (pc' := 163) (lv' := [(0, .ref m), (1, .ref to), (2, .ref a), (3, .ref b), (4, .int (g 1)), (5, .ref (m + 276 + 2 * (g 1).toNatClampNeg)), (6, .int 0), (7, .int y7_73)]) (st' := [.ref to]) [(162, .aload_n 1)] (by decide +kernel) rfl ?_
              refine zr_callV (idx := 105) (j := 244) (by decide +kernel) (by decide +kernel) (show zMe 244 = some zq_X12_trim from rfl) rfl rfl (Nat.le_of_ble_eq_true rfl) rfl rfl hc159 (Nat.le_of_ble_eq_true rfl) (Nat.le_of_ble_eq_true rfl) (c_X12_trim (w := w159) to hBn9) (by omega) (fun v163 w163 hp163 => ?_)
              obtain ⟨hsi163, heq163, hp163_0, rfl⟩ := hp163
              show zP _ _ _ _ [] _ _ _ _ _
              refine zp_seg (pc' := 169) (lv' := [(0, .ref m), (1, .ref to), (2, .ref a), (3, .ref b), (4, .int (g 1)), (5, .ref (m + 276 + 2 * (g 1).toNatClampNeg)), (6, .int 0), (7, .int y7_73)]) (st' := [.int (g 1), .ref m]) [(166, .aload_n 0), (167, .iload 4)] (by decide +kernel) rfl ?_
              have hb156 : w163 m = some (.inl (15, zMo m (zs g 1 ((g 1) + 1)) r)) := ((heq163 m (by omega)).trans (heq159 m (by omega))).trans hmL73
              refine zr_put2 (idx := 21) (k := 1) (fs2 := zMo m g r) (by decide +kernel) (by decide +kernel) hb156 (Nat.le_of_ble_eq_true rfl) rfl rfl rfl ?_
              show zP (d + 1) zq_X16_times_ 172 [(0, .ref m), (1, .ref to), (2, .ref a), (3, .ref b), (4, .int (g 1)), (5, .ref (m + 276 + 2 * (g 1).toNatClampNeg)), (6, .int 0), (7, .int y7_73)] [] (zup w163 m (.inl (15, zMo m g r))) sz 0 0 Post
              obtain ⟨w169, ew169⟩ : ∃ wz9, wz9 = zup w163 m (.inl (15, zMo m g r)) := ⟨_, rfl⟩
              have hsi169 : zSI w163 w169 := by rw [ew169]; exact zSI.setG hb156 _ _
              have heq169 : ∀ x, x ≠ m → w169 x = w163 x := fun x hx => by rw [ew169]; exact zup_n hx
              have hc169 : w169 m = some (.inl (15, zMo m g r)) := by rw [ew169]; exact zup_s
              rw [← ew169]
              clear ew169
              have hmend : w169 m = w m := by rw [hc169, hm]
              have hoffend : ∀ x, (x < to ∨ to + 130 ≤ x) ∧ (x < m + 276 + 2 * (g 1).toNatClampNeg ∨ m + 276 + 2 * (g 1).toNatClampNeg + (320 - 2 * (g 1).toNatClampNeg) ≤ x) → w169 x = w x := fun x hx => by
                  by_cases ex : x = m
                  · rw [ex]; exact hmend
                  · exact ((heq169 x (by omega)).trans ((heq163 x (by omega)).trans ((heq159 x (by omega)).trans ((heqL73 x (by omega)).trans ((heqL46 x (by omega)).trans (heq7 x (by omega)))))))
              have hb157 : zB w169 to ((zbM p q)) := hp163_0.ag (fun x hx1 hx2 => (heq169 x (by omega)))
              refine zr_retV (by decide +kernel) rfl ?_
              rw [← hPost]; exact ⟨rfl, _, rfl, (((((hsi7.tr hsiL46).tr hsiL73).tr hsi159).tr hsi163).tr hsi169), hoffend, (by first | exact hb157 | (have z9 := hb157; simpa using z9)), rfl⟩
            ·
              have f158 := znleI cc79
              have hz159 : (y7_73.toNatClampNeg : Int) = y7_73.toInt := znat (by first | omega | decide)
              refine zp_seg (pc' := 85) (lv' := [(8, .int 0), (0, .ref m), (1, .ref to), (2, .ref a), (3, .ref b), (4, .int (g 1)), (5, .ref (m + 276 + 2 * (g 1).toNatClampNeg)), (6, .int 0), (7, .int y7_73)]) (st' := []) [(82, .iconst 0), (83, .istore 8)] (by decide +kernel) rfl ?_
              have hL85 : ∀ (mm85 : Nat) (wL85 : zM) (y8_85 : Int32), (zSI wL73 wL85) → (∀ x, ((x < to + 2 ∨ to + 2 + 128 ≤ x) ∧ (x < m + 276 + 2 * (g 1).toNatClampNeg ∨ m + 276 + 2 * (g 1).toNatClampNeg + 2 ≤ x)) ∧ x ≠ m → wL85 x = wL73 x) → (0 ≤ y8_85.toInt) → (y8_85.toInt ≤ (zrw q : Int)) → (zUo wL85 (m + 276 + 2 * (g 1).toNatClampNeg) 1000) → (wL85 m = some (.inl (15, zMo m (zs g 1 ((g 1) + 1)) r))) → (∀ t : Nat, (t : Int) < (0 : Int32).toInt → zU wL85 (to + 2 + 2 * t) 200 (zbAcc p q y7_73.toNatClampNeg y8_85.toNatClampNeg t)) → (2147483647 - y8_85.toInt).toNat < mm85 → zP (d + 1) zq_X16_times_ 85 [(0, .ref m), (1, .ref to), (2, .ref a), (3, .ref b), (4, .int (g 1)), (5, .ref (m + 276 + 2 * (g 1).toNatClampNeg)), (6, .int 0), (7, .int y7_73), (8, .int y8_85)] [] wL85 sz 0 0 Post := by
                intro mm85
                induction mm85 with
                | zero => intros; omega
                | succ mm85 ih85 =>
                intro wL85 y8_85 hsiL85 heqL85 hi85_0 hi85_1 hUp2 hmL85 hS hmu85
                have ky8_85 := zrng y8_85
                refine zp_seg (pc' := 88) (lv' := [(0, .ref m), (1, .ref to), (2, .ref a), (3, .ref b), (4, .int (g 1)), (5, .ref (m + 276 + 2 * (g 1).toNatClampNeg)), (6, .int 0), (7, .int y7_73), (8, .int y8_85)]) (st' := [.ref b, .int y8_85]) [(85, .iload 8), (87, .aload_n 3)] (by decide +kernel) rfl ?_
                have hb160 : wL85 b = some (.inl (11, [.ref (b + 1), .int nb])) := ((heqL85 b (by omega)).trans ((heqL73 b (by omega)).trans (heqL46 b (by omega)))).trans hb63
                refine zr_get (idx := 93) (k := 1) (v := .int nb) (by decide +kernel) (by decide +kernel) hb160 rfl ?_
                refine zp_if (i := .if_icmp .ge 59) (c := nb ≤ y8_85) (t := 150) (e := 94) (lv' := [(0, .ref m), (1, .ref to), (2, .ref a), (3, .ref b), (4, .int (g 1)), (5, .ref (m + 276 + 2 * (g 1).toNatClampNeg)), (6, .int 0), (7, .int y7_73), (8, .int y8_85)]) (st' := []) (by decide +kernel) rfl (fun cc91 => ?_) (fun cc91 => ?_)
                ·
                  have f161 := zleI cc91
                  have hz162 : (y8_85.toNatClampNeg : Int) = y8_85.toInt := znat (by first | omega | decide)
                  refine zp_seg (pc' := 153) (lv' := [(7, .int (y7_73 + 1)), (0, .ref m), (1, .ref to), (2, .ref a), (3, .ref b), (4, .int (g 1)), (5, .ref (m + 276 + 2 * (g 1).toNatClampNeg)), (6, .int 0), (8, .int y8_85)]) (st' := []) [(150, .iinc 7 1)] (by decide +kernel) rfl ?_
                  have k163 := zaddC y7_73 1 (n := 1) (by decide) (by omega) (by omega)
                  generalize ev153 : (y7_73 + 1 : Int32) = v153 at k163 ⊢
                  have kv153 := zrng v153
                  refine zp_seg (pc' := 73) (lv' := [(7, .int v153), (0, .ref m), (1, .ref to), (2, .ref a), (3, .ref b), (4, .int (g 1)), (5, .ref (m + 276 + 2 * (g 1).toNatClampNeg)), (6, .int 0), (8, .int y8_85)]) (st' := []) [(153, .goto (-80))] (by decide +kernel) rfl ?_
                  have hz164 : (v153.toNatClampNeg : Int) = v153.toInt := znat (by first | omega | decide)
                  exact (ih73 wL85 v153 (hsiL73.tr hsiL85) (fun x hx => ((heqL85 x (by omega)).trans (heqL73 x (by omega)))) (by first | assumption | omega | decide) (by first | assumption | omega | decide) hUp2 hmL85 (by
                        intro t ht
                        rw [show v153.toNatClampNeg = y7_73.toNatClampNeg + 1 by omega, zbAcc_i p q _ y8_85.toNatClampNeg t (by omega)]
                        exact hS t ht) (by omega)).more (zfa1 rfl (zfa1 rfl (zfa1 rfl (zfa1 rfl (zfa1 rfl (zfa1 rfl (zfa1 rfl (zfa1 rfl (zfa0)))))))))
                ·
                  have f165 := znleI cc91
                  have hz166 : (y8_85.toNatClampNeg : Int) = y8_85.toInt := znat (by first | omega | decide)
                  refine zp_seg (pc' := 96) (lv' := [(0, .ref m), (1, .ref to), (2, .ref a), (3, .ref b), (4, .int (g 1)), (5, .ref (m + 276 + 2 * (g 1).toNatClampNeg)), (6, .int 0), (7, .int y7_73), (8, .int y8_85)]) (st' := [.int 0]) [(94, .iload 6)] (by decide +kernel) rfl ?_
                  refine zp_pure (pc' := 150) (lv' := [(0, .ref m), (1, .ref to), (2, .ref a), (3, .ref b), (4, .int (g 1)), (5, .ref (m + 276 + 2 * (g 1).toNatClampNeg)), (6, .int 0), (7, .int y7_73), (8, .int y8_85)]) (st' := []) (i := .ifCond .le 54) (by decide +kernel) rfl ?_
                  refine zp_seg (pc' := 153) (lv' := [(7, .int (y7_73 + 1)), (0, .ref m), (1, .ref to), (2, .ref a), (3, .ref b), (4, .int (g 1)), (5, .ref (m + 276 + 2 * (g 1).toNatClampNeg)), (6, .int 0), (8, .int y8_85)]) (st' := []) [(150, .iinc 7 1)] (by decide +kernel) rfl ?_
                  have k167 := zaddC y7_73 1 (n := 1) (by decide) (by omega) (by omega)
                  generalize ev153 : (y7_73 + 1 : Int32) = v153 at k167 ⊢
                  have kv153 := zrng v153
                  refine zp_seg (pc' := 73) (lv' := [(7, .int v153), (0, .ref m), (1, .ref to), (2, .ref a), (3, .ref b), (4, .int (g 1)), (5, .ref (m + 276 + 2 * (g 1).toNatClampNeg)), (6, .int 0), (8, .int y8_85)]) (st' := []) [(153, .goto (-80))] (by decide +kernel) rfl ?_
                  have hz168 : (v153.toNatClampNeg : Int) = v153.toInt := znat (by first | omega | decide)
                  exact (ih73 wL85 v153 (hsiL73.tr hsiL85) (fun x hx => ((heqL85 x (by omega)).trans (heqL73 x (by omega)))) (by first | assumption | omega | decide) (by first | assumption | omega | decide) hUp2 hmL85 (by
                        intro t ht
                        rw [show v153.toNatClampNeg = y7_73.toNatClampNeg + 1 by omega, zbAcc_i p q _ y8_85.toNatClampNeg t (by omega)]
                        exact hS t ht) (by omega)).more (zfa1 rfl (zfa1 rfl (zfa1 rfl (zfa1 rfl (zfa1 rfl (zfa1 rfl (zfa1 rfl (zfa1 rfl (zfa0)))))))))
              have hl169 : (0 : Int32).toInt = 0 := by decide
              have hz170 : ((0 : Int32).toNatClampNeg : Int) = 0 := by decide
              exact (hL85 _ wL73 0 zSI.rf (fun _ _ => rfl) (by first | assumption | omega | decide) (by first | assumption | omega | decide) hUp hmL73 (by
                    exact fun t ht => by rw [show (0 : Int32).toNatClampNeg = 0 by decide]; exact hT t ht) (Nat.lt_succ_self _)).more (zfa1 rfl (zfa1 rfl (zfa1 rfl (zfa1 rfl (zfa1 rfl (zfa1 rfl (zfa1 rfl (zfa1 rfl (zfa1 rfl (zfa0))))))))))
          have hl171 : (0 : Int32).toInt = 0 := by decide
          have hz172 : ((0 : Int32).toNatClampNeg : Int) = 0 := by decide
          have hb173 : zU wL46 (m + 276 + 2 * (g 1).toNatClampNeg) 1000 zaZ := hp7_1.ag (fun x hx1 hx2 => (heqL46 x (by omega)))
          exact (hL73 _ wL46 0 zSI.rf (fun _ _ => rfl) (by first | assumption | omega | decide) (by first | assumption | omega | decide) (zU.o hb173) hmL46 (by
                exact fun t ht => by rw [show (0 : Int32).toNatClampNeg = 0 by decide, zbAcc_0]; exact hZ t (by omega)) (Nat.lt_succ_self _)).more (zfa1 rfl (zfa1 rfl (zfa1 rfl (zfa1 rfl (zfa1 rfl (zfa1 rfl (zfa1 rfl (zfa1 rfl (zfa0)))))))))
        ·
          have f174 := znleI cc50
          rw [show (0 : Int32).toInt = 0 from by decide] at f174
          have hz175 : (y7_46.toNatClampNeg : Int) = y7_46.toInt := znat (by first | omega | decide)
          refine zp_seg (pc' := 54) (lv' := [(0, .ref m), (1, .ref to), (2, .ref a), (3, .ref b), (4, .int (g 1)), (5, .ref (m + 276 + 2 * (g 1).toNatClampNeg)), (6, .int 0), (7, .int y7_46)]) (st' := [.ref to]) [(53, .aload_n 1)] (by decide +kernel) rfl ?_
          have hb181 := hBo_to.si (hsi7.tr hsiL46)
          obtain ⟨n176, hb177, hb178, -⟩ := id hb181
          have kn176 := zrng n176
          refine zr_get (idx := 98) (k := 0) (v := .ref (to + 1)) (by decide +kernel) (by decide +kernel) hb177 rfl ?_
          refine zp_seg (pc' := 59) (lv' := [(0, .ref m), (1, .ref to), (2, .ref a), (3, .ref b), (4, .int (g 1)), (5, .ref (m + 276 + 2 * (g 1).toNatClampNeg)), (6, .int 0), (7, .int y7_46)]) (st' := [.int y7_46, .ref (to + 1)]) [(57, .iload 7)] (by decide +kernel) rfl ?_
          refine zr_aald (v := .ref (to + 2 + 2 * y7_46.toNatClampNeg)) (by decide +kernel) hb178 (by decide) (zin (by first | omega | decide) (by first | omega | decide)) (zbr_at (by omega)) ?_
          have hrow182 := hb181.rowo (y7_46.toNatClampNeg) (by omega)
          refine zp_seg (pc' := 61) (lv' := [(0, .ref m), (1, .ref to), (2, .ref a), (3, .ref b), (4, .int (g 1)), (5, .ref (m + 276 + 2 * (g 1).toNatClampNeg)), (6, .int 0), (7, .int y7_46)]) (st' := [.int 0, .ref (to + 2 + 2 * y7_46.toNatClampNeg)]) [(60, .iconst 0)] (by decide +kernel) rfl ?_
          obtain ⟨n183, f184, hu185, hu186⟩ := id hrow182
          have kn183 := zrng n183
          refine zr_put2 (idx := 25) (k := 1) (fs2 := [.ref (to + 2 + 2 * y7_46.toNatClampNeg + 1), .int 0]) (by decide +kernel) (by decide +kernel) hu185 (Nat.le_of_ble_eq_true rfl) rfl rfl rfl ?_
          show zP (d + 1) zq_X16_times_ 64 [(0, .ref m), (1, .ref to), (2, .ref a), (3, .ref b), (4, .int (g 1)), (5, .ref (m + 276 + 2 * (g 1).toNatClampNeg)), (6, .int 0), (7, .int y7_46)] [] (zup wL46 (to + 2 + 2 * y7_46.toNatClampNeg) (.inl (14, [.ref (to + 2 + 2 * y7_46.toNatClampNeg + 1), .int 0]))) sz 0 0 Post
          obtain ⟨w61, ew61⟩ : ∃ wz9, wz9 = zup wL46 (to + 2 + 2 * y7_46.toNatClampNeg) (.inl (14, [.ref (to + 2 + 2 * y7_46.toNatClampNeg + 1), .int 0])) := ⟨_, rfl⟩
          have hsi61 : zSI wL46 w61 := by rw [ew61]; exact zSI.setU hu185
          have heq61 : ∀ x, x ≠ to + 2 + 2 * y7_46.toNatClampNeg → w61 x = wL46 x := fun x hx => by rw [ew61]; exact zup_n hx
          have hc61 : w61 (to + 2 + 2 * y7_46.toNatClampNeg) = some (.inl (14, [.ref (to + 2 + 2 * y7_46.toNatClampNeg + 1), .int 0])) := by rw [ew61]; exact zup_s
          rw [← ew61]
          clear ew61
          refine zp_seg (pc' := 67) (lv' := [(7, .int (y7_46 + 1)), (0, .ref m), (1, .ref to), (2, .ref a), (3, .ref b), (4, .int (g 1)), (5, .ref (m + 276 + 2 * (g 1).toNatClampNeg)), (6, .int 0)]) (st' := []) [(64, .iinc 7 1)] (by decide +kernel) rfl ?_
          have k187 := zaddC y7_46 1 (n := 1) (by decide) (by omega) (by omega)
          generalize ev67 : (y7_46 + 1 : Int32) = v67 at k187 ⊢
          have kv67 := zrng v67
          refine zp_seg (pc' := 46) (lv' := [(7, .int v67), (0, .ref m), (1, .ref to), (2, .ref a), (3, .ref b), (4, .int (g 1)), (5, .ref (m + 276 + 2 * (g 1).toNatClampNeg)), (6, .int 0)]) (st' := []) [(67, .goto (-21))] (by decide +kernel) rfl ?_
          have hz188 : (v67.toNatClampNeg : Int) = v67.toInt := znat (by first | omega | decide)
          have hb189 : w61 m = some (.inl (15, zMo m (zs g 1 ((g 1) + 1)) r)) := (heq61 m (by omega)).trans hmL46
          have hb190 : w61 (to + 2 + 2 * y7_46.toNatClampNeg + 1) = some (.inr (0, 200, .inl f184)) := (heq61 (to + 2 + 2 * y7_46.toNatClampNeg + 1) (by omega)).trans hu186
          exact (ih46 w61 v67 (hsiL46.tr hsi61) (fun x hx => ((heq61 x (by omega)).trans (heqL46 x (by omega)))) (by first | assumption | omega | decide) (by first | assumption | omega | decide) hb189 (by
                intro t ht
                by_cases e : t = y7_46.toNatClampNeg
                · rw [e]
                  exact zU.mk0 hc61 hb190
                · exact (hZ t (by omega)).ag (fun x g1 g2 => heq61 x (by omega))) (by omega)).more (zfa1 rfl (zfa1 rfl (zfa1 rfl (zfa1 rfl (zfa1 rfl (zfa1 rfl (zfa1 rfl (zfa1 rfl (zfa0)))))))))
      have hl191 : (0 : Int32).toInt = 0 := by decide
      have hz192 : ((0 : Int32).toNatClampNeg : Int) = 0 := by decide
      exact (hL46 _ w7 0 zSI.rf (fun _ _ => rfl) (by first | assumption | omega | decide) (by first | assumption | omega | decide) hM7 (by
            exact fun t ht => absurd ht (by omega)) (Nat.lt_succ_self _)).more (zfa1 rfl (zfa1 rfl (zfa1 rfl (zfa1 rfl (zfa1 rfl (zfa1 rfl (zfa1 rfl (zfa1 rfl (zfa0)))))))))
