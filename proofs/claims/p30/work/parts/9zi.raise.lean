theorem zx_X16_raiseText_0 {m x : Nat} (h0 : m + 6316 ≤ x) (h1 : x < m + 6316 + 1170) : x < m ∨ m + 1 ≤ x := by omega
theorem zx_X16_raiseText_1 {m t : Nat} (h0 : (m + 83 ≤ t ∧ t + 9 ≤ m + 92) ∨ (m + 6316 ≤ t ∧ t + 9 ≤ m + 7594)) : m < t ∨ t + 9 ≤ m := by omega
theorem zx_X16_raiseText_2 {G3_0 m : Nat} (h0 : G3_0 + 16 ≤ 44) : m < m + 596 + 130 * G3_0 ∨ m + 596 + 130 * G3_0 + (5720 - 130 * G3_0) ≤ m := by omega
theorem zx_X16_raiseText_3 {m t : Nat} (h0 : (m + 83 ≤ t ∧ t + 9 ≤ m + 92) ∨ (m + 6316 ≤ t ∧ t + 9 ≤ m + 7594)) : m ≠ t := by omega
theorem zx_X16_raiseText_4 {m t : Nat} (h0 : (m + 83 ≤ t ∧ t + 9 ≤ m + 92) ∨ (m + 6316 ≤ t ∧ t + 9 ≤ m + 7594)) : (t + 1) ≠ t := by omega
theorem zx_X16_raiseText_5 {m t : Nat} (h0 : (m + 83 ≤ t ∧ t + 9 ≤ m + 92) ∨ (m + 6316 ≤ t ∧ t + 9 ≤ m + 7594)) : (t + 1) < t ∨ t + 1 ≤ (t + 1) := by omega
theorem zx_X16_raiseText_6 {m t : Nat} (h0 : (m + 83 ≤ t ∧ t + 9 ≤ m + 92) ∨ (m + 6316 ≤ t ∧ t + 9 ≤ m + 7594)) : (t + 2) ≠ t := by omega
theorem zx_X16_raiseText_7 {m t : Nat} (h0 : (m + 83 ≤ t ∧ t + 9 ≤ m + 92) ∨ (m + 6316 ≤ t ∧ t + 9 ≤ m + 7594)) : (t + 2) < t ∨ t + 1 ≤ (t + 2) := by omega
theorem zx_X16_raiseText_8 {m t : Nat} (h0 : (m + 83 ≤ t ∧ t + 9 ≤ m + 92) ∨ (m + 6316 ≤ t ∧ t + 9 ≤ m + 7594)) : (t + 3) ≠ t := by omega
theorem zx_X16_raiseText_9 {m t : Nat} (h0 : (m + 83 ≤ t ∧ t + 9 ≤ m + 92) ∨ (m + 6316 ≤ t ∧ t + 9 ≤ m + 7594)) : (t + 3) < t ∨ t + 1 ≤ (t + 3) := by omega
theorem zx_X16_raiseText_10 {m t : Nat} (h0 : (m + 83 ≤ t ∧ t + 9 ≤ m + 92) ∨ (m + 6316 ≤ t ∧ t + 9 ≤ m + 7594)) : (t + 4) ≠ t := by omega
theorem zx_X16_raiseText_11 {m t : Nat} (h0 : (m + 83 ≤ t ∧ t + 9 ≤ m + 92) ∨ (m + 6316 ≤ t ∧ t + 9 ≤ m + 7594)) : (t + 4) < t ∨ t + 1 ≤ (t + 4) := by omega
theorem zx_X16_raiseText_12 {m t : Nat} (h0 : (m + 83 ≤ t ∧ t + 9 ≤ m + 92) ∨ (m + 6316 ≤ t ∧ t + 9 ≤ m + 7594)) : (t + 5) ≠ t := by omega
theorem zx_X16_raiseText_13 {m t : Nat} (h0 : (m + 83 ≤ t ∧ t + 9 ≤ m + 92) ∨ (m + 6316 ≤ t ∧ t + 9 ≤ m + 7594)) : (t + 5) < t ∨ t + 1 ≤ (t + 5) := by omega
theorem zx_X16_raiseText_14 {m t : Nat} (h0 : (m + 83 ≤ t ∧ t + 9 ≤ m + 92) ∨ (m + 6316 ≤ t ∧ t + 9 ≤ m + 7594)) : (t + 6) ≠ t := by omega
theorem zx_X16_raiseText_15 {m t : Nat} (h0 : (m + 83 ≤ t ∧ t + 9 ≤ m + 92) ∨ (m + 6316 ≤ t ∧ t + 9 ≤ m + 7594)) : (t + 6) < t ∨ t + 1 ≤ (t + 6) := by omega
theorem zx_X16_raiseText_16 {m t : Nat} (h0 : (m + 83 ≤ t ∧ t + 9 ≤ m + 92) ∨ (m + 6316 ≤ t ∧ t + 9 ≤ m + 7594)) : (t + 7) ≠ t := by omega
theorem zx_X16_raiseText_17 {m t : Nat} (h0 : (m + 83 ≤ t ∧ t + 9 ≤ m + 92) ∨ (m + 6316 ≤ t ∧ t + 9 ≤ m + 7594)) : (t + 7) < t ∨ t + 1 ≤ (t + 7) := by omega
theorem zx_X16_raiseText_18 {m t : Nat} (h0 : (m + 83 ≤ t ∧ t + 9 ≤ m + 92) ∨ (m + 6316 ≤ t ∧ t + 9 ≤ m + 7594)) : (t + 8) ≠ t := by omega
theorem zx_X16_raiseText_19 {m t : Nat} (h0 : (m + 83 ≤ t ∧ t + 9 ≤ m + 92) ∨ (m + 6316 ≤ t ∧ t + 9 ≤ m + 7594)) : (t + 8) < t ∨ t + 1 ≤ (t + 8) := by omega
theorem zx_X16_raiseText_20 {m t : Nat} (h0 : (m + 83 ≤ t ∧ t + 9 ≤ m + 92) ∨ (m + 6316 ≤ t ∧ t + 9 ≤ m + 7594)) : m < t ∨ t + 1 ≤ m := by omega
theorem zx_X16_raiseText_21 {m t x : Nat} (h0 : x < t ∨ t + 9 ≤ x) (h1 : (m + 83 ≤ t ∧ t + 9 ≤ m + 92) ∨ (m + 6316 ≤ t ∧ t + 9 ≤ m + 7594)) : x ≠ t := by omega
theorem zx_X16_raiseText_22 {m t x : Nat} (h0 : x < t ∨ t + 9 ≤ x) (h1 : (m + 83 ≤ t ∧ t + 9 ≤ m + 92) ∨ (m + 6316 ≤ t ∧ t + 9 ≤ m + 7594)) : x < t ∨ t + 1 ≤ x := by omega
theorem zx_X16_raiseText_23 {G1_0 m : Nat} (h0 : G1_0 + 9 ≤ 160) : m < m + 276 + 2 * G1_0 ∨ m + 276 + 2 * G1_0 + (320 - 2 * G1_0) ≤ m := by omega
set_option maxHeartbeats 8000000 in
set_option maxRecDepth 100000 in
theorem c_X16_raiseText {w : zM} {g : Nat → Int32} {r : Nat → Value} {k : Int32} {g1 : Int32} {g3 : Int32} {g17 : Int32} {g18 : Int32} {g19 : Int32} (m : Nat) (t : Nat) (where9 : Int32) (hm : w m = some (.inl (15, zMo m g r))) (hR_m : zR m w) (hTi_t : zTi w t k) (hPl_m_6316 : zPil w (m + 6316)) (htp9 : ∃ j, j < 130 ∧ t = m + 6316 + 9 * j) (hut : 0 ≤ g1.toInt ∧ g1.toInt + 9 ≤ 160) (hbt : 0 ≤ g3.toInt ∧ g3.toInt + 16 ≤ 44) (hot : (m + 83 ≤ t ∧ t + 9 ≤ m + 92) ∨ (m + 6316 ≤ t ∧ t + 9 ≤ m + 7594)) (hk : k = 1 ∨ k = 2) (hln : (-3 ≤ g17.toInt ∧ g17.toInt ≤ 3) ∧ (-3 ≤ g18.toInt ∧ g18.toInt ≤ 3) ∧ (-50 ≤ g19.toInt ∧ g19.toInt ≤ 50)) (hg1 : g 1 = g1) (hg3 : g 3 = g3) (hg17 : g 17 = g17) (hg18 : g 18 = g18) (hg19 : g 19 = g19) : zConT 6 zq_X16_raiseText [.ref m, .ref t, .int where9] w (fun v9 w9' => ∃ K9 : Int32, zSI w w9' ∧ (∀ x, (x < m ∨ m + 1 ≤ x) ∧ (x < t ∨ t + 9 ≤ x) ∧ (x < m + 78 ∨ m + 78 + 1 ≤ x) ∧ (x < m + 276 + 2 * g1.toNatClampNeg ∨ m + 276 + 2 * g1.toNatClampNeg + (320 - 2 * g1.toNatClampNeg) ≤ x) ∧ (x < m + 596 + 130 * g3.toNatClampNeg ∨ m + 596 + 130 * g3.toNatClampNeg + (5720 - 130 * g3.toNatClampNeg) ≤ x) ∧ (x < m + 3 ∨ m + 3 + 1 ≤ x) ∧ (x < m + 5 ∨ m + 5 + 64 ≤ x) → w9' x = w x) ∧ w9' m = some (.inl (15, zMo m g r)) ∧ zTi w9' t K9 ∧ (K9 = 1 ∨ K9 = 2) ∧ zPil w9' (m + 6316) ∧ v9 = none) (fun w9' => ∃ G9 : Nat → Int32, zSI w w9' ∧ (∀ x, (x < m ∨ m + 1 ≤ x) ∧ (x < t ∨ t + 9 ≤ x) ∧ (x < m + 78 ∨ m + 78 + 1 ≤ x) ∧ (x < m + 276 + 2 * g1.toNatClampNeg ∨ m + 276 + 2 * g1.toNatClampNeg + (320 - 2 * g1.toNatClampNeg) ≤ x) ∧ (x < m + 596 + 130 * g3.toNatClampNeg ∨ m + 596 + 130 * g3.toNatClampNeg + (5720 - 130 * g3.toNatClampNeg) ≤ x) ∧ (x < m + 3 ∨ m + 3 + 1 ≤ x) ∧ (x < m + 5 ∨ m + 5 + 64 ≤ x) → w9' x = w x) ∧ w9' m = some (.inl (15, zMo m G9 r)) ∧ (zKp G9 g) ∧ zPil w9' (m + 6316)) := by
  subst hg1
  subst hg3
  subst hg17
  subst hg18
  subst hg19
  intro d sz hd
  obtain ⟨d, rfl⟩ : ∃ d9, d = d9 + 1 := ⟨d - 1, by omega⟩
  generalize hPost : (fun (r9' : Option (Option Value)) (w9' : zM) (z9 : Nat) => z9 = sz ∧ ((∃ v9, r9' = some v9 ∧ (∃ K9 : Int32, zSI w w9' ∧ (∀ x, (x < m ∨ m + 1 ≤ x) ∧ (x < t ∨ t + 9 ≤ x) ∧ (x < m + 78 ∨ m + 78 + 1 ≤ x) ∧ (x < m + 276 + 2 * (g 1).toNatClampNeg ∨ m + 276 + 2 * (g 1).toNatClampNeg + (320 - 2 * (g 1).toNatClampNeg) ≤ x) ∧ (x < m + 596 + 130 * (g 3).toNatClampNeg ∨ m + 596 + 130 * (g 3).toNatClampNeg + (5720 - 130 * (g 3).toNatClampNeg) ≤ x) ∧ (x < m + 3 ∨ m + 3 + 1 ≤ x) ∧ (x < m + 5 ∨ m + 5 + 64 ≤ x) → w9' x = w x) ∧ w9' m = some (.inl (15, zMo m g r)) ∧ zTi w9' t K9 ∧ (K9 = 1 ∨ K9 = 2) ∧ zPil w9' (m + 6316) ∧ v9 = none)) ∨ (r9' = none ∧ (∃ G9 : Nat → Int32, zSI w w9' ∧ (∀ x, (x < m ∨ m + 1 ≤ x) ∧ (x < t ∨ t + 9 ≤ x) ∧ (x < m + 78 ∨ m + 78 + 1 ≤ x) ∧ (x < m + 276 + 2 * (g 1).toNatClampNeg ∨ m + 276 + 2 * (g 1).toNatClampNeg + (320 - 2 * (g 1).toNatClampNeg) ≤ x) ∧ (x < m + 596 + 130 * (g 3).toNatClampNeg ∨ m + 596 + 130 * (g 3).toNatClampNeg + (5720 - 130 * (g 3).toNatClampNeg) ≤ x) ∧ (x < m + 3 ∨ m + 3 + 1 ≤ x) ∧ (x < m + 5 ∨ m + 5 + 64 ≤ x) → w9' x = w x) ∧ w9' m = some (.inl (15, zMo m G9 r)) ∧ (zKp G9 g) ∧ zPil w9' (m + 6316))))) = Post
  show zP (d + 1) zq_X16_raiseText 0 [(0, .ref m), (1, .ref t), (2, .int where9)] [] w sz 0 0 Post
  have k1 := zrng where9
  have k2 := zrng (g 1)
  have hz3 : ((g 1).toNatClampNeg : Int) = (g 1).toInt := znat (by first | omega | decide)
  have hgb1 : (g 1).toNatClampNeg + 9 ≤ 160 := by omega
  have k4 := zrng (g 3)
  have hz5 : ((g 3).toNatClampNeg : Int) = (g 3).toInt := znat (by first | omega | decide)
  have hgb3 : (g 3).toNatClampNeg + 16 ≤ 44 := by omega
  obtain ⟨g1, fn1, fd1, fa1, fb1, fc1, fe1, fr1, fu1, hT1, hAn1, hAd1, hAa1, hAb1, hAc1, hAe1, hAr1, hAu1, hK1⟩ := id hTi_t
  obtain ⟨hK10, hKn1, hKd1, hKx1, hKm1, hKl1, hKr1, hKu1, hKk1⟩ := id hK1
  refine zp_seg (pc' := 1) (lv' := [(0, .ref m), (1, .ref t), (2, .int where9)]) (st' := [.ref m]) [(0, .aload_n 0)] (by decide +kernel) rfl ?_
  refine zr_get (idx := 393) (k := 17) (v := .int (g 17)) (by decide +kernel) (by decide +kernel) hm rfl ?_
  refine zp_if (i := .ifCond .ne 51) (c := ¬ (g 17) = 0) (t := 55) (e := 7) (lv' := [(0, .ref m), (1, .ref t), (2, .int where9)]) (st' := []) (by decide +kernel) rfl (fun cc4 => ?_) (fun cc4 => ?_)
  ·
    have k6 := zrng (g 17)
    have f8 := zneI cc4
    rw [show (0 : Int32).toInt = 0 from by decide] at f8
    refine zp_seg (pc' := 56) (lv' := [(0, .ref m), (1, .ref t), (2, .int where9)]) (st' := [.ref t]) [(55, .aload_n 1)] (by decide +kernel) rfl ?_
    refine zr_get (idx := 202) (k := 0) (v := .int (g1 0)) (by decide +kernel) (by decide +kernel) hT1 rfl ?_
    refine zp_seg (pc' := 60) (lv' := [(0, .ref m), (1, .ref t), (2, .int where9)]) (st' := [.int 2, .int (g1 0)]) [(59, .iconst 2)] (by decide +kernel) rfl ?_
    refine zp_if (i := .if_icmp .eq 10) (c := (g1 0) = 2) (t := 70) (e := 63) (lv' := [(0, .ref m), (1, .ref t), (2, .int where9)]) (st' := []) (by decide +kernel) rfl (fun cc60 => ?_) (fun cc60 => ?_)
    ·
      have k9 := zrng (g1 0)
      have f11 := zeqI cc60
      rw [show (2 : Int32).toInt = 2 from by decide] at f11
      refine zp_seg (pc' := 73) (lv' := [(0, .ref m), (1, .ref t), (2, .int where9)]) (st' := [.int where9, .int 2, .ref m]) [(70, .aload_n 0), (71, .iconst 2), (72, .iload_n 2)] (by decide +kernel) rfl ?_
      refine zr_callV (idx := 346) (j := 318) (by decide +kernel) (by decide +kernel) (show zMe 318 = some zq_X16_fail from rfl) rfl rfl (Nat.le_of_ble_eq_true rfl) rfl rfl hm (Nat.le_of_ble_eq_true rfl) (Nat.le_of_ble_eq_true rfl) (c_X16_fail (w := w) m 2 where9 hm hR_m) (by omega) (fun v73 w73 hp73 => ?_)
      obtain ⟨hsi73, heq73, hp73_0, rfl⟩ := hp73
      have hM73 : w73 m = some (.inl (15, zMo m (zs (zs g 9 2) 10 where9) r)) := hp73_0
      show zP _ _ _ _ [.ref (m + 79)] _ _ _ _ _
      have hb12 := hR_m.si hsi73
      obtain ⟨fs9, hst9⟩ := hb12.stop
      refine zr_thr (by decide +kernel) hst9 ?_
      have hb13 : zPil w73 (m + 6316) := hPl_m_6316.ag (fun x hx1 hx2 => (heq73 x (zx_X16_raiseText_0 hx1 hx2)))
      rw [← hPost]; exact ⟨rfl, Or.inr ⟨rfl, (zs (zs g 9 2) 10 where9), hsi73, (fun x hx => (heq73 x hx.1)), hM73, (by
            first | exact hx9_1 | exact ⟨rfl, rfl, rfl, rfl⟩), hb13⟩⟩
    ·
      have k14 := zrng (g1 0)
      have f16 := zneI cc60
      rw [show (2 : Int32).toInt = 2 from by decide] at f16
      refine zp_seg (pc' := 64) (lv' := [(0, .ref m), (1, .ref t), (2, .int where9)]) (st' := [.ref t]) [(63, .aload_n 1)] (by decide +kernel) rfl ?_
      refine zr_callS (idx := 421) (j := 308) (by decide +kernel) (by decide +kernel) (by decide) (show zMe 308 = some zq_X16_isNumber from rfl) rfl rfl (Nat.le_of_ble_eq_true rfl) rfl rfl (Nat.le_of_ble_eq_true rfl) (Nat.le_of_ble_eq_true rfl) (c_X16_isNumber (w := w) t hT1 hAn1 hAd1) (by omega) (fun v64 w64 hp64 => ?_)
      obtain ⟨hpw64, r64, rfl, hrb64, hr64⟩ := hp64
      replace hpw64 := hpw64.symm
      subst hpw64
      have kr64 := zrng r64
      show zP _ _ _ _ [.int r64] _ _ _ _ _
      refine zp_if (i := .ifCond .ne 10) (c := ¬ r64 = 0) (t := 77) (e := 70) (lv' := [(0, .ref m), (1, .ref t), (2, .int where9)]) (st' := []) (by decide +kernel) rfl (fun cc67 => ?_) (fun cc67 => ?_)
      ·
        have f17 := zneI cc67
        rw [show (0 : Int32).toInt = 0 from by decide] at f17
        refine zp_seg (pc' := 78) (lv' := [(0, .ref m), (1, .ref t), (2, .int where9)]) (st' := [.ref t]) [(77, .aload_n 1)] (by decide +kernel) rfl ?_
        refine zr_get (idx := 207) (k := 1) (v := .ref (t + 1)) (by decide +kernel) (by decide +kernel) hT1 rfl ?_
        refine zp_seg (pc' := 82) (lv' := [(0, .ref m), (1, .ref t), (2, .int where9)]) (st' := [.int 0, .ref (t + 1)]) [(81, .iconst 0)] (by decide +kernel) rfl ?_
        have hl18 : (0 : Int32).toInt = 0 := by decide
        refine zr_iald (by decide +kernel) hAn1 (zin (by decide) (by decide)) ?_
        have hz19 : ((0 : Int32).toNatClampNeg : Int) = 0 := by decide
        obtain ⟨x82, ex82⟩ : ∃ x9, x9 = fn1 ((0 : Int32).toNatClampNeg) := ⟨_, rfl⟩
        rw [← ex82]
        have kx82 := zrng x82
        have hu9 : zr1 x82 := by rw [ex82]; exact hKn1 0 (by decide)
        refine zp_seg (pc' := 85) (lv' := [(3, .int x82), (0, .ref m), (1, .ref t), (2, .int where9)]) (st' := [.int x82]) [(83, .istore_n 3), (84, .iload_n 3)] (by decide +kernel) rfl ?_
        refine zp_if (i := .ifCond .ne 10) (c := ¬ x82 = 0) (t := 95) (e := 88) (lv' := [(3, .int x82), (0, .ref m), (1, .ref t), (2, .int where9)]) (st' := []) (by decide +kernel) rfl (fun cc85 => ?_) (fun cc85 => ?_)
        ·
          have f20 := zneI cc85
          rw [show (0 : Int32).toInt = 0 from by decide] at f20
          have hu8 : zr1 x82 ∧ x82 ≠ 0 := ⟨hu9, cc85⟩
          refine zp_seg (pc' := 99) (lv' := [(3, .int x82), (0, .ref m), (1, .ref t), (2, .int where9)]) (st' := [.ref m, .int x82, .ref t, .ref m]) [(95, .aload_n 0), (96, .aload_n 1), (97, .iload_n 3), (98, .aload_n 0)] (by decide +kernel) rfl ?_
          refine zr_get (idx := 399) (k := 19) (v := .int (g 19)) (by decide +kernel) (by decide +kernel) hm rfl ?_
          have k21 := zrng (g 19)
          refine zr_callS (idx := 317) (j := 262) (by decide +kernel) (by decide +kernel) (by decide) (show zMe 262 = some zq_X16_power from rfl) rfl rfl (Nat.le_of_ble_eq_true rfl) rfl rfl (Nat.le_of_ble_eq_true rfl) (Nat.le_of_ble_eq_true rfl) (c_X16_power (w := w) x82 (g 19) (by exact hu8.1)) (by omega) (fun v102 w102 hp102 => ?_)
          obtain ⟨hpw102, r102, rfl, hr102⟩ := hp102
          replace hpw102 := hpw102.symm
          subst hpw102
          have kr102 := zrng r102
          show zP _ _ _ _ [.int r102, .ref t, .ref m] _ _ _ _ _
          refine zr_callV (idx := 292) (j := 305) (by decide +kernel) (by decide +kernel) (show zMe 305 = some zq_X16_number from rfl) rfl rfl (Nat.le_of_ble_eq_true rfl) rfl rfl hm (Nat.le_of_ble_eq_true rfl) (Nat.le_of_ble_eq_true rfl) (c_X16_numberZ (w := w) (g3 := (g 3)) m t r102 hm hR_m hTi_t (by first | omega | decide | assumption | exact zr1_1 | exact zr1_0 | fail "num") (by exact hr102.1) (by first | omega | decide | assumption | exact zr1_1 | exact zr1_0 | fail "num") rfl) (by omega) (fun v105 w105 hp105 => ?_)
          obtain ⟨hsi105, heq105, hp105_0, hp105_1, rfl⟩ := hp105
          show zP _ _ _ _ [] _ _ _ _ _
          have hpw9 := hr102.2
          obtain ⟨g2, fn2, fd2, fa2, fb2, fc2, fe2, fr2, fu2, hT2, hAn2, hAd2, hAa2, hAb2, hAc2, hAe2, hAr2, hAu2, hK2⟩ := id hp105_0
          obtain ⟨hK20, hKn2, hKd2, hKx2, hKm2, hKl2, hKr2, hKu2, hKk2⟩ := id hK2
          refine zp_seg (pc' := 111) (lv' := [(3, .int x82), (0, .ref m), (1, .ref t), (2, .int where9)]) (st' := [.ref m, .int x82, .ref t]) [(108, .aload_n 1), (109, .iload_n 3), (110, .aload_n 0)] (by decide +kernel) rfl ?_
          have hb22 : w105 m = some (.inl (15, zMo m g r)) := (heq105 m ⟨(zx_X16_raiseText_1 hot), (zx_X16_raiseText_2 hgb3)⟩).trans hm
          refine zr_get (idx := 393) (k := 17) (v := .int (g 17)) (by decide +kernel) (by decide +kernel) hb22 rfl ?_
          refine zr_callS (idx := 317) (j := 262) (by decide +kernel) (by decide +kernel) (by decide) (show zMe 262 = some zq_X16_power from rfl) rfl rfl (Nat.le_of_ble_eq_true rfl) rfl rfl (Nat.le_of_ble_eq_true rfl) (Nat.le_of_ble_eq_true rfl) (c_X16_power (w := w105) x82 (g 17) (by exact hu8.1)) (by omega) (fun v114 w114 hp114 => ?_)
          obtain ⟨hpw114, r114, rfl, hr114⟩ := hp114
          replace hpw114 := hpw114.symm
          subst hpw114
          have kr114 := zrng r114
          show zP _ _ _ _ [.int r114, .ref t] _ _ _ _ _
          refine zr_put2 (idx := 213) (k := 3) (fs2 := zTo t (zs g2 3 r114)) (by decide +kernel) (by decide +kernel) hT2 (Nat.le_of_ble_eq_true rfl) rfl rfl rfl ?_
          show zP (d + 1) zq_X16_raiseText 120 [(3, .int x82), (0, .ref m), (1, .ref t), (2, .int where9)] [] (zup w105 t (.inl (13, zTo t (zs g2 3 r114)))) sz 0 0 Post
          obtain ⟨w117, ew117⟩ : ∃ wz9, wz9 = zup w105 t (.inl (13, zTo t (zs g2 3 r114))) := ⟨_, rfl⟩
          have hsi117 : zSI w105 w117 := by rw [ew117]; exact zSI.setT hT2 _
          have heq117 : ∀ x, x ≠ t → w117 x = w105 x := fun x hx => by rw [ew117]; exact zup_n hx
          have hc117 : w117 t = some (.inl (13, zTo t (zs g2 3 r114))) := by rw [ew117]; exact zup_s
          rw [← ew117]
          clear ew117
          refine zp_seg (pc' := 123) (lv' := [(3, .int x82), (0, .ref m), (1, .ref t), (2, .int where9)]) (st' := [.ref m, .int x82, .ref t]) [(120, .aload_n 1), (121, .iload_n 3), (122, .aload_n 0)] (by decide +kernel) rfl ?_
          have hb23 : w117 m = some (.inl (15, zMo m g r)) := (heq117 m (zx_X16_raiseText_3 hot)).trans hb22
          refine zr_get (idx := 396) (k := 18) (v := .int (g 18)) (by decide +kernel) (by decide +kernel) hb23 rfl ?_
          have k24 := zrng (g 18)
          refine zr_callS (idx := 317) (j := 262) (by decide +kernel) (by decide +kernel) (by decide) (show zMe 262 = some zq_X16_power from rfl) rfl rfl (Nat.le_of_ble_eq_true rfl) rfl rfl (Nat.le_of_ble_eq_true rfl) (Nat.le_of_ble_eq_true rfl) (c_X16_power (w := w117) x82 (g 18) (by exact hu8.1)) (by omega) (fun v126 w126 hp126 => ?_)
          obtain ⟨hpw126, r126, rfl, hr126⟩ := hp126
          replace hpw126 := hpw126.symm
          subst hpw126
          have kr126 := zrng r126
          show zP _ _ _ _ [.int r126, .ref t] _ _ _ _ _
          refine zr_put2 (idx := 216) (k := 4) (fs2 := zTo t (zs (zs g2 3 r114) 4 r126)) (by decide +kernel) (by decide +kernel) hc117 (Nat.le_of_ble_eq_true rfl) rfl rfl rfl ?_
          show zP (d + 1) zq_X16_raiseText 132 [(3, .int x82), (0, .ref m), (1, .ref t), (2, .int where9)] [] (zup w117 t (.inl (13, zTo t (zs (zs g2 3 r114) 4 r126)))) sz 0 0 Post
          obtain ⟨w129, ew129⟩ : ∃ wz9, wz9 = zup w117 t (.inl (13, zTo t (zs (zs g2 3 r114) 4 r126))) := ⟨_, rfl⟩
          have hsi129 : zSI w117 w129 := by rw [ew129]; exact zSI.setT hc117 _
          have heq129 : ∀ x, x ≠ t → w129 x = w117 x := fun x hx => by rw [ew129]; exact zup_n hx
          have hc129 : w129 t = some (.inl (13, zTo t (zs (zs g2 3 r114) 4 r126))) := by rw [ew129]; exact zup_s
          rw [← ew129]
          clear ew129
          refine zp_seg (pc' := 133) (lv' := [(3, .int x82), (0, .ref m), (1, .ref t), (2, .int where9)]) (st' := [.ref t]) [(132, .aload_n 1)] (by decide +kernel) rfl ?_
          refine zr_callS (idx := 307) (j := 312) (by decide +kernel) (by decide +kernel) (by decide) (show zMe 312 = some zq_X16_name from rfl) rfl rfl (Nat.le_of_ble_eq_true rfl) rfl rfl (Nat.le_of_ble_eq_true rfl) (Nat.le_of_ble_eq_true rfl) (c_X16_name (w := w129) t hc129) (by omega) (fun v133 w133 hp133 => ?_)
          obtain ⟨K9_133, hsi133, heq133, hp133_0, hp133_1, rfl⟩ := hp133
          have hT133 : w133 t = some (.inl (13, zTo t (zs (zs (zs g2 0 K9_133) 3 r114) 4 r126))) := hp133_0
          show zP _ _ _ _ [] _ _ _ _ _
          have hkk9 := hp133_1
          have hxx9 : r114 ≠ 0 ∧ r126 ≠ 0 := ⟨fun e => hr114.2 (zf_nz hu8.1 hu8.2) (by rw [e]; exact zf_0), fun e => hr126.2 (zf_nz hu8.1 hu8.2) (by rw [e]; exact zf_0)⟩
          have hnn9 := zNz_of (hp105_1 (fun e => hr102.2 (zf_nz hu8.1 hu8.2) (by rw [e]; exact zf_0))) hAn2
          have hb25 : w133 (t + 1) = some (.inr (0, 325, .inl fn2)) := ((heq133 (t + 1) (zx_X16_raiseText_5 hot)).trans ((heq129 (t + 1) (zx_X16_raiseText_4 hot)).trans (heq117 (t + 1) (zx_X16_raiseText_4 hot)))).trans hAn2
          have hb26 : w133 (t + 2) = some (.inr (0, 325, .inl fd2)) := ((heq133 (t + 2) (zx_X16_raiseText_7 hot)).trans ((heq129 (t + 2) (zx_X16_raiseText_6 hot)).trans (heq117 (t + 2) (zx_X16_raiseText_6 hot)))).trans hAd2
          have hb27 : w133 (t + 3) = some (.inr (0, 13, .inl fa2)) := ((heq133 (t + 3) (zx_X16_raiseText_9 hot)).trans ((heq129 (t + 3) (zx_X16_raiseText_8 hot)).trans (heq117 (t + 3) (zx_X16_raiseText_8 hot)))).trans hAa2
          have hb28 : w133 (t + 4) = some (.inr (0, 13, .inl fb2)) := ((heq133 (t + 4) (zx_X16_raiseText_11 hot)).trans ((heq129 (t + 4) (zx_X16_raiseText_10 hot)).trans (heq117 (t + 4) (zx_X16_raiseText_10 hot)))).trans hAb2
          have hb29 : w133 (t + 5) = some (.inr (0, 13, .inl fc2)) := ((heq133 (t + 5) (zx_X16_raiseText_13 hot)).trans ((heq129 (t + 5) (zx_X16_raiseText_12 hot)).trans (heq117 (t + 5) (zx_X16_raiseText_12 hot)))).trans hAc2
          have hb30 : w133 (t + 6) = some (.inr (0, 13, .inl fe2)) := ((heq133 (t + 6) (zx_X16_raiseText_15 hot)).trans ((heq129 (t + 6) (zx_X16_raiseText_14 hot)).trans (heq117 (t + 6) (zx_X16_raiseText_14 hot)))).trans hAe2
          have hb31 : w133 (t + 7) = some (.inr (0, 175, .inl fr2)) := ((heq133 (t + 7) (zx_X16_raiseText_17 hot)).trans ((heq129 (t + 7) (zx_X16_raiseText_16 hot)).trans (heq117 (t + 7) (zx_X16_raiseText_16 hot)))).trans hAr2
          have hb32 : w133 (t + 8) = some (.inr (0, 361, .inl fu2)) := ((heq133 (t + 8) (zx_X16_raiseText_19 hot)).trans ((heq129 (t + 8) (zx_X16_raiseText_18 hot)).trans (heq117 (t + 8) (zx_X16_raiseText_18 hot)))).trans hAu2
          have hTi9 : zTi w133 (t) K9_133 := ⟨_, _, _, _, _, _, _, _, _, hT133, hb25, hb26, hb27, hb28, hb29, hb30, hb31, hb32, ⟨rfl, hKn2, hKd2, ⟨hr114.1, hr126.1⟩, hKm2, hKl2, hKr2, hKu2, zKk_12 hkk9 (hKk2.2.1 (Or.inl rfl)) (fun _ => hnn9) hxx9⟩⟩
          have hPl136 := hPl_m_6316.upt (w' := w133) htp9 hTi9 (fun x h1 h2 h3 => ((heq133 x (by omega)).trans ((heq129 x (by omega)).trans ((heq117 x (by omega)).trans (heq105 x (by omega))))))
          have hb33 : w133 m = some (.inl (15, zMo m g r)) := ((heq133 m (zx_X16_raiseText_20 hot)).trans (heq129 m (zx_X16_raiseText_3 hot))).trans hb23
          have hoffend : ∀ x, (x < m ∨ m + 1 ≤ x) ∧ (x < t ∨ t + 9 ≤ x) ∧ (x < m + 78 ∨ m + 78 + 1 ≤ x) ∧ (x < m + 276 + 2 * (g 1).toNatClampNeg ∨ m + 276 + 2 * (g 1).toNatClampNeg + (320 - 2 * (g 1).toNatClampNeg) ≤ x) ∧ (x < m + 596 + 130 * (g 3).toNatClampNeg ∨ m + 596 + 130 * (g 3).toNatClampNeg + (5720 - 130 * (g 3).toNatClampNeg) ≤ x) ∧ (x < m + 3 ∨ m + 3 + 1 ≤ x) ∧ (x < m + 5 ∨ m + 5 + 64 ≤ x) → w133 x = w x := fun x hx => ((heq133 x (zx_X16_raiseText_22 hx.2.1 hot)).trans ((heq129 x (zx_X16_raiseText_21 hx.2.1 hot)).trans ((heq117 x (zx_X16_raiseText_21 hx.2.1 hot)).trans (heq105 x ⟨hx.2.1, hx.2.2.2.2.1⟩))))
          refine zr_retV (by decide +kernel) rfl ?_
          rw [← hPost]; exact ⟨rfl, Or.inl ⟨_, rfl, K9_133, (((hsi105.tr hsi117).tr hsi129).tr hsi133), hoffend, hb33, (by first | exact hTi9 | (have z9 := hTi9; simpa using z9)), (by
                first | exact hp41_1 | exact hp133_1), hPl136, rfl⟩⟩
        ·
          replace cc85 := Classical.not_not.mp cc85
          have f34 := zeqI cc85
          rw [show (0 : Int32).toInt = 0 from by decide] at f34
          refine zp_seg (pc' := 91) (lv' := [(3, .int x82), (0, .ref m), (1, .ref t), (2, .int where9)]) (st' := [.int where9, .int 3, .ref m]) [(88, .aload_n 0), (89, .iconst 3), (90, .iload_n 2)] (by decide +kernel) rfl ?_
          refine zr_callV (idx := 346) (j := 318) (by decide +kernel) (by decide +kernel) (show zMe 318 = some zq_X16_fail from rfl) rfl rfl (Nat.le_of_ble_eq_true rfl) rfl rfl hm (Nat.le_of_ble_eq_true rfl) (Nat.le_of_ble_eq_true rfl) (c_X16_fail (w := w) m 3 where9 hm hR_m) (by omega) (fun v91 w91 hp91 => ?_)
          obtain ⟨hsi91, heq91, hp91_0, rfl⟩ := hp91
          have hM91 : w91 m = some (.inl (15, zMo m (zs (zs g 9 3) 10 where9) r)) := hp91_0
          show zP _ _ _ _ [.ref (m + 79)] _ _ _ _ _
          have hb35 := hR_m.si hsi91
          obtain ⟨fs9, hst9⟩ := hb35.stop
          refine zr_thr (by decide +kernel) hst9 ?_
          have hb36 : zPil w91 (m + 6316) := hPl_m_6316.ag (fun x hx1 hx2 => (heq91 x (zx_X16_raiseText_0 hx1 hx2)))
          rw [← hPost]; exact ⟨rfl, Or.inr ⟨rfl, (zs (zs g 9 3) 10 where9), hsi91, (fun x hx => (heq91 x hx.1)), hM91, (by
                first | exact hx9_1 | exact ⟨rfl, rfl, rfl, rfl⟩), hb36⟩⟩
      ·
        replace cc67 := Classical.not_not.mp cc67
        have f37 := zeqI cc67
        rw [show (0 : Int32).toInt = 0 from by decide] at f37
        refine zp_seg (pc' := 73) (lv' := [(0, .ref m), (1, .ref t), (2, .int where9)]) (st' := [.int where9, .int 2, .ref m]) [(70, .aload_n 0), (71, .iconst 2), (72, .iload_n 2)] (by decide +kernel) rfl ?_
        refine zr_callV (idx := 346) (j := 318) (by decide +kernel) (by decide +kernel) (show zMe 318 = some zq_X16_fail from rfl) rfl rfl (Nat.le_of_ble_eq_true rfl) rfl rfl hm (Nat.le_of_ble_eq_true rfl) (Nat.le_of_ble_eq_true rfl) (c_X16_fail (w := w) m 2 where9 hm hR_m) (by omega) (fun v73 w73 hp73 => ?_)
        obtain ⟨hsi73, heq73, hp73_0, rfl⟩ := hp73
        have hM73 : w73 m = some (.inl (15, zMo m (zs (zs g 9 2) 10 where9) r)) := hp73_0
        show zP _ _ _ _ [.ref (m + 79)] _ _ _ _ _
        have hb38 := hR_m.si hsi73
        obtain ⟨fs9, hst9⟩ := hb38.stop
        refine zr_thr (by decide +kernel) hst9 ?_
        have hb39 : zPil w73 (m + 6316) := hPl_m_6316.ag (fun x hx1 hx2 => (heq73 x (zx_X16_raiseText_0 hx1 hx2)))
        rw [← hPost]; exact ⟨rfl, Or.inr ⟨rfl, (zs (zs g 9 2) 10 where9), hsi73, (fun x hx => (heq73 x hx.1)), hM73, (by
              first | exact hx9_1 | exact ⟨rfl, rfl, rfl, rfl⟩), hb39⟩⟩
  ·
    replace cc4 := Classical.not_not.mp cc4
    have k40 := zrng (g 17)
    have f42 := zeqI cc4
    rw [show (0 : Int32).toInt = 0 from by decide] at f42
    refine zp_seg (pc' := 8) (lv' := [(0, .ref m), (1, .ref t), (2, .int where9)]) (st' := [.ref m]) [(7, .aload_n 0)] (by decide +kernel) rfl ?_
    refine zr_get (idx := 396) (k := 18) (v := .int (g 18)) (by decide +kernel) (by decide +kernel) hm rfl ?_
    refine zp_if (i := .ifCond .ne 44) (c := ¬ (g 18) = 0) (t := 55) (e := 14) (lv' := [(0, .ref m), (1, .ref t), (2, .int where9)]) (st' := []) (by decide +kernel) rfl (fun cc11 => ?_) (fun cc11 => ?_)
    ·
      have k43 := zrng (g 18)
      have f44 := zneI cc11
      rw [show (0 : Int32).toInt = 0 from by decide] at f44
      refine zp_seg (pc' := 56) (lv' := [(0, .ref m), (1, .ref t), (2, .int where9)]) (st' := [.ref t]) [(55, .aload_n 1)] (by decide +kernel) rfl ?_
      refine zr_get (idx := 202) (k := 0) (v := .int (g1 0)) (by decide +kernel) (by decide +kernel) hT1 rfl ?_
      refine zp_seg (pc' := 60) (lv' := [(0, .ref m), (1, .ref t), (2, .int where9)]) (st' := [.int 2, .int (g1 0)]) [(59, .iconst 2)] (by decide +kernel) rfl ?_
      refine zp_if (i := .if_icmp .eq 10) (c := (g1 0) = 2) (t := 70) (e := 63) (lv' := [(0, .ref m), (1, .ref t), (2, .int where9)]) (st' := []) (by decide +kernel) rfl (fun cc60 => ?_) (fun cc60 => ?_)
      ·
        have k45 := zrng (g1 0)
        have f47 := zeqI cc60
        rw [show (2 : Int32).toInt = 2 from by decide] at f47
        refine zp_seg (pc' := 73) (lv' := [(0, .ref m), (1, .ref t), (2, .int where9)]) (st' := [.int where9, .int 2, .ref m]) [(70, .aload_n 0), (71, .iconst 2), (72, .iload_n 2)] (by decide +kernel) rfl ?_
        refine zr_callV (idx := 346) (j := 318) (by decide +kernel) (by decide +kernel) (show zMe 318 = some zq_X16_fail from rfl) rfl rfl (Nat.le_of_ble_eq_true rfl) rfl rfl hm (Nat.le_of_ble_eq_true rfl) (Nat.le_of_ble_eq_true rfl) (c_X16_fail (w := w) m 2 where9 hm hR_m) (by omega) (fun v73 w73 hp73 => ?_)
        obtain ⟨hsi73, heq73, hp73_0, rfl⟩ := hp73
        have hM73 : w73 m = some (.inl (15, zMo m (zs (zs g 9 2) 10 where9) r)) := hp73_0
        show zP _ _ _ _ [.ref (m + 79)] _ _ _ _ _
        have hb48 := hR_m.si hsi73
        obtain ⟨fs9, hst9⟩ := hb48.stop
        refine zr_thr (by decide +kernel) hst9 ?_
        have hb49 : zPil w73 (m + 6316) := hPl_m_6316.ag (fun x hx1 hx2 => (heq73 x (zx_X16_raiseText_0 hx1 hx2)))
        rw [← hPost]; exact ⟨rfl, Or.inr ⟨rfl, (zs (zs g 9 2) 10 where9), hsi73, (fun x hx => (heq73 x hx.1)), hM73, (by
              first | exact hx9_1 | exact ⟨rfl, rfl, rfl, rfl⟩), hb49⟩⟩
      ·
        have k50 := zrng (g1 0)
        have f52 := zneI cc60
        rw [show (2 : Int32).toInt = 2 from by decide] at f52
        refine zp_seg (pc' := 64) (lv' := [(0, .ref m), (1, .ref t), (2, .int where9)]) (st' := [.ref t]) [(63, .aload_n 1)] (by decide +kernel) rfl ?_
        refine zr_callS (idx := 421) (j := 308) (by decide +kernel) (by decide +kernel) (by decide) (show zMe 308 = some zq_X16_isNumber from rfl) rfl rfl (Nat.le_of_ble_eq_true rfl) rfl rfl (Nat.le_of_ble_eq_true rfl) (Nat.le_of_ble_eq_true rfl) (c_X16_isNumber (w := w) t hT1 hAn1 hAd1) (by omega) (fun v64 w64 hp64 => ?_)
        obtain ⟨hpw64, r64, rfl, hrb64, hr64⟩ := hp64
        replace hpw64 := hpw64.symm
        subst hpw64
        have kr64 := zrng r64
        show zP _ _ _ _ [.int r64] _ _ _ _ _
        refine zp_if (i := .ifCond .ne 10) (c := ¬ r64 = 0) (t := 77) (e := 70) (lv' := [(0, .ref m), (1, .ref t), (2, .int where9)]) (st' := []) (by decide +kernel) rfl (fun cc67 => ?_) (fun cc67 => ?_)
        ·
          have f53 := zneI cc67
          rw [show (0 : Int32).toInt = 0 from by decide] at f53
          refine zp_seg (pc' := 78) (lv' := [(0, .ref m), (1, .ref t), (2, .int where9)]) (st' := [.ref t]) [(77, .aload_n 1)] (by decide +kernel) rfl ?_
          refine zr_get (idx := 207) (k := 1) (v := .ref (t + 1)) (by decide +kernel) (by decide +kernel) hT1 rfl ?_
          refine zp_seg (pc' := 82) (lv' := [(0, .ref m), (1, .ref t), (2, .int where9)]) (st' := [.int 0, .ref (t + 1)]) [(81, .iconst 0)] (by decide +kernel) rfl ?_
          have hl54 : (0 : Int32).toInt = 0 := by decide
          refine zr_iald (by decide +kernel) hAn1 (zin (by decide) (by decide)) ?_
          have hz55 : ((0 : Int32).toNatClampNeg : Int) = 0 := by decide
          obtain ⟨x82, ex82⟩ : ∃ x9, x9 = fn1 ((0 : Int32).toNatClampNeg) := ⟨_, rfl⟩
          rw [← ex82]
          have kx82 := zrng x82
          have hu9 : zr1 x82 := by rw [ex82]; exact hKn1 0 (by decide)
          refine zp_seg (pc' := 85) (lv' := [(3, .int x82), (0, .ref m), (1, .ref t), (2, .int where9)]) (st' := [.int x82]) [(83, .istore_n 3), (84, .iload_n 3)] (by decide +kernel) rfl ?_
          refine zp_if (i := .ifCond .ne 10) (c := ¬ x82 = 0) (t := 95) (e := 88) (lv' := [(3, .int x82), (0, .ref m), (1, .ref t), (2, .int where9)]) (st' := []) (by decide +kernel) rfl (fun cc85 => ?_) (fun cc85 => ?_)
          ·
            have f56 := zneI cc85
            rw [show (0 : Int32).toInt = 0 from by decide] at f56
            have hu8 : zr1 x82 ∧ x82 ≠ 0 := ⟨hu9, cc85⟩
            refine zp_seg (pc' := 99) (lv' := [(3, .int x82), (0, .ref m), (1, .ref t), (2, .int where9)]) (st' := [.ref m, .int x82, .ref t, .ref m]) [(95, .aload_n 0), (96, .aload_n 1), (97, .iload_n 3), (98, .aload_n 0)] (by decide +kernel) rfl ?_
            refine zr_get (idx := 399) (k := 19) (v := .int (g 19)) (by decide +kernel) (by decide +kernel) hm rfl ?_
            have k57 := zrng (g 19)
            refine zr_callS (idx := 317) (j := 262) (by decide +kernel) (by decide +kernel) (by decide) (show zMe 262 = some zq_X16_power from rfl) rfl rfl (Nat.le_of_ble_eq_true rfl) rfl rfl (Nat.le_of_ble_eq_true rfl) (Nat.le_of_ble_eq_true rfl) (c_X16_power (w := w) x82 (g 19) (by exact hu8.1)) (by omega) (fun v102 w102 hp102 => ?_)
            obtain ⟨hpw102, r102, rfl, hr102⟩ := hp102
            replace hpw102 := hpw102.symm
            subst hpw102
            have kr102 := zrng r102
            show zP _ _ _ _ [.int r102, .ref t, .ref m] _ _ _ _ _
            refine zr_callV (idx := 292) (j := 305) (by decide +kernel) (by decide +kernel) (show zMe 305 = some zq_X16_number from rfl) rfl rfl (Nat.le_of_ble_eq_true rfl) rfl rfl hm (Nat.le_of_ble_eq_true rfl) (Nat.le_of_ble_eq_true rfl) (c_X16_numberZ (w := w) (g3 := (g 3)) m t r102 hm hR_m hTi_t (by first | omega | decide | assumption | exact zr1_1 | exact zr1_0 | fail "num") (by exact hr102.1) (by first | omega | decide | assumption | exact zr1_1 | exact zr1_0 | fail "num") rfl) (by omega) (fun v105 w105 hp105 => ?_)
            obtain ⟨hsi105, heq105, hp105_0, hp105_1, rfl⟩ := hp105
            show zP _ _ _ _ [] _ _ _ _ _
            have hpw9 := hr102.2
            obtain ⟨g2, fn2, fd2, fa2, fb2, fc2, fe2, fr2, fu2, hT2, hAn2, hAd2, hAa2, hAb2, hAc2, hAe2, hAr2, hAu2, hK2⟩ := id hp105_0
            obtain ⟨hK20, hKn2, hKd2, hKx2, hKm2, hKl2, hKr2, hKu2, hKk2⟩ := id hK2
            refine zp_seg (pc' := 111) (lv' := [(3, .int x82), (0, .ref m), (1, .ref t), (2, .int where9)]) (st' := [.ref m, .int x82, .ref t]) [(108, .aload_n 1), (109, .iload_n 3), (110, .aload_n 0)] (by decide +kernel) rfl ?_
            have hb58 : w105 m = some (.inl (15, zMo m g r)) := (heq105 m ⟨(zx_X16_raiseText_1 hot), (zx_X16_raiseText_2 hgb3)⟩).trans hm
            refine zr_get (idx := 393) (k := 17) (v := .int (g 17)) (by decide +kernel) (by decide +kernel) hb58 rfl ?_
            refine zr_callS (idx := 317) (j := 262) (by decide +kernel) (by decide +kernel) (by decide) (show zMe 262 = some zq_X16_power from rfl) rfl rfl (Nat.le_of_ble_eq_true rfl) rfl rfl (Nat.le_of_ble_eq_true rfl) (Nat.le_of_ble_eq_true rfl) (c_X16_power (w := w105) x82 (g 17) (by exact hu8.1)) (by omega) (fun v114 w114 hp114 => ?_)
            obtain ⟨hpw114, r114, rfl, hr114⟩ := hp114
            replace hpw114 := hpw114.symm
            subst hpw114
            have kr114 := zrng r114
            show zP _ _ _ _ [.int r114, .ref t] _ _ _ _ _
            refine zr_put2 (idx := 213) (k := 3) (fs2 := zTo t (zs g2 3 r114)) (by decide +kernel) (by decide +kernel) hT2 (Nat.le_of_ble_eq_true rfl) rfl rfl rfl ?_
            show zP (d + 1) zq_X16_raiseText 120 [(3, .int x82), (0, .ref m), (1, .ref t), (2, .int where9)] [] (zup w105 t (.inl (13, zTo t (zs g2 3 r114)))) sz 0 0 Post
            obtain ⟨w117, ew117⟩ : ∃ wz9, wz9 = zup w105 t (.inl (13, zTo t (zs g2 3 r114))) := ⟨_, rfl⟩
            have hsi117 : zSI w105 w117 := by rw [ew117]; exact zSI.setT hT2 _
            have heq117 : ∀ x, x ≠ t → w117 x = w105 x := fun x hx => by rw [ew117]; exact zup_n hx
            have hc117 : w117 t = some (.inl (13, zTo t (zs g2 3 r114))) := by rw [ew117]; exact zup_s
            rw [← ew117]
            clear ew117
            refine zp_seg (pc' := 123) (lv' := [(3, .int x82), (0, .ref m), (1, .ref t), (2, .int where9)]) (st' := [.ref m, .int x82, .ref t]) [(120, .aload_n 1), (121, .iload_n 3), (122, .aload_n 0)] (by decide +kernel) rfl ?_
            have hb59 : w117 m = some (.inl (15, zMo m g r)) := (heq117 m (zx_X16_raiseText_3 hot)).trans hb58
            refine zr_get (idx := 396) (k := 18) (v := .int (g 18)) (by decide +kernel) (by decide +kernel) hb59 rfl ?_
            refine zr_callS (idx := 317) (j := 262) (by decide +kernel) (by decide +kernel) (by decide) (show zMe 262 = some zq_X16_power from rfl) rfl rfl (Nat.le_of_ble_eq_true rfl) rfl rfl (Nat.le_of_ble_eq_true rfl) (Nat.le_of_ble_eq_true rfl) (c_X16_power (w := w117) x82 (g 18) (by exact hu8.1)) (by omega) (fun v126 w126 hp126 => ?_)
            obtain ⟨hpw126, r126, rfl, hr126⟩ := hp126
            replace hpw126 := hpw126.symm
            subst hpw126
            have kr126 := zrng r126
            show zP _ _ _ _ [.int r126, .ref t] _ _ _ _ _
            refine zr_put2 (idx := 216) (k := 4) (fs2 := zTo t (zs (zs g2 3 r114) 4 r126)) (by decide +kernel) (by decide +kernel) hc117 (Nat.le_of_ble_eq_true rfl) rfl rfl rfl ?_
            show zP (d + 1) zq_X16_raiseText 132 [(3, .int x82), (0, .ref m), (1, .ref t), (2, .int where9)] [] (zup w117 t (.inl (13, zTo t (zs (zs g2 3 r114) 4 r126)))) sz 0 0 Post
            obtain ⟨w129, ew129⟩ : ∃ wz9, wz9 = zup w117 t (.inl (13, zTo t (zs (zs g2 3 r114) 4 r126))) := ⟨_, rfl⟩
            have hsi129 : zSI w117 w129 := by rw [ew129]; exact zSI.setT hc117 _
            have heq129 : ∀ x, x ≠ t → w129 x = w117 x := fun x hx => by rw [ew129]; exact zup_n hx
            have hc129 : w129 t = some (.inl (13, zTo t (zs (zs g2 3 r114) 4 r126))) := by rw [ew129]; exact zup_s
            rw [← ew129]
            clear ew129
            refine zp_seg (pc' := 133) (lv' := [(3, .int x82), (0, .ref m), (1, .ref t), (2, .int where9)]) (st' := [.ref t]) [(132, .aload_n 1)] (by decide +kernel) rfl ?_
            refine zr_callS (idx := 307) (j := 312) (by decide +kernel) (by decide +kernel) (by decide) (show zMe 312 = some zq_X16_name from rfl) rfl rfl (Nat.le_of_ble_eq_true rfl) rfl rfl (Nat.le_of_ble_eq_true rfl) (Nat.le_of_ble_eq_true rfl) (c_X16_name (w := w129) t hc129) (by omega) (fun v133 w133 hp133 => ?_)
            obtain ⟨K9_133, hsi133, heq133, hp133_0, hp133_1, rfl⟩ := hp133
            have hT133 : w133 t = some (.inl (13, zTo t (zs (zs (zs g2 0 K9_133) 3 r114) 4 r126))) := hp133_0
            show zP _ _ _ _ [] _ _ _ _ _
            have hkk9 := hp133_1
            have hxx9 : r114 ≠ 0 ∧ r126 ≠ 0 := ⟨fun e => hr114.2 (zf_nz hu8.1 hu8.2) (by rw [e]; exact zf_0), fun e => hr126.2 (zf_nz hu8.1 hu8.2) (by rw [e]; exact zf_0)⟩
            have hnn9 := zNz_of (hp105_1 (fun e => hr102.2 (zf_nz hu8.1 hu8.2) (by rw [e]; exact zf_0))) hAn2
            have hb60 : w133 (t + 1) = some (.inr (0, 325, .inl fn2)) := ((heq133 (t + 1) (zx_X16_raiseText_5 hot)).trans ((heq129 (t + 1) (zx_X16_raiseText_4 hot)).trans (heq117 (t + 1) (zx_X16_raiseText_4 hot)))).trans hAn2
            have hb61 : w133 (t + 2) = some (.inr (0, 325, .inl fd2)) := ((heq133 (t + 2) (zx_X16_raiseText_7 hot)).trans ((heq129 (t + 2) (zx_X16_raiseText_6 hot)).trans (heq117 (t + 2) (zx_X16_raiseText_6 hot)))).trans hAd2
            have hb62 : w133 (t + 3) = some (.inr (0, 13, .inl fa2)) := ((heq133 (t + 3) (zx_X16_raiseText_9 hot)).trans ((heq129 (t + 3) (zx_X16_raiseText_8 hot)).trans (heq117 (t + 3) (zx_X16_raiseText_8 hot)))).trans hAa2
            have hb63 : w133 (t + 4) = some (.inr (0, 13, .inl fb2)) := ((heq133 (t + 4) (zx_X16_raiseText_11 hot)).trans ((heq129 (t + 4) (zx_X16_raiseText_10 hot)).trans (heq117 (t + 4) (zx_X16_raiseText_10 hot)))).trans hAb2
            have hb64 : w133 (t + 5) = some (.inr (0, 13, .inl fc2)) := ((heq133 (t + 5) (zx_X16_raiseText_13 hot)).trans ((heq129 (t + 5) (zx_X16_raiseText_12 hot)).trans (heq117 (t + 5) (zx_X16_raiseText_12 hot)))).trans hAc2
            have hb65 : w133 (t + 6) = some (.inr (0, 13, .inl fe2)) := ((heq133 (t + 6) (zx_X16_raiseText_15 hot)).trans ((heq129 (t + 6) (zx_X16_raiseText_14 hot)).trans (heq117 (t + 6) (zx_X16_raiseText_14 hot)))).trans hAe2
            have hb66 : w133 (t + 7) = some (.inr (0, 175, .inl fr2)) := ((heq133 (t + 7) (zx_X16_raiseText_17 hot)).trans ((heq129 (t + 7) (zx_X16_raiseText_16 hot)).trans (heq117 (t + 7) (zx_X16_raiseText_16 hot)))).trans hAr2
            have hb67 : w133 (t + 8) = some (.inr (0, 361, .inl fu2)) := ((heq133 (t + 8) (zx_X16_raiseText_19 hot)).trans ((heq129 (t + 8) (zx_X16_raiseText_18 hot)).trans (heq117 (t + 8) (zx_X16_raiseText_18 hot)))).trans hAu2
            have hTi9 : zTi w133 (t) K9_133 := ⟨_, _, _, _, _, _, _, _, _, hT133, hb60, hb61, hb62, hb63, hb64, hb65, hb66, hb67, ⟨rfl, hKn2, hKd2, ⟨hr114.1, hr126.1⟩, hKm2, hKl2, hKr2, hKu2, zKk_12 hkk9 (hKk2.2.1 (Or.inl rfl)) (fun _ => hnn9) hxx9⟩⟩
            have hPl136 := hPl_m_6316.upt (w' := w133) htp9 hTi9 (fun x h1 h2 h3 => ((heq133 x (by omega)).trans ((heq129 x (by omega)).trans ((heq117 x (by omega)).trans (heq105 x (by omega))))))
            have hb68 : w133 m = some (.inl (15, zMo m g r)) := ((heq133 m (zx_X16_raiseText_20 hot)).trans (heq129 m (zx_X16_raiseText_3 hot))).trans hb59
            have hoffend : ∀ x, (x < m ∨ m + 1 ≤ x) ∧ (x < t ∨ t + 9 ≤ x) ∧ (x < m + 78 ∨ m + 78 + 1 ≤ x) ∧ (x < m + 276 + 2 * (g 1).toNatClampNeg ∨ m + 276 + 2 * (g 1).toNatClampNeg + (320 - 2 * (g 1).toNatClampNeg) ≤ x) ∧ (x < m + 596 + 130 * (g 3).toNatClampNeg ∨ m + 596 + 130 * (g 3).toNatClampNeg + (5720 - 130 * (g 3).toNatClampNeg) ≤ x) ∧ (x < m + 3 ∨ m + 3 + 1 ≤ x) ∧ (x < m + 5 ∨ m + 5 + 64 ≤ x) → w133 x = w x := fun x hx => ((heq133 x (zx_X16_raiseText_22 hx.2.1 hot)).trans ((heq129 x (zx_X16_raiseText_21 hx.2.1 hot)).trans ((heq117 x (zx_X16_raiseText_21 hx.2.1 hot)).trans (heq105 x ⟨hx.2.1, hx.2.2.2.2.1⟩))))
            refine zr_retV (by decide +kernel) rfl ?_
            rw [← hPost]; exact ⟨rfl, Or.inl ⟨_, rfl, K9_133, (((hsi105.tr hsi117).tr hsi129).tr hsi133), hoffend, hb68, (by first | exact hTi9 | (have z9 := hTi9; simpa using z9)), (by
                  first | exact hp41_1 | exact hp133_1), hPl136, rfl⟩⟩
          ·
            replace cc85 := Classical.not_not.mp cc85
            have f69 := zeqI cc85
            rw [show (0 : Int32).toInt = 0 from by decide] at f69
            refine zp_seg (pc' := 91) (lv' := [(3, .int x82), (0, .ref m), (1, .ref t), (2, .int where9)]) (st' := [.int where9, .int 3, .ref m]) [(88, .aload_n 0), (89, .iconst 3), (90, .iload_n 2)] (by decide +kernel) rfl ?_
            refine zr_callV (idx := 346) (j := 318) (by decide +kernel) (by decide +kernel) (show zMe 318 = some zq_X16_fail from rfl) rfl rfl (Nat.le_of_ble_eq_true rfl) rfl rfl hm (Nat.le_of_ble_eq_true rfl) (Nat.le_of_ble_eq_true rfl) (c_X16_fail (w := w) m 3 where9 hm hR_m) (by omega) (fun v91 w91 hp91 => ?_)
            obtain ⟨hsi91, heq91, hp91_0, rfl⟩ := hp91
            have hM91 : w91 m = some (.inl (15, zMo m (zs (zs g 9 3) 10 where9) r)) := hp91_0
            show zP _ _ _ _ [.ref (m + 79)] _ _ _ _ _
            have hb70 := hR_m.si hsi91
            obtain ⟨fs9, hst9⟩ := hb70.stop
            refine zr_thr (by decide +kernel) hst9 ?_
            have hb71 : zPil w91 (m + 6316) := hPl_m_6316.ag (fun x hx1 hx2 => (heq91 x (zx_X16_raiseText_0 hx1 hx2)))
            rw [← hPost]; exact ⟨rfl, Or.inr ⟨rfl, (zs (zs g 9 3) 10 where9), hsi91, (fun x hx => (heq91 x hx.1)), hM91, (by
                  first | exact hx9_1 | exact ⟨rfl, rfl, rfl, rfl⟩), hb71⟩⟩
        ·
          replace cc67 := Classical.not_not.mp cc67
          have f72 := zeqI cc67
          rw [show (0 : Int32).toInt = 0 from by decide] at f72
          refine zp_seg (pc' := 73) (lv' := [(0, .ref m), (1, .ref t), (2, .int where9)]) (st' := [.int where9, .int 2, .ref m]) [(70, .aload_n 0), (71, .iconst 2), (72, .iload_n 2)] (by decide +kernel) rfl ?_
          refine zr_callV (idx := 346) (j := 318) (by decide +kernel) (by decide +kernel) (show zMe 318 = some zq_X16_fail from rfl) rfl rfl (Nat.le_of_ble_eq_true rfl) rfl rfl hm (Nat.le_of_ble_eq_true rfl) (Nat.le_of_ble_eq_true rfl) (c_X16_fail (w := w) m 2 where9 hm hR_m) (by omega) (fun v73 w73 hp73 => ?_)
          obtain ⟨hsi73, heq73, hp73_0, rfl⟩ := hp73
          have hM73 : w73 m = some (.inl (15, zMo m (zs (zs g 9 2) 10 where9) r)) := hp73_0
          show zP _ _ _ _ [.ref (m + 79)] _ _ _ _ _
          have hb73 := hR_m.si hsi73
          obtain ⟨fs9, hst9⟩ := hb73.stop
          refine zr_thr (by decide +kernel) hst9 ?_
          have hb74 : zPil w73 (m + 6316) := hPl_m_6316.ag (fun x hx1 hx2 => (heq73 x (zx_X16_raiseText_0 hx1 hx2)))
          rw [← hPost]; exact ⟨rfl, Or.inr ⟨rfl, (zs (zs g 9 2) 10 where9), hsi73, (fun x hx => (heq73 x hx.1)), hM73, (by
                first | exact hx9_1 | exact ⟨rfl, rfl, rfl, rfl⟩), hb74⟩⟩
    ·
      replace cc11 := Classical.not_not.mp cc11
      have k75 := zrng (g 18)
      have f76 := zeqI cc11
      rw [show (0 : Int32).toInt = 0 from by decide] at f76
      refine zp_seg (pc' := 15) (lv' := [(0, .ref m), (1, .ref t), (2, .int where9)]) (st' := [.ref t]) [(14, .aload_n 1)] (by decide +kernel) rfl ?_
      refine zr_callS (idx := 288) (j := 306) (by decide +kernel) (by decide +kernel) (by decide) (show zMe 306 = some zq_X16_isZero from rfl) rfl rfl (Nat.le_of_ble_eq_true rfl) rfl rfl (Nat.le_of_ble_eq_true rfl) (Nat.le_of_ble_eq_true rfl) (c_X16_isZero (w := w) t hT1 hAn1 (by first | omega | decide | assumption | exact zr1_1 | exact zr1_0 | fail "num")) (by omega) (fun v15 w15 hp15 => ?_)
      obtain ⟨hpw15, r15, rfl, hrb15, hr15⟩ := hp15
      replace hpw15 := hpw15.symm
      subst hpw15
      have kr15 := zrng r15
      show zP _ _ _ _ [.int r15] _ _ _ _ _
      refine zp_if (i := .ifCond .eq 17) (c := r15 = 0) (t := 35) (e := 21) (lv' := [(0, .ref m), (1, .ref t), (2, .int where9)]) (st' := []) (by decide +kernel) rfl (fun cc18 => ?_) (fun cc18 => ?_)
      ·
        have f77 := zeqI cc18
        rw [show (0 : Int32).toInt = 0 from by decide] at f77
        refine zp_seg (pc' := 38) (lv' := [(0, .ref m), (1, .ref t), (2, .int where9)]) (st' := [.ref m, .ref t, .ref m]) [(35, .aload_n 0), (36, .aload_n 1), (37, .aload_n 0)] (by decide +kernel) rfl ?_
        refine zr_get (idx := 399) (k := 19) (v := .int (g 19)) (by decide +kernel) (by decide +kernel) hm rfl ?_
        have k78 := zrng (g 19)
        refine zr_callV (idx := 417) (j := 316) (by decide +kernel) (by decide +kernel) (show zMe 316 = some zq_X16_raise from rfl) rfl rfl (Nat.le_of_ble_eq_true rfl) rfl rfl hm (Nat.le_of_ble_eq_true rfl) (Nat.le_of_ble_eq_true rfl) (c_X16_raise (w := w) (g1 := (g 1)) (g3 := (g 3)) m t (g 19) hm hR_m hTi_t (by first | omega | decide | assumption | exact zr1_1 | exact zr1_0 | fail "num") (by first | omega | decide | assumption | exact zr1_1 | exact zr1_0 | fail "num") (by first | omega | decide | assumption | exact zr1_1 | exact zr1_0 | fail "num") (by first | omega | decide | assumption | exact zr1_1 | exact zr1_0 | fail "num") (by exact hln.2.2) rfl rfl) (by omega) (fun v41 w41 hp41 => ?_)
        obtain ⟨K9_41, hsi41, heq41, hp41_0, hp41_1, r41, rfl, hrb41, hr41⟩ := hp41
        have kr41 := zrng r41
        show zP _ _ _ _ [.int r41] _ _ _ _ _
        refine zp_if (i := .ifCond .ne 10) (c := ¬ r41 = 0) (t := 54) (e := 47) (lv' := [(0, .ref m), (1, .ref t), (2, .int where9)]) (st' := []) (by decide +kernel) rfl (fun cc44 => ?_) (fun cc44 => ?_)
        ·
          have f79 := zneI cc44
          rw [show (0 : Int32).toInt = 0 from by decide] at f79
          have hPl54 := hPl_m_6316.upt (w' := w41) htp9 hp41_0 (fun x h1 h2 h3 => (heq41 x (by omega)))
          have hb80 : w41 m = some (.inl (15, zMo m g r)) := (heq41 m ⟨(zx_X16_raiseText_1 hot), (zx_X16_raiseText_23 hgb1), (zx_X16_raiseText_2 hgb3)⟩).trans hm
          have hoffend : ∀ x, (x < m ∨ m + 1 ≤ x) ∧ (x < t ∨ t + 9 ≤ x) ∧ (x < m + 78 ∨ m + 78 + 1 ≤ x) ∧ (x < m + 276 + 2 * (g 1).toNatClampNeg ∨ m + 276 + 2 * (g 1).toNatClampNeg + (320 - 2 * (g 1).toNatClampNeg) ≤ x) ∧ (x < m + 596 + 130 * (g 3).toNatClampNeg ∨ m + 596 + 130 * (g 3).toNatClampNeg + (5720 - 130 * (g 3).toNatClampNeg) ≤ x) ∧ (x < m + 3 ∨ m + 3 + 1 ≤ x) ∧ (x < m + 5 ∨ m + 5 + 64 ≤ x) → w41 x = w x := fun x hx => (heq41 x ⟨hx.2.1, hx.2.2.2.1, hx.2.2.2.2.1⟩)
          refine zr_retV (by decide +kernel) rfl ?_
          rw [← hPost]; exact ⟨rfl, Or.inl ⟨_, rfl, K9_41, hsi41, hoffend, hb80, (by first | exact hp41_0 | (have z9 := hp41_0; simpa using z9)), (by
                first | exact hp41_1 | exact hp133_1), hPl54, rfl⟩⟩
        ·
          replace cc44 := Classical.not_not.mp cc44
          have f81 := zeqI cc44
          rw [show (0 : Int32).toInt = 0 from by decide] at f81
          have hPl47 := hPl_m_6316.upt (w' := w41) htp9 hp41_0 (fun x h1 h2 h3 => (heq41 x (by omega)))
          refine zp_seg (pc' := 50) (lv' := [(0, .ref m), (1, .ref t), (2, .int where9)]) (st' := [.int where9, .int 4, .ref m]) [(47, .aload_n 0), (48, .iconst 4), (49, .iload_n 2)] (by decide +kernel) rfl ?_
          have hb82 : w41 m = some (.inl (15, zMo m g r)) := (heq41 m ⟨(zx_X16_raiseText_1 hot), (zx_X16_raiseText_23 hgb1), (zx_X16_raiseText_2 hgb3)⟩).trans hm
          have hb83 := hR_m.si hsi41
          refine zr_callV (idx := 346) (j := 318) (by decide +kernel) (by decide +kernel) (show zMe 318 = some zq_X16_fail from rfl) rfl rfl (Nat.le_of_ble_eq_true rfl) rfl rfl hb82 (Nat.le_of_ble_eq_true rfl) (Nat.le_of_ble_eq_true rfl) (c_X16_fail (w := w41) m 4 where9 hb82 hb83) (by omega) (fun v50 w50 hp50 => ?_)
          obtain ⟨hsi50, heq50, hp50_0, rfl⟩ := hp50
          have hM50 : w50 m = some (.inl (15, zMo m (zs (zs g 9 4) 10 where9) r)) := hp50_0
          show zP _ _ _ _ [.ref (m + 79)] _ _ _ _ _
          have hb84 := hb83.si hsi50
          obtain ⟨fs9, hst9⟩ := hb84.stop
          refine zr_thr (by decide +kernel) hst9 ?_
          have hb85 : zPil w50 (m + 6316) := hPl47.ag (fun x hx1 hx2 => (heq50 x (zx_X16_raiseText_0 hx1 hx2)))
          rw [← hPost]; exact ⟨rfl, Or.inr ⟨rfl, (zs (zs g 9 4) 10 where9), (hsi41.tr hsi50), (fun x hx => ((heq50 x hx.1).trans (heq41 x ⟨hx.2.1, hx.2.2.2.1, hx.2.2.2.2.1⟩))), hM50, (by
                first | exact hx9_1 | exact ⟨rfl, rfl, rfl, rfl⟩), hb85⟩⟩
      ·
        have f86 := zneI cc18
        rw [show (0 : Int32).toInt = 0 from by decide] at f86
        refine zp_seg (pc' := 22) (lv' := [(0, .ref m), (1, .ref t), (2, .int where9)]) (st' := [.ref m]) [(21, .aload_n 0)] (by decide +kernel) rfl ?_
        refine zr_get (idx := 399) (k := 19) (v := .int (g 19)) (by decide +kernel) (by decide +kernel) hm rfl ?_
        refine zp_if (i := .ifCond .ge 10) (c := 0 ≤ (g 19)) (t := 35) (e := 28) (lv' := [(0, .ref m), (1, .ref t), (2, .int where9)]) (st' := []) (by decide +kernel) rfl (fun cc25 => ?_) (fun cc25 => ?_)
        ·
          have k87 := zrng (g 19)
          have f88 := zleI cc25
          rw [show (0 : Int32).toInt = 0 from by decide] at f88
          refine zp_seg (pc' := 38) (lv' := [(0, .ref m), (1, .ref t), (2, .int where9)]) (st' := [.ref m, .ref t, .ref m]) [(35, .aload_n 0), (36, .aload_n 1), (37, .aload_n 0)] (by decide +kernel) rfl ?_
          refine zr_get (idx := 399) (k := 19) (v := .int (g 19)) (by decide +kernel) (by decide +kernel) hm rfl ?_
          refine zr_callV (idx := 417) (j := 316) (by decide +kernel) (by decide +kernel) (show zMe 316 = some zq_X16_raise from rfl) rfl rfl (Nat.le_of_ble_eq_true rfl) rfl rfl hm (Nat.le_of_ble_eq_true rfl) (Nat.le_of_ble_eq_true rfl) (c_X16_raise (w := w) (g1 := (g 1)) (g3 := (g 3)) m t (g 19) hm hR_m hTi_t (by first | omega | decide | assumption | exact zr1_1 | exact zr1_0 | fail "num") (by first | omega | decide | assumption | exact zr1_1 | exact zr1_0 | fail "num") (by first | omega | decide | assumption | exact zr1_1 | exact zr1_0 | fail "num") (by first | omega | decide | assumption | exact zr1_1 | exact zr1_0 | fail "num") (by exact hln.2.2) rfl rfl) (by omega) (fun v41 w41 hp41 => ?_)
          obtain ⟨K9_41, hsi41, heq41, hp41_0, hp41_1, r41, rfl, hrb41, hr41⟩ := hp41
          have kr41 := zrng r41
          show zP _ _ _ _ [.int r41] _ _ _ _ _
          refine zp_if (i := .ifCond .ne 10) (c := ¬ r41 = 0) (t := 54) (e := 47) (lv' := [(0, .ref m), (1, .ref t), (2, .int where9)]) (st' := []) (by decide +kernel) rfl (fun cc44 => ?_) (fun cc44 => ?_)
          ·
            have f89 := zneI cc44
            rw [show (0 : Int32).toInt = 0 from by decide] at f89
            have hPl54 := hPl_m_6316.upt (w' := w41) htp9 hp41_0 (fun x h1 h2 h3 => (heq41 x (by omega)))
            have hb90 : w41 m = some (.inl (15, zMo m g r)) := (heq41 m ⟨(zx_X16_raiseText_1 hot), (zx_X16_raiseText_23 hgb1), (zx_X16_raiseText_2 hgb3)⟩).trans hm
            have hoffend : ∀ x, (x < m ∨ m + 1 ≤ x) ∧ (x < t ∨ t + 9 ≤ x) ∧ (x < m + 78 ∨ m + 78 + 1 ≤ x) ∧ (x < m + 276 + 2 * (g 1).toNatClampNeg ∨ m + 276 + 2 * (g 1).toNatClampNeg + (320 - 2 * (g 1).toNatClampNeg) ≤ x) ∧ (x < m + 596 + 130 * (g 3).toNatClampNeg ∨ m + 596 + 130 * (g 3).toNatClampNeg + (5720 - 130 * (g 3).toNatClampNeg) ≤ x) ∧ (x < m + 3 ∨ m + 3 + 1 ≤ x) ∧ (x < m + 5 ∨ m + 5 + 64 ≤ x) → w41 x = w x := fun x hx => (heq41 x ⟨hx.2.1, hx.2.2.2.1, hx.2.2.2.2.1⟩)
            refine zr_retV (by decide +kernel) rfl ?_
            rw [← hPost]; exact ⟨rfl, Or.inl ⟨_, rfl, K9_41, hsi41, hoffend, hb90, (by first | exact hp41_0 | (have z9 := hp41_0; simpa using z9)), (by
                  first | exact hp41_1 | exact hp133_1), hPl54, rfl⟩⟩
          ·
            replace cc44 := Classical.not_not.mp cc44
            have f91 := zeqI cc44
            rw [show (0 : Int32).toInt = 0 from by decide] at f91
            have hPl47 := hPl_m_6316.upt (w' := w41) htp9 hp41_0 (fun x h1 h2 h3 => (heq41 x (by omega)))
            refine zp_seg (pc' := 50) (lv' := [(0, .ref m), (1, .ref t), (2, .int where9)]) (st' := [.int where9, .int 4, .ref m]) [(47, .aload_n 0), (48, .iconst 4), (49, .iload_n 2)] (by decide +kernel) rfl ?_
            have hb92 : w41 m = some (.inl (15, zMo m g r)) := (heq41 m ⟨(zx_X16_raiseText_1 hot), (zx_X16_raiseText_23 hgb1), (zx_X16_raiseText_2 hgb3)⟩).trans hm
            have hb93 := hR_m.si hsi41
            refine zr_callV (idx := 346) (j := 318) (by decide +kernel) (by decide +kernel) (show zMe 318 = some zq_X16_fail from rfl) rfl rfl (Nat.le_of_ble_eq_true rfl) rfl rfl hb92 (Nat.le_of_ble_eq_true rfl) (Nat.le_of_ble_eq_true rfl) (c_X16_fail (w := w41) m 4 where9 hb92 hb93) (by omega) (fun v50 w50 hp50 => ?_)
            obtain ⟨hsi50, heq50, hp50_0, rfl⟩ := hp50
            have hM50 : w50 m = some (.inl (15, zMo m (zs (zs g 9 4) 10 where9) r)) := hp50_0
            show zP _ _ _ _ [.ref (m + 79)] _ _ _ _ _
            have hb94 := hb93.si hsi50
            obtain ⟨fs9, hst9⟩ := hb94.stop
            refine zr_thr (by decide +kernel) hst9 ?_
            have hb95 : zPil w50 (m + 6316) := hPl47.ag (fun x hx1 hx2 => (heq50 x (zx_X16_raiseText_0 hx1 hx2)))
            rw [← hPost]; exact ⟨rfl, Or.inr ⟨rfl, (zs (zs g 9 4) 10 where9), (hsi41.tr hsi50), (fun x hx => ((heq50 x hx.1).trans (heq41 x ⟨hx.2.1, hx.2.2.2.1, hx.2.2.2.2.1⟩))), hM50, (by
                  first | exact hx9_1 | exact ⟨rfl, rfl, rfl, rfl⟩), hb95⟩⟩
        ·
          have k96 := zrng (g 19)
          have f97 := znleI cc25
          rw [show (0 : Int32).toInt = 0 from by decide] at f97
          refine zp_seg (pc' := 31) (lv' := [(0, .ref m), (1, .ref t), (2, .int where9)]) (st' := [.int where9, .int 3, .ref m]) [(28, .aload_n 0), (29, .iconst 3), (30, .iload_n 2)] (by decide +kernel) rfl ?_
          refine zr_callV (idx := 346) (j := 318) (by decide +kernel) (by decide +kernel) (show zMe 318 = some zq_X16_fail from rfl) rfl rfl (Nat.le_of_ble_eq_true rfl) rfl rfl hm (Nat.le_of_ble_eq_true rfl) (Nat.le_of_ble_eq_true rfl) (c_X16_fail (w := w) m 3 where9 hm hR_m) (by omega) (fun v31 w31 hp31 => ?_)
          obtain ⟨hsi31, heq31, hp31_0, rfl⟩ := hp31
          have hM31 : w31 m = some (.inl (15, zMo m (zs (zs g 9 3) 10 where9) r)) := hp31_0
          show zP _ _ _ _ [.ref (m + 79)] _ _ _ _ _
          have hb98 := hR_m.si hsi31
          obtain ⟨fs9, hst9⟩ := hb98.stop
          refine zr_thr (by decide +kernel) hst9 ?_
          have hb99 : zPil w31 (m + 6316) := hPl_m_6316.ag (fun x hx1 hx2 => (heq31 x (zx_X16_raiseText_0 hx1 hx2)))
          rw [← hPost]; exact ⟨rfl, Or.inr ⟨rfl, (zs (zs g 9 3) 10 where9), hsi31, (fun x hx => (heq31 x hx.1)), hM31, (by
                first | exact hx9_1 | exact ⟨rfl, rfl, rfl, rfl⟩), hb99⟩⟩
