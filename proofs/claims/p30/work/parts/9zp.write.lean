theorem zx_X16_write_0 {m x : Nat} (h0 : m + 92 ≤ x) (h1 : x < m + 92 + 1) : x ≠ m := by omega
theorem zx_X16_write_1 {m x : Nat} (h0 : m + 92 ≤ x) (h1 : x < m + 92 + 1) : x < m ∨ m + 1 ≤ x := by omega
theorem zx_X16_write_2 {m x : Nat} (h0 : m + 92 ≤ x) (h1 : x < m + 92 + 1) : x < m + 93 ∨ m + 93 + 1 ≤ x := by omega
theorem zx_X16_write_3 {m : Nat}  : m ≠ m + 92 := by omega
theorem zx_X16_write_4 {m x : Nat} (h0 : x < m + 0 ∨ m + 0 + 8322 ≤ x) : x ≠ m := by omega
theorem zx_X16_write_5 {m x : Nat} (h0 : x < m + 0 ∨ m + 0 + 8322 ≤ x) : x < m ∨ m + 1 ≤ x := by omega
theorem zx_X16_write_6 {m x : Nat} (h0 : x < m + 0 ∨ m + 0 + 8322 ≤ x) : x < m + 93 ∨ m + 93 + 1 ≤ x := by omega
theorem zx_X16_write_7 {m x : Nat} (h0 : x < m + 0 ∨ m + 0 + 8322 ≤ x) : x ≠ m + 92 := by omega
theorem zx_X16_write_8 {m x : Nat} (h0 : m + 7486 ≤ x) (h1 : x < m + 7486 + 108) : x ≠ m := by omega
theorem zx_X16_write_9 {m x : Nat} (h0 : m + 7486 ≤ x) (h1 : x < m + 7486 + 108) : x < m ∨ m + 1 ≤ x := by omega
theorem zx_X16_write_10 {m x : Nat} (h0 : m + 7486 ≤ x) (h1 : x < m + 7486 + 108) : x < m + 93 ∨ m + 93 + 1 ≤ x := by omega
theorem zx_X16_write_11 {m x : Nat} (h0 : m + 7486 ≤ x) (h1 : x < m + 7486 + 108) : x ≠ m + 92 := by omega
theorem zx_X16_write_12 {m x : Nat} (h0 : m + 83 ≤ x) (h1 : x < m + 83 + 9) : x ≠ m := by omega
theorem zx_X16_write_13 {m x : Nat} (h0 : m + 83 ≤ x) (h1 : x < m + 83 + 9) : x < m ∨ m + 1 ≤ x := by omega
theorem zx_X16_write_14 {m x : Nat} (h0 : m + 83 ≤ x) (h1 : x < m + 83 + 9) : x < m + 93 ∨ m + 93 + 1 ≤ x := by omega
theorem zx_X16_write_15 {m x : Nat} (h0 : m + 83 ≤ x) (h1 : x < m + 83 + 9) : x ≠ m + 92 := by omega
theorem zx_X16_write_16 {m x : Nat} (h0 : m + 6316 ≤ x) (h1 : x < m + 6316 + 1170) : x ≠ m := by omega
theorem zx_X16_write_17 {m x : Nat} (h0 : m + 6316 ≤ x) (h1 : x < m + 6316 + 1170) : x < m ∨ m + 1 ≤ x := by omega
theorem zx_X16_write_18 {m x : Nat} (h0 : m + 6316 ≤ x) (h1 : x < m + 6316 + 1170) : x < m + 93 ∨ m + 93 + 1 ≤ x := by omega
theorem zx_X16_write_19 {m x : Nat} (h0 : m + 6316 ≤ x) (h1 : x < m + 6316 + 1170) : x ≠ m + 92 := by omega
theorem zx_X16_write_20 {m x : Nat} (h0 : m + 93 ≤ x) (h1 : x < m + 93 + 1) : x ≠ m + 92 := by omega
theorem zx_X16_write_21 {m x : Nat} (h0 : m + 93 ≤ x) (h1 : x < m + 93 + 1) : x ≠ m := by omega
theorem zx_X16_write_22 {m x : Nat} (h0 : m + 100 ≤ x) (h1 : x < m + 100 + 49) : x ≠ m := by omega
theorem zx_X16_write_23 {m x : Nat} (h0 : m + 100 ≤ x) (h1 : x < m + 100 + 49) : x < m ∨ m + 1 ≤ x := by omega
theorem zx_X16_write_24 {m x : Nat} (h0 : m + 100 ≤ x) (h1 : x < m + 100 + 49) : x < m + 93 ∨ m + 93 + 1 ≤ x := by omega
theorem zx_X16_write_25 {m x : Nat} (h0 : m + 100 ≤ x) (h1 : x < m + 100 + 49) : x ≠ m + 92 := by omega
theorem zx_X16_write_26 {m x : Nat} (h0 : m + 212 ≤ x) (h1 : x < m + 212 + 61) : x ≠ m := by omega
theorem zx_X16_write_27 {m x : Nat} (h0 : m + 212 ≤ x) (h1 : x < m + 212 + 61) : x < m ∨ m + 1 ≤ x := by omega
theorem zx_X16_write_28 {m x : Nat} (h0 : m + 212 ≤ x) (h1 : x < m + 212 + 61) : x < m + 93 ∨ m + 93 + 1 ≤ x := by omega
theorem zx_X16_write_29 {m x : Nat} (h0 : m + 212 ≤ x) (h1 : x < m + 212 + 61) : x ≠ m + 92 := by omega
theorem zx_X16_write_30 {m x : Nat} (h0 : m + 149 ≤ x) (h1 : x < m + 149 + 27) : x ≠ m := by omega
theorem zx_X16_write_31 {m x : Nat} (h0 : m + 149 ≤ x) (h1 : x < m + 149 + 27) : x < m ∨ m + 1 ≤ x := by omega
theorem zx_X16_write_32 {m x : Nat} (h0 : m + 149 ≤ x) (h1 : x < m + 149 + 27) : x < m + 93 ∨ m + 93 + 1 ≤ x := by omega
theorem zx_X16_write_33 {m x : Nat} (h0 : m + 149 ≤ x) (h1 : x < m + 149 + 27) : x ≠ m + 92 := by omega
theorem zx_X16_write_34 {m : Nat}  : (m + 94) ≠ m := by omega
theorem zx_X16_write_35 {m : Nat}  : (m + 94) < m ∨ m + 1 ≤ (m + 94) := by omega
theorem zx_X16_write_36 {m : Nat}  : (m + 94) < m + 93 ∨ m + 93 + 1 ≤ (m + 94) := by omega
theorem zx_X16_write_37 {m : Nat}  : (m + 94) ≠ m + 92 := by omega
set_option maxHeartbeats 8000000 in
set_option maxRecDepth 100000 in
theorem c_X16_write {w : zM} {n9 : Int32} (m : Nat) (s9 : Int32) (hI : zInv w m n9) : zCon 7 zq_X16_write [.ref m, .int s9] w (fun v9 w9' => zSI w w9' ∧ (∀ x, (x < m + 0 ∨ m + 0 + 8322 ≤ x) → w9' x = w x) ∧ zInv w9' m n9 ∧ ∃ r9 : Int32, v9 = some (.int r9) ∧ True) := by
  intro d sz hd
  obtain ⟨d, rfl⟩ : ∃ d9, d = d9 + 1 := ⟨d - 1, by omega⟩
  generalize hPost : (fun (r9' : Option (Option Value)) (w9' : zM) (z9 : Nat) => z9 = sz ∧ ∃ v9, r9' = some v9 ∧ (zSI w w9' ∧ (∀ x, (x < m + 0 ∨ m + 0 + 8322 ≤ x) → w9' x = w x) ∧ zInv w9' m n9 ∧ ∃ r9 : Int32, v9 = some (.int r9) ∧ True)) = Post
  show zP (d + 1) zq_X16_write 0 [(0, .ref m), (1, .int s9)] [] w sz 0 0 Post
  have k1 := zrng s9
  obtain ⟨g, r, hm, hR_m, hSl0, hMd0, hPl0, ⟨ff, hAf0, hff⟩, hBo0, hBl0, hGa0, hGb0, hBd0, hI12, hI24, hI29, hI31, hIn⟩ := hI
  have k2 := zrng (g 12)
  have hz3 : ((g 12).toNatClampNeg : Int) = (g 12).toInt := znat (by first | omega | decide)
  have k4 := zrng (g 24)
  have hz5 : ((g 24).toNatClampNeg : Int) = (g 24).toInt := znat (by first | omega | decide)
  have k6 := zrng (g 29)
  have hz7 : ((g 29).toNatClampNeg : Int) = (g 29).toInt := znat (by first | omega | decide)
  have k8 := zrng (g 31)
  have hz9 : ((g 31).toNatClampNeg : Int) = (g 31).toInt := znat (by first | omega | decide)
  refine zp_seg (pc' := 1) (lv' := [(0, .ref m), (1, .int s9)]) (st' := [.int s9]) [(0, .iload_n 1)] (by decide +kernel) rfl ?_
  refine zr_callS (idx := 551) (j := 336) (by decide +kernel) (by decide +kernel) (by decide) (show zMe 336 = some zq_X16_isSlot from rfl) rfl rfl (Nat.le_of_ble_eq_true rfl) rfl rfl (Nat.le_of_ble_eq_true rfl) (Nat.le_of_ble_eq_true rfl) (c_X16_isSlot (w := w) s9 ) (by omega) (fun v1 w1 hp1 => ?_)
  obtain ⟨hpw1, r1, rfl, hrb1, hr1⟩ := hp1
  replace hpw1 := hpw1.symm
  subst hpw1
  have kr1 := zrng r1
  show zP _ _ _ _ [.int r1] _ _ _ _ _
  refine zp_if (i := .ifCond .ne 5) (c := ¬ r1 = 0) (t := 9) (e := 7) (lv' := [(0, .ref m), (1, .int s9)]) (st' := []) (by decide +kernel) rfl (fun cc4 => ?_) (fun cc4 => ?_)
  ·
    have f11 := zneI cc4
    rw [show (0 : Int32).toInt = 0 from by decide] at f11
    have his1 := hr1 (hrb1.resolve_left cc4)
    refine zp_seg (pc' := 10) (lv' := [(0, .ref m), (1, .int s9)]) (st' := [.ref m]) [(9, .aload_n 0)] (by decide +kernel) rfl ?_
    refine zr_get (idx := 450) (k := 20) (v := .ref (m + 82)) (by decide +kernel) (by decide +kernel) hm rfl ?_
    refine zp_seg (pc' := 14) (lv' := [(0, .ref m), (1, .int s9)]) (st' := [.int s9, .ref (m + 82)]) [(13, .iload_n 1)] (by decide +kernel) rfl ?_
    have hb13 := hR_m.slots
    have hz14 : (s9.toNatClampNeg : Int) = s9.toInt := znat (by first | omega | decide)
    refine zr_aald (v := .ref (m + 7486 + 9 * s9.toNatClampNeg)) (by decide +kernel) hb13 (by decide) (zin (by first | omega | decide) (by first | omega | decide)) (zsl_at (by omega)) ?_
    refine zp_seg (pc' := 16) (lv' := [(2, .ref (m + 7486 + 9 * s9.toNatClampNeg)), (0, .ref m), (1, .int s9)]) (st' := []) [(15, .astore_n 2)] (by decide +kernel) rfl ?_
    obtain ⟨kS1, hkS1⟩ := hSl0 s9.toNatClampNeg (by omega)
    obtain ⟨g1, fn1, fd1, fa1, fb1, fc1, fe1, fr1, fu1, hT1, hAn1, hAd1, hAa1, hAb1, hAc1, hAe1, hAr1, hAu1, hK1⟩ := id hkS1
    obtain ⟨hK10, hKn1, hKd1, hKx1, hKm1, hKl1, hKr1, hKu1, hKk1⟩ := id hK1
    refine zp_seg (pc' := 17) (lv' := [(2, .ref (m + 7486 + 9 * s9.toNatClampNeg)), (0, .ref m), (1, .int s9)]) (st' := [.ref (m + 7486 + 9 * s9.toNatClampNeg)]) [(16, .aload_n 2)] (by decide +kernel) rfl ?_
    refine zr_get (idx := 202) (k := 0) (v := .int (g1 0)) (by decide +kernel) (by decide +kernel) hT1 rfl ?_
    refine zp_seg (pc' := 21) (lv' := [(2, .ref (m + 7486 + 9 * s9.toNatClampNeg)), (0, .ref m), (1, .int s9)]) (st' := [.int 1, .int (g1 0)]) [(20, .iconst 1)] (by decide +kernel) rfl ?_
    have hJ35 : ∀ (_ : True), (kS1 = 1 ∨ kS1 = 2) → zP (d + 1) zq_X16_write 35 [(0, .ref m), (2, .ref (m + 7486 + 9 * s9.toNatClampNeg))] [] w sz 0 0 Post := by
      intro _ hkk9
      refine zp_seg (pc' := 37) (lv' := [(0, .ref m), (2, .ref (m + 7486 + 9 * s9.toNatClampNeg))]) (st' := [.int 0, .ref m]) [(35, .aload_n 0), (36, .iconst 0)] (by decide +kernel) rfl ?_
      refine zr_put2 (idx := 561) (k := 25) (fs2 := zMo m (zs g 25 0) r) (by decide +kernel) (by decide +kernel) hm (Nat.le_of_ble_eq_true rfl) rfl rfl rfl ?_
      show zP (d + 1) zq_X16_write 40 [(0, .ref m), (2, .ref (m + 7486 + 9 * s9.toNatClampNeg))] [] (zup w m (.inl (15, zMo m (zs g 25 0) r))) sz 0 0 Post
      obtain ⟨w37, ew37⟩ : ∃ wz9, wz9 = zup w m (.inl (15, zMo m (zs g 25 0) r)) := ⟨_, rfl⟩
      have hsi37 : zSI w w37 := by rw [ew37]; exact zSI.setG hm _ _
      have heq37 : ∀ x, x ≠ m → w37 x = w x := fun x hx => by rw [ew37]; exact zup_n hx
      have hc37 : w37 m = some (.inl (15, zMo m (zs g 25 0) r)) := by rw [ew37]; exact zup_s
      rw [← ew37]
      clear ew37
      have hl0 : (0 : Int32).toInt = 0 := by decide
      refine zp_seg (pc' := 41) (lv' := [(0, .ref m), (2, .ref (m + 7486 + 9 * s9.toNatClampNeg))]) (st' := [.ref (m + 7486 + 9 * s9.toNatClampNeg)]) [(40, .aload_n 2)] (by decide +kernel) rfl ?_
      have hb15 : w37 (m + 7486 + 9 * s9.toNatClampNeg) = some (.inl (13, zTo (m + 7486 + 9 * s9.toNatClampNeg) g1)) := (heq37 (m + 7486 + 9 * s9.toNatClampNeg) (by omega)).trans hT1
      refine zr_get (idx := 202) (k := 0) (v := .int (g1 0)) (by decide +kernel) (by decide +kernel) hb15 rfl ?_
      refine zp_seg (pc' := 45) (lv' := [(0, .ref m), (2, .ref (m + 7486 + 9 * s9.toNatClampNeg))]) (st' := [.int 1, .int (g1 0)]) [(44, .iconst 1)] (by decide +kernel) rfl ?_
      have hJ221 : ∀ (wL221 : zM) (wC : Int32) (wF : Int32), (zSI w37 wL221) → (∀ x, ((x < m ∨ m + 1 ≤ x) ∧ (x < m + 93 ∨ m + 93 + 1 ≤ x)) ∧ x ≠ m → wL221 x = w37 x) → (wL221 m = some (.inl (15, zMo m (zs (zs g 25 wC) 27 wF) r))) → (zBya wL221 (m + 93) 4000) → (0 ≤ wC.toInt ∧ wC.toInt ≤ 50000) → zP (d + 1) zq_X16_write 221 [(0, .ref m)] [] wL221 sz 0 0 Post := by
        intro wL221 wC wF hsiL221 heqL221 hwM hBYl hwC
        refine zp_seg (pc' := 222) (lv' := [(0, .ref m)]) (st' := [.ref m]) [(221, .aload_n 0)] (by decide +kernel) rfl ?_
        refine zr_get (idx := 561) (k := 25) (v := .int wC) (by decide +kernel) (by decide +kernel) hwM rfl ?_
        refine zp_seg (pc' := 228) (lv' := [(0, .ref m)]) (st' := [.int 4000, .int wC]) [(225, .sipush 4000)] (by decide +kernel) rfl ?_
        refine zp_if (i := .if_icmp .le 6) (c := wC ≤ 4000) (t := 234) (e := 231) (lv' := [(0, .ref m)]) (st' := []) (by decide +kernel) rfl (fun cc228 => ?_) (fun cc228 => ?_)
        ·
          have k16 := zrng wC
          have f18 := zleI cc228
          rw [show (4000 : Int32).toInt = 4000 from by decide] at f18
          refine zp_seg (pc' := 235) (lv' := [(0, .ref m)]) (st' := [.ref m]) [(234, .aload_n 0)] (by decide +kernel) rfl ?_
          refine zr_get (idx := 462) (k := 26) (v := .ref (m + 93)) (by decide +kernel) (by decide +kernel) hwM rfl ?_
          refine zp_seg (pc' := 240) (lv' := [(0, .ref m)]) (st' := [.ref m, .int 0, .ref (m + 93)]) [(238, .iconst 0), (239, .aload_n 0)] (by decide +kernel) rfl ?_
          refine zr_get (idx := 459) (k := 23) (v := .ref (m + 92)) (by decide +kernel) (by decide +kernel) hwM rfl ?_
          refine zp_seg (pc' := 245) (lv' := [(0, .ref m)]) (st' := [.ref m, .int 0, .ref (m + 92), .int 0, .ref (m + 93)]) [(243, .iconst 0), (244, .aload_n 0)] (by decide +kernel) rfl ?_
          refine zr_get (idx := 561) (k := 25) (v := .int wC) (by decide +kernel) (by decide +kernel) hwM rfl ?_
          obtain ⟨f19, hb20, hby21⟩ := id hBYl
          have hb22 : zBya wL221 (m + 92) 4000 := hBo0.ag (fun x hx1 hx2 => ((heqL221 x ⟨⟨(zx_X16_write_1 hx1 hx2), (zx_X16_write_2 hx1 hx2)⟩, (zx_X16_write_0 hx1 hx2)⟩).trans (heq37 x (zx_X16_write_0 hx1 hx2))))
          obtain ⟨f23, hb24, hby25⟩ := id hb22
          have hz26 : (wC.toNatClampNeg : Int) = wC.toInt := znat (by first | omega | decide)
          have hl27 : (0 : Int32).toInt = 0 := by decide
          refine zr_acpyB (idx := 34) (by decide +kernel) (by decide +kernel) hb20 hb24 hby21 (by first | omega | decide) (by first | omega | decide) (by first | omega | decide) (by first | omega | decide) (by first | omega | decide) (by omega) (Nat.le_of_ble_eq_true rfl) ?_
          show zP (d + 1) zq_X16_write 251 [(0, .ref m)] [] (zup wL221 (m + 92) (.inr (1, 4000, .inl (va_cpy f19 f23 ((0 : Int32).toNatClampNeg) ((0 : Int32).toNatClampNeg) (wC.toNatClampNeg))))) sz 0 0 Post
          obtain ⟨w248, ew248⟩ : ∃ wz9, wz9 = zup wL221 (m + 92) (.inr (1, 4000, .inl (va_cpy f19 f23 ((0 : Int32).toNatClampNeg) ((0 : Int32).toNatClampNeg) (wC.toNatClampNeg)))) := ⟨_, rfl⟩
          have hsi248 : zSI wL221 w248 := by rw [ew248]; exact zSI.arr _ hb24
          have heq248 : ∀ x, x ≠ m + 92 → w248 x = wL221 x := fun x hx => by rw [ew248]; exact zup_n hx
          have hc248 : w248 (m + 92) = some (.inr (1, 4000, .inl (va_cpy f19 f23 ((0 : Int32).toNatClampNeg) ((0 : Int32).toNatClampNeg) (wC.toNatClampNeg)))) := by rw [ew248]; exact zup_s
          rw [← ew248]
          clear ew248
          have hBy28 : zBya w248 (m + 92) 4000 := ⟨_, hc248, zFit_cpy hby21 hby25 (by first | omega | (rw [show (0 : Int32).toNatClampNeg = 0 from by decide]; omega))⟩
          refine zp_seg (pc' := 253) (lv' := [(0, .ref m)]) (st' := [.ref m, .ref m]) [(251, .aload_n 0), (252, .aload_n 0)] (by decide +kernel) rfl ?_
          have hb29 : w248 m = some (.inl (15, zMo m (zs (zs g 25 wC) 27 wF) r)) := (heq248 m (zx_X16_write_3)).trans hwM
          refine zr_get (idx := 561) (k := 25) (v := .int wC) (by decide +kernel) (by decide +kernel) hb29 rfl ?_
          refine zr_put2 (idx := 597) (k := 24) (fs2 := zMo m (zs (zs (zs g 24 wC) 25 wC) 27 wF) r) (by decide +kernel) (by decide +kernel) hb29 (Nat.le_of_ble_eq_true rfl) rfl rfl rfl ?_
          show zP (d + 1) zq_X16_write 259 [(0, .ref m)] [] (zup w248 m (.inl (15, zMo m (zs (zs (zs g 24 wC) 25 wC) 27 wF) r))) sz 0 0 Post
          obtain ⟨w256, ew256⟩ : ∃ wz9, wz9 = zup w248 m (.inl (15, zMo m (zs (zs (zs g 24 wC) 25 wC) 27 wF) r)) := ⟨_, rfl⟩
          have hsi256 : zSI w248 w256 := by rw [ew256]; exact zSI.setG hb29 _ _
          have heq256 : ∀ x, x ≠ m → w256 x = w248 x := fun x hx => by rw [ew256]; exact zup_n hx
          have hc256 : w256 m = some (.inl (15, zMo m (zs (zs (zs g 24 wC) 25 wC) 27 wF) r)) := by rw [ew256]; exact zup_s
          rw [← ew256]
          clear ew256
          refine zp_seg (pc' := 260) (lv' := [(0, .ref m)]) (st' := [.ref m]) [(259, .aload_n 0)] (by decide +kernel) rfl ?_
          refine zr_get (idx := 597) (k := 24) (v := .int wC) (by decide +kernel) (by decide +kernel) hc256 rfl ?_
          have hoffend : ∀ x, (x < m + 0 ∨ m + 0 + 8322 ≤ x) → w256 x = w x := fun x hx => ((heq256 x (zx_X16_write_4 hx)).trans ((heq248 x (zx_X16_write_7 hx)).trans ((heqL221 x ⟨⟨(zx_X16_write_5 hx), (zx_X16_write_6 hx)⟩, (zx_X16_write_4 hx)⟩).trans (heq37 x (zx_X16_write_4 hx)))))
          have hb30 := hR_m.si (((hsi37.tr hsiL221).tr hsi248).tr hsi256)
          have hb31 : zSlo w256 (m + 7486) := hSl0.ag (fun x hx1 hx2 => ((heq256 x (zx_X16_write_8 hx1 hx2)).trans ((heq248 x (zx_X16_write_11 hx1 hx2)).trans ((heqL221 x ⟨⟨(zx_X16_write_9 hx1 hx2), (zx_X16_write_10 hx1 hx2)⟩, (zx_X16_write_8 hx1 hx2)⟩).trans (heq37 x (zx_X16_write_8 hx1 hx2))))))
          have hb32 : zTm w256 (m + 83) := hMd0.ag (fun x hx1 hx2 => ((heq256 x (zx_X16_write_12 hx1 hx2)).trans ((heq248 x (zx_X16_write_15 hx1 hx2)).trans ((heqL221 x ⟨⟨(zx_X16_write_13 hx1 hx2), (zx_X16_write_14 hx1 hx2)⟩, (zx_X16_write_12 hx1 hx2)⟩).trans (heq37 x (zx_X16_write_12 hx1 hx2))))))
          have hb33 : zPil w256 (m + 6316) := hPl0.ag (fun x hx1 hx2 => ((heq256 x (zx_X16_write_16 hx1 hx2)).trans ((heq248 x (zx_X16_write_19 hx1 hx2)).trans ((heqL221 x ⟨⟨(zx_X16_write_17 hx1 hx2), (zx_X16_write_18 hx1 hx2)⟩, (zx_X16_write_16 hx1 hx2)⟩).trans (heq37 x (zx_X16_write_16 hx1 hx2))))))
          have hb34 : zBya w256 (m + 92) 4000 := hBy28.ag (fun x hx1 hx2 => (heq256 x (zx_X16_write_0 hx1 hx2)))
          have hb35 : zBya w256 (m + 93) 4000 := hBYl.ag (fun x hx1 hx2 => ((heq256 x (zx_X16_write_21 hx1 hx2)).trans (heq248 x (zx_X16_write_20 hx1 hx2))))
          have hb36 : zGr w256 (m + 100) 48 48 := hGa0.ag (fun x hx1 hx2 => ((heq256 x (zx_X16_write_22 hx1 hx2)).trans ((heq248 x (zx_X16_write_25 hx1 hx2)).trans ((heqL221 x ⟨⟨(zx_X16_write_23 hx1 hx2), (zx_X16_write_24 hx1 hx2)⟩, (zx_X16_write_22 hx1 hx2)⟩).trans (heq37 x (zx_X16_write_22 hx1 hx2))))))
          have hb37 : zGr w256 (m + 212) 60 46 := hGb0.ag (fun x hx1 hx2 => ((heq256 x (zx_X16_write_26 hx1 hx2)).trans ((heq248 x (zx_X16_write_29 hx1 hx2)).trans ((heqL221 x ⟨⟨(zx_X16_write_27 hx1 hx2), (zx_X16_write_28 hx1 hx2)⟩, (zx_X16_write_26 hx1 hx2)⟩).trans (heq37 x (zx_X16_write_26 hx1 hx2))))))
          have hb38 : zBd w256 (m + 149) := hBd0.ag (fun x hx1 hx2 => ((heq256 x (zx_X16_write_30 hx1 hx2)).trans ((heq248 x (zx_X16_write_33 hx1 hx2)).trans ((heqL221 x ⟨⟨(zx_X16_write_31 hx1 hx2), (zx_X16_write_32 hx1 hx2)⟩, (zx_X16_write_30 hx1 hx2)⟩).trans (heq37 x (zx_X16_write_30 hx1 hx2))))))
          have hb39 : w256 (m + 94) = some (.inr (0, 60, .inl ff)) := ((heq256 (m + 94) (zx_X16_write_34)).trans ((heq248 (m + 94) (zx_X16_write_37)).trans ((heqL221 (m + 94) ⟨⟨(zx_X16_write_35), (zx_X16_write_36)⟩, (zx_X16_write_34)⟩).trans (heq37 (m + 94) (zx_X16_write_34))))).trans hAf0
          refine zr_retI (by decide +kernel) rfl ?_
          rw [← hPost]; exact ⟨rfl, _, rfl, (((hsi37.tr hsiL221).tr hsi248).tr hsi256), hoffend, ⟨_, _, hc256, hb30, hb31, hb32, hb33, ⟨_, hb39, hff⟩, hb34, hb35, hb36, hb37, hb38, hI12, (show 0 ≤ (wC).toInt ∧ (wC).toInt ≤ 4000 by omega), hI29, hI31, hIn⟩, _, rfl, trivial⟩
        ·
          have k40 := zrng wC
          have f42 := znleI cc228
          rw [show (4000 : Int32).toInt = 4000 from by decide] at f42
          refine zp_seg (pc' := 233) (lv' := [(0, .ref m)]) (st' := [.int (Int32.ofInt (-2))]) [(231, .bipush (-2))] (by decide +kernel) rfl ?_
          have hoffend : ∀ x, (x < m + 0 ∨ m + 0 + 8322 ≤ x) → wL221 x = w x := fun x hx => ((heqL221 x ⟨⟨(zx_X16_write_5 hx), (zx_X16_write_6 hx)⟩, (zx_X16_write_4 hx)⟩).trans (heq37 x (zx_X16_write_4 hx)))
          have hb43 := hR_m.si (hsi37.tr hsiL221)
          have hb44 : zSlo wL221 (m + 7486) := hSl0.ag (fun x hx1 hx2 => ((heqL221 x ⟨⟨(zx_X16_write_9 hx1 hx2), (zx_X16_write_10 hx1 hx2)⟩, (zx_X16_write_8 hx1 hx2)⟩).trans (heq37 x (zx_X16_write_8 hx1 hx2))))
          have hb45 : zTm wL221 (m + 83) := hMd0.ag (fun x hx1 hx2 => ((heqL221 x ⟨⟨(zx_X16_write_13 hx1 hx2), (zx_X16_write_14 hx1 hx2)⟩, (zx_X16_write_12 hx1 hx2)⟩).trans (heq37 x (zx_X16_write_12 hx1 hx2))))
          have hb46 : zPil wL221 (m + 6316) := hPl0.ag (fun x hx1 hx2 => ((heqL221 x ⟨⟨(zx_X16_write_17 hx1 hx2), (zx_X16_write_18 hx1 hx2)⟩, (zx_X16_write_16 hx1 hx2)⟩).trans (heq37 x (zx_X16_write_16 hx1 hx2))))
          have hb47 : zBya wL221 (m + 92) 4000 := hBo0.ag (fun x hx1 hx2 => ((heqL221 x ⟨⟨(zx_X16_write_1 hx1 hx2), (zx_X16_write_2 hx1 hx2)⟩, (zx_X16_write_0 hx1 hx2)⟩).trans (heq37 x (zx_X16_write_0 hx1 hx2))))
          have hb48 : zGr wL221 (m + 100) 48 48 := hGa0.ag (fun x hx1 hx2 => ((heqL221 x ⟨⟨(zx_X16_write_23 hx1 hx2), (zx_X16_write_24 hx1 hx2)⟩, (zx_X16_write_22 hx1 hx2)⟩).trans (heq37 x (zx_X16_write_22 hx1 hx2))))
          have hb49 : zGr wL221 (m + 212) 60 46 := hGb0.ag (fun x hx1 hx2 => ((heqL221 x ⟨⟨(zx_X16_write_27 hx1 hx2), (zx_X16_write_28 hx1 hx2)⟩, (zx_X16_write_26 hx1 hx2)⟩).trans (heq37 x (zx_X16_write_26 hx1 hx2))))
          have hb50 : zBd wL221 (m + 149) := hBd0.ag (fun x hx1 hx2 => ((heqL221 x ⟨⟨(zx_X16_write_31 hx1 hx2), (zx_X16_write_32 hx1 hx2)⟩, (zx_X16_write_30 hx1 hx2)⟩).trans (heq37 x (zx_X16_write_30 hx1 hx2))))
          have hb51 : wL221 (m + 94) = some (.inr (0, 60, .inl ff)) := ((heqL221 (m + 94) ⟨⟨(zx_X16_write_35), (zx_X16_write_36)⟩, (zx_X16_write_34)⟩).trans (heq37 (m + 94) (zx_X16_write_34))).trans hAf0
          refine zr_retI (by decide +kernel) rfl ?_
          rw [← hPost]; exact ⟨rfl, _, rfl, (hsi37.tr hsiL221), hoffend, ⟨_, _, hwM, hb43, hb44, hb45, hb46, ⟨_, hb51, hff⟩, hb47, hBYl, hb48, hb49, hb50, hI12, hI24, hI29, hI31, hIn⟩, _, rfl, trivial⟩
      refine zp_if (i := .if_icmp .ne 11) (c := ¬ (g1 0) = 1) (t := 56) (e := 48) (lv' := [(0, .ref m), (2, .ref (m + 7486 + 9 * s9.toNatClampNeg))]) (st' := []) (by decide +kernel) rfl (fun cc45 => ?_) (fun cc45 => ?_)
      ·
        have k53 := zrng (g1 0)
        have f55 := zneI cc45
        rw [show (1 : Int32).toInt = 1 from by decide] at f55
        refine zp_seg (pc' := 59) (lv' := [(0, .ref m), (2, .ref (m + 7486 + 9 * s9.toNatClampNeg))]) (st' := [.int 40, .ref m]) [(56, .aload_n 0), (57, .bipush 40)] (by decide +kernel) rfl ?_
        have hb56 := hR_m.si hsi37
        have hb57 : zBya w37 (m + 93) 4000 := hBl0.ag (fun x hx1 hx2 => (heq37 x (zx_X16_write_21 hx1 hx2)))
        refine zr_callV (idx := 564) (j := 341) (by decide +kernel) (by decide +kernel) (show zMe 341 = some zq_X16_say from rfl) rfl rfl (Nat.le_of_ble_eq_true rfl) rfl rfl hc37 (Nat.le_of_ble_eq_true rfl) (Nat.le_of_ble_eq_true rfl) (c_X16_say (w := w37) (g25 := 0) m 40 hc37 hb56 hb57 (by first | omega | decide | assumption | exact zr1_1 | exact zr1_0 | fail "num") rfl) (by omega) (fun v59 w59 hp59 => ?_)
        obtain ⟨C9_59, hsi59, heq59, hp59_0, hp59_1, hp59_2, rfl⟩ := hp59
        have hM59 : w59 m = some (.inl (15, zMo m (zs g 25 C9_59) r)) := hp59_0
        show zP _ _ _ _ [] _ _ _ _ _
        refine zp_seg (pc' := 64) (lv' := [(0, .ref m), (2, .ref (m + 7486 + 9 * s9.toNatClampNeg))]) (st' := [.ref (m + 7486 + 9 * s9.toNatClampNeg), .ref m]) [(62, .aload_n 0), (63, .aload_n 2)] (by decide +kernel) rfl ?_
        have k58 := zrng C9_59
        have hb59 := hb56.si hsi59
        have hb60 : w59 (m + 7486 + 9 * s9.toNatClampNeg) = some (.inl (13, zTo (m + 7486 + 9 * s9.toNatClampNeg) g1)) := (heq59 (m + 7486 + 9 * s9.toNatClampNeg) (by omega)).trans hb15
        have hb61 : w59 (m + 7486 + 9 * s9.toNatClampNeg + 1) = some (.inr (0, 325, .inl fn1)) := ((heq59 (m + 7486 + 9 * s9.toNatClampNeg + 1) (by omega)).trans (heq37 (m + 7486 + 9 * s9.toNatClampNeg + 1) (by omega))).trans hAn1
        have hb62 : w59 (m + 7486 + 9 * s9.toNatClampNeg + 2) = some (.inr (0, 325, .inl fd1)) := ((heq59 (m + 7486 + 9 * s9.toNatClampNeg + 2) (by omega)).trans (heq37 (m + 7486 + 9 * s9.toNatClampNeg + 2) (by omega))).trans hAd1
        refine zr_callV (idx := 587) (j := 346) (by decide +kernel) (by decide +kernel) (show zMe 346 = some zq_X16_sayRatio from rfl) rfl rfl (Nat.le_of_ble_eq_true rfl) rfl rfl hM59 (Nat.le_of_ble_eq_true rfl) (Nat.le_of_ble_eq_true rfl) (c_X16_sayRatio (w := w59) (g25 := C9_59) m (m + 7486 + 9 * s9.toNatClampNeg) hM59 hb59 hp59_1 hb60 hb61 hb62 (by exact hKn1) (by exact hKd1) (by first | omega | decide | assumption | exact zr1_1 | exact zr1_0 | fail "num") (by first | omega | decide | assumption | exact zr1_1 | exact zr1_0 | fail "num") rfl) (by omega) (fun v64 w64 hp64 => ?_)
        obtain ⟨C9_64, F9_64, hsi64, heq64, hp64_0, hp64_1, hp64_2, rfl⟩ := hp64
        have hM64 : w64 m = some (.inl (15, zMo m (zs (zs g 25 C9_64) 27 F9_64) r)) := hp64_0
        show zP _ _ _ _ [] _ _ _ _ _
        refine zp_seg (pc' := 70) (lv' := [(0, .ref m), (2, .ref (m + 7486 + 9 * s9.toNatClampNeg))]) (st' := [.int 41, .ref m]) [(67, .aload_n 0), (68, .bipush 41)] (by decide +kernel) rfl ?_
        have k63 := zrng C9_64
        have hb64 := hb59.si hsi64
        refine zr_callV (idx := 564) (j := 341) (by decide +kernel) (by decide +kernel) (show zMe 341 = some zq_X16_say from rfl) rfl rfl (Nat.le_of_ble_eq_true rfl) rfl rfl hM64 (Nat.le_of_ble_eq_true rfl) (Nat.le_of_ble_eq_true rfl) (c_X16_say (w := w64) (g25 := C9_64) m 41 hM64 hb64 hp64_1 (by first | omega | decide | assumption | exact zr1_1 | exact zr1_0 | fail "num") rfl) (by omega) (fun v70 w70 hp70 => ?_)
        obtain ⟨C9_70, hsi70, heq70, hp70_0, hp70_1, hp70_2, rfl⟩ := hp70
        have hM70 : w70 m = some (.inl (15, zMo m (zs (zs g 25 C9_70) 27 F9_64) r)) := hp70_0
        show zP _ _ _ _ [] _ _ _ _ _
        refine zp_seg (pc' := 75) (lv' := [(0, .ref m), (2, .ref (m + 7486 + 9 * s9.toNatClampNeg))]) (st' := [.ref (m + 7486 + 9 * s9.toNatClampNeg), .ref m]) [(73, .aload_n 0), (74, .aload_n 2)] (by decide +kernel) rfl ?_
        have hb65 : w70 (m + 7486 + 9 * s9.toNatClampNeg) = some (.inl (13, zTo (m + 7486 + 9 * s9.toNatClampNeg) g1)) := ((heq70 (m + 7486 + 9 * s9.toNatClampNeg) (by omega)).trans (heq64 (m + 7486 + 9 * s9.toNatClampNeg) (by omega))).trans hb60
        refine zr_get (idx := 213) (k := 3) (v := .int (g1 3)) (by decide +kernel) (by decide +kernel) hb65 rfl ?_
        refine zp_seg (pc' := 80) (lv' := [(0, .ref m), (2, .ref (m + 7486 + 9 * s9.toNatClampNeg))]) (st' := [.int 110, .int (g1 3), .ref m]) [(78, .bipush 110)] (by decide +kernel) rfl ?_
        have k66 := zrng C9_70
        have hb67 := hb64.si hsi70
        have k68 := zrng (g1 3)
        refine zr_callV (idx := 590) (j := 349) (by decide +kernel) (by decide +kernel) (show zMe 349 = some zq_X16_sayBase from rfl) rfl rfl (Nat.le_of_ble_eq_true rfl) rfl rfl hM70 (Nat.le_of_ble_eq_true rfl) (Nat.le_of_ble_eq_true rfl) (c_X16_sayBase (w := w70) (g25 := C9_70) m (g1 3) 110 hM70 hb67 hp70_1 (by exact hKx1.1) (by first | omega | decide | assumption | exact zr1_1 | exact zr1_0 | fail "num") rfl) (by omega) (fun v80 w80 hp80 => ?_)
        obtain ⟨C9_80, hsi80, heq80, hp80_0, hp80_1, hp80_2, rfl⟩ := hp80
        have hM80 : w80 m = some (.inl (15, zMo m (zs (zs g 25 C9_80) 27 F9_64) r)) := hp80_0
        show zP _ _ _ _ [] _ _ _ _ _
        refine zp_seg (pc' := 85) (lv' := [(0, .ref m), (2, .ref (m + 7486 + 9 * s9.toNatClampNeg))]) (st' := [.ref (m + 7486 + 9 * s9.toNatClampNeg), .ref m]) [(83, .aload_n 0), (84, .aload_n 2)] (by decide +kernel) rfl ?_
        have hb69 : w80 (m + 7486 + 9 * s9.toNatClampNeg) = some (.inl (13, zTo (m + 7486 + 9 * s9.toNatClampNeg) g1)) := (heq80 (m + 7486 + 9 * s9.toNatClampNeg) (by omega)).trans hb65
        refine zr_get (idx := 216) (k := 4) (v := .int (g1 4)) (by decide +kernel) (by decide +kernel) hb69 rfl ?_
        refine zp_seg (pc' := 90) (lv' := [(0, .ref m), (2, .ref (m + 7486 + 9 * s9.toNatClampNeg))]) (st' := [.int 107, .int (g1 4), .ref m]) [(88, .bipush 107)] (by decide +kernel) rfl ?_
        have k70 := zrng C9_80
        have hb71 := hb67.si hsi80
        have k72 := zrng (g1 4)
        refine zr_callV (idx := 590) (j := 349) (by decide +kernel) (by decide +kernel) (show zMe 349 = some zq_X16_sayBase from rfl) rfl rfl (Nat.le_of_ble_eq_true rfl) rfl rfl hM80 (Nat.le_of_ble_eq_true rfl) (Nat.le_of_ble_eq_true rfl) (c_X16_sayBase (w := w80) (g25 := C9_80) m (g1 4) 107 hM80 hb71 hp80_1 (by exact hKx1.2) (by first | omega | decide | assumption | exact zr1_1 | exact zr1_0 | fail "num") rfl) (by omega) (fun v90 w90 hp90 => ?_)
        obtain ⟨C9_90, hsi90, heq90, hp90_0, hp90_1, hp90_2, rfl⟩ := hp90
        have hM90 : w90 m = some (.inl (15, zMo m (zs (zs g 25 C9_90) 27 F9_64) r)) := hp90_0
        show zP _ _ _ _ [] _ _ _ _ _
        refine zp_seg (pc' := 95) (lv' := [(3, .int 0), (0, .ref m), (2, .ref (m + 7486 + 9 * s9.toNatClampNeg))]) (st' := []) [(93, .iconst 0), (94, .istore_n 3)] (by decide +kernel) rfl ?_
        have hL95 : ∀ (mm95 : Nat) (wL95 : zM) (y3_95 : Int32) (uC : Int32) (uF : Int32), (zSI w90 wL95) → (∀ x, ((x < m ∨ m + 1 ≤ x) ∧ (x < m + 93 ∨ m + 93 + 1 ≤ x)) ∧ x ≠ m → wL95 x = w90 x) → (0 ≤ y3_95.toInt) → (y3_95.toInt ≤ (g1 5).toInt) → (wL95 m = some (.inl (15, zMo m (zs (zs g 25 uC) 27 uF) r))) → (zBya wL95 (m + 93) 4000) → (0 ≤ uC.toInt ∧ uC.toInt ≤ 40000 + 200 * y3_95.toInt) → (20 - y3_95.toInt).toNat < mm95 → zP (d + 1) zq_X16_write 95 [(0, .ref m), (2, .ref (m + 7486 + 9 * s9.toNatClampNeg)), (3, .int y3_95)] [] wL95 sz 0 0 Post := by
          intro mm95
          induction mm95 with
          | zero => intros; omega
          | succ mm95 ih95 =>
          intro wL95 y3_95 uC uF hsiL95 heqL95 hi95_0 hi95_1 huM hBYl huC hmu95
          have ky3_95 := zrng y3_95
          have hz73 : (y3_95.toNatClampNeg : Int) = y3_95.toInt := znat (by first | omega | decide)
          refine zp_seg (pc' := 97) (lv' := [(0, .ref m), (2, .ref (m + 7486 + 9 * s9.toNatClampNeg)), (3, .int y3_95)]) (st' := [.ref (m + 7486 + 9 * s9.toNatClampNeg), .int y3_95]) [(95, .iload_n 3), (96, .aload_n 2)] (by decide +kernel) rfl ?_
          have hb74 : wL95 (m + 7486 + 9 * s9.toNatClampNeg) = some (.inl (13, zTo (m + 7486 + 9 * s9.toNatClampNeg) g1)) := ((heqL95 (m + 7486 + 9 * s9.toNatClampNeg) (by omega)).trans (heq90 (m + 7486 + 9 * s9.toNatClampNeg) (by omega))).trans hb69
          refine zr_get (idx := 219) (k := 5) (v := .int (g1 5)) (by decide +kernel) (by decide +kernel) hb74 rfl ?_
          refine zp_if (i := .if_icmp .ge 121) (c := (g1 5) ≤ y3_95) (t := 221) (e := 103) (lv' := [(0, .ref m), (2, .ref (m + 7486 + 9 * s9.toNatClampNeg)), (3, .int y3_95)]) (st' := []) (by decide +kernel) rfl (fun cc100 => ?_) (fun cc100 => ?_)
          ·
            have k75 := zrng (g1 5)
            have f76 := zleI cc100
            exact (hJ221 wL95 (uC) (uF) (((((hsi59.tr hsi64).tr hsi70).tr hsi80).tr hsi90).tr hsiL95) (fun x hx => ((heqL95 x ⟨⟨hx.1.1, hx.1.2⟩, hx.2⟩).trans ((heq90 x ⟨hx.1.1, hx.1.2⟩).trans ((heq80 x ⟨hx.1.1, hx.1.2⟩).trans ((heq70 x ⟨hx.1.1, hx.1.2⟩).trans ((heq64 x ⟨hx.1.1, hx.1.2⟩).trans (heq59 x ⟨hx.1.1, hx.1.2⟩))))))) (by
                  exact huM) hBYl (by
                  omega)).more (zfa1 rfl (zfa0))
          ·
            have k77 := zrng (g1 5)
            have f78 := znleI cc100
            refine zp_seg (pc' := 105) (lv' := [(0, .ref m), (2, .ref (m + 7486 + 9 * s9.toNatClampNeg)), (3, .int y3_95)]) (st' := [.ref (m + 7486 + 9 * s9.toNatClampNeg), .ref m]) [(103, .aload_n 0), (104, .aload_n 2)] (by decide +kernel) rfl ?_
            refine zr_get (idx := 231) (k := 9) (v := .ref (m + 7486 + 9 * s9.toNatClampNeg + 6)) (by decide +kernel) (by decide +kernel) hb74 rfl ?_
            refine zp_seg (pc' := 109) (lv' := [(0, .ref m), (2, .ref (m + 7486 + 9 * s9.toNatClampNeg)), (3, .int y3_95)]) (st' := [.int y3_95, .ref (m + 7486 + 9 * s9.toNatClampNeg + 6), .ref m]) [(108, .iload_n 3)] (by decide +kernel) rfl ?_
            have hb79 : wL95 (m + 7486 + 9 * s9.toNatClampNeg + 6) = some (.inr (0, 13, .inl fe1)) := ((heqL95 (m + 7486 + 9 * s9.toNatClampNeg + 6) (by omega)).trans ((heq90 (m + 7486 + 9 * s9.toNatClampNeg + 6) (by omega)).trans ((heq80 (m + 7486 + 9 * s9.toNatClampNeg + 6) (by omega)).trans ((heq70 (m + 7486 + 9 * s9.toNatClampNeg + 6) (by omega)).trans ((heq64 (m + 7486 + 9 * s9.toNatClampNeg + 6) (by omega)).trans ((heq59 (m + 7486 + 9 * s9.toNatClampNeg + 6) (by omega)).trans (heq37 (m + 7486 + 9 * s9.toNatClampNeg + 6) (by omega)))))))).trans hAe1
            refine zr_iald (by decide +kernel) hb79 (zin (by first | omega | decide) (by first | omega | decide)) ?_
            obtain ⟨x109, ex109⟩ : ∃ x9, x9 = fe1 (y3_95.toNatClampNeg) := ⟨_, rfl⟩
            rw [← ex109]
            have kx109 := zrng x109
            have hJ120 : ∀ (z0_120 : Int32), zP (d + 1) zq_X16_write 120 [(0, .ref m), (2, .ref (m + 7486 + 9 * s9.toNatClampNeg)), (3, .int y3_95)] [.int z0_120, .ref m] wL95 sz 0 0 Post := by
              intro z0_120
              have kz0_120 := zrng z0_120
              have k80 := zrng uC
              have hb81 := hb71.si (hsi90.tr hsiL95)
              refine zr_callV (idx := 564) (j := 341) (by decide +kernel) (by decide +kernel) (show zMe 341 = some zq_X16_say from rfl) rfl rfl (Nat.le_of_ble_eq_true rfl) rfl rfl huM (Nat.le_of_ble_eq_true rfl) (Nat.le_of_ble_eq_true rfl) (c_X16_say (w := wL95) (g25 := uC) m z0_120 huM hb81 hBYl (by first | omega | decide | assumption | exact zr1_1 | exact zr1_0 | fail "num") rfl) (by omega) (fun v120 w120 hp120 => ?_)
              obtain ⟨C9_120, hsi120, heq120, hp120_0, hp120_1, hp120_2, rfl⟩ := hp120
              have hM120 : w120 m = some (.inl (15, zMo m (zs (zs g 25 C9_120) 27 uF) r)) := hp120_0
              show zP _ _ _ _ [] _ _ _ _ _
              refine zp_seg (pc' := 126) (lv' := [(0, .ref m), (2, .ref (m + 7486 + 9 * s9.toNatClampNeg)), (3, .int y3_95)]) (st' := [.int 40, .ref m]) [(123, .aload_n 0), (124, .bipush 40)] (by decide +kernel) rfl ?_
              have k82 := zrng C9_120
              have hb83 := hb81.si hsi120
              refine zr_callV (idx := 564) (j := 341) (by decide +kernel) (by decide +kernel) (show zMe 341 = some zq_X16_say from rfl) rfl rfl (Nat.le_of_ble_eq_true rfl) rfl rfl hM120 (Nat.le_of_ble_eq_true rfl) (Nat.le_of_ble_eq_true rfl) (c_X16_say (w := w120) (g25 := C9_120) m 40 hM120 hb83 hp120_1 (by first | omega | decide | assumption | exact zr1_1 | exact zr1_0 | fail "num") rfl) (by omega) (fun v126 w126 hp126 => ?_)
              obtain ⟨C9_126, hsi126, heq126, hp126_0, hp126_1, hp126_2, rfl⟩ := hp126
              have hM126 : w126 m = some (.inl (15, zMo m (zs (zs g 25 C9_126) 27 uF) r)) := hp126_0
              show zP _ _ _ _ [] _ _ _ _ _
              refine zp_seg (pc' := 131) (lv' := [(0, .ref m), (2, .ref (m + 7486 + 9 * s9.toNatClampNeg)), (3, .int y3_95)]) (st' := [.int 1, .ref m]) [(129, .aload_n 0), (130, .iconst 1)] (by decide +kernel) rfl ?_
              refine zr_put2 (idx := 567) (k := 27) (fs2 := zMo m (zs (zs g 25 C9_126) 27 1) r) (by decide +kernel) (by decide +kernel) hM126 (Nat.le_of_ble_eq_true rfl) rfl rfl rfl ?_
              show zP (d + 1) zq_X16_write 134 [(0, .ref m), (2, .ref (m + 7486 + 9 * s9.toNatClampNeg)), (3, .int y3_95)] [] (zup w126 m (.inl (15, zMo m (zs (zs g 25 C9_126) 27 1) r))) sz 0 0 Post
              obtain ⟨w131, ew131⟩ : ∃ wz9, wz9 = zup w126 m (.inl (15, zMo m (zs (zs g 25 C9_126) 27 1) r)) := ⟨_, rfl⟩
              have hsi131 : zSI w126 w131 := by rw [ew131]; exact zSI.setG hM126 _ _
              have heq131 : ∀ x, x ≠ m → w131 x = w126 x := fun x hx => by rw [ew131]; exact zup_n hx
              have hc131 : w131 m = some (.inl (15, zMo m (zs (zs g 25 C9_126) 27 1) r)) := by rw [ew131]; exact zup_s
              rw [← ew131]
              clear ew131
              refine zp_seg (pc' := 136) (lv' := [(0, .ref m), (2, .ref (m + 7486 + 9 * s9.toNatClampNeg)), (3, .int y3_95)]) (st' := [.ref (m + 7486 + 9 * s9.toNatClampNeg), .ref m]) [(134, .aload_n 0), (135, .aload_n 2)] (by decide +kernel) rfl ?_
              have hb84 : w131 (m + 7486 + 9 * s9.toNatClampNeg) = some (.inl (13, zTo (m + 7486 + 9 * s9.toNatClampNeg) g1)) := ((heq131 (m + 7486 + 9 * s9.toNatClampNeg) (by omega)).trans ((heq126 (m + 7486 + 9 * s9.toNatClampNeg) (by omega)).trans (heq120 (m + 7486 + 9 * s9.toNatClampNeg) (by omega)))).trans hb74
              refine zr_get (idx := 225) (k := 7) (v := .ref (m + 7486 + 9 * s9.toNatClampNeg + 4)) (by decide +kernel) (by decide +kernel) hb84 rfl ?_
              refine zp_seg (pc' := 140) (lv' := [(0, .ref m), (2, .ref (m + 7486 + 9 * s9.toNatClampNeg)), (3, .int y3_95)]) (st' := [.int y3_95, .ref (m + 7486 + 9 * s9.toNatClampNeg + 4), .ref m]) [(139, .iload_n 3)] (by decide +kernel) rfl ?_
              have hb85 : w131 (m + 7486 + 9 * s9.toNatClampNeg + 4) = some (.inr (0, 13, .inl fb1)) := ((heq131 (m + 7486 + 9 * s9.toNatClampNeg + 4) (by omega)).trans ((heq126 (m + 7486 + 9 * s9.toNatClampNeg + 4) (by omega)).trans ((heq120 (m + 7486 + 9 * s9.toNatClampNeg + 4) (by omega)).trans ((heqL95 (m + 7486 + 9 * s9.toNatClampNeg + 4) (by omega)).trans ((heq90 (m + 7486 + 9 * s9.toNatClampNeg + 4) (by omega)).trans ((heq80 (m + 7486 + 9 * s9.toNatClampNeg + 4) (by omega)).trans ((heq70 (m + 7486 + 9 * s9.toNatClampNeg + 4) (by omega)).trans ((heq64 (m + 7486 + 9 * s9.toNatClampNeg + 4) (by omega)).trans ((heq59 (m + 7486 + 9 * s9.toNatClampNeg + 4) (by omega)).trans (heq37 (m + 7486 + 9 * s9.toNatClampNeg + 4) (by omega))))))))))).trans hAb1
              refine zr_iald (by decide +kernel) hb85 (zin (by first | omega | decide) (by first | omega | decide)) ?_
              obtain ⟨x140, ex140⟩ : ∃ x9, x9 = fb1 (y3_95.toNatClampNeg) := ⟨_, rfl⟩
              rw [← ex140]
              have kx140 := zrng x140
              refine zp_seg (pc' := 143) (lv' := [(0, .ref m), (2, .ref (m + 7486 + 9 * s9.toNatClampNeg)), (3, .int y3_95)]) (st' := [.int 1, .int 0, .int x140, .ref m]) [(141, .iconst 0), (142, .iconst 1)] (by decide +kernel) rfl ?_
              have k86 := zrng C9_126
              have hb87 := hb83.si (hsi126.tr hsi131)
              have hb88 : zBya w131 (m + 93) 4000 := hp126_1.ag (fun x hx1 hx2 => (heq131 x (zx_X16_write_21 hx1 hx2)))
              refine zr_callV (idx := 594) (j := 348) (by decide +kernel) (by decide +kernel) (show zMe 348 = some zq_X16_sayLine from rfl) rfl rfl (Nat.le_of_ble_eq_true rfl) rfl rfl hc131 (Nat.le_of_ble_eq_true rfl) (Nat.le_of_ble_eq_true rfl) (c_X16_sayLine (w := w131) (g25 := C9_126) m x140 0 1 hc131 hb87 hb88 (by first | omega | decide | assumption | exact zr1_1 | exact zr1_0 | fail "num") (by first | omega | decide | assumption | exact zr1_1 | exact zr1_0 | fail "num") rfl) (by omega) (fun v143 w143 hp143 => ?_)
              obtain ⟨C9_143, F9_143, hsi143, heq143, hp143_0, hp143_1, hp143_2, rfl⟩ := hp143
              have hM143 : w143 m = some (.inl (15, zMo m (zs (zs g 25 C9_143) 27 F9_143) r)) := hp143_0
              show zP _ _ _ _ [] _ _ _ _ _
              refine zp_seg (pc' := 148) (lv' := [(0, .ref m), (2, .ref (m + 7486 + 9 * s9.toNatClampNeg)), (3, .int y3_95)]) (st' := [.ref (m + 7486 + 9 * s9.toNatClampNeg), .ref m]) [(146, .aload_n 0), (147, .aload_n 2)] (by decide +kernel) rfl ?_
              have hb89 : w143 (m + 7486 + 9 * s9.toNatClampNeg) = some (.inl (13, zTo (m + 7486 + 9 * s9.toNatClampNeg) g1)) := (heq143 (m + 7486 + 9 * s9.toNatClampNeg) (by omega)).trans hb84
              refine zr_get (idx := 222) (k := 6) (v := .ref (m + 7486 + 9 * s9.toNatClampNeg + 3)) (by decide +kernel) (by decide +kernel) hb89 rfl ?_
              refine zp_seg (pc' := 152) (lv' := [(0, .ref m), (2, .ref (m + 7486 + 9 * s9.toNatClampNeg)), (3, .int y3_95)]) (st' := [.int y3_95, .ref (m + 7486 + 9 * s9.toNatClampNeg + 3), .ref m]) [(151, .iload_n 3)] (by decide +kernel) rfl ?_
              have hb90 : w143 (m + 7486 + 9 * s9.toNatClampNeg + 3) = some (.inr (0, 13, .inl fa1)) := ((heq143 (m + 7486 + 9 * s9.toNatClampNeg + 3) (by omega)).trans ((heq131 (m + 7486 + 9 * s9.toNatClampNeg + 3) (by omega)).trans ((heq126 (m + 7486 + 9 * s9.toNatClampNeg + 3) (by omega)).trans ((heq120 (m + 7486 + 9 * s9.toNatClampNeg + 3) (by omega)).trans ((heqL95 (m + 7486 + 9 * s9.toNatClampNeg + 3) (by omega)).trans ((heq90 (m + 7486 + 9 * s9.toNatClampNeg + 3) (by omega)).trans ((heq80 (m + 7486 + 9 * s9.toNatClampNeg + 3) (by omega)).trans ((heq70 (m + 7486 + 9 * s9.toNatClampNeg + 3) (by omega)).trans ((heq64 (m + 7486 + 9 * s9.toNatClampNeg + 3) (by omega)).trans ((heq59 (m + 7486 + 9 * s9.toNatClampNeg + 3) (by omega)).trans (heq37 (m + 7486 + 9 * s9.toNatClampNeg + 3) (by omega)))))))))))).trans hAa1
              refine zr_iald (by decide +kernel) hb90 (zin (by first | omega | decide) (by first | omega | decide)) ?_
              obtain ⟨x152, ex152⟩ : ∃ x9, x9 = fa1 (y3_95.toNatClampNeg) := ⟨_, rfl⟩
              rw [← ex152]
              have kx152 := zrng x152
              refine zp_seg (pc' := 155) (lv' := [(0, .ref m), (2, .ref (m + 7486 + 9 * s9.toNatClampNeg)), (3, .int y3_95)]) (st' := [.int 0, .int 1, .int x152, .ref m]) [(153, .iconst 1), (154, .iconst 0)] (by decide +kernel) rfl ?_
              have k91 := zrng C9_143
              have hb92 := hb87.si hsi143
              refine zr_callV (idx := 594) (j := 348) (by decide +kernel) (by decide +kernel) (show zMe 348 = some zq_X16_sayLine from rfl) rfl rfl (Nat.le_of_ble_eq_true rfl) rfl rfl hM143 (Nat.le_of_ble_eq_true rfl) (Nat.le_of_ble_eq_true rfl) (c_X16_sayLine (w := w143) (g25 := C9_143) m x152 1 0 hM143 hb92 hp143_1 (by first | omega | decide | assumption | exact zr1_1 | exact zr1_0 | fail "num") (by first | omega | decide | assumption | exact zr1_1 | exact zr1_0 | fail "num") rfl) (by omega) (fun v155 w155 hp155 => ?_)
              obtain ⟨C9_155, F9_155, hsi155, heq155, hp155_0, hp155_1, hp155_2, rfl⟩ := hp155
              have hM155 : w155 m = some (.inl (15, zMo m (zs (zs g 25 C9_155) 27 F9_155) r)) := hp155_0
              show zP _ _ _ _ [] _ _ _ _ _
              refine zp_seg (pc' := 160) (lv' := [(0, .ref m), (2, .ref (m + 7486 + 9 * s9.toNatClampNeg)), (3, .int y3_95)]) (st' := [.ref (m + 7486 + 9 * s9.toNatClampNeg), .ref m]) [(158, .aload_n 0), (159, .aload_n 2)] (by decide +kernel) rfl ?_
              have hb93 : w155 (m + 7486 + 9 * s9.toNatClampNeg) = some (.inl (13, zTo (m + 7486 + 9 * s9.toNatClampNeg) g1)) := (heq155 (m + 7486 + 9 * s9.toNatClampNeg) (by omega)).trans hb89
              refine zr_get (idx := 228) (k := 8) (v := .ref (m + 7486 + 9 * s9.toNatClampNeg + 5)) (by decide +kernel) (by decide +kernel) hb93 rfl ?_
              refine zp_seg (pc' := 164) (lv' := [(0, .ref m), (2, .ref (m + 7486 + 9 * s9.toNatClampNeg)), (3, .int y3_95)]) (st' := [.int y3_95, .ref (m + 7486 + 9 * s9.toNatClampNeg + 5), .ref m]) [(163, .iload_n 3)] (by decide +kernel) rfl ?_
              have hb94 : w155 (m + 7486 + 9 * s9.toNatClampNeg + 5) = some (.inr (0, 13, .inl fc1)) := ((heq155 (m + 7486 + 9 * s9.toNatClampNeg + 5) (by omega)).trans ((heq143 (m + 7486 + 9 * s9.toNatClampNeg + 5) (by omega)).trans ((heq131 (m + 7486 + 9 * s9.toNatClampNeg + 5) (by omega)).trans ((heq126 (m + 7486 + 9 * s9.toNatClampNeg + 5) (by omega)).trans ((heq120 (m + 7486 + 9 * s9.toNatClampNeg + 5) (by omega)).trans ((heqL95 (m + 7486 + 9 * s9.toNatClampNeg + 5) (by omega)).trans ((heq90 (m + 7486 + 9 * s9.toNatClampNeg + 5) (by omega)).trans ((heq80 (m + 7486 + 9 * s9.toNatClampNeg + 5) (by omega)).trans ((heq70 (m + 7486 + 9 * s9.toNatClampNeg + 5) (by omega)).trans ((heq64 (m + 7486 + 9 * s9.toNatClampNeg + 5) (by omega)).trans ((heq59 (m + 7486 + 9 * s9.toNatClampNeg + 5) (by omega)).trans (heq37 (m + 7486 + 9 * s9.toNatClampNeg + 5) (by omega))))))))))))).trans hAc1
              refine zr_iald (by decide +kernel) hb94 (zin (by first | omega | decide) (by first | omega | decide)) ?_
              obtain ⟨x164, ex164⟩ : ∃ x9, x9 = fc1 (y3_95.toNatClampNeg) := ⟨_, rfl⟩
              rw [← ex164]
              have kx164 := zrng x164
              refine zp_seg (pc' := 167) (lv' := [(0, .ref m), (2, .ref (m + 7486 + 9 * s9.toNatClampNeg)), (3, .int y3_95)]) (st' := [.int 0, .int 0, .int x164, .ref m]) [(165, .iconst 0), (166, .iconst 0)] (by decide +kernel) rfl ?_
              have k95 := zrng C9_155
              have hb96 := hb92.si hsi155
              refine zr_callV (idx := 594) (j := 348) (by decide +kernel) (by decide +kernel) (show zMe 348 = some zq_X16_sayLine from rfl) rfl rfl (Nat.le_of_ble_eq_true rfl) rfl rfl hM155 (Nat.le_of_ble_eq_true rfl) (Nat.le_of_ble_eq_true rfl) (c_X16_sayLine (w := w155) (g25 := C9_155) m x164 0 0 hM155 hb96 hp155_1 (by first | omega | decide | assumption | exact zr1_1 | exact zr1_0 | fail "num") (by first | omega | decide | assumption | exact zr1_1 | exact zr1_0 | fail "num") rfl) (by omega) (fun v167 w167 hp167 => ?_)
              obtain ⟨C9_167, F9_167, hsi167, heq167, hp167_0, hp167_1, hp167_2, rfl⟩ := hp167
              have hM167 : w167 m = some (.inl (15, zMo m (zs (zs g 25 C9_167) 27 F9_167) r)) := hp167_0
              show zP _ _ _ _ [] _ _ _ _ _
              refine zp_seg (pc' := 173) (lv' := [(0, .ref m), (2, .ref (m + 7486 + 9 * s9.toNatClampNeg)), (3, .int y3_95)]) (st' := [.int 41, .ref m]) [(170, .aload_n 0), (171, .bipush 41)] (by decide +kernel) rfl ?_
              have k97 := zrng C9_167
              have hb98 := hb96.si hsi167
              refine zr_callV (idx := 564) (j := 341) (by decide +kernel) (by decide +kernel) (show zMe 341 = some zq_X16_say from rfl) rfl rfl (Nat.le_of_ble_eq_true rfl) rfl rfl hM167 (Nat.le_of_ble_eq_true rfl) (Nat.le_of_ble_eq_true rfl) (c_X16_say (w := w167) (g25 := C9_167) m 41 hM167 hb98 hp167_1 (by first | omega | decide | assumption | exact zr1_1 | exact zr1_0 | fail "num") rfl) (by omega) (fun v173 w173 hp173 => ?_)
              obtain ⟨C9_173, hsi173, heq173, hp173_0, hp173_1, hp173_2, rfl⟩ := hp173
              have hM173 : w173 m = some (.inl (15, zMo m (zs (zs g 25 C9_173) 27 F9_167) r)) := hp173_0
              show zP _ _ _ _ [] _ _ _ _ _
              refine zp_seg (pc' := 179) (lv' := [(0, .ref m), (2, .ref (m + 7486 + 9 * s9.toNatClampNeg)), (3, .int y3_95)]) (st' := [.int 33, .ref m]) [(176, .aload_n 0), (177, .bipush 33)] (by decide +kernel) rfl ?_
              have k99 := zrng C9_173
              have hb100 := hb98.si hsi173
              refine zr_callV (idx := 564) (j := 341) (by decide +kernel) (by decide +kernel) (show zMe 341 = some zq_X16_say from rfl) rfl rfl (Nat.le_of_ble_eq_true rfl) rfl rfl hM173 (Nat.le_of_ble_eq_true rfl) (Nat.le_of_ble_eq_true rfl) (c_X16_say (w := w173) (g25 := C9_173) m 33 hM173 hb100 hp173_1 (by first | omega | decide | assumption | exact zr1_1 | exact zr1_0 | fail "num") rfl) (by omega) (fun v179 w179 hp179 => ?_)
              obtain ⟨C9_179, hsi179, heq179, hp179_0, hp179_1, hp179_2, rfl⟩ := hp179
              have hM179 : w179 m = some (.inl (15, zMo m (zs (zs g 25 C9_179) 27 F9_167) r)) := hp179_0
              show zP _ _ _ _ [] _ _ _ _ _
              refine zp_seg (pc' := 183) (lv' := [(0, .ref m), (2, .ref (m + 7486 + 9 * s9.toNatClampNeg)), (3, .int y3_95)]) (st' := [.ref (m + 7486 + 9 * s9.toNatClampNeg)]) [(182, .aload_n 2)] (by decide +kernel) rfl ?_
              have hb101 : w179 (m + 7486 + 9 * s9.toNatClampNeg) = some (.inl (13, zTo (m + 7486 + 9 * s9.toNatClampNeg) g1)) := ((heq179 (m + 7486 + 9 * s9.toNatClampNeg) (by omega)).trans ((heq173 (m + 7486 + 9 * s9.toNatClampNeg) (by omega)).trans (heq167 (m + 7486 + 9 * s9.toNatClampNeg) (by omega)))).trans hb93
              refine zr_get (idx := 231) (k := 9) (v := .ref (m + 7486 + 9 * s9.toNatClampNeg + 6)) (by decide +kernel) (by decide +kernel) hb101 rfl ?_
              refine zp_seg (pc' := 187) (lv' := [(0, .ref m), (2, .ref (m + 7486 + 9 * s9.toNatClampNeg)), (3, .int y3_95)]) (st' := [.int y3_95, .ref (m + 7486 + 9 * s9.toNatClampNeg + 6)]) [(186, .iload_n 3)] (by decide +kernel) rfl ?_
              have hb102 : w179 (m + 7486 + 9 * s9.toNatClampNeg + 6) = some (.inr (0, 13, .inl fe1)) := ((heq179 (m + 7486 + 9 * s9.toNatClampNeg + 6) (by omega)).trans ((heq173 (m + 7486 + 9 * s9.toNatClampNeg + 6) (by omega)).trans ((heq167 (m + 7486 + 9 * s9.toNatClampNeg + 6) (by omega)).trans ((heq155 (m + 7486 + 9 * s9.toNatClampNeg + 6) (by omega)).trans ((heq143 (m + 7486 + 9 * s9.toNatClampNeg + 6) (by omega)).trans ((heq131 (m + 7486 + 9 * s9.toNatClampNeg + 6) (by omega)).trans ((heq126 (m + 7486 + 9 * s9.toNatClampNeg + 6) (by omega)).trans (heq120 (m + 7486 + 9 * s9.toNatClampNeg + 6) (by omega))))))))).trans hb79
              refine zr_iald (by decide +kernel) hb102 (zin (by first | omega | decide) (by first | omega | decide)) ?_
              rw [← ex109]
              refine zr_abs (idx := 273) (by decide +kernel) (by decide +kernel) (by omega) (Nat.le_of_ble_eq_true rfl) ?_
              obtain ⟨m103, em103, hm103⟩ := zabsI x109
              rw [← em103]
              have km103 := zrng m103
              obtain ⟨AA, hAA⟩ : ∃ x : Int32, x = m103 := ⟨_, rfl⟩
              have hAe := hAA.trans em103
              have hA7 : AA.toInt = m103.toInt := by rw [hAA]
              refine zp_seg (pc' := 192) (lv' := [(0, .ref m), (2, .ref (m + 7486 + 9 * s9.toNatClampNeg)), (3, .int y3_95)]) (st' := [.int 1, .int m103]) [(191, .iconst 1)] (by decide +kernel) rfl ?_
              have hJ215 : ∀ (wL215 : zM) (vC : Int32) (vF : Int32), (zSI w179 wL215) → (∀ x, ((x < m ∨ m + 1 ≤ x) ∧ (x < m + 93 ∨ m + 93 + 1 ≤ x)) ∧ x ≠ m → wL215 x = w179 x) → (wL215 m = some (.inl (15, zMo m (zs (zs g 25 vC) 27 vF) r))) → (zBya wL215 (m + 93) 4000) → (0 ≤ vC.toInt ∧ vC.toInt ≤ 40000 + 200 * y3_95.toInt + 180) → zP (d + 1) zq_X16_write 215 [(0, .ref m), (2, .ref (m + 7486 + 9 * s9.toNatClampNeg)), (3, .int y3_95)] [] wL215 sz 0 0 Post := by
                intro wL215 vC vF hsiL215 heqL215 hvM hBYl hvC
                refine zp_seg (pc' := 218) (lv' := [(3, .int (y3_95 + 1)), (0, .ref m), (2, .ref (m + 7486 + 9 * s9.toNatClampNeg))]) (st' := []) [(215, .iinc 3 1)] (by decide +kernel) rfl ?_
                have k104 := zaddC y3_95 1 (n := 1) (by decide) (by omega) (by omega)
                generalize ev218 : (y3_95 + 1 : Int32) = v218 at k104 ⊢
                have kv218 := zrng v218
                refine zp_seg (pc' := 95) (lv' := [(3, .int v218), (0, .ref m), (2, .ref (m + 7486 + 9 * s9.toNatClampNeg))]) (st' := []) [(218, .goto (-123))] (by decide +kernel) rfl ?_
                have hz105 : (v218.toNatClampNeg : Int) = v218.toInt := znat (by first | omega | decide)
                exact (ih95 wL215 v218 (vC) (vF) (((((((((hsiL95.tr hsi120).tr hsi126).tr hsi131).tr hsi143).tr hsi155).tr hsi167).tr hsi173).tr hsi179).tr hsiL215) (fun x hx => ((heqL215 x ⟨⟨hx.1.1, hx.1.2⟩, hx.2⟩).trans ((heq179 x ⟨hx.1.1, hx.1.2⟩).trans ((heq173 x ⟨hx.1.1, hx.1.2⟩).trans ((heq167 x ⟨hx.1.1, hx.1.2⟩).trans ((heq155 x ⟨hx.1.1, hx.1.2⟩).trans ((heq143 x ⟨hx.1.1, hx.1.2⟩).trans ((heq131 x hx.2).trans ((heq126 x ⟨hx.1.1, hx.1.2⟩).trans ((heq120 x ⟨hx.1.1, hx.1.2⟩).trans (heqL95 x ⟨⟨hx.1.1, hx.1.2⟩, hx.2⟩))))))))))) (by first | assumption | omega | decide) (by first | assumption | omega | decide) (by
                      exact hvM) hBYl (by
                      omega) (by omega)).more (zfa1 rfl (zfa1 rfl (zfa1 rfl (zfa0))))
              refine zp_if (i := .if_icmp .le 23) (c := m103 ≤ 1) (t := 215) (e := 195) (lv' := [(0, .ref m), (2, .ref (m + 7486 + 9 * s9.toNatClampNeg)), (3, .int y3_95)]) (st' := []) (by decide +kernel) rfl (fun cc192 => ?_) (fun cc192 => ?_)
              ·
                have f106 := zleI cc192
                rw [show (1 : Int32).toInt = 1 from by decide] at f106
                exact (hJ215 w179 (C9_179) (F9_167) zSI.rf (fun _ _ => rfl) (by
                      exact hM179) hp179_1 (by
                      omega)).more (zfa1 rfl (zfa1 rfl (zfa1 rfl (zfa0))))
              ·
                have f107 := znleI cc192
                rw [show (1 : Int32).toInt = 1 from by decide] at f107
                refine zp_seg (pc' := 198) (lv' := [(0, .ref m), (2, .ref (m + 7486 + 9 * s9.toNatClampNeg)), (3, .int y3_95)]) (st' := [.int 94, .ref m]) [(195, .aload_n 0), (196, .bipush 94)] (by decide +kernel) rfl ?_
                have k108 := zrng C9_179
                have hb109 := hb100.si hsi179
                refine zr_callV (idx := 564) (j := 341) (by decide +kernel) (by decide +kernel) (show zMe 341 = some zq_X16_say from rfl) rfl rfl (Nat.le_of_ble_eq_true rfl) rfl rfl hM179 (Nat.le_of_ble_eq_true rfl) (Nat.le_of_ble_eq_true rfl) (c_X16_say (w := w179) (g25 := C9_179) m 94 hM179 hb109 hp179_1 (by first | omega | decide | assumption | exact zr1_1 | exact zr1_0 | fail "num") rfl) (by omega) (fun v198 w198 hp198 => ?_)
                obtain ⟨C9_198, hsi198, heq198, hp198_0, hp198_1, hp198_2, rfl⟩ := hp198
                have hM198 : w198 m = some (.inl (15, zMo m (zs (zs g 25 C9_198) 27 F9_167) r)) := hp198_0
                show zP _ _ _ _ [] _ _ _ _ _
                refine zp_seg (pc' := 203) (lv' := [(0, .ref m), (2, .ref (m + 7486 + 9 * s9.toNatClampNeg)), (3, .int y3_95)]) (st' := [.ref (m + 7486 + 9 * s9.toNatClampNeg), .ref m]) [(201, .aload_n 0), (202, .aload_n 2)] (by decide +kernel) rfl ?_
                have hb110 : w198 (m + 7486 + 9 * s9.toNatClampNeg) = some (.inl (13, zTo (m + 7486 + 9 * s9.toNatClampNeg) g1)) := (heq198 (m + 7486 + 9 * s9.toNatClampNeg) (by omega)).trans hb101
                refine zr_get (idx := 231) (k := 9) (v := .ref (m + 7486 + 9 * s9.toNatClampNeg + 6)) (by decide +kernel) (by decide +kernel) hb110 rfl ?_
                refine zp_seg (pc' := 207) (lv' := [(0, .ref m), (2, .ref (m + 7486 + 9 * s9.toNatClampNeg)), (3, .int y3_95)]) (st' := [.int y3_95, .ref (m + 7486 + 9 * s9.toNatClampNeg + 6), .ref m]) [(206, .iload_n 3)] (by decide +kernel) rfl ?_
                have hb111 : w198 (m + 7486 + 9 * s9.toNatClampNeg + 6) = some (.inr (0, 13, .inl fe1)) := (heq198 (m + 7486 + 9 * s9.toNatClampNeg + 6) (by omega)).trans hb102
                refine zr_iald (by decide +kernel) hb111 (zin (by first | omega | decide) (by first | omega | decide)) ?_
                rw [← ex109]
                refine zr_abs (idx := 273) (by decide +kernel) (by decide +kernel) (by omega) (Nat.le_of_ble_eq_true rfl) ?_
                obtain ⟨m112, em112, hm112⟩ := zabsI x109
                rw [← em112]
                have km112 := zrng m112
                have hA9 : m112 = AA := em112.trans hAe.symm
                have hA8 : m112.toInt = AA.toInt := by rw [hA9]
                refine zp_seg (pc' := 212) (lv' := [(0, .ref m), (2, .ref (m + 7486 + 9 * s9.toNatClampNeg)), (3, .int y3_95)]) (st' := [.long (m112.toInt64), .ref m]) [(211, .i2l)] (by decide +kernel) rfl ?_
                have k113 := zi2lM m112
                generalize ev212 : (m112.toInt64 : Int64) = v212 at k113 ⊢
                have kv212 := zrngL v212
                have k114 := zrng C9_198
                have hb115 := hb109.si hsi198
                refine zr_callV (idx := 571) (j := 342) (by decide +kernel) (by decide +kernel) (show zMe 342 = some zq_X16_sayNumber from rfl) rfl rfl (Nat.le_of_ble_eq_true rfl) rfl rfl hM198 (Nat.le_of_ble_eq_true rfl) (Nat.le_of_ble_eq_true rfl) (c_X16_sayNumber (w := w198) (g25 := C9_198) m v212 hM198 hb115 hp198_1 (by first | omega | decide | assumption | exact zr1_1 | exact zr1_0 | fail "num") (by first | omega | decide | assumption | exact zr1_1 | exact zr1_0 | fail "num") rfl) (by omega) (fun v212 w212 hp212 => ?_)
                obtain ⟨C9_212, hsi212, heq212, hp212_0, hp212_1, hp212_2, rfl⟩ := hp212
                have hM212 : w212 m = some (.inl (15, zMo m (zs (zs g 25 C9_212) 27 F9_167) r)) := hp212_0
                show zP _ _ _ _ [] _ _ _ _ _
                exact (hJ215 w212 (C9_212) (F9_167) (hsi198.tr hsi212) (fun x hx => ((heq212 x ⟨hx.1.1, hx.1.2⟩).trans (heq198 x ⟨hx.1.1, hx.1.2⟩))) (by
                      exact hM212) hp212_1 (by
                      omega)).more (zfa1 rfl (zfa1 rfl (zfa1 rfl (zfa0))))
            refine zp_if (i := .ifCond .le 8) (c := x109 ≤ 0) (t := 118) (e := 113) (lv' := [(0, .ref m), (2, .ref (m + 7486 + 9 * s9.toNatClampNeg)), (3, .int y3_95)]) (st' := [.ref m]) (by decide +kernel) rfl (fun cc110 => ?_) (fun cc110 => ?_)
            ·
              have f116 := zleI cc110
              rw [show (0 : Int32).toInt = 0 from by decide] at f116
              refine zp_seg (pc' := 120) (lv' := [(0, .ref m), (2, .ref (m + 7486 + 9 * s9.toNatClampNeg)), (3, .int y3_95)]) (st' := [.int 47, .ref m]) [(118, .bipush 47)] (by decide +kernel) rfl ?_
              have hl117 : (47 : Int32).toInt = 47 := by decide
              exact (hJ120 47 ).more (zfa1 rfl (zfa1 rfl (zfa1 rfl (zfa0))))
            ·
              have f118 := znleI cc110
              rw [show (0 : Int32).toInt = 0 from by decide] at f118
              refine zp_seg (pc' := 120) (lv' := [(0, .ref m), (2, .ref (m + 7486 + 9 * s9.toNatClampNeg)), (3, .int y3_95)]) (st' := [.int 42, .ref m]) [(113, .bipush 42), (115, .goto 5)] (by decide +kernel) rfl ?_
              have hl119 : (42 : Int32).toInt = 42 := by decide
              exact (hJ120 42 ).more (zfa1 rfl (zfa1 rfl (zfa1 rfl (zfa0))))
        have hl120 : (0 : Int32).toInt = 0 := by decide
        have hz121 : ((0 : Int32).toNatClampNeg : Int) = 0 := by decide
        exact (hL95 _ w90 0 (C9_90) (F9_64) zSI.rf (fun _ _ => rfl) (by first | assumption | omega | decide) (by first | assumption | omega | decide) (by
              exact hM90) hp90_1 (by
              omega) (Nat.lt_succ_self _)).more (zfa1 rfl (zfa1 rfl (zfa1 rfl (zfa0))))
      ·
        replace cc45 := Classical.not_not.mp cc45
        have k122 := zrng (g1 0)
        have f124 := zeqI cc45
        rw [show (1 : Int32).toInt = 1 from by decide] at f124
        refine zp_seg (pc' := 49) (lv' := [(0, .ref m), (2, .ref (m + 7486 + 9 * s9.toNatClampNeg))]) (st' := [.ref m]) [(48, .aload_n 0)] (by decide +kernel) rfl ?_
        refine zp_seg (pc' := 50) (lv' := [(0, .ref m), (2, .ref (m + 7486 + 9 * s9.toNatClampNeg))]) (st' := [.ref (m + 7486 + 9 * s9.toNatClampNeg), .ref m]) [(49, .aload_n 2)] (by decide +kernel) rfl ?_
        have hb125 := hR_m.si hsi37
        have hb126 : zBya w37 (m + 93) 4000 := hBl0.ag (fun x hx1 hx2 => (heq37 x (zx_X16_write_21 hx1 hx2)))
        have hb127 : w37 (m + 7486 + 9 * s9.toNatClampNeg + 1) = some (.inr (0, 325, .inl fn1)) := (heq37 (m + 7486 + 9 * s9.toNatClampNeg + 1) (by omega)).trans hAn1
        have hb128 : w37 (m + 7486 + 9 * s9.toNatClampNeg + 2) = some (.inr (0, 325, .inl fd1)) := (heq37 (m + 7486 + 9 * s9.toNatClampNeg + 2) (by omega)).trans hAd1
        refine zr_callV (idx := 587) (j := 346) (by decide +kernel) (by decide +kernel) (show zMe 346 = some zq_X16_sayRatio from rfl) rfl rfl (Nat.le_of_ble_eq_true rfl) rfl rfl hc37 (Nat.le_of_ble_eq_true rfl) (Nat.le_of_ble_eq_true rfl) (c_X16_sayRatio (w := w37) (g25 := 0) m (m + 7486 + 9 * s9.toNatClampNeg) hc37 hb125 hb126 hb15 hb127 hb128 (by exact hKn1) (by exact hKd1) (by first | omega | decide | assumption | exact zr1_1 | exact zr1_0 | fail "num") (by first | omega | decide | assumption | exact zr1_1 | exact zr1_0 | fail "num") rfl) (by omega) (fun v50 w50 hp50 => ?_)
        obtain ⟨C9_50, F9_50, hsi50, heq50, hp50_0, hp50_1, hp50_2, rfl⟩ := hp50
        have hM50 : w50 m = some (.inl (15, zMo m (zs (zs g 25 C9_50) 27 F9_50) r)) := hp50_0
        show zP _ _ _ _ [] _ _ _ _ _
        refine zp_seg (pc' := 221) (lv' := [(0, .ref m), (2, .ref (m + 7486 + 9 * s9.toNatClampNeg))]) (st' := []) [(53, .goto 168)] (by decide +kernel) rfl ?_
        exact (hJ221 w50 (C9_50) (F9_50) hsi50 (fun x hx => (heq50 x ⟨hx.1.1, hx.1.2⟩)) (by
              exact hM50) hp50_1 (by
              omega)).more (zfa1 rfl (zfa0))
    refine zp_if (i := .if_icmp .eq 14) (c := (g1 0) = 1) (t := 35) (e := 24) (lv' := [(2, .ref (m + 7486 + 9 * s9.toNatClampNeg)), (0, .ref m), (1, .int s9)]) (st' := []) (by decide +kernel) rfl (fun cc21 => ?_) (fun cc21 => ?_)
    ·
      have k129 := zrng (g1 0)
      have f131 := zeqI cc21
      rw [show (1 : Int32).toInt = 1 from by decide] at f131
      exact (hJ35 trivial (by
            first | exact Or.inl (hK10.symm.trans cc21) | exact Or.inr (hK10.symm.trans cc29))).more (zfa1 rfl (zfa1 rfl (zfa0)))
    ·
      have k132 := zrng (g1 0)
      have f134 := zneI cc21
      rw [show (1 : Int32).toInt = 1 from by decide] at f134
      refine zp_seg (pc' := 25) (lv' := [(2, .ref (m + 7486 + 9 * s9.toNatClampNeg)), (0, .ref m), (1, .int s9)]) (st' := [.ref (m + 7486 + 9 * s9.toNatClampNeg)]) [(24, .aload_n 2)] (by decide +kernel) rfl ?_
      refine zr_get (idx := 202) (k := 0) (v := .int (g1 0)) (by decide +kernel) (by decide +kernel) hT1 rfl ?_
      refine zp_seg (pc' := 29) (lv' := [(2, .ref (m + 7486 + 9 * s9.toNatClampNeg)), (0, .ref m), (1, .int s9)]) (st' := [.int 2, .int (g1 0)]) [(28, .iconst 2)] (by decide +kernel) rfl ?_
      refine zp_if (i := .if_icmp .eq 6) (c := (g1 0) = 2) (t := 35) (e := 32) (lv' := [(2, .ref (m + 7486 + 9 * s9.toNatClampNeg)), (0, .ref m), (1, .int s9)]) (st' := []) (by decide +kernel) rfl (fun cc29 => ?_) (fun cc29 => ?_)
      ·
        have f136 := zeqI cc29
        rw [show (2 : Int32).toInt = 2 from by decide] at f136
        exact (hJ35 trivial (by
              first | exact Or.inl (hK10.symm.trans cc21) | exact Or.inr (hK10.symm.trans cc29))).more (zfa1 rfl (zfa1 rfl (zfa0)))
      ·
        have f138 := zneI cc29
        rw [show (2 : Int32).toInt = 2 from by decide] at f138
        refine zp_seg (pc' := 34) (lv' := [(2, .ref (m + 7486 + 9 * s9.toNatClampNeg)), (0, .ref m), (1, .int s9)]) (st' := [.int (Int32.ofInt (-3))]) [(32, .bipush (-3))] (by decide +kernel) rfl ?_
        have hoffend : ∀ x, (x < m + 0 ∨ m + 0 + 8322 ≤ x) → w x = w x := fun x hx => rfl
        refine zr_retI (by decide +kernel) rfl ?_
        rw [← hPost]; exact ⟨rfl, _, rfl, zSI.rf, hoffend, ⟨_, _, hm, hR_m, hSl0, hMd0, hPl0, ⟨_, hAf0, hff⟩, hBo0, hBl0, hGa0, hGb0, hBd0, hI12, hI24, hI29, hI31, hIn⟩, _, rfl, trivial⟩
  ·
    replace cc4 := Classical.not_not.mp cc4
    have f141 := zeqI cc4
    rw [show (0 : Int32).toInt = 0 from by decide] at f141
    refine zp_seg (pc' := 8) (lv' := [(0, .ref m), (1, .int s9)]) (st' := [.int (Int32.ofInt (-1))]) [(7, .iconst (-1))] (by decide +kernel) rfl ?_
    have hoffend : ∀ x, (x < m + 0 ∨ m + 0 + 8322 ≤ x) → w x = w x := fun x hx => rfl
    refine zr_retI (by decide +kernel) rfl ?_
    rw [← hPost]; exact ⟨rfl, _, rfl, zSI.rf, hoffend, ⟨_, _, hm, hR_m, hSl0, hMd0, hPl0, ⟨_, hAf0, hff⟩, hBo0, hBl0, hGa0, hGb0, hBd0, hI12, hI24, hI29, hI31, hIn⟩, _, rfl, trivial⟩
