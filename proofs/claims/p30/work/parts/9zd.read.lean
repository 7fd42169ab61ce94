theorem zx_X16_readB_0 {m x : Nat} (h0 : x < m ∨ m + 1 ≤ x) : x ≠ m := by omega
theorem zx_X16_readB_1 {m : Nat}  : (m + 80) < m ∨ m + 1 ≤ (m + 80) := by omega
theorem zx_X16_readB_2 {m : Nat}  : (m + 80) ≠ m := by omega
set_option maxHeartbeats 8000000 in
set_option maxRecDepth 100000 in
theorem c_X16_readB {w : zM} {g : Nat → Int32} {r : Nat → Value} {ft : Nat → Int32} {g12 : Int32} {g13 : Int32} {g14 : Int32} (m : Nat) {n9 k9 : Nat} (hk9 : 30 ≤ k9) (hc9 : ∀ {w : zM} {g : Nat → Int32} {r : Nat → Value} {ft : Nat → Int32} {g12 : Int32} {g13 : Int32} {g14 : Int32} (m : Nat) (hm : w m = some (.inl (15, zMo m g r))) (hR_m : zR m w) (htp : 0 ≤ g13.toInt ∧ g13.toInt ≤ g12.toInt ∧ g12.toInt ≤ 400) (hA_m_80 : w (m + 80) = some (.inr (1, 400, .inl ft))) (hop : 0 ≤ g14.toInt ∧ g14.toInt ≤ 20) (hdp : zDep ft g13.toNatClampNeg = g14.toInt) (hlv : 21 ≤ g14.toInt + (n9 : Int)) (hg12 : g 12 = g12) (hg13 : g 13 = g13) (hg14 : g 14 = g14), zConT k9 zq_X16_readE [.ref m] w (fun v9 w9' => ∃ A9 : Int32, zSI w w9' ∧ (∀ x, (x < m ∨ m + 1 ≤ x) → w9' x = w x) ∧ w9' m = some (.inl (15, zMo m (zs g 13 A9) r)) ∧ ((g13.toInt ≤ A9.toInt ∧ A9.toInt ≤ g12.toInt) ∧ zTd ft g12.toNatClampNeg g13.toNatClampNeg A9.toNatClampNeg) ∧ v9 = none) (fun w9' => ∃ G9 : Nat → Int32, zSI w w9' ∧ (∀ x, (x < m ∨ m + 1 ≤ x) → w9' x = w x) ∧ w9' m = some (.inl (15, zMo m G9 r)) ∧ (zKp G9 g))) (hm : w m = some (.inl (15, zMo m g r))) (hR_m : zR m w) (htp : 0 ≤ g13.toInt ∧ g13.toInt ≤ g12.toInt ∧ g12.toInt ≤ 400) (hA_m_80 : w (m + 80) = some (.inr (1, 400, .inl ft))) (hop : 0 ≤ g14.toInt ∧ g14.toInt ≤ 20) (hdp : zDep ft g13.toNatClampNeg = g14.toInt) (hlv : 21 ≤ g14.toInt + (n9 : Int) + 1) (hg12 : g 12 = g12) (hg13 : g 13 = g13) (hg14 : g 14 = g14) : zConT (k9 + 1) zq_X16_readB [.ref m] w (fun v9 w9' => ∃ A9 : Int32, zSI w w9' ∧ (∀ x, (x < m ∨ m + 1 ≤ x) → w9' x = w x) ∧ w9' m = some (.inl (15, zMo m (zs g 13 A9) r)) ∧ ((g13.toInt ≤ A9.toInt ∧ A9.toInt ≤ g12.toInt) ∧ zTd ft g12.toNatClampNeg g13.toNatClampNeg A9.toNatClampNeg) ∧ v9 = none) (fun w9' => ∃ G9 : Nat → Int32, zSI w w9' ∧ (∀ x, (x < m ∨ m + 1 ≤ x) → w9' x = w x) ∧ w9' m = some (.inl (15, zMo m G9 r)) ∧ (zKp G9 g)) := by
  subst hg12
  subst hg13
  subst hg14
  intro d sz hd
  obtain ⟨d, rfl⟩ : ∃ d9, d = d9 + 1 := ⟨d - 1, by omega⟩
  generalize hPost : (fun (r9' : Option (Option Value)) (w9' : zM) (z9 : Nat) => z9 = sz ∧ ((∃ v9, r9' = some v9 ∧ (∃ A9 : Int32, zSI w w9' ∧ (∀ x, (x < m ∨ m + 1 ≤ x) → w9' x = w x) ∧ w9' m = some (.inl (15, zMo m (zs g 13 A9) r)) ∧ (((g 13).toInt ≤ A9.toInt ∧ A9.toInt ≤ (g 12).toInt) ∧ zTd ft (g 12).toNatClampNeg (g 13).toNatClampNeg A9.toNatClampNeg) ∧ v9 = none)) ∨ (r9' = none ∧ (∃ G9 : Nat → Int32, zSI w w9' ∧ (∀ x, (x < m ∨ m + 1 ≤ x) → w9' x = w x) ∧ w9' m = some (.inl (15, zMo m G9 r)) ∧ (zKp G9 g))))) = Post
  show zP (d + 1) zq_X16_readB 0 [(0, .ref m)] [] w sz 0 0 Post
  have k1 := zrng (g 12)
  have hz2 : ((g 12).toNatClampNeg : Int) = (g 12).toInt := znat (by first | omega | decide)
  have k3 := zrng (g 13)
  have hz4 : ((g 13).toNatClampNeg : Int) = (g 13).toInt := znat (by first | omega | decide)
  refine zp_seg (pc' := 1) (lv' := [(0, .ref m)]) (st' := [.ref m]) [(0, .aload_n 0)] (by decide +kernel) rfl ?_
  refine zr_callV (idx := 343) (j := 319) (by decide +kernel) (by decide +kernel) (show zMe 319 = some zq_X16_look from rfl) rfl rfl (Nat.le_of_ble_eq_true rfl) rfl rfl hm (Nat.le_of_ble_eq_true rfl) (Nat.le_of_ble_eq_true rfl) (c_X16_look (w := w) (g12 := (g 12)) (g13 := (g 13)) m hm hR_m (by first | omega | decide | assumption | exact zr1_1 | exact zr1_0 | fail "num") hA_m_80 (by first | omega | decide | assumption | exact zr1_1 | exact zr1_0 | fail "num") rfl rfl) (by omega) (fun v1 w1 hp1 => ?_)
  obtain ⟨A9_1, hsi1, heq1, hp1_0, hp1_1, r1, rfl, hr1⟩ := hp1
  have hM1 : w1 m = some (.inl (15, zMo m (zs g 13 A9_1) r)) := hp1_0
  have kr1 := zrng r1
  show zP _ _ _ _ [.int r1] _ _ _ _ _
  refine zp_seg (pc' := 5) (lv' := [(1, .int r1), (0, .ref m)]) (st' := []) [(4, .istore_n 1)] (by decide +kernel) rfl ?_
  have hzA := znat (x := A9_1) (by omega)
  refine zp_seg (pc' := 8) (lv' := [(1, .int r1), (0, .ref m)]) (st' := [.int 48, .int r1]) [(5, .iload_n 1), (6, .bipush 48)] (by decide +kernel) rfl ?_
  refine zp_if (i := .if_icmp .lt 85) (c := r1 < 48) (t := 93) (e := 11) (lv' := [(1, .int r1), (0, .ref m)]) (st' := []) (by decide +kernel) rfl (fun cc8 => ?_) (fun cc8 => ?_)
  ·
    have f6 := zltI cc8
    rw [show (48 : Int32).toInt = 48 from by decide] at f6
    refine zp_seg (pc' := 96) (lv' := [(1, .int r1), (0, .ref m)]) (st' := [.int 110, .int r1]) [(93, .iload_n 1), (94, .bipush 110)] (by decide +kernel) rfl ?_
    refine zp_if (i := .if_icmp .eq 9) (c := r1 = 110) (t := 105) (e := 99) (lv' := [(1, .int r1), (0, .ref m)]) (st' := []) (by decide +kernel) rfl (fun cc96 => ?_) (fun cc96 => ?_)
    ·
      have f8 := zeqI cc96
      rw [show (110 : Int32).toInt = 110 from by decide] at f8
      obtain ⟨P9, hP9⟩ : ∃ P, P = (A9_1).toNatClampNeg := ⟨_, rfl⟩
      have hzP : (P9 : Int) = (A9_1).toInt := by rw [hP9]; exact znat (by omega)
      obtain ⟨hq1, hq2⟩ : P9 < (g 12).toNatClampNeg ∧ zTd ft (g 12).toNatClampNeg (g 13).toNatClampNeg (P9 + 1) := by
        rw [hP9]
        first
        | exact zTd_chr (hp1_1.2) (hr1.symm.trans cc96) (by decide) (by decide) (by decide) (by unfold zDig; decide)
        | exact zTd_chr (hp1_1.2) (hr1.symm.trans cc102) (by decide) (by decide) (by decide) (by unfold zDig; decide)
      refine zp_seg (pc' := 107) (lv' := [(1, .int r1), (0, .ref m)]) (st' := [.ref m, .ref m]) [(105, .aload_n 0), (106, .dup)] (by decide +kernel) rfl ?_
      refine zr_get (idx := 334) (k := 13) (v := .int A9_1) (by decide +kernel) (by decide +kernel) hM1 rfl ?_
      refine zp_seg (pc' := 112) (lv' := [(1, .int r1), (0, .ref m)]) (st' := [.int (A9_1 + 1), .ref m]) [(110, .iconst 1), (111, .iadd)] (by decide +kernel) rfl ?_
      have k9 := zrng A9_1
      have k10 := zaddC A9_1 1 (n := 1) (by decide) (by omega) (by omega)
      generalize ev112 : (A9_1 + 1 : Int32) = v112 at k10 ⊢
      have kv112 := zrng v112
      refine zr_put2 (idx := 334) (k := 13) (fs2 := zMo m (zs g 13 v112) r) (by decide +kernel) (by decide +kernel) hM1 (Nat.le_of_ble_eq_true rfl) rfl rfl rfl ?_
      show zP (d + 1) zq_X16_readB 115 [(1, .int r1), (0, .ref m)] [] (zup w1 m (.inl (15, zMo m (zs g 13 v112) r))) sz 0 0 Post
      obtain ⟨w112, ew112⟩ : ∃ wz9, wz9 = zup w1 m (.inl (15, zMo m (zs g 13 v112) r)) := ⟨_, rfl⟩
      have hsi112 : zSI w1 w112 := by rw [ew112]; exact zSI.setG hM1 _ _
      have heq112 : ∀ x, x ≠ m → w112 x = w1 x := fun x hx => by rw [ew112]; exact zup_n hx
      have hc112 : w112 m = some (.inl (15, zMo m (zs g 13 v112) r)) := by rw [ew112]; exact zup_s
      rw [← ew112]
      clear ew112
      have hz9 := znat (x := v112) (by omega)
      have hq3 : zTd ft (g 12).toNatClampNeg (g 13).toNatClampNeg (v112).toNatClampNeg := by rw [show (v112).toNatClampNeg = P9 + 1 by omega]; exact hq2
      refine zp_seg (pc' := 214) (lv' := [(1, .int r1), (0, .ref m)]) (st' := []) [(115, .goto 99)] (by decide +kernel) rfl ?_
      have hoffend : ∀ x, (x < m ∨ m + 1 ≤ x) → w112 x = w x := fun x hx => ((heq112 x (zx_X16_readB_0 hx)).trans (heq1 x hx))
      refine zr_retV (by decide +kernel) rfl ?_
      rw [← hPost]; exact ⟨rfl, Or.inl ⟨_, rfl, v112, (hsi1.tr hsi112), hoffend, (by
            first
            | exact hc112
            | exact zM14 hc112 (by omega)), (by
            first | exact ⟨by omega, hq4⟩ | exact ⟨by omega, hq3⟩), rfl⟩⟩
    ·
      have f12 := zneI cc96
      rw [show (110 : Int32).toInt = 110 from by decide] at f12
      refine zp_seg (pc' := 102) (lv' := [(1, .int r1), (0, .ref m)]) (st' := [.int 107, .int r1]) [(99, .iload_n 1), (100, .bipush 107)] (by decide +kernel) rfl ?_
      refine zp_if (i := .if_icmp .ne 16) (c := ¬ r1 = 107) (t := 118) (e := 105) (lv' := [(1, .int r1), (0, .ref m)]) (st' := []) (by decide +kernel) rfl (fun cc102 => ?_) (fun cc102 => ?_)
      ·
        have f14 := zneI cc102
        rw [show (107 : Int32).toInt = 107 from by decide] at f14
        refine zp_seg (pc' := 121) (lv' := [(1, .int r1), (0, .ref m)]) (st' := [.int 40, .int r1]) [(118, .iload_n 1), (119, .bipush 40)] (by decide +kernel) rfl ?_
        refine zp_if (i := .if_icmp .ne 30) (c := ¬ r1 = 40) (t := 151) (e := 124) (lv' := [(1, .int r1), (0, .ref m)]) (st' := []) (by decide +kernel) rfl (fun cc121 => ?_) (fun cc121 => ?_)
        ·
          have f16 := zneI cc121
          rw [show (40 : Int32).toInt = 40 from by decide] at f16
          refine zp_seg (pc' := 154) (lv' := [(1, .int r1), (0, .ref m)]) (st' := [.int 67, .int r1]) [(151, .iload_n 1), (152, .bipush 67)] (by decide +kernel) rfl ?_
          refine zp_if (i := .if_icmp .ne 50) (c := ¬ r1 = 67) (t := 204) (e := 157) (lv' := [(1, .int r1), (0, .ref m)]) (st' := []) (by decide +kernel) rfl (fun cc154 => ?_) (fun cc154 => ?_)
          ·
            have f18 := zneI cc154
            rw [show (67 : Int32).toInt = 67 from by decide] at f18
            refine zp_seg (pc' := 207) (lv' := [(1, .int r1), (0, .ref m)]) (st' := [.ref m, .int 1, .ref m]) [(204, .aload_n 0), (205, .iconst 1), (206, .aload_n 0)] (by decide +kernel) rfl ?_
            refine zr_get (idx := 334) (k := 13) (v := .int A9_1) (by decide +kernel) (by decide +kernel) hM1 rfl ?_
            have hb19 := hR_m.si hsi1
            refine zr_callV (idx := 346) (j := 318) (by decide +kernel) (by decide +kernel) (show zMe 318 = some zq_X16_fail from rfl) rfl rfl (Nat.le_of_ble_eq_true rfl) rfl rfl hM1 (Nat.le_of_ble_eq_true rfl) (Nat.le_of_ble_eq_true rfl) (c_X16_fail (w := w1) m 1 A9_1 hM1 hb19) (by omega) (fun v210 w210 hp210 => ?_)
            obtain ⟨hsi210, heq210, hp210_0, rfl⟩ := hp210
            have hM210 : w210 m = some (.inl (15, zMo m (zs (zs (zs g 9 1) 10 A9_1) 13 A9_1) r)) := hp210_0
            show zP _ _ _ _ [.ref (m + 79)] _ _ _ _ _
            have hb20 := hb19.si hsi210
            obtain ⟨fs9, hst9⟩ := hb20.stop
            refine zr_thr (by decide +kernel) hst9 ?_
            rw [← hPost]; exact ⟨rfl, Or.inr ⟨rfl, (zs (zs (zs g 9 1) 10 A9_1) 13 A9_1), (hsi1.tr hsi210), (fun x hx => ((heq210 x hx).trans (heq1 x hx))), hM210, (by
                  first | exact hx9_1 | exact ⟨rfl, rfl, rfl, rfl⟩)⟩⟩
          ·
            replace cc154 := Classical.not_not.mp cc154
            have f22 := zeqI cc154
            rw [show (67 : Int32).toInt = 67 from by decide] at f22
            obtain ⟨P9, hP9⟩ : ∃ P, P = (A9_1).toNatClampNeg := ⟨_, rfl⟩
            have hzP : (P9 : Int) = (A9_1).toInt := by rw [hP9]; exact znat (by omega)
            obtain ⟨hq1, hq2⟩ : P9 < (g 12).toNatClampNeg ∧ zTd ft (g 12).toNatClampNeg (g 13).toNatClampNeg (P9 + 1) := by
              rw [hP9]
              first
              | exact zTd_chr (hp1_1.2) (hr1.symm.trans cc154) (by decide) (by decide) (by decide) (by unfold zDig; decide)
            refine zp_seg (pc' := 159) (lv' := [(1, .int r1), (0, .ref m)]) (st' := [.ref m, .ref m]) [(157, .aload_n 0), (158, .dup)] (by decide +kernel) rfl ?_
            refine zr_get (idx := 334) (k := 13) (v := .int A9_1) (by decide +kernel) (by decide +kernel) hM1 rfl ?_
            refine zp_seg (pc' := 164) (lv' := [(1, .int r1), (0, .ref m)]) (st' := [.int (A9_1 + 1), .ref m]) [(162, .iconst 1), (163, .iadd)] (by decide +kernel) rfl ?_
            have k23 := zrng A9_1
            have k24 := zaddC A9_1 1 (n := 1) (by decide) (by omega) (by omega)
            generalize ev164 : (A9_1 + 1 : Int32) = v164 at k24 ⊢
            have kv164 := zrng v164
            refine zr_put2 (idx := 334) (k := 13) (fs2 := zMo m (zs g 13 v164) r) (by decide +kernel) (by decide +kernel) hM1 (Nat.le_of_ble_eq_true rfl) rfl rfl rfl ?_
            show zP (d + 1) zq_X16_readB 167 [(1, .int r1), (0, .ref m)] [] (zup w1 m (.inl (15, zMo m (zs g 13 v164) r))) sz 0 0 Post
            obtain ⟨w164, ew164⟩ : ∃ wz9, wz9 = zup w1 m (.inl (15, zMo m (zs g 13 v164) r)) := ⟨_, rfl⟩
            have hsi164 : zSI w1 w164 := by rw [ew164]; exact zSI.setG hM1 _ _
            have heq164 : ∀ x, x ≠ m → w164 x = w1 x := fun x hx => by rw [ew164]; exact zup_n hx
            have hc164 : w164 m = some (.inl (15, zMo m (zs g 13 v164) r)) := by rw [ew164]; exact zup_s
            rw [← ew164]
            clear ew164
            have hz9 := znat (x := v164) (by omega)
            have hq3 : zTd ft (g 12).toNatClampNeg (g 13).toNatClampNeg (v164).toNatClampNeg := by rw [show (v164).toNatClampNeg = P9 + 1 by omega]; exact hq2
            refine zp_seg (pc' := 168) (lv' := [(1, .int r1), (0, .ref m)]) (st' := [.ref m]) [(167, .aload_n 0)] (by decide +kernel) rfl ?_
            have k25 := zrng (g 14)
            have hb26 := hR_m.si (hsi1.tr hsi164)
            have hb27 : w164 (m + 80) = some (.inr (1, 400, .inl ft)) := ((heq164 (m + 80) (zx_X16_readB_2)).trans (heq1 (m + 80) (zx_X16_readB_1))).trans hA_m_80
            refine zr_callVT (idx := 362) (j := 324) (by decide +kernel) (by decide +kernel) (show zMe 324 = some zq_X16_bracket from rfl) rfl rfl (Nat.le_of_ble_eq_true rfl) rfl rfl hc164 (Nat.le_of_ble_eq_true rfl) (Nat.le_of_ble_eq_true rfl) (c_X16_bracket (w := w164) (g12 := (g 12)) (g13 := v164) (g14 := (g 14)) m hc164 hb26 (by first | omega | decide | assumption | exact zr1_1 | exact zr1_0 | fail "num") hb27 (by first | omega | decide | assumption | exact zr1_1 | exact zr1_0 | fail "num") (by exact hq3.2.trans hdp) rfl rfl rfl) (by omega) (fun v168 w168 hp168 => ?_) (fun wx9 hx9 => by
                  obtain ⟨G9_x9, hsix9, heqx9, hx9_0, hx9_1⟩ := hx9
                  skip
                  rw [← hPost]
                  exact ⟨rfl, Or.inr ⟨rfl, G9_x9, ((hsi1.tr hsi164).tr hsix9), (fun x hx => ((heqx9 x hx).trans ((heq164 x (zx_X16_readB_0 hx)).trans (heq1 x hx)))), hx9_0, (by
                        first | exact hx9_1 | exact ⟨rfl, rfl, rfl, rfl⟩)⟩⟩)
            obtain ⟨A9_168, O9_168, hsi168, heq168, hp168_0, hp168_1, rfl⟩ := hp168
            have hM168 : w168 m = some (.inl (15, zMo m (zs (zs g 13 A9_168) 14 O9_168) r)) := hp168_0
            show zP _ _ _ _ [] _ _ _ _ _
            refine zp_seg (pc' := 172) (lv' := [(1, .int r1), (0, .ref m)]) (st' := [.ref m]) [(171, .aload_n 0)] (by decide +kernel) rfl ?_
            have k28 := zrng A9_168
            have k29 := zrng O9_168
            have hb30 := hb26.si hsi168
            have hb31 : w168 (m + 80) = some (.inr (1, 400, .inl ft)) := (heq168 (m + 80) (zx_X16_readB_1)).trans hb27
            refine zr_callVT (idx := 365) (j := 321) (by decide +kernel) (by decide +kernel) (show zMe 321 = some zq_X16_readE from rfl) rfl rfl (Nat.le_of_ble_eq_true rfl) rfl rfl hM168 (Nat.le_of_ble_eq_true rfl) (Nat.le_of_ble_eq_true rfl) (hc9 (w := w168) (g12 := (g 12)) (g13 := A9_168) (g14 := O9_168) m hM168 hb30 (by first | omega | decide | assumption | exact zr1_1 | exact zr1_0 | fail "num") hb31 (by first | omega | decide | assumption | exact zr1_1 | exact zr1_0 | fail "num") (by exact hp168_1.2.2) (by first | omega | decide | assumption | exact zr1_1 | exact zr1_0 | fail "num") rfl rfl rfl) (by omega) (fun v172 w172 hp172 => ?_) (fun wx9 hx9 => by
                  obtain ⟨G9_x9, hsix9, heqx9, hx9_0, hx9_1⟩ := hx9
                  skip
                  rw [← hPost]
                  exact ⟨rfl, Or.inr ⟨rfl, G9_x9, (((hsi1.tr hsi164).tr hsi168).tr hsix9), (fun x hx => ((heqx9 x hx).trans ((heq168 x hx).trans ((heq164 x (zx_X16_readB_0 hx)).trans (heq1 x hx))))), hx9_0, (by
                        first | exact hx9_1 | exact ⟨rfl, rfl, rfl, rfl⟩)⟩⟩)
            obtain ⟨A9_172, hsi172, heq172, hp172_0, hp172_1, rfl⟩ := hp172
            have hM172 : w172 m = some (.inl (15, zMo m (zs (zs g 13 A9_172) 14 O9_168) r)) := hp172_0
            show zP _ _ _ _ [] _ _ _ _ _
            refine zp_seg (pc' := 178) (lv' := [(1, .int r1), (0, .ref m)]) (st' := [.int 44, .ref m]) [(175, .aload_n 0), (176, .bipush 44)] (by decide +kernel) rfl ?_
            have k32 := zrng A9_172
            have hb33 := hb30.si hsi172
            have hb34 : w172 (m + 80) = some (.inr (1, 400, .inl ft)) := (heq172 (m + 80) (zx_X16_readB_1)).trans hb31
            refine zr_callVT (idx := 368) (j := 320) (by decide +kernel) (by decide +kernel) (show zMe 320 = some zq_X16_must from rfl) rfl rfl (Nat.le_of_ble_eq_true rfl) rfl rfl hM172 (Nat.le_of_ble_eq_true rfl) (Nat.le_of_ble_eq_true rfl) (c_X16_must (w := w172) (g12 := (g 12)) (g13 := A9_172) m 44 hM172 hb33 (by first | omega | decide | assumption | exact zr1_1 | exact zr1_0 | fail "num") hb34 (by exact hp172_1.2.d) (by first | omega | decide | assumption | exact zr1_1 | exact zr1_0 | fail "num") rfl rfl) (by omega) (fun v178 w178 hp178 => ?_) (fun wx9 hx9 => by
                  obtain ⟨G9_x9, hsix9, heqx9, hx9_0, hx9_1⟩ := hx9
                  skip
                  rw [← hPost]
                  exact ⟨rfl, Or.inr ⟨rfl, G9_x9, ((((hsi1.tr hsi164).tr hsi168).tr hsi172).tr hsix9), (fun x hx => ((heqx9 x hx).trans ((heq172 x hx).trans ((heq168 x hx).trans ((heq164 x (zx_X16_readB_0 hx)).trans (heq1 x hx)))))), hx9_0, (by
                        first | exact hx9_1 | exact ⟨rfl, rfl, rfl, rfl⟩)⟩⟩)
            obtain ⟨A9_178, hsi178, heq178, hp178_0, hp178_1, rfl⟩ := hp178
            have hM178 : w178 m = some (.inl (15, zMo m (zs (zs g 13 A9_178) 14 O9_168) r)) := hp178_0
            show zP _ _ _ _ [] _ _ _ _ _
            obtain ⟨C9, d1, d2, d3, d4⟩ := hp178_1.2
            have hd9 : zTd ft (g 12).toNatClampNeg A9_172.toNatClampNeg A9_178.toNatClampNeg := by rw [d4]; exact zTd_step d1 d2 (by rw [d3]; decide) (by rw [d3]; decide) (fun k => by have k1 := zDig_and k; rw [d3] at k1; rw [← k1] at k; exact absurd k (by unfold zDig; decide))
            refine zp_seg (pc' := 182) (lv' := [(1, .int r1), (0, .ref m)]) (st' := [.ref m]) [(181, .aload_n 0)] (by decide +kernel) rfl ?_
            have k35 := zrng A9_178
            have hb36 := hb33.si hsi178
            have hb37 : w178 (m + 80) = some (.inr (1, 400, .inl ft)) := (heq178 (m + 80) (zx_X16_readB_1)).trans hb34
            refine zr_callVT (idx := 365) (j := 321) (by decide +kernel) (by decide +kernel) (show zMe 321 = some zq_X16_readE from rfl) rfl rfl (Nat.le_of_ble_eq_true rfl) rfl rfl hM178 (Nat.le_of_ble_eq_true rfl) (Nat.le_of_ble_eq_true rfl) (hc9 (w := w178) (g12 := (g 12)) (g13 := A9_178) (g14 := O9_168) m hM178 hb36 (by first | omega | decide | assumption | exact zr1_1 | exact zr1_0 | fail "num") hb37 (by first | omega | decide | assumption | exact zr1_1 | exact zr1_0 | fail "num") (by exact hd9.2.trans (hp172_1.2.2.trans hp168_1.2.2)) (by first | omega | decide | assumption | exact zr1_1 | exact zr1_0 | fail "num") rfl rfl rfl) (by omega) (fun v182 w182 hp182 => ?_) (fun wx9 hx9 => by
                  obtain ⟨G9_x9, hsix9, heqx9, hx9_0, hx9_1⟩ := hx9
                  skip
                  rw [← hPost]
                  exact ⟨rfl, Or.inr ⟨rfl, G9_x9, (((((hsi1.tr hsi164).tr hsi168).tr hsi172).tr hsi178).tr hsix9), (fun x hx => ((heqx9 x hx).trans ((heq178 x hx).trans ((heq172 x hx).trans ((heq168 x hx).trans ((heq164 x (zx_X16_readB_0 hx)).trans (heq1 x hx))))))), hx9_0, (by
                        first | exact hx9_1 | exact ⟨rfl, rfl, rfl, rfl⟩)⟩⟩)
            obtain ⟨A9_182, hsi182, heq182, hp182_0, hp182_1, rfl⟩ := hp182
            have hM182 : w182 m = some (.inl (15, zMo m (zs (zs g 13 A9_182) 14 O9_168) r)) := hp182_0
            show zP _ _ _ _ [] _ _ _ _ _
            refine zp_seg (pc' := 188) (lv' := [(1, .int r1), (0, .ref m)]) (st' := [.int 41, .ref m]) [(185, .aload_n 0), (186, .bipush 41)] (by decide +kernel) rfl ?_
            have k38 := zrng A9_182
            have hb39 := hb36.si hsi182
            have hb40 : w182 (m + 80) = some (.inr (1, 400, .inl ft)) := (heq182 (m + 80) (zx_X16_readB_1)).trans hb37
            refine zr_callVT (idx := 368) (j := 320) (by decide +kernel) (by decide +kernel) (show zMe 320 = some zq_X16_must from rfl) rfl rfl (Nat.le_of_ble_eq_true rfl) rfl rfl hM182 (Nat.le_of_ble_eq_true rfl) (Nat.le_of_ble_eq_true rfl) (c_X16_must (w := w182) (g12 := (g 12)) (g13 := A9_182) m 41 hM182 hb39 (by first | omega | decide | assumption | exact zr1_1 | exact zr1_0 | fail "num") hb40 (by exact hp182_1.2.d) (by first | omega | decide | assumption | exact zr1_1 | exact zr1_0 | fail "num") rfl rfl) (by omega) (fun v188 w188 hp188 => ?_) (fun wx9 hx9 => by
                  obtain ⟨G9_x9, hsix9, heqx9, hx9_0, hx9_1⟩ := hx9
                  skip
                  rw [← hPost]
                  exact ⟨rfl, Or.inr ⟨rfl, G9_x9, ((((((hsi1.tr hsi164).tr hsi168).tr hsi172).tr hsi178).tr hsi182).tr hsix9), (fun x hx => ((heqx9 x hx).trans ((heq182 x hx).trans ((heq178 x hx).trans ((heq172 x hx).trans ((heq168 x hx).trans ((heq164 x (zx_X16_readB_0 hx)).trans (heq1 x hx)))))))), hx9_0, (by
                        first | exact hx9_1 | exact ⟨rfl, rfl, rfl, rfl⟩)⟩⟩)
            obtain ⟨A9_188, hsi188, heq188, hp188_0, hp188_1, rfl⟩ := hp188
            have hM188 : w188 m = some (.inl (15, zMo m (zs (zs g 13 A9_188) 14 O9_168) r)) := hp188_0
            show zP _ _ _ _ [] _ _ _ _ _
            obtain ⟨B9, b1, b2, b3, b4⟩ := hp188_1.2
            have b5 := hp172_1.2.2.trans hp168_1.2.2
            have b6 := zTq_close b2 b3 b1.d
            have b9 := hd9.2
            have c1 := hp182_1.2.2
            have hq4 : zTd ft (g 12).toNatClampNeg (g 13).toNatClampNeg A9_188.toNatClampNeg := by
              rw [b4]
              refine ⟨((hq3.1.tr hp168_1.2.1).tr (hp172_1.2.1.tr (hd9.1.tr (hp182_1.2.1.tr b1.1)))).tr b6.1, ?_⟩
              have b7 := b1.2
              have b8 := hq3.2
              omega
            refine zp_seg (pc' := 193) (lv' := [(1, .int r1), (0, .ref m)]) (st' := [.ref m, .ref m]) [(191, .aload_n 0), (192, .dup)] (by decide +kernel) rfl ?_
            refine zr_get (idx := 359) (k := 14) (v := .int O9_168) (by decide +kernel) (by decide +kernel) hM188 rfl ?_
            refine zp_seg (pc' := 198) (lv' := [(1, .int r1), (0, .ref m)]) (st' := [.int (O9_168 - 1), .ref m]) [(196, .iconst 1), (197, .isub)] (by decide +kernel) rfl ?_
            have k41 := zsubC O9_168 1 (n := 1) (by decide) (by omega) (by omega)
            generalize ev198 : (O9_168 - 1 : Int32) = v198 at k41 ⊢
            have kv198 := zrng v198
            refine zr_put2 (idx := 359) (k := 14) (fs2 := zMo m (zs (zs g 13 A9_188) 14 v198) r) (by decide +kernel) (by decide +kernel) hM188 (Nat.le_of_ble_eq_true rfl) rfl rfl rfl ?_
            show zP (d + 1) zq_X16_readB 201 [(1, .int r1), (0, .ref m)] [] (zup w188 m (.inl (15, zMo m (zs (zs g 13 A9_188) 14 v198) r))) sz 0 0 Post
            obtain ⟨w198, ew198⟩ : ∃ wz9, wz9 = zup w188 m (.inl (15, zMo m (zs (zs g 13 A9_188) 14 v198) r)) := ⟨_, rfl⟩
            have hsi198 : zSI w188 w198 := by rw [ew198]; exact zSI.setG hM188 _ _
            have heq198 : ∀ x, x ≠ m → w198 x = w188 x := fun x hx => by rw [ew198]; exact zup_n hx
            have hc198 : w198 m = some (.inl (15, zMo m (zs (zs g 13 A9_188) 14 v198) r)) := by rw [ew198]; exact zup_s
            rw [← ew198]
            clear ew198
            refine zp_seg (pc' := 214) (lv' := [(1, .int r1), (0, .ref m)]) (st' := []) [(201, .goto 13)] (by decide +kernel) rfl ?_
            have hoffend : ∀ x, (x < m ∨ m + 1 ≤ x) → w198 x = w x := fun x hx => ((heq198 x (zx_X16_readB_0 hx)).trans ((heq188 x hx).trans ((heq182 x hx).trans ((heq178 x hx).trans ((heq172 x hx).trans ((heq168 x hx).trans ((heq164 x (zx_X16_readB_0 hx)).trans (heq1 x hx))))))))
            refine zr_retV (by decide +kernel) rfl ?_
            rw [← hPost]; exact ⟨rfl, Or.inl ⟨_, rfl, A9_188, (((((((hsi1.tr hsi164).tr hsi168).tr hsi172).tr hsi178).tr hsi182).tr hsi188).tr hsi198), hoffend, (by
                  first
                  | exact hc198
                  | exact zM14 hc198 (by omega)), (by
                  first | exact ⟨by omega, hq4⟩ | exact ⟨by omega, hq3⟩), rfl⟩⟩
        ·
          replace cc121 := Classical.not_not.mp cc121
          have f43 := zeqI cc121
          rw [show (40 : Int32).toInt = 40 from by decide] at f43
          refine zp_seg (pc' := 125) (lv' := [(1, .int r1), (0, .ref m)]) (st' := [.ref m]) [(124, .aload_n 0)] (by decide +kernel) rfl ?_
          have k44 := zrng A9_1
          have k45 := zrng (g 14)
          have hb46 := hR_m.si hsi1
          have hb47 : w1 (m + 80) = some (.inr (1, 400, .inl ft)) := (heq1 (m + 80) (zx_X16_readB_1)).trans hA_m_80
          refine zr_callVT (idx := 362) (j := 324) (by decide +kernel) (by decide +kernel) (show zMe 324 = some zq_X16_bracket from rfl) rfl rfl (Nat.le_of_ble_eq_true rfl) rfl rfl hM1 (Nat.le_of_ble_eq_true rfl) (Nat.le_of_ble_eq_true rfl) (c_X16_bracket (w := w1) (g12 := (g 12)) (g13 := A9_1) (g14 := (g 14)) m hM1 hb46 (by first | omega | decide | assumption | exact zr1_1 | exact zr1_0 | fail "num") hb47 (by first | omega | decide | assumption | exact zr1_1 | exact zr1_0 | fail "num") (by exact hp1_1.2.2.trans hdp) rfl rfl rfl) (by omega) (fun v125 w125 hp125 => ?_) (fun wx9 hx9 => by
                obtain ⟨G9_x9, hsix9, heqx9, hx9_0, hx9_1⟩ := hx9
                skip
                rw [← hPost]
                exact ⟨rfl, Or.inr ⟨rfl, G9_x9, (hsi1.tr hsix9), (fun x hx => ((heqx9 x hx).trans (heq1 x hx))), hx9_0, (by
                      first | exact hx9_1 | exact ⟨rfl, rfl, rfl, rfl⟩)⟩⟩)
          obtain ⟨A9_125, O9_125, hsi125, heq125, hp125_0, hp125_1, rfl⟩ := hp125
          have hM125 : w125 m = some (.inl (15, zMo m (zs (zs g 13 A9_125) 14 O9_125) r)) := hp125_0
          show zP _ _ _ _ [] _ _ _ _ _
          refine zp_seg (pc' := 129) (lv' := [(1, .int r1), (0, .ref m)]) (st' := [.ref m]) [(128, .aload_n 0)] (by decide +kernel) rfl ?_
          have k48 := zrng A9_125
          have k49 := zrng O9_125
          have hb50 := hb46.si hsi125
          have hb51 : w125 (m + 80) = some (.inr (1, 400, .inl ft)) := (heq125 (m + 80) (zx_X16_readB_1)).trans hb47
          refine zr_callVT (idx := 365) (j := 321) (by decide +kernel) (by decide +kernel) (show zMe 321 = some zq_X16_readE from rfl) rfl rfl (Nat.le_of_ble_eq_true rfl) rfl rfl hM125 (Nat.le_of_ble_eq_true rfl) (Nat.le_of_ble_eq_true rfl) (hc9 (w := w125) (g12 := (g 12)) (g13 := A9_125) (g14 := O9_125) m hM125 hb50 (by first | omega | decide | assumption | exact zr1_1 | exact zr1_0 | fail "num") hb51 (by first | omega | decide | assumption | exact zr1_1 | exact zr1_0 | fail "num") (by exact hp125_1.2.2) (by first | omega | decide | assumption | exact zr1_1 | exact zr1_0 | fail "num") rfl rfl rfl) (by omega) (fun v129 w129 hp129 => ?_) (fun wx9 hx9 => by
                obtain ⟨G9_x9, hsix9, heqx9, hx9_0, hx9_1⟩ := hx9
                skip
                rw [← hPost]
                exact ⟨rfl, Or.inr ⟨rfl, G9_x9, ((hsi1.tr hsi125).tr hsix9), (fun x hx => ((heqx9 x hx).trans ((heq125 x hx).trans (heq1 x hx)))), hx9_0, (by
                      first | exact hx9_1 | exact ⟨rfl, rfl, rfl, rfl⟩)⟩⟩)
          obtain ⟨A9_129, hsi129, heq129, hp129_0, hp129_1, rfl⟩ := hp129
          have hM129 : w129 m = some (.inl (15, zMo m (zs (zs g 13 A9_129) 14 O9_125) r)) := hp129_0
          show zP _ _ _ _ [] _ _ _ _ _
          refine zp_seg (pc' := 135) (lv' := [(1, .int r1), (0, .ref m)]) (st' := [.int 41, .ref m]) [(132, .aload_n 0), (133, .bipush 41)] (by decide +kernel) rfl ?_
          have k52 := zrng A9_129
          have hb53 := hb50.si hsi129
          have hb54 : w129 (m + 80) = some (.inr (1, 400, .inl ft)) := (heq129 (m + 80) (zx_X16_readB_1)).trans hb51
          refine zr_callVT (idx := 368) (j := 320) (by decide +kernel) (by decide +kernel) (show zMe 320 = some zq_X16_must from rfl) rfl rfl (Nat.le_of_ble_eq_true rfl) rfl rfl hM129 (Nat.le_of_ble_eq_true rfl) (Nat.le_of_ble_eq_true rfl) (c_X16_must (w := w129) (g12 := (g 12)) (g13 := A9_129) m 41 hM129 hb53 (by first | omega | decide | assumption | exact zr1_1 | exact zr1_0 | fail "num") hb54 (by exact hp129_1.2.d) (by first | omega | decide | assumption | exact zr1_1 | exact zr1_0 | fail "num") rfl rfl) (by omega) (fun v135 w135 hp135 => ?_) (fun wx9 hx9 => by
                obtain ⟨G9_x9, hsix9, heqx9, hx9_0, hx9_1⟩ := hx9
                skip
                rw [← hPost]
                exact ⟨rfl, Or.inr ⟨rfl, G9_x9, (((hsi1.tr hsi125).tr hsi129).tr hsix9), (fun x hx => ((heqx9 x hx).trans ((heq129 x hx).trans ((heq125 x hx).trans (heq1 x hx))))), hx9_0, (by
                      first | exact hx9_1 | exact ⟨rfl, rfl, rfl, rfl⟩)⟩⟩)
          obtain ⟨A9_135, hsi135, heq135, hp135_0, hp135_1, rfl⟩ := hp135
          have hM135 : w135 m = some (.inl (15, zMo m (zs (zs g 13 A9_135) 14 O9_125) r)) := hp135_0
          show zP _ _ _ _ [] _ _ _ _ _
          obtain ⟨B9, b1, b2, b3, b4⟩ := hp135_1.2
          have b5 := hp129_1.2.2.trans hp125_1.2.2
          have b6 := zTq_close b2 b3 b1.d
          have hq3 : zTd ft (g 12).toNatClampNeg (g 13).toNatClampNeg A9_135.toNatClampNeg := by
            rw [b4]
            refine ⟨((hp1_1.2.1.tr hp125_1.2.1).tr (hp129_1.2.1.tr b1.1)).tr b6.1, ?_⟩
            have b7 := b1.2
            have b8 := hp1_1.2.2
            omega
          refine zp_seg (pc' := 140) (lv' := [(1, .int r1), (0, .ref m)]) (st' := [.ref m, .ref m]) [(138, .aload_n 0), (139, .dup)] (by decide +kernel) rfl ?_
          refine zr_get (idx := 359) (k := 14) (v := .int O9_125) (by decide +kernel) (by decide +kernel) hM135 rfl ?_
          refine zp_seg (pc' := 145) (lv' := [(1, .int r1), (0, .ref m)]) (st' := [.int (O9_125 - 1), .ref m]) [(143, .iconst 1), (144, .isub)] (by decide +kernel) rfl ?_
          have k55 := zsubC O9_125 1 (n := 1) (by decide) (by omega) (by omega)
          generalize ev145 : (O9_125 - 1 : Int32) = v145 at k55 ⊢
          have kv145 := zrng v145
          refine zr_put2 (idx := 359) (k := 14) (fs2 := zMo m (zs (zs g 13 A9_135) 14 v145) r) (by decide +kernel) (by decide +kernel) hM135 (Nat.le_of_ble_eq_true rfl) rfl rfl rfl ?_
          show zP (d + 1) zq_X16_readB 148 [(1, .int r1), (0, .ref m)] [] (zup w135 m (.inl (15, zMo m (zs (zs g 13 A9_135) 14 v145) r))) sz 0 0 Post
          obtain ⟨w145, ew145⟩ : ∃ wz9, wz9 = zup w135 m (.inl (15, zMo m (zs (zs g 13 A9_135) 14 v145) r)) := ⟨_, rfl⟩
          have hsi145 : zSI w135 w145 := by rw [ew145]; exact zSI.setG hM135 _ _
          have heq145 : ∀ x, x ≠ m → w145 x = w135 x := fun x hx => by rw [ew145]; exact zup_n hx
          have hc145 : w145 m = some (.inl (15, zMo m (zs (zs g 13 A9_135) 14 v145) r)) := by rw [ew145]; exact zup_s
          rw [← ew145]
          clear ew145
          refine zp_seg (pc' := 214) (lv' := [(1, .int r1), (0, .ref m)]) (st' := []) [(148, .goto 66)] (by decide +kernel) rfl ?_
          have hoffend : ∀ x, (x < m ∨ m + 1 ≤ x) → w145 x = w x := fun x hx => ((heq145 x (zx_X16_readB_0 hx)).trans ((heq135 x hx).trans ((heq129 x hx).trans ((heq125 x hx).trans (heq1 x hx)))))
          refine zr_retV (by decide +kernel) rfl ?_
          rw [← hPost]; exact ⟨rfl, Or.inl ⟨_, rfl, A9_135, ((((hsi1.tr hsi125).tr hsi129).tr hsi135).tr hsi145), hoffend, (by
                first
                | exact hc145
                | exact zM14 hc145 (by omega)), (by
                first | exact ⟨by omega, hq4⟩ | exact ⟨by omega, hq3⟩), rfl⟩⟩
      ·
        replace cc102 := Classical.not_not.mp cc102
        have f57 := zeqI cc102
        rw [show (107 : Int32).toInt = 107 from by decide] at f57
        obtain ⟨P9, hP9⟩ : ∃ P, P = (A9_1).toNatClampNeg := ⟨_, rfl⟩
        have hzP : (P9 : Int) = (A9_1).toInt := by rw [hP9]; exact znat (by omega)
        obtain ⟨hq1, hq2⟩ : P9 < (g 12).toNatClampNeg ∧ zTd ft (g 12).toNatClampNeg (g 13).toNatClampNeg (P9 + 1) := by
          rw [hP9]
          first
          | exact zTd_chr (hp1_1.2) (hr1.symm.trans cc96) (by decide) (by decide) (by decide) (by unfold zDig; decide)
          | exact zTd_chr (hp1_1.2) (hr1.symm.trans cc102) (by decide) (by decide) (by decide) (by unfold zDig; decide)
        refine zp_seg (pc' := 107) (lv' := [(1, .int r1), (0, .ref m)]) (st' := [.ref m, .ref m]) [(105, .aload_n 0), (106, .dup)] (by decide +kernel) rfl ?_
        refine zr_get (idx := 334) (k := 13) (v := .int A9_1) (by decide +kernel) (by decide +kernel) hM1 rfl ?_
        refine zp_seg (pc' := 112) (lv' := [(1, .int r1), (0, .ref m)]) (st' := [.int (A9_1 + 1), .ref m]) [(110, .iconst 1), (111, .iadd)] (by decide +kernel) rfl ?_
        have k58 := zrng A9_1
        have k59 := zaddC A9_1 1 (n := 1) (by decide) (by omega) (by omega)
        generalize ev112 : (A9_1 + 1 : Int32) = v112 at k59 ⊢
        have kv112 := zrng v112
        refine zr_put2 (idx := 334) (k := 13) (fs2 := zMo m (zs g 13 v112) r) (by decide +kernel) (by decide +kernel) hM1 (Nat.le_of_ble_eq_true rfl) rfl rfl rfl ?_
        show zP (d + 1) zq_X16_readB 115 [(1, .int r1), (0, .ref m)] [] (zup w1 m (.inl (15, zMo m (zs g 13 v112) r))) sz 0 0 Post
        obtain ⟨w112, ew112⟩ : ∃ wz9, wz9 = zup w1 m (.inl (15, zMo m (zs g 13 v112) r)) := ⟨_, rfl⟩
        have hsi112 : zSI w1 w112 := by rw [ew112]; exact zSI.setG hM1 _ _
        have heq112 : ∀ x, x ≠ m → w112 x = w1 x := fun x hx => by rw [ew112]; exact zup_n hx
        have hc112 : w112 m = some (.inl (15, zMo m (zs g 13 v112) r)) := by rw [ew112]; exact zup_s
        rw [← ew112]
        clear ew112
        have hz9 := znat (x := v112) (by omega)
        have hq3 : zTd ft (g 12).toNatClampNeg (g 13).toNatClampNeg (v112).toNatClampNeg := by rw [show (v112).toNatClampNeg = P9 + 1 by omega]; exact hq2
        refine zp_seg (pc' := 214) (lv' := [(1, .int r1), (0, .ref m)]) (st' := []) [(115, .goto 99)] (by decide +kernel) rfl ?_
        have hoffend : ∀ x, (x < m ∨ m + 1 ≤ x) → w112 x = w x := fun x hx => ((heq112 x (zx_X16_readB_0 hx)).trans (heq1 x hx))
        refine zr_retV (by decide +kernel) rfl ?_
        rw [← hPost]; exact ⟨rfl, Or.inl ⟨_, rfl, v112, (hsi1.tr hsi112), hoffend, (by
              first
              | exact hc112
              | exact zM14 hc112 (by omega)), (by
              first | exact ⟨by omega, hq4⟩ | exact ⟨by omega, hq3⟩), rfl⟩⟩
  ·
    have f61 := znltI cc8
    rw [show (48 : Int32).toInt = 48 from by decide] at f61
    refine zp_seg (pc' := 14) (lv' := [(1, .int r1), (0, .ref m)]) (st' := [.int 57, .int r1]) [(11, .iload_n 1), (12, .bipush 57)] (by decide +kernel) rfl ?_
    refine zp_if (i := .if_icmp .gt 79) (c := 57 < r1) (t := 93) (e := 17) (lv' := [(1, .int r1), (0, .ref m)]) (st' := []) (by decide +kernel) rfl (fun cc14 => ?_) (fun cc14 => ?_)
    ·
      have f63 := zltI cc14
      rw [show (57 : Int32).toInt = 57 from by decide] at f63
      refine zp_seg (pc' := 96) (lv' := [(1, .int r1), (0, .ref m)]) (st' := [.int 110, .int r1]) [(93, .iload_n 1), (94, .bipush 110)] (by decide +kernel) rfl ?_
      refine zp_if (i := .if_icmp .eq 9) (c := r1 = 110) (t := 105) (e := 99) (lv' := [(1, .int r1), (0, .ref m)]) (st' := []) (by decide +kernel) rfl (fun cc96 => ?_) (fun cc96 => ?_)
      ·
        have f65 := zeqI cc96
        rw [show (110 : Int32).toInt = 110 from by decide] at f65
        obtain ⟨P9, hP9⟩ : ∃ P, P = (A9_1).toNatClampNeg := ⟨_, rfl⟩
        have hzP : (P9 : Int) = (A9_1).toInt := by rw [hP9]; exact znat (by omega)
        obtain ⟨hq1, hq2⟩ : P9 < (g 12).toNatClampNeg ∧ zTd ft (g 12).toNatClampNeg (g 13).toNatClampNeg (P9 + 1) := by
          rw [hP9]
          first
          | exact zTd_chr (hp1_1.2) (hr1.symm.trans cc96) (by decide) (by decide) (by decide) (by unfold zDig; decide)
          | exact zTd_chr (hp1_1.2) (hr1.symm.trans cc102) (by decide) (by decide) (by decide) (by unfold zDig; decide)
        refine zp_seg (pc' := 107) (lv' := [(1, .int r1), (0, .ref m)]) (st' := [.ref m, .ref m]) [(105, .aload_n 0), (106, .dup)] (by decide +kernel) rfl ?_
        refine zr_get (idx := 334) (k := 13) (v := .int A9_1) (by decide +kernel) (by decide +kernel) hM1 rfl ?_
        refine zp_seg (pc' := 112) (lv' := [(1, .int r1), (0, .ref m)]) (st' := [.int (A9_1 + 1), .ref m]) [(110, .iconst 1), (111, .iadd)] (by decide +kernel) rfl ?_
        have k66 := zrng A9_1
        have k67 := zaddC A9_1 1 (n := 1) (by decide) (by omega) (by omega)
        generalize ev112 : (A9_1 + 1 : Int32) = v112 at k67 ⊢
        have kv112 := zrng v112
        refine zr_put2 (idx := 334) (k := 13) (fs2 := zMo m (zs g 13 v112) r) (by decide +kernel) (by decide +kernel) hM1 (Nat.le_of_ble_eq_true rfl) rfl rfl rfl ?_
        show zP (d + 1) zq_X16_readB 115 [(1, .int r1), (0, .ref m)] [] (zup w1 m (.inl (15, zMo m (zs g 13 v112) r))) sz 0 0 Post
        obtain ⟨w112, ew112⟩ : ∃ wz9, wz9 = zup w1 m (.inl (15, zMo m (zs g 13 v112) r)) := ⟨_, rfl⟩
        have hsi112 : zSI w1 w112 := by rw [ew112]; exact zSI.setG hM1 _ _
        have heq112 : ∀ x, x ≠ m → w112 x = w1 x := fun x hx => by rw [ew112]; exact zup_n hx
        have hc112 : w112 m = some (.inl (15, zMo m (zs g 13 v112) r)) := by rw [ew112]; exact zup_s
        rw [← ew112]
        clear ew112
        have hz9 := znat (x := v112) (by omega)
        have hq3 : zTd ft (g 12).toNatClampNeg (g 13).toNatClampNeg (v112).toNatClampNeg := by rw [show (v112).toNatClampNeg = P9 + 1 by omega]; exact hq2
        refine zp_seg (pc' := 214) (lv' := [(1, .int r1), (0, .ref m)]) (st' := []) [(115, .goto 99)] (by decide +kernel) rfl ?_
        have hoffend : ∀ x, (x < m ∨ m + 1 ≤ x) → w112 x = w x := fun x hx => ((heq112 x (zx_X16_readB_0 hx)).trans (heq1 x hx))
        refine zr_retV (by decide +kernel) rfl ?_
        rw [← hPost]; exact ⟨rfl, Or.inl ⟨_, rfl, v112, (hsi1.tr hsi112), hoffend, (by
              first
              | exact hc112
              | exact zM14 hc112 (by omega)), (by
              first | exact ⟨by omega, hq4⟩ | exact ⟨by omega, hq3⟩), rfl⟩⟩
      ·
        have f69 := zneI cc96
        rw [show (110 : Int32).toInt = 110 from by decide] at f69
        refine zp_seg (pc' := 102) (lv' := [(1, .int r1), (0, .ref m)]) (st' := [.int 107, .int r1]) [(99, .iload_n 1), (100, .bipush 107)] (by decide +kernel) rfl ?_
        refine zp_if (i := .if_icmp .ne 16) (c := ¬ r1 = 107) (t := 118) (e := 105) (lv' := [(1, .int r1), (0, .ref m)]) (st' := []) (by decide +kernel) rfl (fun cc102 => ?_) (fun cc102 => ?_)
        ·
          have f71 := zneI cc102
          rw [show (107 : Int32).toInt = 107 from by decide] at f71
          refine zp_seg (pc' := 121) (lv' := [(1, .int r1), (0, .ref m)]) (st' := [.int 40, .int r1]) [(118, .iload_n 1), (119, .bipush 40)] (by decide +kernel) rfl ?_
          refine zp_if (i := .if_icmp .ne 30) (c := ¬ r1 = 40) (t := 151) (e := 124) (lv' := [(1, .int r1), (0, .ref m)]) (st' := []) (by decide +kernel) rfl (fun cc121 => ?_) (fun cc121 => ?_)
          ·
            have f73 := zneI cc121
            rw [show (40 : Int32).toInt = 40 from by decide] at f73
            refine zp_seg (pc' := 154) (lv' := [(1, .int r1), (0, .ref m)]) (st' := [.int 67, .int r1]) [(151, .iload_n 1), (152, .bipush 67)] (by decide +kernel) rfl ?_
            refine zp_if (i := .if_icmp .ne 50) (c := ¬ r1 = 67) (t := 204) (e := 157) (lv' := [(1, .int r1), (0, .ref m)]) (st' := []) (by decide +kernel) rfl (fun cc154 => ?_) (fun cc154 => ?_)
            ·
              have f75 := zneI cc154
              rw [show (67 : Int32).toInt = 67 from by decide] at f75
              refine zp_seg (pc' := 207) (lv' := [(1, .int r1), (0, .ref m)]) (st' := [.ref m, .int 1, .ref m]) [(204, .aload_n 0), (205, .iconst 1), (206, .aload_n 0)] (by decide +kernel) rfl ?_
              refine zr_get (idx := 334) (k := 13) (v := .int A9_1) (by decide +kernel) (by decide +kernel) hM1 rfl ?_
              have hb76 := hR_m.si hsi1
              refine zr_callV (idx := 346) (j := 318) (by decide +kernel) (by decide +kernel) (show zMe 318 = some zq_X16_fail from rfl) rfl rfl (Nat.le_of_ble_eq_true rfl) rfl rfl hM1 (Nat.le_of_ble_eq_true rfl) (Nat.le_of_ble_eq_true rfl) (c_X16_fail (w := w1) m 1 A9_1 hM1 hb76) (by omega) (fun v210 w210 hp210 => ?_)
              obtain ⟨hsi210, heq210, hp210_0, rfl⟩ := hp210
              have hM210 : w210 m = some (.inl (15, zMo m (zs (zs (zs g 9 1) 10 A9_1) 13 A9_1) r)) := hp210_0
              show zP _ _ _ _ [.ref (m + 79)] _ _ _ _ _
              have hb77 := hb76.si hsi210
              obtain ⟨fs9, hst9⟩ := hb77.stop
              refine zr_thr (by decide +kernel) hst9 ?_
              rw [← hPost]; exact ⟨rfl, Or.inr ⟨rfl, (zs (zs (zs g 9 1) 10 A9_1) 13 A9_1), (hsi1.tr hsi210), (fun x hx => ((heq210 x hx).trans (heq1 x hx))), hM210, (by
                    first | exact hx9_1 | exact ⟨rfl, rfl, rfl, rfl⟩)⟩⟩
            ·
              replace cc154 := Classical.not_not.mp cc154
              have f79 := zeqI cc154
              rw [show (67 : Int32).toInt = 67 from by decide] at f79
              obtain ⟨P9, hP9⟩ : ∃ P, P = (A9_1).toNatClampNeg := ⟨_, rfl⟩
              have hzP : (P9 : Int) = (A9_1).toInt := by rw [hP9]; exact znat (by omega)
              obtain ⟨hq1, hq2⟩ : P9 < (g 12).toNatClampNeg ∧ zTd ft (g 12).toNatClampNeg (g 13).toNatClampNeg (P9 + 1) := by
                rw [hP9]
                first
                | exact zTd_chr (hp1_1.2) (hr1.symm.trans cc154) (by decide) (by decide) (by decide) (by unfold zDig; decide)
              refine zp_seg (pc' := 159) (lv' := [(1, .int r1), (0, .ref m)]) (st' := [.ref m, .ref m]) [(157, .aload_n 0), (158, .dup)] (by decide +kernel) rfl ?_
              refine zr_get (idx := 334) (k := 13) (v := .int A9_1) (by decide +kernel) (by decide +kernel) hM1 rfl ?_
              refine zp_seg (pc' := 164) (lv' := [(1, .int r1), (0, .ref m)]) (st' := [.int (A9_1 + 1), .ref m]) [(162, .iconst 1), (163, .iadd)] (by decide +kernel) rfl ?_
              have k80 := zrng A9_1
              have k81 := zaddC A9_1 1 (n := 1) (by decide) (by omega) (by omega)
              generalize ev164 : (A9_1 + 1 : Int32) = v164 at k81 ⊢
              have kv164 := zrng v164
              refine zr_put2 (idx := 334) (k := 13) (fs2 := zMo m (zs g 13 v164) r) (by decide +kernel) (by decide +kernel) hM1 (Nat.le_of_ble_eq_true rfl) rfl rfl rfl ?_
              show zP (d + 1) zq_X16_readB 167 [(1, .int r1), (0, .ref m)] [] (zup w1 m (.inl (15, zMo m (zs g 13 v164) r))) sz 0 0 Post
              obtain ⟨w164, ew164⟩ : ∃ wz9, wz9 = zup w1 m (.inl (15, zMo m (zs g 13 v164) r)) := ⟨_, rfl⟩
              have hsi164 : zSI w1 w164 := by rw [ew164]; exact zSI.setG hM1 _ _
              have heq164 : ∀ x, x ≠ m → w164 x = w1 x := fun x hx => by rw [ew164]; exact zup_n hx
              have hc164 : w164 m = some (.inl (15, zMo m (zs g 13 v164) r)) := by rw [ew164]; exact zup_s
              rw [← ew164]
              clear ew164
              have hz9 := znat (x := v164) (by omega)
              have hq3 : zTd ft (g 12).toNatClampNeg (g 13).toNatClampNeg (v164).toNatClampNeg := by rw [show (v164).toNatClampNeg = P9 + 1 by omega]; exact hq2
              refine zp_seg (pc' := 168) (lv' := [(1, .int r1), (0, .ref m)]) (st' := [.ref m]) [(167, .aload_n 0)] (by decide +kernel) rfl ?_
              have k82 := zrng (g 14)
              have hb83 := hR_m.si (hsi1.tr hsi164)
              have hb84 : w164 (m + 80) = some (.inr (1, 400, .inl ft)) := ((heq164 (m + 80) (zx_X16_readB_2)).trans (heq1 (m + 80) (zx_X16_readB_1))).trans hA_m_80
              refine zr_callVT (idx := 362) (j := 324) (by decide +kernel) (by decide +kernel) (show zMe 324 = some zq_X16_bracket from rfl) rfl rfl (Nat.le_of_ble_eq_true rfl) rfl rfl hc164 (Nat.le_of_ble_eq_true rfl) (Nat.le_of_ble_eq_true rfl) (c_X16_bracket (w := w164) (g12 := (g 12)) (g13 := v164) (g14 := (g 14)) m hc164 hb83 (by first | omega | decide | assumption | exact zr1_1 | exact zr1_0 | fail "num") hb84 (by first | omega | decide | assumption | exact zr1_1 | exact zr1_0 | fail "num") (by exact hq3.2.trans hdp) rfl rfl rfl) (by omega) (fun v168 w168 hp168 => ?_) (fun wx9 hx9 => by
                    obtain ⟨G9_x9, hsix9, heqx9, hx9_0, hx9_1⟩ := hx9
                    skip
                    rw [← hPost]
                    exact ⟨rfl, Or.inr ⟨rfl, G9_x9, ((hsi1.tr hsi164).tr hsix9), (fun x hx => ((heqx9 x hx).trans ((heq164 x (zx_X16_readB_0 hx)).trans (heq1 x hx)))), hx9_0, (by
                          first | exact hx9_1 | exact ⟨rfl, rfl, rfl, rfl⟩)⟩⟩)
              obtain ⟨A9_168, O9_168, hsi168, heq168, hp168_0, hp168_1, rfl⟩ := hp168
              have hM168 : w168 m = some (.inl (15, zMo m (zs (zs g 13 A9_168) 14 O9_168) r)) := hp168_0
              show zP _ _ _ _ [] _ _ _ _ _
              refine zp_seg (pc' := 172) (lv' := [(1, .int r1), (0, .ref m)]) (st' := [.ref m]) [(171, .aload_n 0)] (by decide +kernel) rfl ?_
              have k85 := zrng A9_168
              have k86 := zrng O9_168
              have hb87 := hb83.si hsi168
              have hb88 : w168 (m + 80) = some (.inr (1, 400, .inl ft)) := (heq168 (m + 80) (zx_X16_readB_1)).trans hb84
              refine zr_callVT (idx := 365) (j := 321) (by decide +kernel) (by decide +kernel) (show zMe 321 = some zq_X16_readE from rfl) rfl rfl (Nat.le_of_ble_eq_true rfl) rfl rfl hM168 (Nat.le_of_ble_eq_true rfl) (Nat.le_of_ble_eq_true rfl) (hc9 (w := w168) (g12 := (g 12)) (g13 := A9_168) (g14 := O9_168) m hM168 hb87 (by first | omega | decide | assumption | exact zr1_1 | exact zr1_0 | fail "num") hb88 (by first | omega | decide | assumption | exact zr1_1 | exact zr1_0 | fail "num") (by exact hp168_1.2.2) (by first | omega | decide | assumption | exact zr1_1 | exact zr1_0 | fail "num") rfl rfl rfl) (by omega) (fun v172 w172 hp172 => ?_) (fun wx9 hx9 => by
                    obtain ⟨G9_x9, hsix9, heqx9, hx9_0, hx9_1⟩ := hx9
                    skip
                    rw [← hPost]
                    exact ⟨rfl, Or.inr ⟨rfl, G9_x9, (((hsi1.tr hsi164).tr hsi168).tr hsix9), (fun x hx => ((heqx9 x hx).trans ((heq168 x hx).trans ((heq164 x (zx_X16_readB_0 hx)).trans (heq1 x hx))))), hx9_0, (by
                          first | exact hx9_1 | exact ⟨rfl, rfl, rfl, rfl⟩)⟩⟩)
              obtain ⟨A9_172, hsi172, heq172, hp172_0, hp172_1, rfl⟩ := hp172
              have hM172 : w172 m = some (.inl (15, zMo m (zs (zs g 13 A9_172) 14 O9_168) r)) := hp172_0
              show zP _ _ _ _ [] _ _ _ _ _
              refine zp_seg (pc' := 178) (lv' := [(1, .int r1), (0, .ref m)]) (st' := [.int 44, .ref m]) [(175, .aload_n 0), (176, .bipush 44)] (by decide +kernel) rfl ?_
              have k89 := zrng A9_172
              have hb90 := hb87.si hsi172
              have hb91 : w172 (m + 80) = some (.inr (1, 400, .inl ft)) := (heq172 (m + 80) (zx_X16_readB_1)).trans hb88
              refine zr_callVT (idx := 368) (j := 320) (by decide +kernel) (by decide +kernel) (show zMe 320 = some zq_X16_must from rfl) rfl rfl (Nat.le_of_ble_eq_true rfl) rfl rfl hM172 (Nat.le_of_ble_eq_true rfl) (Nat.le_of_ble_eq_true rfl) (c_X16_must (w := w172) (g12 := (g 12)) (g13 := A9_172) m 44 hM172 hb90 (by first | omega | decide | assumption | exact zr1_1 | exact zr1_0 | fail "num") hb91 (by exact hp172_1.2.d) (by first | omega | decide | assumption | exact zr1_1 | exact zr1_0 | fail "num") rfl rfl) (by omega) (fun v178 w178 hp178 => ?_) (fun wx9 hx9 => by
                    obtain ⟨G9_x9, hsix9, heqx9, hx9_0, hx9_1⟩ := hx9
                    skip
                    rw [← hPost]
                    exact ⟨rfl, Or.inr ⟨rfl, G9_x9, ((((hsi1.tr hsi164).tr hsi168).tr hsi172).tr hsix9), (fun x hx => ((heqx9 x hx).trans ((heq172 x hx).trans ((heq168 x hx).trans ((heq164 x (zx_X16_readB_0 hx)).trans (heq1 x hx)))))), hx9_0, (by
                          first | exact hx9_1 | exact ⟨rfl, rfl, rfl, rfl⟩)⟩⟩)
              obtain ⟨A9_178, hsi178, heq178, hp178_0, hp178_1, rfl⟩ := hp178
              have hM178 : w178 m = some (.inl (15, zMo m (zs (zs g 13 A9_178) 14 O9_168) r)) := hp178_0
              show zP _ _ _ _ [] _ _ _ _ _
              obtain ⟨C9, d1, d2, d3, d4⟩ := hp178_1.2
              have hd9 : zTd ft (g 12).toNatClampNeg A9_172.toNatClampNeg A9_178.toNatClampNeg := by rw [d4]; exact zTd_step d1 d2 (by rw [d3]; decide) (by rw [d3]; decide) (fun k => by have k1 := zDig_and k; rw [d3] at k1; rw [← k1] at k; exact absurd k (by unfold zDig; decide))
              refine zp_seg (pc' := 182) (lv' := [(1, .int r1), (0, .ref m)]) (st' := [.ref m]) [(181, .aload_n 0)] (by decide +kernel) rfl ?_
              have k92 := zrng A9_178
              have hb93 := hb90.si hsi178
              have hb94 : w178 (m + 80) = some (.inr (1, 400, .inl ft)) := (heq178 (m + 80) (zx_X16_readB_1)).trans hb91
              refine zr_callVT (idx := 365) (j := 321) (by decide +kernel) (by decide +kernel) (show zMe 321 = some zq_X16_readE from rfl) rfl rfl (Nat.le_of_ble_eq_true rfl) rfl rfl hM178 (Nat.le_of_ble_eq_true rfl) (Nat.le_of_ble_eq_true rfl) (hc9 (w := w178) (g12 := (g 12)) (g13 := A9_178) (g14 := O9_168) m hM178 hb93 (by first | omega | decide | assumption | exact zr1_1 | exact zr1_0 | fail "num") hb94 (by first | omega | decide | assumption | exact zr1_1 | exact zr1_0 | fail "num") (by exact hd9.2.trans (hp172_1.2.2.trans hp168_1.2.2)) (by first | omega | decide | assumption | exact zr1_1 | exact zr1_0 | fail "num") rfl rfl rfl) (by omega) (fun v182 w182 hp182 => ?_) (fun wx9 hx9 => by
                    obtain ⟨G9_x9, hsix9, heqx9, hx9_0, hx9_1⟩ := hx9
                    skip
                    rw [← hPost]
                    exact ⟨rfl, Or.inr ⟨rfl, G9_x9, (((((hsi1.tr hsi164).tr hsi168).tr hsi172).tr hsi178).tr hsix9), (fun x hx => ((heqx9 x hx).trans ((heq178 x hx).trans ((heq172 x hx).trans ((heq168 x hx).trans ((heq164 x (zx_X16_readB_0 hx)).trans (heq1 x hx))))))), hx9_0, (by
                          first | exact hx9_1 | exact ⟨rfl, rfl, rfl, rfl⟩)⟩⟩)
              obtain ⟨A9_182, hsi182, heq182, hp182_0, hp182_1, rfl⟩ := hp182
              have hM182 : w182 m = some (.inl (15, zMo m (zs (zs g 13 A9_182) 14 O9_168) r)) := hp182_0
              show zP _ _ _ _ [] _ _ _ _ _
              refine zp_seg (pc' := 188) (lv' := [(1, .int r1), (0, .ref m)]) (st' := [.int 41, .ref m]) [(185, .aload_n 0), (186, .bipush 41)] (by decide +kernel) rfl ?_
              have k95 := zrng A9_182
              have hb96 := hb93.si hsi182
              have hb97 : w182 (m + 80) = some (.inr (1, 400, .inl ft)) := (heq182 (m + 80) (zx_X16_readB_1)).trans hb94
              refine zr_callVT (idx := 368) (j := 320) (by decide +kernel) (by decide +kernel) (show zMe 320 = some zq_X16_must from rfl) rfl rfl (Nat.le_of_ble_eq_true rfl) rfl rfl hM182 (Nat.le_of_ble_eq_true rfl) (Nat.le_of_ble_eq_true rfl) (c_X16_must (w := w182) (g12 := (g 12)) (g13 := A9_182) m 41 hM182 hb96 (by first | omega | decide | assumption | exact zr1_1 | exact zr1_0 | fail "num") hb97 (by exact hp182_1.2.d) (by first | omega | decide | assumption | exact zr1_1 | exact zr1_0 | fail "num") rfl rfl) (by omega) (fun v188 w188 hp188 => ?_) (fun wx9 hx9 => by
                    obtain ⟨G9_x9, hsix9, heqx9, hx9_0, hx9_1⟩ := hx9
                    skip
                    rw [← hPost]
                    exact ⟨rfl, Or.inr ⟨rfl, G9_x9, ((((((hsi1.tr hsi164).tr hsi168).tr hsi172).tr hsi178).tr hsi182).tr hsix9), (fun x hx => ((heqx9 x hx).trans ((heq182 x hx).trans ((heq178 x hx).trans ((heq172 x hx).trans ((heq168 x hx).trans ((heq164 x (zx_X16_readB_0 hx)).trans (heq1 x hx)))))))), hx9_0, (by
                          first | exact hx9_1 | exact ⟨rfl, rfl, rfl, rfl⟩)⟩⟩)
              obtain ⟨A9_188, hsi188, heq188, hp188_0, hp188_1, rfl⟩ := hp188
              have hM188 : w188 m = some (.inl (15, zMo m (zs (zs g 13 A9_188) 14 O9_168) r)) := hp188_0
              show zP _ _ _ _ [] _ _ _ _ _
              obtain ⟨B9, b1, b2, b3, b4⟩ := hp188_1.2
              have b5 := hp172_1.2.2.trans hp168_1.2.2
              have b6 := zTq_close b2 b3 b1.d
              have b9 := hd9.2
              have c1 := hp182_1.2.2
              have hq4 : zTd ft (g 12).toNatClampNeg (g 13).toNatClampNeg A9_188.toNatClampNeg := by
                rw [b4]
                refine ⟨((hq3.1.tr hp168_1.2.1).tr (hp172_1.2.1.tr (hd9.1.tr (hp182_1.2.1.tr b1.1)))).tr b6.1, ?_⟩
                have b7 := b1.2
                have b8 := hq3.2
                omega
              refine zp_seg (pc' := 193) (lv' := [(1, .int r1), (0, .ref m)]) (st' := [.ref m, .ref m]) [(191, .aload_n 0), (192, .dup)] (by decide +kernel) rfl ?_
              refine zr_get (idx := 359) (k := 14) (v := .int O9_168) (by decide +kernel) (by decide +kernel) hM188 rfl ?_
              refine zp_seg (pc' := 198) (lv' := [(1, .int r1), (0, .ref m)]) (st' := [.int (O9_168 - 1), .ref m]) [(196, .iconst 1), (197, .isub)] (by decide +kernel) rfl ?_
              have k98 := zsubC O9_168 1 (n := 1) (by decide) (by omega) (by omega)
              generalize ev198 : (O9_168 - 1 : Int32) = v198 at k98 ⊢
              have kv198 := zrng v198
              refine zr_put2 (idx := 359) (k := 14) (fs2 := zMo m (zs (zs g 13 A9_188) 14 v198) r) (by decide +kernel) (by decide +kernel) hM188 (Nat.le_of_ble_eq_true rfl) rfl rfl rfl ?_
              show zP (d + 1) zq_X16_readB 201 [(1, .int r1), (0, .ref m)] [] (zup w188 m (.inl (15, zMo m (zs (zs g 13 A9_188) 14 v198) r))) sz 0 0 Post
              obtain ⟨w198, ew198⟩ : ∃ wz9, wz9 = zup w188 m (.inl (15, zMo m (zs (zs g 13 A9_188) 14 v198) r)) := ⟨_, rfl⟩
              have hsi198 : zSI w188 w198 := by rw [ew198]; exact zSI.setG hM188 _ _
              have heq198 : ∀ x, x ≠ m → w198 x = w188 x := fun x hx => by rw [ew198]; exact zup_n hx
              have hc198 : w198 m = some (.inl (15, zMo m (zs (zs g 13 A9_188) 14 v198) r)) := by rw [ew198]; exact zup_s
              rw [← ew198]
              clear ew198
              refine zp_seg (pc' := 214) (lv' := [(1, .int r1), (0, .ref m)]) (st' := []) [(201, .goto 13)] (by decide +kernel) rfl ?_
              have hoffend : ∀ x, (x < m ∨ m + 1 ≤ x) → w198 x = w x := fun x hx => ((heq198 x (zx_X16_readB_0 hx)).trans ((heq188 x hx).trans ((heq182 x hx).trans ((heq178 x hx).trans ((heq172 x hx).trans ((heq168 x hx).trans ((heq164 x (zx_X16_readB_0 hx)).trans (heq1 x hx))))))))
              refine zr_retV (by decide +kernel) rfl ?_
              rw [← hPost]; exact ⟨rfl, Or.inl ⟨_, rfl, A9_188, (((((((hsi1.tr hsi164).tr hsi168).tr hsi172).tr hsi178).tr hsi182).tr hsi188).tr hsi198), hoffend, (by
                    first
                    | exact hc198
                    | exact zM14 hc198 (by omega)), (by
                    first | exact ⟨by omega, hq4⟩ | exact ⟨by omega, hq3⟩), rfl⟩⟩
          ·
            replace cc121 := Classical.not_not.mp cc121
            have f100 := zeqI cc121
            rw [show (40 : Int32).toInt = 40 from by decide] at f100
            refine zp_seg (pc' := 125) (lv' := [(1, .int r1), (0, .ref m)]) (st' := [.ref m]) [(124, .aload_n 0)] (by decide +kernel) rfl ?_
            have k101 := zrng A9_1
            have k102 := zrng (g 14)
            have hb103 := hR_m.si hsi1
            have hb104 : w1 (m + 80) = some (.inr (1, 400, .inl ft)) := (heq1 (m + 80) (zx_X16_readB_1)).trans hA_m_80
            refine zr_callVT (idx := 362) (j := 324) (by decide +kernel) (by decide +kernel) (show zMe 324 = some zq_X16_bracket from rfl) rfl rfl (Nat.le_of_ble_eq_true rfl) rfl rfl hM1 (Nat.le_of_ble_eq_true rfl) (Nat.le_of_ble_eq_true rfl) (c_X16_bracket (w := w1) (g12 := (g 12)) (g13 := A9_1) (g14 := (g 14)) m hM1 hb103 (by first | omega | decide | assumption | exact zr1_1 | exact zr1_0 | fail "num") hb104 (by first | omega | decide | assumption | exact zr1_1 | exact zr1_0 | fail "num") (by exact hp1_1.2.2.trans hdp) rfl rfl rfl) (by omega) (fun v125 w125 hp125 => ?_) (fun wx9 hx9 => by
                  obtain ⟨G9_x9, hsix9, heqx9, hx9_0, hx9_1⟩ := hx9
                  skip
                  rw [← hPost]
                  exact ⟨rfl, Or.inr ⟨rfl, G9_x9, (hsi1.tr hsix9), (fun x hx => ((heqx9 x hx).trans (heq1 x hx))), hx9_0, (by
                        first | exact hx9_1 | exact ⟨rfl, rfl, rfl, rfl⟩)⟩⟩)
            obtain ⟨A9_125, O9_125, hsi125, heq125, hp125_0, hp125_1, rfl⟩ := hp125
            have hM125 : w125 m = some (.inl (15, zMo m (zs (zs g 13 A9_125) 14 O9_125) r)) := hp125_0
            show zP _ _ _ _ [] _ _ _ _ _
            refine zp_seg (pc' := 129) (lv' := [(1, .int r1), (0, .ref m)]) (st' := [.ref m]) [(128, .aload_n 0)] (by decide +kernel) rfl ?_
            have k105 := zrng A9_125
            have k106 := zrng O9_125
            have hb107 := hb103.si hsi125
            have hb108 : w125 (m + 80) = some (.inr (1, 400, .inl ft)) := (heq125 (m + 80) (zx_X16_readB_1)).trans hb104
            refine zr_callVT (idx := 365) (j := 321) (by decide +kernel) (by decide +kernel) (show zMe 321 = some zq_X16_readE from rfl) rfl rfl (Nat.le_of_ble_eq_true rfl) rfl rfl hM125 (Nat.le_of_ble_eq_true rfl) (Nat.le_of_ble_eq_true rfl) (hc9 (w := w125) (g12 := (g 12)) (g13 := A9_125) (g14 := O9_125) m hM125 hb107 (by first | omega | decide | assumption | exact zr1_1 | exact zr1_0 | fail "num") hb108 (by first | omega | decide | assumption | exact zr1_1 | exact zr1_0 | fail "num") (by exact hp125_1.2.2) (by first | omega | decide | assumption | exact zr1_1 | exact zr1_0 | fail "num") rfl rfl rfl) (by omega) (fun v129 w129 hp129 => ?_) (fun wx9 hx9 => by
                  obtain ⟨G9_x9, hsix9, heqx9, hx9_0, hx9_1⟩ := hx9
                  skip
                  rw [← hPost]
                  exact ⟨rfl, Or.inr ⟨rfl, G9_x9, ((hsi1.tr hsi125).tr hsix9), (fun x hx => ((heqx9 x hx).trans ((heq125 x hx).trans (heq1 x hx)))), hx9_0, (by
                        first | exact hx9_1 | exact ⟨rfl, rfl, rfl, rfl⟩)⟩⟩)
            obtain ⟨A9_129, hsi129, heq129, hp129_0, hp129_1, rfl⟩ := hp129
            have hM129 : w129 m = some (.inl (15, zMo m (zs (zs g 13 A9_129) 14 O9_125) r)) := hp129_0
            show zP _ _ _ _ [] _ _ _ _ _
            refine zp_seg (pc' := 135) (lv' := [(1, .int r1), (0, .ref m)]) (st' := [.int 41, .ref m]) [(132, .aload_n 0), (133, .bipush 41)] (by decide +kernel) rfl ?_
            have k109 := zrng A9_129
            have hb110 := hb107.si hsi129
            have hb111 : w129 (m + 80) = some (.inr (1, 400, .inl ft)) := (heq129 (m + 80) (zx_X16_readB_1)).trans hb108
            refine zr_callVT (idx := 368) (j := 320) (by decide +kernel) (by decide +kernel) (show zMe 320 = some zq_X16_must from rfl) rfl rfl (Nat.le_of_ble_eq_true rfl) rfl rfl hM129 (Nat.le_of_ble_eq_true rfl) (Nat.le_of_ble_eq_true rfl) (c_X16_must (w := w129) (g12 := (g 12)) (g13 := A9_129) m 41 hM129 hb110 (by first | omega | decide | assumption | exact zr1_1 | exact zr1_0 | fail "num") hb111 (by exact hp129_1.2.d) (by first | omega | decide | assumption | exact zr1_1 | exact zr1_0 | fail "num") rfl rfl) (by omega) (fun v135 w135 hp135 => ?_) (fun wx9 hx9 => by
                  obtain ⟨G9_x9, hsix9, heqx9, hx9_0, hx9_1⟩ := hx9
                  skip
                  rw [← hPost]
                  exact ⟨rfl, Or.inr ⟨rfl, G9_x9, (((hsi1.tr hsi125).tr hsi129).tr hsix9), (fun x hx => ((heqx9 x hx).trans ((heq129 x hx).trans ((heq125 x hx).trans (heq1 x hx))))), hx9_0, (by
                        first | exact hx9_1 | exact ⟨rfl, rfl, rfl, rfl⟩)⟩⟩)
            obtain ⟨A9_135, hsi135, heq135, hp135_0, hp135_1, rfl⟩ := hp135
            have hM135 : w135 m = some (.inl (15, zMo m (zs (zs g 13 A9_135) 14 O9_125) r)) := hp135_0
            show zP _ _ _ _ [] _ _ _ _ _
            obtain ⟨B9, b1, b2, b3, b4⟩ := hp135_1.2
            have b5 := hp129_1.2.2.trans hp125_1.2.2
            have b6 := zTq_close b2 b3 b1.d
            have hq3 : zTd ft (g 12).toNatClampNeg (g 13).toNatClampNeg A9_135.toNatClampNeg := by
              rw [b4]
              refine ⟨((hp1_1.2.1.tr hp125_1.2.1).tr (hp129_1.2.1.tr b1.1)).tr b6.1, ?_⟩
              have b7 := b1.2
              have b8 := hp1_1.2.2
              omega
            refine zp_seg (pc' := 140) (lv' := [(1, .int r1), (0, .ref m)]) (st' := [.ref m, .ref m]) [(138, .aload_n 0), (139, .dup)] (by decide +kernel) rfl ?_
            refine zr_get (idx := 359) (k := 14) (v := .int O9_125) (by decide +kernel) (by decide +kernel) hM135 rfl ?_
            refine zp_seg (pc' := 145) (lv' := [(1, .int r1), (0, .ref m)]) (st' := [.int (O9_125 - 1), .ref m]) [(143, .iconst 1), (144, .isub)] (by decide +kernel) rfl ?_
            have k112 := zsubC O9_125 1 (n := 1) (by decide) (by omega) (by omega)
            generalize ev145 : (O9_125 - 1 : Int32) = v145 at k112 ⊢
            have kv145 := zrng v145
            refine zr_put2 (idx := 359) (k := 14) (fs2 := zMo m (zs (zs g 13 A9_135) 14 v145) r) (by decide +kernel) (by decide +kernel) hM135 (Nat.le_of_ble_eq_true rfl) rfl rfl rfl ?_
            show zP (d + 1) zq_X16_readB 148 [(1, .int r1), (0, .ref m)] [] (zup w135 m (.inl (15, zMo m (zs (zs g 13 A9_135) 14 v145) r))) sz 0 0 Post
            obtain ⟨w145, ew145⟩ : ∃ wz9, wz9 = zup w135 m (.inl (15, zMo m (zs (zs g 13 A9_135) 14 v145) r)) := ⟨_, rfl⟩
            have hsi145 : zSI w135 w145 := by rw [ew145]; exact zSI.setG hM135 _ _
            have heq145 : ∀ x, x ≠ m → w145 x = w135 x := fun x hx => by rw [ew145]; exact zup_n hx
            have hc145 : w145 m = some (.inl (15, zMo m (zs (zs g 13 A9_135) 14 v145) r)) := by rw [ew145]; exact zup_s
            rw [← ew145]
            clear ew145
            refine zp_seg (pc' := 214) (lv' := [(1, .int r1), (0, .ref m)]) (st' := []) [(148, .goto 66)] (by decide +kernel) rfl ?_
            have hoffend : ∀ x, (x < m ∨ m + 1 ≤ x) → w145 x = w x := fun x hx => ((heq145 x (zx_X16_readB_0 hx)).trans ((heq135 x hx).trans ((heq129 x hx).trans ((heq125 x hx).trans (heq1 x hx)))))
            refine zr_retV (by decide +kernel) rfl ?_
            rw [← hPost]; exact ⟨rfl, Or.inl ⟨_, rfl, A9_135, ((((hsi1.tr hsi125).tr hsi129).tr hsi135).tr hsi145), hoffend, (by
                  first
                  | exact hc145
                  | exact zM14 hc145 (by omega)), (by
                  first | exact ⟨by omega, hq4⟩ | exact ⟨by omega, hq3⟩), rfl⟩⟩
        ·
          replace cc102 := Classical.not_not.mp cc102
          have f114 := zeqI cc102
          rw [show (107 : Int32).toInt = 107 from by decide] at f114
          obtain ⟨P9, hP9⟩ : ∃ P, P = (A9_1).toNatClampNeg := ⟨_, rfl⟩
          have hzP : (P9 : Int) = (A9_1).toInt := by rw [hP9]; exact znat (by omega)
          obtain ⟨hq1, hq2⟩ : P9 < (g 12).toNatClampNeg ∧ zTd ft (g 12).toNatClampNeg (g 13).toNatClampNeg (P9 + 1) := by
            rw [hP9]
            first
            | exact zTd_chr (hp1_1.2) (hr1.symm.trans cc96) (by decide) (by decide) (by decide) (by unfold zDig; decide)
            | exact zTd_chr (hp1_1.2) (hr1.symm.trans cc102) (by decide) (by decide) (by decide) (by unfold zDig; decide)
          refine zp_seg (pc' := 107) (lv' := [(1, .int r1), (0, .ref m)]) (st' := [.ref m, .ref m]) [(105, .aload_n 0), (106, .dup)] (by decide +kernel) rfl ?_
          refine zr_get (idx := 334) (k := 13) (v := .int A9_1) (by decide +kernel) (by decide +kernel) hM1 rfl ?_
          refine zp_seg (pc' := 112) (lv' := [(1, .int r1), (0, .ref m)]) (st' := [.int (A9_1 + 1), .ref m]) [(110, .iconst 1), (111, .iadd)] (by decide +kernel) rfl ?_
          have k115 := zrng A9_1
          have k116 := zaddC A9_1 1 (n := 1) (by decide) (by omega) (by omega)
          generalize ev112 : (A9_1 + 1 : Int32) = v112 at k116 ⊢
          have kv112 := zrng v112
          refine zr_put2 (idx := 334) (k := 13) (fs2 := zMo m (zs g 13 v112) r) (by decide +kernel) (by decide +kernel) hM1 (Nat.le_of_ble_eq_true rfl) rfl rfl rfl ?_
          show zP (d + 1) zq_X16_readB 115 [(1, .int r1), (0, .ref m)] [] (zup w1 m (.inl (15, zMo m (zs g 13 v112) r))) sz 0 0 Post
          obtain ⟨w112, ew112⟩ : ∃ wz9, wz9 = zup w1 m (.inl (15, zMo m (zs g 13 v112) r)) := ⟨_, rfl⟩
          have hsi112 : zSI w1 w112 := by rw [ew112]; exact zSI.setG hM1 _ _
          have heq112 : ∀ x, x ≠ m → w112 x = w1 x := fun x hx => by rw [ew112]; exact zup_n hx
          have hc112 : w112 m = some (.inl (15, zMo m (zs g 13 v112) r)) := by rw [ew112]; exact zup_s
          rw [← ew112]
          clear ew112
          have hz9 := znat (x := v112) (by omega)
          have hq3 : zTd ft (g 12).toNatClampNeg (g 13).toNatClampNeg (v112).toNatClampNeg := by rw [show (v112).toNatClampNeg = P9 + 1 by omega]; exact hq2
          refine zp_seg (pc' := 214) (lv' := [(1, .int r1), (0, .ref m)]) (st' := []) [(115, .goto 99)] (by decide +kernel) rfl ?_
          have hoffend : ∀ x, (x < m ∨ m + 1 ≤ x) → w112 x = w x := fun x hx => ((heq112 x (zx_X16_readB_0 hx)).trans (heq1 x hx))
          refine zr_retV (by decide +kernel) rfl ?_
          rw [← hPost]; exact ⟨rfl, Or.inl ⟨_, rfl, v112, (hsi1.tr hsi112), hoffend, (by
                first
                | exact hc112
                | exact zM14 hc112 (by omega)), (by
                first | exact ⟨by omega, hq4⟩ | exact ⟨by omega, hq3⟩), rfl⟩⟩
    ·
      have f118 := znltI cc14
      rw [show (57 : Int32).toInt = 57 from by decide] at f118
      refine zp_seg (pc' := 19) (lv' := [(2, .int 0), (1, .int r1), (0, .ref m)]) (st' := []) [(17, .iconst 0), (18, .istore_n 2)] (by decide +kernel) rfl ?_
      have hL19 : ∀ (mm19 : Nat) (wL19 : zM) (y2_19 : Int32) (yA : Int32), (zSI w1 wL19) → (∀ x, ((x < m ∨ m + 1 ≤ x)) ∧ x ≠ m → wL19 x = w1 x) → (0 ≤ y2_19.toInt) → (y2_19.toInt ≤ 10) → (wL19 m = some (.inl (15, zMo m (zs g 13 yA) r))) → (((g 13).toInt ≤ yA.toInt ∧ yA.toInt ≤ (g 12).toInt) ∧ (yA.toInt = A9_1.toInt + y2_19.toInt) ∧ ∀ i, A9_1.toNatClampNeg ≤ i → i < yA.toNatClampNeg → zDig (ft i)) → (401 - yA.toInt).toNat < mm19 → zP (d + 1) zq_X16_readB 19 [(0, .ref m), (2, .int y2_19)] [] wL19 sz 0 0 Post := by
        intro mm19
        induction mm19 with
        | zero => intros; omega
        | succ mm19 ih19 =>
        intro wL19 y2_19 yA hsiL19 heqL19 hi19_0 hi19_1 hyAM hyA hmu19
        have ky2_19 := zrng y2_19
        refine zp_seg (pc' := 20) (lv' := [(0, .ref m), (2, .int y2_19)]) (st' := [.ref m]) [(19, .aload_n 0)] (by decide +kernel) rfl ?_
        refine zr_get (idx := 334) (k := 13) (v := .int yA) (by decide +kernel) (by decide +kernel) hyAM rfl ?_
        refine zp_seg (pc' := 24) (lv' := [(0, .ref m), (2, .int y2_19)]) (st' := [.ref m, .int yA]) [(23, .aload_n 0)] (by decide +kernel) rfl ?_
        refine zr_get (idx := 336) (k := 12) (v := .int (g 12)) (by decide +kernel) (by decide +kernel) hyAM rfl ?_
        refine zp_if (i := .if_icmp .ge 63) (c := (g 12) ≤ yA) (t := 90) (e := 30) (lv' := [(0, .ref m), (2, .int y2_19)]) (st' := []) (by decide +kernel) rfl (fun cc27 => ?_) (fun cc27 => ?_)
        ·
          have k119 := zrng yA
          have f120 := zleI cc27
          have hzy := znat (x := yA) (by omega)
          have hq3 : zTd ft (g 12).toNatClampNeg (g 13).toNatClampNeg yA.toNatClampNeg := hp1_1.2.tr (zTd_num hyA.2.2 (by omega) (by omega) (by omega) (by
            first
            | exact Or.inl (by omega)
            | (refine Or.inr (fun k => ?_)
               rw [← ex38] at k
               have k1 : 48 ≤ x38.toInt ∧ x38.toInt ≤ 57 := k
               omega)) hp1_1.2.d)
          refine zp_seg (pc' := 214) (lv' := [(0, .ref m), (2, .int y2_19)]) (st' := []) [(90, .goto 124)] (by decide +kernel) rfl ?_
          have hoffend : ∀ x, (x < m ∨ m + 1 ≤ x) → wL19 x = w x := fun x hx => ((heqL19 x ⟨hx, (zx_X16_readB_0 hx)⟩).trans (heq1 x hx))
          refine zr_retV (by decide +kernel) rfl ?_
          rw [← hPost]; exact ⟨rfl, Or.inl ⟨_, rfl, yA, (hsi1.tr hsiL19), hoffend, (by
                first
                | exact hyAM
                | exact zM14 hyAM (by omega)), (by
                first | exact ⟨by omega, hq4⟩ | exact ⟨by omega, hq3⟩), rfl⟩⟩
        ·
          have k121 := zrng yA
          have f122 := znleI cc27
          refine zp_seg (pc' := 31) (lv' := [(0, .ref m), (2, .int y2_19)]) (st' := [.ref m]) [(30, .aload_n 0)] (by decide +kernel) rfl ?_
          refine zr_get (idx := 339) (k := 11) (v := .ref (m + 80)) (by decide +kernel) (by decide +kernel) hyAM rfl ?_
          refine zp_seg (pc' := 35) (lv' := [(0, .ref m), (2, .int y2_19)]) (st' := [.ref m, .ref (m + 80)]) [(34, .aload_n 0)] (by decide +kernel) rfl ?_
          refine zr_get (idx := 334) (k := 13) (v := .int yA) (by decide +kernel) (by decide +kernel) hyAM rfl ?_
          have hb123 : wL19 (m + 80) = some (.inr (1, 400, .inl ft)) := ((heqL19 (m + 80) ⟨(zx_X16_readB_1), (zx_X16_readB_2)⟩).trans (heq1 (m + 80) (zx_X16_readB_1))).trans hA_m_80
          refine zr_bald (by decide +kernel) hb123 (by decide) (zin (by first | omega | decide) (by first | omega | decide)) ?_
          have hz124 : (yA.toNatClampNeg : Int) = yA.toInt := znat (by first | omega | decide)
          obtain ⟨x38, ex38⟩ : ∃ x9, x9 = ft (yA.toNatClampNeg) := ⟨_, rfl⟩
          rw [← ex38]
          have kx38 := zrng x38
          refine zp_seg (pc' := 41) (lv' := [(0, .ref m), (2, .int y2_19)]) (st' := [.int 48, .int x38]) [(39, .bipush 48)] (by decide +kernel) rfl ?_
          refine zp_if (i := .if_icmp .lt 49) (c := x38 < 48) (t := 90) (e := 44) (lv' := [(0, .ref m), (2, .int y2_19)]) (st' := []) (by decide +kernel) rfl (fun cc41 => ?_) (fun cc41 => ?_)
          ·
            have f125 := zltI cc41
            rw [show (48 : Int32).toInt = 48 from by decide] at f125
            have hzy := znat (x := yA) (by omega)
            have hq3 : zTd ft (g 12).toNatClampNeg (g 13).toNatClampNeg yA.toNatClampNeg := hp1_1.2.tr (zTd_num hyA.2.2 (by omega) (by omega) (by omega) (by
              first
              | exact Or.inl (by omega)
              | (refine Or.inr (fun k => ?_)
                 rw [← ex38] at k
                 have k1 : 48 ≤ x38.toInt ∧ x38.toInt ≤ 57 := k
                 omega)) hp1_1.2.d)
            refine zp_seg (pc' := 214) (lv' := [(0, .ref m), (2, .int y2_19)]) (st' := []) [(90, .goto 124)] (by decide +kernel) rfl ?_
            have hoffend : ∀ x, (x < m ∨ m + 1 ≤ x) → wL19 x = w x := fun x hx => ((heqL19 x ⟨hx, (zx_X16_readB_0 hx)⟩).trans (heq1 x hx))
            refine zr_retV (by decide +kernel) rfl ?_
            rw [← hPost]; exact ⟨rfl, Or.inl ⟨_, rfl, yA, (hsi1.tr hsiL19), hoffend, (by
                  first
                  | exact hyAM
                  | exact zM14 hyAM (by omega)), (by
                  first | exact ⟨by omega, hq4⟩ | exact ⟨by omega, hq3⟩), rfl⟩⟩
          ·
            have f126 := znltI cc41
            rw [show (48 : Int32).toInt = 48 from by decide] at f126
            refine zp_seg (pc' := 45) (lv' := [(0, .ref m), (2, .int y2_19)]) (st' := [.ref m]) [(44, .aload_n 0)] (by decide +kernel) rfl ?_
            refine zr_get (idx := 339) (k := 11) (v := .ref (m + 80)) (by decide +kernel) (by decide +kernel) hyAM rfl ?_
            refine zp_seg (pc' := 49) (lv' := [(0, .ref m), (2, .int y2_19)]) (st' := [.ref m, .ref (m + 80)]) [(48, .aload_n 0)] (by decide +kernel) rfl ?_
            refine zr_get (idx := 334) (k := 13) (v := .int yA) (by decide +kernel) (by decide +kernel) hyAM rfl ?_
            refine zr_bald (by decide +kernel) hb123 (by decide) (zin (by first | omega | decide) (by first | omega | decide)) ?_
            rw [← ex38]
            refine zp_seg (pc' := 55) (lv' := [(0, .ref m), (2, .int y2_19)]) (st' := [.int 57, .int x38]) [(53, .bipush 57)] (by decide +kernel) rfl ?_
            refine zp_if (i := .if_icmp .gt 35) (c := 57 < x38) (t := 90) (e := 58) (lv' := [(0, .ref m), (2, .int y2_19)]) (st' := []) (by decide +kernel) rfl (fun cc55 => ?_) (fun cc55 => ?_)
            ·
              have f127 := zltI cc55
              rw [show (57 : Int32).toInt = 57 from by decide] at f127
              have hzy := znat (x := yA) (by omega)
              have hq3 : zTd ft (g 12).toNatClampNeg (g 13).toNatClampNeg yA.toNatClampNeg := hp1_1.2.tr (zTd_num hyA.2.2 (by omega) (by omega) (by omega) (by
                first
                | exact Or.inl (by omega)
                | (refine Or.inr (fun k => ?_)
                   rw [← ex38] at k
                   have k1 : 48 ≤ x38.toInt ∧ x38.toInt ≤ 57 := k
                   omega)) hp1_1.2.d)
              refine zp_seg (pc' := 214) (lv' := [(0, .ref m), (2, .int y2_19)]) (st' := []) [(90, .goto 124)] (by decide +kernel) rfl ?_
              have hoffend : ∀ x, (x < m ∨ m + 1 ≤ x) → wL19 x = w x := fun x hx => ((heqL19 x ⟨hx, (zx_X16_readB_0 hx)⟩).trans (heq1 x hx))
              refine zr_retV (by decide +kernel) rfl ?_
              rw [← hPost]; exact ⟨rfl, Or.inl ⟨_, rfl, yA, (hsi1.tr hsiL19), hoffend, (by
                    first
                    | exact hyAM
                    | exact zM14 hyAM (by omega)), (by
                    first | exact ⟨by omega, hq4⟩ | exact ⟨by omega, hq3⟩), rfl⟩⟩
            ·
              have f128 := znltI cc55
              rw [show (57 : Int32).toInt = 57 from by decide] at f128
              refine zp_seg (pc' := 61) (lv' := [(0, .ref m), (2, .int y2_19)]) (st' := [.int 10, .int y2_19]) [(58, .iload_n 2), (59, .bipush 10)] (by decide +kernel) rfl ?_
              refine zp_if (i := .if_icmp .ne 13) (c := ¬ y2_19 = 10) (t := 74) (e := 64) (lv' := [(0, .ref m), (2, .int y2_19)]) (st' := []) (by decide +kernel) rfl (fun cc61 => ?_) (fun cc61 => ?_)
              ·
                have f130 := zneI cc61
                rw [show (10 : Int32).toInt = 10 from by decide] at f130
                refine zp_seg (pc' := 77) (lv' := [(2, .int (y2_19 + 1)), (0, .ref m)]) (st' := []) [(74, .iinc 2 1)] (by decide +kernel) rfl ?_
                have k131 := zaddC y2_19 1 (n := 1) (by decide) (by omega) (by omega)
                generalize ev77 : (y2_19 + 1 : Int32) = v77 at k131 ⊢
                have kv77 := zrng v77
                refine zp_seg (pc' := 79) (lv' := [(2, .int v77), (0, .ref m)]) (st' := [.ref m, .ref m]) [(77, .aload_n 0), (78, .dup)] (by decide +kernel) rfl ?_
                refine zr_get (idx := 334) (k := 13) (v := .int yA) (by decide +kernel) (by decide +kernel) hyAM rfl ?_
                refine zp_seg (pc' := 84) (lv' := [(2, .int v77), (0, .ref m)]) (st' := [.int (yA + 1), .ref m]) [(82, .iconst 1), (83, .iadd)] (by decide +kernel) rfl ?_
                have k132 := zaddC yA 1 (n := 1) (by decide) (by omega) (by omega)
                generalize ev84 : (yA + 1 : Int32) = v84 at k132 ⊢
                have kv84 := zrng v84
                refine zr_put2 (idx := 334) (k := 13) (fs2 := zMo m (zs g 13 v84) r) (by decide +kernel) (by decide +kernel) hyAM (Nat.le_of_ble_eq_true rfl) rfl rfl rfl ?_
                show zP (d + 1) zq_X16_readB 87 [(2, .int v77), (0, .ref m)] [] (zup wL19 m (.inl (15, zMo m (zs g 13 v84) r))) sz 0 0 Post
                obtain ⟨w84, ew84⟩ : ∃ wz9, wz9 = zup wL19 m (.inl (15, zMo m (zs g 13 v84) r)) := ⟨_, rfl⟩
                have hsi84 : zSI wL19 w84 := by rw [ew84]; exact zSI.setG hyAM _ _
                have heq84 : ∀ x, x ≠ m → w84 x = wL19 x := fun x hx => by rw [ew84]; exact zup_n hx
                have hc84 : w84 m = some (.inl (15, zMo m (zs g 13 v84) r)) := by rw [ew84]; exact zup_s
                rw [← ew84]
                clear ew84
                refine zp_seg (pc' := 19) (lv' := [(2, .int v77), (0, .ref m)]) (st' := []) [(87, .goto (-68))] (by decide +kernel) rfl ?_
                exact (ih19 w84 v77 (v84) (hsiL19.tr hsi84) (fun x hx => ((heq84 x hx.2).trans (heqL19 x ⟨hx.1, hx.2⟩))) (by first | assumption | omega | decide) (by first | assumption | omega | decide) (by
                      exact hc84) (by
                      have hzy := znat (x := yA) (by omega)
                      have hz9 := znat (x := v84) (by omega)
                      refine ⟨by omega, by omega, fun i h1 h2 => ?_⟩
                      by_cases e : i = yA.toNatClampNeg
                      · rw [e, ← ex38]; exact ⟨by omega, by omega⟩
                      · exact hyA.2.2 i h1 (by omega)) (by omega)).more (zfa1 rfl (zfa1 rfl (zfa0)))
              ·
                replace cc61 := Classical.not_not.mp cc61
                have f134 := zeqI cc61
                rw [show (10 : Int32).toInt = 10 from by decide] at f134
                refine zp_seg (pc' := 67) (lv' := [(0, .ref m), (2, .int y2_19)]) (st' := [.ref m, .int 1, .ref m]) [(64, .aload_n 0), (65, .iconst 1), (66, .aload_n 0)] (by decide +kernel) rfl ?_
                refine zr_get (idx := 334) (k := 13) (v := .int yA) (by decide +kernel) (by decide +kernel) hyAM rfl ?_
                have hb135 := hR_m.si (hsi1.tr hsiL19)
                refine zr_callV (idx := 346) (j := 318) (by decide +kernel) (by decide +kernel) (show zMe 318 = some zq_X16_fail from rfl) rfl rfl (Nat.le_of_ble_eq_true rfl) rfl rfl hyAM (Nat.le_of_ble_eq_true rfl) (Nat.le_of_ble_eq_true rfl) (c_X16_fail (w := wL19) m 1 yA hyAM hb135) (by omega) (fun v70 w70 hp70 => ?_)
                obtain ⟨hsi70, heq70, hp70_0, rfl⟩ := hp70
                have hM70 : w70 m = some (.inl (15, zMo m (zs (zs (zs g 9 1) 10 yA) 13 yA) r)) := hp70_0
                show zP _ _ _ _ [.ref (m + 79)] _ _ _ _ _
                have hb136 := hb135.si hsi70
                obtain ⟨fs9, hst9⟩ := hb136.stop
                refine zr_thr (by decide +kernel) hst9 ?_
                rw [← hPost]; exact ⟨rfl, Or.inr ⟨rfl, (zs (zs (zs g 9 1) 10 yA) 13 yA), ((hsi1.tr hsiL19).tr hsi70), (fun x hx => ((heq70 x hx).trans ((heqL19 x ⟨hx, (zx_X16_readB_0 hx)⟩).trans (heq1 x hx)))), hM70, (by
                      first | exact hx9_1 | exact ⟨rfl, rfl, rfl, rfl⟩)⟩⟩
      have hl137 : (0 : Int32).toInt = 0 := by decide
      exact (hL19 _ w1 0 (A9_1) zSI.rf (fun _ _ => rfl) (by first | assumption | omega | decide) (by first | assumption | omega | decide) (by
            exact hM1) (by
            exact ⟨by omega, by omega, fun i h1 h2 => absurd h2 (by omega)⟩) (Nat.lt_succ_self _)).more (zfa1 rfl (zfa1 rfl (zfa0)))

theorem zx_X16_readW_0 {m : Nat}  : (m + 80) < m ∨ m + 1 ≤ (m + 80) := by omega
theorem zx_X16_readW_1 {m : Nat}  : (m + 80) ≠ m := by omega
theorem zx_X16_readW_2 {m x : Nat} (h0 : x < m ∨ m + 1 ≤ x) : x ≠ m := by omega
set_option maxHeartbeats 8000000 in
set_option maxRecDepth 100000 in
theorem c_X16_readW {w : zM} {g : Nat → Int32} {r : Nat → Value} {ft : Nat → Int32} {g12 : Int32} {g13 : Int32} {g14 : Int32} (m : Nat) {n9 k9 : Nat} (hk9 : 30 ≤ k9) (hc9 : ∀ {w : zM} {g : Nat → Int32} {r : Nat → Value} {ft : Nat → Int32} {g12 : Int32} {g13 : Int32} {g14 : Int32} (m : Nat) (hm : w m = some (.inl (15, zMo m g r))) (hR_m : zR m w) (htp : 0 ≤ g13.toInt ∧ g13.toInt ≤ g12.toInt ∧ g12.toInt ≤ 400) (hA_m_80 : w (m + 80) = some (.inr (1, 400, .inl ft))) (hop : 0 ≤ g14.toInt ∧ g14.toInt ≤ 20) (hdp : zDep ft g13.toNatClampNeg = g14.toInt) (hlv : 21 ≤ g14.toInt + (n9 : Int)) (hg12 : g 12 = g12) (hg13 : g 13 = g13) (hg14 : g 14 = g14), zConT k9 zq_X16_readB [.ref m] w (fun v9 w9' => ∃ A9 : Int32, zSI w w9' ∧ (∀ x, (x < m ∨ m + 1 ≤ x) → w9' x = w x) ∧ w9' m = some (.inl (15, zMo m (zs g 13 A9) r)) ∧ ((g13.toInt ≤ A9.toInt ∧ A9.toInt ≤ g12.toInt) ∧ zTd ft g12.toNatClampNeg g13.toNatClampNeg A9.toNatClampNeg) ∧ v9 = none) (fun w9' => ∃ G9 : Nat → Int32, zSI w w9' ∧ (∀ x, (x < m ∨ m + 1 ≤ x) → w9' x = w x) ∧ w9' m = some (.inl (15, zMo m G9 r)) ∧ (zKp G9 g))) (hm : w m = some (.inl (15, zMo m g r))) (hR_m : zR m w) (htp : 0 ≤ g13.toInt ∧ g13.toInt ≤ g12.toInt ∧ g12.toInt ≤ 400) (hA_m_80 : w (m + 80) = some (.inr (1, 400, .inl ft))) (hop : 0 ≤ g14.toInt ∧ g14.toInt ≤ 20) (hdp : zDep ft g13.toNatClampNeg = g14.toInt) (hlv : 21 ≤ g14.toInt + (n9 : Int)) (hg12 : g 12 = g12) (hg13 : g 13 = g13) (hg14 : g 14 = g14) : zConT (k9 + 1) zq_X16_readW [.ref m] w (fun v9 w9' => ∃ A9 : Int32, zSI w w9' ∧ (∀ x, (x < m ∨ m + 1 ≤ x) → w9' x = w x) ∧ w9' m = some (.inl (15, zMo m (zs g 13 A9) r)) ∧ ((g13.toInt ≤ A9.toInt ∧ A9.toInt ≤ g12.toInt) ∧ zTd ft g12.toNatClampNeg g13.toNatClampNeg A9.toNatClampNeg) ∧ v9 = none) (fun w9' => ∃ G9 : Nat → Int32, zSI w w9' ∧ (∀ x, (x < m ∨ m + 1 ≤ x) → w9' x = w x) ∧ w9' m = some (.inl (15, zMo m G9 r)) ∧ (zKp G9 g)) := by
  subst hg12
  subst hg13
  subst hg14
  intro d sz hd
  obtain ⟨d, rfl⟩ : ∃ d9, d = d9 + 1 := ⟨d - 1, by omega⟩
  generalize hPost : (fun (r9' : Option (Option Value)) (w9' : zM) (z9 : Nat) => z9 = sz ∧ ((∃ v9, r9' = some v9 ∧ (∃ A9 : Int32, zSI w w9' ∧ (∀ x, (x < m ∨ m + 1 ≤ x) → w9' x = w x) ∧ w9' m = some (.inl (15, zMo m (zs g 13 A9) r)) ∧ (((g 13).toInt ≤ A9.toInt ∧ A9.toInt ≤ (g 12).toInt) ∧ zTd ft (g 12).toNatClampNeg (g 13).toNatClampNeg A9.toNatClampNeg) ∧ v9 = none)) ∨ (r9' = none ∧ (∃ G9 : Nat → Int32, zSI w w9' ∧ (∀ x, (x < m ∨ m + 1 ≤ x) → w9' x = w x) ∧ w9' m = some (.inl (15, zMo m G9 r)) ∧ (zKp G9 g))))) = Post
  show zP (d + 1) zq_X16_readW 0 [(0, .ref m)] [] w sz 0 0 Post
  have k1 := zrng (g 12)
  have hz2 : ((g 12).toNatClampNeg : Int) = (g 12).toInt := znat (by first | omega | decide)
  have k3 := zrng (g 13)
  have hz4 : ((g 13).toNatClampNeg : Int) = (g 13).toInt := znat (by first | omega | decide)
  refine zp_seg (pc' := 1) (lv' := [(0, .ref m)]) (st' := [.ref m]) [(0, .aload_n 0)] (by decide +kernel) rfl ?_
  have k5 := zrng (g 14)
  refine zr_callVT (idx := 356) (j := 325) (by decide +kernel) (by decide +kernel) (show zMe 325 = some zq_X16_readB from rfl) rfl rfl (Nat.le_of_ble_eq_true rfl) rfl rfl hm (Nat.le_of_ble_eq_true rfl) (Nat.le_of_ble_eq_true rfl) (hc9 (w := w) (g12 := (g 12)) (g13 := (g 13)) (g14 := (g 14)) m hm hR_m (by first | omega | decide | assumption | exact zr1_1 | exact zr1_0 | fail "num") hA_m_80 (by first | omega | decide | assumption | exact zr1_1 | exact zr1_0 | fail "num") (by first | omega | decide | assumption | exact zr1_1 | exact zr1_0 | fail "num") (by first | omega | decide | assumption | exact zr1_1 | exact zr1_0 | fail "num") rfl rfl rfl) (by omega) (fun v1 w1 hp1 => ?_) (fun wx9 hx9 => by
        obtain ⟨G9_x9, hsix9, heqx9, hx9_0, hx9_1⟩ := hx9
        skip
        rw [← hPost]
        exact ⟨rfl, Or.inr ⟨rfl, G9_x9, hsix9, (fun x hx => (heqx9 x hx)), hx9_0, (by
              first | exact hx9_1 | exact ⟨rfl, rfl, rfl, rfl⟩)⟩⟩)
  obtain ⟨A9_1, hsi1, heq1, hp1_0, hp1_1, rfl⟩ := hp1
  have hM1 : w1 m = some (.inl (15, zMo m (zs g 13 A9_1) r)) := hp1_0
  show zP _ _ _ _ [] _ _ _ _ _
  refine zp_seg (pc' := 5) (lv' := [(0, .ref m)]) (st' := [.ref m]) [(4, .aload_n 0)] (by decide +kernel) rfl ?_
  have k6 := zrng A9_1
  have hb7 := hR_m.si hsi1
  have hb8 : w1 (m + 80) = some (.inr (1, 400, .inl ft)) := (heq1 (m + 80) (zx_X16_readW_0)).trans hA_m_80
  refine zr_callV (idx := 343) (j := 319) (by decide +kernel) (by decide +kernel) (show zMe 319 = some zq_X16_look from rfl) rfl rfl (Nat.le_of_ble_eq_true rfl) rfl rfl hM1 (Nat.le_of_ble_eq_true rfl) (Nat.le_of_ble_eq_true rfl) (c_X16_look (w := w1) (g12 := (g 12)) (g13 := A9_1) m hM1 hb7 (by first | omega | decide | assumption | exact zr1_1 | exact zr1_0 | fail "num") hb8 (by exact hp1_1.2.d) rfl rfl) (by omega) (fun v5 w5 hp5 => ?_)
  obtain ⟨A9_5, hsi5, heq5, hp5_0, hp5_1, r5, rfl, hr5⟩ := hp5
  have hM5 : w5 m = some (.inl (15, zMo m (zs g 13 A9_5) r)) := hp5_0
  have kr5 := zrng r5
  show zP _ _ _ _ [.int r5] _ _ _ _ _
  refine zp_seg (pc' := 10) (lv' := [(0, .ref m)]) (st' := [.int 33, .int r5]) [(8, .bipush 33)] (by decide +kernel) rfl ?_
  have hJ23 : ∀ (wL23 : zM) (xA : Int32), (zSI w5 wL23) → (∀ x, ((x < m ∨ m + 1 ≤ x)) ∧ x ≠ m → wL23 x = w5 x) → (wL23 m = some (.inl (15, zMo m (zs g 13 xA) r))) → (((g 13).toInt ≤ xA.toInt ∧ xA.toInt ≤ (g 12).toInt) ∧ zTd ft (g 12).toNatClampNeg (g 13).toNatClampNeg xA.toNatClampNeg) → zP (d + 1) zq_X16_readW 23 [(0, .ref m)] [] wL23 sz 0 0 Post := by
    intro wL23 xA hsiL23 heqL23 hxAM hxA
    refine zp_seg (pc' := 24) (lv' := [(0, .ref m)]) (st' := [.ref m]) [(23, .aload_n 0)] (by decide +kernel) rfl ?_
    have k9 := zrng xA
    have hb10 := hb7.si (hsi5.tr hsiL23)
    have hb11 : wL23 (m + 80) = some (.inr (1, 400, .inl ft)) := ((heqL23 (m + 80) ⟨(zx_X16_readW_0), (zx_X16_readW_1)⟩).trans (heq5 (m + 80) (zx_X16_readW_0))).trans hb8
    refine zr_callV (idx := 343) (j := 319) (by decide +kernel) (by decide +kernel) (show zMe 319 = some zq_X16_look from rfl) rfl rfl (Nat.le_of_ble_eq_true rfl) rfl rfl hxAM (Nat.le_of_ble_eq_true rfl) (Nat.le_of_ble_eq_true rfl) (c_X16_look (w := wL23) (g12 := (g 12)) (g13 := xA) m hxAM hb10 (by first | omega | decide | assumption | exact zr1_1 | exact zr1_0 | fail "num") hb11 (by exact hxA.2.d) rfl rfl) (by omega) (fun v24 w24 hp24 => ?_)
    obtain ⟨A9_24, hsi24, heq24, hp24_0, hp24_1, r24, rfl, hr24⟩ := hp24
    have hM24 : w24 m = some (.inl (15, zMo m (zs g 13 A9_24) r)) := hp24_0
    have kr24 := zrng r24
    show zP _ _ _ _ [.int r24] _ _ _ _ _
    refine zp_seg (pc' := 29) (lv' := [(0, .ref m)]) (st' := [.int 94, .int r24]) [(27, .bipush 94)] (by decide +kernel) rfl ?_
    refine zp_if (i := .if_icmp .ne 17) (c := ¬ r24 = 94) (t := 46) (e := 32) (lv' := [(0, .ref m)]) (st' := []) (by decide +kernel) rfl (fun cc29 => ?_) (fun cc29 => ?_)
    ·
      have f13 := zneI cc29
      rw [show (94 : Int32).toInt = 94 from by decide] at f13
      have hoffend : ∀ x, (x < m ∨ m + 1 ≤ x) → w24 x = w x := fun x hx => ((heq24 x hx).trans ((heqL23 x ⟨hx, (zx_X16_readW_2 hx)⟩).trans ((heq5 x hx).trans (heq1 x hx))))
      refine zr_retV (by decide +kernel) rfl ?_
      rw [← hPost]; exact ⟨rfl, Or.inl ⟨_, rfl, A9_24, (((hsi1.tr hsi5).tr hsiL23).tr hsi24), hoffend, hM24, (by
            first | exact ⟨by omega, hxA.2.tr hp24_1.2⟩ | exact ⟨by omega, hq3.tr hp43_1.2⟩), rfl⟩⟩
    ·
      replace cc29 := Classical.not_not.mp cc29
      have f15 := zeqI cc29
      rw [show (94 : Int32).toInt = 94 from by decide] at f15
      obtain ⟨P9, hP9⟩ : ∃ P, P = (A9_24).toNatClampNeg := ⟨_, rfl⟩
      have hzP : (P9 : Int) = (A9_24).toInt := by rw [hP9]; exact znat (by omega)
      obtain ⟨hq1, hq2⟩ : P9 < (g 12).toNatClampNeg ∧ zTd ft (g 12).toNatClampNeg (g 13).toNatClampNeg (P9 + 1) := by
        rw [hP9]
        first
        | exact zTd_chr (hxA.2.tr hp24_1.2) (hr24.symm.trans cc29) (by decide) (by decide) (by decide) (by unfold zDig; decide)
      refine zp_seg (pc' := 34) (lv' := [(0, .ref m)]) (st' := [.ref m, .ref m]) [(32, .aload_n 0), (33, .dup)] (by decide +kernel) rfl ?_
      refine zr_get (idx := 334) (k := 13) (v := .int A9_24) (by decide +kernel) (by decide +kernel) hM24 rfl ?_
      refine zp_seg (pc' := 39) (lv' := [(0, .ref m)]) (st' := [.int (A9_24 + 1), .ref m]) [(37, .iconst 1), (38, .iadd)] (by decide +kernel) rfl ?_
      have k16 := zrng A9_24
      have k17 := zaddC A9_24 1 (n := 1) (by decide) (by omega) (by omega)
      generalize ev39 : (A9_24 + 1 : Int32) = v39 at k17 ⊢
      have kv39 := zrng v39
      refine zr_put2 (idx := 334) (k := 13) (fs2 := zMo m (zs g 13 v39) r) (by decide +kernel) (by decide +kernel) hM24 (Nat.le_of_ble_eq_true rfl) rfl rfl rfl ?_
      show zP (d + 1) zq_X16_readW 42 [(0, .ref m)] [] (zup w24 m (.inl (15, zMo m (zs g 13 v39) r))) sz 0 0 Post
      obtain ⟨w39, ew39⟩ : ∃ wz9, wz9 = zup w24 m (.inl (15, zMo m (zs g 13 v39) r)) := ⟨_, rfl⟩
      have hsi39 : zSI w24 w39 := by rw [ew39]; exact zSI.setG hM24 _ _
      have heq39 : ∀ x, x ≠ m → w39 x = w24 x := fun x hx => by rw [ew39]; exact zup_n hx
      have hc39 : w39 m = some (.inl (15, zMo m (zs g 13 v39) r)) := by rw [ew39]; exact zup_s
      rw [← ew39]
      clear ew39
      have hz9 := znat (x := v39) (by omega)
      have hq3 : zTd ft (g 12).toNatClampNeg (g 13).toNatClampNeg (v39).toNatClampNeg := by rw [show (v39).toNatClampNeg = P9 + 1 by omega]; exact hq2
      refine zp_seg (pc' := 43) (lv' := [(0, .ref m)]) (st' := [.ref m]) [(42, .aload_n 0)] (by decide +kernel) rfl ?_
      have hb18 := hb10.si (hsi24.tr hsi39)
      have hb19 : w39 (m + 80) = some (.inr (1, 400, .inl ft)) := ((heq39 (m + 80) (zx_X16_readW_1)).trans (heq24 (m + 80) (zx_X16_readW_0))).trans hb11
      refine zr_callVT (idx := 356) (j := 325) (by decide +kernel) (by decide +kernel) (show zMe 325 = some zq_X16_readB from rfl) rfl rfl (Nat.le_of_ble_eq_true rfl) rfl rfl hc39 (Nat.le_of_ble_eq_true rfl) (Nat.le_of_ble_eq_true rfl) (hc9 (w := w39) (g12 := (g 12)) (g13 := v39) (g14 := (g 14)) m hc39 hb18 (by first | omega | decide | assumption | exact zr1_1 | exact zr1_0 | fail "num") hb19 (by first | omega | decide | assumption | exact zr1_1 | exact zr1_0 | fail "num") (by exact hq3.2.trans hdp) (by first | omega | decide | assumption | exact zr1_1 | exact zr1_0 | fail "num") rfl rfl rfl) (by omega) (fun v43 w43 hp43 => ?_) (fun wx9 hx9 => by
            obtain ⟨G9_x9, hsix9, heqx9, hx9_0, hx9_1⟩ := hx9
            skip
            rw [← hPost]
            exact ⟨rfl, Or.inr ⟨rfl, G9_x9, (((((hsi1.tr hsi5).tr hsiL23).tr hsi24).tr hsi39).tr hsix9), (fun x hx => ((heqx9 x hx).trans ((heq39 x (zx_X16_readW_2 hx)).trans ((heq24 x hx).trans ((heqL23 x ⟨hx, (zx_X16_readW_2 hx)⟩).trans ((heq5 x hx).trans (heq1 x hx))))))), hx9_0, (by
                  first | exact hx9_1 | exact ⟨rfl, rfl, rfl, rfl⟩)⟩⟩)
      obtain ⟨A9_43, hsi43, heq43, hp43_0, hp43_1, rfl⟩ := hp43
      have hM43 : w43 m = some (.inl (15, zMo m (zs g 13 A9_43) r)) := hp43_0
      show zP _ _ _ _ [] _ _ _ _ _
      have hoffend : ∀ x, (x < m ∨ m + 1 ≤ x) → w43 x = w x := fun x hx => ((heq43 x hx).trans ((heq39 x (zx_X16_readW_2 hx)).trans ((heq24 x hx).trans ((heqL23 x ⟨hx, (zx_X16_readW_2 hx)⟩).trans ((heq5 x hx).trans (heq1 x hx))))))
      refine zr_retV (by decide +kernel) rfl ?_
      rw [← hPost]; exact ⟨rfl, Or.inl ⟨_, rfl, A9_43, (((((hsi1.tr hsi5).tr hsiL23).tr hsi24).tr hsi39).tr hsi43), hoffend, hM43, (by
            first | exact ⟨by omega, hxA.2.tr hp24_1.2⟩ | exact ⟨by omega, hq3.tr hp43_1.2⟩), rfl⟩⟩
  refine zp_if (i := .if_icmp .ne 13) (c := ¬ r5 = 33) (t := 23) (e := 13) (lv' := [(0, .ref m)]) (st' := []) (by decide +kernel) rfl (fun cc10 => ?_) (fun cc10 => ?_)
  ·
    have f21 := zneI cc10
    rw [show (33 : Int32).toInt = 33 from by decide] at f21
    exact (hJ23 w5 (A9_5) zSI.rf (fun _ _ => rfl) (by
          exact hM5) (by
          first | (have hz9 := znat (x := A9_5) (by omega)
                   exact ⟨by omega, by rw [show (A9_5).toNatClampNeg = P9 + 1 by omega]; exact hq2⟩) | exact ⟨by omega, hp1_1.2.tr hp5_1.2⟩)).more (zfa1 rfl (zfa0))
  ·
    replace cc10 := Classical.not_not.mp cc10
    have f23 := zeqI cc10
    rw [show (33 : Int32).toInt = 33 from by decide] at f23
    obtain ⟨P9, hP9⟩ : ∃ P, P = (A9_5).toNatClampNeg := ⟨_, rfl⟩
    have hzP : (P9 : Int) = (A9_5).toInt := by rw [hP9]; exact znat (by omega)
    obtain ⟨hq1, hq2⟩ : P9 < (g 12).toNatClampNeg ∧ zTd ft (g 12).toNatClampNeg (g 13).toNatClampNeg (P9 + 1) := by
      rw [hP9]
      first
      | exact zTd_chr (hp1_1.2.tr hp5_1.2) (hr5.symm.trans cc10) (by decide) (by decide) (by decide) (by unfold zDig; decide)
    refine zp_seg (pc' := 15) (lv' := [(0, .ref m)]) (st' := [.ref m, .ref m]) [(13, .aload_n 0), (14, .dup)] (by decide +kernel) rfl ?_
    refine zr_get (idx := 334) (k := 13) (v := .int A9_5) (by decide +kernel) (by decide +kernel) hM5 rfl ?_
    refine zp_seg (pc' := 20) (lv' := [(0, .ref m)]) (st' := [.int (A9_5 + 1), .ref m]) [(18, .iconst 1), (19, .iadd)] (by decide +kernel) rfl ?_
    have k24 := zrng A9_5
    have k25 := zaddC A9_5 1 (n := 1) (by decide) (by omega) (by omega)
    generalize ev20 : (A9_5 + 1 : Int32) = v20 at k25 ⊢
    have kv20 := zrng v20
    refine zr_put2 (idx := 334) (k := 13) (fs2 := zMo m (zs g 13 v20) r) (by decide +kernel) (by decide +kernel) hM5 (Nat.le_of_ble_eq_true rfl) rfl rfl rfl ?_
    show zP (d + 1) zq_X16_readW 23 [(0, .ref m)] [] (zup w5 m (.inl (15, zMo m (zs g 13 v20) r))) sz 0 0 Post
    obtain ⟨w20, ew20⟩ : ∃ wz9, wz9 = zup w5 m (.inl (15, zMo m (zs g 13 v20) r)) := ⟨_, rfl⟩
    have hsi20 : zSI w5 w20 := by rw [ew20]; exact zSI.setG hM5 _ _
    have heq20 : ∀ x, x ≠ m → w20 x = w5 x := fun x hx => by rw [ew20]; exact zup_n hx
    have hc20 : w20 m = some (.inl (15, zMo m (zs g 13 v20) r)) := by rw [ew20]; exact zup_s
    rw [← ew20]
    clear ew20
    exact (hJ23 w20 (v20) hsi20 (fun x hx => (heq20 x hx.2)) (by
          exact hc20) (by
          first | (have hz9 := znat (x := v20) (by omega)
                   exact ⟨by omega, by rw [show (v20).toNatClampNeg = P9 + 1 by omega]; exact hq2⟩) | exact ⟨by omega, hp1_1.2.tr hp5_1.2⟩)).more (zfa1 rfl (zfa0))

theorem zx_X16_readU_0 {m : Nat}  : (m + 80) < m ∨ m + 1 ≤ (m + 80) := by omega
theorem zx_X16_readU_1 {m : Nat}  : (m + 80) ≠ m := by omega
theorem zx_X16_readU_2 {m x : Nat} (h0 : x < m ∨ m + 1 ≤ x) : x ≠ m := by omega
set_option maxHeartbeats 8000000 in
set_option maxRecDepth 100000 in
theorem c_X16_readU {w : zM} {g : Nat → Int32} {r : Nat → Value} {ft : Nat → Int32} {g12 : Int32} {g13 : Int32} {g14 : Int32} (m : Nat) {n9 k9 : Nat} (hk9 : 30 ≤ k9) (hc9 : ∀ {w : zM} {g : Nat → Int32} {r : Nat → Value} {ft : Nat → Int32} {g12 : Int32} {g13 : Int32} {g14 : Int32} (m : Nat) (hm : w m = some (.inl (15, zMo m g r))) (hR_m : zR m w) (htp : 0 ≤ g13.toInt ∧ g13.toInt ≤ g12.toInt ∧ g12.toInt ≤ 400) (hA_m_80 : w (m + 80) = some (.inr (1, 400, .inl ft))) (hop : 0 ≤ g14.toInt ∧ g14.toInt ≤ 20) (hdp : zDep ft g13.toNatClampNeg = g14.toInt) (hlv : 21 ≤ g14.toInt + (n9 : Int)) (hg12 : g 12 = g12) (hg13 : g 13 = g13) (hg14 : g 14 = g14), zConT k9 zq_X16_readW [.ref m] w (fun v9 w9' => ∃ A9 : Int32, zSI w w9' ∧ (∀ x, (x < m ∨ m + 1 ≤ x) → w9' x = w x) ∧ w9' m = some (.inl (15, zMo m (zs g 13 A9) r)) ∧ ((g13.toInt ≤ A9.toInt ∧ A9.toInt ≤ g12.toInt) ∧ zTd ft g12.toNatClampNeg g13.toNatClampNeg A9.toNatClampNeg) ∧ v9 = none) (fun w9' => ∃ G9 : Nat → Int32, zSI w w9' ∧ (∀ x, (x < m ∨ m + 1 ≤ x) → w9' x = w x) ∧ w9' m = some (.inl (15, zMo m G9 r)) ∧ (zKp G9 g))) (hm : w m = some (.inl (15, zMo m g r))) (hR_m : zR m w) (htp : 0 ≤ g13.toInt ∧ g13.toInt ≤ g12.toInt ∧ g12.toInt ≤ 400) (hA_m_80 : w (m + 80) = some (.inr (1, 400, .inl ft))) (hop : 0 ≤ g14.toInt ∧ g14.toInt ≤ 20) (hdp : zDep ft g13.toNatClampNeg = g14.toInt) (hlv : 21 ≤ g14.toInt + (n9 : Int)) (hg12 : g 12 = g12) (hg13 : g 13 = g13) (hg14 : g 14 = g14) : zConT (k9 + 1) zq_X16_readU [.ref m] w (fun v9 w9' => ∃ A9 : Int32, zSI w w9' ∧ (∀ x, (x < m ∨ m + 1 ≤ x) → w9' x = w x) ∧ w9' m = some (.inl (15, zMo m (zs g 13 A9) r)) ∧ ((g13.toInt ≤ A9.toInt ∧ A9.toInt ≤ g12.toInt) ∧ zTd ft g12.toNatClampNeg g13.toNatClampNeg A9.toNatClampNeg) ∧ v9 = none) (fun w9' => ∃ G9 : Nat → Int32, zSI w w9' ∧ (∀ x, (x < m ∨ m + 1 ≤ x) → w9' x = w x) ∧ w9' m = some (.inl (15, zMo m G9 r)) ∧ (zKp G9 g)) := by
  subst hg12
  subst hg13
  subst hg14
  intro d sz hd
  obtain ⟨d, rfl⟩ : ∃ d9, d = d9 + 1 := ⟨d - 1, by omega⟩
  generalize hPost : (fun (r9' : Option (Option Value)) (w9' : zM) (z9 : Nat) => z9 = sz ∧ ((∃ v9, r9' = some v9 ∧ (∃ A9 : Int32, zSI w w9' ∧ (∀ x, (x < m ∨ m + 1 ≤ x) → w9' x = w x) ∧ w9' m = some (.inl (15, zMo m (zs g 13 A9) r)) ∧ (((g 13).toInt ≤ A9.toInt ∧ A9.toInt ≤ (g 12).toInt) ∧ zTd ft (g 12).toNatClampNeg (g 13).toNatClampNeg A9.toNatClampNeg) ∧ v9 = none)) ∨ (r9' = none ∧ (∃ G9 : Nat → Int32, zSI w w9' ∧ (∀ x, (x < m ∨ m + 1 ≤ x) → w9' x = w x) ∧ w9' m = some (.inl (15, zMo m G9 r)) ∧ (zKp G9 g))))) = Post
  show zP (d + 1) zq_X16_readU 0 [(0, .ref m)] [] w sz 0 0 Post
  have k1 := zrng (g 12)
  have hz2 : ((g 12).toNatClampNeg : Int) = (g 12).toInt := znat (by first | omega | decide)
  have k3 := zrng (g 13)
  have hz4 : ((g 13).toNatClampNeg : Int) = (g 13).toInt := znat (by first | omega | decide)
  refine zp_seg (pc' := 1) (lv' := [(0, .ref m)]) (st' := [.ref m]) [(0, .aload_n 0)] (by decide +kernel) rfl ?_
  have k5 := zrng (g 14)
  refine zr_callVT (idx := 353) (j := 323) (by decide +kernel) (by decide +kernel) (show zMe 323 = some zq_X16_readW from rfl) rfl rfl (Nat.le_of_ble_eq_true rfl) rfl rfl hm (Nat.le_of_ble_eq_true rfl) (Nat.le_of_ble_eq_true rfl) (hc9 (w := w) (g12 := (g 12)) (g13 := (g 13)) (g14 := (g 14)) m hm hR_m (by first | omega | decide | assumption | exact zr1_1 | exact zr1_0 | fail "num") hA_m_80 (by first | omega | decide | assumption | exact zr1_1 | exact zr1_0 | fail "num") (by first | omega | decide | assumption | exact zr1_1 | exact zr1_0 | fail "num") (by first | omega | decide | assumption | exact zr1_1 | exact zr1_0 | fail "num") rfl rfl rfl) (by omega) (fun v1 w1 hp1 => ?_) (fun wx9 hx9 => by
        obtain ⟨G9_x9, hsix9, heqx9, hx9_0, hx9_1⟩ := hx9
        skip
        rw [← hPost]
        exact ⟨rfl, Or.inr ⟨rfl, G9_x9, hsix9, (fun x hx => (heqx9 x hx)), hx9_0, (by
              first | exact hx9_1 | exact ⟨rfl, rfl, rfl, rfl⟩)⟩⟩)
  obtain ⟨A9_1, hsi1, heq1, hp1_0, hp1_1, rfl⟩ := hp1
  have hM1 : w1 m = some (.inl (15, zMo m (zs g 13 A9_1) r)) := hp1_0
  show zP _ _ _ _ [] _ _ _ _ _
  have hL4 : ∀ (mm4 : Nat) (wL4 : zM) (yA : Int32), (zSI w1 wL4) → (∀ x, ((x < m ∨ m + 1 ≤ x)) ∧ x ≠ m → wL4 x = w1 x) → (wL4 m = some (.inl (15, zMo m (zs g 13 yA) r))) → (((g 13).toInt ≤ yA.toInt ∧ yA.toInt ≤ (g 12).toInt) ∧ zTd ft (g 12).toNatClampNeg (g 13).toNatClampNeg yA.toNatClampNeg) → (401 - yA.toInt).toNat < mm4 → zP (d + 1) zq_X16_readU 4 [(0, .ref m)] [] wL4 sz 0 0 Post := by
    intro mm4
    induction mm4 with
    | zero => intros; omega
    | succ mm4 ih4 =>
    intro wL4 yA hsiL4 heqL4 hyAM hyA hmu4
    refine zp_seg (pc' := 5) (lv' := [(0, .ref m)]) (st' := [.ref m]) [(4, .aload_n 0)] (by decide +kernel) rfl ?_
    have k6 := zrng yA
    have hb7 := hR_m.si (hsi1.tr hsiL4)
    have hb8 : wL4 (m + 80) = some (.inr (1, 400, .inl ft)) := ((heqL4 (m + 80) ⟨(zx_X16_readU_0), (zx_X16_readU_1)⟩).trans (heq1 (m + 80) (zx_X16_readU_0))).trans hA_m_80
    refine zr_callV (idx := 343) (j := 319) (by decide +kernel) (by decide +kernel) (show zMe 319 = some zq_X16_look from rfl) rfl rfl (Nat.le_of_ble_eq_true rfl) rfl rfl hyAM (Nat.le_of_ble_eq_true rfl) (Nat.le_of_ble_eq_true rfl) (c_X16_look (w := wL4) (g12 := (g 12)) (g13 := yA) m hyAM hb7 (by first | omega | decide | assumption | exact zr1_1 | exact zr1_0 | fail "num") hb8 (by exact hyA.2.d) rfl rfl) (by omega) (fun v5 w5 hp5 => ?_)
    obtain ⟨A9_5, hsi5, heq5, hp5_0, hp5_1, r5, rfl, hr5⟩ := hp5
    have hM5 : w5 m = some (.inl (15, zMo m (zs g 13 A9_5) r)) := hp5_0
    have kr5 := zrng r5
    show zP _ _ _ _ [.int r5] _ _ _ _ _
    refine zp_seg (pc' := 10) (lv' := [(0, .ref m)]) (st' := [.int 42, .int r5]) [(8, .bipush 42)] (by decide +kernel) rfl ?_
    refine zp_if (i := .if_icmp .eq 12) (c := r5 = 42) (t := 22) (e := 13) (lv' := [(0, .ref m)]) (st' := []) (by decide +kernel) rfl (fun cc10 => ?_) (fun cc10 => ?_)
    ·
      have f10 := zeqI cc10
      rw [show (42 : Int32).toInt = 42 from by decide] at f10
      obtain ⟨P9, hP9⟩ : ∃ P, P = (A9_5).toNatClampNeg := ⟨_, rfl⟩
      have hzP : (P9 : Int) = (A9_5).toInt := by rw [hP9]; exact znat (by omega)
      obtain ⟨hq1, hq2⟩ : P9 < (g 12).toNatClampNeg ∧ zTd ft (g 12).toNatClampNeg (g 13).toNatClampNeg (P9 + 1) := by
        rw [hP9]
        first
        | exact zTd_chr (hyA.2.tr hp5_1.2) (hr5.symm.trans cc10) (by decide) (by decide) (by decide) (by unfold zDig; decide)
        | exact zTd_chr ((hyA.2.tr hp5_1.2).tr hp14_1.2) (hr14.symm.trans cc19) (by decide) (by decide) (by decide) (by unfold zDig; decide)
      refine zp_seg (pc' := 24) (lv' := [(0, .ref m)]) (st' := [.ref m, .ref m]) [(22, .aload_n 0), (23, .dup)] (by decide +kernel) rfl ?_
      refine zr_get (idx := 334) (k := 13) (v := .int A9_5) (by decide +kernel) (by decide +kernel) hM5 rfl ?_
      refine zp_seg (pc' := 29) (lv' := [(0, .ref m)]) (st' := [.int (A9_5 + 1), .ref m]) [(27, .iconst 1), (28, .iadd)] (by decide +kernel) rfl ?_
      have k11 := zrng A9_5
      have k12 := zaddC A9_5 1 (n := 1) (by decide) (by omega) (by omega)
      generalize ev29 : (A9_5 + 1 : Int32) = v29 at k12 ⊢
      have kv29 := zrng v29
      refine zr_put2 (idx := 334) (k := 13) (fs2 := zMo m (zs g 13 v29) r) (by decide +kernel) (by decide +kernel) hM5 (Nat.le_of_ble_eq_true rfl) rfl rfl rfl ?_
      show zP (d + 1) zq_X16_readU 32 [(0, .ref m)] [] (zup w5 m (.inl (15, zMo m (zs g 13 v29) r))) sz 0 0 Post
      obtain ⟨w29, ew29⟩ : ∃ wz9, wz9 = zup w5 m (.inl (15, zMo m (zs g 13 v29) r)) := ⟨_, rfl⟩
      have hsi29 : zSI w5 w29 := by rw [ew29]; exact zSI.setG hM5 _ _
      have heq29 : ∀ x, x ≠ m → w29 x = w5 x := fun x hx => by rw [ew29]; exact zup_n hx
      have hc29 : w29 m = some (.inl (15, zMo m (zs g 13 v29) r)) := by rw [ew29]; exact zup_s
      rw [← ew29]
      clear ew29
      have hz9 := znat (x := v29) (by omega)
      have hq3 : zTd ft (g 12).toNatClampNeg (g 13).toNatClampNeg (v29).toNatClampNeg := by rw [show (v29).toNatClampNeg = P9 + 1 by omega]; exact hq2
      refine zp_seg (pc' := 33) (lv' := [(0, .ref m)]) (st' := [.ref m]) [(32, .aload_n 0)] (by decide +kernel) rfl ?_
      have hb13 := hb7.si (hsi5.tr hsi29)
      have hb14 : w29 (m + 80) = some (.inr (1, 400, .inl ft)) := ((heq29 (m + 80) (zx_X16_readU_1)).trans (heq5 (m + 80) (zx_X16_readU_0))).trans hb8
      refine zr_callVT (idx := 353) (j := 323) (by decide +kernel) (by decide +kernel) (show zMe 323 = some zq_X16_readW from rfl) rfl rfl (Nat.le_of_ble_eq_true rfl) rfl rfl hc29 (Nat.le_of_ble_eq_true rfl) (Nat.le_of_ble_eq_true rfl) (hc9 (w := w29) (g12 := (g 12)) (g13 := v29) (g14 := (g 14)) m hc29 hb13 (by first | omega | decide | assumption | exact zr1_1 | exact zr1_0 | fail "num") hb14 (by first | omega | decide | assumption | exact zr1_1 | exact zr1_0 | fail "num") (by exact hq3.2.trans hdp) (by first | omega | decide | assumption | exact zr1_1 | exact zr1_0 | fail "num") rfl rfl rfl) (by omega) (fun v33 w33 hp33 => ?_) (fun wx9 hx9 => by
            obtain ⟨G9_x9, hsix9, heqx9, hx9_0, hx9_1⟩ := hx9
            skip
            rw [← hPost]
            exact ⟨rfl, Or.inr ⟨rfl, G9_x9, ((((hsi1.tr hsiL4).tr hsi5).tr hsi29).tr hsix9), (fun x hx => ((heqx9 x hx).trans ((heq29 x (zx_X16_readU_2 hx)).trans ((heq5 x hx).trans ((heqL4 x ⟨hx, (zx_X16_readU_2 hx)⟩).trans (heq1 x hx)))))), hx9_0, (by
                  first | exact hx9_1 | exact ⟨rfl, rfl, rfl, rfl⟩)⟩⟩)
      obtain ⟨A9_33, hsi33, heq33, hp33_0, hp33_1, rfl⟩ := hp33
      have hM33 : w33 m = some (.inl (15, zMo m (zs g 13 A9_33) r)) := hp33_0
      show zP _ _ _ _ [] _ _ _ _ _
      refine zp_seg (pc' := 4) (lv' := [(0, .ref m)]) (st' := []) [(36, .goto (-32))] (by decide +kernel) rfl ?_
      exact (ih4 w33 (A9_33) (((hsiL4.tr hsi5).tr hsi29).tr hsi33) (fun x hx => ((heq33 x hx.1).trans ((heq29 x hx.2).trans ((heq5 x hx.1).trans (heqL4 x ⟨hx.1, hx.2⟩))))) (by
            exact hM33) (by
            exact ⟨by omega, hq3.tr hp33_1.2⟩) (by omega)).more (zfa1 rfl (zfa0))
    ·
      have f16 := zneI cc10
      rw [show (42 : Int32).toInt = 42 from by decide] at f16
      refine zp_seg (pc' := 14) (lv' := [(0, .ref m)]) (st' := [.ref m]) [(13, .aload_n 0)] (by decide +kernel) rfl ?_
      have k17 := zrng A9_5
      have hb18 := hb7.si hsi5
      have hb19 : w5 (m + 80) = some (.inr (1, 400, .inl ft)) := (heq5 (m + 80) (zx_X16_readU_0)).trans hb8
      refine zr_callV (idx := 343) (j := 319) (by decide +kernel) (by decide +kernel) (show zMe 319 = some zq_X16_look from rfl) rfl rfl (Nat.le_of_ble_eq_true rfl) rfl rfl hM5 (Nat.le_of_ble_eq_true rfl) (Nat.le_of_ble_eq_true rfl) (c_X16_look (w := w5) (g12 := (g 12)) (g13 := A9_5) m hM5 hb18 (by first | omega | decide | assumption | exact zr1_1 | exact zr1_0 | fail "num") hb19 (by exact hp5_1.2.d) rfl rfl) (by omega) (fun v14 w14 hp14 => ?_)
      obtain ⟨A9_14, hsi14, heq14, hp14_0, hp14_1, r14, rfl, hr14⟩ := hp14
      have hM14 : w14 m = some (.inl (15, zMo m (zs g 13 A9_14) r)) := hp14_0
      have kr14 := zrng r14
      show zP _ _ _ _ [.int r14] _ _ _ _ _
      refine zp_seg (pc' := 19) (lv' := [(0, .ref m)]) (st' := [.int 47, .int r14]) [(17, .bipush 47)] (by decide +kernel) rfl ?_
      refine zp_if (i := .if_icmp .ne 20) (c := ¬ r14 = 47) (t := 39) (e := 22) (lv' := [(0, .ref m)]) (st' := []) (by decide +kernel) rfl (fun cc19 => ?_) (fun cc19 => ?_)
      ·
        have f21 := zneI cc19
        rw [show (47 : Int32).toInt = 47 from by decide] at f21
        have hoffend : ∀ x, (x < m ∨ m + 1 ≤ x) → w14 x = w x := fun x hx => ((heq14 x hx).trans ((heq5 x hx).trans ((heqL4 x ⟨hx, (zx_X16_readU_2 hx)⟩).trans (heq1 x hx))))
        refine zr_retV (by decide +kernel) rfl ?_
        rw [← hPost]; exact ⟨rfl, Or.inl ⟨_, rfl, A9_14, (((hsi1.tr hsiL4).tr hsi5).tr hsi14), hoffend, hM14, (by
              exact ⟨by omega, (hyA.2.tr hp5_1.2).tr hp14_1.2⟩), rfl⟩⟩
      ·
        replace cc19 := Classical.not_not.mp cc19
        have f23 := zeqI cc19
        rw [show (47 : Int32).toInt = 47 from by decide] at f23
        obtain ⟨P9, hP9⟩ : ∃ P, P = (A9_14).toNatClampNeg := ⟨_, rfl⟩
        have hzP : (P9 : Int) = (A9_14).toInt := by rw [hP9]; exact znat (by omega)
        obtain ⟨hq1, hq2⟩ : P9 < (g 12).toNatClampNeg ∧ zTd ft (g 12).toNatClampNeg (g 13).toNatClampNeg (P9 + 1) := by
          rw [hP9]
          first
          | exact zTd_chr (hyA.2.tr hp5_1.2) (hr5.symm.trans cc10) (by decide) (by decide) (by decide) (by unfold zDig; decide)
          | exact zTd_chr ((hyA.2.tr hp5_1.2).tr hp14_1.2) (hr14.symm.trans cc19) (by decide) (by decide) (by decide) (by unfold zDig; decide)
        refine zp_seg (pc' := 24) (lv' := [(0, .ref m)]) (st' := [.ref m, .ref m]) [(22, .aload_n 0), (23, .dup)] (by decide +kernel) rfl ?_
        refine zr_get (idx := 334) (k := 13) (v := .int A9_14) (by decide +kernel) (by decide +kernel) hM14 rfl ?_
        refine zp_seg (pc' := 29) (lv' := [(0, .ref m)]) (st' := [.int (A9_14 + 1), .ref m]) [(27, .iconst 1), (28, .iadd)] (by decide +kernel) rfl ?_
        have k24 := zrng A9_14
        have k25 := zaddC A9_14 1 (n := 1) (by decide) (by omega) (by omega)
        generalize ev29 : (A9_14 + 1 : Int32) = v29 at k25 ⊢
        have kv29 := zrng v29
        refine zr_put2 (idx := 334) (k := 13) (fs2 := zMo m (zs g 13 v29) r) (by decide +kernel) (by decide +kernel) hM14 (Nat.le_of_ble_eq_true rfl) rfl rfl rfl ?_
        show zP (d + 1) zq_X16_readU 32 [(0, .ref m)] [] (zup w14 m (.inl (15, zMo m (zs g 13 v29) r))) sz 0 0 Post
        obtain ⟨w29, ew29⟩ : ∃ wz9, wz9 = zup w14 m (.inl (15, zMo m (zs g 13 v29) r)) := ⟨_, rfl⟩
        have hsi29 : zSI w14 w29 := by rw [ew29]; exact zSI.setG hM14 _ _
        have heq29 : ∀ x, x ≠ m → w29 x = w14 x := fun x hx => by rw [ew29]; exact zup_n hx
        have hc29 : w29 m = some (.inl (15, zMo m (zs g 13 v29) r)) := by rw [ew29]; exact zup_s
        rw [← ew29]
        clear ew29
        have hz9 := znat (x := v29) (by omega)
        have hq3 : zTd ft (g 12).toNatClampNeg (g 13).toNatClampNeg (v29).toNatClampNeg := by rw [show (v29).toNatClampNeg = P9 + 1 by omega]; exact hq2
        refine zp_seg (pc' := 33) (lv' := [(0, .ref m)]) (st' := [.ref m]) [(32, .aload_n 0)] (by decide +kernel) rfl ?_
        have hb26 := hb18.si (hsi14.tr hsi29)
        have hb27 : w29 (m + 80) = some (.inr (1, 400, .inl ft)) := ((heq29 (m + 80) (zx_X16_readU_1)).trans (heq14 (m + 80) (zx_X16_readU_0))).trans hb19
        refine zr_callVT (idx := 353) (j := 323) (by decide +kernel) (by decide +kernel) (show zMe 323 = some zq_X16_readW from rfl) rfl rfl (Nat.le_of_ble_eq_true rfl) rfl rfl hc29 (Nat.le_of_ble_eq_true rfl) (Nat.le_of_ble_eq_true rfl) (hc9 (w := w29) (g12 := (g 12)) (g13 := v29) (g14 := (g 14)) m hc29 hb26 (by first | omega | decide | assumption | exact zr1_1 | exact zr1_0 | fail "num") hb27 (by first | omega | decide | assumption | exact zr1_1 | exact zr1_0 | fail "num") (by exact hq3.2.trans hdp) (by first | omega | decide | assumption | exact zr1_1 | exact zr1_0 | fail "num") rfl rfl rfl) (by omega) (fun v33 w33 hp33 => ?_) (fun wx9 hx9 => by
              obtain ⟨G9_x9, hsix9, heqx9, hx9_0, hx9_1⟩ := hx9
              skip
              rw [← hPost]
              exact ⟨rfl, Or.inr ⟨rfl, G9_x9, (((((hsi1.tr hsiL4).tr hsi5).tr hsi14).tr hsi29).tr hsix9), (fun x hx => ((heqx9 x hx).trans ((heq29 x (zx_X16_readU_2 hx)).trans ((heq14 x hx).trans ((heq5 x hx).trans ((heqL4 x ⟨hx, (zx_X16_readU_2 hx)⟩).trans (heq1 x hx))))))), hx9_0, (by
                    first | exact hx9_1 | exact ⟨rfl, rfl, rfl, rfl⟩)⟩⟩)
        obtain ⟨A9_33, hsi33, heq33, hp33_0, hp33_1, rfl⟩ := hp33
        have hM33 : w33 m = some (.inl (15, zMo m (zs g 13 A9_33) r)) := hp33_0
        show zP _ _ _ _ [] _ _ _ _ _
        refine zp_seg (pc' := 4) (lv' := [(0, .ref m)]) (st' := []) [(36, .goto (-32))] (by decide +kernel) rfl ?_
        exact (ih4 w33 (A9_33) ((((hsiL4.tr hsi5).tr hsi14).tr hsi29).tr hsi33) (fun x hx => ((heq33 x hx.1).trans ((heq29 x hx.2).trans ((heq14 x hx.1).trans ((heq5 x hx.1).trans (heqL4 x ⟨hx.1, hx.2⟩)))))) (by
              exact hM33) (by
              exact ⟨by omega, hq3.tr hp33_1.2⟩) (by omega)).more (zfa1 rfl (zfa0))
  exact (hL4 _ w1 (A9_1) zSI.rf (fun _ _ => rfl) (by
        exact hM1) (by
        exact ⟨by omega, hp1_1.2⟩) (Nat.lt_succ_self _)).more (zfa1 rfl (zfa0))

theorem zx_X16_readE_0 {m : Nat}  : (m + 80) < m ∨ m + 1 ≤ (m + 80) := by omega
theorem zx_X16_readE_1 {m : Nat}  : (m + 80) ≠ m := by omega
theorem zx_X16_readE_2 {m x : Nat} (h0 : x < m ∨ m + 1 ≤ x) : x ≠ m := by omega
set_option maxHeartbeats 8000000 in
set_option maxRecDepth 100000 in
theorem c_X16_readE {w : zM} {g : Nat → Int32} {r : Nat → Value} {ft : Nat → Int32} {g12 : Int32} {g13 : Int32} {g14 : Int32} (m : Nat) {n9 k9 : Nat} (hk9 : 30 ≤ k9) (hc9 : ∀ {w : zM} {g : Nat → Int32} {r : Nat → Value} {ft : Nat → Int32} {g12 : Int32} {g13 : Int32} {g14 : Int32} (m : Nat) (hm : w m = some (.inl (15, zMo m g r))) (hR_m : zR m w) (htp : 0 ≤ g13.toInt ∧ g13.toInt ≤ g12.toInt ∧ g12.toInt ≤ 400) (hA_m_80 : w (m + 80) = some (.inr (1, 400, .inl ft))) (hop : 0 ≤ g14.toInt ∧ g14.toInt ≤ 20) (hdp : zDep ft g13.toNatClampNeg = g14.toInt) (hlv : 21 ≤ g14.toInt + (n9 : Int)) (hg12 : g 12 = g12) (hg13 : g 13 = g13) (hg14 : g 14 = g14), zConT k9 zq_X16_readU [.ref m] w (fun v9 w9' => ∃ A9 : Int32, zSI w w9' ∧ (∀ x, (x < m ∨ m + 1 ≤ x) → w9' x = w x) ∧ w9' m = some (.inl (15, zMo m (zs g 13 A9) r)) ∧ ((g13.toInt ≤ A9.toInt ∧ A9.toInt ≤ g12.toInt) ∧ zTd ft g12.toNatClampNeg g13.toNatClampNeg A9.toNatClampNeg) ∧ v9 = none) (fun w9' => ∃ G9 : Nat → Int32, zSI w w9' ∧ (∀ x, (x < m ∨ m + 1 ≤ x) → w9' x = w x) ∧ w9' m = some (.inl (15, zMo m G9 r)) ∧ (zKp G9 g))) (hm : w m = some (.inl (15, zMo m g r))) (hR_m : zR m w) (htp : 0 ≤ g13.toInt ∧ g13.toInt ≤ g12.toInt ∧ g12.toInt ≤ 400) (hA_m_80 : w (m + 80) = some (.inr (1, 400, .inl ft))) (hop : 0 ≤ g14.toInt ∧ g14.toInt ≤ 20) (hdp : zDep ft g13.toNatClampNeg = g14.toInt) (hlv : 21 ≤ g14.toInt + (n9 : Int)) (hg12 : g 12 = g12) (hg13 : g 13 = g13) (hg14 : g 14 = g14) : zConT (k9 + 1) zq_X16_readE [.ref m] w (fun v9 w9' => ∃ A9 : Int32, zSI w w9' ∧ (∀ x, (x < m ∨ m + 1 ≤ x) → w9' x = w x) ∧ w9' m = some (.inl (15, zMo m (zs g 13 A9) r)) ∧ ((g13.toInt ≤ A9.toInt ∧ A9.toInt ≤ g12.toInt) ∧ zTd ft g12.toNatClampNeg g13.toNatClampNeg A9.toNatClampNeg) ∧ v9 = none) (fun w9' => ∃ G9 : Nat → Int32, zSI w w9' ∧ (∀ x, (x < m ∨ m + 1 ≤ x) → w9' x = w x) ∧ w9' m = some (.inl (15, zMo m G9 r)) ∧ (zKp G9 g)) := by
  subst hg12
  subst hg13
  subst hg14
  intro d sz hd
  obtain ⟨d, rfl⟩ : ∃ d9, d = d9 + 1 := ⟨d - 1, by omega⟩
  generalize hPost : (fun (r9' : Option (Option Value)) (w9' : zM) (z9 : Nat) => z9 = sz ∧ ((∃ v9, r9' = some v9 ∧ (∃ A9 : Int32, zSI w w9' ∧ (∀ x, (x < m ∨ m + 1 ≤ x) → w9' x = w x) ∧ w9' m = some (.inl (15, zMo m (zs g 13 A9) r)) ∧ (((g 13).toInt ≤ A9.toInt ∧ A9.toInt ≤ (g 12).toInt) ∧ zTd ft (g 12).toNatClampNeg (g 13).toNatClampNeg A9.toNatClampNeg) ∧ v9 = none)) ∨ (r9' = none ∧ (∃ G9 : Nat → Int32, zSI w w9' ∧ (∀ x, (x < m ∨ m + 1 ≤ x) → w9' x = w x) ∧ w9' m = some (.inl (15, zMo m G9 r)) ∧ (zKp G9 g))))) = Post
  show zP (d + 1) zq_X16_readE 0 [(0, .ref m)] [] w sz 0 0 Post
  have k1 := zrng (g 12)
  have hz2 : ((g 12).toNatClampNeg : Int) = (g 12).toInt := znat (by first | omega | decide)
  have k3 := zrng (g 13)
  have hz4 : ((g 13).toNatClampNeg : Int) = (g 13).toInt := znat (by first | omega | decide)
  refine zp_seg (pc' := 1) (lv' := [(0, .ref m)]) (st' := [.ref m]) [(0, .aload_n 0)] (by decide +kernel) rfl ?_
  refine zr_callV (idx := 343) (j := 319) (by decide +kernel) (by decide +kernel) (show zMe 319 = some zq_X16_look from rfl) rfl rfl (Nat.le_of_ble_eq_true rfl) rfl rfl hm (Nat.le_of_ble_eq_true rfl) (Nat.le_of_ble_eq_true rfl) (c_X16_look (w := w) (g12 := (g 12)) (g13 := (g 13)) m hm hR_m (by first | omega | decide | assumption | exact zr1_1 | exact zr1_0 | fail "num") hA_m_80 (by first | omega | decide | assumption | exact zr1_1 | exact zr1_0 | fail "num") rfl rfl) (by omega) (fun v1 w1 hp1 => ?_)
  obtain ⟨A9_1, hsi1, heq1, hp1_0, hp1_1, r1, rfl, hr1⟩ := hp1
  have hM1 : w1 m = some (.inl (15, zMo m (zs g 13 A9_1) r)) := hp1_0
  have kr1 := zrng r1
  show zP _ _ _ _ [.int r1] _ _ _ _ _
  refine zp_seg (pc' := 6) (lv' := [(0, .ref m)]) (st' := [.int 45, .int r1]) [(4, .bipush 45)] (by decide +kernel) rfl ?_
  have hJ19 : ∀ (wL19 : zM) (xA : Int32), (zSI w1 wL19) → (∀ x, ((x < m ∨ m + 1 ≤ x)) ∧ x ≠ m → wL19 x = w1 x) → (wL19 m = some (.inl (15, zMo m (zs g 13 xA) r))) → (((g 13).toInt ≤ xA.toInt ∧ xA.toInt ≤ (g 12).toInt) ∧ zTd ft (g 12).toNatClampNeg (g 13).toNatClampNeg xA.toNatClampNeg) → zP (d + 1) zq_X16_readE 19 [(0, .ref m)] [] wL19 sz 0 0 Post := by
    intro wL19 xA hsiL19 heqL19 hxAM hxA
    refine zp_seg (pc' := 20) (lv' := [(0, .ref m)]) (st' := [.ref m]) [(19, .aload_n 0)] (by decide +kernel) rfl ?_
    have k5 := zrng xA
    have k6 := zrng (g 14)
    have hb7 := hR_m.si (hsi1.tr hsiL19)
    have hb8 : wL19 (m + 80) = some (.inr (1, 400, .inl ft)) := ((heqL19 (m + 80) ⟨(zx_X16_readE_0), (zx_X16_readE_1)⟩).trans (heq1 (m + 80) (zx_X16_readE_0))).trans hA_m_80
    refine zr_callVT (idx := 350) (j := 322) (by decide +kernel) (by decide +kernel) (show zMe 322 = some zq_X16_readU from rfl) rfl rfl (Nat.le_of_ble_eq_true rfl) rfl rfl hxAM (Nat.le_of_ble_eq_true rfl) (Nat.le_of_ble_eq_true rfl) (hc9 (w := wL19) (g12 := (g 12)) (g13 := xA) (g14 := (g 14)) m hxAM hb7 (by first | omega | decide | assumption | exact zr1_1 | exact zr1_0 | fail "num") hb8 (by first | omega | decide | assumption | exact zr1_1 | exact zr1_0 | fail "num") (by exact hxA.2.2.trans hdp) (by first | omega | decide | assumption | exact zr1_1 | exact zr1_0 | fail "num") rfl rfl rfl) (by omega) (fun v20 w20 hp20 => ?_) (fun wx9 hx9 => by
          obtain ⟨G9_x9, hsix9, heqx9, hx9_0, hx9_1⟩ := hx9
          skip
          rw [← hPost]
          exact ⟨rfl, Or.inr ⟨rfl, G9_x9, ((hsi1.tr hsiL19).tr hsix9), (fun x hx => ((heqx9 x hx).trans ((heqL19 x ⟨hx, (zx_X16_readE_2 hx)⟩).trans (heq1 x hx)))), hx9_0, (by
                first | exact hx9_1 | exact ⟨rfl, rfl, rfl, rfl⟩)⟩⟩)
    obtain ⟨A9_20, hsi20, heq20, hp20_0, hp20_1, rfl⟩ := hp20
    have hM20 : w20 m = some (.inl (15, zMo m (zs g 13 A9_20) r)) := hp20_0
    show zP _ _ _ _ [] _ _ _ _ _
    have hL23 : ∀ (mm23 : Nat) (wL23 : zM) (yA : Int32), (zSI w20 wL23) → (∀ x, ((x < m ∨ m + 1 ≤ x)) ∧ x ≠ m → wL23 x = w20 x) → (wL23 m = some (.inl (15, zMo m (zs g 13 yA) r))) → (((g 13).toInt ≤ yA.toInt ∧ yA.toInt ≤ (g 12).toInt) ∧ zTd ft (g 12).toNatClampNeg (g 13).toNatClampNeg yA.toNatClampNeg) → (401 - yA.toInt).toNat < mm23 → zP (d + 1) zq_X16_readE 23 [(0, .ref m)] [] wL23 sz 0 0 Post := by
      intro mm23
      induction mm23 with
      | zero => intros; omega
      | succ mm23 ih23 =>
      intro wL23 yA hsiL23 heqL23 hyAM hyA hmu23
      refine zp_seg (pc' := 24) (lv' := [(0, .ref m)]) (st' := [.ref m]) [(23, .aload_n 0)] (by decide +kernel) rfl ?_
      have k9 := zrng yA
      have hb10 := hb7.si (hsi20.tr hsiL23)
      have hb11 : wL23 (m + 80) = some (.inr (1, 400, .inl ft)) := ((heqL23 (m + 80) ⟨(zx_X16_readE_0), (zx_X16_readE_1)⟩).trans (heq20 (m + 80) (zx_X16_readE_0))).trans hb8
      refine zr_callV (idx := 343) (j := 319) (by decide +kernel) (by decide +kernel) (show zMe 319 = some zq_X16_look from rfl) rfl rfl (Nat.le_of_ble_eq_true rfl) rfl rfl hyAM (Nat.le_of_ble_eq_true rfl) (Nat.le_of_ble_eq_true rfl) (c_X16_look (w := wL23) (g12 := (g 12)) (g13 := yA) m hyAM hb10 (by first | omega | decide | assumption | exact zr1_1 | exact zr1_0 | fail "num") hb11 (by exact hyA.2.d) rfl rfl) (by omega) (fun v24 w24 hp24 => ?_)
      obtain ⟨A9_24, hsi24, heq24, hp24_0, hp24_1, r24, rfl, hr24⟩ := hp24
      have hM24 : w24 m = some (.inl (15, zMo m (zs g 13 A9_24) r)) := hp24_0
      have kr24 := zrng r24
      show zP _ _ _ _ [.int r24] _ _ _ _ _
      refine zp_seg (pc' := 29) (lv' := [(0, .ref m)]) (st' := [.int 43, .int r24]) [(27, .bipush 43)] (by decide +kernel) rfl ?_
      refine zp_if (i := .if_icmp .eq 12) (c := r24 = 43) (t := 41) (e := 32) (lv' := [(0, .ref m)]) (st' := []) (by decide +kernel) rfl (fun cc29 => ?_) (fun cc29 => ?_)
      ·
        have f13 := zeqI cc29
        rw [show (43 : Int32).toInt = 43 from by decide] at f13
        obtain ⟨P9, hP9⟩ : ∃ P, P = (A9_24).toNatClampNeg := ⟨_, rfl⟩
        have hzP : (P9 : Int) = (A9_24).toInt := by rw [hP9]; exact znat (by omega)
        obtain ⟨hq1, hq2⟩ : P9 < (g 12).toNatClampNeg ∧ zTd ft (g 12).toNatClampNeg (g 13).toNatClampNeg (P9 + 1) := by
          rw [hP9]
          first
          | exact zTd_chr (hyA.2.tr hp24_1.2) (hr24.symm.trans cc29) (by decide) (by decide) (by decide) (by unfold zDig; decide)
          | exact zTd_chr ((hyA.2.tr hp24_1.2).tr hp33_1.2) (hr33.symm.trans cc38) (by decide) (by decide) (by decide) (by unfold zDig; decide)
        refine zp_seg (pc' := 43) (lv' := [(0, .ref m)]) (st' := [.ref m, .ref m]) [(41, .aload_n 0), (42, .dup)] (by decide +kernel) rfl ?_
        refine zr_get (idx := 334) (k := 13) (v := .int A9_24) (by decide +kernel) (by decide +kernel) hM24 rfl ?_
        refine zp_seg (pc' := 48) (lv' := [(0, .ref m)]) (st' := [.int (A9_24 + 1), .ref m]) [(46, .iconst 1), (47, .iadd)] (by decide +kernel) rfl ?_
        have k14 := zrng A9_24
        have k15 := zaddC A9_24 1 (n := 1) (by decide) (by omega) (by omega)
        generalize ev48 : (A9_24 + 1 : Int32) = v48 at k15 ⊢
        have kv48 := zrng v48
        refine zr_put2 (idx := 334) (k := 13) (fs2 := zMo m (zs g 13 v48) r) (by decide +kernel) (by decide +kernel) hM24 (Nat.le_of_ble_eq_true rfl) rfl rfl rfl ?_
        show zP (d + 1) zq_X16_readE 51 [(0, .ref m)] [] (zup w24 m (.inl (15, zMo m (zs g 13 v48) r))) sz 0 0 Post
        obtain ⟨w48, ew48⟩ : ∃ wz9, wz9 = zup w24 m (.inl (15, zMo m (zs g 13 v48) r)) := ⟨_, rfl⟩
        have hsi48 : zSI w24 w48 := by rw [ew48]; exact zSI.setG hM24 _ _
        have heq48 : ∀ x, x ≠ m → w48 x = w24 x := fun x hx => by rw [ew48]; exact zup_n hx
        have hc48 : w48 m = some (.inl (15, zMo m (zs g 13 v48) r)) := by rw [ew48]; exact zup_s
        rw [← ew48]
        clear ew48
        have hz9 := znat (x := v48) (by omega)
        have hq3 : zTd ft (g 12).toNatClampNeg (g 13).toNatClampNeg (v48).toNatClampNeg := by rw [show (v48).toNatClampNeg = P9 + 1 by omega]; exact hq2
        refine zp_seg (pc' := 52) (lv' := [(0, .ref m)]) (st' := [.ref m]) [(51, .aload_n 0)] (by decide +kernel) rfl ?_
        have hb16 := hb10.si (hsi24.tr hsi48)
        have hb17 : w48 (m + 80) = some (.inr (1, 400, .inl ft)) := ((heq48 (m + 80) (zx_X16_readE_1)).trans (heq24 (m + 80) (zx_X16_readE_0))).trans hb11
        refine zr_callVT (idx := 350) (j := 322) (by decide +kernel) (by decide +kernel) (show zMe 322 = some zq_X16_readU from rfl) rfl rfl (Nat.le_of_ble_eq_true rfl) rfl rfl hc48 (Nat.le_of_ble_eq_true rfl) (Nat.le_of_ble_eq_true rfl) (hc9 (w := w48) (g12 := (g 12)) (g13 := v48) (g14 := (g 14)) m hc48 hb16 (by first | omega | decide | assumption | exact zr1_1 | exact zr1_0 | fail "num") hb17 (by first | omega | decide | assumption | exact zr1_1 | exact zr1_0 | fail "num") (by exact hq3.2.trans hdp) (by first | omega | decide | assumption | exact zr1_1 | exact zr1_0 | fail "num") rfl rfl rfl) (by omega) (fun v52 w52 hp52 => ?_) (fun wx9 hx9 => by
              obtain ⟨G9_x9, hsix9, heqx9, hx9_0, hx9_1⟩ := hx9
              skip
              rw [← hPost]
              exact ⟨rfl, Or.inr ⟨rfl, G9_x9, ((((((hsi1.tr hsiL19).tr hsi20).tr hsiL23).tr hsi24).tr hsi48).tr hsix9), (fun x hx => ((heqx9 x hx).trans ((heq48 x (zx_X16_readE_2 hx)).trans ((heq24 x hx).trans ((heqL23 x ⟨hx, (zx_X16_readE_2 hx)⟩).trans ((heq20 x hx).trans ((heqL19 x ⟨hx, (zx_X16_readE_2 hx)⟩).trans (heq1 x hx)))))))), hx9_0, (by
                    first | exact hx9_1 | exact ⟨rfl, rfl, rfl, rfl⟩)⟩⟩)
        obtain ⟨A9_52, hsi52, heq52, hp52_0, hp52_1, rfl⟩ := hp52
        have hM52 : w52 m = some (.inl (15, zMo m (zs g 13 A9_52) r)) := hp52_0
        show zP _ _ _ _ [] _ _ _ _ _
        refine zp_seg (pc' := 23) (lv' := [(0, .ref m)]) (st' := []) [(55, .goto (-32))] (by decide +kernel) rfl ?_
        exact (ih23 w52 (A9_52) (((hsiL23.tr hsi24).tr hsi48).tr hsi52) (fun x hx => ((heq52 x hx.1).trans ((heq48 x hx.2).trans ((heq24 x hx.1).trans (heqL23 x ⟨hx.1, hx.2⟩))))) (by
              exact hM52) (by
              exact ⟨by omega, hq3.tr hp52_1.2⟩) (by omega)).more (zfa1 rfl (zfa0))
      ·
        have f19 := zneI cc29
        rw [show (43 : Int32).toInt = 43 from by decide] at f19
        refine zp_seg (pc' := 33) (lv' := [(0, .ref m)]) (st' := [.ref m]) [(32, .aload_n 0)] (by decide +kernel) rfl ?_
        have k20 := zrng A9_24
        have hb21 := hb10.si hsi24
        have hb22 : w24 (m + 80) = some (.inr (1, 400, .inl ft)) := (heq24 (m + 80) (zx_X16_readE_0)).trans hb11
        refine zr_callV (idx := 343) (j := 319) (by decide +kernel) (by decide +kernel) (show zMe 319 = some zq_X16_look from rfl) rfl rfl (Nat.le_of_ble_eq_true rfl) rfl rfl hM24 (Nat.le_of_ble_eq_true rfl) (Nat.le_of_ble_eq_true rfl) (c_X16_look (w := w24) (g12 := (g 12)) (g13 := A9_24) m hM24 hb21 (by first | omega | decide | assumption | exact zr1_1 | exact zr1_0 | fail "num") hb22 (by exact hp24_1.2.d) rfl rfl) (by omega) (fun v33 w33 hp33 => ?_)
        obtain ⟨A9_33, hsi33, heq33, hp33_0, hp33_1, r33, rfl, hr33⟩ := hp33
        have hM33 : w33 m = some (.inl (15, zMo m (zs g 13 A9_33) r)) := hp33_0
        have kr33 := zrng r33
        show zP _ _ _ _ [.int r33] _ _ _ _ _
        refine zp_seg (pc' := 38) (lv' := [(0, .ref m)]) (st' := [.int 45, .int r33]) [(36, .bipush 45)] (by decide +kernel) rfl ?_
        refine zp_if (i := .if_icmp .ne 20) (c := ¬ r33 = 45) (t := 58) (e := 41) (lv' := [(0, .ref m)]) (st' := []) (by decide +kernel) rfl (fun cc38 => ?_) (fun cc38 => ?_)
        ·
          have f24 := zneI cc38
          rw [show (45 : Int32).toInt = 45 from by decide] at f24
          have hoffend : ∀ x, (x < m ∨ m + 1 ≤ x) → w33 x = w x := fun x hx => ((heq33 x hx).trans ((heq24 x hx).trans ((heqL23 x ⟨hx, (zx_X16_readE_2 hx)⟩).trans ((heq20 x hx).trans ((heqL19 x ⟨hx, (zx_X16_readE_2 hx)⟩).trans (heq1 x hx))))))
          refine zr_retV (by decide +kernel) rfl ?_
          rw [← hPost]; exact ⟨rfl, Or.inl ⟨_, rfl, A9_33, (((((hsi1.tr hsiL19).tr hsi20).tr hsiL23).tr hsi24).tr hsi33), hoffend, hM33, (by
                exact ⟨by omega, (hyA.2.tr hp24_1.2).tr hp33_1.2⟩), rfl⟩⟩
        ·
          replace cc38 := Classical.not_not.mp cc38
          have f26 := zeqI cc38
          rw [show (45 : Int32).toInt = 45 from by decide] at f26
          obtain ⟨P9, hP9⟩ : ∃ P, P = (A9_33).toNatClampNeg := ⟨_, rfl⟩
          have hzP : (P9 : Int) = (A9_33).toInt := by rw [hP9]; exact znat (by omega)
          obtain ⟨hq1, hq2⟩ : P9 < (g 12).toNatClampNeg ∧ zTd ft (g 12).toNatClampNeg (g 13).toNatClampNeg (P9 + 1) := by
            rw [hP9]
            first
            | exact zTd_chr (hyA.2.tr hp24_1.2) (hr24.symm.trans cc29) (by decide) (by decide) (by decide) (by unfold zDig; decide)
            | exact zTd_chr ((hyA.2.tr hp24_1.2).tr hp33_1.2) (hr33.symm.trans cc38) (by decide) (by decide) (by decide) (by unfold zDig; decide)
          refine zp_seg (pc' := 43) (lv' := [(0, .ref m)]) (st' := [.ref m, .ref m]) [(41, .aload_n 0), (42, .dup)] (by decide +kernel) rfl ?_
          refine zr_get (idx := 334) (k := 13) (v := .int A9_33) (by decide +kernel) (by decide +kernel) hM33 rfl ?_
          refine zp_seg (pc' := 48) (lv' := [(0, .ref m)]) (st' := [.int (A9_33 + 1), .ref m]) [(46, .iconst 1), (47, .iadd)] (by decide +kernel) rfl ?_
          have k27 := zrng A9_33
          have k28 := zaddC A9_33 1 (n := 1) (by decide) (by omega) (by omega)
          generalize ev48 : (A9_33 + 1 : Int32) = v48 at k28 ⊢
          have kv48 := zrng v48
          refine zr_put2 (idx := 334) (k := 13) (fs2 := zMo m (zs g 13 v48) r) (by decide +kernel) (by decide +kernel) hM33 (Nat.le_of_ble_eq_true rfl) rfl rfl rfl ?_
          show zP (d + 1) zq_X16_readE 51 [(0, .ref m)] [] (zup w33 m (.inl (15, zMo m (zs g 13 v48) r))) sz 0 0 Post
          obtain ⟨w48, ew48⟩ : ∃ wz9, wz9 = zup w33 m (.inl (15, zMo m (zs g 13 v48) r)) := ⟨_, rfl⟩
          have hsi48 : zSI w33 w48 := by rw [ew48]; exact zSI.setG hM33 _ _
          have heq48 : ∀ x, x ≠ m → w48 x = w33 x := fun x hx => by rw [ew48]; exact zup_n hx
          have hc48 : w48 m = some (.inl (15, zMo m (zs g 13 v48) r)) := by rw [ew48]; exact zup_s
          rw [← ew48]
          clear ew48
          have hz9 := znat (x := v48) (by omega)
          have hq3 : zTd ft (g 12).toNatClampNeg (g 13).toNatClampNeg (v48).toNatClampNeg := by rw [show (v48).toNatClampNeg = P9 + 1 by omega]; exact hq2
          refine zp_seg (pc' := 52) (lv' := [(0, .ref m)]) (st' := [.ref m]) [(51, .aload_n 0)] (by decide +kernel) rfl ?_
          have hb29 := hb21.si (hsi33.tr hsi48)
          have hb30 : w48 (m + 80) = some (.inr (1, 400, .inl ft)) := ((heq48 (m + 80) (zx_X16_readE_1)).trans (heq33 (m + 80) (zx_X16_readE_0))).trans hb22
          refine zr_callVT (idx := 350) (j := 322) (by decide +kernel) (by decide +kernel) (show zMe 322 = some zq_X16_readU from rfl) rfl rfl (Nat.le_of_ble_eq_true rfl) rfl rfl hc48 (Nat.le_of_ble_eq_true rfl) (Nat.le_of_ble_eq_true rfl) (hc9 (w := w48) (g12 := (g 12)) (g13 := v48) (g14 := (g 14)) m hc48 hb29 (by first | omega | decide | assumption | exact zr1_1 | exact zr1_0 | fail "num") hb30 (by first | omega | decide | assumption | exact zr1_1 | exact zr1_0 | fail "num") (by exact hq3.2.trans hdp) (by first | omega | decide | assumption | exact zr1_1 | exact zr1_0 | fail "num") rfl rfl rfl) (by omega) (fun v52 w52 hp52 => ?_) (fun wx9 hx9 => by
                obtain ⟨G9_x9, hsix9, heqx9, hx9_0, hx9_1⟩ := hx9
                skip
                rw [← hPost]
                exact ⟨rfl, Or.inr ⟨rfl, G9_x9, (((((((hsi1.tr hsiL19).tr hsi20).tr hsiL23).tr hsi24).tr hsi33).tr hsi48).tr hsix9), (fun x hx => ((heqx9 x hx).trans ((heq48 x (zx_X16_readE_2 hx)).trans ((heq33 x hx).trans ((heq24 x hx).trans ((heqL23 x ⟨hx, (zx_X16_readE_2 hx)⟩).trans ((heq20 x hx).trans ((heqL19 x ⟨hx, (zx_X16_readE_2 hx)⟩).trans (heq1 x hx))))))))), hx9_0, (by
                      first | exact hx9_1 | exact ⟨rfl, rfl, rfl, rfl⟩)⟩⟩)
          obtain ⟨A9_52, hsi52, heq52, hp52_0, hp52_1, rfl⟩ := hp52
          have hM52 : w52 m = some (.inl (15, zMo m (zs g 13 A9_52) r)) := hp52_0
          show zP _ _ _ _ [] _ _ _ _ _
          refine zp_seg (pc' := 23) (lv' := [(0, .ref m)]) (st' := []) [(55, .goto (-32))] (by decide +kernel) rfl ?_
          exact (ih23 w52 (A9_52) ((((hsiL23.tr hsi24).tr hsi33).tr hsi48).tr hsi52) (fun x hx => ((heq52 x hx.1).trans ((heq48 x hx.2).trans ((heq33 x hx.1).trans ((heq24 x hx.1).trans (heqL23 x ⟨hx.1, hx.2⟩)))))) (by
                exact hM52) (by
                exact ⟨by omega, hq3.tr hp52_1.2⟩) (by omega)).more (zfa1 rfl (zfa0))
    exact (hL23 _ w20 (A9_20) zSI.rf (fun _ _ => rfl) (by
          exact hM20) (by
          exact ⟨by omega, hxA.2.tr hp20_1.2⟩) (Nat.lt_succ_self _)).more (zfa1 rfl (zfa0))
  refine zp_if (i := .if_icmp .ne 13) (c := ¬ r1 = 45) (t := 19) (e := 9) (lv' := [(0, .ref m)]) (st' := []) (by decide +kernel) rfl (fun cc6 => ?_) (fun cc6 => ?_)
  ·
    have f32 := zneI cc6
    rw [show (45 : Int32).toInt = 45 from by decide] at f32
    exact (hJ19 w1 (A9_1) zSI.rf (fun _ _ => rfl) (by
          exact hM1) (by
          first | (have hz9 := znat (x := A9_1) (by omega)
                   exact ⟨by omega, by rw [show (A9_1).toNatClampNeg = P9 + 1 by omega]; exact hq2⟩) | exact hp1_1)).more (zfa1 rfl (zfa0))
  ·
    replace cc6 := Classical.not_not.mp cc6
    have f34 := zeqI cc6
    rw [show (45 : Int32).toInt = 45 from by decide] at f34
    obtain ⟨P9, hP9⟩ : ∃ P, P = (A9_1).toNatClampNeg := ⟨_, rfl⟩
    have hzP : (P9 : Int) = (A9_1).toInt := by rw [hP9]; exact znat (by omega)
    obtain ⟨hq1, hq2⟩ : P9 < (g 12).toNatClampNeg ∧ zTd ft (g 12).toNatClampNeg (g 13).toNatClampNeg (P9 + 1) := by
      rw [hP9]
      first
      | exact zTd_chr (hp1_1.2) (hr1.symm.trans cc6) (by decide) (by decide) (by decide) (by unfold zDig; decide)
    refine zp_seg (pc' := 11) (lv' := [(0, .ref m)]) (st' := [.ref m, .ref m]) [(9, .aload_n 0), (10, .dup)] (by decide +kernel) rfl ?_
    refine zr_get (idx := 334) (k := 13) (v := .int A9_1) (by decide +kernel) (by decide +kernel) hM1 rfl ?_
    refine zp_seg (pc' := 16) (lv' := [(0, .ref m)]) (st' := [.int (A9_1 + 1), .ref m]) [(14, .iconst 1), (15, .iadd)] (by decide +kernel) rfl ?_
    have k35 := zrng A9_1
    have k36 := zaddC A9_1 1 (n := 1) (by decide) (by omega) (by omega)
    generalize ev16 : (A9_1 + 1 : Int32) = v16 at k36 ⊢
    have kv16 := zrng v16
    refine zr_put2 (idx := 334) (k := 13) (fs2 := zMo m (zs g 13 v16) r) (by decide +kernel) (by decide +kernel) hM1 (Nat.le_of_ble_eq_true rfl) rfl rfl rfl ?_
    show zP (d + 1) zq_X16_readE 19 [(0, .ref m)] [] (zup w1 m (.inl (15, zMo m (zs g 13 v16) r))) sz 0 0 Post
    obtain ⟨w16, ew16⟩ : ∃ wz9, wz9 = zup w1 m (.inl (15, zMo m (zs g 13 v16) r)) := ⟨_, rfl⟩
    have hsi16 : zSI w1 w16 := by rw [ew16]; exact zSI.setG hM1 _ _
    have heq16 : ∀ x, x ≠ m → w16 x = w1 x := fun x hx => by rw [ew16]; exact zup_n hx
    have hc16 : w16 m = some (.inl (15, zMo m (zs g 13 v16) r)) := by rw [ew16]; exact zup_s
    rw [← ew16]
    clear ew16
    exact (hJ19 w16 (v16) hsi16 (fun x hx => (heq16 x hx.2)) (by
          exact hc16) (by
          first | (have hz9 := znat (x := v16) (by omega)
                   exact ⟨by omega, by rw [show (v16).toNatClampNeg = P9 + 1 by omega]; exact hq2⟩) | exact hp1_1)).more (zfa1 rfl (zfa0))
