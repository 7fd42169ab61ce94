theorem zx_X16_valueE_0 {m : Nat}  : (m + 80) < m ∨ m + 1 ≤ (m + 80) := by omega
theorem zx_X16_valueE_1 {m : Nat}  : (m + 80) ≠ m := by omega
theorem zx_X16_valueE_2 {m x : Nat} (h0 : m + 6316 ≤ x) (h1 : x < m + 6316 + 1170) : x < m ∨ m + 1 ≤ x := by omega
theorem zx_X16_valueE_3 {m x : Nat} (h0 : m + 6316 ≤ x) (h1 : x < m + 6316 + 1170) : x ≠ m := by omega
theorem zx_X16_valueE_4 {m x : Nat} (h0 : x < m ∨ m + 1 ≤ x) : x ≠ m := by omega
set_option maxHeartbeats 8000000 in
set_option maxRecDepth 100000 in
theorem c_X16_valueE {w : zM} {g : Nat → Int32} {r : Nat → Value} {ft : Nat → Int32} {g1 : Int32} {g3 : Int32} {g12 : Int32} {g13 : Int32} {g16 : Int32} (m : Nat) {n9 k9 : Nat} (hk9 : 40 ≤ k9) (hc9 : ∀ {w : zM} {g : Nat → Int32} {r : Nat → Value} {ft : Nat → Int32} {g1 : Int32} {g3 : Int32} {g12 : Int32} {g13 : Int32} {g16 : Int32} (m : Nat) (hm : w m = some (.inl (15, zMo m g r))) (hR_m : zR m w) (htp : 0 ≤ g13.toInt ∧ g13.toInt ≤ g12.toInt ∧ g12.toInt ≤ 400) (hA_m_80 : w (m + 80) = some (.inr (1, 400, .inl ft))) (htx : (∀ i, i ≤ g12.toNatClampNeg → zDep ft i ≤ 20) ∧ ∀ i, i < g12.toNatClampNeg → ¬ zRun ft g12.toNatClampNeg i) (hPl_m_6316 : zPil w (m + 6316)) (hut : 0 ≤ g1.toInt ∧ g1.toInt + 9 ≤ 160) (hbt : 0 ≤ g3.toInt ∧ g3.toInt + 16 ≤ 44) (hpi : 0 ≤ g16.toInt ∧ g16.toInt ≤ 4 * zDep ft g13.toNatClampNeg + 1) (hlv : 21 ≤ zDep ft g13.toNatClampNeg + (n9 : Int)) (hg1 : g 1 = g1) (hg3 : g 3 = g3) (hg12 : g 12 = g12) (hg13 : g 13 = g13) (hg16 : g 16 = g16), zConT k9 zq_X16_valueU [.ref m] w (fun v9 w9' => ∃ A9 : Int32, ∃ Q9 : Int32, ∃ X9 : Int32, ∃ Y9 : Int32, ∃ Z9 : Int32, ∃ K9 : Int32, zSI w w9' ∧ (∀ x, (x < m ∨ m + 1 ≤ x) ∧ (x < m + 6316 + 9 * g16.toNatClampNeg ∨ m + 6316 + 9 * g16.toNatClampNeg + (1170 - 9 * g16.toNatClampNeg) ≤ x) ∧ (x < m + 78 ∨ m + 78 + 1 ≤ x) ∧ (x < m + 276 + 2 * g1.toNatClampNeg ∨ m + 276 + 2 * g1.toNatClampNeg + (320 - 2 * g1.toNatClampNeg) ≤ x) ∧ (x < m + 596 + 130 * g3.toNatClampNeg ∨ m + 596 + 130 * g3.toNatClampNeg + (5720 - 130 * g3.toNatClampNeg) ≤ x) ∧ (x < m + 3 ∨ m + 3 + 1 ≤ x) ∧ (x < m + 5 ∨ m + 5 + 64 ≤ x) → w9' x = w x) ∧ w9' m = some (.inl (15, zMo m (zs (zs (zs (zs (zs g 13 A9) 16 Q9) 17 X9) 18 Y9) 19 Z9) r)) ∧ zTi w9' (m + 6316 + 9 * g16.toNatClampNeg) K9 ∧ zPil w9' (m + 6316) ∧ ((K9 = 1 ∨ K9 = 2) ∧ (g13.toInt ≤ A9.toInt ∧ A9.toInt ≤ g12.toInt) ∧ zDep ft A9.toNatClampNeg = zDep ft g13.toNatClampNeg ∧ Q9.toInt = g16.toInt + 1) ∧ v9 = some (.ref (m + 6316 + 9 * g16.toNatClampNeg))) (fun w9' => ∃ G9 : Nat → Int32, zSI w w9' ∧ (∀ x, (x < m ∨ m + 1 ≤ x) ∧ (x < m + 6316 + 9 * g16.toNatClampNeg ∨ m + 6316 + 9 * g16.toNatClampNeg + (1170 - 9 * g16.toNatClampNeg) ≤ x) ∧ (x < m + 78 ∨ m + 78 + 1 ≤ x) ∧ (x < m + 276 + 2 * g1.toNatClampNeg ∨ m + 276 + 2 * g1.toNatClampNeg + (320 - 2 * g1.toNatClampNeg) ≤ x) ∧ (x < m + 596 + 130 * g3.toNatClampNeg ∨ m + 596 + 130 * g3.toNatClampNeg + (5720 - 130 * g3.toNatClampNeg) ≤ x) ∧ (x < m + 3 ∨ m + 3 + 1 ≤ x) ∧ (x < m + 5 ∨ m + 5 + 64 ≤ x) → w9' x = w x) ∧ w9' m = some (.inl (15, zMo m G9 r)) ∧ (zKp G9 g) ∧ zPil w9' (m + 6316))) (hm : w m = some (.inl (15, zMo m g r))) (hR_m : zR m w) (htp : 0 ≤ g13.toInt ∧ g13.toInt ≤ g12.toInt ∧ g12.toInt ≤ 400) (hA_m_80 : w (m + 80) = some (.inr (1, 400, .inl ft))) (htx : (∀ i, i ≤ g12.toNatClampNeg → zDep ft i ≤ 20) ∧ ∀ i, i < g12.toNatClampNeg → ¬ zRun ft g12.toNatClampNeg i) (hPl_m_6316 : zPil w (m + 6316)) (hut : 0 ≤ g1.toInt ∧ g1.toInt + 9 ≤ 160) (hbt : 0 ≤ g3.toInt ∧ g3.toInt + 16 ≤ 44) (hpi : 0 ≤ g16.toInt ∧ g16.toInt ≤ 4 * zDep ft g13.toNatClampNeg + 0) (hlv : 21 ≤ zDep ft g13.toNatClampNeg + (n9 : Int)) (hg1 : g 1 = g1) (hg3 : g 3 = g3) (hg12 : g 12 = g12) (hg13 : g 13 = g13) (hg16 : g 16 = g16) : zConT (k9 + 1) zq_X16_valueE [.ref m] w (fun v9 w9' => ∃ A9 : Int32, ∃ Q9 : Int32, ∃ X9 : Int32, ∃ Y9 : Int32, ∃ Z9 : Int32, ∃ K9 : Int32, zSI w w9' ∧ (∀ x, (x < m ∨ m + 1 ≤ x) ∧ (x < m + 6316 + 9 * g16.toNatClampNeg ∨ m + 6316 + 9 * g16.toNatClampNeg + (1170 - 9 * g16.toNatClampNeg) ≤ x) ∧ (x < m + 78 ∨ m + 78 + 1 ≤ x) ∧ (x < m + 276 + 2 * g1.toNatClampNeg ∨ m + 276 + 2 * g1.toNatClampNeg + (320 - 2 * g1.toNatClampNeg) ≤ x) ∧ (x < m + 596 + 130 * g3.toNatClampNeg ∨ m + 596 + 130 * g3.toNatClampNeg + (5720 - 130 * g3.toNatClampNeg) ≤ x) ∧ (x < m + 3 ∨ m + 3 + 1 ≤ x) ∧ (x < m + 5 ∨ m + 5 + 64 ≤ x) → w9' x = w x) ∧ w9' m = some (.inl (15, zMo m (zs (zs (zs (zs (zs g 13 A9) 16 Q9) 17 X9) 18 Y9) 19 Z9) r)) ∧ zTi w9' (m + 6316 + 9 * g16.toNatClampNeg) K9 ∧ zPil w9' (m + 6316) ∧ ((K9 = 1 ∨ K9 = 2) ∧ (g13.toInt ≤ A9.toInt ∧ A9.toInt ≤ g12.toInt) ∧ zDep ft A9.toNatClampNeg = zDep ft g13.toNatClampNeg ∧ Q9.toInt = g16.toInt + 1) ∧ v9 = some (.ref (m + 6316 + 9 * g16.toNatClampNeg))) (fun w9' => ∃ G9 : Nat → Int32, zSI w w9' ∧ (∀ x, (x < m ∨ m + 1 ≤ x) ∧ (x < m + 6316 + 9 * g16.toNatClampNeg ∨ m + 6316 + 9 * g16.toNatClampNeg + (1170 - 9 * g16.toNatClampNeg) ≤ x) ∧ (x < m + 78 ∨ m + 78 + 1 ≤ x) ∧ (x < m + 276 + 2 * g1.toNatClampNeg ∨ m + 276 + 2 * g1.toNatClampNeg + (320 - 2 * g1.toNatClampNeg) ≤ x) ∧ (x < m + 596 + 130 * g3.toNatClampNeg ∨ m + 596 + 130 * g3.toNatClampNeg + (5720 - 130 * g3.toNatClampNeg) ≤ x) ∧ (x < m + 3 ∨ m + 3 + 1 ≤ x) ∧ (x < m + 5 ∨ m + 5 + 64 ≤ x) → w9' x = w x) ∧ w9' m = some (.inl (15, zMo m G9 r)) ∧ (zKp G9 g) ∧ zPil w9' (m + 6316)) := by
  subst hg1
  subst hg3
  subst hg12
  subst hg13
  subst hg16
  intro d sz hd
  obtain ⟨d, rfl⟩ : ∃ d9, d = d9 + 1 := ⟨d - 1, by omega⟩
  generalize hPost : (fun (r9' : Option (Option Value)) (w9' : zM) (z9 : Nat) => z9 = sz ∧ ((∃ v9, r9' = some v9 ∧ (∃ A9 : Int32, ∃ Q9 : Int32, ∃ X9 : Int32, ∃ Y9 : Int32, ∃ Z9 : Int32, ∃ K9 : Int32, zSI w w9' ∧ (∀ x, (x < m ∨ m + 1 ≤ x) ∧ (x < m + 6316 + 9 * (g 16).toNatClampNeg ∨ m + 6316 + 9 * (g 16).toNatClampNeg + (1170 - 9 * (g 16).toNatClampNeg) ≤ x) ∧ (x < m + 78 ∨ m + 78 + 1 ≤ x) ∧ (x < m + 276 + 2 * (g 1).toNatClampNeg ∨ m + 276 + 2 * (g 1).toNatClampNeg + (320 - 2 * (g 1).toNatClampNeg) ≤ x) ∧ (x < m + 596 + 130 * (g 3).toNatClampNeg ∨ m + 596 + 130 * (g 3).toNatClampNeg + (5720 - 130 * (g 3).toNatClampNeg) ≤ x) ∧ (x < m + 3 ∨ m + 3 + 1 ≤ x) ∧ (x < m + 5 ∨ m + 5 + 64 ≤ x) → w9' x = w x) ∧ w9' m = some (.inl (15, zMo m (zs (zs (zs (zs (zs g 13 A9) 16 Q9) 17 X9) 18 Y9) 19 Z9) r)) ∧ zTi w9' (m + 6316 + 9 * (g 16).toNatClampNeg) K9 ∧ zPil w9' (m + 6316) ∧ ((K9 = 1 ∨ K9 = 2) ∧ ((g 13).toInt ≤ A9.toInt ∧ A9.toInt ≤ (g 12).toInt) ∧ zDep ft A9.toNatClampNeg = zDep ft (g 13).toNatClampNeg ∧ Q9.toInt = (g 16).toInt + 1) ∧ v9 = some (.ref (m + 6316 + 9 * (g 16).toNatClampNeg)))) ∨ (r9' = none ∧ (∃ G9 : Nat → Int32, zSI w w9' ∧ (∀ x, (x < m ∨ m + 1 ≤ x) ∧ (x < m + 6316 + 9 * (g 16).toNatClampNeg ∨ m + 6316 + 9 * (g 16).toNatClampNeg + (1170 - 9 * (g 16).toNatClampNeg) ≤ x) ∧ (x < m + 78 ∨ m + 78 + 1 ≤ x) ∧ (x < m + 276 + 2 * (g 1).toNatClampNeg ∨ m + 276 + 2 * (g 1).toNatClampNeg + (320 - 2 * (g 1).toNatClampNeg) ≤ x) ∧ (x < m + 596 + 130 * (g 3).toNatClampNeg ∨ m + 596 + 130 * (g 3).toNatClampNeg + (5720 - 130 * (g 3).toNatClampNeg) ≤ x) ∧ (x < m + 3 ∨ m + 3 + 1 ≤ x) ∧ (x < m + 5 ∨ m + 5 + 64 ≤ x) → w9' x = w x) ∧ w9' m = some (.inl (15, zMo m G9 r)) ∧ (zKp G9 g) ∧ zPil w9' (m + 6316))))) = Post
  show zP (d + 1) zq_X16_valueE 0 [(0, .ref m)] [] w sz 0 0 Post
  have k1 := zrng (g 1)
  have hz2 : ((g 1).toNatClampNeg : Int) = (g 1).toInt := znat (by first | omega | decide)
  have hgb1 : (g 1).toNatClampNeg + 9 ≤ 160 := by omega
  have k3 := zrng (g 3)
  have hz4 : ((g 3).toNatClampNeg : Int) = (g 3).toInt := znat (by first | omega | decide)
  have hgb3 : (g 3).toNatClampNeg + 16 ≤ 44 := by omega
  have k5 := zrng (g 12)
  have hz6 : ((g 12).toNatClampNeg : Int) = (g 12).toInt := znat (by first | omega | decide)
  have k7 := zrng (g 13)
  have hz8 : ((g 13).toNatClampNeg : Int) = (g 13).toInt := znat (by first | omega | decide)
  have k9 := zrng (g 16)
  have hz10 : ((g 16).toNatClampNeg : Int) = (g 16).toInt := znat (by first | omega | decide)
  have hd0 := htx.1 (g 13).toNatClampNeg (by omega)
  refine zp_seg (pc' := 1) (lv' := [(0, .ref m)]) (st' := [.ref m]) [(0, .aload_n 0)] (by decide +kernel) rfl ?_
  refine zr_callV (idx := 343) (j := 319) (by decide +kernel) (by decide +kernel) (show zMe 319 = some zq_X16_look from rfl) rfl rfl (Nat.le_of_ble_eq_true rfl) rfl rfl hm (Nat.le_of_ble_eq_true rfl) (Nat.le_of_ble_eq_true rfl) (c_X16_look (w := w) (g12 := (g 12)) (g13 := (g 13)) m hm hR_m (by first | omega | decide | assumption | exact zr1_1 | exact zr1_0 | fail "num") hA_m_80 (by first | omega | decide | assumption | exact zr1_1 | exact zr1_0 | fail "num") rfl rfl) (by omega) (fun v1 w1 hp1 => ?_)
  obtain ⟨A9_1, hsi1, heq1, hp1_0, hp1_1, r1, rfl, hr1⟩ := hp1
  have hM1 : w1 m = some (.inl (15, zMo m (zs g 13 A9_1) r)) := hp1_0
  have kr1 := zrng r1
  show zP _ _ _ _ [.int r1] _ _ _ _ _
  have hlk1 := hp1_1.2.2
  have hzA1 := znat (x := A9_1) (by omega)
  refine zp_seg (pc' := 6) (lv' := [(0, .ref m)]) (st' := [.int 45, .int r1]) [(4, .bipush 45)] (by decide +kernel) rfl ?_
  have hJ17 : ∀ (z0_17 : Int32), (0 ≤ z0_17.toInt → A9_1.toNatClampNeg < (g 12).toNatClampNeg ∧ zDep ft (A9_1.toNatClampNeg + 1) = zDep ft A9_1.toNatClampNeg) → zP (d + 1) zq_X16_valueE 17 [(0, .ref m)] [.int z0_17] w1 sz 0 0 Post := by
    intro z0_17 hsg
    have kz0_17 := zrng z0_17
    refine zp_seg (pc' := 18) (lv' := [(1, .int z0_17), (0, .ref m)]) (st' := []) [(17, .istore_n 1)] (by decide +kernel) rfl ?_
    refine zp_seg (pc' := 19) (lv' := [(1, .int z0_17), (0, .ref m)]) (st' := [.int z0_17]) [(18, .iload_n 1)] (by decide +kernel) rfl ?_
    have hJ32 : ∀ (wL32 : zM) (xA : Int32), (zSI w1 wL32) → (∀ x, ((x < m ∨ m + 1 ≤ x)) ∧ x ≠ m → wL32 x = w1 x) → (wL32 m = some (.inl (15, zMo m (zs g 13 xA) r))) → (((g 13).toInt ≤ xA.toInt ∧ xA.toInt ≤ (g 12).toInt) ∧ zDep ft xA.toNatClampNeg = zDep ft (g 13).toNatClampNeg) → zP (d + 1) zq_X16_valueE 32 [(0, .ref m), (1, .int z0_17)] [] wL32 sz 0 0 Post := by
      intro wL32 xA hsiL32 heqL32 hxM hxA
      refine zp_seg (pc' := 33) (lv' := [(0, .ref m), (1, .int z0_17)]) (st' := [.ref m]) [(32, .aload_n 0)] (by decide +kernel) rfl ?_
      have k11 := zrng xA
      have hz12 : (xA.toNatClampNeg : Int) = xA.toInt := znat (by first | omega | decide)
      have hb13 := hR_m.si (hsi1.tr hsiL32)
      have hb14 : wL32 (m + 80) = some (.inr (1, 400, .inl ft)) := ((heqL32 (m + 80) ⟨(zx_X16_valueE_0), (zx_X16_valueE_1)⟩).trans (heq1 (m + 80) (zx_X16_valueE_0))).trans hA_m_80
      have hb15 : zPil wL32 (m + 6316) := hPl_m_6316.ag (fun x hx1 hx2 => ((heqL32 x ⟨(zx_X16_valueE_2 hx1 hx2), (zx_X16_valueE_3 hx1 hx2)⟩).trans (heq1 x (zx_X16_valueE_2 hx1 hx2))))
      refine zr_callVT (idx := 378) (j := 328) (by decide +kernel) (by decide +kernel) (show zMe 328 = some zq_X16_valueU from rfl) rfl rfl (Nat.le_of_ble_eq_true rfl) rfl rfl hxM (Nat.le_of_ble_eq_true rfl) (Nat.le_of_ble_eq_true rfl) (hc9 (w := wL32) (g1 := (g 1)) (g3 := (g 3)) (g12 := (g 12)) (g13 := xA) (g16 := (g 16)) m hxM hb13 (by first | omega | decide | assumption | exact zr1_1 | exact zr1_0 | fail "num") hb14 (by first | omega | decide | assumption | exact zr1_1 | exact zr1_0 | fail "num") hb15 (by first | omega | decide | assumption | exact zr1_1 | exact zr1_0 | fail "num") (by first | omega | decide | assumption | exact zr1_1 | exact zr1_0 | fail "num") (by first | omega | decide | assumption | exact zr1_1 | exact zr1_0 | fail "num") (by first | omega | decide | assumption | exact zr1_1 | exact zr1_0 | fail "num") rfl rfl rfl rfl rfl) (by omega) (fun v33 w33 hp33 => ?_) (fun wx9 hx9 => by
            obtain ⟨G9_x9, hsix9, heqx9, hx9_0, hx9_1, hx9_2⟩ := hx9
            skip
            rw [← hPost]
            exact ⟨rfl, Or.inr ⟨rfl, G9_x9, ((hsi1.tr hsiL32).tr hsix9), (fun x hx => ((heqx9 x ⟨hx.1, hx.2.1, hx.2.2.1, hx.2.2.2.1, hx.2.2.2.2.1, hx.2.2.2.2.2.1, hx.2.2.2.2.2.2⟩).trans ((heqL32 x ⟨hx.1, (zx_X16_valueE_4 hx.1)⟩).trans (heq1 x hx.1)))), hx9_0, (by
                  first | exact hx9_1 | exact ⟨rfl, rfl, rfl, rfl⟩), hx9_2⟩⟩)
      obtain ⟨A9_33, Q9_33, X9_33, Y9_33, Z9_33, K9_33, hsi33, heq33, hp33_0, hp33_1, hp33_2, hp33_3, rfl⟩ := hp33
      have hM33 : w33 m = some (.inl (15, zMo m (zs (zs (zs (zs (zs g 13 A9_33) 16 Q9_33) 17 X9_33) 18 Y9_33) 19 Z9_33) r)) := hp33_0
      show zP _ _ _ _ [.ref (m + 6316 + 9 * (g 16).toNatClampNeg)] _ _ _ _ _
      have hv33 := hp33_3
      have hzA33 := znat (x := A9_33) (by omega)
      have hzQ33 := znat (x := Q9_33) (by omega)
      obtain ⟨g1, fn1, fd1, fa1, fb1, fc1, fe1, fr1, fu1, hT1, hAn1, hAd1, hAa1, hAb1, hAc1, hAe1, hAr1, hAu1, hK1⟩ := id hp33_1
      obtain ⟨hK10, hKn1, hKd1, hKx1, hKm1, hKl1, hKr1, hKu1, hKk1⟩ := id hK1
      refine zp_seg (pc' := 38) (lv' := [(2, .ref (m + 6316 + 9 * (g 16).toNatClampNeg)), (0, .ref m), (1, .int z0_17)]) (st' := [.int z0_17]) [(36, .astore_n 2), (37, .iload_n 1)] (by decide +kernel) rfl ?_
      have hL79 : ∀ (mm79 : Nat) (wL79 : zM) (cA : Int32) (cQ : Int32) (cX : Int32) (cY : Int32) (cZ : Int32) (cK : Int32), (zSI w33 wL79) → (∀ x, ((x < m ∨ m + 1 ≤ x) ∧ (x < m + 6316 + 9 * (g 16).toNatClampNeg ∨ m + 6316 + 9 * (g 16).toNatClampNeg + (1170 - 9 * (g 16).toNatClampNeg) ≤ x) ∧ (x < m + 78 ∨ m + 78 + 1 ≤ x) ∧ (x < m + 276 + 2 * (g 1).toNatClampNeg ∨ m + 276 + 2 * (g 1).toNatClampNeg + (320 - 2 * (g 1).toNatClampNeg) ≤ x) ∧ (x < m + 596 + 130 * (g 3).toNatClampNeg ∨ m + 596 + 130 * (g 3).toNatClampNeg + (5720 - 130 * (g 3).toNatClampNeg) ≤ x) ∧ (x < m + 3 ∨ m + 3 + 1 ≤ x) ∧ (x < m + 5 ∨ m + 5 + 64 ≤ x)) ∧ x ≠ m → wL79 x = w33 x) → (wL79 m = some (.inl (15, zMo m (zs (zs (zs (zs (zs g 13 cA) 16 cQ) 17 cX) 18 cY) 19 cZ) r))) → (zTi wL79 (m + 6316 + 9 * (g 16).toNatClampNeg) cK) → (zPil wL79 (m + 6316)) → ((cK = 1 ∨ cK = 2) ∧ ((g 13).toInt ≤ cA.toInt ∧ cA.toInt ≤ (g 12).toInt) ∧ zDep ft cA.toNatClampNeg = zDep ft (g 13).toNatClampNeg ∧ cQ.toInt = (g 16).toInt + 1) → (401 - cA.toInt).toNat < mm79 → zP (d + 1) zq_X16_valueE 79 [(0, .ref m), (2, .ref (m + 6316 + 9 * (g 16).toNatClampNeg))] [] wL79 sz 0 0 Post := by
        intro mm79
        induction mm79 with
        | zero => intros; omega
        | succ mm79 ih79 =>
        intro wL79 cA cQ cX cY cZ cK hsiL79 heqL79 hcM hcT hcP hcN hmu79
        refine zp_seg (pc' := 80) (lv' := [(0, .ref m), (2, .ref (m + 6316 + 9 * (g 16).toNatClampNeg))]) (st' := [.ref m]) [(79, .aload_n 0)] (by decide +kernel) rfl ?_
        have k16 := zrng cA
        have hb17 := hb13.si (hsi33.tr hsiL79)
        have hb18 : wL79 (m + 80) = some (.inr (1, 400, .inl ft)) := ((heqL79 (m + 80) (by omega)).trans (heq33 (m + 80) (by omega))).trans hb14
        refine zr_callV (idx := 343) (j := 319) (by decide +kernel) (by decide +kernel) (show zMe 319 = some zq_X16_look from rfl) rfl rfl (Nat.le_of_ble_eq_true rfl) rfl rfl hcM (Nat.le_of_ble_eq_true rfl) (Nat.le_of_ble_eq_true rfl) (c_X16_look (w := wL79) (g12 := (g 12)) (g13 := cA) m hcM hb17 (by first | omega | decide | assumption | exact zr1_1 | exact zr1_0 | fail "num") hb18 (by first | omega | decide | assumption | exact zr1_1 | exact zr1_0 | fail "num") rfl rfl) (by omega) (fun v80 w80 hp80 => ?_)
        obtain ⟨A9_80, hsi80, heq80, hp80_0, hp80_1, r80, rfl, hr80⟩ := hp80
        have hM80 : w80 m = some (.inl (15, zMo m (zs (zs (zs (zs (zs g 13 A9_80) 16 cQ) 17 cX) 18 cY) 19 cZ) r)) := hp80_0
        have kr80 := zrng r80
        show zP _ _ _ _ [.int r80] _ _ _ _ _
        have hlk80 := hp80_1.2.2
        have hzA80 := znat (x := A9_80) (by omega)
        refine zp_seg (pc' := 85) (lv' := [(0, .ref m), (2, .ref (m + 6316 + 9 * (g 16).toNatClampNeg))]) (st' := [.int 43, .int r80]) [(83, .bipush 43)] (by decide +kernel) rfl ?_
        refine zp_if (i := .if_icmp .eq 12) (c := r80 = 43) (t := 97) (e := 88) (lv' := [(0, .ref m), (2, .ref (m + 6316 + 9 * (g 16).toNatClampNeg))]) (st' := []) (by decide +kernel) rfl (fun cc85 => ?_) (fun cc85 => ?_)
        ·
          have f20 := zeqI cc85
          rw [show (43 : Int32).toInt = 43 from by decide] at f20
          obtain ⟨P9, hP9⟩ : ∃ P, P = (A9_80).toNatClampNeg := ⟨_, rfl⟩
          have hzP : (P9 : Int) = (A9_80).toInt := by rw [hP9]; exact znat (by omega)
          obtain ⟨hq1, hq2⟩ : P9 < (g 12).toNatClampNeg ∧ zDep ft (P9 + 1) = zDep ft P9 := by
            rw [hP9]
            first
            | exact zChr_p (hr80.symm.trans cc85) (by decide) (by decide) (by decide)
            | exact zChr_p (hr89.symm.trans cc94) (by decide) (by decide) (by decide)
          have hq0 : zDep ft P9 = zDep ft (A9_80).toNatClampNeg := by rw [hP9]
          refine zp_seg (pc' := 98) (lv' := [(0, .ref m), (2, .ref (m + 6316 + 9 * (g 16).toNatClampNeg))]) (st' := [.ref m]) [(97, .aload_n 0)] (by decide +kernel) rfl ?_
          refine zr_get (idx := 339) (k := 11) (v := .ref (m + 80)) (by decide +kernel) (by decide +kernel) hM80 rfl ?_
          refine zp_seg (pc' := 102) (lv' := [(0, .ref m), (2, .ref (m + 6316 + 9 * (g 16).toNatClampNeg))]) (st' := [.ref m, .ref (m + 80)]) [(101, .aload_n 0)] (by decide +kernel) rfl ?_
          refine zr_get (idx := 334) (k := 13) (v := .int A9_80) (by decide +kernel) (by decide +kernel) hM80 rfl ?_
          have hb21 : w80 (m + 80) = some (.inr (1, 400, .inl ft)) := (heq80 (m + 80) (zx_X16_valueE_0)).trans hb18
          have k22 := zrng A9_80
          refine zr_bald (by decide +kernel) hb21 (by decide) (zin (by first | omega | decide) (by first | omega | decide)) ?_
          have hz23 : (A9_80.toNatClampNeg : Int) = A9_80.toInt := znat (by first | omega | decide)
          obtain ⟨x105, ex105⟩ : ∃ x9, x9 = ft (A9_80.toNatClampNeg) := ⟨_, rfl⟩
          rw [← ex105]
          have kx105 := zrng x105
          refine zp_seg (pc' := 108) (lv' := [(0, .ref m), (2, .ref (m + 6316 + 9 * (g 16).toNatClampNeg))]) (st' := [.int 45, .int x105]) [(106, .bipush 45)] (by decide +kernel) rfl ?_
          have hJ116 : ∀ (z0_116 : Int32), ((z0_116 = 0 ∨ z0_116 = 1)) → zP (d + 1) zq_X16_valueE 116 [(0, .ref m), (2, .ref (m + 6316 + 9 * (g 16).toNatClampNeg))] [.int z0_116] w80 sz 0 0 Post := by
            intro z0_116 hi116_0
            have kz0_116 := zrng z0_116
            refine zp_seg (pc' := 119) (lv' := [(3, .int z0_116), (0, .ref m), (2, .ref (m + 6316 + 9 * (g 16).toNatClampNeg))]) (st' := [.ref m, .ref m]) [(116, .istore_n 3), (117, .aload_n 0), (118, .dup)] (by decide +kernel) rfl ?_
            refine zr_get (idx := 334) (k := 13) (v := .int A9_80) (by decide +kernel) (by decide +kernel) hM80 rfl ?_
            refine zp_seg (pc' := 125) (lv' := [(3, .int z0_116), (0, .ref m), (2, .ref (m + 6316 + 9 * (g 16).toNatClampNeg))]) (st' := [.int (A9_80 + 1), .ref m, .int A9_80]) [(122, .dup_x1), (123, .iconst 1), (124, .iadd)] (by decide +kernel) rfl ?_
            have k24 := zaddC A9_80 1 (n := 1) (by decide) (by omega) (by omega)
            generalize ev125 : (A9_80 + 1 : Int32) = v125 at k24 ⊢
            have kv125 := zrng v125
            refine zr_put2 (idx := 334) (k := 13) (fs2 := zMo m (zs (zs (zs (zs (zs g 13 v125) 16 cQ) 17 cX) 18 cY) 19 cZ) r) (by decide +kernel) (by decide +kernel) hM80 (Nat.le_of_ble_eq_true rfl) rfl rfl rfl ?_
            show zP (d + 1) zq_X16_valueE 128 [(3, .int z0_116), (0, .ref m), (2, .ref (m + 6316 + 9 * (g 16).toNatClampNeg))] [.int A9_80] (zup w80 m (.inl (15, zMo m (zs (zs (zs (zs (zs g 13 v125) 16 cQ) 17 cX) 18 cY) 19 cZ) r))) sz 0 0 Post
            obtain ⟨w125, ew125⟩ : ∃ wz9, wz9 = zup w80 m (.inl (15, zMo m (zs (zs (zs (zs (zs g 13 v125) 16 cQ) 17 cX) 18 cY) 19 cZ) r)) := ⟨_, rfl⟩
            have hsi125 : zSI w80 w125 := by rw [ew125]; exact zSI.setG hM80 _ _
            have heq125 : ∀ x, x ≠ m → w125 x = w80 x := fun x hx => by rw [ew125]; exact zup_n hx
            have hc125 : w125 m = some (.inl (15, zMo m (zs (zs (zs (zs (zs g 13 v125) 16 cQ) 17 cX) 18 cY) 19 cZ) r)) := by rw [ew125]; exact zup_s
            rw [← ew125]
            clear ew125
            refine zp_seg (pc' := 130) (lv' := [(4, .int A9_80), (3, .int z0_116), (0, .ref m), (2, .ref (m + 6316 + 9 * (g 16).toNatClampNeg))]) (st' := []) [(128, .istore 4)] (by decide +kernel) rfl ?_
            have hz9 := znat (x := v125) (by omega)
            have hq3 : zDep ft (v125).toNatClampNeg = zDep ft P9 := by rw [show (v125).toNatClampNeg = P9 + 1 by omega]; exact hq2
            refine zp_seg (pc' := 131) (lv' := [(4, .int A9_80), (3, .int z0_116), (0, .ref m), (2, .ref (m + 6316 + 9 * (g 16).toNatClampNeg))]) (st' := [.ref m]) [(130, .aload_n 0)] (by decide +kernel) rfl ?_
            have k25 := zrng cQ
            have hz26 : (v125.toNatClampNeg : Int) = v125.toInt := znat (by first | omega | decide)
            have hz27 : (cQ.toNatClampNeg : Int) = cQ.toInt := znat (by first | omega | decide)
            have hb28 := hb17.si (hsi80.tr hsi125)
            have hb29 : w125 (m + 80) = some (.inr (1, 400, .inl ft)) := (heq125 (m + 80) (zx_X16_valueE_1)).trans hb21
            have hb30 : zPil w125 (m + 6316) := hcP.ag (fun x hx1 hx2 => ((heq125 x (zx_X16_valueE_3 hx1 hx2)).trans (heq80 x (zx_X16_valueE_2 hx1 hx2))))
            refine zr_callVT (idx := 378) (j := 328) (by decide +kernel) (by decide +kernel) (show zMe 328 = some zq_X16_valueU from rfl) rfl rfl (Nat.le_of_ble_eq_true rfl) rfl rfl hc125 (Nat.le_of_ble_eq_true rfl) (Nat.le_of_ble_eq_true rfl) (hc9 (w := w125) (g1 := (g 1)) (g3 := (g 3)) (g12 := (g 12)) (g13 := v125) (g16 := cQ) m hc125 hb28 (by first | omega | decide | assumption | exact zr1_1 | exact zr1_0 | fail "num") hb29 (by first | omega | decide | assumption | exact zr1_1 | exact zr1_0 | fail "num") hb30 (by first | omega | decide | assumption | exact zr1_1 | exact zr1_0 | fail "num") (by first | omega | decide | assumption | exact zr1_1 | exact zr1_0 | fail "num") (by first | omega | decide | assumption | exact zr1_1 | exact zr1_0 | fail "num") (by first | omega | decide | assumption | exact zr1_1 | exact zr1_0 | fail "num") rfl rfl rfl rfl rfl) (by omega) (fun v131 w131 hp131 => ?_) (fun wx9 hx9 => by
                  obtain ⟨G9_x9, hsix9, heqx9, hx9_0, hx9_1, hx9_2⟩ := hx9
                  skip
                  rw [← hPost]
                  exact ⟨rfl, Or.inr ⟨rfl, G9_x9, ((((((hsi1.tr hsiL32).tr hsi33).tr hsiL79).tr hsi80).tr hsi125).tr hsix9), (fun x hx => ((heqx9 x (by omega)).trans ((heq125 x (zx_X16_valueE_4 hx.1)).trans ((heq80 x hx.1).trans ((heqL79 x ⟨⟨hx.1, hx.2.1, hx.2.2.1, hx.2.2.2.1, hx.2.2.2.2.1, hx.2.2.2.2.2.1, hx.2.2.2.2.2.2⟩, (zx_X16_valueE_4 hx.1)⟩).trans ((heq33 x ⟨hx.1, hx.2.1, hx.2.2.1, hx.2.2.2.1, hx.2.2.2.2.1, hx.2.2.2.2.2.1, hx.2.2.2.2.2.2⟩).trans ((heqL32 x ⟨hx.1, (zx_X16_valueE_4 hx.1)⟩).trans (heq1 x hx.1)))))))), hx9_0, (by
                        first | exact hx9_1 | exact ⟨rfl, rfl, rfl, rfl⟩), hx9_2⟩⟩)
            obtain ⟨A9_131, Q9_131, X9_131, Y9_131, Z9_131, K9_131, hsi131, heq131, hp131_0, hp131_1, hp131_2, hp131_3, rfl⟩ := hp131
            have hM131 : w131 m = some (.inl (15, zMo m (zs (zs (zs (zs (zs g 13 A9_131) 16 Q9_131) 17 X9_131) 18 Y9_131) 19 Z9_131) r)) := hp131_0
            show zP _ _ _ _ [.ref (m + 6316 + 9 * cQ.toNatClampNeg)] _ _ _ _ _
            have hv131 := hp131_3
            have hzA131 := znat (x := A9_131) (by omega)
            have hzQ131 := znat (x := Q9_131) (by omega)
            have hb31 : zTi w131 (m + 6316 + 9 * (g 16).toNatClampNeg) cK := hcT.ag (fun x hx1 hx2 => ((heq131 x (by omega)).trans ((heq125 x (by omega)).trans (heq80 x (by omega)))))
            obtain ⟨g2, fn2, fd2, fa2, fb2, fc2, fe2, fr2, fu2, hT2, hAn2, hAd2, hAa2, hAb2, hAc2, hAe2, hAr2, hAu2, hK2⟩ := id hb31
            obtain ⟨hK20, hKn2, hKd2, hKx2, hKm2, hKl2, hKr2, hKu2, hKk2⟩ := id hK2
            obtain ⟨g3, fn3, fd3, fa3, fb3, fc3, fe3, fr3, fu3, hT3, hAn3, hAd3, hAa3, hAb3, hAc3, hAe3, hAr3, hAu3, hK3⟩ := id hp131_1
            obtain ⟨hK30, hKn3, hKd3, hKx3, hKm3, hKl3, hKr3, hKu3, hKk3⟩ := id hK3
            refine zp_seg (pc' := 137) (lv' := [(5, .ref (m + 6316 + 9 * cQ.toNatClampNeg)), (4, .int A9_80), (3, .int z0_116), (0, .ref m), (2, .ref (m + 6316 + 9 * (g 16).toNatClampNeg))]) (st' := [.ref (m + 6316 + 9 * (g 16).toNatClampNeg)]) [(134, .astore 5), (136, .aload_n 2)] (by decide +kernel) rfl ?_
            refine zr_get (idx := 202) (k := 0) (v := .int (g2 0)) (by decide +kernel) (by decide +kernel) hT2 rfl ?_
            refine zp_seg (pc' := 141) (lv' := [(5, .ref (m + 6316 + 9 * cQ.toNatClampNeg)), (4, .int A9_80), (3, .int z0_116), (0, .ref m), (2, .ref (m + 6316 + 9 * (g 16).toNatClampNeg))]) (st' := [.int 2, .int (g2 0)]) [(140, .iconst 2)] (by decide +kernel) rfl ?_
            have hJ153 : ∀ (_ : True), zP (d + 1) zq_X16_valueE 153 [(0, .ref m), (4, .int A9_80)] [] w131 sz 0 0 Post := by
              intro _
              refine zp_seg (pc' := 157) (lv' := [(0, .ref m), (4, .int A9_80)]) (st' := [.int A9_80, .int 2, .ref m]) [(153, .aload_n 0), (154, .iconst 2), (155, .iload 4)] (by decide +kernel) rfl ?_
              have hb32 := hb28.si hsi131
              refine zr_callV (idx := 346) (j := 318) (by decide +kernel) (by decide +kernel) (show zMe 318 = some zq_X16_fail from rfl) rfl rfl (Nat.le_of_ble_eq_true rfl) rfl rfl hM131 (Nat.le_of_ble_eq_true rfl) (Nat.le_of_ble_eq_true rfl) (c_X16_fail (w := w131) m 2 A9_80 hM131 hb32) (by omega) (fun v157 w157 hp157 => ?_)
              obtain ⟨hsi157, heq157, hp157_0, rfl⟩ := hp157
              have hM157 : w157 m = some (.inl (15, zMo m (zs (zs (zs (zs (zs (zs (zs g 9 2) 10 A9_80) 13 A9_131) 16 Q9_131) 17 X9_131) 18 Y9_131) 19 Z9_131) r)) := hp157_0
              show zP _ _ _ _ [.ref (m + 79)] _ _ _ _ _
              have hb33 := hb32.si hsi157
              obtain ⟨fs9, hst9⟩ := hb33.stop
              refine zr_thr (by decide +kernel) hst9 ?_
              have hb34 : zPil w157 (m + 6316) := hp131_2.ag (fun x hx1 hx2 => (heq157 x (zx_X16_valueE_2 hx1 hx2)))
              rw [← hPost]; exact ⟨rfl, Or.inr ⟨rfl, (zs (zs (zs (zs (zs (zs (zs g 9 2) 10 A9_80) 13 A9_131) 16 Q9_131) 17 X9_131) 18 Y9_131) 19 Z9_131), (((((((hsi1.tr hsiL32).tr hsi33).tr hsiL79).tr hsi80).tr hsi125).tr hsi131).tr hsi157), (fun x hx => ((heq157 x hx.1).trans ((heq131 x (by omega)).trans ((heq125 x (zx_X16_valueE_4 hx.1)).trans ((heq80 x hx.1).trans ((heqL79 x ⟨⟨hx.1, hx.2.1, hx.2.2.1, hx.2.2.2.1, hx.2.2.2.2.1, hx.2.2.2.2.2.1, hx.2.2.2.2.2.2⟩, (zx_X16_valueE_4 hx.1)⟩).trans ((heq33 x ⟨hx.1, hx.2.1, hx.2.2.1, hx.2.2.2.1, hx.2.2.2.2.1, hx.2.2.2.2.2.1, hx.2.2.2.2.2.2⟩).trans ((heqL32 x ⟨hx.1, (zx_X16_valueE_4 hx.1)⟩).trans (heq1 x hx.1))))))))), hM157, (by
                    first | exact hx9_1 | exact ⟨rfl, rfl, rfl, rfl⟩), hb34⟩⟩
            refine zp_if (i := .if_icmp .eq 12) (c := (g2 0) = 2) (t := 153) (e := 144) (lv' := [(5, .ref (m + 6316 + 9 * cQ.toNatClampNeg)), (4, .int A9_80), (3, .int z0_116), (0, .ref m), (2, .ref (m + 6316 + 9 * (g 16).toNatClampNeg))]) (st' := []) (by decide +kernel) rfl (fun cc141 => ?_) (fun cc141 => ?_)
            ·
              have k35 := zrng (g2 0)
              have f37 := zeqI cc141
              rw [show (2 : Int32).toInt = 2 from by decide] at f37
              exact (hJ153 trivial ).more (zfa1 rfl (zfa1 rfl (zfa0)))
            ·
              have k38 := zrng (g2 0)
              have f40 := zneI cc141
              rw [show (2 : Int32).toInt = 2 from by decide] at f40
              refine zp_seg (pc' := 146) (lv' := [(5, .ref (m + 6316 + 9 * cQ.toNatClampNeg)), (4, .int A9_80), (3, .int z0_116), (0, .ref m), (2, .ref (m + 6316 + 9 * (g 16).toNatClampNeg))]) (st' := [.ref (m + 6316 + 9 * cQ.toNatClampNeg)]) [(144, .aload 5)] (by decide +kernel) rfl ?_
              refine zr_get (idx := 202) (k := 0) (v := .int (g3 0)) (by decide +kernel) (by decide +kernel) hT3 rfl ?_
              refine zp_seg (pc' := 150) (lv' := [(5, .ref (m + 6316 + 9 * cQ.toNatClampNeg)), (4, .int A9_80), (3, .int z0_116), (0, .ref m), (2, .ref (m + 6316 + 9 * (g 16).toNatClampNeg))]) (st' := [.int 2, .int (g3 0)]) [(149, .iconst 2)] (by decide +kernel) rfl ?_
              refine zp_if (i := .if_icmp .ne 11) (c := ¬ (g3 0) = 2) (t := 161) (e := 153) (lv' := [(5, .ref (m + 6316 + 9 * cQ.toNatClampNeg)), (4, .int A9_80), (3, .int z0_116), (0, .ref m), (2, .ref (m + 6316 + 9 * (g 16).toNatClampNeg))]) (st' := []) (by decide +kernel) rfl (fun cc150 => ?_) (fun cc150 => ?_)
              ·
                have k41 := zrng (g3 0)
                have f42 := zneI cc150
                rw [show (2 : Int32).toInt = 2 from by decide] at f42
                refine zp_seg (pc' := 166) (lv' := [(5, .ref (m + 6316 + 9 * cQ.toNatClampNeg)), (4, .int A9_80), (3, .int z0_116), (0, .ref m), (2, .ref (m + 6316 + 9 * (g 16).toNatClampNeg))]) (st' := [.int z0_116, .ref (m + 6316 + 9 * cQ.toNatClampNeg), .ref (m + 6316 + 9 * (g 16).toNatClampNeg), .ref m]) [(161, .aload_n 0), (162, .aload_n 2), (163, .aload 5), (165, .iload_n 3)] (by decide +kernel) rfl ?_
                have hb43 := hb28.si hsi131
                refine zr_callV (idx := 382) (j := 317) (by decide +kernel) (by decide +kernel) (show zMe 317 = some zq_X16_add_ from rfl) rfl rfl (Nat.le_of_ble_eq_true rfl) rfl rfl hM131 (Nat.le_of_ble_eq_true rfl) (Nat.le_of_ble_eq_true rfl) (c_X16_add_ (w := w131) (g1 := (g 1)) (g3 := (g 3)) m (m + 6316 + 9 * (g 16).toNatClampNeg) (m + 6316 + 9 * cQ.toNatClampNeg) z0_116 hM131 hb43 hb31 hp131_1 (by first | omega | decide | assumption | exact zr1_1 | exact zr1_0 | fail "num") (by first | omega | decide | assumption | exact zr1_1 | exact zr1_0 | fail "num") (by first | omega | decide | assumption | exact zr1_1 | exact zr1_0 | fail "num") (by first | omega | decide | assumption | exact zr1_1 | exact zr1_0 | fail "num") (by first | omega | decide | assumption | exact zr1_1 | exact zr1_0 | fail "num") (by exact hcN.1.resolve_right (fun e => cc141 (hK20.trans e))) (by exact hv131.1.resolve_right (fun e => cc150 (hK30.trans e))) (by first | omega | decide | assumption | exact zr1_1 | exact zr1_0 | fail "num") rfl rfl) (by omega) (fun v166 w166 hp166 => ?_)
                obtain ⟨hsi166, heq166, hp166_0, r166, rfl, hrb166, hr166⟩ := hp166
                have kr166 := zrng r166
                show zP _ _ _ _ [.int r166] _ _ _ _ _
                refine zp_if (i := .ifCond .ne 11) (c := ¬ r166 = 0) (t := 180) (e := 172) (lv' := [(5, .ref (m + 6316 + 9 * cQ.toNatClampNeg)), (4, .int A9_80), (3, .int z0_116), (0, .ref m), (2, .ref (m + 6316 + 9 * (g 16).toNatClampNeg))]) (st' := []) (by decide +kernel) rfl (fun cc169 => ?_) (fun cc169 => ?_)
                ·
                  have f45 := zneI cc169
                  rw [show (0 : Int32).toInt = 0 from by decide] at f45
                  have hPl180 := hp131_2.up (w' := w166) (g 16).toNatClampNeg hp166_0 (fun x h1 h2 h3 => (heq166 x (by omega)))
                  refine zp_seg (pc' := 182) (lv' := [(5, .ref (m + 6316 + 9 * cQ.toNatClampNeg)), (4, .int A9_80), (3, .int z0_116), (0, .ref m), (2, .ref (m + 6316 + 9 * (g 16).toNatClampNeg))]) (st' := [.ref m, .ref m]) [(180, .aload_n 0), (181, .dup)] (by decide +kernel) rfl ?_
                  have hb46 : w166 m = some (.inl (15, zMo m (zs (zs (zs (zs (zs g 13 A9_131) 16 Q9_131) 17 X9_131) 18 Y9_131) 19 Z9_131) r)) := (heq166 m (by omega)).trans hM131
                  refine zr_get (idx := 375) (k := 16) (v := .int Q9_131) (by decide +kernel) (by decide +kernel) hb46 rfl ?_
                  refine zp_seg (pc' := 187) (lv' := [(5, .ref (m + 6316 + 9 * cQ.toNatClampNeg)), (4, .int A9_80), (3, .int z0_116), (0, .ref m), (2, .ref (m + 6316 + 9 * (g 16).toNatClampNeg))]) (st' := [.int (Q9_131 - 1), .ref m]) [(185, .iconst 1), (186, .isub)] (by decide +kernel) rfl ?_
                  have k47 := zrng Q9_131
                  have k48 := zsubC Q9_131 1 (n := 1) (by decide) (by omega) (by omega)
                  generalize ev187 : (Q9_131 - 1 : Int32) = v187 at k48 ⊢
                  have kv187 := zrng v187
                  refine zr_put2 (idx := 375) (k := 16) (fs2 := zMo m (zs (zs (zs (zs (zs g 13 A9_131) 16 v187) 17 X9_131) 18 Y9_131) 19 Z9_131) r) (by decide +kernel) (by decide +kernel) hb46 (Nat.le_of_ble_eq_true rfl) rfl rfl rfl ?_
                  show zP (d + 1) zq_X16_valueE 190 [(5, .ref (m + 6316 + 9 * cQ.toNatClampNeg)), (4, .int A9_80), (3, .int z0_116), (0, .ref m), (2, .ref (m + 6316 + 9 * (g 16).toNatClampNeg))] [] (zup w166 m (.inl (15, zMo m (zs (zs (zs (zs (zs g 13 A9_131) 16 v187) 17 X9_131) 18 Y9_131) 19 Z9_131) r))) sz 0 0 Post
                  obtain ⟨w187, ew187⟩ : ∃ wz9, wz9 = zup w166 m (.inl (15, zMo m (zs (zs (zs (zs (zs g 13 A9_131) 16 v187) 17 X9_131) 18 Y9_131) 19 Z9_131) r)) := ⟨_, rfl⟩
                  have hsi187 : zSI w166 w187 := by rw [ew187]; exact zSI.setG hb46 _ _
                  have heq187 : ∀ x, x ≠ m → w187 x = w166 x := fun x hx => by rw [ew187]; exact zup_n hx
                  have hc187 : w187 m = some (.inl (15, zMo m (zs (zs (zs (zs (zs g 13 A9_131) 16 v187) 17 X9_131) 18 Y9_131) 19 Z9_131) r)) := by rw [ew187]; exact zup_s
                  rw [← ew187]
                  clear ew187
                  refine zp_seg (pc' := 79) (lv' := [(5, .ref (m + 6316 + 9 * cQ.toNatClampNeg)), (4, .int A9_80), (3, .int z0_116), (0, .ref m), (2, .ref (m + 6316 + 9 * (g 16).toNatClampNeg))]) (st' := []) [(190, .goto (-111))] (by decide +kernel) rfl ?_
                  have hb49 : zTi w187 (m + 6316 + 9 * (g 16).toNatClampNeg) cK := hp166_0.ag (fun x hx1 hx2 => (heq187 x (by omega)))
                  have hb50 : zPil w187 (m + 6316) := hPl180.ag (fun x hx1 hx2 => (heq187 x (zx_X16_valueE_3 hx1 hx2)))
                  exact (ih79 w187 (A9_131) (v187) (X9_131) (Y9_131) (Z9_131) (cK) (((((hsiL79.tr hsi80).tr hsi125).tr hsi131).tr hsi166).tr hsi187) (fun x hx => ((heq187 x hx.2).trans ((heq166 x (by omega)).trans ((heq131 x (by omega)).trans ((heq125 x hx.2).trans ((heq80 x hx.1.1).trans (heqL79 x ⟨⟨hx.1.1, hx.1.2.1, hx.1.2.2.1, hx.1.2.2.2.1, hx.1.2.2.2.2.1, hx.1.2.2.2.2.2.1, hx.1.2.2.2.2.2.2⟩, hx.2⟩))))))) (by
                        exact hc187) (by
                        exact hb49) (by
                        exact hb50) (by
                        exact ⟨hcN.1, by omega, by omega, by omega⟩) (by omega)).more (zfa1 rfl (zfa1 rfl (zfa0)))
                ·
                  replace cc169 := Classical.not_not.mp cc169
                  have f52 := zeqI cc169
                  rw [show (0 : Int32).toInt = 0 from by decide] at f52
                  have hPl172 := hp131_2.up (w' := w166) (g 16).toNatClampNeg hp166_0 (fun x h1 h2 h3 => (heq166 x (by omega)))
                  refine zp_seg (pc' := 176) (lv' := [(5, .ref (m + 6316 + 9 * cQ.toNatClampNeg)), (4, .int A9_80), (3, .int z0_116), (0, .ref m), (2, .ref (m + 6316 + 9 * (g 16).toNatClampNeg))]) (st' := [.int A9_80, .int 4, .ref m]) [(172, .aload_n 0), (173, .iconst 4), (174, .iload 4)] (by decide +kernel) rfl ?_
                  have hb53 : w166 m = some (.inl (15, zMo m (zs (zs (zs (zs (zs g 13 A9_131) 16 Q9_131) 17 X9_131) 18 Y9_131) 19 Z9_131) r)) := (heq166 m (by omega)).trans hM131
                  have hb54 := hb43.si hsi166
                  refine zr_callV (idx := 346) (j := 318) (by decide +kernel) (by decide +kernel) (show zMe 318 = some zq_X16_fail from rfl) rfl rfl (Nat.le_of_ble_eq_true rfl) rfl rfl hb53 (Nat.le_of_ble_eq_true rfl) (Nat.le_of_ble_eq_true rfl) (c_X16_fail (w := w166) m 4 A9_80 hb53 hb54) (by omega) (fun v176 w176 hp176 => ?_)
                  obtain ⟨hsi176, heq176, hp176_0, rfl⟩ := hp176
                  have hM176 : w176 m = some (.inl (15, zMo m (zs (zs (zs (zs (zs (zs (zs g 9 4) 10 A9_80) 13 A9_131) 16 Q9_131) 17 X9_131) 18 Y9_131) 19 Z9_131) r)) := hp176_0
                  show zP _ _ _ _ [.ref (m + 79)] _ _ _ _ _
                  have hb55 := hb54.si hsi176
                  obtain ⟨fs9, hst9⟩ := hb55.stop
                  refine zr_thr (by decide +kernel) hst9 ?_
                  have hb56 : zPil w176 (m + 6316) := hPl172.ag (fun x hx1 hx2 => (heq176 x (zx_X16_valueE_2 hx1 hx2)))
                  rw [← hPost]; exact ⟨rfl, Or.inr ⟨rfl, (zs (zs (zs (zs (zs (zs (zs g 9 4) 10 A9_80) 13 A9_131) 16 Q9_131) 17 X9_131) 18 Y9_131) 19 Z9_131), ((((((((hsi1.tr hsiL32).tr hsi33).tr hsiL79).tr hsi80).tr hsi125).tr hsi131).tr hsi166).tr hsi176), (fun x hx => ((heq176 x hx.1).trans ((heq166 x (by omega)).trans ((heq131 x (by omega)).trans ((heq125 x (zx_X16_valueE_4 hx.1)).trans ((heq80 x hx.1).trans ((heqL79 x ⟨⟨hx.1, hx.2.1, hx.2.2.1, hx.2.2.2.1, hx.2.2.2.2.1, hx.2.2.2.2.2.1, hx.2.2.2.2.2.2⟩, (zx_X16_valueE_4 hx.1)⟩).trans ((heq33 x ⟨hx.1, hx.2.1, hx.2.2.1, hx.2.2.2.1, hx.2.2.2.2.1, hx.2.2.2.2.2.1, hx.2.2.2.2.2.2⟩).trans ((heqL32 x ⟨hx.1, (zx_X16_valueE_4 hx.1)⟩).trans (heq1 x hx.1)))))))))), hM176, (by
                        first | exact hx9_1 | exact ⟨rfl, rfl, rfl, rfl⟩), hb56⟩⟩
              ·
                replace cc150 := Classical.not_not.mp cc150
                have k57 := zrng (g3 0)
                have f58 := zeqI cc150
                rw [show (2 : Int32).toInt = 2 from by decide] at f58
                exact (hJ153 trivial ).more (zfa1 rfl (zfa1 rfl (zfa0)))
          refine zp_if (i := .if_icmp .ne 7) (c := ¬ x105 = 45) (t := 115) (e := 111) (lv' := [(0, .ref m), (2, .ref (m + 6316 + 9 * (g 16).toNatClampNeg))]) (st' := []) (by decide +kernel) rfl (fun cc108 => ?_) (fun cc108 => ?_)
          ·
            have f60 := zneI cc108
            rw [show (45 : Int32).toInt = 45 from by decide] at f60
            refine zp_seg (pc' := 116) (lv' := [(0, .ref m), (2, .ref (m + 6316 + 9 * (g 16).toNatClampNeg))]) (st' := [.int 0]) [(115, .iconst 0)] (by decide +kernel) rfl ?_
            have hl61 : (0 : Int32).toInt = 0 := by decide
            exact (hJ116 0 (by first | assumption | omega | decide)).more (zfa1 rfl (zfa1 rfl (zfa0)))
          ·
            replace cc108 := Classical.not_not.mp cc108
            have f63 := zeqI cc108
            rw [show (45 : Int32).toInt = 45 from by decide] at f63
            refine zp_seg (pc' := 116) (lv' := [(0, .ref m), (2, .ref (m + 6316 + 9 * (g 16).toNatClampNeg))]) (st' := [.int 1]) [(111, .iconst 1), (112, .goto 4)] (by decide +kernel) rfl ?_
            have hl64 : (1 : Int32).toInt = 1 := by decide
            exact (hJ116 1 (by first | assumption | omega | decide)).more (zfa1 rfl (zfa1 rfl (zfa0)))
        ·
          have f66 := zneI cc85
          rw [show (43 : Int32).toInt = 43 from by decide] at f66
          refine zp_seg (pc' := 89) (lv' := [(0, .ref m), (2, .ref (m + 6316 + 9 * (g 16).toNatClampNeg))]) (st' := [.ref m]) [(88, .aload_n 0)] (by decide +kernel) rfl ?_
          have k67 := zrng A9_80
          have hb68 := hb17.si hsi80
          have hb69 : w80 (m + 80) = some (.inr (1, 400, .inl ft)) := (heq80 (m + 80) (zx_X16_valueE_0)).trans hb18
          refine zr_callV (idx := 343) (j := 319) (by decide +kernel) (by decide +kernel) (show zMe 319 = some zq_X16_look from rfl) rfl rfl (Nat.le_of_ble_eq_true rfl) rfl rfl hM80 (Nat.le_of_ble_eq_true rfl) (Nat.le_of_ble_eq_true rfl) (c_X16_look (w := w80) (g12 := (g 12)) (g13 := A9_80) m hM80 hb68 (by first | omega | decide | assumption | exact zr1_1 | exact zr1_0 | fail "num") hb69 (by first | omega | decide | assumption | exact zr1_1 | exact zr1_0 | fail "num") rfl rfl) (by omega) (fun v89 w89 hp89 => ?_)
          obtain ⟨A9_89, hsi89, heq89, hp89_0, hp89_1, r89, rfl, hr89⟩ := hp89
          have hM89 : w89 m = some (.inl (15, zMo m (zs (zs (zs (zs (zs g 13 A9_89) 16 cQ) 17 cX) 18 cY) 19 cZ) r)) := hp89_0
          have kr89 := zrng r89
          show zP _ _ _ _ [.int r89] _ _ _ _ _
          have hlk89 := hp89_1.2.2
          have hzA89 := znat (x := A9_89) (by omega)
          refine zp_seg (pc' := 94) (lv' := [(0, .ref m), (2, .ref (m + 6316 + 9 * (g 16).toNatClampNeg))]) (st' := [.int 45, .int r89]) [(92, .bipush 45)] (by decide +kernel) rfl ?_
          refine zp_if (i := .if_icmp .ne 99) (c := ¬ r89 = 45) (t := 193) (e := 97) (lv' := [(0, .ref m), (2, .ref (m + 6316 + 9 * (g 16).toNatClampNeg))]) (st' := []) (by decide +kernel) rfl (fun cc94 => ?_) (fun cc94 => ?_)
          ·
            have f71 := zneI cc94
            rw [show (45 : Int32).toInt = 45 from by decide] at f71
            refine zp_seg (pc' := 194) (lv' := [(0, .ref m), (2, .ref (m + 6316 + 9 * (g 16).toNatClampNeg))]) (st' := [.ref (m + 6316 + 9 * (g 16).toNatClampNeg)]) [(193, .aload_n 2)] (by decide +kernel) rfl ?_
            have hoffend : ∀ x, (x < m ∨ m + 1 ≤ x) ∧ (x < m + 6316 + 9 * (g 16).toNatClampNeg ∨ m + 6316 + 9 * (g 16).toNatClampNeg + (1170 - 9 * (g 16).toNatClampNeg) ≤ x) ∧ (x < m + 78 ∨ m + 78 + 1 ≤ x) ∧ (x < m + 276 + 2 * (g 1).toNatClampNeg ∨ m + 276 + 2 * (g 1).toNatClampNeg + (320 - 2 * (g 1).toNatClampNeg) ≤ x) ∧ (x < m + 596 + 130 * (g 3).toNatClampNeg ∨ m + 596 + 130 * (g 3).toNatClampNeg + (5720 - 130 * (g 3).toNatClampNeg) ≤ x) ∧ (x < m + 3 ∨ m + 3 + 1 ≤ x) ∧ (x < m + 5 ∨ m + 5 + 64 ≤ x) → w89 x = w x := fun x hx => ((heq89 x hx.1).trans ((heq80 x hx.1).trans ((heqL79 x ⟨⟨hx.1, hx.2.1, hx.2.2.1, hx.2.2.2.1, hx.2.2.2.2.1, hx.2.2.2.2.2.1, hx.2.2.2.2.2.2⟩, (zx_X16_valueE_4 hx.1)⟩).trans ((heq33 x ⟨hx.1, hx.2.1, hx.2.2.1, hx.2.2.2.1, hx.2.2.2.2.1, hx.2.2.2.2.2.1, hx.2.2.2.2.2.2⟩).trans ((heqL32 x ⟨hx.1, (zx_X16_valueE_4 hx.1)⟩).trans (heq1 x hx.1))))))
            have hb72 : zTi w89 (m + 6316 + 9 * (g 16).toNatClampNeg) cK := hcT.ag (fun x hx1 hx2 => ((heq89 x (by omega)).trans (heq80 x (by omega))))
            have hb73 : zPil w89 (m + 6316) := hcP.ag (fun x hx1 hx2 => ((heq89 x (zx_X16_valueE_2 hx1 hx2)).trans (heq80 x (zx_X16_valueE_2 hx1 hx2))))
            refine zr_retA (by decide +kernel) rfl ?_
            rw [← hPost]; exact ⟨rfl, Or.inl ⟨_, rfl, A9_89, cQ, cX, cY, cZ, cK, (((((hsi1.tr hsiL32).tr hsi33).tr hsiL79).tr hsi80).tr hsi89), hoffend, hM89, (by first | exact hb72 | (have z9 := hb72; simpa using z9)), hb73, (by
                  exact ⟨hcN.1, by omega, by omega, by omega⟩), rfl⟩⟩
          ·
            replace cc94 := Classical.not_not.mp cc94
            have f75 := zeqI cc94
            rw [show (45 : Int32).toInt = 45 from by decide] at f75
            obtain ⟨P9, hP9⟩ : ∃ P, P = (A9_89).toNatClampNeg := ⟨_, rfl⟩
            have hzP : (P9 : Int) = (A9_89).toInt := by rw [hP9]; exact znat (by omega)
            obtain ⟨hq1, hq2⟩ : P9 < (g 12).toNatClampNeg ∧ zDep ft (P9 + 1) = zDep ft P9 := by
              rw [hP9]
              first
              | exact zChr_p (hr80.symm.trans cc85) (by decide) (by decide) (by decide)
              | exact zChr_p (hr89.symm.trans cc94) (by decide) (by decide) (by decide)
            have hq0 : zDep ft P9 = zDep ft (A9_89).toNatClampNeg := by rw [hP9]
            refine zp_seg (pc' := 98) (lv' := [(0, .ref m), (2, .ref (m + 6316 + 9 * (g 16).toNatClampNeg))]) (st' := [.ref m]) [(97, .aload_n 0)] (by decide +kernel) rfl ?_
            refine zr_get (idx := 339) (k := 11) (v := .ref (m + 80)) (by decide +kernel) (by decide +kernel) hM89 rfl ?_
            refine zp_seg (pc' := 102) (lv' := [(0, .ref m), (2, .ref (m + 6316 + 9 * (g 16).toNatClampNeg))]) (st' := [.ref m, .ref (m + 80)]) [(101, .aload_n 0)] (by decide +kernel) rfl ?_
            refine zr_get (idx := 334) (k := 13) (v := .int A9_89) (by decide +kernel) (by decide +kernel) hM89 rfl ?_
            have hb76 : w89 (m + 80) = some (.inr (1, 400, .inl ft)) := (heq89 (m + 80) (zx_X16_valueE_0)).trans hb69
            have k77 := zrng A9_89
            refine zr_bald (by decide +kernel) hb76 (by decide) (zin (by first | omega | decide) (by first | omega | decide)) ?_
            have hz78 : (A9_89.toNatClampNeg : Int) = A9_89.toInt := znat (by first | omega | decide)
            obtain ⟨x105, ex105⟩ : ∃ x9, x9 = ft (A9_89.toNatClampNeg) := ⟨_, rfl⟩
            rw [← ex105]
            have kx105 := zrng x105
            refine zp_seg (pc' := 108) (lv' := [(0, .ref m), (2, .ref (m + 6316 + 9 * (g 16).toNatClampNeg))]) (st' := [.int 45, .int x105]) [(106, .bipush 45)] (by decide +kernel) rfl ?_
            have hJ116 : ∀ (z0_116 : Int32), ((z0_116 = 0 ∨ z0_116 = 1)) → zP (d + 1) zq_X16_valueE 116 [(0, .ref m), (2, .ref (m + 6316 + 9 * (g 16).toNatClampNeg))] [.int z0_116] w89 sz 0 0 Post := by
              intro z0_116 hi116_0
              have kz0_116 := zrng z0_116
              refine zp_seg (pc' := 119) (lv' := [(3, .int z0_116), (0, .ref m), (2, .ref (m + 6316 + 9 * (g 16).toNatClampNeg))]) (st' := [.ref m, .ref m]) [(116, .istore_n 3), (117, .aload_n 0), (118, .dup)] (by decide +kernel) rfl ?_
              refine zr_get (idx := 334) (k := 13) (v := .int A9_89) (by decide +kernel) (by decide +kernel) hM89 rfl ?_
              refine zp_seg (pc' := 125) (lv' := [(3, .int z0_116), (0, .ref m), (2, .ref (m + 6316 + 9 * (g 16).toNatClampNeg))]) (st' := [.int (A9_89 + 1), .ref m, .int A9_89]) [(122, .dup_x1), (123, .iconst 1), (124, .iadd)] (by decide +kernel) rfl ?_
              have k79 := zaddC A9_89 1 (n := 1) (by decide) (by omega) (by omega)
              generalize ev125 : (A9_89 + 1 : Int32) = v125 at k79 ⊢
              have kv125 := zrng v125
              refine zr_put2 (idx := 334) (k := 13) (fs2 := zMo m (zs (zs (zs (zs (zs g 13 v125) 16 cQ) 17 cX) 18 cY) 19 cZ) r) (by decide +kernel) (by decide +kernel) hM89 (Nat.le_of_ble_eq_true rfl) rfl rfl rfl ?_
              show zP (d + 1) zq_X16_valueE 128 [(3, .int z0_116), (0, .ref m), (2, .ref (m + 6316 + 9 * (g 16).toNatClampNeg))] [.int A9_89] (zup w89 m (.inl (15, zMo m (zs (zs (zs (zs (zs g 13 v125) 16 cQ) 17 cX) 18 cY) 19 cZ) r))) sz 0 0 Post
              obtain ⟨w125, ew125⟩ : ∃ wz9, wz9 = zup w89 m (.inl (15, zMo m (zs (zs (zs (zs (zs g 13 v125) 16 cQ) 17 cX) 18 cY) 19 cZ) r)) := ⟨_, rfl⟩
              have hsi125 : zSI w89 w125 := by rw [ew125]; exact zSI.setG hM89 _ _
              have heq125 : ∀ x, x ≠ m → w125 x = w89 x := fun x hx => by rw [ew125]; exact zup_n hx
              have hc125 : w125 m = some (.inl (15, zMo m (zs (zs (zs (zs (zs g 13 v125) 16 cQ) 17 cX) 18 cY) 19 cZ) r)) := by rw [ew125]; exact zup_s
              rw [← ew125]
              clear ew125
              refine zp_seg (pc' := 130) (lv' := [(4, .int A9_89), (3, .int z0_116), (0, .ref m), (2, .ref (m + 6316 + 9 * (g 16).toNatClampNeg))]) (st' := []) [(128, .istore 4)] (by decide +kernel) rfl ?_
              have hz9 := znat (x := v125) (by omega)
              have hq3 : zDep ft (v125).toNatClampNeg = zDep ft P9 := by rw [show (v125).toNatClampNeg = P9 + 1 by omega]; exact hq2
              refine zp_seg (pc' := 131) (lv' := [(4, .int A9_89), (3, .int z0_116), (0, .ref m), (2, .ref (m + 6316 + 9 * (g 16).toNatClampNeg))]) (st' := [.ref m]) [(130, .aload_n 0)] (by decide +kernel) rfl ?_
              have k80 := zrng cQ
              have hz81 : (v125.toNatClampNeg : Int) = v125.toInt := znat (by first | omega | decide)
              have hz82 : (cQ.toNatClampNeg : Int) = cQ.toInt := znat (by first | omega | decide)
              have hb83 := hb68.si (hsi89.tr hsi125)
              have hb84 : w125 (m + 80) = some (.inr (1, 400, .inl ft)) := (heq125 (m + 80) (zx_X16_valueE_1)).trans hb76
              have hb85 : zPil w125 (m + 6316) := hcP.ag (fun x hx1 hx2 => ((heq125 x (zx_X16_valueE_3 hx1 hx2)).trans ((heq89 x (zx_X16_valueE_2 hx1 hx2)).trans (heq80 x (zx_X16_valueE_2 hx1 hx2)))))
              refine zr_callVT (idx := 378) (j := 328) (by decide +kernel) (by decide +kernel) (show zMe 328 = some zq_X16_valueU from rfl) rfl rfl (Nat.le_of_ble_eq_true rfl) rfl rfl hc125 (Nat.le_of_ble_eq_true rfl) (Nat.le_of_ble_eq_true rfl) (hc9 (w := w125) (g1 := (g 1)) (g3 := (g 3)) (g12 := (g 12)) (g13 := v125) (g16 := cQ) m hc125 hb83 (by first | omega | decide | assumption | exact zr1_1 | exact zr1_0 | fail "num") hb84 (by first | omega | decide | assumption | exact zr1_1 | exact zr1_0 | fail "num") hb85 (by first | omega | decide | assumption | exact zr1_1 | exact zr1_0 | fail "num") (by first | omega | decide | assumption | exact zr1_1 | exact zr1_0 | fail "num") (by first | omega | decide | assumption | exact zr1_1 | exact zr1_0 | fail "num") (by first | omega | decide | assumption | exact zr1_1 | exact zr1_0 | fail "num") rfl rfl rfl rfl rfl) (by omega) (fun v131 w131 hp131 => ?_) (fun wx9 hx9 => by
                    obtain ⟨G9_x9, hsix9, heqx9, hx9_0, hx9_1, hx9_2⟩ := hx9
                    skip
                    rw [← hPost]
                    exact ⟨rfl, Or.inr ⟨rfl, G9_x9, (((((((hsi1.tr hsiL32).tr hsi33).tr hsiL79).tr hsi80).tr hsi89).tr hsi125).tr hsix9), (fun x hx => ((heqx9 x (by omega)).trans ((heq125 x (zx_X16_valueE_4 hx.1)).trans ((heq89 x hx.1).trans ((heq80 x hx.1).trans ((heqL79 x ⟨⟨hx.1, hx.2.1, hx.2.2.1, hx.2.2.2.1, hx.2.2.2.2.1, hx.2.2.2.2.2.1, hx.2.2.2.2.2.2⟩, (zx_X16_valueE_4 hx.1)⟩).trans ((heq33 x ⟨hx.1, hx.2.1, hx.2.2.1, hx.2.2.2.1, hx.2.2.2.2.1, hx.2.2.2.2.2.1, hx.2.2.2.2.2.2⟩).trans ((heqL32 x ⟨hx.1, (zx_X16_valueE_4 hx.1)⟩).trans (heq1 x hx.1))))))))), hx9_0, (by
                          first | exact hx9_1 | exact ⟨rfl, rfl, rfl, rfl⟩), hx9_2⟩⟩)
              obtain ⟨A9_131, Q9_131, X9_131, Y9_131, Z9_131, K9_131, hsi131, heq131, hp131_0, hp131_1, hp131_2, hp131_3, rfl⟩ := hp131
              have hM131 : w131 m = some (.inl (15, zMo m (zs (zs (zs (zs (zs g 13 A9_131) 16 Q9_131) 17 X9_131) 18 Y9_131) 19 Z9_131) r)) := hp131_0
              show zP _ _ _ _ [.ref (m + 6316 + 9 * cQ.toNatClampNeg)] _ _ _ _ _
              have hv131 := hp131_3
              have hzA131 := znat (x := A9_131) (by omega)
              have hzQ131 := znat (x := Q9_131) (by omega)
              have hb86 : zTi w131 (m + 6316 + 9 * (g 16).toNatClampNeg) cK := hcT.ag (fun x hx1 hx2 => ((heq131 x (by omega)).trans ((heq125 x (by omega)).trans ((heq89 x (by omega)).trans (heq80 x (by omega))))))
              obtain ⟨g2, fn2, fd2, fa2, fb2, fc2, fe2, fr2, fu2, hT2, hAn2, hAd2, hAa2, hAb2, hAc2, hAe2, hAr2, hAu2, hK2⟩ := id hb86
              obtain ⟨hK20, hKn2, hKd2, hKx2, hKm2, hKl2, hKr2, hKu2, hKk2⟩ := id hK2
              obtain ⟨g3, fn3, fd3, fa3, fb3, fc3, fe3, fr3, fu3, hT3, hAn3, hAd3, hAa3, hAb3, hAc3, hAe3, hAr3, hAu3, hK3⟩ := id hp131_1
              obtain ⟨hK30, hKn3, hKd3, hKx3, hKm3, hKl3, hKr3, hKu3, hKk3⟩ := id hK3
              refine zp_seg (pc' := 137) (lv' := [(5, .ref (m + 6316 + 9 * cQ.toNatClampNeg)), (4, .int A9_89), (3, .int z0_116), (0, .ref m), (2, .ref (m + 6316 + 9 * (g 16).toNatClampNeg))]) (st' := [.ref (m + 6316 + 9 * (g 16).toNatClampNeg)]) [(134, .astore 5), (136, .aload_n 2)] (by decide +kernel) rfl ?_
              refine zr_get (idx := 202) (k := 0) (v := .int (g2 0)) (by decide +kernel) (by decide +kernel) hT2 rfl ?_
              refine zp_seg (pc' := 141) (lv' := [(5, .ref (m + 6316 + 9 * cQ.toNatClampNeg)), (4, .int A9_89), (3, .int z0_116), (0, .ref m), (2, .ref (m + 6316 + 9 * (g 16).toNatClampNeg))]) (st' := [.int 2, .int (g2 0)]) [(140, .iconst 2)] (by decide +kernel) rfl ?_
              have hJ153 : ∀ (_ : True), zP (d + 1) zq_X16_valueE 153 [(0, .ref m), (4, .int A9_89)] [] w131 sz 0 0 Post := by
                intro _
                refine zp_seg (pc' := 157) (lv' := [(0, .ref m), (4, .int A9_89)]) (st' := [.int A9_89, .int 2, .ref m]) [(153, .aload_n 0), (154, .iconst 2), (155, .iload 4)] (by decide +kernel) rfl ?_
                have hb87 := hb83.si hsi131
                refine zr_callV (idx := 346) (j := 318) (by decide +kernel) (by decide +kernel) (show zMe 318 = some zq_X16_fail from rfl) rfl rfl (Nat.le_of_ble_eq_true rfl) rfl rfl hM131 (Nat.le_of_ble_eq_true rfl) (Nat.le_of_ble_eq_true rfl) (c_X16_fail (w := w131) m 2 A9_89 hM131 hb87) (by omega) (fun v157 w157 hp157 => ?_)
                obtain ⟨hsi157, heq157, hp157_0, rfl⟩ := hp157
                have hM157 : w157 m = some (.inl (15, zMo m (zs (zs (zs (zs (zs (zs (zs g 9 2) 10 A9_89) 13 A9_131) 16 Q9_131) 17 X9_131) 18 Y9_131) 19 Z9_131) r)) := hp157_0
                show zP _ _ _ _ [.ref (m + 79)] _ _ _ _ _
                have hb88 := hb87.si hsi157
                obtain ⟨fs9, hst9⟩ := hb88.stop
                refine zr_thr (by decide +kernel) hst9 ?_
                have hb89 : zPil w157 (m + 6316) := hp131_2.ag (fun x hx1 hx2 => (heq157 x (zx_X16_valueE_2 hx1 hx2)))
                rw [← hPost]; exact ⟨rfl, Or.inr ⟨rfl, (zs (zs (zs (zs (zs (zs (zs g 9 2) 10 A9_89) 13 A9_131) 16 Q9_131) 17 X9_131) 18 Y9_131) 19 Z9_131), ((((((((hsi1.tr hsiL32).tr hsi33).tr hsiL79).tr hsi80).tr hsi89).tr hsi125).tr hsi131).tr hsi157), (fun x hx => ((heq157 x hx.1).trans ((heq131 x (by omega)).trans ((heq125 x (zx_X16_valueE_4 hx.1)).trans ((heq89 x hx.1).trans ((heq80 x hx.1).trans ((heqL79 x ⟨⟨hx.1, hx.2.1, hx.2.2.1, hx.2.2.2.1, hx.2.2.2.2.1, hx.2.2.2.2.2.1, hx.2.2.2.2.2.2⟩, (zx_X16_valueE_4 hx.1)⟩).trans ((heq33 x ⟨hx.1, hx.2.1, hx.2.2.1, hx.2.2.2.1, hx.2.2.2.2.1, hx.2.2.2.2.2.1, hx.2.2.2.2.2.2⟩).trans ((heqL32 x ⟨hx.1, (zx_X16_valueE_4 hx.1)⟩).trans (heq1 x hx.1)))))))))), hM157, (by
                      first | exact hx9_1 | exact ⟨rfl, rfl, rfl, rfl⟩), hb89⟩⟩
              refine zp_if (i := .if_icmp .eq 12) (c := (g2 0) = 2) (t := 153) (e := 144) (lv' := [(5, .ref (m + 6316 + 9 * cQ.toNatClampNeg)), (4, .int A9_89), (3, .int z0_116), (0, .ref m), (2, .ref (m + 6316 + 9 * (g 16).toNatClampNeg))]) (st' := []) (by decide +kernel) rfl (fun cc141 => ?_) (fun cc141 => ?_)
              ·
                have k90 := zrng (g2 0)
                have f92 := zeqI cc141
                rw [show (2 : Int32).toInt = 2 from by decide] at f92
                exact (hJ153 trivial ).more (zfa1 rfl (zfa1 rfl (zfa0)))
              ·
                have k93 := zrng (g2 0)
                have f95 := zneI cc141
                rw [show (2 : Int32).toInt = 2 from by decide] at f95
                refine zp_seg (pc' := 146) (lv' := [(5, .ref (m + 6316 + 9 * cQ.toNatClampNeg)), (4, .int A9_89), (3, .int z0_116), (0, .ref m), (2, .ref (m + 6316 + 9 * (g 16).toNatClampNeg))]) (st' := [.ref (m + 6316 + 9 * cQ.toNatClampNeg)]) [(144, .aload 5)] (by decide +kernel) rfl ?_
                refine zr_get (idx := 202) (k := 0) (v := .int (g3 0)) (by decide +kernel) (by decide +kernel) hT3 rfl ?_
                refine zp_seg (pc' := 150) (lv' := [(5, .ref (m + 6316 + 9 * cQ.toNatClampNeg)), (4, .int A9_89), (3, .int z0_116), (0, .ref m), (2, .ref (m + 6316 + 9 * (g 16).toNatClampNeg))]) (st' := [.int 2, .int (g3 0)]) [(149, .iconst 2)] (by decide +kernel) rfl ?_
                refine zp_if (i := .if_icmp .ne 11) (c := ¬ (g3 0) = 2) (t := 161) (e := 153) (lv' := [(5, .ref (m + 6316 + 9 * cQ.toNatClampNeg)), (4, .int A9_89), (3, .int z0_116), (0, .ref m), (2, .ref (m + 6316 + 9 * (g 16).toNatClampNeg))]) (st' := []) (by decide +kernel) rfl (fun cc150 => ?_) (fun cc150 => ?_)
                ·
                  have k96 := zrng (g3 0)
                  have f97 := zneI cc150
                  rw [show (2 : Int32).toInt = 2 from by decide] at f97
                  refine zp_seg (pc' := 166) (lv' := [(5, .ref (m + 6316 + 9 * cQ.toNatClampNeg)), (4, .int A9_89), (3, .int z0_116), (0, .ref m), (2, .ref (m + 6316 + 9 * (g 16).toNatClampNeg))]) (st' := [.int z0_116, .ref (m + 6316 + 9 * cQ.toNatClampNeg), .ref (m + 6316 + 9 * (g 16).toNatClampNeg), .ref m]) [(161, .aload_n 0), (162, .aload_n 2), (163, .aload 5), (165, .iload_n 3)] (by decide +kernel) rfl ?_
                  have hb98 := hb83.si hsi131
                  refine zr_callV (idx := 382) (j := 317) (by decide +kernel) (by decide +kernel) (show zMe 317 = some zq_X16_add_ from rfl) rfl rfl (Nat.le_of_ble_eq_true rfl) rfl rfl hM131 (Nat.le_of_ble_eq_true rfl) (Nat.le_of_ble_eq_true rfl) (c_X16_add_ (w := w131) (g1 := (g 1)) (g3 := (g 3)) m (m + 6316 + 9 * (g 16).toNatClampNeg) (m + 6316 + 9 * cQ.toNatClampNeg) z0_116 hM131 hb98 hb86 hp131_1 (by first | omega | decide | assumption | exact zr1_1 | exact zr1_0 | fail "num") (by first | omega | decide | assumption | exact zr1_1 | exact zr1_0 | fail "num") (by first | omega | decide | assumption | exact zr1_1 | exact zr1_0 | fail "num") (by first | omega | decide | assumption | exact zr1_1 | exact zr1_0 | fail "num") (by first | omega | decide | assumption | exact zr1_1 | exact zr1_0 | fail "num") (by exact hcN.1.resolve_right (fun e => cc141 (hK20.trans e))) (by exact hv131.1.resolve_right (fun e => cc150 (hK30.trans e))) (by first | omega | decide | assumption | exact zr1_1 | exact zr1_0 | fail "num") rfl rfl) (by omega) (fun v166 w166 hp166 => ?_)
                  obtain ⟨hsi166, heq166, hp166_0, r166, rfl, hrb166, hr166⟩ := hp166
                  have kr166 := zrng r166
                  show zP _ _ _ _ [.int r166] _ _ _ _ _
                  refine zp_if (i := .ifCond .ne 11) (c := ¬ r166 = 0) (t := 180) (e := 172) (lv' := [(5, .ref (m + 6316 + 9 * cQ.toNatClampNeg)), (4, .int A9_89), (3, .int z0_116), (0, .ref m), (2, .ref (m + 6316 + 9 * (g 16).toNatClampNeg))]) (st' := []) (by decide +kernel) rfl (fun cc169 => ?_) (fun cc169 => ?_)
                  ·
                    have f100 := zneI cc169
                    rw [show (0 : Int32).toInt = 0 from by decide] at f100
                    have hPl180 := hp131_2.up (w' := w166) (g 16).toNatClampNeg hp166_0 (fun x h1 h2 h3 => (heq166 x (by omega)))
                    refine zp_seg (pc' := 182) (lv' := [(5, .ref (m + 6316 + 9 * cQ.toNatClampNeg)), (4, .int A9_89), (3, .int z0_116), (0, .ref m), (2, .ref (m + 6316 + 9 * (g 16).toNatClampNeg))]) (st' := [.ref m, .ref m]) [(180, .aload_n 0), (181, .dup)] (by decide +kernel) rfl ?_
                    have hb101 : w166 m = some (.inl (15, zMo m (zs (zs (zs (zs (zs g 13 A9_131) 16 Q9_131) 17 X9_131) 18 Y9_131) 19 Z9_131) r)) := (heq166 m (by omega)).trans hM131
                    refine zr_get (idx := 375) (k := 16) (v := .int Q9_131) (by decide +kernel) (by decide +kernel) hb101 rfl ?_
                    refine zp_seg (pc' := 187) (lv' := [(5, .ref (m + 6316 + 9 * cQ.toNatClampNeg)), (4, .int A9_89), (3, .int z0_116), (0, .ref m), (2, .ref (m + 6316 + 9 * (g 16).toNatClampNeg))]) (st' := [.int (Q9_131 - 1), .ref m]) [(185, .iconst 1), (186, .isub)] (by decide +kernel) rfl ?_
                    have k102 := zrng Q9_131
                    have k103 := zsubC Q9_131 1 (n := 1) (by decide) (by omega) (by omega)
                    generalize ev187 : (Q9_131 - 1 : Int32) = v187 at k103 ⊢
                    have kv187 := zrng v187
                    refine zr_put2 (idx := 375) (k := 16) (fs2 := zMo m (zs (zs (zs (zs (zs g 13 A9_131) 16 v187) 17 X9_131) 18 Y9_131) 19 Z9_131) r) (by decide +kernel) (by decide +kernel) hb101 (Nat.le_of_ble_eq_true rfl) rfl rfl rfl ?_
                    show zP (d + 1) zq_X16_valueE 190 [(5, .ref (m + 6316 + 9 * cQ.toNatClampNeg)), (4, .int A9_89), (3, .int z0_116), (0, .ref m), (2, .ref (m + 6316 + 9 * (g 16).toNatClampNeg))] [] (zup w166 m (.inl (15, zMo m (zs (zs (zs (zs (zs g 13 A9_131) 16 v187) 17 X9_131) 18 Y9_131) 19 Z9_131) r))) sz 0 0 Post
                    obtain ⟨w187, ew187⟩ : ∃ wz9, wz9 = zup w166 m (.inl (15, zMo m (zs (zs (zs (zs (zs g 13 A9_131) 16 v187) 17 X9_131) 18 Y9_131) 19 Z9_131) r)) := ⟨_, rfl⟩
                    have hsi187 : zSI w166 w187 := by rw [ew187]; exact zSI.setG hb101 _ _
                    have heq187 : ∀ x, x ≠ m → w187 x = w166 x := fun x hx => by rw [ew187]; exact zup_n hx
                    have hc187 : w187 m = some (.inl (15, zMo m (zs (zs (zs (zs (zs g 13 A9_131) 16 v187) 17 X9_131) 18 Y9_131) 19 Z9_131) r)) := by rw [ew187]; exact zup_s
                    rw [← ew187]
                    clear ew187
                    refine zp_seg (pc' := 79) (lv' := [(5, .ref (m + 6316 + 9 * cQ.toNatClampNeg)), (4, .int A9_89), (3, .int z0_116), (0, .ref m), (2, .ref (m + 6316 + 9 * (g 16).toNatClampNeg))]) (st' := []) [(190, .goto (-111))] (by decide +kernel) rfl ?_
                    have hb104 : zTi w187 (m + 6316 + 9 * (g 16).toNatClampNeg) cK := hp166_0.ag (fun x hx1 hx2 => (heq187 x (by omega)))
                    have hb105 : zPil w187 (m + 6316) := hPl180.ag (fun x hx1 hx2 => (heq187 x (zx_X16_valueE_3 hx1 hx2)))
                    exact (ih79 w187 (A9_131) (v187) (X9_131) (Y9_131) (Z9_131) (cK) ((((((hsiL79.tr hsi80).tr hsi89).tr hsi125).tr hsi131).tr hsi166).tr hsi187) (fun x hx => ((heq187 x hx.2).trans ((heq166 x (by omega)).trans ((heq131 x (by omega)).trans ((heq125 x hx.2).trans ((heq89 x hx.1.1).trans ((heq80 x hx.1.1).trans (heqL79 x ⟨⟨hx.1.1, hx.1.2.1, hx.1.2.2.1, hx.1.2.2.2.1, hx.1.2.2.2.2.1, hx.1.2.2.2.2.2.1, hx.1.2.2.2.2.2.2⟩, hx.2⟩)))))))) (by
                          exact hc187) (by
                          exact hb104) (by
                          exact hb105) (by
                          exact ⟨hcN.1, by omega, by omega, by omega⟩) (by omega)).more (zfa1 rfl (zfa1 rfl (zfa0)))
                  ·
                    replace cc169 := Classical.not_not.mp cc169
                    have f107 := zeqI cc169
                    rw [show (0 : Int32).toInt = 0 from by decide] at f107
                    have hPl172 := hp131_2.up (w' := w166) (g 16).toNatClampNeg hp166_0 (fun x h1 h2 h3 => (heq166 x (by omega)))
                    refine zp_seg (pc' := 176) (lv' := [(5, .ref (m + 6316 + 9 * cQ.toNatClampNeg)), (4, .int A9_89), (3, .int z0_116), (0, .ref m), (2, .ref (m + 6316 + 9 * (g 16).toNatClampNeg))]) (st' := [.int A9_89, .int 4, .ref m]) [(172, .aload_n 0), (173, .iconst 4), (174, .iload 4)] (by decide +kernel) rfl ?_
                    have hb108 : w166 m = some (.inl (15, zMo m (zs (zs (zs (zs (zs g 13 A9_131) 16 Q9_131) 17 X9_131) 18 Y9_131) 19 Z9_131) r)) := (heq166 m (by omega)).trans hM131
                    have hb109 := hb98.si hsi166
                    refine zr_callV (idx := 346) (j := 318) (by decide +kernel) (by decide +kernel) (show zMe 318 = some zq_X16_fail from rfl) rfl rfl (Nat.le_of_ble_eq_true rfl) rfl rfl hb108 (Nat.le_of_ble_eq_true rfl) (Nat.le_of_ble_eq_true rfl) (c_X16_fail (w := w166) m 4 A9_89 hb108 hb109) (by omega) (fun v176 w176 hp176 => ?_)
                    obtain ⟨hsi176, heq176, hp176_0, rfl⟩ := hp176
                    have hM176 : w176 m = some (.inl (15, zMo m (zs (zs (zs (zs (zs (zs (zs g 9 4) 10 A9_89) 13 A9_131) 16 Q9_131) 17 X9_131) 18 Y9_131) 19 Z9_131) r)) := hp176_0
                    show zP _ _ _ _ [.ref (m + 79)] _ _ _ _ _
                    have hb110 := hb109.si hsi176
                    obtain ⟨fs9, hst9⟩ := hb110.stop
                    refine zr_thr (by decide +kernel) hst9 ?_
                    have hb111 : zPil w176 (m + 6316) := hPl172.ag (fun x hx1 hx2 => (heq176 x (zx_X16_valueE_2 hx1 hx2)))
                    rw [← hPost]; exact ⟨rfl, Or.inr ⟨rfl, (zs (zs (zs (zs (zs (zs (zs g 9 4) 10 A9_89) 13 A9_131) 16 Q9_131) 17 X9_131) 18 Y9_131) 19 Z9_131), (((((((((hsi1.tr hsiL32).tr hsi33).tr hsiL79).tr hsi80).tr hsi89).tr hsi125).tr hsi131).tr hsi166).tr hsi176), (fun x hx => ((heq176 x hx.1).trans ((heq166 x (by omega)).trans ((heq131 x (by omega)).trans ((heq125 x (zx_X16_valueE_4 hx.1)).trans ((heq89 x hx.1).trans ((heq80 x hx.1).trans ((heqL79 x ⟨⟨hx.1, hx.2.1, hx.2.2.1, hx.2.2.2.1, hx.2.2.2.2.1, hx.2.2.2.2.2.1, hx.2.2.2.2.2.2⟩, (zx_X16_valueE_4 hx.1)⟩).trans ((heq33 x ⟨hx.1, hx.2.1, hx.2.2.1, hx.2.2.2.1, hx.2.2.2.2.1, hx.2.2.2.2.2.1, hx.2.2.2.2.2.2⟩).trans ((heqL32 x ⟨hx.1, (zx_X16_valueE_4 hx.1)⟩).trans (heq1 x hx.1))))))))))), hM176, (by
                          first | exact hx9_1 | exact ⟨rfl, rfl, rfl, rfl⟩), hb111⟩⟩
                ·
                  replace cc150 := Classical.not_not.mp cc150
                  have k112 := zrng (g3 0)
                  have f113 := zeqI cc150
                  rw [show (2 : Int32).toInt = 2 from by decide] at f113
                  exact (hJ153 trivial ).more (zfa1 rfl (zfa1 rfl (zfa0)))
            refine zp_if (i := .if_icmp .ne 7) (c := ¬ x105 = 45) (t := 115) (e := 111) (lv' := [(0, .ref m), (2, .ref (m + 6316 + 9 * (g 16).toNatClampNeg))]) (st' := []) (by decide +kernel) rfl (fun cc108 => ?_) (fun cc108 => ?_)
            ·
              have f114 := zneI cc108
              rw [show (45 : Int32).toInt = 45 from by decide] at f114
              refine zp_seg (pc' := 116) (lv' := [(0, .ref m), (2, .ref (m + 6316 + 9 * (g 16).toNatClampNeg))]) (st' := [.int 0]) [(115, .iconst 0)] (by decide +kernel) rfl ?_
              have hl115 : (0 : Int32).toInt = 0 := by decide
              exact (hJ116 0 (by first | assumption | omega | decide)).more (zfa1 rfl (zfa1 rfl (zfa0)))
            ·
              replace cc108 := Classical.not_not.mp cc108
              have f116 := zeqI cc108
              rw [show (45 : Int32).toInt = 45 from by decide] at f116
              refine zp_seg (pc' := 116) (lv' := [(0, .ref m), (2, .ref (m + 6316 + 9 * (g 16).toNatClampNeg))]) (st' := [.int 1]) [(111, .iconst 1), (112, .goto 4)] (by decide +kernel) rfl ?_
              have hl117 : (1 : Int32).toInt = 1 := by decide
              exact (hJ116 1 (by first | assumption | omega | decide)).more (zfa1 rfl (zfa1 rfl (zfa0)))
      refine zp_if (i := .ifCond .lt 41) (c := z0_17 < 0) (t := 79) (e := 41) (lv' := [(2, .ref (m + 6316 + 9 * (g 16).toNatClampNeg)), (0, .ref m), (1, .int z0_17)]) (st' := []) (by decide +kernel) rfl (fun cc38 => ?_) (fun cc38 => ?_)
      ·
        have f119 := zltI cc38
        rw [show (0 : Int32).toInt = 0 from by decide] at f119
        exact (hL79 _ w33 (A9_33) (Q9_33) (X9_33) (Y9_33) (Z9_33) (K9_33) zSI.rf (fun _ _ => rfl) (by
              exact hM33) (by
              first
              | exact hp33_1
              | exact ⟨_, _, _, _, _, _, _, _, _, hT1, hAn1, hAd1, hAa1, hAb1, hAc1, hAe1, hAr1, hAu1, ⟨hK10, hP.1, hKd1, hKx1, hKm1, hKl1, hKr1, hKu1, (hv33.1.elim (fun e => by rw [e] at hKk1 ⊢; exact zKk_12 (Or.inl rfl) (hKk1.2.1 (Or.inl rfl)) (fun e => absurd e (by decide)) (hKk1.2.2.2.1 (Or.inl rfl))) (fun e => by rw [e] at hKk1 ⊢; exact zKk_12 (Or.inr rfl) (hKk1.2.1 (Or.inr (Or.inl rfl))) (fun _ => zneg_nz hKn1 hP.1 (fun i hi => hP.2.1 i (by omega)) (hKk1.2.2.1 rfl)) (hKk1.2.2.2.1 (Or.inr rfl))))⟩⟩) (by
              first
              | exact hp33_2
              | exact hp33_2.up (g 16).toNatClampNeg (k := K9_33) ⟨_, _, _, _, _, _, _, _, _, hT1, hAn1, hAd1, hAa1, hAb1, hAc1, hAe1, hAr1, hAu1, ⟨hK10, hP.1, hKd1, hKx1, hKm1, hKl1, hKr1, hKu1, (hv33.1.elim (fun e => by rw [e] at hKk1 ⊢; exact zKk_12 (Or.inl rfl) (hKk1.2.1 (Or.inl rfl)) (fun e => absurd e (by decide)) (hKk1.2.2.2.1 (Or.inl rfl))) (fun e => by rw [e] at hKk1 ⊢; exact zKk_12 (Or.inr rfl) (hKk1.2.1 (Or.inr (Or.inl rfl))) (fun _ => zneg_nz hKn1 hP.1 (fun i hi => hP.2.1 i (by omega)) (hKk1.2.2.1 rfl)) (hKk1.2.2.2.1 (Or.inr rfl))))⟩⟩ (fun x h1 h2 h3 => rfl)) (by
              exact ⟨hv33.1, by omega, by omega, by omega⟩) (Nat.lt_succ_self _)).more (zfa1 rfl (zfa1 rfl (zfa0)))
      ·
        have f121 := znltI cc38
        rw [show (0 : Int32).toInt = 0 from by decide] at f121
        refine zp_seg (pc' := 42) (lv' := [(2, .ref (m + 6316 + 9 * (g 16).toNatClampNeg)), (0, .ref m), (1, .int z0_17)]) (st' := [.ref (m + 6316 + 9 * (g 16).toNatClampNeg)]) [(41, .aload_n 2)] (by decide +kernel) rfl ?_
        refine zr_callS (idx := 288) (j := 306) (by decide +kernel) (by decide +kernel) (by decide) (show zMe 306 = some zq_X16_isZero from rfl) rfl rfl (Nat.le_of_ble_eq_true rfl) rfl rfl (Nat.le_of_ble_eq_true rfl) (Nat.le_of_ble_eq_true rfl) (c_X16_isZero (w := w33) (m + 6316 + 9 * (g 16).toNatClampNeg) hT1 hAn1 (by exact hKn1)) (by omega) (fun v42 w42 hp42 => ?_)
        obtain ⟨hpw42, r42, rfl, hrb42, hr42⟩ := hp42
        replace hpw42 := hpw42.symm
        subst hpw42
        have kr42 := zrng r42
        show zP _ _ _ _ [.int r42] _ _ _ _ _
        refine zp_if (i := .ifCond .ne 34) (c := ¬ r42 = 0) (t := 79) (e := 48) (lv' := [(2, .ref (m + 6316 + 9 * (g 16).toNatClampNeg)), (0, .ref m), (1, .int z0_17)]) (st' := []) (by decide +kernel) rfl (fun cc45 => ?_) (fun cc45 => ?_)
        ·
          have f122 := zneI cc45
          rw [show (0 : Int32).toInt = 0 from by decide] at f122
          exact (hL79 _ w33 (A9_33) (Q9_33) (X9_33) (Y9_33) (Z9_33) (K9_33) zSI.rf (fun _ _ => rfl) (by
                exact hM33) (by
                first
                | exact hp33_1
                | exact ⟨_, _, _, _, _, _, _, _, _, hT1, hAn1, hAd1, hAa1, hAb1, hAc1, hAe1, hAr1, hAu1, ⟨hK10, hP.1, hKd1, hKx1, hKm1, hKl1, hKr1, hKu1, (hv33.1.elim (fun e => by rw [e] at hKk1 ⊢; exact zKk_12 (Or.inl rfl) (hKk1.2.1 (Or.inl rfl)) (fun e => absurd e (by decide)) (hKk1.2.2.2.1 (Or.inl rfl))) (fun e => by rw [e] at hKk1 ⊢; exact zKk_12 (Or.inr rfl) (hKk1.2.1 (Or.inr (Or.inl rfl))) (fun _ => zneg_nz hKn1 hP.1 (fun i hi => hP.2.1 i (by omega)) (hKk1.2.2.1 rfl)) (hKk1.2.2.2.1 (Or.inr rfl))))⟩⟩) (by
                first
                | exact hp33_2
                | exact hp33_2.up (g 16).toNatClampNeg (k := K9_33) ⟨_, _, _, _, _, _, _, _, _, hT1, hAn1, hAd1, hAa1, hAb1, hAc1, hAe1, hAr1, hAu1, ⟨hK10, hP.1, hKd1, hKx1, hKm1, hKl1, hKr1, hKu1, (hv33.1.elim (fun e => by rw [e] at hKk1 ⊢; exact zKk_12 (Or.inl rfl) (hKk1.2.1 (Or.inl rfl)) (fun e => absurd e (by decide)) (hKk1.2.2.2.1 (Or.inl rfl))) (fun e => by rw [e] at hKk1 ⊢; exact zKk_12 (Or.inr rfl) (hKk1.2.1 (Or.inr (Or.inl rfl))) (fun _ => zneg_nz hKn1 hP.1 (fun i hi => hP.2.1 i (by omega)) (hKk1.2.2.1 rfl)) (hKk1.2.2.2.1 (Or.inr rfl))))⟩⟩ (fun x h1 h2 h3 => rfl)) (by
                exact ⟨hv33.1, by omega, by omega, by omega⟩) (Nat.lt_succ_self _)).more (zfa1 rfl (zfa1 rfl (zfa0)))
        ·
          replace cc45 := Classical.not_not.mp cc45
          have f123 := zeqI cc45
          rw [show (0 : Int32).toInt = 0 from by decide] at f123
          refine zp_seg (pc' := 50) (lv' := [(3, .int 0), (2, .ref (m + 6316 + 9 * (g 16).toNatClampNeg)), (0, .ref m), (1, .int z0_17)]) (st' := []) [(48, .iconst 0), (49, .istore_n 3)] (by decide +kernel) rfl ?_
          have hL50 : ∀ (mm50 : Nat) (wL50 : zM) (y3_50 : Int32) (pf : Nat → Int32), (zSI w33 wL50) → (∀ x, ((x < m + 6316 + 9 * (g 16).toNatClampNeg + 1 ∨ m + 6316 + 9 * (g 16).toNatClampNeg + 1 + 1 ≤ x)) ∧ x ≠ m → wL50 x = w33 x) → (0 ≤ y3_50.toInt) → (y3_50.toInt ≤ 325) → (wL50 (m + 6316 + 9 * (g 16).toNatClampNeg + 1) = some (.inr (0, 325, .inl pf))) → (wL50 m = some (.inl (15, zMo m (zs (zs (zs (zs (zs g 13 A9_33) 16 Q9_33) 17 X9_33) 18 Y9_33) 19 Z9_33) r))) → (zCr pf ∧ (∀ i, i < y3_50.toNatClampNeg → zf (pf i) = 0 - zf (fn1 i)) ∧ ∀ i, y3_50.toNatClampNeg ≤ i → pf i = fn1 i) → (400 - y3_50.toInt).toNat < mm50 → zP (d + 1) zq_X16_valueE 50 [(0, .ref m), (2, .ref (m + 6316 + 9 * (g 16).toNatClampNeg)), (3, .int y3_50)] [] wL50 sz 0 0 Post := by
            intro mm50
            induction mm50 with
            | zero => intros; omega
            | succ mm50 ih50 =>
            intro wL50 y3_50 pf hsiL50 heqL50 hi50_0 hi50_1 hAp hmL50 hP hmu50
            have ky3_50 := zrng y3_50
            have hz124 : (y3_50.toNatClampNeg : Int) = y3_50.toInt := znat (by first | omega | decide)
            refine zp_seg (pc' := 54) (lv' := [(0, .ref m), (2, .ref (m + 6316 + 9 * (g 16).toNatClampNeg)), (3, .int y3_50)]) (st' := [.int 325, .int y3_50]) [(50, .iload_n 3), (51, .sipush 325)] (by decide +kernel) rfl ?_
            refine zp_if (i := .if_icmp .ge 25) (c := 325 ≤ y3_50) (t := 79) (e := 57) (lv' := [(0, .ref m), (2, .ref (m + 6316 + 9 * (g 16).toNatClampNeg)), (3, .int y3_50)]) (st' := []) (by decide +kernel) rfl (fun cc54 => ?_) (fun cc54 => ?_)
            ·
              have f126 := zleI cc54
              rw [show (325 : Int32).toInt = 325 from by decide] at f126
              have hb127 : wL50 (m + 6316 + 9 * (g 16).toNatClampNeg) = some (.inl (13, zTo (m + 6316 + 9 * (g 16).toNatClampNeg) g1)) := (heqL50 (m + 6316 + 9 * (g 16).toNatClampNeg) (by omega)).trans hT1
              have hb128 : wL50 (m + 6316 + 9 * (g 16).toNatClampNeg + 2) = some (.inr (0, 325, .inl fd1)) := (heqL50 (m + 6316 + 9 * (g 16).toNatClampNeg + 2) (by omega)).trans hAd1
              have hb129 : wL50 (m + 6316 + 9 * (g 16).toNatClampNeg + 3) = some (.inr (0, 13, .inl fa1)) := (heqL50 (m + 6316 + 9 * (g 16).toNatClampNeg + 3) (by omega)).trans hAa1
              have hb130 : wL50 (m + 6316 + 9 * (g 16).toNatClampNeg + 4) = some (.inr (0, 13, .inl fb1)) := (heqL50 (m + 6316 + 9 * (g 16).toNatClampNeg + 4) (by omega)).trans hAb1
              have hb131 : wL50 (m + 6316 + 9 * (g 16).toNatClampNeg + 5) = some (.inr (0, 13, .inl fc1)) := (heqL50 (m + 6316 + 9 * (g 16).toNatClampNeg + 5) (by omega)).trans hAc1
              have hb132 : wL50 (m + 6316 + 9 * (g 16).toNatClampNeg + 6) = some (.inr (0, 13, .inl fe1)) := (heqL50 (m + 6316 + 9 * (g 16).toNatClampNeg + 6) (by omega)).trans hAe1
              have hb133 : wL50 (m + 6316 + 9 * (g 16).toNatClampNeg + 7) = some (.inr (0, 175, .inl fr1)) := (heqL50 (m + 6316 + 9 * (g 16).toNatClampNeg + 7) (by omega)).trans hAr1
              have hb134 : wL50 (m + 6316 + 9 * (g 16).toNatClampNeg + 8) = some (.inr (0, 361, .inl fu1)) := (heqL50 (m + 6316 + 9 * (g 16).toNatClampNeg + 8) (by omega)).trans hAu1
              exact (hL79 _ wL50 (A9_33) (Q9_33) (X9_33) (Y9_33) (Z9_33) (K9_33) hsiL50 (fun x hx => (heqL50 x (by omega))) (by
                    exact hmL50) (by
                    first
                    | exact none9
                    | exact ⟨_, _, _, _, _, _, _, _, _, hb127, hAp, hb128, hb129, hb130, hb131, hb132, hb133, hb134, ⟨hK10, hP.1, hKd1, hKx1, hKm1, hKl1, hKr1, hKu1, (hv33.1.elim (fun e => by rw [e] at hKk1 ⊢; exact zKk_12 (Or.inl rfl) (hKk1.2.1 (Or.inl rfl)) (fun e => absurd e (by decide)) (hKk1.2.2.2.1 (Or.inl rfl))) (fun e => by rw [e] at hKk1 ⊢; exact zKk_12 (Or.inr rfl) (hKk1.2.1 (Or.inr (Or.inl rfl))) (fun _ => zneg_nz hKn1 hP.1 (fun i hi => hP.2.1 i (by omega)) (hKk1.2.2.1 rfl)) (hKk1.2.2.2.1 (Or.inr rfl))))⟩⟩) (by
                    first
                    | exact none9
                    | exact hp33_2.up (g 16).toNatClampNeg (k := K9_33) ⟨_, _, _, _, _, _, _, _, _, hb127, hAp, hb128, hb129, hb130, hb131, hb132, hb133, hb134, ⟨hK10, hP.1, hKd1, hKx1, hKm1, hKl1, hKr1, hKu1, (hv33.1.elim (fun e => by rw [e] at hKk1 ⊢; exact zKk_12 (Or.inl rfl) (hKk1.2.1 (Or.inl rfl)) (fun e => absurd e (by decide)) (hKk1.2.2.2.1 (Or.inl rfl))) (fun e => by rw [e] at hKk1 ⊢; exact zKk_12 (Or.inr rfl) (hKk1.2.1 (Or.inr (Or.inl rfl))) (fun _ => zneg_nz hKn1 hP.1 (fun i hi => hP.2.1 i (by omega)) (hKk1.2.2.1 rfl)) (hKk1.2.2.2.1 (Or.inr rfl))))⟩⟩ (fun x h1 h2 h3 => (heqL50 x (by omega)))) (by
                    exact ⟨hv33.1, by omega, by omega, by omega⟩) (Nat.lt_succ_self _)).more (zfa1 rfl (zfa1 rfl (zfa0)))
            ·
              have f136 := znleI cc54
              rw [show (325 : Int32).toInt = 325 from by decide] at f136
              refine zp_seg (pc' := 58) (lv' := [(0, .ref m), (2, .ref (m + 6316 + 9 * (g 16).toNatClampNeg)), (3, .int y3_50)]) (st' := [.ref (m + 6316 + 9 * (g 16).toNatClampNeg)]) [(57, .aload_n 2)] (by decide +kernel) rfl ?_
              have hb137 : wL50 (m + 6316 + 9 * (g 16).toNatClampNeg) = some (.inl (13, zTo (m + 6316 + 9 * (g 16).toNatClampNeg) g1)) := (heqL50 (m + 6316 + 9 * (g 16).toNatClampNeg) (by omega)).trans hT1
              refine zr_get (idx := 207) (k := 1) (v := .ref (m + 6316 + 9 * (g 16).toNatClampNeg + 1)) (by decide +kernel) (by decide +kernel) hb137 rfl ?_
              refine zp_seg (pc' := 64) (lv' := [(0, .ref m), (2, .ref (m + 6316 + 9 * (g 16).toNatClampNeg)), (3, .int y3_50)]) (st' := [.ref (m + 6316 + 9 * (g 16).toNatClampNeg), .int 0, .int y3_50, .ref (m + 6316 + 9 * (g 16).toNatClampNeg + 1)]) [(61, .iload_n 3), (62, .iconst 0), (63, .aload_n 2)] (by decide +kernel) rfl ?_
              refine zr_get (idx := 207) (k := 1) (v := .ref (m + 6316 + 9 * (g 16).toNatClampNeg + 1)) (by decide +kernel) (by decide +kernel) hb137 rfl ?_
              refine zp_seg (pc' := 68) (lv' := [(0, .ref m), (2, .ref (m + 6316 + 9 * (g 16).toNatClampNeg)), (3, .int y3_50)]) (st' := [.int y3_50, .ref (m + 6316 + 9 * (g 16).toNatClampNeg + 1), .int 0, .int y3_50, .ref (m + 6316 + 9 * (g 16).toNatClampNeg + 1)]) [(67, .iload_n 3)] (by decide +kernel) rfl ?_
              refine zr_iald (by decide +kernel) hAp (zin (by first | omega | decide) (by first | omega | decide)) ?_
              obtain ⟨x68, ex68⟩ : ∃ x9, x9 = pf (y3_50.toNatClampNeg) := ⟨_, rfl⟩
              rw [← ex68]
              have kx68 := zrng x68
              refine zr_callS (idx := 46) (j := 256) (by decide +kernel) (by decide +kernel) (by decide) (show zMe 256 = some zq_X16_sub from rfl) rfl rfl (Nat.le_of_ble_eq_true rfl) rfl rfl (Nat.le_of_ble_eq_true rfl) (Nat.le_of_ble_eq_true rfl) (c_X16_sub (w := wL50) 0 x68 (by exact zr1_0) (by rw [ex68]; exact hP.1 _ (by omega))) (by omega) (fun v69 w69 hp69 => ?_)
              obtain ⟨hpw69, r69, rfl, hr69⟩ := hp69
              replace hpw69 := hpw69.symm
              subst hpw69
              have kr69 := zrng r69
              show zP _ _ _ _ [.int r69, .int y3_50, .ref (m + 6316 + 9 * (g 16).toNatClampNeg + 1)] _ _ _ _ _
              refine zr_iast (by decide +kernel) hAp (zin (by first | omega | decide) (by first | omega | decide)) ?_
              show zP (d + 1) zq_X16_valueE 73 [(0, .ref m), (2, .ref (m + 6316 + 9 * (g 16).toNatClampNeg)), (3, .int y3_50)] [] (zup wL50 (m + 6316 + 9 * (g 16).toNatClampNeg + 1) (.inr (0, 325, .inl (upd pf (y3_50.toNatClampNeg) r69)))) sz 0 0 Post
              obtain ⟨w72, ew72⟩ : ∃ wz9, wz9 = zup wL50 (m + 6316 + 9 * (g 16).toNatClampNeg + 1) (.inr (0, 325, .inl (upd pf (y3_50.toNatClampNeg) r69))) := ⟨_, rfl⟩
              have hsi72 : zSI wL50 w72 := by rw [ew72]; exact zSI.arr _ hAp
              have heq72 : ∀ x, x ≠ m + 6316 + 9 * (g 16).toNatClampNeg + 1 → w72 x = wL50 x := fun x hx => by rw [ew72]; exact zup_n hx
              have hc72 : w72 (m + 6316 + 9 * (g 16).toNatClampNeg + 1) = some (.inr (0, 325, .inl (upd pf (y3_50.toNatClampNeg) r69))) := by rw [ew72]; exact zup_s
              rw [← ew72]
              clear ew72
              refine zp_seg (pc' := 76) (lv' := [(3, .int (y3_50 + 1)), (0, .ref m), (2, .ref (m + 6316 + 9 * (g 16).toNatClampNeg))]) (st' := []) [(73, .iinc 3 1)] (by decide +kernel) rfl ?_
              have k138 := zaddC y3_50 1 (n := 1) (by decide) (by omega) (by omega)
              generalize ev76 : (y3_50 + 1 : Int32) = v76 at k138 ⊢
              have kv76 := zrng v76
              refine zp_seg (pc' := 50) (lv' := [(3, .int v76), (0, .ref m), (2, .ref (m + 6316 + 9 * (g 16).toNatClampNeg))]) (st' := []) [(76, .goto (-26))] (by decide +kernel) rfl ?_
              have hz139 : (v76.toNatClampNeg : Int) = v76.toInt := znat (by first | omega | decide)
              have hb140 : w72 m = some (.inl (15, zMo m (zs (zs (zs (zs (zs g 13 A9_33) 16 Q9_33) 17 X9_33) 18 Y9_33) 19 Z9_33) r)) := (heq72 m (by omega)).trans hmL50
              exact (ih50 w72 v76 ((upd pf (y3_50.toNatClampNeg) r69)) (hsiL50.tr hsi72) (fun x hx => ((heq72 x (by omega)).trans (heqL50 x ⟨hx.1, hx.2⟩))) (by first | assumption | omega | decide) (by first | assumption | omega | decide) hc72 hb140 (by
                    refine ⟨zCr_up hP.1 _ hr69.1, fun i hi => ?_, fun i hi => ?_⟩
                    · by_cases e : i = y3_50.toNatClampNeg
                      · rw [e, zupd_s, hr69.2, zf_0, ex68, hP.2.2 _ (Nat.le_refl _)]
                      · rw [zupd_n _ _ e]; exact hP.2.1 i (by omega)
                    · rw [zupd_n _ _ (by omega)]; exact hP.2.2 i (by omega)) (by omega)).more (zfa1 rfl (zfa1 rfl (zfa1 rfl (zfa0))))
          have hl141 : (0 : Int32).toInt = 0 := by decide
          have hz142 : ((0 : Int32).toNatClampNeg : Int) = 0 := by decide
          exact (hL50 _ w33 0 (fn1) zSI.rf (fun _ _ => rfl) (by first | assumption | omega | decide) (by first | assumption | omega | decide) hAn1 hM33 (by
                exact ⟨hKn1, fun i hi => absurd hi (by omega), fun _ _ => rfl⟩) (Nat.lt_succ_self _)).more (zfa1 rfl (zfa1 rfl (zfa1 rfl (zfa0))))
    refine zp_if (i := .ifCond .lt 13) (c := z0_17 < 0) (t := 32) (e := 22) (lv' := [(1, .int z0_17), (0, .ref m)]) (st' := []) (by decide +kernel) rfl (fun cc19 => ?_) (fun cc19 => ?_)
    ·
      have f144 := zltI cc19
      rw [show (0 : Int32).toInt = 0 from by decide] at f144
      exact (hJ32 w1 (A9_1) zSI.rf (fun _ _ => rfl) (by
            exact hM1) (by
            have hz9 := znat (x := A9_1) (by omega)
            first
            | exact ⟨by omega, by omega⟩
            | (have hsg9 := hsg (by omega)
               exact ⟨by omega, by rw [show (A9_1).toNatClampNeg = A9_1.toNatClampNeg + 1 by omega]; omega⟩))).more (zfa1 rfl (zfa1 rfl (zfa0)))
    ·
      have f146 := znltI cc19
      rw [show (0 : Int32).toInt = 0 from by decide] at f146
      refine zp_seg (pc' := 24) (lv' := [(1, .int z0_17), (0, .ref m)]) (st' := [.ref m, .ref m]) [(22, .aload_n 0), (23, .dup)] (by decide +kernel) rfl ?_
      refine zr_get (idx := 334) (k := 13) (v := .int A9_1) (by decide +kernel) (by decide +kernel) hM1 rfl ?_
      refine zp_seg (pc' := 29) (lv' := [(1, .int z0_17), (0, .ref m)]) (st' := [.int (A9_1 + 1), .ref m]) [(27, .iconst 1), (28, .iadd)] (by decide +kernel) rfl ?_
      have k147 := zrng A9_1
      have k148 := zaddC A9_1 1 (n := 1) (by decide) (by omega) (by omega)
      generalize ev29 : (A9_1 + 1 : Int32) = v29 at k148 ⊢
      have kv29 := zrng v29
      refine zr_put2 (idx := 334) (k := 13) (fs2 := zMo m (zs g 13 v29) r) (by decide +kernel) (by decide +kernel) hM1 (Nat.le_of_ble_eq_true rfl) rfl rfl rfl ?_
      show zP (d + 1) zq_X16_valueE 32 [(1, .int z0_17), (0, .ref m)] [] (zup w1 m (.inl (15, zMo m (zs g 13 v29) r))) sz 0 0 Post
      obtain ⟨w29, ew29⟩ : ∃ wz9, wz9 = zup w1 m (.inl (15, zMo m (zs g 13 v29) r)) := ⟨_, rfl⟩
      have hsi29 : zSI w1 w29 := by rw [ew29]; exact zSI.setG hM1 _ _
      have heq29 : ∀ x, x ≠ m → w29 x = w1 x := fun x hx => by rw [ew29]; exact zup_n hx
      have hc29 : w29 m = some (.inl (15, zMo m (zs g 13 v29) r)) := by rw [ew29]; exact zup_s
      rw [← ew29]
      clear ew29
      exact (hJ32 w29 (v29) hsi29 (fun x hx => (heq29 x hx.2)) (by
            exact hc29) (by
            have hz9 := znat (x := v29) (by omega)
            first
            | exact ⟨by omega, by omega⟩
            | (have hsg9 := hsg (by omega)
               exact ⟨by omega, by rw [show (v29).toNatClampNeg = A9_1.toNatClampNeg + 1 by omega]; omega⟩))).more (zfa1 rfl (zfa1 rfl (zfa0)))
  refine zp_if (i := .if_icmp .ne 10) (c := ¬ r1 = 45) (t := 16) (e := 9) (lv' := [(0, .ref m)]) (st' := []) (by decide +kernel) rfl (fun cc6 => ?_) (fun cc6 => ?_)
  ·
    have f150 := zneI cc6
    rw [show (45 : Int32).toInt = 45 from by decide] at f150
    refine zp_seg (pc' := 17) (lv' := [(0, .ref m)]) (st' := [.int (Int32.ofInt (-1))]) [(16, .iconst (-1))] (by decide +kernel) rfl ?_
    exact (hJ17 (Int32.ofInt (-1)) (by
          first | exact fun _ => ⟨by omega, by rw [← hP9]; exact hq2⟩ | exact fun e => absurd e (by decide))).more (zfa1 rfl (zfa0))
  ·
    replace cc6 := Classical.not_not.mp cc6
    have f153 := zeqI cc6
    rw [show (45 : Int32).toInt = 45 from by decide] at f153
    obtain ⟨P9, hP9⟩ : ∃ P, P = (A9_1).toNatClampNeg := ⟨_, rfl⟩
    have hzP : (P9 : Int) = (A9_1).toInt := by rw [hP9]; exact znat (by omega)
    obtain ⟨hq1, hq2⟩ : P9 < (g 12).toNatClampNeg ∧ zDep ft (P9 + 1) = zDep ft P9 := by
      rw [hP9]
      first
      | exact zChr_p (hr1.symm.trans cc6) (by decide) (by decide) (by decide)
    have hq0 : zDep ft P9 = zDep ft (A9_1).toNatClampNeg := by rw [hP9]
    refine zp_seg (pc' := 10) (lv' := [(0, .ref m)]) (st' := [.ref m]) [(9, .aload_n 0)] (by decide +kernel) rfl ?_
    refine zr_get (idx := 334) (k := 13) (v := .int A9_1) (by decide +kernel) (by decide +kernel) hM1 rfl ?_
    refine zp_seg (pc' := 17) (lv' := [(0, .ref m)]) (st' := [.int A9_1]) [(13, .goto 4)] (by decide +kernel) rfl ?_
    have k154 := zrng A9_1
    exact (hJ17 A9_1 (by
          first | exact fun _ => ⟨by omega, by rw [← hP9]; exact hq2⟩ | exact fun e => absurd e (by decide))).more (zfa1 rfl (zfa0))
