theorem zx_X16_valueW_0 {m : Nat}  : (m + 80) < m ∨ m + 1 ≤ (m + 80) := by omega
theorem zx_X16_valueW_1 {m x : Nat} (h0 : x < m ∨ m + 1 ≤ x) : x ≠ m := by omega
theorem zx_X16_valueW_2 {m x : Nat} (h0 : m + 6316 ≤ x) (h1 : x < m + 6316 + 1170) : x < m ∨ m + 1 ≤ x := by omega
theorem zx_X16_valueW_3 {m : Nat}  : (m + 80) ≠ m := by omega
theorem zx_X16_valueW_4 {m x : Nat} (h0 : m + 6316 ≤ x) (h1 : x < m + 6316 + 1170) : x ≠ m := by omega
set_option maxHeartbeats 8000000 in
set_option maxRecDepth 100000 in
theorem c_X16_valueW {w : zM} {g : Nat → Int32} {r : Nat → Value} {ft : Nat → Int32} {g1 : Int32} {g3 : Int32} {g12 : Int32} {g13 : Int32} {g16 : Int32} (m : Nat) {n9 k9 : Nat} (hk9 : 40 ≤ k9) (hc9 : ∀ {w : zM} {g : Nat → Int32} {r : Nat → Value} {ft : Nat → Int32} {g1 : Int32} {g3 : Int32} {g12 : Int32} {g13 : Int32} {g16 : Int32} (m : Nat) (hm : w m = some (.inl (15, zMo m g r))) (hR_m : zR m w) (htp : 0 ≤ g13.toInt ∧ g13.toInt ≤ g12.toInt ∧ g12.toInt ≤ 400) (hA_m_80 : w (m + 80) = some (.inr (1, 400, .inl ft))) (htx : (∀ i, i ≤ g12.toNatClampNeg → zDep ft i ≤ 20) ∧ ∀ i, i < g12.toNatClampNeg → ¬ zRun ft g12.toNatClampNeg i) (hPl_m_6316 : zPil w (m + 6316)) (hut : 0 ≤ g1.toInt ∧ g1.toInt + 9 ≤ 160) (hbt : 0 ≤ g3.toInt ∧ g3.toInt + 16 ≤ 44) (hpi : 0 ≤ g16.toInt ∧ g16.toInt ≤ 4 * zDep ft g13.toNatClampNeg + 3) (hlv : 21 ≤ zDep ft g13.toNatClampNeg + (n9 : Int)) (hg1 : g 1 = g1) (hg3 : g 3 = g3) (hg12 : g 12 = g12) (hg13 : g 13 = g13) (hg16 : g 16 = g16), zConT k9 zq_X16_valueB [.ref m] w (fun v9 w9' => ∃ A9 : Int32, ∃ Q9 : Int32, ∃ X9 : Int32, ∃ Y9 : Int32, ∃ Z9 : Int32, ∃ K9 : Int32, zSI w w9' ∧ (∀ x, (x < m ∨ m + 1 ≤ x) ∧ (x < m + 6316 + 9 * g16.toNatClampNeg ∨ m + 6316 + 9 * g16.toNatClampNeg + (1170 - 9 * g16.toNatClampNeg) ≤ x) ∧ (x < m + 78 ∨ m + 78 + 1 ≤ x) ∧ (x < m + 276 + 2 * g1.toNatClampNeg ∨ m + 276 + 2 * g1.toNatClampNeg + (320 - 2 * g1.toNatClampNeg) ≤ x) ∧ (x < m + 596 + 130 * g3.toNatClampNeg ∨ m + 596 + 130 * g3.toNatClampNeg + (5720 - 130 * g3.toNatClampNeg) ≤ x) ∧ (x < m + 3 ∨ m + 3 + 1 ≤ x) ∧ (x < m + 5 ∨ m + 5 + 64 ≤ x) → w9' x = w x) ∧ w9' m = some (.inl (15, zMo m (zs (zs (zs (zs (zs g 13 A9) 16 Q9) 17 X9) 18 Y9) 19 Z9) r)) ∧ zTi w9' (m + 6316 + 9 * g16.toNatClampNeg) K9 ∧ zPil w9' (m + 6316) ∧ ((K9 = 1 ∨ K9 = 2) ∧ (g13.toInt ≤ A9.toInt ∧ A9.toInt ≤ g12.toInt) ∧ zDep ft A9.toNatClampNeg = zDep ft g13.toNatClampNeg ∧ Q9.toInt = g16.toInt + 1) ∧ v9 = some (.ref (m + 6316 + 9 * g16.toNatClampNeg))) (fun w9' => ∃ G9 : Nat → Int32, zSI w w9' ∧ (∀ x, (x < m ∨ m + 1 ≤ x) ∧ (x < m + 6316 + 9 * g16.toNatClampNeg ∨ m + 6316 + 9 * g16.toNatClampNeg + (1170 - 9 * g16.toNatClampNeg) ≤ x) ∧ (x < m + 78 ∨ m + 78 + 1 ≤ x) ∧ (x < m + 276 + 2 * g1.toNatClampNeg ∨ m + 276 + 2 * g1.toNatClampNeg + (320 - 2 * g1.toNatClampNeg) ≤ x) ∧ (x < m + 596 + 130 * g3.toNatClampNeg ∨ m + 596 + 130 * g3.toNatClampNeg + (5720 - 130 * g3.toNatClampNeg) ≤ x) ∧ (x < m + 3 ∨ m + 3 + 1 ≤ x) ∧ (x < m + 5 ∨ m + 5 + 64 ≤ x) → w9' x = w x) ∧ w9' m = some (.inl (15, zMo m G9 r)) ∧ (zKp G9 g) ∧ zPil w9' (m + 6316))) (hm : w m = some (.inl (15, zMo m g r))) (hR_m : zR m w) (htp : 0 ≤ g13.toInt ∧ g13.toInt ≤ g12.toInt ∧ g12.toInt ≤ 400) (hA_m_80 : w (m + 80) = some (.inr (1, 400, .inl ft))) (htx : (∀ i, i ≤ g12.toNatClampNeg → zDep ft i ≤ 20) ∧ ∀ i, i < g12.toNatClampNeg → ¬ zRun ft g12.toNatClampNeg i) (hPl_m_6316 : zPil w (m + 6316)) (hut : 0 ≤ g1.toInt ∧ g1.toInt + 9 ≤ 160) (hbt : 0 ≤ g3.toInt ∧ g3.toInt + 16 ≤ 44) (hpi : 0 ≤ g16.toInt ∧ g16.toInt ≤ 4 * zDep ft g13.toNatClampNeg + 2) (hlv : 21 ≤ zDep ft g13.toNatClampNeg + (n9 : Int)) (hg1 : g 1 = g1) (hg3 : g 3 = g3) (hg12 : g 12 = g12) (hg13 : g 13 = g13) (hg16 : g 16 = g16) : zConT (k9 + 1) zq_X16_valueW [.ref m] w (fun v9 w9' => ∃ A9 : Int32, ∃ Q9 : Int32, ∃ X9 : Int32, ∃ Y9 : Int32, ∃ Z9 : Int32, ∃ K9 : Int32, zSI w w9' ∧ (∀ x, (x < m ∨ m + 1 ≤ x) ∧ (x < m + 6316 + 9 * g16.toNatClampNeg ∨ m + 6316 + 9 * g16.toNatClampNeg + (1170 - 9 * g16.toNatClampNeg) ≤ x) ∧ (x < m + 78 ∨ m + 78 + 1 ≤ x) ∧ (x < m + 276 + 2 * g1.toNatClampNeg ∨ m + 276 + 2 * g1.toNatClampNeg + (320 - 2 * g1.toNatClampNeg) ≤ x) ∧ (x < m + 596 + 130 * g3.toNatClampNeg ∨ m + 596 + 130 * g3.toNatClampNeg + (5720 - 130 * g3.toNatClampNeg) ≤ x) ∧ (x < m + 3 ∨ m + 3 + 1 ≤ x) ∧ (x < m + 5 ∨ m + 5 + 64 ≤ x) → w9' x = w x) ∧ w9' m = some (.inl (15, zMo m (zs (zs (zs (zs (zs g 13 A9) 16 Q9) 17 X9) 18 Y9) 19 Z9) r)) ∧ zTi w9' (m + 6316 + 9 * g16.toNatClampNeg) K9 ∧ zPil w9' (m + 6316) ∧ ((K9 = 1 ∨ K9 = 2) ∧ (g13.toInt ≤ A9.toInt ∧ A9.toInt ≤ g12.toInt) ∧ zDep ft A9.toNatClampNeg = zDep ft g13.toNatClampNeg ∧ Q9.toInt = g16.toInt + 1) ∧ v9 = some (.ref (m + 6316 + 9 * g16.toNatClampNeg))) (fun w9' => ∃ G9 : Nat → Int32, zSI w w9' ∧ (∀ x, (x < m ∨ m + 1 ≤ x) ∧ (x < m + 6316 + 9 * g16.toNatClampNeg ∨ m + 6316 + 9 * g16.toNatClampNeg + (1170 - 9 * g16.toNatClampNeg) ≤ x) ∧ (x < m + 78 ∨ m + 78 + 1 ≤ x) ∧ (x < m + 276 + 2 * g1.toNatClampNeg ∨ m + 276 + 2 * g1.toNatClampNeg + (320 - 2 * g1.toNatClampNeg) ≤ x) ∧ (x < m + 596 + 130 * g3.toNatClampNeg ∨ m + 596 + 130 * g3.toNatClampNeg + (5720 - 130 * g3.toNatClampNeg) ≤ x) ∧ (x < m + 3 ∨ m + 3 + 1 ≤ x) ∧ (x < m + 5 ∨ m + 5 + 64 ≤ x) → w9' x = w x) ∧ w9' m = some (.inl (15, zMo m G9 r)) ∧ (zKp G9 g) ∧ zPil w9' (m + 6316)) := by
  subst hg1
  subst hg3
  subst hg12
  subst hg13
  subst hg16
  intro d sz hd
  obtain ⟨d, rfl⟩ : ∃ d9, d = d9 + 1 := ⟨d - 1, by omega⟩
  generalize hPost : (fun (r9' : Option (Option Value)) (w9' : zM) (z9 : Nat) => z9 = sz ∧ ((∃ v9, r9' = some v9 ∧ (∃ A9 : Int32, ∃ Q9 : Int32, ∃ X9 : Int32, ∃ Y9 : Int32, ∃ Z9 : Int32, ∃ K9 : Int32, zSI w w9' ∧ (∀ x, (x < m ∨ m + 1 ≤ x) ∧ (x < m + 6316 + 9 * (g 16).toNatClampNeg ∨ m + 6316 + 9 * (g 16).toNatClampNeg + (1170 - 9 * (g 16).toNatClampNeg) ≤ x) ∧ (x < m + 78 ∨ m + 78 + 1 ≤ x) ∧ (x < m + 276 + 2 * (g 1).toNatClampNeg ∨ m + 276 + 2 * (g 1).toNatClampNeg + (320 - 2 * (g 1).toNatClampNeg) ≤ x) ∧ (x < m + 596 + 130 * (g 3).toNatClampNeg ∨ m + 596 + 130 * (g 3).toNatClampNeg + (5720 - 130 * (g 3).toNatClampNeg) ≤ x) ∧ (x < m + 3 ∨ m + 3 + 1 ≤ x) ∧ (x < m + 5 ∨ m + 5 + 64 ≤ x) → w9' x = w x) ∧ w9' m = some (.inl (15, zMo m (zs (zs (zs (zs (zs g 13 A9) 16 Q9) 17 X9) 18 Y9) 19 Z9) r)) ∧ zTi w9' (m + 6316 + 9 * (g 16).toNatClampNeg) K9 ∧ zPil w9' (m + 6316) ∧ ((K9 = 1 ∨ K9 = 2) ∧ ((g 13).toInt ≤ A9.toInt ∧ A9.toInt ≤ (g 12).toInt) ∧ zDep ft A9.toNatClampNeg = zDep ft (g 13).toNatClampNeg ∧ Q9.toInt = (g 16).toInt + 1) ∧ v9 = some (.ref (m + 6316 + 9 * (g 16).toNatClampNeg)))) ∨ (r9' = none ∧ (∃ G9 : Nat → Int32, zSI w w9' ∧ (∀ x, (x < m ∨ m + 1 ≤ x) ∧ (x < m + 6316 + 9 * (g 16).toNatClampNeg ∨ m + 6316 + 9 * (g 16).toNatClampNeg + (1170 - 9 * (g 16).toNatClampNeg) ≤ x) ∧ (x < m + 78 ∨ m + 78 + 1 ≤ x) ∧ (x < m + 276 + 2 * (g 1).toNatClampNeg ∨ m + 276 + 2 * (g 1).toNatClampNeg + (320 - 2 * (g 1).toNatClampNeg) ≤ x) ∧ (x < m + 596 + 130 * (g 3).toNatClampNeg ∨ m + 596 + 130 * (g 3).toNatClampNeg + (5720 - 130 * (g 3).toNatClampNeg) ≤ x) ∧ (x < m + 3 ∨ m + 3 + 1 ≤ x) ∧ (x < m + 5 ∨ m + 5 + 64 ≤ x) → w9' x = w x) ∧ w9' m = some (.inl (15, zMo m G9 r)) ∧ (zKp G9 g) ∧ zPil w9' (m + 6316))))) = Post
  show zP (d + 1) zq_X16_valueW 0 [(0, .ref m)] [] w sz 0 0 Post
  have k1 := zrng (g 1)
  have hz2 : ((g 1).toNatClampNeg : Int) = (g 1).toInt := znat (by first | omega | decide)
  have hgb1 : (g 1).toNatClampNeg + 9 ≤ 160 := by omega
  have k3 := zrng (g 3)
  have hz4 : ((g 3).toNatClampNeg : Int) = (g 3).toInt := znat (by first | omega | decide)
  have hgb3 : (g 3).toNatClampNeg + 16 ≤ 44 := by omega
  have k5 := zrng (g 12)
  have hz6 : ((g 12).toNatClampNeg : Int) = (g 12).toInt := znat (by first | omega | decide)
  have k7 := zrng (g 13)
  have hz8 : ((g 13).toNatClampNeg : Int) = (g 13).toInt := znat (by first | omega | decide)
  have k9 := zrng (g 16)
  have hz10 : ((g 16).toNatClampNeg : Int) = (g 16).toInt := znat (by first | omega | decide)
  have hd0 := htx.1 (g 13).toNatClampNeg (by omega)
  refine zp_seg (pc' := 1) (lv' := [(0, .ref m)]) (st' := [.ref m]) [(0, .aload_n 0)] (by decide +kernel) rfl ?_
  refine zr_callVT (idx := 406) (j := 334) (by decide +kernel) (by decide +kernel) (show zMe 334 = some zq_X16_valueB from rfl) rfl rfl (Nat.le_of_ble_eq_true rfl) rfl rfl hm (Nat.le_of_ble_eq_true rfl) (Nat.le_of_ble_eq_true rfl) (hc9 (w := w) (g1 := (g 1)) (g3 := (g 3)) (g12 := (g 12)) (g13 := (g 13)) (g16 := (g 16)) m hm hR_m (by first | omega | decide | assumption | exact zr1_1 | exact zr1_0 | fail "num") hA_m_80 (by first | omega | decide | assumption | exact zr1_1 | exact zr1_0 | fail "num") hPl_m_6316 (by first | omega | decide | assumption | exact zr1_1 | exact zr1_0 | fail "num") (by first | omega | decide | assumption | exact zr1_1 | exact zr1_0 | fail "num") (by first | omega | decide | assumption | exact zr1_1 | exact zr1_0 | fail "num") (by first | omega | decide | assumption | exact zr1_1 | exact zr1_0 | fail "num") rfl rfl rfl rfl rfl) (by omega) (fun v1 w1 hp1 => ?_) (fun wx9 hx9 => by
        obtain ⟨G9_x9, hsix9, heqx9, hx9_0, hx9_1, hx9_2⟩ := hx9
        skip
        rw [← hPost]
        exact ⟨rfl, Or.inr ⟨rfl, G9_x9, hsix9, (fun x hx => (heqx9 x ⟨hx.1, hx.2.1, hx.2.2.1, hx.2.2.2.1, hx.2.2.2.2.1, hx.2.2.2.2.2.1, hx.2.2.2.2.2.2⟩)), hx9_0, (by
              first | exact hx9_1 | exact ⟨rfl, rfl, rfl, rfl⟩), hx9_2⟩⟩)
  obtain ⟨A9_1, Q9_1, X9_1, Y9_1, Z9_1, K9_1, hsi1, heq1, hp1_0, hp1_1, hp1_2, hp1_3, rfl⟩ := hp1
  have hM1 : w1 m = some (.inl (15, zMo m (zs (zs (zs (zs (zs g 13 A9_1) 16 Q9_1) 17 X9_1) 18 Y9_1) 19 Z9_1) r)) := hp1_0
  show zP _ _ _ _ [.ref (m + 6316 + 9 * (g 16).toNatClampNeg)] _ _ _ _ _
  have hv1 := hp1_3
  have hzA1 := znat (x := A9_1) (by omega)
  have hzQ1 := znat (x := Q9_1) (by omega)
  refine zp_seg (pc' := 6) (lv' := [(1, .ref (m + 6316 + 9 * (g 16).toNatClampNeg)), (0, .ref m)]) (st' := [.ref m]) [(4, .astore_n 1), (5, .aload_n 0)] (by decide +kernel) rfl ?_
  have k11 := zrng A9_1
  have hb12 := hR_m.si hsi1
  have hb13 : w1 (m + 80) = some (.inr (1, 400, .inl ft)) := (heq1 (m + 80) (by omega)).trans hA_m_80
  refine zr_callV (idx := 343) (j := 319) (by decide +kernel) (by decide +kernel) (show zMe 319 = some zq_X16_look from rfl) rfl rfl (Nat.le_of_ble_eq_true rfl) rfl rfl hM1 (Nat.le_of_ble_eq_true rfl) (Nat.le_of_ble_eq_true rfl) (c_X16_look (w := w1) (g12 := (g 12)) (g13 := A9_1) m hM1 hb12 (by first | omega | decide | assumption | exact zr1_1 | exact zr1_0 | fail "num") hb13 (by first | omega | decide | assumption | exact zr1_1 | exact zr1_0 | fail "num") rfl rfl) (by omega) (fun v6 w6 hp6 => ?_)
  obtain ⟨A9_6, hsi6, heq6, hp6_0, hp6_1, r6, rfl, hr6⟩ := hp6
  have hM6 : w6 m = some (.inl (15, zMo m (zs (zs (zs (zs (zs g 13 A9_6) 16 Q9_1) 17 X9_1) 18 Y9_1) 19 Z9_1) r)) := hp6_0
  have kr6 := zrng r6
  show zP _ _ _ _ [.int r6] _ _ _ _ _
  have hlk6 := hp6_1.2.2
  have hzA6 := znat (x := A9_6) (by omega)
  refine zp_seg (pc' := 11) (lv' := [(1, .ref (m + 6316 + 9 * (g 16).toNatClampNeg)), (0, .ref m)]) (st' := [.int 33, .int r6]) [(9, .bipush 33)] (by decide +kernel) rfl ?_
  have hJ97 : ∀ (wL97 : zM) (cA : Int32) (cQ : Int32) (cX : Int32) (cY : Int32) (cZ : Int32) (cK : Int32), (zSI w6 wL97) → (∀ x, ((x < m ∨ m + 1 ≤ x) ∧ (x < m + 6316 + 9 * (g 16).toNatClampNeg ∨ m + 6316 + 9 * (g 16).toNatClampNeg + (1170 - 9 * (g 16).toNatClampNeg) ≤ x) ∧ (x < m + 78 ∨ m + 78 + 1 ≤ x) ∧ (x < m + 276 + 2 * (g 1).toNatClampNeg ∨ m + 276 + 2 * (g 1).toNatClampNeg + (320 - 2 * (g 1).toNatClampNeg) ≤ x) ∧ (x < m + 596 + 130 * (g 3).toNatClampNeg ∨ m + 596 + 130 * (g 3).toNatClampNeg + (5720 - 130 * (g 3).toNatClampNeg) ≤ x) ∧ (x < m + 3 ∨ m + 3 + 1 ≤ x) ∧ (x < m + 5 ∨ m + 5 + 64 ≤ x)) ∧ x ≠ m → wL97 x = w6 x) → (wL97 m = some (.inl (15, zMo m (zs (zs (zs (zs (zs g 13 cA) 16 cQ) 17 cX) 18 cY) 19 cZ) r))) → (zTi wL97 (m + 6316 + 9 * (g 16).toNatClampNeg) cK) → (zPil wL97 (m + 6316)) → ((cK = 1 ∨ cK = 2) ∧ ((g 13).toInt ≤ cA.toInt ∧ cA.toInt ≤ (g 12).toInt) ∧ zDep ft cA.toNatClampNeg = zDep ft (g 13).toNatClampNeg ∧ cQ.toInt = (g 16).toInt + 1) → zP (d + 1) zq_X16_valueW 97 [(0, .ref m), (1, .ref (m + 6316 + 9 * (g 16).toNatClampNeg))] [] wL97 sz 0 0 Post := by
    intro wL97 cA cQ cX cY cZ cK hsiL97 heqL97 hcM hcT hcP hcN
    refine zp_seg (pc' := 98) (lv' := [(0, .ref m), (1, .ref (m + 6316 + 9 * (g 16).toNatClampNeg))]) (st' := [.ref m]) [(97, .aload_n 0)] (by decide +kernel) rfl ?_
    have k14 := zrng cA
    have hb15 := hb12.si (hsi6.tr hsiL97)
    have hb16 : wL97 (m + 80) = some (.inr (1, 400, .inl ft)) := ((heqL97 (m + 80) (by omega)).trans (heq6 (m + 80) (zx_X16_valueW_0))).trans hb13
    refine zr_callV (idx := 343) (j := 319) (by decide +kernel) (by decide +kernel) (show zMe 319 = some zq_X16_look from rfl) rfl rfl (Nat.le_of_ble_eq_true rfl) rfl rfl hcM (Nat.le_of_ble_eq_true rfl) (Nat.le_of_ble_eq_true rfl) (c_X16_look (w := wL97) (g12 := (g 12)) (g13 := cA) m hcM hb15 (by first | omega | decide | assumption | exact zr1_1 | exact zr1_0 | fail "num") hb16 (by first | omega | decide | assumption | exact zr1_1 | exact zr1_0 | fail "num") rfl rfl) (by omega) (fun v98 w98 hp98 => ?_)
    obtain ⟨A9_98, hsi98, heq98, hp98_0, hp98_1, r98, rfl, hr98⟩ := hp98
    have hM98 : w98 m = some (.inl (15, zMo m (zs (zs (zs (zs (zs g 13 A9_98) 16 cQ) 17 cX) 18 cY) 19 cZ) r)) := hp98_0
    have kr98 := zrng r98
    show zP _ _ _ _ [.int r98] _ _ _ _ _
    have hlk98 := hp98_1.2.2
    have hzA98 := znat (x := A9_98) (by omega)
    refine zp_seg (pc' := 103) (lv' := [(0, .ref m), (1, .ref (m + 6316 + 9 * (g 16).toNatClampNeg))]) (st' := [.int 94, .int r98]) [(101, .bipush 94)] (by decide +kernel) rfl ?_
    refine zp_if (i := .if_icmp .ne 51) (c := ¬ r98 = 94) (t := 154) (e := 106) (lv' := [(0, .ref m), (1, .ref (m + 6316 + 9 * (g 16).toNatClampNeg))]) (st' := []) (by decide +kernel) rfl (fun cc103 => ?_) (fun cc103 => ?_)
    ·
      have f18 := zneI cc103
      rw [show (94 : Int32).toInt = 94 from by decide] at f18
      refine zp_seg (pc' := 155) (lv' := [(0, .ref m), (1, .ref (m + 6316 + 9 * (g 16).toNatClampNeg))]) (st' := [.ref (m + 6316 + 9 * (g 16).toNatClampNeg)]) [(154, .aload_n 1)] (by decide +kernel) rfl ?_
      have hoffend : ∀ x, (x < m ∨ m + 1 ≤ x) ∧ (x < m + 6316 + 9 * (g 16).toNatClampNeg ∨ m + 6316 + 9 * (g 16).toNatClampNeg + (1170 - 9 * (g 16).toNatClampNeg) ≤ x) ∧ (x < m + 78 ∨ m + 78 + 1 ≤ x) ∧ (x < m + 276 + 2 * (g 1).toNatClampNeg ∨ m + 276 + 2 * (g 1).toNatClampNeg + (320 - 2 * (g 1).toNatClampNeg) ≤ x) ∧ (x < m + 596 + 130 * (g 3).toNatClampNeg ∨ m + 596 + 130 * (g 3).toNatClampNeg + (5720 - 130 * (g 3).toNatClampNeg) ≤ x) ∧ (x < m + 3 ∨ m + 3 + 1 ≤ x) ∧ (x < m + 5 ∨ m + 5 + 64 ≤ x) → w98 x = w x := fun x hx => ((heq98 x hx.1).trans ((heqL97 x ⟨⟨hx.1, hx.2.1, hx.2.2.1, hx.2.2.2.1, hx.2.2.2.2.1, hx.2.2.2.2.2.1, hx.2.2.2.2.2.2⟩, (zx_X16_valueW_1 hx.1)⟩).trans ((heq6 x hx.1).trans (heq1 x ⟨hx.1, hx.2.1, hx.2.2.1, hx.2.2.2.1, hx.2.2.2.2.1, hx.2.2.2.2.2.1, hx.2.2.2.2.2.2⟩))))
      have hb19 : zTi w98 (m + 6316 + 9 * (g 16).toNatClampNeg) cK := hcT.ag (fun x hx1 hx2 => (heq98 x (by omega)))
      have hb20 : zPil w98 (m + 6316) := hcP.ag (fun x hx1 hx2 => (heq98 x (zx_X16_valueW_2 hx1 hx2)))
      refine zr_retA (by decide +kernel) rfl ?_
      rw [← hPost]; exact ⟨rfl, Or.inl ⟨_, rfl, A9_98, cQ, cX, cY, cZ, cK, (((hsi1.tr hsi6).tr hsiL97).tr hsi98), hoffend, hM98, (by first | exact hb19 | (have z9 := hb19; simpa using z9)), hb20, (by
            first | exact ⟨hcN.1, by omega, by omega, by omega⟩ | exact ⟨hp151_2, by omega, by omega, by omega⟩), rfl⟩⟩
    ·
      replace cc103 := Classical.not_not.mp cc103
      have f22 := zeqI cc103
      rw [show (94 : Int32).toInt = 94 from by decide] at f22
      obtain ⟨P9, hP9⟩ : ∃ P, P = (A9_98).toNatClampNeg := ⟨_, rfl⟩
      have hzP : (P9 : Int) = (A9_98).toInt := by rw [hP9]; exact znat (by omega)
      obtain ⟨hq1, hq2⟩ : P9 < (g 12).toNatClampNeg ∧ zDep ft (P9 + 1) = zDep ft P9 := by
        rw [hP9]
        first
        | exact zChr_p (hr98.symm.trans cc103) (by decide) (by decide) (by decide)
      have hq0 : zDep ft P9 = zDep ft (A9_98).toNatClampNeg := by rw [hP9]
      refine zp_seg (pc' := 108) (lv' := [(0, .ref m), (1, .ref (m + 6316 + 9 * (g 16).toNatClampNeg))]) (st' := [.ref m, .ref m]) [(106, .aload_n 0), (107, .dup)] (by decide +kernel) rfl ?_
      refine zr_get (idx := 334) (k := 13) (v := .int A9_98) (by decide +kernel) (by decide +kernel) hM98 rfl ?_
      refine zp_seg (pc' := 114) (lv' := [(0, .ref m), (1, .ref (m + 6316 + 9 * (g 16).toNatClampNeg))]) (st' := [.int (A9_98 + 1), .ref m, .int A9_98]) [(111, .dup_x1), (112, .iconst 1), (113, .iadd)] (by decide +kernel) rfl ?_
      have k23 := zrng A9_98
      have k24 := zaddC A9_98 1 (n := 1) (by decide) (by omega) (by omega)
      generalize ev114 : (A9_98 + 1 : Int32) = v114 at k24 ⊢
      have kv114 := zrng v114
      refine zr_put2 (idx := 334) (k := 13) (fs2 := zMo m (zs (zs (zs (zs (zs g 13 v114) 16 cQ) 17 cX) 18 cY) 19 cZ) r) (by decide +kernel) (by decide +kernel) hM98 (Nat.le_of_ble_eq_true rfl) rfl rfl rfl ?_
      show zP (d + 1) zq_X16_valueW 117 [(0, .ref m), (1, .ref (m + 6316 + 9 * (g 16).toNatClampNeg))] [.int A9_98] (zup w98 m (.inl (15, zMo m (zs (zs (zs (zs (zs g 13 v114) 16 cQ) 17 cX) 18 cY) 19 cZ) r))) sz 0 0 Post
      obtain ⟨w114, ew114⟩ : ∃ wz9, wz9 = zup w98 m (.inl (15, zMo m (zs (zs (zs (zs (zs g 13 v114) 16 cQ) 17 cX) 18 cY) 19 cZ) r)) := ⟨_, rfl⟩
      have hsi114 : zSI w98 w114 := by rw [ew114]; exact zSI.setG hM98 _ _
      have heq114 : ∀ x, x ≠ m → w114 x = w98 x := fun x hx => by rw [ew114]; exact zup_n hx
      have hc114 : w114 m = some (.inl (15, zMo m (zs (zs (zs (zs (zs g 13 v114) 16 cQ) 17 cX) 18 cY) 19 cZ) r)) := by rw [ew114]; exact zup_s
      rw [← ew114]
      clear ew114
      refine zp_seg (pc' := 118) (lv' := [(2, .int A9_98), (0, .ref m), (1, .ref (m + 6316 + 9 * (g 16).toNatClampNeg))]) (st' := []) [(117, .istore_n 2)] (by decide +kernel) rfl ?_
      have hz9 := znat (x := v114) (by omega)
      have hq3 : zDep ft (v114).toNatClampNeg = zDep ft P9 := by rw [show (v114).toNatClampNeg = P9 + 1 by omega]; exact hq2
      refine zp_seg (pc' := 119) (lv' := [(2, .int A9_98), (0, .ref m), (1, .ref (m + 6316 + 9 * (g 16).toNatClampNeg))]) (st' := [.ref m]) [(118, .aload_n 0)] (by decide +kernel) rfl ?_
      have k25 := zrng cQ
      have hz26 : (v114.toNatClampNeg : Int) = v114.toInt := znat (by first | omega | decide)
      have hz27 : (cQ.toNatClampNeg : Int) = cQ.toInt := znat (by first | omega | decide)
      have hb28 := hb15.si (hsi98.tr hsi114)
      have hb29 : w114 (m + 80) = some (.inr (1, 400, .inl ft)) := ((heq114 (m + 80) (zx_X16_valueW_3)).trans (heq98 (m + 80) (zx_X16_valueW_0))).trans hb16
      have hb30 : zPil w114 (m + 6316) := hcP.ag (fun x hx1 hx2 => ((heq114 x (zx_X16_valueW_4 hx1 hx2)).trans (heq98 x (zx_X16_valueW_2 hx1 hx2))))
      refine zr_callVT (idx := 406) (j := 334) (by decide +kernel) (by decide +kernel) (show zMe 334 = some zq_X16_valueB from rfl) rfl rfl (Nat.le_of_ble_eq_true rfl) rfl rfl hc114 (Nat.le_of_ble_eq_true rfl) (Nat.le_of_ble_eq_true rfl) (hc9 (w := w114) (g1 := (g 1)) (g3 := (g 3)) (g12 := (g 12)) (g13 := v114) (g16 := cQ) m hc114 hb28 (by first | omega | decide | assumption | exact zr1_1 | exact zr1_0 | fail "num") hb29 (by first | omega | decide | assumption | exact zr1_1 | exact zr1_0 | fail "num") hb30 (by first | omega | decide | assumption | exact zr1_1 | exact zr1_0 | fail "num") (by first | omega | decide | assumption | exact zr1_1 | exact zr1_0 | fail "num") (by first | omega | decide | assumption | exact zr1_1 | exact zr1_0 | fail "num") (by first | omega | decide | assumption | exact zr1_1 | exact zr1_0 | fail "num") rfl rfl rfl rfl rfl) (by omega) (fun v119 w119 hp119 => ?_) (fun wx9 hx9 => by
            obtain ⟨G9_x9, hsix9, heqx9, hx9_0, hx9_1, hx9_2⟩ := hx9
            skip
            rw [← hPost]
            exact ⟨rfl, Or.inr ⟨rfl, G9_x9, (((((hsi1.tr hsi6).tr hsiL97).tr hsi98).tr hsi114).tr hsix9), (fun x hx => ((heqx9 x (by omega)).trans ((heq114 x (zx_X16_valueW_1 hx.1)).trans ((heq98 x hx.1).trans ((heqL97 x ⟨⟨hx.1, hx.2.1, hx.2.2.1, hx.2.2.2.1, hx.2.2.2.2.1, hx.2.2.2.2.2.1, hx.2.2.2.2.2.2⟩, (zx_X16_valueW_1 hx.1)⟩).trans ((heq6 x hx.1).trans (heq1 x ⟨hx.1, hx.2.1, hx.2.2.1, hx.2.2.2.1, hx.2.2.2.2.1, hx.2.2.2.2.2.1, hx.2.2.2.2.2.2⟩))))))), hx9_0, (by
                  first | exact hx9_1 | exact ⟨rfl, rfl, rfl, rfl⟩), hx9_2⟩⟩)
      obtain ⟨A9_119, Q9_119, X9_119, Y9_119, Z9_119, K9_119, hsi119, heq119, hp119_0, hp119_1, hp119_2, hp119_3, rfl⟩ := hp119
      have hM119 : w119 m = some (.inl (15, zMo m (zs (zs (zs (zs (zs g 13 A9_119) 16 Q9_119) 17 X9_119) 18 Y9_119) 19 Z9_119) r)) := hp119_0
      show zP _ _ _ _ [.ref (m + 6316 + 9 * cQ.toNatClampNeg)] _ _ _ _ _
      have hv119 := hp119_3
      have hzA119 := znat (x := A9_119) (by omega)
      have hzQ119 := znat (x := Q9_119) (by omega)
      obtain ⟨g5, fn5, fd5, fa5, fb5, fc5, fe5, fr5, fu5, hT5, hAn5, hAd5, hAa5, hAb5, hAc5, hAe5, hAr5, hAu5, hK5⟩ := id hp119_1
      obtain ⟨hK50, hKn5, hKd5, hKx5, hKm5, hKl5, hKr5, hKu5, hKk5⟩ := id hK5
      refine zp_seg (pc' := 125) (lv' := [(3, .ref (m + 6316 + 9 * cQ.toNatClampNeg)), (2, .int A9_98), (0, .ref m), (1, .ref (m + 6316 + 9 * (g 16).toNatClampNeg))]) (st' := [.ref (m + 6316 + 9 * cQ.toNatClampNeg), .ref m]) [(122, .astore_n 3), (123, .aload_n 0), (124, .aload_n 3)] (by decide +kernel) rfl ?_
      have hb31 := hb28.si hsi119
      refine zr_callV (idx := 409) (j := 329) (by decide +kernel) (by decide +kernel) (show zMe 329 = some zq_X16_isLine from rfl) rfl rfl (Nat.le_of_ble_eq_true rfl) rfl rfl hM119 (Nat.le_of_ble_eq_true rfl) (Nat.le_of_ble_eq_true rfl) (c_X16_isLine (w := w119) m (m + 6316 + 9 * cQ.toNatClampNeg) hM119 hb31 hT5 hAn5 hAd5 (by exact hKn5) (by first | omega | decide | assumption | exact zr1_1 | exact zr1_0 | fail "num")) (by omega) (fun v125 w125 hp125 => ?_)
      obtain ⟨A9_125, B9_125, C9_125, hsi125, heq125, hp125_0, r125, rfl, hrb125, hr125⟩ := hp125
      have hM125 : w125 m = some (.inl (15, zMo m (zs (zs (zs (zs (zs g 13 A9_119) 16 Q9_119) 17 A9_125) 18 B9_125) 19 C9_125) r)) := hp125_0
      have kr125 := zrng r125
      show zP _ _ _ _ [.int r125] _ _ _ _ _
      refine zp_if (i := .ifCond .ne 10) (c := ¬ r125 = 0) (t := 138) (e := 131) (lv' := [(3, .ref (m + 6316 + 9 * cQ.toNatClampNeg)), (2, .int A9_98), (0, .ref m), (1, .ref (m + 6316 + 9 * (g 16).toNatClampNeg))]) (st' := []) (by decide +kernel) rfl (fun cc128 => ?_) (fun cc128 => ?_)
      ·
        have f33 := zneI cc128
        rw [show (0 : Int32).toInt = 0 from by decide] at f33
        have hln5 := (hr125 (hrb125.resolve_left cc128)).2
        refine zp_seg (pc' := 140) (lv' := [(3, .ref (m + 6316 + 9 * cQ.toNatClampNeg)), (2, .int A9_98), (0, .ref m), (1, .ref (m + 6316 + 9 * (g 16).toNatClampNeg))]) (st' := [.ref m, .ref m]) [(138, .aload_n 0), (139, .dup)] (by decide +kernel) rfl ?_
        refine zr_get (idx := 375) (k := 16) (v := .int Q9_119) (by decide +kernel) (by decide +kernel) hM125 rfl ?_
        refine zp_seg (pc' := 145) (lv' := [(3, .ref (m + 6316 + 9 * cQ.toNatClampNeg)), (2, .int A9_98), (0, .ref m), (1, .ref (m + 6316 + 9 * (g 16).toNatClampNeg))]) (st' := [.int (Q9_119 - 1), .ref m]) [(143, .iconst 1), (144, .isub)] (by decide +kernel) rfl ?_
        have k34 := zrng Q9_119
        have k35 := zsubC Q9_119 1 (n := 1) (by decide) (by omega) (by omega)
        generalize ev145 : (Q9_119 - 1 : Int32) = v145 at k35 ⊢
        have kv145 := zrng v145
        refine zr_put2 (idx := 375) (k := 16) (fs2 := zMo m (zs (zs (zs (zs (zs g 13 A9_119) 16 v145) 17 A9_125) 18 B9_125) 19 C9_125) r) (by decide +kernel) (by decide +kernel) hM125 (Nat.le_of_ble_eq_true rfl) rfl rfl rfl ?_
        show zP (d + 1) zq_X16_valueW 148 [(3, .ref (m + 6316 + 9 * cQ.toNatClampNeg)), (2, .int A9_98), (0, .ref m), (1, .ref (m + 6316 + 9 * (g 16).toNatClampNeg))] [] (zup w125 m (.inl (15, zMo m (zs (zs (zs (zs (zs g 13 A9_119) 16 v145) 17 A9_125) 18 B9_125) 19 C9_125) r))) sz 0 0 Post
        obtain ⟨w145, ew145⟩ : ∃ wz9, wz9 = zup w125 m (.inl (15, zMo m (zs (zs (zs (zs (zs g 13 A9_119) 16 v145) 17 A9_125) 18 B9_125) 19 C9_125) r)) := ⟨_, rfl⟩
        have hsi145 : zSI w125 w145 := by rw [ew145]; exact zSI.setG hM125 _ _
        have heq145 : ∀ x, x ≠ m → w145 x = w125 x := fun x hx => by rw [ew145]; exact zup_n hx
        have hc145 : w145 m = some (.inl (15, zMo m (zs (zs (zs (zs (zs g 13 A9_119) 16 v145) 17 A9_125) 18 B9_125) 19 C9_125) r)) := by rw [ew145]; exact zup_s
        rw [← ew145]
        clear ew145
        refine zp_seg (pc' := 151) (lv' := [(3, .ref (m + 6316 + 9 * cQ.toNatClampNeg)), (2, .int A9_98), (0, .ref m), (1, .ref (m + 6316 + 9 * (g 16).toNatClampNeg))]) (st' := [.int A9_98, .ref (m + 6316 + 9 * (g 16).toNatClampNeg), .ref m]) [(148, .aload_n 0), (149, .aload_n 1), (150, .iload_n 2)] (by decide +kernel) rfl ?_
        have k36 := zrng A9_125
        have k37 := zrng B9_125
        have k38 := zrng C9_125
        have hb39 := hb31.si (hsi125.tr hsi145)
        have hb40 : zTi w145 (m + 6316 + 9 * (g 16).toNatClampNeg) cK := hcT.ag (fun x hx1 hx2 => ((heq145 x (by omega)).trans ((heq125 x (by omega)).trans ((heq119 x (by omega)).trans ((heq114 x (by omega)).trans (heq98 x (by omega)))))))
        have hb41 : zPil w145 (m + 6316) := hp119_2.ag (fun x hx1 hx2 => ((heq145 x (zx_X16_valueW_4 hx1 hx2)).trans (heq125 x (zx_X16_valueW_2 hx1 hx2))))
        refine zr_callVT (idx := 414) (j := 333) (by decide +kernel) (by decide +kernel) (show zMe 333 = some zq_X16_raiseText from rfl) rfl rfl (Nat.le_of_ble_eq_true rfl) rfl rfl hc145 (Nat.le_of_ble_eq_true rfl) (Nat.le_of_ble_eq_true rfl) (c_X16_raiseText (w := w145) (g1 := (g 1)) (g3 := (g 3)) (g17 := A9_125) (g18 := B9_125) (g19 := C9_125) m (m + 6316 + 9 * (g 16).toNatClampNeg) A9_98 hc145 hb39 hb40 hb41 (by exact ⟨(g 16).toNatClampNeg, by omega, rfl⟩) (by first | omega | decide | assumption | exact zr1_1 | exact zr1_0 | fail "num") (by first | omega | decide | assumption | exact zr1_1 | exact zr1_0 | fail "num") (by first | omega | decide | assumption | exact zr1_1 | exact zr1_0 | fail "num") (by exact hcN.1) (by exact hln5) rfl rfl rfl rfl rfl) (by omega) (fun v151 w151 hp151 => ?_) (fun wx9 hx9 => by
              obtain ⟨G9_x9, hsix9, heqx9, hx9_0, hx9_1, hx9_2⟩ := hx9
              skip
              rw [← hPost]
              exact ⟨rfl, Or.inr ⟨rfl, G9_x9, ((((((((hsi1.tr hsi6).tr hsiL97).tr hsi98).tr hsi114).tr hsi119).tr hsi125).tr hsi145).tr hsix9), (fun x hx => ((heqx9 x (by omega)).trans ((heq145 x (zx_X16_valueW_1 hx.1)).trans ((heq125 x hx.1).trans ((heq119 x (by omega)).trans ((heq114 x (zx_X16_valueW_1 hx.1)).trans ((heq98 x hx.1).trans ((heqL97 x ⟨⟨hx.1, hx.2.1, hx.2.2.1, hx.2.2.2.1, hx.2.2.2.2.1, hx.2.2.2.2.2.1, hx.2.2.2.2.2.2⟩, (zx_X16_valueW_1 hx.1)⟩).trans ((heq6 x hx.1).trans (heq1 x ⟨hx.1, hx.2.1, hx.2.2.1, hx.2.2.2.1, hx.2.2.2.2.1, hx.2.2.2.2.2.1, hx.2.2.2.2.2.2⟩)))))))))), hx9_0, (by
                    first | exact hx9_1 | exact ⟨rfl, rfl, rfl, rfl⟩), hx9_2⟩⟩)
        obtain ⟨K9_151, hsi151, heq151, hp151_0, hp151_1, hp151_2, hp151_3, rfl⟩ := hp151
        have hM151 : w151 m = some (.inl (15, zMo m (zs (zs (zs (zs (zs g 13 A9_119) 16 v145) 17 A9_125) 18 B9_125) 19 C9_125) r)) := hp151_0
        show zP _ _ _ _ [] _ _ _ _ _
        refine zp_seg (pc' := 155) (lv' := [(3, .ref (m + 6316 + 9 * cQ.toNatClampNeg)), (2, .int A9_98), (0, .ref m), (1, .ref (m + 6316 + 9 * (g 16).toNatClampNeg))]) (st' := [.ref (m + 6316 + 9 * (g 16).toNatClampNeg)]) [(154, .aload_n 1)] (by decide +kernel) rfl ?_
        have hoffend : ∀ x, (x < m ∨ m + 1 ≤ x) ∧ (x < m + 6316 + 9 * (g 16).toNatClampNeg ∨ m + 6316 + 9 * (g 16).toNatClampNeg + (1170 - 9 * (g 16).toNatClampNeg) ≤ x) ∧ (x < m + 78 ∨ m + 78 + 1 ≤ x) ∧ (x < m + 276 + 2 * (g 1).toNatClampNeg ∨ m + 276 + 2 * (g 1).toNatClampNeg + (320 - 2 * (g 1).toNatClampNeg) ≤ x) ∧ (x < m + 596 + 130 * (g 3).toNatClampNeg ∨ m + 596 + 130 * (g 3).toNatClampNeg + (5720 - 130 * (g 3).toNatClampNeg) ≤ x) ∧ (x < m + 3 ∨ m + 3 + 1 ≤ x) ∧ (x < m + 5 ∨ m + 5 + 64 ≤ x) → w151 x = w x := fun x hx => ((heq151 x (by omega)).trans ((heq145 x (zx_X16_valueW_1 hx.1)).trans ((heq125 x hx.1).trans ((heq119 x (by omega)).trans ((heq114 x (zx_X16_valueW_1 hx.1)).trans ((heq98 x hx.1).trans ((heqL97 x ⟨⟨hx.1, hx.2.1, hx.2.2.1, hx.2.2.2.1, hx.2.2.2.2.1, hx.2.2.2.2.2.1, hx.2.2.2.2.2.2⟩, (zx_X16_valueW_1 hx.1)⟩).trans ((heq6 x hx.1).trans (heq1 x ⟨hx.1, hx.2.1, hx.2.2.1, hx.2.2.2.1, hx.2.2.2.2.1, hx.2.2.2.2.2.1, hx.2.2.2.2.2.2⟩)))))))))
        refine zr_retA (by decide +kernel) rfl ?_
        rw [← hPost]; exact ⟨rfl, Or.inl ⟨_, rfl, A9_119, v145, A9_125, B9_125, C9_125, K9_151, ((((((((hsi1.tr hsi6).tr hsiL97).tr hsi98).tr hsi114).tr hsi119).tr hsi125).tr hsi145).tr hsi151), hoffend, hM151, (by first | exact hp151_1 | (have z9 := hp151_1; simpa using z9)), hp151_3, (by
              first | exact ⟨hcN.1, by omega, by omega, by omega⟩ | exact ⟨hp151_2, by omega, by omega, by omega⟩), rfl⟩⟩
      ·
        replace cc128 := Classical.not_not.mp cc128
        have f43 := zeqI cc128
        rw [show (0 : Int32).toInt = 0 from by decide] at f43
        refine zp_seg (pc' := 134) (lv' := [(3, .ref (m + 6316 + 9 * cQ.toNatClampNeg)), (2, .int A9_98), (0, .ref m), (1, .ref (m + 6316 + 9 * (g 16).toNatClampNeg))]) (st' := [.int A9_98, .int 2, .ref m]) [(131, .aload_n 0), (132, .iconst 2), (133, .iload_n 2)] (by decide +kernel) rfl ?_
        have hb44 := hb31.si hsi125
        refine zr_callV (idx := 346) (j := 318) (by decide +kernel) (by decide +kernel) (show zMe 318 = some zq_X16_fail from rfl) rfl rfl (Nat.le_of_ble_eq_true rfl) rfl rfl hM125 (Nat.le_of_ble_eq_true rfl) (Nat.le_of_ble_eq_true rfl) (c_X16_fail (w := w125) m 2 A9_98 hM125 hb44) (by omega) (fun v134 w134 hp134 => ?_)
        obtain ⟨hsi134, heq134, hp134_0, rfl⟩ := hp134
        have hM134 : w134 m = some (.inl (15, zMo m (zs (zs (zs (zs (zs (zs (zs g 9 2) 10 A9_98) 13 A9_119) 16 Q9_119) 17 A9_125) 18 B9_125) 19 C9_125) r)) := hp134_0
        show zP _ _ _ _ [.ref (m + 79)] _ _ _ _ _
        have hb45 := hb44.si hsi134
        obtain ⟨fs9, hst9⟩ := hb45.stop
        refine zr_thr (by decide +kernel) hst9 ?_
        have hb46 : zPil w134 (m + 6316) := hp119_2.ag (fun x hx1 hx2 => ((heq134 x (zx_X16_valueW_2 hx1 hx2)).trans (heq125 x (zx_X16_valueW_2 hx1 hx2))))
        rw [← hPost]; exact ⟨rfl, Or.inr ⟨rfl, (zs (zs (zs (zs (zs (zs (zs g 9 2) 10 A9_98) 13 A9_119) 16 Q9_119) 17 A9_125) 18 B9_125) 19 C9_125), (((((((hsi1.tr hsi6).tr hsiL97).tr hsi98).tr hsi114).tr hsi119).tr hsi125).tr hsi134), (fun x hx => ((heq134 x hx.1).trans ((heq125 x hx.1).trans ((heq119 x (by omega)).trans ((heq114 x (zx_X16_valueW_1 hx.1)).trans ((heq98 x hx.1).trans ((heqL97 x ⟨⟨hx.1, hx.2.1, hx.2.2.1, hx.2.2.2.1, hx.2.2.2.2.1, hx.2.2.2.2.2.1, hx.2.2.2.2.2.2⟩, (zx_X16_valueW_1 hx.1)⟩).trans ((heq6 x hx.1).trans (heq1 x ⟨hx.1, hx.2.1, hx.2.2.1, hx.2.2.2.1, hx.2.2.2.2.1, hx.2.2.2.2.2.1, hx.2.2.2.2.2.2⟩))))))))), hM134, (by
              first | exact hx9_1 | exact ⟨rfl, rfl, rfl, rfl⟩), hb46⟩⟩
  refine zp_if (i := .if_icmp .ne 86) (c := ¬ r6 = 33) (t := 97) (e := 14) (lv' := [(1, .ref (m + 6316 + 9 * (g 16).toNatClampNeg)), (0, .ref m)]) (st' := []) (by decide +kernel) rfl (fun cc11 => ?_) (fun cc11 => ?_)
  ·
    have f48 := zneI cc11
    rw [show (33 : Int32).toInt = 33 from by decide] at f48
    have hb49 : zTi w6 (m + 6316 + 9 * (g 16).toNatClampNeg) K9_1 := hp1_1.ag (fun x hx1 hx2 => (heq6 x (by omega)))
    have hb50 : zPil w6 (m + 6316) := hp1_2.ag (fun x hx1 hx2 => (heq6 x (zx_X16_valueW_2 hx1 hx2)))
    exact (hJ97 w6 (A9_6) (Q9_1) (X9_1) (Y9_1) (Z9_1) (K9_1) zSI.rf (fun _ _ => rfl) (by
          exact hM6) hb49 hb50 (by
          first | exact ⟨hp1_3.1, by omega, by omega, by omega⟩ | exact ⟨hp94_1, by omega, by omega, by omega⟩)).more (zfa1 rfl (zfa1 rfl (zfa0)))
  ·
    replace cc11 := Classical.not_not.mp cc11
    have f52 := zeqI cc11
    rw [show (33 : Int32).toInt = 33 from by decide] at f52
    obtain ⟨P9, hP9⟩ : ∃ P, P = (A9_6).toNatClampNeg := ⟨_, rfl⟩
    have hzP : (P9 : Int) = (A9_6).toInt := by rw [hP9]; exact znat (by omega)
    obtain ⟨hq1, hq2⟩ : P9 < (g 12).toNatClampNeg ∧ zDep ft (P9 + 1) = zDep ft P9 := by
      rw [hP9]
      first
      | exact zChr_p (hr6.symm.trans cc11) (by decide) (by decide) (by decide)
    have hq0 : zDep ft P9 = zDep ft (A9_6).toNatClampNeg := by rw [hP9]
    refine zp_seg (pc' := 16) (lv' := [(1, .ref (m + 6316 + 9 * (g 16).toNatClampNeg)), (0, .ref m)]) (st' := [.ref m, .ref m]) [(14, .aload_n 0), (15, .dup)] (by decide +kernel) rfl ?_
    refine zr_get (idx := 334) (k := 13) (v := .int A9_6) (by decide +kernel) (by decide +kernel) hM6 rfl ?_
    refine zp_seg (pc' := 22) (lv' := [(1, .ref (m + 6316 + 9 * (g 16).toNatClampNeg)), (0, .ref m)]) (st' := [.int (A9_6 + 1), .ref m, .int A9_6]) [(19, .dup_x1), (20, .iconst 1), (21, .iadd)] (by decide +kernel) rfl ?_
    have k53 := zrng A9_6
    have k54 := zaddC A9_6 1 (n := 1) (by decide) (by omega) (by omega)
    generalize ev22 : (A9_6 + 1 : Int32) = v22 at k54 ⊢
    have kv22 := zrng v22
    refine zr_put2 (idx := 334) (k := 13) (fs2 := zMo m (zs (zs (zs (zs (zs g 13 v22) 16 Q9_1) 17 X9_1) 18 Y9_1) 19 Z9_1) r) (by decide +kernel) (by decide +kernel) hM6 (Nat.le_of_ble_eq_true rfl) rfl rfl rfl ?_
    show zP (d + 1) zq_X16_valueW 25 [(1, .ref (m + 6316 + 9 * (g 16).toNatClampNeg)), (0, .ref m)] [.int A9_6] (zup w6 m (.inl (15, zMo m (zs (zs (zs (zs (zs g 13 v22) 16 Q9_1) 17 X9_1) 18 Y9_1) 19 Z9_1) r))) sz 0 0 Post
    obtain ⟨w22, ew22⟩ : ∃ wz9, wz9 = zup w6 m (.inl (15, zMo m (zs (zs (zs (zs (zs g 13 v22) 16 Q9_1) 17 X9_1) 18 Y9_1) 19 Z9_1) r)) := ⟨_, rfl⟩
    have hsi22 : zSI w6 w22 := by rw [ew22]; exact zSI.setG hM6 _ _
    have heq22 : ∀ x, x ≠ m → w22 x = w6 x := fun x hx => by rw [ew22]; exact zup_n hx
    have hc22 : w22 m = some (.inl (15, zMo m (zs (zs (zs (zs (zs g 13 v22) 16 Q9_1) 17 X9_1) 18 Y9_1) 19 Z9_1) r)) := by rw [ew22]; exact zup_s
    rw [← ew22]
    clear ew22
    refine zp_seg (pc' := 26) (lv' := [(2, .int A9_6), (1, .ref (m + 6316 + 9 * (g 16).toNatClampNeg)), (0, .ref m)]) (st' := []) [(25, .istore_n 2)] (by decide +kernel) rfl ?_
    have hz9 := znat (x := v22) (by omega)
    have hq3 : zDep ft (v22).toNatClampNeg = zDep ft P9 := by rw [show (v22).toNatClampNeg = P9 + 1 by omega]; exact hq2
    have hb55 : zTi w22 (m + 6316 + 9 * (g 16).toNatClampNeg) K9_1 := hp1_1.ag (fun x hx1 hx2 => ((heq22 x (by omega)).trans (heq6 x (by omega))))
    obtain ⟨g1, fn1, fd1, fa1, fb1, fc1, fe1, fr1, fu1, hT1, hAn1, hAd1, hAa1, hAb1, hAc1, hAe1, hAr1, hAu1, hK1⟩ := id hb55
    obtain ⟨hK10, hKn1, hKd1, hKx1, hKm1, hKl1, hKr1, hKu1, hKk1⟩ := id hK1
    refine zp_seg (pc' := 28) (lv' := [(2, .int A9_6), (1, .ref (m + 6316 + 9 * (g 16).toNatClampNeg)), (0, .ref m)]) (st' := [.ref (m + 6316 + 9 * (g 16).toNatClampNeg), .ref m]) [(26, .aload_n 0), (27, .aload_n 1)] (by decide +kernel) rfl ?_
    have hb56 := hb12.si (hsi6.tr hsi22)
    refine zr_callV (idx := 409) (j := 329) (by decide +kernel) (by decide +kernel) (show zMe 329 = some zq_X16_isLine from rfl) rfl rfl (Nat.le_of_ble_eq_true rfl) rfl rfl hc22 (Nat.le_of_ble_eq_true rfl) (Nat.le_of_ble_eq_true rfl) (c_X16_isLine (w := w22) m (m + 6316 + 9 * (g 16).toNatClampNeg) hc22 hb56 hT1 hAn1 hAd1 (by exact hKn1) (by first | omega | decide | assumption | exact zr1_1 | exact zr1_0 | fail "num")) (by omega) (fun v28 w28 hp28 => ?_)
    obtain ⟨A9_28, B9_28, C9_28, hsi28, heq28, hp28_0, r28, rfl, hrb28, hr28⟩ := hp28
    have hM28 : w28 m = some (.inl (15, zMo m (zs (zs (zs (zs (zs g 13 v22) 16 Q9_1) 17 A9_28) 18 B9_28) 19 C9_28) r)) := hp28_0
    have kr28 := zrng r28
    show zP _ _ _ _ [.int r28] _ _ _ _ _
    refine zp_if (i := .ifCond .ne 10) (c := ¬ r28 = 0) (t := 41) (e := 34) (lv' := [(2, .int A9_6), (1, .ref (m + 6316 + 9 * (g 16).toNatClampNeg)), (0, .ref m)]) (st' := []) (by decide +kernel) rfl (fun cc31 => ?_) (fun cc31 => ?_)
    ·
      have f58 := zneI cc31
      rw [show (0 : Int32).toInt = 0 from by decide] at f58
      have hln1 := (hr28 (hrb28.resolve_left cc31)).2
      refine zp_seg (pc' := 42) (lv' := [(2, .int A9_6), (1, .ref (m + 6316 + 9 * (g 16).toNatClampNeg)), (0, .ref m)]) (st' := [.ref m]) [(41, .aload_n 0)] (by decide +kernel) rfl ?_
      refine zr_get (idx := 393) (k := 17) (v := .int A9_28) (by decide +kernel) (by decide +kernel) hM28 rfl ?_
      refine zp_if (i := .ifCond .ne 24) (c := ¬ A9_28 = 0) (t := 69) (e := 48) (lv' := [(2, .int A9_6), (1, .ref (m + 6316 + 9 * (g 16).toNatClampNeg)), (0, .ref m)]) (st' := []) (by decide +kernel) rfl (fun cc45 => ?_) (fun cc45 => ?_)
      ·
        have k59 := zrng A9_28
        have f60 := zneI cc45
        rw [show (0 : Int32).toInt = 0 from by decide] at f60
        refine zp_seg (pc' := 72) (lv' := [(2, .int A9_6), (1, .ref (m + 6316 + 9 * (g 16).toNatClampNeg)), (0, .ref m)]) (st' := [.int 1, .ref (m + 6316 + 9 * (g 16).toNatClampNeg), .ref m]) [(69, .aload_n 0), (70, .aload_n 1), (71, .iconst 1)] (by decide +kernel) rfl ?_
        have hb61 := hb56.si hsi28
        have hb62 : zTi w28 (m + 6316 + 9 * (g 16).toNatClampNeg) K9_1 := hb55.ag (fun x hx1 hx2 => (heq28 x (by omega)))
        refine zr_callV (idx := 292) (j := 305) (by decide +kernel) (by decide +kernel) (show zMe 305 = some zq_X16_number from rfl) rfl rfl (Nat.le_of_ble_eq_true rfl) rfl rfl hM28 (Nat.le_of_ble_eq_true rfl) (Nat.le_of_ble_eq_true rfl) (c_X16_numberZ (w := w28) (g3 := (g 3)) m (m + 6316 + 9 * (g 16).toNatClampNeg) 1 hM28 hb61 hb62 (by first | omega | decide | assumption | exact zr1_1 | exact zr1_0 | fail "num") (by first | omega | decide | assumption | exact zr1_1 | exact zr1_0 | fail "num") (by first | omega | decide | assumption | exact zr1_1 | exact zr1_0 | fail "num") rfl) (by omega) (fun v72 w72 hp72 => ?_)
        obtain ⟨hsi72, heq72, hp72_0, hp72_1, rfl⟩ := hp72
        show zP _ _ _ _ [] _ _ _ _ _
        refine zp_seg (pc' := 78) (lv' := [(2, .int A9_6), (1, .ref (m + 6316 + 9 * (g 16).toNatClampNeg)), (0, .ref m)]) (st' := [.ref m, .ref (m + 6316 + 9 * (g 16).toNatClampNeg), .ref m]) [(75, .aload_n 0), (76, .aload_n 1), (77, .aload_n 0)] (by decide +kernel) rfl ?_
        have hb63 : w72 m = some (.inl (15, zMo m (zs (zs (zs (zs (zs g 13 v22) 16 Q9_1) 17 A9_28) 18 B9_28) 19 C9_28) r)) := (heq72 m (by omega)).trans hM28
        refine zr_get (idx := 393) (k := 17) (v := .int A9_28) (by decide +kernel) (by decide +kernel) hb63 rfl ?_
        refine zp_seg (pc' := 82) (lv' := [(2, .int A9_6), (1, .ref (m + 6316 + 9 * (g 16).toNatClampNeg)), (0, .ref m)]) (st' := [.ref m, .int A9_28, .ref (m + 6316 + 9 * (g 16).toNatClampNeg), .ref m]) [(81, .aload_n 0)] (by decide +kernel) rfl ?_
        refine zr_get (idx := 396) (k := 18) (v := .int B9_28) (by decide +kernel) (by decide +kernel) hb63 rfl ?_
        refine zp_seg (pc' := 86) (lv' := [(2, .int A9_6), (1, .ref (m + 6316 + 9 * (g 16).toNatClampNeg)), (0, .ref m)]) (st' := [.ref m, .int B9_28, .int A9_28, .ref (m + 6316 + 9 * (g 16).toNatClampNeg), .ref m]) [(85, .aload_n 0)] (by decide +kernel) rfl ?_
        refine zr_get (idx := 399) (k := 19) (v := .int C9_28) (by decide +kernel) (by decide +kernel) hb63 rfl ?_
        refine zp_seg (pc' := 90) (lv' := [(2, .int A9_6), (1, .ref (m + 6316 + 9 * (g 16).toNatClampNeg)), (0, .ref m)]) (st' := [.int 1, .int C9_28, .int B9_28, .int A9_28, .ref (m + 6316 + 9 * (g 16).toNatClampNeg), .ref m]) [(89, .iconst 1)] (by decide +kernel) rfl ?_
        have k64 := zrng B9_28
        have k65 := zrng C9_28
        refine zr_callV (idx := 411) (j := 331) (by decide +kernel) (by decide +kernel) (show zMe 331 = some zq_X16_factorial from rfl) rfl rfl (Nat.le_of_ble_eq_true rfl) rfl rfl hb63 (Nat.le_of_ble_eq_true rfl) (Nat.le_of_ble_eq_true rfl) (c_X16_factorial (w := w72) m (m + 6316 + 9 * (g 16).toNatClampNeg) A9_28 B9_28 C9_28 1 hp72_0 (by exact hp72_1 (by decide)) (by exact hln1.1) (by exact hln1.2.1) (by exact hln1.2.2)) (by omega) (fun v90 w90 hp90 => ?_)
        obtain ⟨hsi90, heq90, hp90_0, hp90_1, rfl⟩ := hp90
        show zP _ _ _ _ [] _ _ _ _ _
        obtain ⟨g3, fn3, fd3, fa3, fb3, fc3, fe3, fr3, fu3, hT3, hAn3, hAd3, hAa3, hAb3, hAc3, hAe3, hAr3, hAu3, hK3⟩ := id hp90_0
        obtain ⟨hK30, hKn3, hKd3, hKx3, hKm3, hKl3, hKr3, hKu3, hKk3⟩ := id hK3
        have hnn9 := zNz_of hp90_1 hAn3
        refine zp_seg (pc' := 94) (lv' := [(2, .int A9_6), (1, .ref (m + 6316 + 9 * (g 16).toNatClampNeg)), (0, .ref m)]) (st' := [.ref (m + 6316 + 9 * (g 16).toNatClampNeg)]) [(93, .aload_n 1)] (by decide +kernel) rfl ?_
        refine zr_callS (idx := 307) (j := 312) (by decide +kernel) (by decide +kernel) (by decide) (show zMe 312 = some zq_X16_name from rfl) rfl rfl (Nat.le_of_ble_eq_true rfl) rfl rfl (Nat.le_of_ble_eq_true rfl) (Nat.le_of_ble_eq_true rfl) (c_X16_name (w := w90) (m + 6316 + 9 * (g 16).toNatClampNeg) hT3) (by omega) (fun v94 w94 hp94 => ?_)
        obtain ⟨K9_94, hsi94, heq94, hp94_0, hp94_1, rfl⟩ := hp94
        have hT94 : w94 (m + 6316 + 9 * (g 16).toNatClampNeg) = some (.inl (13, zTo (m + 6316 + 9 * (g 16).toNatClampNeg) (zs g3 0 K9_94))) := hp94_0
        show zP _ _ _ _ [] _ _ _ _ _
        have hb66 : w94 (m + 6316 + 9 * (g 16).toNatClampNeg + 1) = some (.inr (0, 325, .inl fn3)) := (heq94 (m + 6316 + 9 * (g 16).toNatClampNeg + 1) (by omega)).trans hAn3
        have hb67 : w94 (m + 6316 + 9 * (g 16).toNatClampNeg + 2) = some (.inr (0, 325, .inl fd3)) := (heq94 (m + 6316 + 9 * (g 16).toNatClampNeg + 2) (by omega)).trans hAd3
        have hb68 : w94 (m + 6316 + 9 * (g 16).toNatClampNeg + 3) = some (.inr (0, 13, .inl fa3)) := (heq94 (m + 6316 + 9 * (g 16).toNatClampNeg + 3) (by omega)).trans hAa3
        have hb69 : w94 (m + 6316 + 9 * (g 16).toNatClampNeg + 4) = some (.inr (0, 13, .inl fb3)) := (heq94 (m + 6316 + 9 * (g 16).toNatClampNeg + 4) (by omega)).trans hAb3
        have hb70 : w94 (m + 6316 + 9 * (g 16).toNatClampNeg + 5) = some (.inr (0, 13, .inl fc3)) := (heq94 (m + 6316 + 9 * (g 16).toNatClampNeg + 5) (by omega)).trans hAc3
        have hb71 : w94 (m + 6316 + 9 * (g 16).toNatClampNeg + 6) = some (.inr (0, 13, .inl fe3)) := (heq94 (m + 6316 + 9 * (g 16).toNatClampNeg + 6) (by omega)).trans hAe3
        have hb72 : w94 (m + 6316 + 9 * (g 16).toNatClampNeg + 7) = some (.inr (0, 175, .inl fr3)) := (heq94 (m + 6316 + 9 * (g 16).toNatClampNeg + 7) (by omega)).trans hAr3
        have hb73 : w94 (m + 6316 + 9 * (g 16).toNatClampNeg + 8) = some (.inr (0, 361, .inl fu3)) := (heq94 (m + 6316 + 9 * (g 16).toNatClampNeg + 8) (by omega)).trans hAu3
        have hTi9 : zTi w94 (m + 6316 + 9 * (g 16).toNatClampNeg) K9_94 := ⟨_, _, _, _, _, _, _, _, _, hT94, hb66, hb67, hb68, hb69, hb70, hb71, hb72, hb73, ⟨rfl, hKn3, hKd3, hKx3, hKm3, hKl3, hKr3, hKu3, zKk_12 hp94_1 (hKk3.2.1 (Or.inl rfl)) (fun _ => hnn9) (hKk3.2.2.2.1 (Or.inl rfl))⟩⟩
        have hPl97 := hp1_2.up (w' := w94) (g 16).toNatClampNeg hTi9 (fun x h1 h2 h3 => ((heq94 x (by omega)).trans ((heq90 x (by omega)).trans ((heq72 x (by omega)).trans ((heq28 x (by omega)).trans ((heq22 x (by omega)).trans (heq6 x (by omega))))))))
        have hb74 : w94 m = some (.inl (15, zMo m (zs (zs (zs (zs (zs g 13 v22) 16 Q9_1) 17 A9_28) 18 B9_28) 19 C9_28) r)) := ((heq94 m (by omega)).trans (heq90 m (by omega))).trans hb63
        exact (hJ97 w94 (v22) (Q9_1) (A9_28) (B9_28) (C9_28) (K9_94) ((((hsi22.tr hsi28).tr hsi72).tr hsi90).tr hsi94) (fun x hx => ((heq94 x (by omega)).trans ((heq90 x (by omega)).trans ((heq72 x (by omega)).trans ((heq28 x hx.1.1).trans (heq22 x hx.2)))))) (by
              exact hb74) hTi9 hPl97 (by
              first | exact ⟨hp1_3.1, by omega, by omega, by omega⟩ | exact ⟨hp94_1, by omega, by omega, by omega⟩)).more (zfa1 rfl (zfa1 rfl (zfa0)))
      ·
        replace cc45 := Classical.not_not.mp cc45
        have k75 := zrng A9_28
        have f76 := zeqI cc45
        rw [show (0 : Int32).toInt = 0 from by decide] at f76
        refine zp_seg (pc' := 49) (lv' := [(2, .int A9_6), (1, .ref (m + 6316 + 9 * (g 16).toNatClampNeg)), (0, .ref m)]) (st' := [.ref m]) [(48, .aload_n 0)] (by decide +kernel) rfl ?_
        refine zr_get (idx := 396) (k := 18) (v := .int B9_28) (by decide +kernel) (by decide +kernel) hM28 rfl ?_
        refine zp_if (i := .ifCond .ne 17) (c := ¬ B9_28 = 0) (t := 69) (e := 55) (lv' := [(2, .int A9_6), (1, .ref (m + 6316 + 9 * (g 16).toNatClampNeg)), (0, .ref m)]) (st' := []) (by decide +kernel) rfl (fun cc52 => ?_) (fun cc52 => ?_)
        ·
          have k77 := zrng B9_28
          have f78 := zneI cc52
          rw [show (0 : Int32).toInt = 0 from by decide] at f78
          refine zp_seg (pc' := 72) (lv' := [(2, .int A9_6), (1, .ref (m + 6316 + 9 * (g 16).toNatClampNeg)), (0, .ref m)]) (st' := [.int 1, .ref (m + 6316 + 9 * (g 16).toNatClampNeg), .ref m]) [(69, .aload_n 0), (70, .aload_n 1), (71, .iconst 1)] (by decide +kernel) rfl ?_
          have hb79 := hb56.si hsi28
          have hb80 : zTi w28 (m + 6316 + 9 * (g 16).toNatClampNeg) K9_1 := hb55.ag (fun x hx1 hx2 => (heq28 x (by omega)))
          refine zr_callV (idx := 292) (j := 305) (by decide +kernel) (by decide +kernel) (show zMe 305 = some zq_X16_number from rfl) rfl rfl (Nat.le_of_ble_eq_true rfl) rfl rfl hM28 (Nat.le_of_ble_eq_true rfl) (Nat.le_of_ble_eq_true rfl) (c_X16_numberZ (w := w28) (g3 := (g 3)) m (m + 6316 + 9 * (g 16).toNatClampNeg) 1 hM28 hb79 hb80 (by first | omega | decide | assumption | exact zr1_1 | exact zr1_0 | fail "num") (by first | omega | decide | assumption | exact zr1_1 | exact zr1_0 | fail "num") (by first | omega | decide | assumption | exact zr1_1 | exact zr1_0 | fail "num") rfl) (by omega) (fun v72 w72 hp72 => ?_)
          obtain ⟨hsi72, heq72, hp72_0, hp72_1, rfl⟩ := hp72
          show zP _ _ _ _ [] _ _ _ _ _
          refine zp_seg (pc' := 78) (lv' := [(2, .int A9_6), (1, .ref (m + 6316 + 9 * (g 16).toNatClampNeg)), (0, .ref m)]) (st' := [.ref m, .ref (m + 6316 + 9 * (g 16).toNatClampNeg), .ref m]) [(75, .aload_n 0), (76, .aload_n 1), (77, .aload_n 0)] (by decide +kernel) rfl ?_
          have hb81 : w72 m = some (.inl (15, zMo m (zs (zs (zs (zs (zs g 13 v22) 16 Q9_1) 17 A9_28) 18 B9_28) 19 C9_28) r)) := (heq72 m (by omega)).trans hM28
          refine zr_get (idx := 393) (k := 17) (v := .int A9_28) (by decide +kernel) (by decide +kernel) hb81 rfl ?_
          refine zp_seg (pc' := 82) (lv' := [(2, .int A9_6), (1, .ref (m + 6316 + 9 * (g 16).toNatClampNeg)), (0, .ref m)]) (st' := [.ref m, .int A9_28, .ref (m + 6316 + 9 * (g 16).toNatClampNeg), .ref m]) [(81, .aload_n 0)] (by decide +kernel) rfl ?_
          refine zr_get (idx := 396) (k := 18) (v := .int B9_28) (by decide +kernel) (by decide +kernel) hb81 rfl ?_
          refine zp_seg (pc' := 86) (lv' := [(2, .int A9_6), (1, .ref (m + 6316 + 9 * (g 16).toNatClampNeg)), (0, .ref m)]) (st' := [.ref m, .int B9_28, .int A9_28, .ref (m + 6316 + 9 * (g 16).toNatClampNeg), .ref m]) [(85, .aload_n 0)] (by decide +kernel) rfl ?_
          refine zr_get (idx := 399) (k := 19) (v := .int C9_28) (by decide +kernel) (by decide +kernel) hb81 rfl ?_
          refine zp_seg (pc' := 90) (lv' := [(2, .int A9_6), (1, .ref (m + 6316 + 9 * (g 16).toNatClampNeg)), (0, .ref m)]) (st' := [.int 1, .int C9_28, .int B9_28, .int A9_28, .ref (m + 6316 + 9 * (g 16).toNatClampNeg), .ref m]) [(89, .iconst 1)] (by decide +kernel) rfl ?_
          have k82 := zrng C9_28
          refine zr_callV (idx := 411) (j := 331) (by decide +kernel) (by decide +kernel) (show zMe 331 = some zq_X16_factorial from rfl) rfl rfl (Nat.le_of_ble_eq_true rfl) rfl rfl hb81 (Nat.le_of_ble_eq_true rfl) (Nat.le_of_ble_eq_true rfl) (c_X16_factorial (w := w72) m (m + 6316 + 9 * (g 16).toNatClampNeg) A9_28 B9_28 C9_28 1 hp72_0 (by exact hp72_1 (by decide)) (by exact hln1.1) (by exact hln1.2.1) (by exact hln1.2.2)) (by omega) (fun v90 w90 hp90 => ?_)
          obtain ⟨hsi90, heq90, hp90_0, hp90_1, rfl⟩ := hp90
          show zP _ _ _ _ [] _ _ _ _ _
          obtain ⟨g3, fn3, fd3, fa3, fb3, fc3, fe3, fr3, fu3, hT3, hAn3, hAd3, hAa3, hAb3, hAc3, hAe3, hAr3, hAu3, hK3⟩ := id hp90_0
          obtain ⟨hK30, hKn3, hKd3, hKx3, hKm3, hKl3, hKr3, hKu3, hKk3⟩ := id hK3
          have hnn9 := zNz_of hp90_1 hAn3
          refine zp_seg (pc' := 94) (lv' := [(2, .int A9_6), (1, .ref (m + 6316 + 9 * (g 16).toNatClampNeg)), (0, .ref m)]) (st' := [.ref (m + 6316 + 9 * (g 16).toNatClampNeg)]) [(93, .aload_n 1)] (by decide +kernel) rfl ?_
          refine zr_callS (idx := 307) (j := 312) (by decide +kernel) (by decide +kernel) (by decide) (show zMe 312 = some zq_X16_name from rfl) rfl rfl (Nat.le_of_ble_eq_true rfl) rfl rfl (Nat.le_of_ble_eq_true rfl) (Nat.le_of_ble_eq_true rfl) (c_X16_name (w := w90) (m + 6316 + 9 * (g 16).toNatClampNeg) hT3) (by omega) (fun v94 w94 hp94 => ?_)
          obtain ⟨K9_94, hsi94, heq94, hp94_0, hp94_1, rfl⟩ := hp94
          have hT94 : w94 (m + 6316 + 9 * (g 16).toNatClampNeg) = some (.inl (13, zTo (m + 6316 + 9 * (g 16).toNatClampNeg) (zs g3 0 K9_94))) := hp94_0
          show zP _ _ _ _ [] _ _ _ _ _
          have hb83 : w94 (m + 6316 + 9 * (g 16).toNatClampNeg + 1) = some (.inr (0, 325, .inl fn3)) := (heq94 (m + 6316 + 9 * (g 16).toNatClampNeg + 1) (by omega)).trans hAn3
          have hb84 : w94 (m + 6316 + 9 * (g 16).toNatClampNeg + 2) = some (.inr (0, 325, .inl fd3)) := (heq94 (m + 6316 + 9 * (g 16).toNatClampNeg + 2) (by omega)).trans hAd3
          have hb85 : w94 (m + 6316 + 9 * (g 16).toNatClampNeg + 3) = some (.inr (0, 13, .inl fa3)) := (heq94 (m + 6316 + 9 * (g 16).toNatClampNeg + 3) (by omega)).trans hAa3
          have hb86 : w94 (m + 6316 + 9 * (g 16).toNatClampNeg + 4) = some (.inr (0, 13, .inl fb3)) := (heq94 (m + 6316 + 9 * (g 16).toNatClampNeg + 4) (by omega)).trans hAb3
          have hb87 : w94 (m + 6316 + 9 * (g 16).toNatClampNeg + 5) = some (.inr (0, 13, .inl fc3)) := (heq94 (m + 6316 + 9 * (g 16).toNatClampNeg + 5) (by omega)).trans hAc3
          have hb88 : w94 (m + 6316 + 9 * (g 16).toNatClampNeg + 6) = some (.inr (0, 13, .inl fe3)) := (heq94 (m + 6316 + 9 * (g 16).toNatClampNeg + 6) (by omega)).trans hAe3
          have hb89 : w94 (m + 6316 + 9 * (g 16).toNatClampNeg + 7) = some (.inr (0, 175, .inl fr3)) := (heq94 (m + 6316 + 9 * (g 16).toNatClampNeg + 7) (by omega)).trans hAr3
          have hb90 : w94 (m + 6316 + 9 * (g 16).toNatClampNeg + 8) = some (.inr (0, 361, .inl fu3)) := (heq94 (m + 6316 + 9 * (g 16).toNatClampNeg + 8) (by omega)).trans hAu3
          have hTi9 : zTi w94 (m + 6316 + 9 * (g 16).toNatClampNeg) K9_94 := ⟨_, _, _, _, _, _, _, _, _, hT94, hb83, hb84, hb85, hb86, hb87, hb88, hb89, hb90, ⟨rfl, hKn3, hKd3, hKx3, hKm3, hKl3, hKr3, hKu3, zKk_12 hp94_1 (hKk3.2.1 (Or.inl rfl)) (fun _ => hnn9) (hKk3.2.2.2.1 (Or.inl rfl))⟩⟩
          have hPl97 := hp1_2.up (w' := w94) (g 16).toNatClampNeg hTi9 (fun x h1 h2 h3 => ((heq94 x (by omega)).trans ((heq90 x (by omega)).trans ((heq72 x (by omega)).trans ((heq28 x (by omega)).trans ((heq22 x (by omega)).trans (heq6 x (by omega))))))))
          have hb91 : w94 m = some (.inl (15, zMo m (zs (zs (zs (zs (zs g 13 v22) 16 Q9_1) 17 A9_28) 18 B9_28) 19 C9_28) r)) := ((heq94 m (by omega)).trans (heq90 m (by omega))).trans hb81
          exact (hJ97 w94 (v22) (Q9_1) (A9_28) (B9_28) (C9_28) (K9_94) ((((hsi22.tr hsi28).tr hsi72).tr hsi90).tr hsi94) (fun x hx => ((heq94 x (by omega)).trans ((heq90 x (by omega)).trans ((heq72 x (by omega)).trans ((heq28 x hx.1.1).trans (heq22 x hx.2)))))) (by
                exact hb91) hTi9 hPl97 (by
                first | exact ⟨hp1_3.1, by omega, by omega, by omega⟩ | exact ⟨hp94_1, by omega, by omega, by omega⟩)).more (zfa1 rfl (zfa1 rfl (zfa0)))
        ·
          replace cc52 := Classical.not_not.mp cc52
          have k92 := zrng B9_28
          have f93 := zeqI cc52
          rw [show (0 : Int32).toInt = 0 from by decide] at f93
          refine zp_seg (pc' := 56) (lv' := [(2, .int A9_6), (1, .ref (m + 6316 + 9 * (g 16).toNatClampNeg)), (0, .ref m)]) (st' := [.ref m]) [(55, .aload_n 0)] (by decide +kernel) rfl ?_
          refine zr_get (idx := 399) (k := 19) (v := .int C9_28) (by decide +kernel) (by decide +kernel) hM28 rfl ?_
          refine zp_if (i := .ifCond .ge 10) (c := 0 ≤ C9_28) (t := 69) (e := 62) (lv' := [(2, .int A9_6), (1, .ref (m + 6316 + 9 * (g 16).toNatClampNeg)), (0, .ref m)]) (st' := []) (by decide +kernel) rfl (fun cc59 => ?_) (fun cc59 => ?_)
          ·
            have k94 := zrng C9_28
            have f95 := zleI cc59
            rw [show (0 : Int32).toInt = 0 from by decide] at f95
            refine zp_seg (pc' := 72) (lv' := [(2, .int A9_6), (1, .ref (m + 6316 + 9 * (g 16).toNatClampNeg)), (0, .ref m)]) (st' := [.int 1, .ref (m + 6316 + 9 * (g 16).toNatClampNeg), .ref m]) [(69, .aload_n 0), (70, .aload_n 1), (71, .iconst 1)] (by decide +kernel) rfl ?_
            have hb96 := hb56.si hsi28
            have hb97 : zTi w28 (m + 6316 + 9 * (g 16).toNatClampNeg) K9_1 := hb55.ag (fun x hx1 hx2 => (heq28 x (by omega)))
            refine zr_callV (idx := 292) (j := 305) (by decide +kernel) (by decide +kernel) (show zMe 305 = some zq_X16_number from rfl) rfl rfl (Nat.le_of_ble_eq_true rfl) rfl rfl hM28 (Nat.le_of_ble_eq_true rfl) (Nat.le_of_ble_eq_true rfl) (c_X16_numberZ (w := w28) (g3 := (g 3)) m (m + 6316 + 9 * (g 16).toNatClampNeg) 1 hM28 hb96 hb97 (by first | omega | decide | assumption | exact zr1_1 | exact zr1_0 | fail "num") (by first | omega | decide | assumption | exact zr1_1 | exact zr1_0 | fail "num") (by first | omega | decide | assumption | exact zr1_1 | exact zr1_0 | fail "num") rfl) (by omega) (fun v72 w72 hp72 => ?_)
            obtain ⟨hsi72, heq72, hp72_0, hp72_1, rfl⟩ := hp72
            show zP _ _ _ _ [] _ _ _ _ _
            refine zp_seg (pc' := 78) (lv' := [(2, .int A9_6), (1, .ref (m + 6316 + 9 * (g 16).toNatClampNeg)), (0, .ref m)]) (st' := [.ref m, .ref (m + 6316 + 9 * (g 16).toNatClampNeg), .ref m]) [(75, .aload_n 0), (76, .aload_n 1), (77, .aload_n 0)] (by decide +kernel) rfl ?_
            have hb98 : w72 m = some (.inl (15, zMo m (zs (zs (zs (zs (zs g 13 v22) 16 Q9_1) 17 A9_28) 18 B9_28) 19 C9_28) r)) := (heq72 m (by omega)).trans hM28
            refine zr_get (idx := 393) (k := 17) (v := .int A9_28) (by decide +kernel) (by decide +kernel) hb98 rfl ?_
            refine zp_seg (pc' := 82) (lv' := [(2, .int A9_6), (1, .ref (m + 6316 + 9 * (g 16).toNatClampNeg)), (0, .ref m)]) (st' := [.ref m, .int A9_28, .ref (m + 6316 + 9 * (g 16).toNatClampNeg), .ref m]) [(81, .aload_n 0)] (by decide +kernel) rfl ?_
            refine zr_get (idx := 396) (k := 18) (v := .int B9_28) (by decide +kernel) (by decide +kernel) hb98 rfl ?_
            refine zp_seg (pc' := 86) (lv' := [(2, .int A9_6), (1, .ref (m + 6316 + 9 * (g 16).toNatClampNeg)), (0, .ref m)]) (st' := [.ref m, .int B9_28, .int A9_28, .ref (m + 6316 + 9 * (g 16).toNatClampNeg), .ref m]) [(85, .aload_n 0)] (by decide +kernel) rfl ?_
            refine zr_get (idx := 399) (k := 19) (v := .int C9_28) (by decide +kernel) (by decide +kernel) hb98 rfl ?_
            refine zp_seg (pc' := 90) (lv' := [(2, .int A9_6), (1, .ref (m + 6316 + 9 * (g 16).toNatClampNeg)), (0, .ref m)]) (st' := [.int 1, .int C9_28, .int B9_28, .int A9_28, .ref (m + 6316 + 9 * (g 16).toNatClampNeg), .ref m]) [(89, .iconst 1)] (by decide +kernel) rfl ?_
            refine zr_callV (idx := 411) (j := 331) (by decide +kernel) (by decide +kernel) (show zMe 331 = some zq_X16_factorial from rfl) rfl rfl (Nat.le_of_ble_eq_true rfl) rfl rfl hb98 (Nat.le_of_ble_eq_true rfl) (Nat.le_of_ble_eq_true rfl) (c_X16_factorial (w := w72) m (m + 6316 + 9 * (g 16).toNatClampNeg) A9_28 B9_28 C9_28 1 hp72_0 (by exact hp72_1 (by decide)) (by exact hln1.1) (by exact hln1.2.1) (by exact hln1.2.2)) (by omega) (fun v90 w90 hp90 => ?_)
            obtain ⟨hsi90, heq90, hp90_0, hp90_1, rfl⟩ := hp90
            show zP _ _ _ _ [] _ _ _ _ _
            obtain ⟨g3, fn3, fd3, fa3, fb3, fc3, fe3, fr3, fu3, hT3, hAn3, hAd3, hAa3, hAb3, hAc3, hAe3, hAr3, hAu3, hK3⟩ := id hp90_0
            obtain ⟨hK30, hKn3, hKd3, hKx3, hKm3, hKl3, hKr3, hKu3, hKk3⟩ := id hK3
            have hnn9 := zNz_of hp90_1 hAn3
            refine zp_seg (pc' := 94) (lv' := [(2, .int A9_6), (1, .ref (m + 6316 + 9 * (g 16).toNatClampNeg)), (0, .ref m)]) (st' := [.ref (m + 6316 + 9 * (g 16).toNatClampNeg)]) [(93, .aload_n 1)] (by decide +kernel) rfl ?_
            refine zr_callS (idx := 307) (j := 312) (by decide +kernel) (by decide +kernel) (by decide) (show zMe 312 = some zq_X16_name from rfl) rfl rfl (Nat.le_of_ble_eq_true rfl) rfl rfl (Nat.le_of_ble_eq_true rfl) (Nat.le_of_ble_eq_true rfl) (c_X16_name (w := w90) (m + 6316 + 9 * (g 16).toNatClampNeg) hT3) (by omega) (fun v94 w94 hp94 => ?_)
            obtain ⟨K9_94, hsi94, heq94, hp94_0, hp94_1, rfl⟩ := hp94
            have hT94 : w94 (m + 6316 + 9 * (g 16).toNatClampNeg) = some (.inl (13, zTo (m + 6316 + 9 * (g 16).toNatClampNeg) (zs g3 0 K9_94))) := hp94_0
            show zP _ _ _ _ [] _ _ _ _ _
            have hb99 : w94 (m + 6316 + 9 * (g 16).toNatClampNeg + 1) = some (.inr (0, 325, .inl fn3)) := (heq94 (m + 6316 + 9 * (g 16).toNatClampNeg + 1) (by omega)).trans hAn3
            have hb100 : w94 (m + 6316 + 9 * (g 16).toNatClampNeg + 2) = some (.inr (0, 325, .inl fd3)) := (heq94 (m + 6316 + 9 * (g 16).toNatClampNeg + 2) (by omega)).trans hAd3
            have hb101 : w94 (m + 6316 + 9 * (g 16).toNatClampNeg + 3) = some (.inr (0, 13, .inl fa3)) := (heq94 (m + 6316 + 9 * (g 16).toNatClampNeg + 3) (by omega)).trans hAa3
            have hb102 : w94 (m + 6316 + 9 * (g 16).toNatClampNeg + 4) = some (.inr (0, 13, .inl fb3)) := (heq94 (m + 6316 + 9 * (g 16).toNatClampNeg + 4) (by omega)).trans hAb3
            have hb103 : w94 (m + 6316 + 9 * (g 16).toNatClampNeg + 5) = some (.inr (0, 13, .inl fc3)) := (heq94 (m + 6316 + 9 * (g 16).toNatClampNeg + 5) (by omega)).trans hAc3
            have hb104 : w94 (m + 6316 + 9 * (g 16).toNatClampNeg + 6) = some (.inr (0, 13, .inl fe3)) := (heq94 (m + 6316 + 9 * (g 16).toNatClampNeg + 6) (by omega)).trans hAe3
            have hb105 : w94 (m + 6316 + 9 * (g 16).toNatClampNeg + 7) = some (.inr (0, 175, .inl fr3)) := (heq94 (m + 6316 + 9 * (g 16).toNatClampNeg + 7) (by omega)).trans hAr3
            have hb106 : w94 (m + 6316 + 9 * (g 16).toNatClampNeg + 8) = some (.inr (0, 361, .inl fu3)) := (heq94 (m + 6316 + 9 * (g 16).toNatClampNeg + 8) (by omega)).trans hAu3
            have hTi9 : zTi w94 (m + 6316 + 9 * (g 16).toNatClampNeg) K9_94 := ⟨_, _, _, _, _, _, _, _, _, hT94, hb99, hb100, hb101, hb102, hb103, hb104, hb105, hb106, ⟨rfl, hKn3, hKd3, hKx3, hKm3, hKl3, hKr3, hKu3, zKk_12 hp94_1 (hKk3.2.1 (Or.inl rfl)) (fun _ => hnn9) (hKk3.2.2.2.1 (Or.inl rfl))⟩⟩
            have hPl97 := hp1_2.up (w' := w94) (g 16).toNatClampNeg hTi9 (fun x h1 h2 h3 => ((heq94 x (by omega)).trans ((heq90 x (by omega)).trans ((heq72 x (by omega)).trans ((heq28 x (by omega)).trans ((heq22 x (by omega)).trans (heq6 x (by omega))))))))
            have hb107 : w94 m = some (.inl (15, zMo m (zs (zs (zs (zs (zs g 13 v22) 16 Q9_1) 17 A9_28) 18 B9_28) 19 C9_28) r)) := ((heq94 m (by omega)).trans (heq90 m (by omega))).trans hb98
            exact (hJ97 w94 (v22) (Q9_1) (A9_28) (B9_28) (C9_28) (K9_94) ((((hsi22.tr hsi28).tr hsi72).tr hsi90).tr hsi94) (fun x hx => ((heq94 x (by omega)).trans ((heq90 x (by omega)).trans ((heq72 x (by omega)).trans ((heq28 x hx.1.1).trans (heq22 x hx.2)))))) (by
                  exact hb107) hTi9 hPl97 (by
                  first | exact ⟨hp1_3.1, by omega, by omega, by omega⟩ | exact ⟨hp94_1, by omega, by omega, by omega⟩)).more (zfa1 rfl (zfa1 rfl (zfa0)))
          ·
            have k108 := zrng C9_28
            have f109 := znleI cc59
            rw [show (0 : Int32).toInt = 0 from by decide] at f109
            refine zp_seg (pc' := 65) (lv' := [(2, .int A9_6), (1, .ref (m + 6316 + 9 * (g 16).toNatClampNeg)), (0, .ref m)]) (st' := [.int A9_6, .int 3, .ref m]) [(62, .aload_n 0), (63, .iconst 3), (64, .iload_n 2)] (by decide +kernel) rfl ?_
            have hb110 := hb56.si hsi28
            refine zr_callV (idx := 346) (j := 318) (by decide +kernel) (by decide +kernel) (show zMe 318 = some zq_X16_fail from rfl) rfl rfl (Nat.le_of_ble_eq_true rfl) rfl rfl hM28 (Nat.le_of_ble_eq_true rfl) (Nat.le_of_ble_eq_true rfl) (c_X16_fail (w := w28) m 3 A9_6 hM28 hb110) (by omega) (fun v65 w65 hp65 => ?_)
            obtain ⟨hsi65, heq65, hp65_0, rfl⟩ := hp65
            have hM65 : w65 m = some (.inl (15, zMo m (zs (zs (zs (zs (zs (zs (zs g 9 3) 10 A9_6) 13 v22) 16 Q9_1) 17 A9_28) 18 B9_28) 19 C9_28) r)) := hp65_0
            show zP _ _ _ _ [.ref (m + 79)] _ _ _ _ _
            have hb111 := hb110.si hsi65
            obtain ⟨fs9, hst9⟩ := hb111.stop
            refine zr_thr (by decide +kernel) hst9 ?_
            have hb112 : zPil w65 (m + 6316) := hp1_2.ag (fun x hx1 hx2 => ((heq65 x (zx_X16_valueW_2 hx1 hx2)).trans ((heq28 x (zx_X16_valueW_2 hx1 hx2)).trans ((heq22 x (zx_X16_valueW_4 hx1 hx2)).trans (heq6 x (zx_X16_valueW_2 hx1 hx2))))))
            rw [← hPost]; exact ⟨rfl, Or.inr ⟨rfl, (zs (zs (zs (zs (zs (zs (zs g 9 3) 10 A9_6) 13 v22) 16 Q9_1) 17 A9_28) 18 B9_28) 19 C9_28), ((((hsi1.tr hsi6).tr hsi22).tr hsi28).tr hsi65), (fun x hx => ((heq65 x hx.1).trans ((heq28 x hx.1).trans ((heq22 x (zx_X16_valueW_1 hx.1)).trans ((heq6 x hx.1).trans (heq1 x ⟨hx.1, hx.2.1, hx.2.2.1, hx.2.2.2.1, hx.2.2.2.2.1, hx.2.2.2.2.2.1, hx.2.2.2.2.2.2⟩)))))), hM65, (by
                  first | exact hx9_1 | exact ⟨rfl, rfl, rfl, rfl⟩), hb112⟩⟩
    ·
      replace cc31 := Classical.not_not.mp cc31
      have f114 := zeqI cc31
      rw [show (0 : Int32).toInt = 0 from by decide] at f114
      refine zp_seg (pc' := 37) (lv' := [(2, .int A9_6), (1, .ref (m + 6316 + 9 * (g 16).toNatClampNeg)), (0, .ref m)]) (st' := [.int A9_6, .int 2, .ref m]) [(34, .aload_n 0), (35, .iconst 2), (36, .iload_n 2)] (by decide +kernel) rfl ?_
      have hb115 := hb56.si hsi28
      refine zr_callV (idx := 346) (j := 318) (by decide +kernel) (by decide +kernel) (show zMe 318 = some zq_X16_fail from rfl) rfl rfl (Nat.le_of_ble_eq_true rfl) rfl rfl hM28 (Nat.le_of_ble_eq_true rfl) (Nat.le_of_ble_eq_true rfl) (c_X16_fail (w := w28) m 2 A9_6 hM28 hb115) (by omega) (fun v37 w37 hp37 => ?_)
      obtain ⟨hsi37, heq37, hp37_0, rfl⟩ := hp37
      have hM37 : w37 m = some (.inl (15, zMo m (zs (zs (zs (zs (zs (zs (zs g 9 2) 10 A9_6) 13 v22) 16 Q9_1) 17 A9_28) 18 B9_28) 19 C9_28) r)) := hp37_0
      show zP _ _ _ _ [.ref (m + 79)] _ _ _ _ _
      have hb116 := hb115.si hsi37
      obtain ⟨fs9, hst9⟩ := hb116.stop
      refine zr_thr (by decide +kernel) hst9 ?_
      have hb117 : zPil w37 (m + 6316) := hp1_2.ag (fun x hx1 hx2 => ((heq37 x (zx_X16_valueW_2 hx1 hx2)).trans ((heq28 x (zx_X16_valueW_2 hx1 hx2)).trans ((heq22 x (zx_X16_valueW_4 hx1 hx2)).trans (heq6 x (zx_X16_valueW_2 hx1 hx2))))))
      rw [← hPost]; exact ⟨rfl, Or.inr ⟨rfl, (zs (zs (zs (zs (zs (zs (zs g 9 2) 10 A9_6) 13 v22) 16 Q9_1) 17 A9_28) 18 B9_28) 19 C9_28), ((((hsi1.tr hsi6).tr hsi22).tr hsi28).tr hsi37), (fun x hx => ((heq37 x hx.1).trans ((heq28 x hx.1).trans ((heq22 x (zx_X16_valueW_1 hx.1)).trans ((heq6 x hx.1).trans (heq1 x ⟨hx.1, hx.2.1, hx.2.2.1, hx.2.2.2.1, hx.2.2.2.2.1, hx.2.2.2.2.2.1, hx.2.2.2.2.2.2⟩)))))), hM37, (by
            first | exact hx9_1 | exact ⟨rfl, rfl, rfl, rfl⟩), hb117⟩⟩
