theorem zx_X16_valueU_0 {m : Nat}  : (m + 80) < m ∨ m + 1 ≤ (m + 80) := by omega
theorem zx_X16_valueU_1 {m : Nat}  : (m + 80) ≠ m := by omega
theorem zx_X16_valueU_2 {m x : Nat} (h0 : m + 6316 ≤ x) (h1 : x < m + 6316 + 1170) : x < m ∨ m + 1 ≤ x := by omega
theorem zx_X16_valueU_3 {m x : Nat} (h0 : m + 6316 ≤ x) (h1 : x < m + 6316 + 1170) : x ≠ m := by omega
theorem zx_X16_valueU_4 {m x : Nat} (h0 : x < m ∨ m + 1 ≤ x) : x ≠ m := by omega
set_option maxHeartbeats 8000000 in
set_option maxRecDepth 100000 in
theorem c_X16_valueU {w : zM} {g : Nat → Int32} {r : Nat → Value} {ft : Nat → Int32} {g1 : Int32} {g3 : Int32} {g12 : Int32} {g13 : Int32} {g16 : Int32} (m : Nat) {n9 k9 : Nat} (hk9 : 40 ≤ k9) (hc9 : ∀ {w : zM} {g : Nat → Int32} {r : Nat → Value} {ft : Nat → Int32} {g1 : Int32} {g3 : Int32} {g12 : Int32} {g13 : Int32} {g16 : Int32} (m : Nat) (hm : w m = some (.inl (15, zMo m g r))) (hR_m : zR m w) (htp : 0 ≤ g13.toInt ∧ g13.toInt ≤ g12.toInt ∧ g12.toInt ≤ 400) (hA_m_80 : w (m + 80) = some (.inr (1, 400, .inl ft))) (htx : (∀ i, i ≤ g12.toNatClampNeg → zDep ft i ≤ 20) ∧ ∀ i, i < g12.toNatClampNeg → ¬ zRun ft g12.toNatClampNeg i) (hPl_m_6316 : zPil w (m + 6316)) (hut : 0 ≤ g1.toInt ∧ g1.toInt + 9 ≤ 160) (hbt : 0 ≤ g3.toInt ∧ g3.toInt + 16 ≤ 44) (hpi : 0 ≤ g16.toInt ∧ g16.toInt ≤ 4 * zDep ft g13.toNatClampNeg + 2) (hlv : 21 ≤ zDep ft g13.toNatClampNeg + (n9 : Int)) (hg1 : g 1 = g1) (hg3 : g 3 = g3) (hg12 : g 12 = g12) (hg13 : g 13 = g13) (hg16 : g 16 = g16), zConT k9 zq_X16_valueW [.ref m] w (fun v9 w9' => ∃ A9 : Int32, ∃ Q9 : Int32, ∃ X9 : Int32, ∃ Y9 : Int32, ∃ Z9 : Int32, ∃ K9 : Int32, zSI w w9' ∧ (∀ x, (x < m ∨ m + 1 ≤ x) ∧ (x < m + 6316 + 9 * g16.toNatClampNeg ∨ m + 6316 + 9 * g16.toNatClampNeg + (1170 - 9 * g16.toNatClampNeg) ≤ x) ∧ (x < m + 78 ∨ m + 78 + 1 ≤ x) ∧ (x < m + 276 + 2 * g1.toNatClampNeg ∨ m + 276 + 2 * g1.toNatClampNeg + (320 - 2 * g1.toNatClampNeg) ≤ x) ∧ (x < m + 596 + 130 * g3.toNatClampNeg ∨ m + 596 + 130 * g3.toNatClampNeg + (5720 - 130 * g3.toNatClampNeg) ≤ x) ∧ (x < m + 3 ∨ m + 3 + 1 ≤ x) ∧ (x < m + 5 ∨ m + 5 + 64 ≤ x) → w9' x = w x) ∧ w9' m = some (.inl (15, zMo m (zs (zs (zs (zs (zs g 13 A9) 16 Q9) 17 X9) 18 Y9) 19 Z9) r)) ∧ zTi w9' (m + 6316 + 9 * g16.toNatClampNeg) K9 ∧ zPil w9' (m + 6316) ∧ ((K9 = 1 ∨ K9 = 2) ∧ (g13.toInt ≤ A9.toInt ∧ A9.toInt ≤ g12.toInt) ∧ zDep ft A9.toNatClampNeg = zDep ft g13.toNatClampNeg ∧ Q9.toInt = g16.toInt + 1) ∧ v9 = some (.ref (m + 6316 + 9 * g16.toNatClampNeg))) (fun w9' => ∃ G9 : Nat → Int32, zSI w w9' ∧ (∀ x, (x < m ∨ m + 1 ≤ x) ∧ (x < m + 6316 + 9 * g16.toNatClampNeg ∨ m + 6316 + 9 * g16.toNatClampNeg + (1170 - 9 * g16.toNatClampNeg) ≤ x) ∧ (x < m + 78 ∨ m + 78 + 1 ≤ x) ∧ (x < m + 276 + 2 * g1.toNatClampNeg ∨ m + 276 + 2 * g1.toNatClampNeg + (320 - 2 * g1.toNatClampNeg) ≤ x) ∧ (x < m + 596 + 130 * g3.toNatClampNeg ∨ m + 596 + 130 * g3.toNatClampNeg + (5720 - 130 * g3.toNatClampNeg) ≤ x) ∧ (x < m + 3 ∨ m + 3 + 1 ≤ x) ∧ (x < m + 5 ∨ m + 5 + 64 ≤ x) → w9' x = w x) ∧ w9' m = some (.inl (15, zMo m G9 r)) ∧ (zKp G9 g) ∧ zPil w9' (m + 6316))) (hm : w m = some (.inl (15, zMo m g r))) (hR_m : zR m w) (htp : 0 ≤ g13.toInt ∧ g13.toInt ≤ g12.toInt ∧ g12.toInt ≤ 400) (hA_m_80 : w (m + 80) = some (.inr (1, 400, .inl ft))) (htx : (∀ i, i ≤ g12.toNatClampNeg → zDep ft i ≤ 20) ∧ ∀ i, i < g12.toNatClampNeg → ¬ zRun ft g12.toNatClampNeg i) (hPl_m_6316 : zPil w (m + 6316)) (hut : 0 ≤ g1.toInt ∧ g1.toInt + 9 ≤ 160) (hbt : 0 ≤ g3.toInt ∧ g3.toInt + 16 ≤ 44) (hpi : 0 ≤ g16.toInt ∧ g16.toInt ≤ 4 * zDep ft g13.toNatClampNeg + 1) (hlv : 21 ≤ zDep ft g13.toNatClampNeg + (n9 : Int)) (hg1 : g 1 = g1) (hg3 : g 3 = g3) (hg12 : g 12 = g12) (hg13 : g 13 = g13) (hg16 : g 16 = g16) : zConT (k9 + 1) zq_X16_valueU [.ref m] w (fun v9 w9' => ∃ A9 : Int32, ∃ Q9 : Int32, ∃ X9 : Int32, ∃ Y9 : Int32, ∃ Z9 : Int32, ∃ K9 : Int32, zSI w w9' ∧ (∀ x, (x < m ∨ m + 1 ≤ x) ∧ (x < m + 6316 + 9 * g16.toNatClampNeg ∨ m + 6316 + 9 * g16.toNatClampNeg + (1170 - 9 * g16.toNatClampNeg) ≤ x) ∧ (x < m + 78 ∨ m + 78 + 1 ≤ x) ∧ (x < m + 276 + 2 * g1.toNatClampNeg ∨ m + 276 + 2 * g1.toNatClampNeg + (320 - 2 * g1.toNatClampNeg) ≤ x) ∧ (x < m + 596 + 130 * g3.toNatClampNeg ∨ m + 596 + 130 * g3.toNatClampNeg + (5720 - 130 * g3.toNatClampNeg) ≤ x) ∧ (x < m + 3 ∨ m + 3 + 1 ≤ x) ∧ (x < m + 5 ∨ m + 5 + 64 ≤ x) → w9' x = w x) ∧ w9' m = some (.inl (15, zMo m (zs (zs (zs (zs (zs g 13 A9) 16 Q9) 17 X9) 18 Y9) 19 Z9) r)) ∧ zTi w9' (m + 6316 + 9 * g16.toNatClampNeg) K9 ∧ zPil w9' (m + 6316) ∧ ((K9 = 1 ∨ K9 = 2) ∧ (g13.toInt ≤ A9.toInt ∧ A9.toInt ≤ g12.toInt) ∧ zDep ft A9.toNatClampNeg = zDep ft g13.toNatClampNeg ∧ Q9.toInt = g16.toInt + 1) ∧ v9 = some (.ref (m + 6316 + 9 * g16.toNatClampNeg))) (fun w9' => ∃ G9 : Nat → Int32, zSI w w9' ∧ (∀ x, (x < m ∨ m + 1 ≤ x) ∧ (x < m + 6316 + 9 * g16.toNatClampNeg ∨ m + 6316 + 9 * g16.toNatClampNeg + (1170 - 9 * g16.toNatClampNeg) ≤ x) ∧ (x < m + 78 ∨ m + 78 + 1 ≤ x) ∧ (x < m + 276 + 2 * g1.toNatClampNeg ∨ m + 276 + 2 * g1.toNatClampNeg + (320 - 2 * g1.toNatClampNeg) ≤ x) ∧ (x < m + 596 + 130 * g3.toNatClampNeg ∨ m + 596 + 130 * g3.toNatClampNeg + (5720 - 130 * g3.toNatClampNeg) ≤ x) ∧ (x < m + 3 ∨ m + 3 + 1 ≤ x) ∧ (x < m + 5 ∨ m + 5 + 64 ≤ x) → w9' x = w x) ∧ w9' m = some (.inl (15, zMo m G9 r)) ∧ (zKp G9 g) ∧ zPil w9' (m + 6316)) := by
  subst hg1
  subst hg3
  subst hg12
  subst hg13
  subst hg16
  intro d sz hd
  obtain ⟨d, rfl⟩ : ∃ d9, d = d9 + 1 := ⟨d - 1, by omega⟩
  generalize hPost : (fun (r9' : Option (Option Value)) (w9' : zM) (z9 : Nat) => z9 = sz ∧ ((∃ v9, r9' = some v9 ∧ (∃ A9 : Int32, ∃ Q9 : Int32, ∃ X9 : Int32, ∃ Y9 : Int32, ∃ Z9 : Int32, ∃ K9 : Int32, zSI w w9' ∧ (∀ x, (x < m ∨ m + 1 ≤ x) ∧ (x < m + 6316 + 9 * (g 16).toNatClampNeg ∨ m + 6316 + 9 * (g 16).toNatClampNeg + (1170 - 9 * (g 16).toNatClampNeg) ≤ x) ∧ (x < m + 78 ∨ m + 78 + 1 ≤ x) ∧ (x < m + 276 + 2 * (g 1).toNatClampNeg ∨ m + 276 + 2 * (g 1).toNatClampNeg + (320 - 2 * (g 1).toNatClampNeg) ≤ x) ∧ (x < m + 596 + 130 * (g 3).toNatClampNeg ∨ m + 596 + 130 * (g 3).toNatClampNeg + (5720 - 130 * (g 3).toNatClampNeg) ≤ x) ∧ (x < m + 3 ∨ m + 3 + 1 ≤ x) ∧ (x < m + 5 ∨ m + 5 + 64 ≤ x) → w9' x = w x) ∧ w9' m = some (.inl (15, zMo m (zs (zs (zs (zs (zs g 13 A9) 16 Q9) 17 X9) 18 Y9) 19 Z9) r)) ∧ zTi w9' (m + 6316 + 9 * (g 16).toNatClampNeg) K9 ∧ zPil w9' (m + 6316) ∧ ((K9 = 1 ∨ K9 = 2) ∧ ((g 13).toInt ≤ A9.toInt ∧ A9.toInt ≤ (g 12).toInt) ∧ zDep ft A9.toNatClampNeg = zDep ft (g 13).toNatClampNeg ∧ Q9.toInt = (g 16).toInt + 1) ∧ v9 = some (.ref (m + 6316 + 9 * (g 16).toNatClampNeg)))) ∨ (r9' = none ∧ (∃ G9 : Nat → Int32, zSI w w9' ∧ (∀ x, (x < m ∨ m + 1 ≤ x) ∧ (x < m + 6316 + 9 * (g 16).toNatClampNeg ∨ m + 6316 + 9 * (g 16).toNatClampNeg + (1170 - 9 * (g 16).toNatClampNeg) ≤ x) ∧ (x < m + 78 ∨ m + 78 + 1 ≤ x) ∧ (x < m + 276 + 2 * (g 1).toNatClampNeg ∨ m + 276 + 2 * (g 1).toNatClampNeg + (320 - 2 * (g 1).toNatClampNeg) ≤ x) ∧ (x < m + 596 + 130 * (g 3).toNatClampNeg ∨ m + 596 + 130 * (g 3).toNatClampNeg + (5720 - 130 * (g 3).toNatClampNeg) ≤ x) ∧ (x < m + 3 ∨ m + 3 + 1 ≤ x) ∧ (x < m + 5 ∨ m + 5 + 64 ≤ x) → w9' x = w x) ∧ w9' m = some (.inl (15, zMo m G9 r)) ∧ (zKp G9 g) ∧ zPil w9' (m + 6316))))) = Post
  show zP (d + 1) zq_X16_valueU 0 [(0, .ref m)] [] w sz 0 0 Post
  have k1 := zrng (g 1)
  have hz2 : ((g 1).toNatClampNeg : Int) = (g 1).toInt := znat (by first | omega | decide)
  have hgb1 : (g 1).toNatClampNeg + 9 ≤ 160 := by omega
  have k3 := zrng (g 3)
  have hz4 : ((g 3).toNatClampNeg : Int) = (g 3).toInt := znat (by first | omega | decide)
  have hgb3 : (g 3).toNatClampNeg + 16 ≤ 44 := by omega
  have k5 := zrng (g 12)
  have hz6 : ((g 12).toNatClampNeg : Int) = (g 12).toInt := znat (by first | omega | decide)
  have k7 := zrng (g 13)
  have hz8 : ((g 13).toNatClampNeg : Int) = (g 13).toInt := znat (by first | omega | decide)
  have k9 := zrng (g 16)
  have hz10 : ((g 16).toNatClampNeg : Int) = (g 16).toInt := znat (by first | omega | decide)
  have hd0 := htx.1 (g 13).toNatClampNeg (by omega)
  refine zp_seg (pc' := 1) (lv' := [(0, .ref m)]) (st' := [.ref m]) [(0, .aload_n 0)] (by decide +kernel) rfl ?_
  refine zr_callVT (idx := 385) (j := 332) (by decide +kernel) (by decide +kernel) (show zMe 332 = some zq_X16_valueW from rfl) rfl rfl (Nat.le_of_ble_eq_true rfl) rfl rfl hm (Nat.le_of_ble_eq_true rfl) (Nat.le_of_ble_eq_true rfl) (hc9 (w := w) (g1 := (g 1)) (g3 := (g 3)) (g12 := (g 12)) (g13 := (g 13)) (g16 := (g 16)) m hm hR_m (by first | omega | decide | assumption | exact zr1_1 | exact zr1_0 | fail "num") hA_m_80 (by first | omega | decide | assumption | exact zr1_1 | exact zr1_0 | fail "num") hPl_m_6316 (by first | omega | decide | assumption | exact zr1_1 | exact zr1_0 | fail "num") (by first | omega | decide | assumption | exact zr1_1 | exact zr1_0 | fail "num") (by first | omega | decide | assumption | exact zr1_1 | exact zr1_0 | fail "num") (by first | omega | decide | assumption | exact zr1_1 | exact zr1_0 | fail "num") rfl rfl rfl rfl rfl) (by omega) (fun v1 w1 hp1 => ?_) (fun wx9 hx9 => by
        obtain ⟨G9_x9, hsix9, heqx9, hx9_0, hx9_1, hx9_2⟩ := hx9
        skip
        rw [← hPost]
        exact ⟨rfl, Or.inr ⟨rfl, G9_x9, hsix9, (fun x hx => (heqx9 x ⟨hx.1, hx.2.1, hx.2.2.1, hx.2.2.2.1, hx.2.2.2.2.1, hx.2.2.2.2.2.1, hx.2.2.2.2.2.2⟩)), hx9_0, (by
              first | exact hx9_1 | exact ⟨rfl, rfl, rfl, rfl⟩), hx9_2⟩⟩)
  obtain ⟨A9_1, Q9_1, X9_1, Y9_1, Z9_1, K9_1, hsi1, heq1, hp1_0, hp1_1, hp1_2, hp1_3, rfl⟩ := hp1
  have hM1 : w1 m = some (.inl (15, zMo m (zs (zs (zs (zs (zs g 13 A9_1) 16 Q9_1) 17 X9_1) 18 Y9_1) 19 Z9_1) r)) := hp1_0
  show zP _ _ _ _ [.ref (m + 6316 + 9 * (g 16).toNatClampNeg)] _ _ _ _ _
  have hv1 := hp1_3
  have hzA1 := znat (x := A9_1) (by omega)
  have hzQ1 := znat (x := Q9_1) (by omega)
  refine zp_seg (pc' := 5) (lv' := [(1, .ref (m + 6316 + 9 * (g 16).toNatClampNeg)), (0, .ref m)]) (st' := []) [(4, .astore_n 1)] (by decide +kernel) rfl ?_
  have hL5 : ∀ (mm5 : Nat) (wL5 : zM) (cA : Int32) (cQ : Int32) (cX : Int32) (cY : Int32) (cZ : Int32) (cK : Int32), (zSI w1 wL5) → (∀ x, ((x < m ∨ m + 1 ≤ x) ∧ (x < m + 6316 + 9 * (g 16).toNatClampNeg ∨ m + 6316 + 9 * (g 16).toNatClampNeg + (1170 - 9 * (g 16).toNatClampNeg) ≤ x) ∧ (x < m + 78 ∨ m + 78 + 1 ≤ x) ∧ (x < m + 276 + 2 * (g 1).toNatClampNeg ∨ m + 276 + 2 * (g 1).toNatClampNeg + (320 - 2 * (g 1).toNatClampNeg) ≤ x) ∧ (x < m + 596 + 130 * (g 3).toNatClampNeg ∨ m + 596 + 130 * (g 3).toNatClampNeg + (5720 - 130 * (g 3).toNatClampNeg) ≤ x) ∧ (x < m + 3 ∨ m + 3 + 1 ≤ x) ∧ (x < m + 5 ∨ m + 5 + 64 ≤ x)) ∧ x ≠ m → wL5 x = w1 x) → (wL5 m = some (.inl (15, zMo m (zs (zs (zs (zs (zs g 13 cA) 16 cQ) 17 cX) 18 cY) 19 cZ) r))) → (zTi wL5 (m + 6316 + 9 * (g 16).toNatClampNeg) cK) → (zPil wL5 (m + 6316)) → ((cK = 1 ∨ cK = 2) ∧ ((g 13).toInt ≤ cA.toInt ∧ cA.toInt ≤ (g 12).toInt) ∧ zDep ft cA.toNatClampNeg = zDep ft (g 13).toNatClampNeg ∧ cQ.toInt = (g 16).toInt + 1) → (401 - cA.toInt).toNat < mm5 → zP (d + 1) zq_X16_valueU 5 [(0, .ref m), (1, .ref (m + 6316 + 9 * (g 16).toNatClampNeg))] [] wL5 sz 0 0 Post := by
    intro mm5
    induction mm5 with
    | zero => intros; omega
    | succ mm5 ih5 =>
    intro wL5 cA cQ cX cY cZ cK hsiL5 heqL5 hcM hcT hcP hcN hmu5
    refine zp_seg (pc' := 6) (lv' := [(0, .ref m), (1, .ref (m + 6316 + 9 * (g 16).toNatClampNeg))]) (st' := [.ref m]) [(5, .aload_n 0)] (by decide +kernel) rfl ?_
    have k11 := zrng cA
    have hb12 := hR_m.si (hsi1.tr hsiL5)
    have hb13 : wL5 (m + 80) = some (.inr (1, 400, .inl ft)) := ((heqL5 (m + 80) (by omega)).trans (heq1 (m + 80) (by omega))).trans hA_m_80
    refine zr_callV (idx := 343) (j := 319) (by decide +kernel) (by decide +kernel) (show zMe 319 = some zq_X16_look from rfl) rfl rfl (Nat.le_of_ble_eq_true rfl) rfl rfl hcM (Nat.le_of_ble_eq_true rfl) (Nat.le_of_ble_eq_true rfl) (c_X16_look (w := wL5) (g12 := (g 12)) (g13 := cA) m hcM hb12 (by first | omega | decide | assumption | exact zr1_1 | exact zr1_0 | fail "num") hb13 (by first | omega | decide | assumption | exact zr1_1 | exact zr1_0 | fail "num") rfl rfl) (by omega) (fun v6 w6 hp6 => ?_)
    obtain ⟨A9_6, hsi6, heq6, hp6_0, hp6_1, r6, rfl, hr6⟩ := hp6
    have hM6 : w6 m = some (.inl (15, zMo m (zs (zs (zs (zs (zs g 13 A9_6) 16 cQ) 17 cX) 18 cY) 19 cZ) r)) := hp6_0
    have kr6 := zrng r6
    show zP _ _ _ _ [.int r6] _ _ _ _ _
    have hlk6 := hp6_1.2.2
    have hzA6 := znat (x := A9_6) (by omega)
    refine zp_seg (pc' := 11) (lv' := [(0, .ref m), (1, .ref (m + 6316 + 9 * (g 16).toNatClampNeg))]) (st' := [.int 42, .int r6]) [(9, .bipush 42)] (by decide +kernel) rfl ?_
    refine zp_if (i := .if_icmp .eq 12) (c := r6 = 42) (t := 23) (e := 14) (lv' := [(0, .ref m), (1, .ref (m + 6316 + 9 * (g 16).toNatClampNeg))]) (st' := []) (by decide +kernel) rfl (fun cc11 => ?_) (fun cc11 => ?_)
    ·
      have f15 := zeqI cc11
      rw [show (42 : Int32).toInt = 42 from by decide] at f15
      obtain ⟨P9, hP9⟩ : ∃ P, P = (A9_6).toNatClampNeg := ⟨_, rfl⟩
      have hzP : (P9 : Int) = (A9_6).toInt := by rw [hP9]; exact znat (by omega)
      obtain ⟨hq1, hq2⟩ : P9 < (g 12).toNatClampNeg ∧ zDep ft (P9 + 1) = zDep ft P9 := by
        rw [hP9]
        first
        | exact zChr_p (hr6.symm.trans cc11) (by decide) (by decide) (by decide)
        | exact zChr_p (hr15.symm.trans cc20) (by decide) (by decide) (by decide)
      have hq0 : zDep ft P9 = zDep ft (A9_6).toNatClampNeg := by rw [hP9]
      refine zp_seg (pc' := 24) (lv' := [(0, .ref m), (1, .ref (m + 6316 + 9 * (g 16).toNatClampNeg))]) (st' := [.ref m]) [(23, .aload_n 0)] (by decide +kernel) rfl ?_
      refine zr_get (idx := 339) (k := 11) (v := .ref (m + 80)) (by decide +kernel) (by decide +kernel) hM6 rfl ?_
      refine zp_seg (pc' := 28) (lv' := [(0, .ref m), (1, .ref (m + 6316 + 9 * (g 16).toNatClampNeg))]) (st' := [.ref m, .ref (m + 80)]) [(27, .aload_n 0)] (by decide +kernel) rfl ?_
      refine zr_get (idx := 334) (k := 13) (v := .int A9_6) (by decide +kernel) (by decide +kernel) hM6 rfl ?_
      have hb16 : w6 (m + 80) = some (.inr (1, 400, .inl ft)) := (heq6 (m + 80) (zx_X16_valueU_0)).trans hb13
      have k17 := zrng A9_6
      refine zr_bald (by decide +kernel) hb16 (by decide) (zin (by first | omega | decide) (by first | omega | decide)) ?_
      have hz18 : (A9_6.toNatClampNeg : Int) = A9_6.toInt := znat (by first | omega | decide)
      obtain ⟨x31, ex31⟩ : ∃ x9, x9 = ft (A9_6.toNatClampNeg) := ⟨_, rfl⟩
      rw [← ex31]
      have kx31 := zrng x31
      refine zp_seg (pc' := 34) (lv' := [(0, .ref m), (1, .ref (m + 6316 + 9 * (g 16).toNatClampNeg))]) (st' := [.int 47, .int x31]) [(32, .bipush 47)] (by decide +kernel) rfl ?_
      have hJ42 : ∀ (z0_42 : Int32), ((z0_42 = 0 ∨ z0_42 = 1)) → zP (d + 1) zq_X16_valueU 42 [(0, .ref m), (1, .ref (m + 6316 + 9 * (g 16).toNatClampNeg))] [.int z0_42] w6 sz 0 0 Post := by
        intro z0_42 hi42_0
        have kz0_42 := zrng z0_42
        refine zp_seg (pc' := 45) (lv' := [(2, .int z0_42), (0, .ref m), (1, .ref (m + 6316 + 9 * (g 16).toNatClampNeg))]) (st' := [.ref m, .ref m]) [(42, .istore_n 2), (43, .aload_n 0), (44, .dup)] (by decide +kernel) rfl ?_
        refine zr_get (idx := 334) (k := 13) (v := .int A9_6) (by decide +kernel) (by decide +kernel) hM6 rfl ?_
        refine zp_seg (pc' := 51) (lv' := [(2, .int z0_42), (0, .ref m), (1, .ref (m + 6316 + 9 * (g 16).toNatClampNeg))]) (st' := [.int (A9_6 + 1), .ref m, .int A9_6]) [(48, .dup_x1), (49, .iconst 1), (50, .iadd)] (by decide +kernel) rfl ?_
        have k19 := zaddC A9_6 1 (n := 1) (by decide) (by omega) (by omega)
        generalize ev51 : (A9_6 + 1 : Int32) = v51 at k19 ⊢
        have kv51 := zrng v51
        refine zr_put2 (idx := 334) (k := 13) (fs2 := zMo m (zs (zs (zs (zs (zs g 13 v51) 16 cQ) 17 cX) 18 cY) 19 cZ) r) (by decide +kernel) (by decide +kernel) hM6 (Nat.le_of_ble_eq_true rfl) rfl rfl rfl ?_
        show zP (d + 1) zq_X16_valueU 54 [(2, .int z0_42), (0, .ref m), (1, .ref (m + 6316 + 9 * (g 16).toNatClampNeg))] [.int A9_6] (zup w6 m (.inl (15, zMo m (zs (zs (zs (zs (zs g 13 v51) 16 cQ) 17 cX) 18 cY) 19 cZ) r))) sz 0 0 Post
        obtain ⟨w51, ew51⟩ : ∃ wz9, wz9 = zup w6 m (.inl (15, zMo m (zs (zs (zs (zs (zs g 13 v51) 16 cQ) 17 cX) 18 cY) 19 cZ) r)) := ⟨_, rfl⟩
        have hsi51 : zSI w6 w51 := by rw [ew51]; exact zSI.setG hM6 _ _
        have heq51 : ∀ x, x ≠ m → w51 x = w6 x := fun x hx => by rw [ew51]; exact zup_n hx
        have hc51 : w51 m = some (.inl (15, zMo m (zs (zs (zs (zs (zs g 13 v51) 16 cQ) 17 cX) 18 cY) 19 cZ) r)) := by rw [ew51]; exact zup_s
        rw [← ew51]
        clear ew51
        have hz9 := znat (x := v51) (by omega)
        have hq3 : zDep ft (v51).toNatClampNeg = zDep ft P9 := by rw [show (v51).toNatClampNeg = P9 + 1 by omega]; exact hq2
        refine zp_seg (pc' := 56) (lv' := [(3, .int A9_6), (2, .int z0_42), (0, .ref m), (1, .ref (m + 6316 + 9 * (g 16).toNatClampNeg))]) (st' := [.ref m]) [(54, .istore_n 3), (55, .aload_n 0)] (by decide +kernel) rfl ?_
        have k20 := zrng cQ
        have hz21 : (v51.toNatClampNeg : Int) = v51.toInt := znat (by first | omega | decide)
        have hz22 : (cQ.toNatClampNeg : Int) = cQ.toInt := znat (by first | omega | decide)
        have hb23 := hb12.si (hsi6.tr hsi51)
        have hb24 : w51 (m + 80) = some (.inr (1, 400, .inl ft)) := (heq51 (m + 80) (zx_X16_valueU_1)).trans hb16
        have hb25 : zPil w51 (m + 6316) := hcP.ag (fun x hx1 hx2 => ((heq51 x (zx_X16_valueU_3 hx1 hx2)).trans (heq6 x (zx_X16_valueU_2 hx1 hx2))))
        refine zr_callVT (idx := 385) (j := 332) (by decide +kernel) (by decide +kernel) (show zMe 332 = some zq_X16_valueW from rfl) rfl rfl (Nat.le_of_ble_eq_true rfl) rfl rfl hc51 (Nat.le_of_ble_eq_true rfl) (Nat.le_of_ble_eq_true rfl) (hc9 (w := w51) (g1 := (g 1)) (g3 := (g 3)) (g12 := (g 12)) (g13 := v51) (g16 := cQ) m hc51 hb23 (by first | omega | decide | assumption | exact zr1_1 | exact zr1_0 | fail "num") hb24 (by first | omega | decide | assumption | exact zr1_1 | exact zr1_0 | fail "num") hb25 (by first | omega | decide | assumption | exact zr1_1 | exact zr1_0 | fail "num") (by first | omega | decide | assumption | exact zr1_1 | exact zr1_0 | fail "num") (by first | omega | decide | assumption | exact zr1_1 | exact zr1_0 | fail "num") (by first | omega | decide | assumption | exact zr1_1 | exact zr1_0 | fail "num") rfl rfl rfl rfl rfl) (by omega) (fun v56 w56 hp56 => ?_) (fun wx9 hx9 => by
              obtain ⟨G9_x9, hsix9, heqx9, hx9_0, hx9_1, hx9_2⟩ := hx9
              skip
              rw [← hPost]
              exact ⟨rfl, Or.inr ⟨rfl, G9_x9, ((((hsi1.tr hsiL5).tr hsi6).tr hsi51).tr hsix9), (fun x hx => ((heqx9 x (by omega)).trans ((heq51 x (zx_X16_valueU_4 hx.1)).trans ((heq6 x hx.1).trans ((heqL5 x ⟨⟨hx.1, hx.2.1, hx.2.2.1, hx.2.2.2.1, hx.2.2.2.2.1, hx.2.2.2.2.2.1, hx.2.2.2.2.2.2⟩, (zx_X16_valueU_4 hx.1)⟩).trans (heq1 x ⟨hx.1, hx.2.1, hx.2.2.1, hx.2.2.2.1, hx.2.2.2.2.1, hx.2.2.2.2.2.1, hx.2.2.2.2.2.2⟩)))))), hx9_0, (by
                    first | exact hx9_1 | exact ⟨rfl, rfl, rfl, rfl⟩), hx9_2⟩⟩)
        obtain ⟨A9_56, Q9_56, X9_56, Y9_56, Z9_56, K9_56, hsi56, heq56, hp56_0, hp56_1, hp56_2, hp56_3, rfl⟩ := hp56
        have hM56 : w56 m = some (.inl (15, zMo m (zs (zs (zs (zs (zs g 13 A9_56) 16 Q9_56) 17 X9_56) 18 Y9_56) 19 Z9_56) r)) := hp56_0
        show zP _ _ _ _ [.ref (m + 6316 + 9 * cQ.toNatClampNeg)] _ _ _ _ _
        have hv56 := hp56_3
        have hzA56 := znat (x := A9_56) (by omega)
        have hzQ56 := znat (x := Q9_56) (by omega)
        refine zp_seg (pc' := 61) (lv' := [(4, .ref (m + 6316 + 9 * cQ.toNatClampNeg)), (3, .int A9_6), (2, .int z0_42), (0, .ref m), (1, .ref (m + 6316 + 9 * (g 16).toNatClampNeg))]) (st' := []) [(59, .astore 4)] (by decide +kernel) rfl ?_
        obtain ⟨g2, fn2, fd2, fa2, fb2, fc2, fe2, fr2, fu2, hT2, hAn2, hAd2, hAa2, hAb2, hAc2, hAe2, hAr2, hAu2, hK2⟩ := id hp56_1
        obtain ⟨hK20, hKn2, hKd2, hKx2, hKm2, hKl2, hKr2, hKu2, hKk2⟩ := id hK2
        refine zp_seg (pc' := 62) (lv' := [(4, .ref (m + 6316 + 9 * cQ.toNatClampNeg)), (3, .int A9_6), (2, .int z0_42), (0, .ref m), (1, .ref (m + 6316 + 9 * (g 16).toNatClampNeg))]) (st' := [.int z0_42]) [(61, .iload_n 2)] (by decide +kernel) rfl ?_
        have hJ80 : ∀ (_ : True), (z0_42 = 1 → zNz w56 (m + 6316 + 9 * cQ.toNatClampNeg)) → zP (d + 1) zq_X16_valueU 80 [(0, .ref m), (1, .ref (m + 6316 + 9 * (g 16).toNatClampNeg)), (2, .int z0_42), (3, .int A9_6), (4, .ref (m + 6316 + 9 * cQ.toNatClampNeg))] [] w56 sz 0 0 Post := by
          intro _ hnz9
          refine zp_seg (pc' := 85) (lv' := [(0, .ref m), (1, .ref (m + 6316 + 9 * (g 16).toNatClampNeg)), (2, .int z0_42), (3, .int A9_6), (4, .ref (m + 6316 + 9 * cQ.toNatClampNeg))]) (st' := [.int z0_42, .ref (m + 6316 + 9 * cQ.toNatClampNeg), .ref (m + 6316 + 9 * (g 16).toNatClampNeg), .ref m]) [(80, .aload_n 0), (81, .aload_n 1), (82, .aload 4), (84, .iload_n 2)] (by decide +kernel) rfl ?_
          have hb26 := hb23.si hsi56
          have hb27 : zTi w56 (m + 6316 + 9 * (g 16).toNatClampNeg) cK := hcT.ag (fun x hx1 hx2 => ((heq56 x (by omega)).trans ((heq51 x (by omega)).trans (heq6 x (by omega)))))
          refine zr_callV (idx := 388) (j := 314) (by decide +kernel) (by decide +kernel) (show zMe 314 = some zq_X16_multiply_ from rfl) rfl rfl (Nat.le_of_ble_eq_true rfl) rfl rfl hM56 (Nat.le_of_ble_eq_true rfl) (Nat.le_of_ble_eq_true rfl) (c_X16_multiply_W (w := w56) (g1 := (g 1)) (g3 := (g 3)) m (m + 6316 + 9 * (g 16).toNatClampNeg) (m + 6316 + 9 * cQ.toNatClampNeg) z0_42 hM56 hb26 hb27 hp56_1 (by first | omega | decide | assumption | exact zr1_1 | exact zr1_0 | fail "num") (by first | omega | decide | assumption | exact zr1_1 | exact zr1_0 | fail "num") (by first | omega | decide | assumption | exact zr1_1 | exact zr1_0 | fail "num") (by first | omega | decide | assumption | exact zr1_1 | exact zr1_0 | fail "num") (by first | omega | decide | assumption | exact zr1_1 | exact zr1_0 | fail "num") (by exact hcN.1) (by exact hp56_3.1) (by exact hnz9) (by first | omega | decide | assumption | exact zr1_1 | exact zr1_0 | fail "num") rfl rfl) (by omega) (fun v85 w85 hp85 => ?_)
          obtain ⟨K9_85, hsi85, heq85, hp85_0, hp85_1, r85, rfl, hrb85, hr85⟩ := hp85
          have kr85 := zrng r85
          show zP _ _ _ _ [.int r85] _ _ _ _ _
          refine zp_if (i := .ifCond .ne 10) (c := ¬ r85 = 0) (t := 98) (e := 91) (lv' := [(0, .ref m), (1, .ref (m + 6316 + 9 * (g 16).toNatClampNeg)), (2, .int z0_42), (3, .int A9_6), (4, .ref (m + 6316 + 9 * cQ.toNatClampNeg))]) (st' := []) (by decide +kernel) rfl (fun cc88 => ?_) (fun cc88 => ?_)
          ·
            have f29 := zneI cc88
            rw [show (0 : Int32).toInt = 0 from by decide] at f29
            have hPl98 := hp56_2.up (w' := w85) (g 16).toNatClampNeg hp85_0 (fun x h1 h2 h3 => (heq85 x (by omega)))
            refine zp_seg (pc' := 100) (lv' := [(0, .ref m), (1, .ref (m + 6316 + 9 * (g 16).toNatClampNeg)), (2, .int z0_42), (3, .int A9_6), (4, .ref (m + 6316 + 9 * cQ.toNatClampNeg))]) (st' := [.ref m, .ref m]) [(98, .aload_n 0), (99, .dup)] (by decide +kernel) rfl ?_
            have hb30 : w85 m = some (.inl (15, zMo m (zs (zs (zs (zs (zs g 13 A9_56) 16 Q9_56) 17 X9_56) 18 Y9_56) 19 Z9_56) r)) := (heq85 m (by omega)).trans hM56
            refine zr_get (idx := 375) (k := 16) (v := .int Q9_56) (by decide +kernel) (by decide +kernel) hb30 rfl ?_
            refine zp_seg (pc' := 105) (lv' := [(0, .ref m), (1, .ref (m + 6316 + 9 * (g 16).toNatClampNeg)), (2, .int z0_42), (3, .int A9_6), (4, .ref (m + 6316 + 9 * cQ.toNatClampNeg))]) (st' := [.int (Q9_56 - 1), .ref m]) [(103, .iconst 1), (104, .isub)] (by decide +kernel) rfl ?_
            have k31 := zrng Q9_56
            have k32 := zsubC Q9_56 1 (n := 1) (by decide) (by omega) (by omega)
            generalize ev105 : (Q9_56 - 1 : Int32) = v105 at k32 ⊢
            have kv105 := zrng v105
            refine zr_put2 (idx := 375) (k := 16) (fs2 := zMo m (zs (zs (zs (zs (zs g 13 A9_56) 16 v105) 17 X9_56) 18 Y9_56) 19 Z9_56) r) (by decide +kernel) (by decide +kernel) hb30 (Nat.le_of_ble_eq_true rfl) rfl rfl rfl ?_
            show zP (d + 1) zq_X16_valueU 108 [(0, .ref m), (1, .ref (m + 6316 + 9 * (g 16).toNatClampNeg)), (2, .int z0_42), (3, .int A9_6), (4, .ref (m + 6316 + 9 * cQ.toNatClampNeg))] [] (zup w85 m (.inl (15, zMo m (zs (zs (zs (zs (zs g 13 A9_56) 16 v105) 17 X9_56) 18 Y9_56) 19 Z9_56) r))) sz 0 0 Post
            obtain ⟨w105, ew105⟩ : ∃ wz9, wz9 = zup w85 m (.inl (15, zMo m (zs (zs (zs (zs (zs g 13 A9_56) 16 v105) 17 X9_56) 18 Y9_56) 19 Z9_56) r)) := ⟨_, rfl⟩
            have hsi105 : zSI w85 w105 := by rw [ew105]; exact zSI.setG hb30 _ _
            have heq105 : ∀ x, x ≠ m → w105 x = w85 x := fun x hx => by rw [ew105]; exact zup_n hx
            have hc105 : w105 m = some (.inl (15, zMo m (zs (zs (zs (zs (zs g 13 A9_56) 16 v105) 17 X9_56) 18 Y9_56) 19 Z9_56) r)) := by rw [ew105]; exact zup_s
            rw [← ew105]
            clear ew105
            refine zp_seg (pc' := 5) (lv' := [(0, .ref m), (1, .ref (m + 6316 + 9 * (g 16).toNatClampNeg)), (2, .int z0_42), (3, .int A9_6), (4, .ref (m + 6316 + 9 * cQ.toNatClampNeg))]) (st' := []) [(108, .goto (-103))] (by decide +kernel) rfl ?_
            have hb33 : zTi w105 (m + 6316 + 9 * (g 16).toNatClampNeg) K9_85 := hp85_0.ag (fun x hx1 hx2 => (heq105 x (by omega)))
            have hb34 : zPil w105 (m + 6316) := hPl98.ag (fun x hx1 hx2 => (heq105 x (zx_X16_valueU_3 hx1 hx2)))
            exact (ih5 w105 (A9_56) (v105) (X9_56) (Y9_56) (Z9_56) (K9_85) (((((hsiL5.tr hsi6).tr hsi51).tr hsi56).tr hsi85).tr hsi105) (fun x hx => ((heq105 x hx.2).trans ((heq85 x (by omega)).trans ((heq56 x (by omega)).trans ((heq51 x hx.2).trans ((heq6 x hx.1.1).trans (heqL5 x ⟨⟨hx.1.1, hx.1.2.1, hx.1.2.2.1, hx.1.2.2.2.1, hx.1.2.2.2.2.1, hx.1.2.2.2.2.2.1, hx.1.2.2.2.2.2.2⟩, hx.2⟩))))))) (by
                  exact hc105) hb33 hb34 (by
                  exact ⟨hp85_1, by omega, by omega, by omega⟩) (by omega)).more (zfa1 rfl (zfa1 rfl (zfa0)))
          ·
            replace cc88 := Classical.not_not.mp cc88
            have f36 := zeqI cc88
            rw [show (0 : Int32).toInt = 0 from by decide] at f36
            have hPl91 := hp56_2.up (w' := w85) (g 16).toNatClampNeg hp85_0 (fun x h1 h2 h3 => (heq85 x (by omega)))
            refine zp_seg (pc' := 94) (lv' := [(0, .ref m), (1, .ref (m + 6316 + 9 * (g 16).toNatClampNeg)), (2, .int z0_42), (3, .int A9_6), (4, .ref (m + 6316 + 9 * cQ.toNatClampNeg))]) (st' := [.int A9_6, .int 4, .ref m]) [(91, .aload_n 0), (92, .iconst 4), (93, .iload_n 3)] (by decide +kernel) rfl ?_
            have hb37 : w85 m = some (.inl (15, zMo m (zs (zs (zs (zs (zs g 13 A9_56) 16 Q9_56) 17 X9_56) 18 Y9_56) 19 Z9_56) r)) := (heq85 m (by omega)).trans hM56
            have hb38 := hb26.si hsi85
            refine zr_callV (idx := 346) (j := 318) (by decide +kernel) (by decide +kernel) (show zMe 318 = some zq_X16_fail from rfl) rfl rfl (Nat.le_of_ble_eq_true rfl) rfl rfl hb37 (Nat.le_of_ble_eq_true rfl) (Nat.le_of_ble_eq_true rfl) (c_X16_fail (w := w85) m 4 A9_6 hb37 hb38) (by omega) (fun v94 w94 hp94 => ?_)
            obtain ⟨hsi94, heq94, hp94_0, rfl⟩ := hp94
            have hM94 : w94 m = some (.inl (15, zMo m (zs (zs (zs (zs (zs (zs (zs g 9 4) 10 A9_6) 13 A9_56) 16 Q9_56) 17 X9_56) 18 Y9_56) 19 Z9_56) r)) := hp94_0
            show zP _ _ _ _ [.ref (m + 79)] _ _ _ _ _
            have hb39 := hb38.si hsi94
            obtain ⟨fs9, hst9⟩ := hb39.stop
            refine zr_thr (by decide +kernel) hst9 ?_
            have hb40 : zPil w94 (m + 6316) := hPl91.ag (fun x hx1 hx2 => (heq94 x (zx_X16_valueU_2 hx1 hx2)))
            rw [← hPost]; exact ⟨rfl, Or.inr ⟨rfl, (zs (zs (zs (zs (zs (zs (zs g 9 4) 10 A9_6) 13 A9_56) 16 Q9_56) 17 X9_56) 18 Y9_56) 19 Z9_56), ((((((hsi1.tr hsiL5).tr hsi6).tr hsi51).tr hsi56).tr hsi85).tr hsi94), (fun x hx => ((heq94 x hx.1).trans ((heq85 x (by omega)).trans ((heq56 x (by omega)).trans ((heq51 x (zx_X16_valueU_4 hx.1)).trans ((heq6 x hx.1).trans ((heqL5 x ⟨⟨hx.1, hx.2.1, hx.2.2.1, hx.2.2.2.1, hx.2.2.2.2.1, hx.2.2.2.2.2.1, hx.2.2.2.2.2.2⟩, (zx_X16_valueU_4 hx.1)⟩).trans (heq1 x ⟨hx.1, hx.2.1, hx.2.2.1, hx.2.2.2.1, hx.2.2.2.2.1, hx.2.2.2.2.2.1, hx.2.2.2.2.2.2⟩)))))))), hM94, (by
                  first | exact hx9_1 | exact ⟨rfl, rfl, rfl, rfl⟩), hb40⟩⟩
        refine zp_if (i := .ifCond .eq 18) (c := z0_42 = 0) (t := 80) (e := 65) (lv' := [(4, .ref (m + 6316 + 9 * cQ.toNatClampNeg)), (3, .int A9_6), (2, .int z0_42), (0, .ref m), (1, .ref (m + 6316 + 9 * (g 16).toNatClampNeg))]) (st' := []) (by decide +kernel) rfl (fun cc62 => ?_) (fun cc62 => ?_)
        ·
          have f42 := zeqI cc62
          rw [show (0 : Int32).toInt = 0 from by decide] at f42
          exact (hJ80 trivial (by
                first | exact fun e => absurd (cc62.symm.trans e) (by decide) | exact fun _ => ⟨_, hAn2, hp56_3.1.elim (fun e => hr67.2 cc70 (hK20.trans e)) (fun e => hKk2.2.2.1 e)⟩)).more (zfa1 rfl (zfa1 rfl (zfa1 rfl (zfa1 rfl (zfa1 rfl (zfa0))))))
        ·
          have f44 := zneI cc62
          rw [show (0 : Int32).toInt = 0 from by decide] at f44
          refine zp_seg (pc' := 67) (lv' := [(4, .ref (m + 6316 + 9 * cQ.toNatClampNeg)), (3, .int A9_6), (2, .int z0_42), (0, .ref m), (1, .ref (m + 6316 + 9 * (g 16).toNatClampNeg))]) (st' := [.ref (m + 6316 + 9 * cQ.toNatClampNeg)]) [(65, .aload 4)] (by decide +kernel) rfl ?_
          refine zr_callS (idx := 288) (j := 306) (by decide +kernel) (by decide +kernel) (by decide) (show zMe 306 = some zq_X16_isZero from rfl) rfl rfl (Nat.le_of_ble_eq_true rfl) rfl rfl (Nat.le_of_ble_eq_true rfl) (Nat.le_of_ble_eq_true rfl) (c_X16_isZero (w := w56) (m + 6316 + 9 * cQ.toNatClampNeg) hT2 hAn2 (by exact hKn2)) (by omega) (fun v67 w67 hp67 => ?_)
          obtain ⟨hpw67, r67, rfl, hrb67, hr67⟩ := hp67
          replace hpw67 := hpw67.symm
          subst hpw67
          have kr67 := zrng r67
          show zP _ _ _ _ [.int r67] _ _ _ _ _
          refine zp_if (i := .ifCond .eq 10) (c := r67 = 0) (t := 80) (e := 73) (lv' := [(4, .ref (m + 6316 + 9 * cQ.toNatClampNeg)), (3, .int A9_6), (2, .int z0_42), (0, .ref m), (1, .ref (m + 6316 + 9 * (g 16).toNatClampNeg))]) (st' := []) (by decide +kernel) rfl (fun cc70 => ?_) (fun cc70 => ?_)
          ·
            have f45 := zeqI cc70
            rw [show (0 : Int32).toInt = 0 from by decide] at f45
            exact (hJ80 trivial (by
                  first | exact fun e => absurd (cc62.symm.trans e) (by decide) | exact fun _ => ⟨_, hAn2, hp56_3.1.elim (fun e => hr67.2 cc70 (hK20.trans e)) (fun e => hKk2.2.2.1 e)⟩)).more (zfa1 rfl (zfa1 rfl (zfa1 rfl (zfa1 rfl (zfa1 rfl (zfa0))))))
          ·
            have f46 := zneI cc70
            rw [show (0 : Int32).toInt = 0 from by decide] at f46
            refine zp_seg (pc' := 76) (lv' := [(4, .ref (m + 6316 + 9 * cQ.toNatClampNeg)), (3, .int A9_6), (2, .int z0_42), (0, .ref m), (1, .ref (m + 6316 + 9 * (g 16).toNatClampNeg))]) (st' := [.int A9_6, .int 3, .ref m]) [(73, .aload_n 0), (74, .iconst 3), (75, .iload_n 3)] (by decide +kernel) rfl ?_
            have hb47 := hb23.si hsi56
            refine zr_callV (idx := 346) (j := 318) (by decide +kernel) (by decide +kernel) (show zMe 318 = some zq_X16_fail from rfl) rfl rfl (Nat.le_of_ble_eq_true rfl) rfl rfl hM56 (Nat.le_of_ble_eq_true rfl) (Nat.le_of_ble_eq_true rfl) (c_X16_fail (w := w56) m 3 A9_6 hM56 hb47) (by omega) (fun v76 w76 hp76 => ?_)
            obtain ⟨hsi76, heq76, hp76_0, rfl⟩ := hp76
            have hM76 : w76 m = some (.inl (15, zMo m (zs (zs (zs (zs (zs (zs (zs g 9 3) 10 A9_6) 13 A9_56) 16 Q9_56) 17 X9_56) 18 Y9_56) 19 Z9_56) r)) := hp76_0
            show zP _ _ _ _ [.ref (m + 79)] _ _ _ _ _
            have hb48 := hb47.si hsi76
            obtain ⟨fs9, hst9⟩ := hb48.stop
            refine zr_thr (by decide +kernel) hst9 ?_
            have hb49 : zPil w76 (m + 6316) := hp56_2.ag (fun x hx1 hx2 => (heq76 x (zx_X16_valueU_2 hx1 hx2)))
            rw [← hPost]; exact ⟨rfl, Or.inr ⟨rfl, (zs (zs (zs (zs (zs (zs (zs g 9 3) 10 A9_6) 13 A9_56) 16 Q9_56) 17 X9_56) 18 Y9_56) 19 Z9_56), (((((hsi1.tr hsiL5).tr hsi6).tr hsi51).tr hsi56).tr hsi76), (fun x hx => ((heq76 x hx.1).trans ((heq56 x (by omega)).trans ((heq51 x (zx_X16_valueU_4 hx.1)).trans ((heq6 x hx.1).trans ((heqL5 x ⟨⟨hx.1, hx.2.1, hx.2.2.1, hx.2.2.2.1, hx.2.2.2.2.1, hx.2.2.2.2.2.1, hx.2.2.2.2.2.2⟩, (zx_X16_valueU_4 hx.1)⟩).trans (heq1 x ⟨hx.1, hx.2.1, hx.2.2.1, hx.2.2.2.1, hx.2.2.2.2.1, hx.2.2.2.2.2.1, hx.2.2.2.2.2.2⟩))))))), hM76, (by
                  first | exact hx9_1 | exact ⟨rfl, rfl, rfl, rfl⟩), hb49⟩⟩
      refine zp_if (i := .if_icmp .ne 7) (c := ¬ x31 = 47) (t := 41) (e := 37) (lv' := [(0, .ref m), (1, .ref (m + 6316 + 9 * (g 16).toNatClampNeg))]) (st' := []) (by decide +kernel) rfl (fun cc34 => ?_) (fun cc34 => ?_)
      ·
        have f51 := zneI cc34
        rw [show (47 : Int32).toInt = 47 from by decide] at f51
        refine zp_seg (pc' := 42) (lv' := [(0, .ref m), (1, .ref (m + 6316 + 9 * (g 16).toNatClampNeg))]) (st' := [.int 0]) [(41, .iconst 0)] (by decide +kernel) rfl ?_
        have hl52 : (0 : Int32).toInt = 0 := by decide
        exact (hJ42 0 (by first | assumption | omega | decide)).more (zfa1 rfl (zfa1 rfl (zfa0)))
      ·
        replace cc34 := Classical.not_not.mp cc34
        have f54 := zeqI cc34
        rw [show (47 : Int32).toInt = 47 from by decide] at f54
        refine zp_seg (pc' := 42) (lv' := [(0, .ref m), (1, .ref (m + 6316 + 9 * (g 16).toNatClampNeg))]) (st' := [.int 1]) [(37, .iconst 1), (38, .goto 4)] (by decide +kernel) rfl ?_
        have hl55 : (1 : Int32).toInt = 1 := by decide
        exact (hJ42 1 (by first | assumption | omega | decide)).more (zfa1 rfl (zfa1 rfl (zfa0)))
    ·
      have f57 := zneI cc11
      rw [show (42 : Int32).toInt = 42 from by decide] at f57
      refine zp_seg (pc' := 15) (lv' := [(0, .ref m), (1, .ref (m + 6316 + 9 * (g 16).toNatClampNeg))]) (st' := [.ref m]) [(14, .aload_n 0)] (by decide +kernel) rfl ?_
      have k58 := zrng A9_6
      have hb59 := hb12.si hsi6
      have hb60 : w6 (m + 80) = some (.inr (1, 400, .inl ft)) := (heq6 (m + 80) (zx_X16_valueU_0)).trans hb13
      refine zr_callV (idx := 343) (j := 319) (by decide +kernel) (by decide +kernel) (show zMe 319 = some zq_X16_look from rfl) rfl rfl (Nat.le_of_ble_eq_true rfl) rfl rfl hM6 (Nat.le_of_ble_eq_true rfl) (Nat.le_of_ble_eq_true rfl) (c_X16_look (w := w6) (g12 := (g 12)) (g13 := A9_6) m hM6 hb59 (by first | omega | decide | assumption | exact zr1_1 | exact zr1_0 | fail "num") hb60 (by first | omega | decide | assumption | exact zr1_1 | exact zr1_0 | fail "num") rfl rfl) (by omega) (fun v15 w15 hp15 => ?_)
      obtain ⟨A9_15, hsi15, heq15, hp15_0, hp15_1, r15, rfl, hr15⟩ := hp15
      have hM15 : w15 m = some (.inl (15, zMo m (zs (zs (zs (zs (zs g 13 A9_15) 16 cQ) 17 cX) 18 cY) 19 cZ) r)) := hp15_0
      have kr15 := zrng r15
      show zP _ _ _ _ [.int r15] _ _ _ _ _
      have hlk15 := hp15_1.2.2
      have hzA15 := znat (x := A9_15) (by omega)
      refine zp_seg (pc' := 20) (lv' := [(0, .ref m), (1, .ref (m + 6316 + 9 * (g 16).toNatClampNeg))]) (st' := [.int 47, .int r15]) [(18, .bipush 47)] (by decide +kernel) rfl ?_
      refine zp_if (i := .if_icmp .ne 91) (c := ¬ r15 = 47) (t := 111) (e := 23) (lv' := [(0, .ref m), (1, .ref (m + 6316 + 9 * (g 16).toNatClampNeg))]) (st' := []) (by decide +kernel) rfl (fun cc20 => ?_) (fun cc20 => ?_)
      ·
        have f62 := zneI cc20
        rw [show (47 : Int32).toInt = 47 from by decide] at f62
        refine zp_seg (pc' := 112) (lv' := [(0, .ref m), (1, .ref (m + 6316 + 9 * (g 16).toNatClampNeg))]) (st' := [.ref (m + 6316 + 9 * (g 16).toNatClampNeg)]) [(111, .aload_n 1)] (by decide +kernel) rfl ?_
        have hoffend : ∀ x, (x < m ∨ m + 1 ≤ x) ∧ (x < m + 6316 + 9 * (g 16).toNatClampNeg ∨ m + 6316 + 9 * (g 16).toNatClampNeg + (1170 - 9 * (g 16).toNatClampNeg) ≤ x) ∧ (x < m + 78 ∨ m + 78 + 1 ≤ x) ∧ (x < m + 276 + 2 * (g 1).toNatClampNeg ∨ m + 276 + 2 * (g 1).toNatClampNeg + (320 - 2 * (g 1).toNatClampNeg) ≤ x) ∧ (x < m + 596 + 130 * (g 3).toNatClampNeg ∨ m + 596 + 130 * (g 3).toNatClampNeg + (5720 - 130 * (g 3).toNatClampNeg) ≤ x) ∧ (x < m + 3 ∨ m + 3 + 1 ≤ x) ∧ (x < m + 5 ∨ m + 5 + 64 ≤ x) → w15 x = w x := fun x hx => ((heq15 x hx.1).trans ((heq6 x hx.1).trans ((heqL5 x ⟨⟨hx.1, hx.2.1, hx.2.2.1, hx.2.2.2.1, hx.2.2.2.2.1, hx.2.2.2.2.2.1, hx.2.2.2.2.2.2⟩, (zx_X16_valueU_4 hx.1)⟩).trans (heq1 x ⟨hx.1, hx.2.1, hx.2.2.1, hx.2.2.2.1, hx.2.2.2.2.1, hx.2.2.2.2.2.1, hx.2.2.2.2.2.2⟩))))
        have hb63 : zTi w15 (m + 6316 + 9 * (g 16).toNatClampNeg) cK := hcT.ag (fun x hx1 hx2 => ((heq15 x (by omega)).trans (heq6 x (by omega))))
        have hb64 : zPil w15 (m + 6316) := hcP.ag (fun x hx1 hx2 => ((heq15 x (zx_X16_valueU_2 hx1 hx2)).trans (heq6 x (zx_X16_valueU_2 hx1 hx2))))
        refine zr_retA (by decide +kernel) rfl ?_
        rw [← hPost]; exact ⟨rfl, Or.inl ⟨_, rfl, A9_15, cQ, cX, cY, cZ, cK, (((hsi1.tr hsiL5).tr hsi6).tr hsi15), hoffend, hM15, (by first | exact hb63 | (have z9 := hb63; simpa using z9)), hb64, (by
              exact ⟨hcN.1, by omega, by omega, by omega⟩), rfl⟩⟩
      ·
        replace cc20 := Classical.not_not.mp cc20
        have f66 := zeqI cc20
        rw [show (47 : Int32).toInt = 47 from by decide] at f66
        obtain ⟨P9, hP9⟩ : ∃ P, P = (A9_15).toNatClampNeg := ⟨_, rfl⟩
        have hzP : (P9 : Int) = (A9_15).toInt := by rw [hP9]; exact znat (by omega)
        obtain ⟨hq1, hq2⟩ : P9 < (g 12).toNatClampNeg ∧ zDep ft (P9 + 1) = zDep ft P9 := by
          rw [hP9]
          first
          | exact zChr_p (hr6.symm.trans cc11) (by decide) (by decide) (by decide)
          | exact zChr_p (hr15.symm.trans cc20) (by decide) (by decide) (by decide)
        have hq0 : zDep ft P9 = zDep ft (A9_15).toNatClampNeg := by rw [hP9]
        refine zp_seg (pc' := 24) (lv' := [(0, .ref m), (1, .ref (m + 6316 + 9 * (g 16).toNatClampNeg))]) (st' := [.ref m]) [(23, .aload_n 0)] (by decide +kernel) rfl ?_
        refine zr_get (idx := 339) (k := 11) (v := .ref (m + 80)) (by decide +kernel) (by decide +kernel) hM15 rfl ?_
        refine zp_seg (pc' := 28) (lv' := [(0, .ref m), (1, .ref (m + 6316 + 9 * (g 16).toNatClampNeg))]) (st' := [.ref m, .ref (m + 80)]) [(27, .aload_n 0)] (by decide +kernel) rfl ?_
        refine zr_get (idx := 334) (k := 13) (v := .int A9_15) (by decide +kernel) (by decide +kernel) hM15 rfl ?_
        have hb67 : w15 (m + 80) = some (.inr (1, 400, .inl ft)) := (heq15 (m + 80) (zx_X16_valueU_0)).trans hb60
        have k68 := zrng A9_15
        refine zr_bald (by decide +kernel) hb67 (by decide) (zin (by first | omega | decide) (by first | omega | decide)) ?_
        have hz69 : (A9_15.toNatClampNeg : Int) = A9_15.toInt := znat (by first | omega | decide)
        obtain ⟨x31, ex31⟩ : ∃ x9, x9 = ft (A9_15.toNatClampNeg) := ⟨_, rfl⟩
        rw [← ex31]
        have kx31 := zrng x31
        refine zp_seg (pc' := 34) (lv' := [(0, .ref m), (1, .ref (m + 6316 + 9 * (g 16).toNatClampNeg))]) (st' := [.int 47, .int x31]) [(32, .bipush 47)] (by decide +kernel) rfl ?_
        have hJ42 : ∀ (z0_42 : Int32), ((z0_42 = 0 ∨ z0_42 = 1)) → zP (d + 1) zq_X16_valueU 42 [(0, .ref m), (1, .ref (m + 6316 + 9 * (g 16).toNatClampNeg))] [.int z0_42] w15 sz 0 0 Post := by
          intro z0_42 hi42_0
          have kz0_42 := zrng z0_42
          refine zp_seg (pc' := 45) (lv' := [(2, .int z0_42), (0, .ref m), (1, .ref (m + 6316 + 9 * (g 16).toNatClampNeg))]) (st' := [.ref m, .ref m]) [(42, .istore_n 2), (43, .aload_n 0), (44, .dup)] (by decide +kernel) rfl ?_
          refine zr_get (idx := 334) (k := 13) (v := .int A9_15) (by decide +kernel) (by decide +kernel) hM15 rfl ?_
          refine zp_seg (pc' := 51) (lv' := [(2, .int z0_42), (0, .ref m), (1, .ref (m + 6316 + 9 * (g 16).toNatClampNeg))]) (st' := [.int (A9_15 + 1), .ref m, .int A9_15]) [(48, .dup_x1), (49, .iconst 1), (50, .iadd)] (by decide +kernel) rfl ?_
          have k70 := zaddC A9_15 1 (n := 1) (by decide) (by omega) (by omega)
          generalize ev51 : (A9_15 + 1 : Int32) = v51 at k70 ⊢
          have kv51 := zrng v51
          refine zr_put2 (idx := 334) (k := 13) (fs2 := zMo m (zs (zs (zs (zs (zs g 13 v51) 16 cQ) 17 cX) 18 cY) 19 cZ) r) (by decide +kernel) (by decide +kernel) hM15 (Nat.le_of_ble_eq_true rfl) rfl rfl rfl ?_
          show zP (d + 1) zq_X16_valueU 54 [(2, .int z0_42), (0, .ref m), (1, .ref (m + 6316 + 9 * (g 16).toNatClampNeg))] [.int A9_15] (zup w15 m (.inl (15, zMo m (zs (zs (zs (zs (zs g 13 v51) 16 cQ) 17 cX) 18 cY) 19 cZ) r))) sz 0 0 Post
          obtain ⟨w51, ew51⟩ : ∃ wz9, wz9 = zup w15 m (.inl (15, zMo m (zs (zs (zs (zs (zs g 13 v51) 16 cQ) 17 cX) 18 cY) 19 cZ) r)) := ⟨_, rfl⟩
          have hsi51 : zSI w15 w51 := by rw [ew51]; exact zSI.setG hM15 _ _
          have heq51 : ∀ x, x ≠ m → w51 x = w15 x := fun x hx => by rw [ew51]; exact zup_n hx
          have hc51 : w51 m = some (.inl (15, zMo m (zs (zs (zs (zs (zs g 13 v51) 16 cQ) 17 cX) 18 cY) 19 cZ) r)) := by rw [ew51]; exact zup_s
          rw [← ew51]
          clear ew51
          have hz9 := znat (x := v51) (by omega)
          have hq3 : zDep ft (v51).toNatClampNeg = zDep ft P9 := by rw [show (v51).toNatClampNeg = P9 + 1 by omega]; exact hq2
          refine zp_seg (pc' := 56) (lv' := [(3, .int A9_15), (2, .int z0_42), (0, .ref m), (1, .ref (m + 6316 + 9 * (g 16).toNatClampNeg))]) (st' := [.ref m]) [(54, .istore_n 3), (55, .aload_n 0)] (by decide +kernel) rfl ?_
          have k71 := zrng cQ
          have hz72 : (v51.toNatClampNeg : Int) = v51.toInt := znat (by first | omega | decide)
          have hz73 : (cQ.toNatClampNeg : Int) = cQ.toInt := znat (by first | omega | decide)
          have hb74 := hb59.si (hsi15.tr hsi51)
          have hb75 : w51 (m + 80) = some (.inr (1, 400, .inl ft)) := (heq51 (m + 80) (zx_X16_valueU_1)).trans hb67
          have hb76 : zPil w51 (m + 6316) := hcP.ag (fun x hx1 hx2 => ((heq51 x (zx_X16_valueU_3 hx1 hx2)).trans ((heq15 x (zx_X16_valueU_2 hx1 hx2)).trans (heq6 x (zx_X16_valueU_2 hx1 hx2)))))
          refine zr_callVT (idx := 385) (j := 332) (by decide +kernel) (by decide +kernel) (show zMe 332 = some zq_X16_valueW from rfl) rfl rfl (Nat.le_of_ble_eq_true rfl) rfl rfl hc51 (Nat.le_of_ble_eq_true rfl) (Nat.le_of_ble_eq_true rfl) (hc9 (w := w51) (g1 := (g 1)) (g3 := (g 3)) (g12 := (g 12)) (g13 := v51) (g16 := cQ) m hc51 hb74 (by first | omega | decide | assumption | exact zr1_1 | exact zr1_0 | fail "num") hb75 (by first | omega | decide | assumption | exact zr1_1 | exact zr1_0 | fail "num") hb76 (by first | omega | decide | assumption | exact zr1_1 | exact zr1_0 | fail "num") (by first | omega | decide | assumption | exact zr1_1 | exact zr1_0 | fail "num") (by first | omega | decide | assumption | exact zr1_1 | exact zr1_0 | fail "num") (by first | omega | decide | assumption | exact zr1_1 | exact zr1_0 | fail "num") rfl rfl rfl rfl rfl) (by omega) (fun v56 w56 hp56 => ?_) (fun wx9 hx9 => by
                obtain ⟨G9_x9, hsix9, heqx9, hx9_0, hx9_1, hx9_2⟩ := hx9
                skip
                rw [← hPost]
                exact ⟨rfl, Or.inr ⟨rfl, G9_x9, (((((hsi1.tr hsiL5).tr hsi6).tr hsi15).tr hsi51).tr hsix9), (fun x hx => ((heqx9 x (by omega)).trans ((heq51 x (zx_X16_valueU_4 hx.1)).trans ((heq15 x hx.1).trans ((heq6 x hx.1).trans ((heqL5 x ⟨⟨hx.1, hx.2.1, hx.2.2.1, hx.2.2.2.1, hx.2.2.2.2.1, hx.2.2.2.2.2.1, hx.2.2.2.2.2.2⟩, (zx_X16_valueU_4 hx.1)⟩).trans (heq1 x ⟨hx.1, hx.2.1, hx.2.2.1, hx.2.2.2.1, hx.2.2.2.2.1, hx.2.2.2.2.2.1, hx.2.2.2.2.2.2⟩))))))), hx9_0, (by
                      first | exact hx9_1 | exact ⟨rfl, rfl, rfl, rfl⟩), hx9_2⟩⟩)
          obtain ⟨A9_56, Q9_56, X9_56, Y9_56, Z9_56, K9_56, hsi56, heq56, hp56_0, hp56_1, hp56_2, hp56_3, rfl⟩ := hp56
          have hM56 : w56 m = some (.inl (15, zMo m (zs (zs (zs (zs (zs g 13 A9_56) 16 Q9_56) 17 X9_56) 18 Y9_56) 19 Z9_56) r)) := hp56_0
          show zP _ _ _ _ [.ref (m + 6316 + 9 * cQ.toNatClampNeg)] _ _ _ _ _
          have hv56 := hp56_3
          have hzA56 := znat (x := A9_56) (by omega)
          have hzQ56 := znat (x := Q9_56) (by omega)
          refine zp_seg (pc' := 61) (lv' := [(4, .ref (m + 6316 + 9 * cQ.toNatClampNeg)), (3, .int A9_15), (2, .int z0_42), (0, .ref m), (1, .ref (m + 6316 + 9 * (g 16).toNatClampNeg))]) (st' := []) [(59, .astore 4)] (by decide +kernel) rfl ?_
          obtain ⟨g2, fn2, fd2, fa2, fb2, fc2, fe2, fr2, fu2, hT2, hAn2, hAd2, hAa2, hAb2, hAc2, hAe2, hAr2, hAu2, hK2⟩ := id hp56_1
          obtain ⟨hK20, hKn2, hKd2, hKx2, hKm2, hKl2, hKr2, hKu2, hKk2⟩ := id hK2
          refine zp_seg (pc' := 62) (lv' := [(4, .ref (m + 6316 + 9 * cQ.toNatClampNeg)), (3, .int A9_15), (2, .int z0_42), (0, .ref m), (1, .ref (m + 6316 + 9 * (g 16).toNatClampNeg))]) (st' := [.int z0_42]) [(61, .iload_n 2)] (by decide +kernel) rfl ?_
          have hJ80 : ∀ (_ : True), (z0_42 = 1 → zNz w56 (m + 6316 + 9 * cQ.toNatClampNeg)) → zP (d + 1) zq_X16_valueU 80 [(0, .ref m), (1, .ref (m + 6316 + 9 * (g 16).toNatClampNeg)), (2, .int z0_42), (3, .int A9_15), (4, .ref (m + 6316 + 9 * cQ.toNatClampNeg))] [] w56 sz 0 0 Post := by
            intro _ hnz9
            refine zp_seg (pc' := 85) (lv' := [(0, .ref m), (1, .ref (m + 6316 + 9 * (g 16).toNatClampNeg)), (2, .int z0_42), (3, .int A9_15), (4, .ref (m + 6316 + 9 * cQ.toNatClampNeg))]) (st' := [.int z0_42, .ref (m + 6316 + 9 * cQ.toNatClampNeg), .ref (m + 6316 + 9 * (g 16).toNatClampNeg), .ref m]) [(80, .aload_n 0), (81, .aload_n 1), (82, .aload 4), (84, .iload_n 2)] (by decide +kernel) rfl ?_
            have hb77 := hb74.si hsi56
            have hb78 : zTi w56 (m + 6316 + 9 * (g 16).toNatClampNeg) cK := hcT.ag (fun x hx1 hx2 => ((heq56 x (by omega)).trans ((heq51 x (by omega)).trans ((heq15 x (by omega)).trans (heq6 x (by omega))))))
            refine zr_callV (idx := 388) (j := 314) (by decide +kernel) (by decide +kernel) (show zMe 314 = some zq_X16_multiply_ from rfl) rfl rfl (Nat.le_of_ble_eq_true rfl) rfl rfl hM56 (Nat.le_of_ble_eq_true rfl) (Nat.le_of_ble_eq_true rfl) (c_X16_multiply_W (w := w56) (g1 := (g 1)) (g3 := (g 3)) m (m + 6316 + 9 * (g 16).toNatClampNeg) (m + 6316 + 9 * cQ.toNatClampNeg) z0_42 hM56 hb77 hb78 hp56_1 (by first | omega | decide | assumption | exact zr1_1 | exact zr1_0 | fail "num") (by first | omega | decide | assumption | exact zr1_1 | exact zr1_0 | fail "num") (by first | omega | decide | assumption | exact zr1_1 | exact zr1_0 | fail "num") (by first | omega | decide | assumption | exact zr1_1 | exact zr1_0 | fail "num") (by first | omega | decide | assumption | exact zr1_1 | exact zr1_0 | fail "num") (by exact hcN.1) (by exact hp56_3.1) (by exact hnz9) (by first | omega | decide | assumption | exact zr1_1 | exact zr1_0 | fail "num") rfl rfl) (by omega) (fun v85 w85 hp85 => ?_)
            obtain ⟨K9_85, hsi85, heq85, hp85_0, hp85_1, r85, rfl, hrb85, hr85⟩ := hp85
            have kr85 := zrng r85
            show zP _ _ _ _ [.int r85] _ _ _ _ _
            refine zp_if (i := .ifCond .ne 10) (c := ¬ r85 = 0) (t := 98) (e := 91) (lv' := [(0, .ref m), (1, .ref (m + 6316 + 9 * (g 16).toNatClampNeg)), (2, .int z0_42), (3, .int A9_15), (4, .ref (m + 6316 + 9 * cQ.toNatClampNeg))]) (st' := []) (by decide +kernel) rfl (fun cc88 => ?_) (fun cc88 => ?_)
            ·
              have f80 := zneI cc88
              rw [show (0 : Int32).toInt = 0 from by decide] at f80
              have hPl98 := hp56_2.up (w' := w85) (g 16).toNatClampNeg hp85_0 (fun x h1 h2 h3 => (heq85 x (by omega)))
              refine zp_seg (pc' := 100) (lv' := [(0, .ref m), (1, .ref (m + 6316 + 9 * (g 16).toNatClampNeg)), (2, .int z0_42), (3, .int A9_15), (4, .ref (m + 6316 + 9 * cQ.toNatClampNeg))]) (st' := [.ref m, .ref m]) [(98, .aload_n 0), (99, .dup)] (by decide +kernel) rfl ?_
              have hb81 : w85 m = some (.inl (15, zMo m (zs (zs (zs (zs (zs g 13 A9_56) 16 Q9_56) 17 X9_56) 18 Y9_56) 19 Z9_56) r)) := (heq85 m (by omega)).trans hM56
              refine zr_get (idx := 375) (k := 16) (v := .int Q9_56) (by decide +kernel) (by decide +kernel) hb81 rfl ?_
              refine zp_seg (pc' := 105) (lv' := [(0, .ref m), (1, .ref (m + 6316 + 9 * (g 16).toNatClampNeg)), (2, .int z0_42), (3, .int A9_15), (4, .ref (m + 6316 + 9 * cQ.toNatClampNeg))]) (st' := [.int (Q9_56 - 1), .ref m]) [(103, .iconst 1), (104, .isub)] (by decide +kernel) rfl ?_
              have k82 := zrng Q9_56
              have k83 := zsubC Q9_56 1 (n := 1) (by decide) (by omega) (by omega)
              generalize ev105 : (Q9_56 - 1 : Int32) = v105 at k83 ⊢
              have kv105 := zrng v105
              refine zr_put2 (idx := 375) (k := 16) (fs2 := zMo m (zs (zs (zs (zs (zs g 13 A9_56) 16 v105) 17 X9_56) 18 Y9_56) 19 Z9_56) r) (by decide +kernel) (by decide +kernel) hb81 (Nat.le_of_ble_eq_true rfl) rfl rfl rfl ?_
              show zP (d + 1) zq_X16_valueU 108 [(0, .ref m), (1, .ref (m + 6316 + 9 * (g 16).toNatClampNeg)), (2, .int z0_42), (3, .int A9_15), (4, .ref (m + 6316 + 9 * cQ.toNatClampNeg))] [] (zup w85 m (.inl (15, zMo m (zs (zs (zs (zs (zs g 13 A9_56) 16 v105) 17 X9_56) 18 Y9_56) 19 Z9_56) r))) sz 0 0 Post
              obtain ⟨w105, ew105⟩ : ∃ wz9, wz9 = zup w85 m (.inl (15, zMo m (zs (zs (zs (zs (zs g 13 A9_56) 16 v105) 17 X9_56) 18 Y9_56) 19 Z9_56) r)) := ⟨_, rfl⟩
              have hsi105 : zSI w85 w105 := by rw [ew105]; exact zSI.setG hb81 _ _
              have heq105 : ∀ x, x ≠ m → w105 x = w85 x := fun x hx => by rw [ew105]; exact zup_n hx
              have hc105 : w105 m = some (.inl (15, zMo m (zs (zs (zs (zs (zs g 13 A9_56) 16 v105) 17 X9_56) 18 Y9_56) 19 Z9_56) r)) := by rw [ew105]; exact zup_s
              rw [← ew105]
              clear ew105
              refine zp_seg (pc' := 5) (lv' := [(0, .ref m), (1, .ref (m + 6316 + 9 * (g 16).toNatClampNeg)), (2, .int z0_42), (3, .int A9_15), (4, .ref (m + 6316 + 9 * cQ.toNatClampNeg))]) (st' := []) [(108, .goto (-103))] (by decide +kernel) rfl ?_
              have hb84 : zTi w105 (m + 6316 + 9 * (g 16).toNatClampNeg) K9_85 := hp85_0.ag (fun x hx1 hx2 => (heq105 x (by omega)))
              have hb85 : zPil w105 (m + 6316) := hPl98.ag (fun x hx1 hx2 => (heq105 x (zx_X16_valueU_3 hx1 hx2)))
              exact (ih5 w105 (A9_56) (v105) (X9_56) (Y9_56) (Z9_56) (K9_85) ((((((hsiL5.tr hsi6).tr hsi15).tr hsi51).tr hsi56).tr hsi85).tr hsi105) (fun x hx => ((heq105 x hx.2).trans ((heq85 x (by omega)).trans ((heq56 x (by omega)).trans ((heq51 x hx.2).trans ((heq15 x hx.1.1).trans ((heq6 x hx.1.1).trans (heqL5 x ⟨⟨hx.1.1, hx.1.2.1, hx.1.2.2.1, hx.1.2.2.2.1, hx.1.2.2.2.2.1, hx.1.2.2.2.2.2.1, hx.1.2.2.2.2.2.2⟩, hx.2⟩)))))))) (by
                    exact hc105) hb84 hb85 (by
                    exact ⟨hp85_1, by omega, by omega, by omega⟩) (by omega)).more (zfa1 rfl (zfa1 rfl (zfa0)))
            ·
              replace cc88 := Classical.not_not.mp cc88
              have f87 := zeqI cc88
              rw [show (0 : Int32).toInt = 0 from by decide] at f87
              have hPl91 := hp56_2.up (w' := w85) (g 16).toNatClampNeg hp85_0 (fun x h1 h2 h3 => (heq85 x (by omega)))
              refine zp_seg (pc' := 94) (lv' := [(0, .ref m), (1, .ref (m + 6316 + 9 * (g 16).toNatClampNeg)), (2, .int z0_42), (3, .int A9_15), (4, .ref (m + 6316 + 9 * cQ.toNatClampNeg))]) (st' := [.int A9_15, .int 4, .ref m]) [(91, .aload_n 0), (92, .iconst 4), (93, .iload_n 3)] (by decide +kernel) rfl ?_
              have hb88 : w85 m = some (.inl (15, zMo m (zs (zs (zs (zs (zs g 13 A9_56) 16 Q9_56) 17 X9_56) 18 Y9_56) 19 Z9_56) r)) := (heq85 m (by omega)).trans hM56
              have hb89 := hb77.si hsi85
              refine zr_callV (idx := 346) (j := 318) (by decide +kernel) (by decide +kernel) (show zMe 318 = some zq_X16_fail from rfl) rfl rfl (Nat.le_of_ble_eq_true rfl) rfl rfl hb88 (Nat.le_of_ble_eq_true rfl) (Nat.le_of_ble_eq_true rfl) (c_X16_fail (w := w85) m 4 A9_15 hb88 hb89) (by omega) (fun v94 w94 hp94 => ?_)
              obtain ⟨hsi94, heq94, hp94_0, rfl⟩ := hp94
              have hM94 : w94 m = some (.inl (15, zMo m (zs (zs (zs (zs (zs (zs (zs g 9 4) 10 A9_15) 13 A9_56) 16 Q9_56) 17 X9_56) 18 Y9_56) 19 Z9_56) r)) := hp94_0
              show zP _ _ _ _ [.ref (m + 79)] _ _ _ _ _
              have hb90 := hb89.si hsi94
              obtain ⟨fs9, hst9⟩ := hb90.stop
              refine zr_thr (by decide +kernel) hst9 ?_
              have hb91 : zPil w94 (m + 6316) := hPl91.ag (fun x hx1 hx2 => (heq94 x (zx_X16_valueU_2 hx1 hx2)))
              rw [← hPost]; exact ⟨rfl, Or.inr ⟨rfl, (zs (zs (zs (zs (zs (zs (zs g 9 4) 10 A9_15) 13 A9_56) 16 Q9_56) 17 X9_56) 18 Y9_56) 19 Z9_56), (((((((hsi1.tr hsiL5).tr hsi6).tr hsi15).tr hsi51).tr hsi56).tr hsi85).tr hsi94), (fun x hx => ((heq94 x hx.1).trans ((heq85 x (by omega)).trans ((heq56 x (by omega)).trans ((heq51 x (zx_X16_valueU_4 hx.1)).trans ((heq15 x hx.1).trans ((heq6 x hx.1).trans ((heqL5 x ⟨⟨hx.1, hx.2.1, hx.2.2.1, hx.2.2.2.1, hx.2.2.2.2.1, hx.2.2.2.2.2.1, hx.2.2.2.2.2.2⟩, (zx_X16_valueU_4 hx.1)⟩).trans (heq1 x ⟨hx.1, hx.2.1, hx.2.2.1, hx.2.2.2.1, hx.2.2.2.2.1, hx.2.2.2.2.2.1, hx.2.2.2.2.2.2⟩))))))))), hM94, (by
                    first | exact hx9_1 | exact ⟨rfl, rfl, rfl, rfl⟩), hb91⟩⟩
          refine zp_if (i := .ifCond .eq 18) (c := z0_42 = 0) (t := 80) (e := 65) (lv' := [(4, .ref (m + 6316 + 9 * cQ.toNatClampNeg)), (3, .int A9_15), (2, .int z0_42), (0, .ref m), (1, .ref (m + 6316 + 9 * (g 16).toNatClampNeg))]) (st' := []) (by decide +kernel) rfl (fun cc62 => ?_) (fun cc62 => ?_)
          ·
            have f93 := zeqI cc62
            rw [show (0 : Int32).toInt = 0 from by decide] at f93
            exact (hJ80 trivial (by
                  first | exact fun e => absurd (cc62.symm.trans e) (by decide) | exact fun _ => ⟨_, hAn2, hp56_3.1.elim (fun e => hr67.2 cc70 (hK20.trans e)) (fun e => hKk2.2.2.1 e)⟩)).more (zfa1 rfl (zfa1 rfl (zfa1 rfl (zfa1 rfl (zfa1 rfl (zfa0))))))
          ·
            have f95 := zneI cc62
            rw [show (0 : Int32).toInt = 0 from by decide] at f95
            refine zp_seg (pc' := 67) (lv' := [(4, .ref (m + 6316 + 9 * cQ.toNatClampNeg)), (3, .int A9_15), (2, .int z0_42), (0, .ref m), (1, .ref (m + 6316 + 9 * (g 16).toNatClampNeg))]) (st' := [.ref (m + 6316 + 9 * cQ.toNatClampNeg)]) [(65, .aload 4)] (by decide +kernel) rfl ?_
            refine zr_callS (idx := 288) (j := 306) (by decide +kernel) (by decide +kernel) (by decide) (show zMe 306 = some zq_X16_isZero from rfl) rfl rfl (Nat.le_of_ble_eq_true rfl) rfl rfl (Nat.le_of_ble_eq_true rfl) (Nat.le_of_ble_eq_true rfl) (c_X16_isZero (w := w56) (m + 6316 + 9 * cQ.toNatClampNeg) hT2 hAn2 (by exact hKn2)) (by omega) (fun v67 w67 hp67 => ?_)
            obtain ⟨hpw67, r67, rfl, hrb67, hr67⟩ := hp67
            replace hpw67 := hpw67.symm
            subst hpw67
            have kr67 := zrng r67
            show zP _ _ _ _ [.int r67] _ _ _ _ _
            refine zp_if (i := .ifCond .eq 10) (c := r67 = 0) (t := 80) (e := 73) (lv' := [(4, .ref (m + 6316 + 9 * cQ.toNatClampNeg)), (3, .int A9_15), (2, .int z0_42), (0, .ref m), (1, .ref (m + 6316 + 9 * (g 16).toNatClampNeg))]) (st' := []) (by decide +kernel) rfl (fun cc70 => ?_) (fun cc70 => ?_)
            ·
              have f96 := zeqI cc70
              rw [show (0 : Int32).toInt = 0 from by decide] at f96
              exact (hJ80 trivial (by
                    first | exact fun e => absurd (cc62.symm.trans e) (by decide) | exact fun _ => ⟨_, hAn2, hp56_3.1.elim (fun e => hr67.2 cc70 (hK20.trans e)) (fun e => hKk2.2.2.1 e)⟩)).more (zfa1 rfl (zfa1 rfl (zfa1 rfl (zfa1 rfl (zfa1 rfl (zfa0))))))
            ·
              have f97 := zneI cc70
              rw [show (0 : Int32).toInt = 0 from by decide] at f97
              refine zp_seg (pc' := 76) (lv' := [(4, .ref (m + 6316 + 9 * cQ.toNatClampNeg)), (3, .int A9_15), (2, .int z0_42), (0, .ref m), (1, .ref (m + 6316 + 9 * (g 16).toNatClampNeg))]) (st' := [.int A9_15, .int 3, .ref m]) [(73, .aload_n 0), (74, .iconst 3), (75, .iload_n 3)] (by decide +kernel) rfl ?_
              have hb98 := hb74.si hsi56
              refine zr_callV (idx := 346) (j := 318) (by decide +kernel) (by decide +kernel) (show zMe 318 = some zq_X16_fail from rfl) rfl rfl (Nat.le_of_ble_eq_true rfl) rfl rfl hM56 (Nat.le_of_ble_eq_true rfl) (Nat.le_of_ble_eq_true rfl) (c_X16_fail (w := w56) m 3 A9_15 hM56 hb98) (by omega) (fun v76 w76 hp76 => ?_)
              obtain ⟨hsi76, heq76, hp76_0, rfl⟩ := hp76
              have hM76 : w76 m = some (.inl (15, zMo m (zs (zs (zs (zs (zs (zs (zs g 9 3) 10 A9_15) 13 A9_56) 16 Q9_56) 17 X9_56) 18 Y9_56) 19 Z9_56) r)) := hp76_0
              show zP _ _ _ _ [.ref (m + 79)] _ _ _ _ _
              have hb99 := hb98.si hsi76
              obtain ⟨fs9, hst9⟩ := hb99.stop
              refine zr_thr (by decide +kernel) hst9 ?_
              have hb100 : zPil w76 (m + 6316) := hp56_2.ag (fun x hx1 hx2 => (heq76 x (zx_X16_valueU_2 hx1 hx2)))
              rw [← hPost]; exact ⟨rfl, Or.inr ⟨rfl, (zs (zs (zs (zs (zs (zs (zs g 9 3) 10 A9_15) 13 A9_56) 16 Q9_56) 17 X9_56) 18 Y9_56) 19 Z9_56), ((((((hsi1.tr hsiL5).tr hsi6).tr hsi15).tr hsi51).tr hsi56).tr hsi76), (fun x hx => ((heq76 x hx.1).trans ((heq56 x (by omega)).trans ((heq51 x (zx_X16_valueU_4 hx.1)).trans ((heq15 x hx.1).trans ((heq6 x hx.1).trans ((heqL5 x ⟨⟨hx.1, hx.2.1, hx.2.2.1, hx.2.2.2.1, hx.2.2.2.2.1, hx.2.2.2.2.2.1, hx.2.2.2.2.2.2⟩, (zx_X16_valueU_4 hx.1)⟩).trans (heq1 x ⟨hx.1, hx.2.1, hx.2.2.1, hx.2.2.2.1, hx.2.2.2.2.1, hx.2.2.2.2.2.1, hx.2.2.2.2.2.2⟩)))))))), hM76, (by
                    first | exact hx9_1 | exact ⟨rfl, rfl, rfl, rfl⟩), hb100⟩⟩
        refine zp_if (i := .if_icmp .ne 7) (c := ¬ x31 = 47) (t := 41) (e := 37) (lv' := [(0, .ref m), (1, .ref (m + 6316 + 9 * (g 16).toNatClampNeg))]) (st' := []) (by decide +kernel) rfl (fun cc34 => ?_) (fun cc34 => ?_)
        ·
          have f101 := zneI cc34
          rw [show (47 : Int32).toInt = 47 from by decide] at f101
          refine zp_seg (pc' := 42) (lv' := [(0, .ref m), (1, .ref (m + 6316 + 9 * (g 16).toNatClampNeg))]) (st' := [.int 0]) [(41, .iconst 0)] (by decide +kernel) rfl ?_
          have hl102 : (0 : Int32).toInt = 0 := by decide
          exact (hJ42 0 (by first | assumption | omega | decide)).more (zfa1 rfl (zfa1 rfl (zfa0)))
        ·
          replace cc34 := Classical.not_not.mp cc34
          have f103 := zeqI cc34
          rw [show (47 : Int32).toInt = 47 from by decide] at f103
          refine zp_seg (pc' := 42) (lv' := [(0, .ref m), (1, .ref (m + 6316 + 9 * (g 16).toNatClampNeg))]) (st' := [.int 1]) [(37, .iconst 1), (38, .goto 4)] (by decide +kernel) rfl ?_
          have hl104 : (1 : Int32).toInt = 1 := by decide
          exact (hJ42 1 (by first | assumption | omega | decide)).more (zfa1 rfl (zfa1 rfl (zfa0)))
  exact (hL5 _ w1 (A9_1) (Q9_1) (X9_1) (Y9_1) (Z9_1) (K9_1) zSI.rf (fun _ _ => rfl) (by
        exact hM1) hp1_1 hp1_2 (by
        exact ⟨hp1_3.1, by omega, by omega, by omega⟩) (Nat.lt_succ_self _)).more (zfa1 rfl (zfa1 rfl (zfa0)))
