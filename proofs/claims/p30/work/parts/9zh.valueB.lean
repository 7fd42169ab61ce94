theorem zx_X16_valueB_0 {m x : Nat} (h0 : m + 6316 ≤ x) (h1 : x < m + 6316 + 1170) : x < m ∨ m + 1 ≤ x := by omega
theorem zx_X16_valueB_1 {m x : Nat} (h0 : x < m ∨ m + 1 ≤ x) : x ≠ m := by omega
theorem zx_X16_valueB_2 {m : Nat}  : (m + 80) < m ∨ m + 1 ≤ (m + 80) := by omega
theorem zx_X16_valueB_3 {m : Nat}  : (m + 80) ≠ m := by omega
theorem zx_X16_valueB_4 {m x : Nat} (h0 : m + 6316 ≤ x) (h1 : x < m + 6316 + 1170) : x ≠ m := by omega
set_option maxHeartbeats 8000000 in
set_option maxRecDepth 100000 in
theorem c_X16_valueB {w : zM} {g : Nat → Int32} {r : Nat → Value} {ft : Nat → Int32} {g1 : Int32} {g3 : Int32} {g12 : Int32} {g13 : Int32} {g16 : Int32} (m : Nat) {n9 k9 : Nat} (hk9 : 40 ≤ k9) (hc9 : ∀ {w : zM} {g : Nat → Int32} {r : Nat → Value} {ft : Nat → Int32} {g1 : Int32} {g3 : Int32} {g12 : Int32} {g13 : Int32} {g16 : Int32} (m : Nat) (hm : w m = some (.inl (15, zMo m g r))) (hR_m : zR m w) (htp : 0 ≤ g13.toInt ∧ g13.toInt ≤ g12.toInt ∧ g12.toInt ≤ 400) (hA_m_80 : w (m + 80) = some (.inr (1, 400, .inl ft))) (htx : (∀ i, i ≤ g12.toNatClampNeg → zDep ft i ≤ 20) ∧ ∀ i, i < g12.toNatClampNeg → ¬ zRun ft g12.toNatClampNeg i) (hPl_m_6316 : zPil w (m + 6316)) (hut : 0 ≤ g1.toInt ∧ g1.toInt + 9 ≤ 160) (hbt : 0 ≤ g3.toInt ∧ g3.toInt + 16 ≤ 44) (hpi : 0 ≤ g16.toInt ∧ g16.toInt ≤ 4 * zDep ft g13.toNatClampNeg + 0) (hlv : 21 ≤ zDep ft g13.toNatClampNeg + (n9 : Int)) (hg1 : g 1 = g1) (hg3 : g 3 = g3) (hg12 : g 12 = g12) (hg13 : g 13 = g13) (hg16 : g 16 = g16), zConT k9 zq_X16_valueE [.ref m] w (fun v9 w9' => ∃ A9 : Int32, ∃ Q9 : Int32, ∃ X9 : Int32, ∃ Y9 : Int32, ∃ Z9 : Int32, ∃ K9 : Int32, zSI w w9' ∧ (∀ x, (x < m ∨ m + 1 ≤ x) ∧ (x < m + 6316 + 9 * g16.toNatClampNeg ∨ m + 6316 + 9 * g16.toNatClampNeg + (1170 - 9 * g16.toNatClampNeg) ≤ x) ∧ (x < m + 78 ∨ m + 78 + 1 ≤ x) ∧ (x < m + 276 + 2 * g1.toNatClampNeg ∨ m + 276 + 2 * g1.toNatClampNeg + (320 - 2 * g1.toNatClampNeg) ≤ x) ∧ (x < m + 596 + 130 * g3.toNatClampNeg ∨ m + 596 + 130 * g3.toNatClampNeg + (5720 - 130 * g3.toNatClampNeg) ≤ x) ∧ (x < m + 3 ∨ m + 3 + 1 ≤ x) ∧ (x < m + 5 ∨ m + 5 + 64 ≤ x) → w9' x = w x) ∧ w9' m = some (.inl (15, zMo m (zs (zs (zs (zs (zs g 13 A9) 16 Q9) 17 X9) 18 Y9) 19 Z9) r)) ∧ zTi w9' (m + 6316 + 9 * g16.toNatClampNeg) K9 ∧ zPil w9' (m + 6316) ∧ ((K9 = 1 ∨ K9 = 2) ∧ (g13.toInt ≤ A9.toInt ∧ A9.toInt ≤ g12.toInt) ∧ zDep ft A9.toNatClampNeg = zDep ft g13.toNatClampNeg ∧ Q9.toInt = g16.toInt + 1) ∧ v9 = some (.ref (m + 6316 + 9 * g16.toNatClampNeg))) (fun w9' => ∃ G9 : Nat → Int32, zSI w w9' ∧ (∀ x, (x < m ∨ m + 1 ≤ x) ∧ (x < m + 6316 + 9 * g16.toNatClampNeg ∨ m + 6316 + 9 * g16.toNatClampNeg + (1170 - 9 * g16.toNatClampNeg) ≤ x) ∧ (x < m + 78 ∨ m + 78 + 1 ≤ x) ∧ (x < m + 276 + 2 * g1.toNatClampNeg ∨ m + 276 + 2 * g1.toNatClampNeg + (320 - 2 * g1.toNatClampNeg) ≤ x) ∧ (x < m + 596 + 130 * g3.toNatClampNeg ∨ m + 596 + 130 * g3.toNatClampNeg + (5720 - 130 * g3.toNatClampNeg) ≤ x) ∧ (x < m + 3 ∨ m + 3 + 1 ≤ x) ∧ (x < m + 5 ∨ m + 5 + 64 ≤ x) → w9' x = w x) ∧ w9' m = some (.inl (15, zMo m G9 r)) ∧ (zKp G9 g) ∧ zPil w9' (m + 6316))) (hch9 : ∀ {w : zM} {g : Nat → Int32} {r : Nat → Value} {ft : Nat → Int32} {g1 : Int32} {g3 : Int32} {g12 : Int32} {g13 : Int32} {g16 : Int32} (m : Nat) (hm : w m = some (.inl (15, zMo m g r))) (hR_m : zR m w) (htp : 0 ≤ g13.toInt ∧ g13.toInt ≤ g12.toInt ∧ g12.toInt ≤ 400) (hA_m_80 : w (m + 80) = some (.inr (1, 400, .inl ft))) (htx : (∀ i, i ≤ g12.toNatClampNeg → zDep ft i ≤ 20) ∧ ∀ i, i < g12.toNatClampNeg → ¬ zRun ft g12.toNatClampNeg i) (hPl_m_6316 : zPil w (m + 6316)) (hut : 0 ≤ g1.toInt ∧ g1.toInt + 9 ≤ 160) (hbt : 0 ≤ g3.toInt ∧ g3.toInt + 16 ≤ 44) (hpi : 0 ≤ g16.toInt ∧ g16.toInt ≤ 4 * zDep ft g13.toNatClampNeg + 3) (hlv : 21 ≤ zDep ft g13.toNatClampNeg + (n9 : Int) + 1) (hch : zChr ft g12.toNatClampNeg g13.toNatClampNeg = 67) (hg1 : g 1 = g1) (hg3 : g 3 = g3) (hg12 : g 12 = g12) (hg13 : g 13 = g13) (hg16 : g 16 = g16), zConT k9 zq_X16_choose [.ref m] w (fun v9 w9' => ∃ A9 : Int32, ∃ Q9 : Int32, ∃ X9 : Int32, ∃ Y9 : Int32, ∃ Z9 : Int32, ∃ K9 : Int32, zSI w w9' ∧ (∀ x, (x < m ∨ m + 1 ≤ x) ∧ (x < m + 6316 + 9 * g16.toNatClampNeg ∨ m + 6316 + 9 * g16.toNatClampNeg + (1170 - 9 * g16.toNatClampNeg) ≤ x) ∧ (x < m + 78 ∨ m + 78 + 1 ≤ x) ∧ (x < m + 276 + 2 * g1.toNatClampNeg ∨ m + 276 + 2 * g1.toNatClampNeg + (320 - 2 * g1.toNatClampNeg) ≤ x) ∧ (x < m + 596 + 130 * g3.toNatClampNeg ∨ m + 596 + 130 * g3.toNatClampNeg + (5720 - 130 * g3.toNatClampNeg) ≤ x) ∧ (x < m + 3 ∨ m + 3 + 1 ≤ x) ∧ (x < m + 5 ∨ m + 5 + 64 ≤ x) → w9' x = w x) ∧ w9' m = some (.inl (15, zMo m (zs (zs (zs (zs (zs g 13 A9) 16 Q9) 17 X9) 18 Y9) 19 Z9) r)) ∧ zTi w9' (m + 6316 + 9 * g16.toNatClampNeg) K9 ∧ zPil w9' (m + 6316) ∧ ((K9 = 1 ∨ K9 = 2) ∧ (g13.toInt ≤ A9.toInt ∧ A9.toInt ≤ g12.toInt) ∧ zDep ft A9.toNatClampNeg = zDep ft g13.toNatClampNeg ∧ Q9.toInt = g16.toInt + 1) ∧ v9 = some (.ref (m + 6316 + 9 * g16.toNatClampNeg))) (fun w9' => ∃ G9 : Nat → Int32, zSI w w9' ∧ (∀ x, (x < m ∨ m + 1 ≤ x) ∧ (x < m + 6316 + 9 * g16.toNatClampNeg ∨ m + 6316 + 9 * g16.toNatClampNeg + (1170 - 9 * g16.toNatClampNeg) ≤ x) ∧ (x < m + 78 ∨ m + 78 + 1 ≤ x) ∧ (x < m + 276 + 2 * g1.toNatClampNeg ∨ m + 276 + 2 * g1.toNatClampNeg + (320 - 2 * g1.toNatClampNeg) ≤ x) ∧ (x < m + 596 + 130 * g3.toNatClampNeg ∨ m + 596 + 130 * g3.toNatClampNeg + (5720 - 130 * g3.toNatClampNeg) ≤ x) ∧ (x < m + 3 ∨ m + 3 + 1 ≤ x) ∧ (x < m + 5 ∨ m + 5 + 64 ≤ x) → w9' x = w x) ∧ w9' m = some (.inl (15, zMo m G9 r)) ∧ (zKp G9 g) ∧ zPil w9' (m + 6316))) (hm : w m = some (.inl (15, zMo m g r))) (hR_m : zR m w) (htp : 0 ≤ g13.toInt ∧ g13.toInt ≤ g12.toInt ∧ g12.toInt ≤ 400) (hA_m_80 : w (m + 80) = some (.inr (1, 400, .inl ft))) (htx : (∀ i, i ≤ g12.toNatClampNeg → zDep ft i ≤ 20) ∧ ∀ i, i < g12.toNatClampNeg → ¬ zRun ft g12.toNatClampNeg i) (hPl_m_6316 : zPil w (m + 6316)) (hut : 0 ≤ g1.toInt ∧ g1.toInt + 9 ≤ 160) (hbt : 0 ≤ g3.toInt ∧ g3.toInt + 16 ≤ 44) (hpi : 0 ≤ g16.toInt ∧ g16.toInt ≤ 4 * zDep ft g13.toNatClampNeg + 3) (hlv : 21 ≤ zDep ft g13.toNatClampNeg + (n9 : Int) + 1) (hg1 : g 1 = g1) (hg3 : g 3 = g3) (hg12 : g 12 = g12) (hg13 : g 13 = g13) (hg16 : g 16 = g16) : zConT (k9 + 1) zq_X16_valueB [.ref m] w (fun v9 w9' => ∃ A9 : Int32, ∃ Q9 : Int32, ∃ X9 : Int32, ∃ Y9 : Int32, ∃ Z9 : Int32, ∃ K9 : Int32, zSI w w9' ∧ (∀ x, (x < m ∨ m + 1 ≤ x) ∧ (x < m + 6316 + 9 * g16.toNatClampNeg ∨ m + 6316 + 9 * g16.toNatClampNeg + (1170 - 9 * g16.toNatClampNeg) ≤ x) ∧ (x < m + 78 ∨ m + 78 + 1 ≤ x) ∧ (x < m + 276 + 2 * g1.toNatClampNeg ∨ m + 276 + 2 * g1.toNatClampNeg + (320 - 2 * g1.toNatClampNeg) ≤ x) ∧ (x < m + 596 + 130 * g3.toNatClampNeg ∨ m + 596 + 130 * g3.toNatClampNeg + (5720 - 130 * g3.toNatClampNeg) ≤ x) ∧ (x < m + 3 ∨ m + 3 + 1 ≤ x) ∧ (x < m + 5 ∨ m + 5 + 64 ≤ x) → w9' x = w x) ∧ w9' m = some (.inl (15, zMo m (zs (zs (zs (zs (zs g 13 A9) 16 Q9) 17 X9) 18 Y9) 19 Z9) r)) ∧ zTi w9' (m + 6316 + 9 * g16.toNatClampNeg) K9 ∧ zPil w9' (m + 6316) ∧ ((K9 = 1 ∨ K9 = 2) ∧ (g13.toInt ≤ A9.toInt ∧ A9.toInt ≤ g12.toInt) ∧ zDep ft A9.toNatClampNeg = zDep ft g13.toNatClampNeg ∧ Q9.toInt = g16.toInt + 1) ∧ v9 = some (.ref (m + 6316 + 9 * g16.toNatClampNeg))) (fun w9' => ∃ G9 : Nat → Int32, zSI w w9' ∧ (∀ x, (x < m ∨ m + 1 ≤ x) ∧ (x < m + 6316 + 9 * g16.toNatClampNeg ∨ m + 6316 + 9 * g16.toNatClampNeg + (1170 - 9 * g16.toNatClampNeg) ≤ x) ∧ (x < m + 78 ∨ m + 78 + 1 ≤ x) ∧ (x < m + 276 + 2 * g1.toNatClampNeg ∨ m + 276 + 2 * g1.toNatClampNeg + (320 - 2 * g1.toNatClampNeg) ≤ x) ∧ (x < m + 596 + 130 * g3.toNatClampNeg ∨ m + 596 + 130 * g3.toNatClampNeg + (5720 - 130 * g3.toNatClampNeg) ≤ x) ∧ (x < m + 3 ∨ m + 3 + 1 ≤ x) ∧ (x < m + 5 ∨ m + 5 + 64 ≤ x) → w9' x = w x) ∧ w9' m = some (.inl (15, zMo m G9 r)) ∧ (zKp G9 g) ∧ zPil w9' (m + 6316)) := by
  subst hg1
  subst hg3
  subst hg12
  subst hg13
  subst hg16
  intro d sz hd
  obtain ⟨d, rfl⟩ : ∃ d9, d = d9 + 1 := ⟨d - 1, by omega⟩
  generalize hPost : (fun (r9' : Option (Option Value)) (w9' : zM) (z9 : Nat) => z9 = sz ∧ ((∃ v9, r9' = some v9 ∧ (∃ A9 : Int32, ∃ Q9 : Int32, ∃ X9 : Int32, ∃ Y9 : Int32, ∃ Z9 : Int32, ∃ K9 : Int32, zSI w w9' ∧ (∀ x, (x < m ∨ m + 1 ≤ x) ∧ (x < m + 6316 + 9 * (g 16).toNatClampNeg ∨ m + 6316 + 9 * (g 16).toNatClampNeg + (1170 - 9 * (g 16).toNatClampNeg) ≤ x) ∧ (x < m + 78 ∨ m + 78 + 1 ≤ x) ∧ (x < m + 276 + 2 * (g 1).toNatClampNeg ∨ m + 276 + 2 * (g 1).toNatClampNeg + (320 - 2 * (g 1).toNatClampNeg) ≤ x) ∧ (x < m + 596 + 130 * (g 3).toNatClampNeg ∨ m + 596 + 130 * (g 3).toNatClampNeg + (5720 - 130 * (g 3).toNatClampNeg) ≤ x) ∧ (x < m + 3 ∨ m + 3 + 1 ≤ x) ∧ (x < m + 5 ∨ m + 5 + 64 ≤ x) → w9' x = w x) ∧ w9' m = some (.inl (15, zMo m (zs (zs (zs (zs (zs g 13 A9) 16 Q9) 17 X9) 18 Y9) 19 Z9) r)) ∧ zTi w9' (m + 6316 + 9 * (g 16).toNatClampNeg) K9 ∧ zPil w9' (m + 6316) ∧ ((K9 = 1 ∨ K9 = 2) ∧ ((g 13).toInt ≤ A9.toInt ∧ A9.toInt ≤ (g 12).toInt) ∧ zDep ft A9.toNatClampNeg = zDep ft (g 13).toNatClampNeg ∧ Q9.toInt = (g 16).toInt + 1) ∧ v9 = some (.ref (m + 6316 + 9 * (g 16).toNatClampNeg)))) ∨ (r9' = none ∧ (∃ G9 : Nat → Int32, zSI w w9' ∧ (∀ x, (x < m ∨ m + 1 ≤ x) ∧ (x < m + 6316 + 9 * (g 16).toNatClampNeg ∨ m + 6316 + 9 * (g 16).toNatClampNeg + (1170 - 9 * (g 16).toNatClampNeg) ≤ x) ∧ (x < m + 78 ∨ m + 78 + 1 ≤ x) ∧ (x < m + 276 + 2 * (g 1).toNatClampNeg ∨ m + 276 + 2 * (g 1).toNatClampNeg + (320 - 2 * (g 1).toNatClampNeg) ≤ x) ∧ (x < m + 596 + 130 * (g 3).toNatClampNeg ∨ m + 596 + 130 * (g 3).toNatClampNeg + (5720 - 130 * (g 3).toNatClampNeg) ≤ x) ∧ (x < m + 3 ∨ m + 3 + 1 ≤ x) ∧ (x < m + 5 ∨ m + 5 + 64 ≤ x) → w9' x = w x) ∧ w9' m = some (.inl (15, zMo m G9 r)) ∧ (zKp G9 g) ∧ zPil w9' (m + 6316))))) = Post
  show zP (d + 1) zq_X16_valueB 0 [(0, .ref m)] [] w sz 0 0 Post
  have k1 := zrng (g 1)
  have hz2 : ((g 1).toNatClampNeg : Int) = (g 1).toInt := znat (by first | omega | decide)
  have hgb1 : (g 1).toNatClampNeg + 9 ≤ 160 := by omega
  have k3 := zrng (g 3)
  have hz4 : ((g 3).toNatClampNeg : Int) = (g 3).toInt := znat (by first | omega | decide)
  have hgb3 : (g 3).toNatClampNeg + 16 ≤ 44 := by omega
  have k5 := zrng (g 12)
  have hz6 : ((g 12).toNatClampNeg : Int) = (g 12).toInt := znat (by first | omega | decide)
  have k7 := zrng (g 13)
  have hz8 : ((g 13).toNatClampNeg : Int) = (g 13).toInt := znat (by first | omega | decide)
  have k9 := zrng (g 16)
  have hz10 : ((g 16).toNatClampNeg : Int) = (g 16).toInt := znat (by first | omega | decide)
  have hd0 := htx.1 (g 13).toNatClampNeg (by omega)
  have hPl0 := hPl_m_6316
  refine zp_seg (pc' := 1) (lv' := [(0, .ref m)]) (st' := [.ref m]) [(0, .aload_n 0)] (by decide +kernel) rfl ?_
  refine zr_callV (idx := 343) (j := 319) (by decide +kernel) (by decide +kernel) (show zMe 319 = some zq_X16_look from rfl) rfl rfl (Nat.le_of_ble_eq_true rfl) rfl rfl hm (Nat.le_of_ble_eq_true rfl) (Nat.le_of_ble_eq_true rfl) (c_X16_look (w := w) (g12 := (g 12)) (g13 := (g 13)) m hm hR_m (by first | omega | decide | assumption | exact zr1_1 | exact zr1_0 | fail "num") hA_m_80 (by first | omega | decide | assumption | exact zr1_1 | exact zr1_0 | fail "num") rfl rfl) (by omega) (fun v1 w1 hp1 => ?_)
  obtain ⟨A9_1, hsi1, heq1, hp1_0, hp1_1, r1, rfl, hr1⟩ := hp1
  have hM1 : w1 m = some (.inl (15, zMo m (zs g 13 A9_1) r)) := hp1_0
  have kr1 := zrng r1
  show zP _ _ _ _ [.int r1] _ _ _ _ _
  refine zp_seg (pc' := 5) (lv' := [(1, .int r1), (0, .ref m)]) (st' := []) [(4, .istore_n 1)] (by decide +kernel) rfl ?_
  have hlk1 := hp1_1.2.2
  have hzA1 := znat (x := A9_1) (by omega)
  refine zp_seg (pc' := 8) (lv' := [(1, .int r1), (0, .ref m)]) (st' := [.int 40, .int r1]) [(5, .iload_n 1), (6, .bipush 40)] (by decide +kernel) rfl ?_
  refine zp_if (i := .if_icmp .ne 26) (c := ¬ r1 = 40) (t := 34) (e := 11) (lv' := [(1, .int r1), (0, .ref m)]) (st' := []) (by decide +kernel) rfl (fun cc8 => ?_) (fun cc8 => ?_)
  ·
    have f12 := zneI cc8
    rw [show (40 : Int32).toInt = 40 from by decide] at f12
    refine zp_seg (pc' := 37) (lv' := [(1, .int r1), (0, .ref m)]) (st' := [.int 67, .int r1]) [(34, .iload_n 1), (35, .bipush 67)] (by decide +kernel) rfl ?_
    refine zp_if (i := .if_icmp .ne 8) (c := ¬ r1 = 67) (t := 45) (e := 40) (lv' := [(1, .int r1), (0, .ref m)]) (st' := []) (by decide +kernel) rfl (fun cc37 => ?_) (fun cc37 => ?_)
    ·
      have f14 := zneI cc37
      rw [show (67 : Int32).toInt = 67 from by decide] at f14
      refine zp_seg (pc' := 46) (lv' := [(1, .int r1), (0, .ref m)]) (st' := [.ref m]) [(45, .aload_n 0)] (by decide +kernel) rfl ?_
      have hb15 := hR_m.si hsi1
      refine zr_callV (idx := 429) (j := 326) (by decide +kernel) (by decide +kernel) (show zMe 326 = some zq_X16_newThing from rfl) rfl rfl (Nat.le_of_ble_eq_true rfl) rfl rfl hM1 (Nat.le_of_ble_eq_true rfl) (Nat.le_of_ble_eq_true rfl) (c_X16_newThing (w := w1) (g16 := (g 16)) m hM1 hb15 (by first | omega | decide | assumption | exact zr1_1 | exact zr1_0 | fail "num") rfl) (by omega) (fun v46 w46 hp46 => ?_)
      obtain ⟨hsi46, heq46, hp46_0, rfl⟩ := hp46
      have hM46 : w46 m = some (.inl (15, zMo m (zs (zs g 13 A9_1) 16 (g 16 + 1)) r)) := hp46_0
      show zP _ _ _ _ [.ref (m + 6316 + 9 * (g 16).toNatClampNeg)] _ _ _ _ _
      refine zp_seg (pc' := 50) (lv' := [(2, .ref (m + 6316 + 9 * (g 16).toNatClampNeg)), (1, .int r1), (0, .ref m)]) (st' := []) [(49, .astore_n 2)] (by decide +kernel) rfl ?_
      have k17 := zaddC (g 16) 1 (n := 1) (by decide) (by omega) (by omega)
      have hb18 : zPil w46 (m + 6316) := hPl_m_6316.ag (fun x hx1 hx2 => ((heq46 x (zx_X16_valueB_0 hx1 hx2)).trans (heq1 x (zx_X16_valueB_0 hx1 hx2))))
      obtain ⟨kP, hkP⟩ := hb18 (g 16).toNatClampNeg (by omega)
      refine zp_seg (pc' := 53) (lv' := [(2, .ref (m + 6316 + 9 * (g 16).toNatClampNeg)), (1, .int r1), (0, .ref m)]) (st' := [.int 110, .int r1]) [(50, .iload_n 1), (51, .bipush 110)] (by decide +kernel) rfl ?_
      refine zp_if (i := .if_icmp .eq 9) (c := r1 = 110) (t := 62) (e := 56) (lv' := [(2, .ref (m + 6316 + 9 * (g 16).toNatClampNeg)), (1, .int r1), (0, .ref m)]) (st' := []) (by decide +kernel) rfl (fun cc53 => ?_) (fun cc53 => ?_)
      ·
        have f20 := zeqI cc53
        rw [show (110 : Int32).toInt = 110 from by decide] at f20
        obtain ⟨P9, hP9⟩ : ∃ P, P = (A9_1).toNatClampNeg := ⟨_, rfl⟩
        have hzP : (P9 : Int) = (A9_1).toInt := by rw [hP9]; exact znat (by omega)
        obtain ⟨hq1, hq2⟩ : P9 < (g 12).toNatClampNeg ∧ zDep ft (P9 + 1) = zDep ft P9 := by
          rw [hP9]
          first
          | exact zChr_p (hr1.symm.trans cc53) (by decide) (by decide) (by decide)
          | exact zChr_p (hr1.symm.trans cc59) (by decide) (by decide) (by decide)
        have hq0 : zDep ft P9 = zDep ft (A9_1).toNatClampNeg := by rw [hP9]
        refine zp_seg (pc' := 64) (lv' := [(2, .ref (m + 6316 + 9 * (g 16).toNatClampNeg)), (1, .int r1), (0, .ref m)]) (st' := [.ref m, .ref m]) [(62, .aload_n 0), (63, .dup)] (by decide +kernel) rfl ?_
        refine zr_get (idx := 334) (k := 13) (v := .int A9_1) (by decide +kernel) (by decide +kernel) hM46 rfl ?_
        refine zp_seg (pc' := 69) (lv' := [(2, .ref (m + 6316 + 9 * (g 16).toNatClampNeg)), (1, .int r1), (0, .ref m)]) (st' := [.int (A9_1 + 1), .ref m]) [(67, .iconst 1), (68, .iadd)] (by decide +kernel) rfl ?_
        have k21 := zrng A9_1
        have k22 := zaddC A9_1 1 (n := 1) (by decide) (by omega) (by omega)
        generalize ev69 : (A9_1 + 1 : Int32) = v69 at k22 ⊢
        have kv69 := zrng v69
        refine zr_put2 (idx := 334) (k := 13) (fs2 := zMo m (zs (zs g 13 v69) 16 (g 16 + 1)) r) (by decide +kernel) (by decide +kernel) hM46 (Nat.le_of_ble_eq_true rfl) rfl rfl rfl ?_
        show zP (d + 1) zq_X16_valueB 72 [(2, .ref (m + 6316 + 9 * (g 16).toNatClampNeg)), (1, .int r1), (0, .ref m)] [] (zup w46 m (.inl (15, zMo m (zs (zs g 13 v69) 16 (g 16 + 1)) r))) sz 0 0 Post
        obtain ⟨w69, ew69⟩ : ∃ wz9, wz9 = zup w46 m (.inl (15, zMo m (zs (zs g 13 v69) 16 (g 16 + 1)) r)) := ⟨_, rfl⟩
        have hsi69 : zSI w46 w69 := by rw [ew69]; exact zSI.setG hM46 _ _
        have heq69 : ∀ x, x ≠ m → w69 x = w46 x := fun x hx => by rw [ew69]; exact zup_n hx
        have hc69 : w69 m = some (.inl (15, zMo m (zs (zs g 13 v69) 16 (g 16 + 1)) r)) := by rw [ew69]; exact zup_s
        rw [← ew69]
        clear ew69
        have hz9 := znat (x := v69) (by omega)
        have hq3 : zDep ft (v69).toNatClampNeg = zDep ft P9 := by rw [show (v69).toNatClampNeg = P9 + 1 by omega]; exact hq2
        refine zp_seg (pc' := 75) (lv' := [(2, .ref (m + 6316 + 9 * (g 16).toNatClampNeg)), (1, .int r1), (0, .ref m)]) (st' := [.int 0, .ref (m + 6316 + 9 * (g 16).toNatClampNeg), .ref m]) [(72, .aload_n 0), (73, .aload_n 2), (74, .iconst 0)] (by decide +kernel) rfl ?_
        have hb23 := hb15.si (hsi46.tr hsi69)
        have hb24 : zTi w69 (m + 6316 + 9 * (g 16).toNatClampNeg) kP := hkP.ag (fun x hx1 hx2 => (heq69 x (by omega)))
        refine zr_callV (idx := 292) (j := 305) (by decide +kernel) (by decide +kernel) (show zMe 305 = some zq_X16_number from rfl) rfl rfl (Nat.le_of_ble_eq_true rfl) rfl rfl hc69 (Nat.le_of_ble_eq_true rfl) (Nat.le_of_ble_eq_true rfl) (c_X16_number (w := w69) (g3 := (g 3)) m (m + 6316 + 9 * (g 16).toNatClampNeg) 0 hc69 hb23 hb24 (by first | omega | decide | assumption | exact zr1_1 | exact zr1_0 | fail "num") (by exact zr1_0) (by first | omega | decide | assumption | exact zr1_1 | exact zr1_0 | fail "num") rfl) (by omega) (fun v75 w75 hp75 => ?_)
        obtain ⟨hsi75, heq75, hp75_0, rfl⟩ := hp75
        show zP _ _ _ _ [] _ _ _ _ _
        obtain ⟨g1, fn1, fd1, fa1, fb1, fc1, fe1, fr1, fu1, hT1, hAn1, hAd1, hAa1, hAb1, hAc1, hAe1, hAr1, hAu1, hK1⟩ := id hp75_0
        obtain ⟨hK10, hKn1, hKd1, hKx1, hKm1, hKl1, hKr1, hKu1, hKk1⟩ := id hK1
        refine zp_seg (pc' := 79) (lv' := [(2, .ref (m + 6316 + 9 * (g 16).toNatClampNeg)), (1, .int r1), (0, .ref m)]) (st' := [.ref (m + 6316 + 9 * (g 16).toNatClampNeg)]) [(78, .aload_n 2)] (by decide +kernel) rfl ?_
        refine zr_get (idx := 207) (k := 1) (v := .ref (m + 6316 + 9 * (g 16).toNatClampNeg + 1)) (by decide +kernel) (by decide +kernel) hT1 rfl ?_
        refine zp_seg (pc' := 85) (lv' := [(2, .ref (m + 6316 + 9 * (g 16).toNatClampNeg)), (1, .int r1), (0, .ref m)]) (st' := [.int 110, .int r1, .ref (m + 6316 + 9 * (g 16).toNatClampNeg + 1)]) [(82, .iload_n 1), (83, .bipush 110)] (by decide +kernel) rfl ?_
        refine zp_if (i := .if_icmp .ne 7) (c := ¬ r1 = 110) (t := 92) (e := 88) (lv' := [(2, .ref (m + 6316 + 9 * (g 16).toNatClampNeg)), (1, .int r1), (0, .ref m)]) (st' := [.ref (m + 6316 + 9 * (g 16).toNatClampNeg + 1)]) (by decide +kernel) rfl (fun cc85 => ?_) (fun cc85 => ?_)
        ·
          exact absurd cc53 cc85
        ·
          replace cc85 := Classical.not_not.mp cc85
          have f25 := zeqI cc85
          rw [show (110 : Int32).toInt = 110 from by decide] at f25
          refine zp_seg (pc' := 95) (lv' := [(2, .ref (m + 6316 + 9 * (g 16).toNatClampNeg)), (1, .int r1), (0, .ref m)]) (st' := [.int 1, .int 1, .ref (m + 6316 + 9 * (g 16).toNatClampNeg + 1)]) [(88, .iconst 1), (89, .goto 5), (94, .iconst 1)] (by decide +kernel) rfl ?_
          have hl26 : (1 : Int32).toInt = 1 := by decide
          have hz27 : ((1 : Int32).toNatClampNeg : Int) = 1 := by decide
          refine zr_iast (by decide +kernel) hAn1 (zin (by decide) (by decide)) ?_
          show zP (d + 1) zq_X16_valueB 96 [(2, .ref (m + 6316 + 9 * (g 16).toNatClampNeg)), (1, .int r1), (0, .ref m)] [] (zup w75 (m + 6316 + 9 * (g 16).toNatClampNeg + 1) (.inr (0, 325, .inl (upd fn1 ((1 : Int32).toNatClampNeg) 1)))) sz 0 0 Post
          obtain ⟨w95, ew95⟩ : ∃ wz9, wz9 = zup w75 (m + 6316 + 9 * (g 16).toNatClampNeg + 1) (.inr (0, 325, .inl (upd fn1 ((1 : Int32).toNatClampNeg) 1))) := ⟨_, rfl⟩
          have hsi95 : zSI w75 w95 := by rw [ew95]; exact zSI.arr _ hAn1
          have heq95 : ∀ x, x ≠ m + 6316 + 9 * (g 16).toNatClampNeg + 1 → w95 x = w75 x := fun x hx => by rw [ew95]; exact zup_n hx
          have hc95 : w95 (m + 6316 + 9 * (g 16).toNatClampNeg + 1) = some (.inr (0, 325, .inl (upd fn1 ((1 : Int32).toNatClampNeg) 1))) := by rw [ew95]; exact zup_s
          rw [← ew95]
          clear ew95
          have hb28 : w95 (m + 6316 + 9 * (g 16).toNatClampNeg) = some (.inl (13, zTo (m + 6316 + 9 * (g 16).toNatClampNeg) g1)) := (heq95 (m + 6316 + 9 * (g 16).toNatClampNeg) (by omega)).trans hT1
          have hb29 : w95 (m + 6316 + 9 * (g 16).toNatClampNeg + 2) = some (.inr (0, 325, .inl fd1)) := (heq95 (m + 6316 + 9 * (g 16).toNatClampNeg + 2) (by omega)).trans hAd1
          have hb30 : w95 (m + 6316 + 9 * (g 16).toNatClampNeg + 3) = some (.inr (0, 13, .inl fa1)) := (heq95 (m + 6316 + 9 * (g 16).toNatClampNeg + 3) (by omega)).trans hAa1
          have hb31 : w95 (m + 6316 + 9 * (g 16).toNatClampNeg + 4) = some (.inr (0, 13, .inl fb1)) := (heq95 (m + 6316 + 9 * (g 16).toNatClampNeg + 4) (by omega)).trans hAb1
          have hb32 : w95 (m + 6316 + 9 * (g 16).toNatClampNeg + 5) = some (.inr (0, 13, .inl fc1)) := (heq95 (m + 6316 + 9 * (g 16).toNatClampNeg + 5) (by omega)).trans hAc1
          have hb33 : w95 (m + 6316 + 9 * (g 16).toNatClampNeg + 6) = some (.inr (0, 13, .inl fe1)) := (heq95 (m + 6316 + 9 * (g 16).toNatClampNeg + 6) (by omega)).trans hAe1
          have hb34 : w95 (m + 6316 + 9 * (g 16).toNatClampNeg + 7) = some (.inr (0, 175, .inl fr1)) := (heq95 (m + 6316 + 9 * (g 16).toNatClampNeg + 7) (by omega)).trans hAr1
          have hb35 : w95 (m + 6316 + 9 * (g 16).toNatClampNeg + 8) = some (.inr (0, 361, .inl fu1)) := (heq95 (m + 6316 + 9 * (g 16).toNatClampNeg + 8) (by omega)).trans hAu1
          have hTi9 : zTi w95 (m + 6316 + 9 * (g 16).toNatClampNeg) 1 := ⟨_, _, _, _, _, _, _, _, _, hb28, hc95, hb29, hb30, hb31, hb32, hb33, hb34, hb35, ⟨hK10, zCr_up hKn1 _ zr1_1, hKd1, hKx1, hKm1, hKl1, hKr1, hKu1, zKk_12 (Or.inl rfl) (hKk1.2.1 (Or.inl rfl)) (fun e => absurd e (by decide)) (hKk1.2.2.2.1 (Or.inl rfl))⟩⟩
          have hPl96 := hPl0.up (w' := w95) (g 16).toNatClampNeg hTi9 (fun x h1 h2 h3 => ((heq95 x (by omega)).trans ((heq75 x (by omega)).trans ((heq69 x (by omega)).trans ((heq46 x (by omega)).trans (heq1 x (by omega)))))))
          refine zp_seg (pc' := 97) (lv' := [(2, .ref (m + 6316 + 9 * (g 16).toNatClampNeg)), (1, .int r1), (0, .ref m)]) (st' := [.ref (m + 6316 + 9 * (g 16).toNatClampNeg)]) [(96, .aload_n 2)] (by decide +kernel) rfl ?_
          have hb36 : w95 m = some (.inl (15, zMo m (zs (zs g 13 v69) 16 (g 16 + 1)) r)) := ((heq95 m (by omega)).trans (heq75 m (by omega))).trans hc69
          have hoffend : ∀ x, (x < m ∨ m + 1 ≤ x) ∧ (x < m + 6316 + 9 * (g 16).toNatClampNeg ∨ m + 6316 + 9 * (g 16).toNatClampNeg + (1170 - 9 * (g 16).toNatClampNeg) ≤ x) ∧ (x < m + 78 ∨ m + 78 + 1 ≤ x) ∧ (x < m + 276 + 2 * (g 1).toNatClampNeg ∨ m + 276 + 2 * (g 1).toNatClampNeg + (320 - 2 * (g 1).toNatClampNeg) ≤ x) ∧ (x < m + 596 + 130 * (g 3).toNatClampNeg ∨ m + 596 + 130 * (g 3).toNatClampNeg + (5720 - 130 * (g 3).toNatClampNeg) ≤ x) ∧ (x < m + 3 ∨ m + 3 + 1 ≤ x) ∧ (x < m + 5 ∨ m + 5 + 64 ≤ x) → w95 x = w x := fun x hx => ((heq95 x (by omega)).trans ((heq75 x (by omega)).trans ((heq69 x (zx_X16_valueB_1 hx.1)).trans ((heq46 x hx.1).trans (heq1 x hx.1)))))
          refine zr_retA (by decide +kernel) rfl ?_
          rw [← hPost]; exact ⟨rfl, Or.inl ⟨_, rfl, v69, ((g 16 + 1)), (g 17), (g 18), (g 19), 1, ((((hsi1.tr hsi46).tr hsi69).tr hsi75).tr hsi95), hoffend, hb36, (by first | exact hTi9 | (have z9 := hTi9; simpa using z9)), hPl96, (by
                first
                | exact ⟨hp22_3.1, by omega, by omega, by omega⟩
                | exact ⟨hp41_3.1, by omega, by omega, by omega⟩
                | exact ⟨Or.inl rfl, by omega, by omega, by omega⟩
                | (have h9 := zDep_dig (ft := ft) yA.toNatClampNeg hyA.2.1 (by omega)
                   exact ⟨Or.inl rfl, by omega, by omega, by omega⟩)), rfl⟩⟩
      ·
        have f38 := zneI cc53
        rw [show (110 : Int32).toInt = 110 from by decide] at f38
        refine zp_seg (pc' := 59) (lv' := [(2, .ref (m + 6316 + 9 * (g 16).toNatClampNeg)), (1, .int r1), (0, .ref m)]) (st' := [.int 107, .int r1]) [(56, .iload_n 1), (57, .bipush 107)] (by decide +kernel) rfl ?_
        refine zp_if (i := .if_icmp .ne 39) (c := ¬ r1 = 107) (t := 98) (e := 62) (lv' := [(2, .ref (m + 6316 + 9 * (g 16).toNatClampNeg)), (1, .int r1), (0, .ref m)]) (st' := []) (by decide +kernel) rfl (fun cc59 => ?_) (fun cc59 => ?_)
        ·
          have f40 := zneI cc59
          rw [show (107 : Int32).toInt = 107 from by decide] at f40
          refine zp_seg (pc' := 100) (lv' := [(3, .long 0), (2, .ref (m + 6316 + 9 * (g 16).toNatClampNeg)), (1, .int r1), (0, .ref m)]) (st' := []) [(98, .lconst 0), (99, .lstore_n 3)] (by decide +kernel) rfl ?_
          have hL100 : ∀ (mm100 : Nat) (wL100 : zM) (y3_100 : Int64) (yA : Int32), (zSI w46 wL100) → (∀ x, ((x < m ∨ m + 1 ≤ x)) ∧ x ≠ m → wL100 x = w46 x) → (wL100 m = some (.inl (15, zMo m (zs (zs g 13 yA) 16 (g 16 + 1)) r))) → (((A9_1.toInt ≤ yA.toInt ∧ yA.toInt ≤ (g 12).toInt) ∧ yA.toInt ≤ A9_1.toInt + 10) ∧ (∀ i, A9_1.toNatClampNeg ≤ i → i < yA.toNatClampNeg → zDig (ft i)) ∧ 0 ≤ y3_100.toInt ∧ y3_100.toInt < z10 (yA.toNatClampNeg - A9_1.toNatClampNeg) ∧ y3_100.toInt < 10000000000) → (401 - yA.toInt).toNat < mm100 → zP (d + 1) zq_X16_valueB 100 [(0, .ref m), (2, .ref (m + 6316 + 9 * (g 16).toNatClampNeg)), (3, .long y3_100)] [] wL100 sz 0 0 Post := by
            intro mm100
            induction mm100 with
            | zero => intros; omega
            | succ mm100 ih100 =>
            intro wL100 y3_100 yA hsiL100 heqL100 hyM hyA hmu100
            have ky3_100 := zrngL y3_100
            refine zp_seg (pc' := 101) (lv' := [(0, .ref m), (2, .ref (m + 6316 + 9 * (g 16).toNatClampNeg)), (3, .long y3_100)]) (st' := [.ref m]) [(100, .aload_n 0)] (by decide +kernel) rfl ?_
            refine zr_get (idx := 334) (k := 13) (v := .int yA) (by decide +kernel) (by decide +kernel) hyM rfl ?_
            refine zp_seg (pc' := 105) (lv' := [(0, .ref m), (2, .ref (m + 6316 + 9 * (g 16).toNatClampNeg)), (3, .long y3_100)]) (st' := [.ref m, .int yA]) [(104, .aload_n 0)] (by decide +kernel) rfl ?_
            refine zr_get (idx := 336) (k := 12) (v := .int (g 12)) (by decide +kernel) (by decide +kernel) hyM rfl ?_
            refine zp_if (i := .if_icmp .ge 62) (c := (g 12) ≤ yA) (t := 170) (e := 111) (lv' := [(0, .ref m), (2, .ref (m + 6316 + 9 * (g 16).toNatClampNeg)), (3, .long y3_100)]) (st' := []) (by decide +kernel) rfl (fun cc108 => ?_) (fun cc108 => ?_)
            ·
              have k41 := zrng yA
              have f42 := zleI cc108
              have hzy := znat (x := yA) (by omega)
              have hv8 := hyA.2.2
              refine zp_seg (pc' := 173) (lv' := [(0, .ref m), (2, .ref (m + 6316 + 9 * (g 16).toNatClampNeg)), (3, .long y3_100)]) (st' := [.long y3_100, .ref (m + 6316 + 9 * (g 16).toNatClampNeg), .ref m]) [(170, .aload_n 0), (171, .aload_n 2), (172, .lload_n 3)] (by decide +kernel) rfl ?_
              refine zr_ldc2 (idx := 3) (v := 2147483647) (by decide +kernel) (by decide +kernel) ?_
              refine zr_lrem (by decide +kernel) (by decide) ?_
              obtain ⟨q176, eq176⟩ : ∃ x9 : Int64, x9 = y3_100 - y3_100 / 2147483647 * 2147483647 := ⟨_, rfl⟩
              rw [← eq176]
              have bq176 := zremB y3_100
              rw [← eq176] at bq176
              have mq176 := zremN (x := y3_100)
              rw [← eq176] at mq176
              have kq176 := zrngL q176
              refine zp_seg (pc' := 178) (lv' := [(0, .ref m), (2, .ref (m + 6316 + 9 * (g 16).toNatClampNeg)), (3, .long y3_100)]) (st' := [.int (q176.toInt32), .ref (m + 6316 + 9 * (g 16).toNatClampNeg), .ref m]) [(177, .l2i)] (by decide +kernel) rfl ?_
              have k43 := zl2iE q176 (by omega) (by omega)
              generalize ev178 : (q176.toInt32 : Int32) = v178 at k43 ⊢
              have kv178 := zrng v178
              have hb44 := hb15.si (hsi46.tr hsiL100)
              have hb45 : zTi wL100 (m + 6316 + 9 * (g 16).toNatClampNeg) kP := hkP.ag (fun x hx1 hx2 => (heqL100 x (by omega)))
              refine zr_callV (idx := 292) (j := 305) (by decide +kernel) (by decide +kernel) (show zMe 305 = some zq_X16_number from rfl) rfl rfl (Nat.le_of_ble_eq_true rfl) rfl rfl hyM (Nat.le_of_ble_eq_true rfl) (Nat.le_of_ble_eq_true rfl) (c_X16_number (w := wL100) (g3 := (g 3)) m (m + 6316 + 9 * (g 16).toNatClampNeg) v178 hyM hb44 hb45 (by first | omega | decide | assumption | exact zr1_1 | exact zr1_0 | fail "num") (by exact ⟨by omega, by omega⟩) (by first | omega | decide | assumption | exact zr1_1 | exact zr1_0 | fail "num") rfl) (by omega) (fun v178 w178 hp178 => ?_)
              obtain ⟨hsi178, heq178, hp178_0, rfl⟩ := hp178
              show zP _ _ _ _ [] _ _ _ _ _
              have hPl181 := hPl0.up (w' := w178) (g 16).toNatClampNeg hp178_0 (fun x h1 h2 h3 => ((heq178 x (by omega)).trans ((heqL100 x (by omega)).trans ((heq46 x (by omega)).trans (heq1 x (by omega))))))
              refine zp_seg (pc' := 182) (lv' := [(0, .ref m), (2, .ref (m + 6316 + 9 * (g 16).toNatClampNeg)), (3, .long y3_100)]) (st' := [.ref (m + 6316 + 9 * (g 16).toNatClampNeg)]) [(181, .aload_n 2)] (by decide +kernel) rfl ?_
              have hb46 : w178 m = some (.inl (15, zMo m (zs (zs g 13 yA) 16 (g 16 + 1)) r)) := (heq178 m (by omega)).trans hyM
              have hoffend : ∀ x, (x < m ∨ m + 1 ≤ x) ∧ (x < m + 6316 + 9 * (g 16).toNatClampNeg ∨ m + 6316 + 9 * (g 16).toNatClampNeg + (1170 - 9 * (g 16).toNatClampNeg) ≤ x) ∧ (x < m + 78 ∨ m + 78 + 1 ≤ x) ∧ (x < m + 276 + 2 * (g 1).toNatClampNeg ∨ m + 276 + 2 * (g 1).toNatClampNeg + (320 - 2 * (g 1).toNatClampNeg) ≤ x) ∧ (x < m + 596 + 130 * (g 3).toNatClampNeg ∨ m + 596 + 130 * (g 3).toNatClampNeg + (5720 - 130 * (g 3).toNatClampNeg) ≤ x) ∧ (x < m + 3 ∨ m + 3 + 1 ≤ x) ∧ (x < m + 5 ∨ m + 5 + 64 ≤ x) → w178 x = w x := fun x hx => ((heq178 x (by omega)).trans ((heqL100 x ⟨hx.1, (zx_X16_valueB_1 hx.1)⟩).trans ((heq46 x hx.1).trans (heq1 x hx.1))))
              refine zr_retA (by decide +kernel) rfl ?_
              rw [← hPost]; exact ⟨rfl, Or.inl ⟨_, rfl, yA, ((g 16 + 1)), (g 17), (g 18), (g 19), 1, (((hsi1.tr hsi46).tr hsiL100).tr hsi178), hoffend, hb46, (by first | exact hp178_0 | (have z9 := hp178_0; simpa using z9)), hPl181, (by
                    first
                    | exact ⟨hp22_3.1, by omega, by omega, by omega⟩
                    | exact ⟨hp41_3.1, by omega, by omega, by omega⟩
                    | exact ⟨Or.inl rfl, by omega, by omega, by omega⟩
                    | (have h9 := zDep_dig (ft := ft) yA.toNatClampNeg hyA.2.1 (by omega)
                       exact ⟨Or.inl rfl, by omega, by omega, by omega⟩)), rfl⟩⟩
            ·
              have k47 := zrng yA
              have f48 := znleI cc108
              refine zp_seg (pc' := 112) (lv' := [(0, .ref m), (2, .ref (m + 6316 + 9 * (g 16).toNatClampNeg)), (3, .long y3_100)]) (st' := [.ref m]) [(111, .aload_n 0)] (by decide +kernel) rfl ?_
              refine zr_get (idx := 339) (k := 11) (v := .ref (m + 80)) (by decide +kernel) (by decide +kernel) hyM rfl ?_
              refine zp_seg (pc' := 116) (lv' := [(0, .ref m), (2, .ref (m + 6316 + 9 * (g 16).toNatClampNeg)), (3, .long y3_100)]) (st' := [.ref m, .ref (m + 80)]) [(115, .aload_n 0)] (by decide +kernel) rfl ?_
              refine zr_get (idx := 334) (k := 13) (v := .int yA) (by decide +kernel) (by decide +kernel) hyM rfl ?_
              have hb49 : wL100 (m + 80) = some (.inr (1, 400, .inl ft)) := ((heqL100 (m + 80) ⟨(zx_X16_valueB_2), (zx_X16_valueB_3)⟩).trans ((heq46 (m + 80) (zx_X16_valueB_2)).trans (heq1 (m + 80) (zx_X16_valueB_2)))).trans hA_m_80
              refine zr_bald (by decide +kernel) hb49 (by decide) (zin (by first | omega | decide) (by first | omega | decide)) ?_
              have hz50 : (yA.toNatClampNeg : Int) = yA.toInt := znat (by first | omega | decide)
              obtain ⟨x119, ex119⟩ : ∃ x9, x9 = ft (yA.toNatClampNeg) := ⟨_, rfl⟩
              rw [← ex119]
              have kx119 := zrng x119
              refine zp_seg (pc' := 122) (lv' := [(0, .ref m), (2, .ref (m + 6316 + 9 * (g 16).toNatClampNeg)), (3, .long y3_100)]) (st' := [.int 48, .int x119]) [(120, .bipush 48)] (by decide +kernel) rfl ?_
              refine zp_if (i := .if_icmp .lt 48) (c := x119 < 48) (t := 170) (e := 125) (lv' := [(0, .ref m), (2, .ref (m + 6316 + 9 * (g 16).toNatClampNeg)), (3, .long y3_100)]) (st' := []) (by decide +kernel) rfl (fun cc122 => ?_) (fun cc122 => ?_)
              ·
                have f52 := zltI cc122
                rw [show (48 : Int32).toInt = 48 from by decide] at f52
                have hzy := znat (x := yA) (by omega)
                have hv8 := hyA.2.2
                refine zp_seg (pc' := 173) (lv' := [(0, .ref m), (2, .ref (m + 6316 + 9 * (g 16).toNatClampNeg)), (3, .long y3_100)]) (st' := [.long y3_100, .ref (m + 6316 + 9 * (g 16).toNatClampNeg), .ref m]) [(170, .aload_n 0), (171, .aload_n 2), (172, .lload_n 3)] (by decide +kernel) rfl ?_
                refine zr_ldc2 (idx := 3) (v := 2147483647) (by decide +kernel) (by decide +kernel) ?_
                refine zr_lrem (by decide +kernel) (by decide) ?_
                obtain ⟨q176, eq176⟩ : ∃ x9 : Int64, x9 = y3_100 - y3_100 / 2147483647 * 2147483647 := ⟨_, rfl⟩
                rw [← eq176]
                have bq176 := zremB y3_100
                rw [← eq176] at bq176
                have mq176 := zremN (x := y3_100)
                rw [← eq176] at mq176
                have kq176 := zrngL q176
                refine zp_seg (pc' := 178) (lv' := [(0, .ref m), (2, .ref (m + 6316 + 9 * (g 16).toNatClampNeg)), (3, .long y3_100)]) (st' := [.int (q176.toInt32), .ref (m + 6316 + 9 * (g 16).toNatClampNeg), .ref m]) [(177, .l2i)] (by decide +kernel) rfl ?_
                have k53 := zl2iE q176 (by omega) (by omega)
                generalize ev178 : (q176.toInt32 : Int32) = v178 at k53 ⊢
                have kv178 := zrng v178
                have hb54 := hb15.si (hsi46.tr hsiL100)
                have hb55 : zTi wL100 (m + 6316 + 9 * (g 16).toNatClampNeg) kP := hkP.ag (fun x hx1 hx2 => (heqL100 x (by omega)))
                refine zr_callV (idx := 292) (j := 305) (by decide +kernel) (by decide +kernel) (show zMe 305 = some zq_X16_number from rfl) rfl rfl (Nat.le_of_ble_eq_true rfl) rfl rfl hyM (Nat.le_of_ble_eq_true rfl) (Nat.le_of_ble_eq_true rfl) (c_X16_number (w := wL100) (g3 := (g 3)) m (m + 6316 + 9 * (g 16).toNatClampNeg) v178 hyM hb54 hb55 (by first | omega | decide | assumption | exact zr1_1 | exact zr1_0 | fail "num") (by exact ⟨by omega, by omega⟩) (by first | omega | decide | assumption | exact zr1_1 | exact zr1_0 | fail "num") rfl) (by omega) (fun v178 w178 hp178 => ?_)
                obtain ⟨hsi178, heq178, hp178_0, rfl⟩ := hp178
                show zP _ _ _ _ [] _ _ _ _ _
                have hPl181 := hPl0.up (w' := w178) (g 16).toNatClampNeg hp178_0 (fun x h1 h2 h3 => ((heq178 x (by omega)).trans ((heqL100 x (by omega)).trans ((heq46 x (by omega)).trans (heq1 x (by omega))))))
                refine zp_seg (pc' := 182) (lv' := [(0, .ref m), (2, .ref (m + 6316 + 9 * (g 16).toNatClampNeg)), (3, .long y3_100)]) (st' := [.ref (m + 6316 + 9 * (g 16).toNatClampNeg)]) [(181, .aload_n 2)] (by decide +kernel) rfl ?_
                have hb56 : w178 m = some (.inl (15, zMo m (zs (zs g 13 yA) 16 (g 16 + 1)) r)) := (heq178 m (by omega)).trans hyM
                have hoffend : ∀ x, (x < m ∨ m + 1 ≤ x) ∧ (x < m + 6316 + 9 * (g 16).toNatClampNeg ∨ m + 6316 + 9 * (g 16).toNatClampNeg + (1170 - 9 * (g 16).toNatClampNeg) ≤ x) ∧ (x < m + 78 ∨ m + 78 + 1 ≤ x) ∧ (x < m + 276 + 2 * (g 1).toNatClampNeg ∨ m + 276 + 2 * (g 1).toNatClampNeg + (320 - 2 * (g 1).toNatClampNeg) ≤ x) ∧ (x < m + 596 + 130 * (g 3).toNatClampNeg ∨ m + 596 + 130 * (g 3).toNatClampNeg + (5720 - 130 * (g 3).toNatClampNeg) ≤ x) ∧ (x < m + 3 ∨ m + 3 + 1 ≤ x) ∧ (x < m + 5 ∨ m + 5 + 64 ≤ x) → w178 x = w x := fun x hx => ((heq178 x (by omega)).trans ((heqL100 x ⟨hx.1, (zx_X16_valueB_1 hx.1)⟩).trans ((heq46 x hx.1).trans (heq1 x hx.1))))
                refine zr_retA (by decide +kernel) rfl ?_
                rw [← hPost]; exact ⟨rfl, Or.inl ⟨_, rfl, yA, ((g 16 + 1)), (g 17), (g 18), (g 19), 1, (((hsi1.tr hsi46).tr hsiL100).tr hsi178), hoffend, hb56, (by first | exact hp178_0 | (have z9 := hp178_0; simpa using z9)), hPl181, (by
                      first
                      | exact ⟨hp22_3.1, by omega, by omega, by omega⟩
                      | exact ⟨hp41_3.1, by omega, by omega, by omega⟩
                      | exact ⟨Or.inl rfl, by omega, by omega, by omega⟩
                      | (have h9 := zDep_dig (ft := ft) yA.toNatClampNeg hyA.2.1 (by omega)
                         exact ⟨Or.inl rfl, by omega, by omega, by omega⟩)), rfl⟩⟩
              ·
                have f58 := znltI cc122
                rw [show (48 : Int32).toInt = 48 from by decide] at f58
                refine zp_seg (pc' := 126) (lv' := [(0, .ref m), (2, .ref (m + 6316 + 9 * (g 16).toNatClampNeg)), (3, .long y3_100)]) (st' := [.ref m]) [(125, .aload_n 0)] (by decide +kernel) rfl ?_
                refine zr_get (idx := 339) (k := 11) (v := .ref (m + 80)) (by decide +kernel) (by decide +kernel) hyM rfl ?_
                refine zp_seg (pc' := 130) (lv' := [(0, .ref m), (2, .ref (m + 6316 + 9 * (g 16).toNatClampNeg)), (3, .long y3_100)]) (st' := [.ref m, .ref (m + 80)]) [(129, .aload_n 0)] (by decide +kernel) rfl ?_
                refine zr_get (idx := 334) (k := 13) (v := .int yA) (by decide +kernel) (by decide +kernel) hyM rfl ?_
                refine zr_bald (by decide +kernel) hb49 (by decide) (zin (by first | omega | decide) (by first | omega | decide)) ?_
                rw [← ex119]
                refine zp_seg (pc' := 136) (lv' := [(0, .ref m), (2, .ref (m + 6316 + 9 * (g 16).toNatClampNeg)), (3, .long y3_100)]) (st' := [.int 57, .int x119]) [(134, .bipush 57)] (by decide +kernel) rfl ?_
                refine zp_if (i := .if_icmp .gt 34) (c := 57 < x119) (t := 170) (e := 139) (lv' := [(0, .ref m), (2, .ref (m + 6316 + 9 * (g 16).toNatClampNeg)), (3, .long y3_100)]) (st' := []) (by decide +kernel) rfl (fun cc136 => ?_) (fun cc136 => ?_)
                ·
                  have f60 := zltI cc136
                  rw [show (57 : Int32).toInt = 57 from by decide] at f60
                  have hzy := znat (x := yA) (by omega)
                  have hv8 := hyA.2.2
                  refine zp_seg (pc' := 173) (lv' := [(0, .ref m), (2, .ref (m + 6316 + 9 * (g 16).toNatClampNeg)), (3, .long y3_100)]) (st' := [.long y3_100, .ref (m + 6316 + 9 * (g 16).toNatClampNeg), .ref m]) [(170, .aload_n 0), (171, .aload_n 2), (172, .lload_n 3)] (by decide +kernel) rfl ?_
                  refine zr_ldc2 (idx := 3) (v := 2147483647) (by decide +kernel) (by decide +kernel) ?_
                  refine zr_lrem (by decide +kernel) (by decide) ?_
                  obtain ⟨q176, eq176⟩ : ∃ x9 : Int64, x9 = y3_100 - y3_100 / 2147483647 * 2147483647 := ⟨_, rfl⟩
                  rw [← eq176]
                  have bq176 := zremB y3_100
                  rw [← eq176] at bq176
                  have mq176 := zremN (x := y3_100)
                  rw [← eq176] at mq176
                  have kq176 := zrngL q176
                  refine zp_seg (pc' := 178) (lv' := [(0, .ref m), (2, .ref (m + 6316 + 9 * (g 16).toNatClampNeg)), (3, .long y3_100)]) (st' := [.int (q176.toInt32), .ref (m + 6316 + 9 * (g 16).toNatClampNeg), .ref m]) [(177, .l2i)] (by decide +kernel) rfl ?_
                  have k61 := zl2iE q176 (by omega) (by omega)
                  generalize ev178 : (q176.toInt32 : Int32) = v178 at k61 ⊢
                  have kv178 := zrng v178
                  have hb62 := hb15.si (hsi46.tr hsiL100)
                  have hb63 : zTi wL100 (m + 6316 + 9 * (g 16).toNatClampNeg) kP := hkP.ag (fun x hx1 hx2 => (heqL100 x (by omega)))
                  refine zr_callV (idx := 292) (j := 305) (by decide +kernel) (by decide +kernel) (show zMe 305 = some zq_X16_number from rfl) rfl rfl (Nat.le_of_ble_eq_true rfl) rfl rfl hyM (Nat.le_of_ble_eq_true rfl) (Nat.le_of_ble_eq_true rfl) (c_X16_number (w := wL100) (g3 := (g 3)) m (m + 6316 + 9 * (g 16).toNatClampNeg) v178 hyM hb62 hb63 (by first | omega | decide | assumption | exact zr1_1 | exact zr1_0 | fail "num") (by exact ⟨by omega, by omega⟩) (by first | omega | decide | assumption | exact zr1_1 | exact zr1_0 | fail "num") rfl) (by omega) (fun v178 w178 hp178 => ?_)
                  obtain ⟨hsi178, heq178, hp178_0, rfl⟩ := hp178
                  show zP _ _ _ _ [] _ _ _ _ _
                  have hPl181 := hPl0.up (w' := w178) (g 16).toNatClampNeg hp178_0 (fun x h1 h2 h3 => ((heq178 x (by omega)).trans ((heqL100 x (by omega)).trans ((heq46 x (by omega)).trans (heq1 x (by omega))))))
                  refine zp_seg (pc' := 182) (lv' := [(0, .ref m), (2, .ref (m + 6316 + 9 * (g 16).toNatClampNeg)), (3, .long y3_100)]) (st' := [.ref (m + 6316 + 9 * (g 16).toNatClampNeg)]) [(181, .aload_n 2)] (by decide +kernel) rfl ?_
                  have hb64 : w178 m = some (.inl (15, zMo m (zs (zs g 13 yA) 16 (g 16 + 1)) r)) := (heq178 m (by omega)).trans hyM
                  have hoffend : ∀ x, (x < m ∨ m + 1 ≤ x) ∧ (x < m + 6316 + 9 * (g 16).toNatClampNeg ∨ m + 6316 + 9 * (g 16).toNatClampNeg + (1170 - 9 * (g 16).toNatClampNeg) ≤ x) ∧ (x < m + 78 ∨ m + 78 + 1 ≤ x) ∧ (x < m + 276 + 2 * (g 1).toNatClampNeg ∨ m + 276 + 2 * (g 1).toNatClampNeg + (320 - 2 * (g 1).toNatClampNeg) ≤ x) ∧ (x < m + 596 + 130 * (g 3).toNatClampNeg ∨ m + 596 + 130 * (g 3).toNatClampNeg + (5720 - 130 * (g 3).toNatClampNeg) ≤ x) ∧ (x < m + 3 ∨ m + 3 + 1 ≤ x) ∧ (x < m + 5 ∨ m + 5 + 64 ≤ x) → w178 x = w x := fun x hx => ((heq178 x (by omega)).trans ((heqL100 x ⟨hx.1, (zx_X16_valueB_1 hx.1)⟩).trans ((heq46 x hx.1).trans (heq1 x hx.1))))
                  refine zr_retA (by decide +kernel) rfl ?_
                  rw [← hPost]; exact ⟨rfl, Or.inl ⟨_, rfl, yA, ((g 16 + 1)), (g 17), (g 18), (g 19), 1, (((hsi1.tr hsi46).tr hsiL100).tr hsi178), hoffend, hb64, (by first | exact hp178_0 | (have z9 := hp178_0; simpa using z9)), hPl181, (by
                        first
                        | exact ⟨hp22_3.1, by omega, by omega, by omega⟩
                        | exact ⟨hp41_3.1, by omega, by omega, by omega⟩
                        | exact ⟨Or.inl rfl, by omega, by omega, by omega⟩
                        | (have h9 := zDep_dig (ft := ft) yA.toNatClampNeg hyA.2.1 (by omega)
                           exact ⟨Or.inl rfl, by omega, by omega, by omega⟩)), rfl⟩⟩
                ·
                  have f66 := znltI cc136
                  rw [show (57 : Int32).toInt = 57 from by decide] at f66
                  have hzy := znat (x := yA) (by omega)
                  have hdg9 : zDig (ft yA.toNatClampNeg) := by rw [← ex119]; exact ⟨by omega, by omega⟩
                  have hl10 := zRun_no (htx.2 A9_1.toNatClampNeg (by omega)) hyA.2.1 hdg9 (by omega)
                  have hv9 := z10_le (n := yA.toNatClampNeg - A9_1.toNatClampNeg) (by omega)
                  have hv8 := hyA.2.2
                  refine zr_ldc2 (idx := 432) (v := 10) (by decide +kernel) (by decide +kernel) ?_
                  refine zp_seg (pc' := 144) (lv' := [(0, .ref m), (2, .ref (m + 6316 + 9 * (g 16).toNatClampNeg)), (3, .long y3_100)]) (st' := [.long (10 * y3_100)]) [(142, .lload_n 3), (143, .lmul)] (by decide +kernel) rfl ?_
                  have k67 := zmulLN (a := 10) (b := y3_100) (by first | omega | decide) (by first | omega | decide)
                  rw [show (10 : Int64).toInt = 10 from by decide] at k67
                  generalize ev144 : (10 * y3_100 : Int64) = v144 at k67 ⊢
                  have kv144 := zrngL v144
                  refine zp_seg (pc' := 145) (lv' := [(0, .ref m), (2, .ref (m + 6316 + 9 * (g 16).toNatClampNeg)), (3, .long y3_100)]) (st' := [.ref m, .long v144]) [(144, .aload_n 0)] (by decide +kernel) rfl ?_
                  refine zr_get (idx := 339) (k := 11) (v := .ref (m + 80)) (by decide +kernel) (by decide +kernel) hyM rfl ?_
                  refine zp_seg (pc' := 150) (lv' := [(0, .ref m), (2, .ref (m + 6316 + 9 * (g 16).toNatClampNeg)), (3, .long y3_100)]) (st' := [.ref m, .ref m, .ref (m + 80), .long v144]) [(148, .aload_n 0), (149, .dup)] (by decide +kernel) rfl ?_
                  refine zr_get (idx := 334) (k := 13) (v := .int yA) (by decide +kernel) (by decide +kernel) hyM rfl ?_
                  refine zp_seg (pc' := 156) (lv' := [(0, .ref m), (2, .ref (m + 6316 + 9 * (g 16).toNatClampNeg)), (3, .long y3_100)]) (st' := [.int (yA + 1), .ref m, .int yA, .ref (m + 80), .long v144]) [(153, .dup_x1), (154, .iconst 1), (155, .iadd)] (by decide +kernel) rfl ?_
                  have k69 := zaddC yA 1 (n := 1) (by decide) (by omega) (by omega)
                  generalize ev156 : (yA + 1 : Int32) = v156 at k69 ⊢
                  have kv156 := zrng v156
                  refine zr_put2 (idx := 334) (k := 13) (fs2 := zMo m (zs (zs g 13 v156) 16 (g 16 + 1)) r) (by decide +kernel) (by decide +kernel) hyM (Nat.le_of_ble_eq_true rfl) rfl rfl rfl ?_
                  show zP (d + 1) zq_X16_valueB 159 [(0, .ref m), (2, .ref (m + 6316 + 9 * (g 16).toNatClampNeg)), (3, .long y3_100)] [.int yA, .ref (m + 80), .long v144] (zup wL100 m (.inl (15, zMo m (zs (zs g 13 v156) 16 (g 16 + 1)) r))) sz 0 0 Post
                  obtain ⟨w156, ew156⟩ : ∃ wz9, wz9 = zup wL100 m (.inl (15, zMo m (zs (zs g 13 v156) 16 (g 16 + 1)) r)) := ⟨_, rfl⟩
                  have hsi156 : zSI wL100 w156 := by rw [ew156]; exact zSI.setG hyM _ _
                  have heq156 : ∀ x, x ≠ m → w156 x = wL100 x := fun x hx => by rw [ew156]; exact zup_n hx
                  have hc156 : w156 m = some (.inl (15, zMo m (zs (zs g 13 v156) 16 (g 16 + 1)) r)) := by rw [ew156]; exact zup_s
                  rw [← ew156]
                  clear ew156
                  have hb70 : w156 (m + 80) = some (.inr (1, 400, .inl ft)) := (heq156 (m + 80) (zx_X16_valueB_3)).trans hb49
                  refine zr_bald (by decide +kernel) hb70 (by decide) (zin (by first | omega | decide) (by first | omega | decide)) ?_
                  rw [← ex119]
                  refine zp_seg (pc' := 161) (lv' := [(0, .ref m), (2, .ref (m + 6316 + 9 * (g 16).toNatClampNeg)), (3, .long y3_100)]) (st' := [.long (x119.toInt64), .long v144]) [(160, .i2l)] (by decide +kernel) rfl ?_
                  have k71 := zi2lM x119
                  generalize ev161 : (x119.toInt64 : Int64) = v161 at k71 ⊢
                  have kv161 := zrngL v161
                  refine zp_seg (pc' := 162) (lv' := [(0, .ref m), (2, .ref (m + 6316 + 9 * (g 16).toNatClampNeg)), (3, .long y3_100)]) (st' := [.long (v144 + v161)]) [(161, .ladd)] (by decide +kernel) rfl ?_
                  have k72 := zaddLE v144 v161 (by omega) (by omega)
                  generalize ev162 : (v144 + v161 : Int64) = v162 at k72 ⊢
                  have kv162 := zrngL v162
                  refine zr_ldc2 (idx := 434) (v := 48) (by decide +kernel) (by decide +kernel) ?_
                  refine zp_seg (pc' := 166) (lv' := [(0, .ref m), (2, .ref (m + 6316 + 9 * (g 16).toNatClampNeg)), (3, .long y3_100)]) (st' := [.long (v162 - 48)]) [(165, .lsub)] (by decide +kernel) rfl ?_
                  have hl73 : (48 : Int64).toInt = 48 := by decide
                  have k74 := zsubLE v162 48 (by omega) (by omega)
                  rw [show (48 : Int64).toInt = 48 from by decide] at k74
                  generalize ev166 : (v162 - 48 : Int64) = v166 at k74 ⊢
                  have kv166 := zrngL v166
                  refine zp_seg (pc' := 100) (lv' := [(3, .long v166), (0, .ref m), (2, .ref (m + 6316 + 9 * (g 16).toNatClampNeg))]) (st' := []) [(166, .lstore_n 3), (167, .goto (-67))] (by decide +kernel) rfl ?_
                  exact (ih100 w156 v166 (v156) (hsiL100.tr hsi156) (fun x hx => ((heq156 x hx.2).trans (heqL100 x ⟨hx.1, hx.2⟩))) (by
                        exact hc156) (by
                        have hzy9 := znat (x := v156) (by omega)
                        refine ⟨⟨⟨by omega, by omega⟩, by omega⟩, fun i h1 h2 => ?_, by omega, ?_, by omega⟩
                        · by_cases e : i = yA.toNatClampNeg
                          · rw [e]; exact hdg9
                          · exact hyA.2.1 i h1 (by omega)
                        · have h9 : z10 ((v156).toNatClampNeg - A9_1.toNatClampNeg) = 10 * z10 (yA.toNatClampNeg - A9_1.toNatClampNeg) := by
                            rw [show (v156).toNatClampNeg - A9_1.toNatClampNeg = (yA.toNatClampNeg - A9_1.toNatClampNeg) + 1 by omega]
                            rfl
                          omega) (by omega)).more (zfa1 rfl (zfa1 rfl (zfa1 rfl (zfa0))))
          exact (hL100 _ w46 0 (A9_1) zSI.rf (fun _ _ => rfl) (by
                exact hM46) (by
                exact ⟨by omega, fun i h1 h2 => absurd h2 (by omega), by decide, by rw [Nat.sub_self]; decide, by decide⟩) (Nat.lt_succ_self _)).more (zfa1 rfl (zfa1 rfl (zfa1 rfl (zfa0))))
        ·
          replace cc59 := Classical.not_not.mp cc59
          have f76 := zeqI cc59
          rw [show (107 : Int32).toInt = 107 from by decide] at f76
          obtain ⟨P9, hP9⟩ : ∃ P, P = (A9_1).toNatClampNeg := ⟨_, rfl⟩
          have hzP : (P9 : Int) = (A9_1).toInt := by rw [hP9]; exact znat (by omega)
          obtain ⟨hq1, hq2⟩ : P9 < (g 12).toNatClampNeg ∧ zDep ft (P9 + 1) = zDep ft P9 := by
            rw [hP9]
            first
            | exact zChr_p (hr1.symm.trans cc53) (by decide) (by decide) (by decide)
            | exact zChr_p (hr1.symm.trans cc59) (by decide) (by decide) (by decide)
          have hq0 : zDep ft P9 = zDep ft (A9_1).toNatClampNeg := by rw [hP9]
          refine zp_seg (pc' := 64) (lv' := [(2, .ref (m + 6316 + 9 * (g 16).toNatClampNeg)), (1, .int r1), (0, .ref m)]) (st' := [.ref m, .ref m]) [(62, .aload_n 0), (63, .dup)] (by decide +kernel) rfl ?_
          refine zr_get (idx := 334) (k := 13) (v := .int A9_1) (by decide +kernel) (by decide +kernel) hM46 rfl ?_
          refine zp_seg (pc' := 69) (lv' := [(2, .ref (m + 6316 + 9 * (g 16).toNatClampNeg)), (1, .int r1), (0, .ref m)]) (st' := [.int (A9_1 + 1), .ref m]) [(67, .iconst 1), (68, .iadd)] (by decide +kernel) rfl ?_
          have k77 := zrng A9_1
          have k78 := zaddC A9_1 1 (n := 1) (by decide) (by omega) (by omega)
          generalize ev69 : (A9_1 + 1 : Int32) = v69 at k78 ⊢
          have kv69 := zrng v69
          refine zr_put2 (idx := 334) (k := 13) (fs2 := zMo m (zs (zs g 13 v69) 16 (g 16 + 1)) r) (by decide +kernel) (by decide +kernel) hM46 (Nat.le_of_ble_eq_true rfl) rfl rfl rfl ?_
          show zP (d + 1) zq_X16_valueB 72 [(2, .ref (m + 6316 + 9 * (g 16).toNatClampNeg)), (1, .int r1), (0, .ref m)] [] (zup w46 m (.inl (15, zMo m (zs (zs g 13 v69) 16 (g 16 + 1)) r))) sz 0 0 Post
          obtain ⟨w69, ew69⟩ : ∃ wz9, wz9 = zup w46 m (.inl (15, zMo m (zs (zs g 13 v69) 16 (g 16 + 1)) r)) := ⟨_, rfl⟩
          have hsi69 : zSI w46 w69 := by rw [ew69]; exact zSI.setG hM46 _ _
          have heq69 : ∀ x, x ≠ m → w69 x = w46 x := fun x hx => by rw [ew69]; exact zup_n hx
          have hc69 : w69 m = some (.inl (15, zMo m (zs (zs g 13 v69) 16 (g 16 + 1)) r)) := by rw [ew69]; exact zup_s
          rw [← ew69]
          clear ew69
          have hz9 := znat (x := v69) (by omega)
          have hq3 : zDep ft (v69).toNatClampNeg = zDep ft P9 := by rw [show (v69).toNatClampNeg = P9 + 1 by omega]; exact hq2
          refine zp_seg (pc' := 75) (lv' := [(2, .ref (m + 6316 + 9 * (g 16).toNatClampNeg)), (1, .int r1), (0, .ref m)]) (st' := [.int 0, .ref (m + 6316 + 9 * (g 16).toNatClampNeg), .ref m]) [(72, .aload_n 0), (73, .aload_n 2), (74, .iconst 0)] (by decide +kernel) rfl ?_
          have hb79 := hb15.si (hsi46.tr hsi69)
          have hb80 : zTi w69 (m + 6316 + 9 * (g 16).toNatClampNeg) kP := hkP.ag (fun x hx1 hx2 => (heq69 x (by omega)))
          refine zr_callV (idx := 292) (j := 305) (by decide +kernel) (by decide +kernel) (show zMe 305 = some zq_X16_number from rfl) rfl rfl (Nat.le_of_ble_eq_true rfl) rfl rfl hc69 (Nat.le_of_ble_eq_true rfl) (Nat.le_of_ble_eq_true rfl) (c_X16_number (w := w69) (g3 := (g 3)) m (m + 6316 + 9 * (g 16).toNatClampNeg) 0 hc69 hb79 hb80 (by first | omega | decide | assumption | exact zr1_1 | exact zr1_0 | fail "num") (by exact zr1_0) (by first | omega | decide | assumption | exact zr1_1 | exact zr1_0 | fail "num") rfl) (by omega) (fun v75 w75 hp75 => ?_)
          obtain ⟨hsi75, heq75, hp75_0, rfl⟩ := hp75
          show zP _ _ _ _ [] _ _ _ _ _
          obtain ⟨g1, fn1, fd1, fa1, fb1, fc1, fe1, fr1, fu1, hT1, hAn1, hAd1, hAa1, hAb1, hAc1, hAe1, hAr1, hAu1, hK1⟩ := id hp75_0
          obtain ⟨hK10, hKn1, hKd1, hKx1, hKm1, hKl1, hKr1, hKu1, hKk1⟩ := id hK1
          refine zp_seg (pc' := 79) (lv' := [(2, .ref (m + 6316 + 9 * (g 16).toNatClampNeg)), (1, .int r1), (0, .ref m)]) (st' := [.ref (m + 6316 + 9 * (g 16).toNatClampNeg)]) [(78, .aload_n 2)] (by decide +kernel) rfl ?_
          refine zr_get (idx := 207) (k := 1) (v := .ref (m + 6316 + 9 * (g 16).toNatClampNeg + 1)) (by decide +kernel) (by decide +kernel) hT1 rfl ?_
          refine zp_seg (pc' := 85) (lv' := [(2, .ref (m + 6316 + 9 * (g 16).toNatClampNeg)), (1, .int r1), (0, .ref m)]) (st' := [.int 110, .int r1, .ref (m + 6316 + 9 * (g 16).toNatClampNeg + 1)]) [(82, .iload_n 1), (83, .bipush 110)] (by decide +kernel) rfl ?_
          refine zp_if (i := .if_icmp .ne 7) (c := ¬ r1 = 110) (t := 92) (e := 88) (lv' := [(2, .ref (m + 6316 + 9 * (g 16).toNatClampNeg)), (1, .int r1), (0, .ref m)]) (st' := [.ref (m + 6316 + 9 * (g 16).toNatClampNeg + 1)]) (by decide +kernel) rfl (fun cc85 => ?_) (fun cc85 => ?_)
          ·
            have f81 := zneI cc85
            rw [show (110 : Int32).toInt = 110 from by decide] at f81
            refine zp_seg (pc' := 95) (lv' := [(2, .ref (m + 6316 + 9 * (g 16).toNatClampNeg)), (1, .int r1), (0, .ref m)]) (st' := [.int 1, .int 25, .ref (m + 6316 + 9 * (g 16).toNatClampNeg + 1)]) [(92, .bipush 25), (94, .iconst 1)] (by decide +kernel) rfl ?_
            have hl83 : (25 : Int32).toInt = 25 := by decide
            have hz84 : ((25 : Int32).toNatClampNeg : Int) = 25 := by decide
            refine zr_iast (by decide +kernel) hAn1 (zin (by decide) (by decide)) ?_
            show zP (d + 1) zq_X16_valueB 96 [(2, .ref (m + 6316 + 9 * (g 16).toNatClampNeg)), (1, .int r1), (0, .ref m)] [] (zup w75 (m + 6316 + 9 * (g 16).toNatClampNeg + 1) (.inr (0, 325, .inl (upd fn1 ((25 : Int32).toNatClampNeg) 1)))) sz 0 0 Post
            obtain ⟨w95, ew95⟩ : ∃ wz9, wz9 = zup w75 (m + 6316 + 9 * (g 16).toNatClampNeg + 1) (.inr (0, 325, .inl (upd fn1 ((25 : Int32).toNatClampNeg) 1))) := ⟨_, rfl⟩
            have hsi95 : zSI w75 w95 := by rw [ew95]; exact zSI.arr _ hAn1
            have heq95 : ∀ x, x ≠ m + 6316 + 9 * (g 16).toNatClampNeg + 1 → w95 x = w75 x := fun x hx => by rw [ew95]; exact zup_n hx
            have hc95 : w95 (m + 6316 + 9 * (g 16).toNatClampNeg + 1) = some (.inr (0, 325, .inl (upd fn1 ((25 : Int32).toNatClampNeg) 1))) := by rw [ew95]; exact zup_s
            rw [← ew95]
            clear ew95
            have hb85 : w95 (m + 6316 + 9 * (g 16).toNatClampNeg) = some (.inl (13, zTo (m + 6316 + 9 * (g 16).toNatClampNeg) g1)) := (heq95 (m + 6316 + 9 * (g 16).toNatClampNeg) (by omega)).trans hT1
            have hb86 : w95 (m + 6316 + 9 * (g 16).toNatClampNeg + 2) = some (.inr (0, 325, .inl fd1)) := (heq95 (m + 6316 + 9 * (g 16).toNatClampNeg + 2) (by omega)).trans hAd1
            have hb87 : w95 (m + 6316 + 9 * (g 16).toNatClampNeg + 3) = some (.inr (0, 13, .inl fa1)) := (heq95 (m + 6316 + 9 * (g 16).toNatClampNeg + 3) (by omega)).trans hAa1
            have hb88 : w95 (m + 6316 + 9 * (g 16).toNatClampNeg + 4) = some (.inr (0, 13, .inl fb1)) := (heq95 (m + 6316 + 9 * (g 16).toNatClampNeg + 4) (by omega)).trans hAb1
            have hb89 : w95 (m + 6316 + 9 * (g 16).toNatClampNeg + 5) = some (.inr (0, 13, .inl fc1)) := (heq95 (m + 6316 + 9 * (g 16).toNatClampNeg + 5) (by omega)).trans hAc1
            have hb90 : w95 (m + 6316 + 9 * (g 16).toNatClampNeg + 6) = some (.inr (0, 13, .inl fe1)) := (heq95 (m + 6316 + 9 * (g 16).toNatClampNeg + 6) (by omega)).trans hAe1
            have hb91 : w95 (m + 6316 + 9 * (g 16).toNatClampNeg + 7) = some (.inr (0, 175, .inl fr1)) := (heq95 (m + 6316 + 9 * (g 16).toNatClampNeg + 7) (by omega)).trans hAr1
            have hb92 : w95 (m + 6316 + 9 * (g 16).toNatClampNeg + 8) = some (.inr (0, 361, .inl fu1)) := (heq95 (m + 6316 + 9 * (g 16).toNatClampNeg + 8) (by omega)).trans hAu1
            have hTi9 : zTi w95 (m + 6316 + 9 * (g 16).toNatClampNeg) 1 := ⟨_, _, _, _, _, _, _, _, _, hb85, hc95, hb86, hb87, hb88, hb89, hb90, hb91, hb92, ⟨hK10, zCr_up hKn1 _ zr1_1, hKd1, hKx1, hKm1, hKl1, hKr1, hKu1, zKk_12 (Or.inl rfl) (hKk1.2.1 (Or.inl rfl)) (fun e => absurd e (by decide)) (hKk1.2.2.2.1 (Or.inl rfl))⟩⟩
            have hPl96 := hPl0.up (w' := w95) (g 16).toNatClampNeg hTi9 (fun x h1 h2 h3 => ((heq95 x (by omega)).trans ((heq75 x (by omega)).trans ((heq69 x (by omega)).trans ((heq46 x (by omega)).trans (heq1 x (by omega)))))))
            refine zp_seg (pc' := 97) (lv' := [(2, .ref (m + 6316 + 9 * (g 16).toNatClampNeg)), (1, .int r1), (0, .ref m)]) (st' := [.ref (m + 6316 + 9 * (g 16).toNatClampNeg)]) [(96, .aload_n 2)] (by decide +kernel) rfl ?_
            have hb93 : w95 m = some (.inl (15, zMo m (zs (zs g 13 v69) 16 (g 16 + 1)) r)) := ((heq95 m (by omega)).trans (heq75 m (by omega))).trans hc69
            have hoffend : ∀ x, (x < m ∨ m + 1 ≤ x) ∧ (x < m + 6316 + 9 * (g 16).toNatClampNeg ∨ m + 6316 + 9 * (g 16).toNatClampNeg + (1170 - 9 * (g 16).toNatClampNeg) ≤ x) ∧ (x < m + 78 ∨ m + 78 + 1 ≤ x) ∧ (x < m + 276 + 2 * (g 1).toNatClampNeg ∨ m + 276 + 2 * (g 1).toNatClampNeg + (320 - 2 * (g 1).toNatClampNeg) ≤ x) ∧ (x < m + 596 + 130 * (g 3).toNatClampNeg ∨ m + 596 + 130 * (g 3).toNatClampNeg + (5720 - 130 * (g 3).toNatClampNeg) ≤ x) ∧ (x < m + 3 ∨ m + 3 + 1 ≤ x) ∧ (x < m + 5 ∨ m + 5 + 64 ≤ x) → w95 x = w x := fun x hx => ((heq95 x (by omega)).trans ((heq75 x (by omega)).trans ((heq69 x (zx_X16_valueB_1 hx.1)).trans ((heq46 x hx.1).trans (heq1 x hx.1)))))
            refine zr_retA (by decide +kernel) rfl ?_
            rw [← hPost]; exact ⟨rfl, Or.inl ⟨_, rfl, v69, ((g 16 + 1)), (g 17), (g 18), (g 19), 1, ((((hsi1.tr hsi46).tr hsi69).tr hsi75).tr hsi95), hoffend, hb93, (by first | exact hTi9 | (have z9 := hTi9; simpa using z9)), hPl96, (by
                  first
                  | exact ⟨hp22_3.1, by omega, by omega, by omega⟩
                  | exact ⟨hp41_3.1, by omega, by omega, by omega⟩
                  | exact ⟨Or.inl rfl, by omega, by omega, by omega⟩
                  | (have h9 := zDep_dig (ft := ft) yA.toNatClampNeg hyA.2.1 (by omega)
                     exact ⟨Or.inl rfl, by omega, by omega, by omega⟩)), rfl⟩⟩
          ·
            replace cc85 := Classical.not_not.mp cc85
            exact absurd cc85 cc53
    ·
      replace cc37 := Classical.not_not.mp cc37
      have f95 := zeqI cc37
      rw [show (67 : Int32).toInt = 67 from by decide] at f95
      refine zp_seg (pc' := 41) (lv' := [(1, .int r1), (0, .ref m)]) (st' := [.ref m]) [(40, .aload_n 0)] (by decide +kernel) rfl ?_
      have k96 := zrng A9_1
      have hz97 : (A9_1.toNatClampNeg : Int) = A9_1.toInt := znat (by first | omega | decide)
      have hb98 := hR_m.si hsi1
      have hb99 : w1 (m + 80) = some (.inr (1, 400, .inl ft)) := (heq1 (m + 80) (zx_X16_valueB_2)).trans hA_m_80
      have hb100 : zPil w1 (m + 6316) := hPl_m_6316.ag (fun x hx1 hx2 => (heq1 x (zx_X16_valueB_0 hx1 hx2)))
      refine zr_callVT (idx := 426) (j := 335) (by decide +kernel) (by decide +kernel) (show zMe 335 = some zq_X16_choose from rfl) rfl rfl (Nat.le_of_ble_eq_true rfl) rfl rfl hM1 (Nat.le_of_ble_eq_true rfl) (Nat.le_of_ble_eq_true rfl) (hch9 (w := w1) (g1 := (g 1)) (g3 := (g 3)) (g12 := (g 12)) (g13 := A9_1) (g16 := (g 16)) m hM1 hb98 (by first | omega | decide | assumption | exact zr1_1 | exact zr1_0 | fail "num") hb99 (by first | omega | decide | assumption | exact zr1_1 | exact zr1_0 | fail "num") hb100 (by first | omega | decide | assumption | exact zr1_1 | exact zr1_0 | fail "num") (by first | omega | decide | assumption | exact zr1_1 | exact zr1_0 | fail "num") (by first | omega | decide | assumption | exact zr1_1 | exact zr1_0 | fail "num") (by first | omega | decide | assumption | exact zr1_1 | exact zr1_0 | fail "num") (by exact hr1.symm.trans cc37) rfl rfl rfl rfl rfl) (by omega) (fun v41 w41 hp41 => ?_) (fun wx9 hx9 => by
            obtain ⟨G9_x9, hsix9, heqx9, hx9_0, hx9_1, hx9_2⟩ := hx9
            skip
            rw [← hPost]
            exact ⟨rfl, Or.inr ⟨rfl, G9_x9, (hsi1.tr hsix9), (fun x hx => ((heqx9 x ⟨hx.1, hx.2.1, hx.2.2.1, hx.2.2.2.1, hx.2.2.2.2.1, hx.2.2.2.2.2.1, hx.2.2.2.2.2.2⟩).trans (heq1 x hx.1))), hx9_0, (by
                  first | exact hx9_1 | exact ⟨rfl, rfl, rfl, rfl⟩), hx9_2⟩⟩)
      obtain ⟨A9_41, Q9_41, X9_41, Y9_41, Z9_41, K9_41, hsi41, heq41, hp41_0, hp41_1, hp41_2, hp41_3, rfl⟩ := hp41
      have hM41 : w41 m = some (.inl (15, zMo m (zs (zs (zs (zs (zs g 13 A9_41) 16 Q9_41) 17 X9_41) 18 Y9_41) 19 Z9_41) r)) := hp41_0
      show zP _ _ _ _ [.ref (m + 6316 + 9 * (g 16).toNatClampNeg)] _ _ _ _ _
      have hoffend : ∀ x, (x < m ∨ m + 1 ≤ x) ∧ (x < m + 6316 + 9 * (g 16).toNatClampNeg ∨ m + 6316 + 9 * (g 16).toNatClampNeg + (1170 - 9 * (g 16).toNatClampNeg) ≤ x) ∧ (x < m + 78 ∨ m + 78 + 1 ≤ x) ∧ (x < m + 276 + 2 * (g 1).toNatClampNeg ∨ m + 276 + 2 * (g 1).toNatClampNeg + (320 - 2 * (g 1).toNatClampNeg) ≤ x) ∧ (x < m + 596 + 130 * (g 3).toNatClampNeg ∨ m + 596 + 130 * (g 3).toNatClampNeg + (5720 - 130 * (g 3).toNatClampNeg) ≤ x) ∧ (x < m + 3 ∨ m + 3 + 1 ≤ x) ∧ (x < m + 5 ∨ m + 5 + 64 ≤ x) → w41 x = w x := fun x hx => ((heq41 x ⟨hx.1, hx.2.1, hx.2.2.1, hx.2.2.2.1, hx.2.2.2.2.1, hx.2.2.2.2.2.1, hx.2.2.2.2.2.2⟩).trans (heq1 x hx.1))
      refine zr_retA (by decide +kernel) rfl ?_
      rw [← hPost]; exact ⟨rfl, Or.inl ⟨_, rfl, A9_41, Q9_41, X9_41, Y9_41, Z9_41, K9_41, (hsi1.tr hsi41), hoffend, hM41, (by first | exact hp41_1 | (have z9 := hp41_1; simpa using z9)), hp41_2, (by
            first
            | exact ⟨hp22_3.1, by omega, by omega, by omega⟩
            | exact ⟨hp41_3.1, by omega, by omega, by omega⟩
            | exact ⟨Or.inl rfl, by omega, by omega, by omega⟩
            | (have h9 := zDep_dig (ft := ft) yA.toNatClampNeg hyA.2.1 (by omega)
               exact ⟨Or.inl rfl, by omega, by omega, by omega⟩)), rfl⟩⟩
  ·
    replace cc8 := Classical.not_not.mp cc8
    have f102 := zeqI cc8
    rw [show (40 : Int32).toInt = 40 from by decide] at f102
    obtain ⟨P9, hP9⟩ : ∃ P, P = (A9_1).toNatClampNeg := ⟨_, rfl⟩
    have hzP : (P9 : Int) = (A9_1).toInt := by rw [hP9]; exact znat (by omega)
    obtain ⟨hq1, hq2⟩ : P9 < (g 12).toNatClampNeg ∧ ft P9 &&& 255 = 40 := by
      rw [hP9]
      exact zChr_lt (hr1.symm.trans cc8) (by decide)
    have hq0 : zDep ft P9 = zDep ft (A9_1).toNatClampNeg := by rw [hP9]
    have hq4 := zDep_o hq2
    have hq5 := htx.1 (P9 + 1) (by omega)
    refine zp_seg (pc' := 13) (lv' := [(1, .int r1), (0, .ref m)]) (st' := [.ref m, .ref m]) [(11, .aload_n 0), (12, .dup)] (by decide +kernel) rfl ?_
    refine zr_get (idx := 334) (k := 13) (v := .int A9_1) (by decide +kernel) (by decide +kernel) hM1 rfl ?_
    refine zp_seg (pc' := 18) (lv' := [(1, .int r1), (0, .ref m)]) (st' := [.int (A9_1 + 1), .ref m]) [(16, .iconst 1), (17, .iadd)] (by decide +kernel) rfl ?_
    have k103 := zrng A9_1
    have k104 := zaddC A9_1 1 (n := 1) (by decide) (by omega) (by omega)
    generalize ev18 : (A9_1 + 1 : Int32) = v18 at k104 ⊢
    have kv18 := zrng v18
    refine zr_put2 (idx := 334) (k := 13) (fs2 := zMo m (zs g 13 v18) r) (by decide +kernel) (by decide +kernel) hM1 (Nat.le_of_ble_eq_true rfl) rfl rfl rfl ?_
    show zP (d + 1) zq_X16_valueB 21 [(1, .int r1), (0, .ref m)] [] (zup w1 m (.inl (15, zMo m (zs g 13 v18) r))) sz 0 0 Post
    obtain ⟨w18, ew18⟩ : ∃ wz9, wz9 = zup w1 m (.inl (15, zMo m (zs g 13 v18) r)) := ⟨_, rfl⟩
    have hsi18 : zSI w1 w18 := by rw [ew18]; exact zSI.setG hM1 _ _
    have heq18 : ∀ x, x ≠ m → w18 x = w1 x := fun x hx => by rw [ew18]; exact zup_n hx
    have hc18 : w18 m = some (.inl (15, zMo m (zs g 13 v18) r)) := by rw [ew18]; exact zup_s
    rw [← ew18]
    clear ew18
    have hz9 := znat (x := v18) (by omega)
    have hq3 : zDep ft (v18).toNatClampNeg = zDep ft (P9 + 1) := by rw [show (v18).toNatClampNeg = P9 + 1 by omega]
    refine zp_seg (pc' := 22) (lv' := [(1, .int r1), (0, .ref m)]) (st' := [.ref m]) [(21, .aload_n 0)] (by decide +kernel) rfl ?_
    have hz105 : (v18.toNatClampNeg : Int) = v18.toInt := znat (by first | omega | decide)
    have hb106 := hR_m.si (hsi1.tr hsi18)
    have hb107 : w18 (m + 80) = some (.inr (1, 400, .inl ft)) := ((heq18 (m + 80) (zx_X16_valueB_3)).trans (heq1 (m + 80) (zx_X16_valueB_2))).trans hA_m_80
    have hb108 : zPil w18 (m + 6316) := hPl_m_6316.ag (fun x hx1 hx2 => ((heq18 x (zx_X16_valueB_4 hx1 hx2)).trans (heq1 x (zx_X16_valueB_0 hx1 hx2))))
    refine zr_callVT (idx := 423) (j := 327) (by decide +kernel) (by decide +kernel) (show zMe 327 = some zq_X16_valueE from rfl) rfl rfl (Nat.le_of_ble_eq_true rfl) rfl rfl hc18 (Nat.le_of_ble_eq_true rfl) (Nat.le_of_ble_eq_true rfl) (hc9 (w := w18) (g1 := (g 1)) (g3 := (g 3)) (g12 := (g 12)) (g13 := v18) (g16 := (g 16)) m hc18 hb106 (by first | omega | decide | assumption | exact zr1_1 | exact zr1_0 | fail "num") hb107 (by first | omega | decide | assumption | exact zr1_1 | exact zr1_0 | fail "num") hb108 (by first | omega | decide | assumption | exact zr1_1 | exact zr1_0 | fail "num") (by first | omega | decide | assumption | exact zr1_1 | exact zr1_0 | fail "num") (by first | omega | decide | assumption | exact zr1_1 | exact zr1_0 | fail "num") (by first | omega | decide | assumption | exact zr1_1 | exact zr1_0 | fail "num") rfl rfl rfl rfl rfl) (by omega) (fun v22 w22 hp22 => ?_) (fun wx9 hx9 => by
          obtain ⟨G9_x9, hsix9, heqx9, hx9_0, hx9_1, hx9_2⟩ := hx9
          skip
          rw [← hPost]
          exact ⟨rfl, Or.inr ⟨rfl, G9_x9, ((hsi1.tr hsi18).tr hsix9), (fun x hx => ((heqx9 x ⟨hx.1, hx.2.1, hx.2.2.1, hx.2.2.2.1, hx.2.2.2.2.1, hx.2.2.2.2.2.1, hx.2.2.2.2.2.2⟩).trans ((heq18 x (zx_X16_valueB_1 hx.1)).trans (heq1 x hx.1)))), hx9_0, (by
                first | exact hx9_1 | exact ⟨rfl, rfl, rfl, rfl⟩), hx9_2⟩⟩)
    obtain ⟨A9_22, Q9_22, X9_22, Y9_22, Z9_22, K9_22, hsi22, heq22, hp22_0, hp22_1, hp22_2, hp22_3, rfl⟩ := hp22
    have hM22 : w22 m = some (.inl (15, zMo m (zs (zs (zs (zs (zs g 13 A9_22) 16 Q9_22) 17 X9_22) 18 Y9_22) 19 Z9_22) r)) := hp22_0
    show zP _ _ _ _ [.ref (m + 6316 + 9 * (g 16).toNatClampNeg)] _ _ _ _ _
    refine zp_seg (pc' := 26) (lv' := [(2, .ref (m + 6316 + 9 * (g 16).toNatClampNeg)), (1, .int r1), (0, .ref m)]) (st' := []) [(25, .astore_n 2)] (by decide +kernel) rfl ?_
    have hv22 := hp22_3
    refine zp_seg (pc' := 29) (lv' := [(2, .ref (m + 6316 + 9 * (g 16).toNatClampNeg)), (1, .int r1), (0, .ref m)]) (st' := [.int 41, .ref m]) [(26, .aload_n 0), (27, .bipush 41)] (by decide +kernel) rfl ?_
    have k109 := zrng A9_22
    have hb110 := hb106.si hsi22
    have hb111 : w22 (m + 80) = some (.inr (1, 400, .inl ft)) := (heq22 (m + 80) (by omega)).trans hb107
    refine zr_callVT (idx := 368) (j := 320) (by decide +kernel) (by decide +kernel) (show zMe 320 = some zq_X16_must from rfl) rfl rfl (Nat.le_of_ble_eq_true rfl) rfl rfl hM22 (Nat.le_of_ble_eq_true rfl) (Nat.le_of_ble_eq_true rfl) (c_X16_must (w := w22) (g12 := (g 12)) (g13 := A9_22) m 41 hM22 hb110 (by first | omega | decide | assumption | exact zr1_1 | exact zr1_0 | fail "num") hb111 (by first | omega | decide | assumption | exact zr1_1 | exact zr1_0 | fail "num") (by first | omega | decide | assumption | exact zr1_1 | exact zr1_0 | fail "num") rfl rfl) (by omega) (fun v29 w29 hp29 => ?_) (fun wx9 hx9 => by
          obtain ⟨G9_x9, hsix9, heqx9, hx9_0, hx9_1⟩ := hx9
          have hb112 : zPil wx9 (m + 6316) := hp22_2.ag (fun x hx1 hx2 => (heqx9 x (zx_X16_valueB_0 hx1 hx2)))
          rw [← hPost]
          exact ⟨rfl, Or.inr ⟨rfl, G9_x9, (((hsi1.tr hsi18).tr hsi22).tr hsix9), (fun x hx => ((heqx9 x hx.1).trans ((heq22 x ⟨hx.1, hx.2.1, hx.2.2.1, hx.2.2.2.1, hx.2.2.2.2.1, hx.2.2.2.2.2.1, hx.2.2.2.2.2.2⟩).trans ((heq18 x (zx_X16_valueB_1 hx.1)).trans (heq1 x hx.1))))), hx9_0, (by
                first | exact hx9_1 | exact ⟨rfl, rfl, rfl, rfl⟩), hb112⟩⟩)
    obtain ⟨A9_29, hsi29, heq29, hp29_0, hp29_1, rfl⟩ := hp29
    have hM29 : w29 m = some (.inl (15, zMo m (zs (zs (zs (zs (zs g 13 A9_29) 16 Q9_22) 17 X9_22) 18 Y9_22) 19 Z9_22) r)) := hp29_0
    show zP _ _ _ _ [] _ _ _ _ _
    obtain ⟨B29, b1_29, b2_29, b3_29, b4_29⟩ := hp29_1.2
    have b5_29 := b1_29.2
    have b6_29 : zDep ft A9_29.toNatClampNeg = zDep ft B29 - 1 := by rw [b4_29]; exact zDep_c b3_29
    have hzA29 := znat (x := A9_29) (by omega)
    refine zp_seg (pc' := 33) (lv' := [(2, .ref (m + 6316 + 9 * (g 16).toNatClampNeg)), (1, .int r1), (0, .ref m)]) (st' := [.ref (m + 6316 + 9 * (g 16).toNatClampNeg)]) [(32, .aload_n 2)] (by decide +kernel) rfl ?_
    have hoffend : ∀ x, (x < m ∨ m + 1 ≤ x) ∧ (x < m + 6316 + 9 * (g 16).toNatClampNeg ∨ m + 6316 + 9 * (g 16).toNatClampNeg + (1170 - 9 * (g 16).toNatClampNeg) ≤ x) ∧ (x < m + 78 ∨ m + 78 + 1 ≤ x) ∧ (x < m + 276 + 2 * (g 1).toNatClampNeg ∨ m + 276 + 2 * (g 1).toNatClampNeg + (320 - 2 * (g 1).toNatClampNeg) ≤ x) ∧ (x < m + 596 + 130 * (g 3).toNatClampNeg ∨ m + 596 + 130 * (g 3).toNatClampNeg + (5720 - 130 * (g 3).toNatClampNeg) ≤ x) ∧ (x < m + 3 ∨ m + 3 + 1 ≤ x) ∧ (x < m + 5 ∨ m + 5 + 64 ≤ x) → w29 x = w x := fun x hx => ((heq29 x hx.1).trans ((heq22 x ⟨hx.1, hx.2.1, hx.2.2.1, hx.2.2.2.1, hx.2.2.2.2.1, hx.2.2.2.2.2.1, hx.2.2.2.2.2.2⟩).trans ((heq18 x (zx_X16_valueB_1 hx.1)).trans (heq1 x hx.1))))
    have hb113 : zTi w29 (m + 6316 + 9 * (g 16).toNatClampNeg) K9_22 := hp22_1.ag (fun x hx1 hx2 => (heq29 x (by omega)))
    have hb114 : zPil w29 (m + 6316) := hp22_2.ag (fun x hx1 hx2 => (heq29 x (zx_X16_valueB_0 hx1 hx2)))
    refine zr_retA (by decide +kernel) rfl ?_
    rw [← hPost]; exact ⟨rfl, Or.inl ⟨_, rfl, A9_29, Q9_22, X9_22, Y9_22, Z9_22, K9_22, (((hsi1.tr hsi18).tr hsi22).tr hsi29), hoffend, hM29, (by first | exact hb113 | (have z9 := hb113; simpa using z9)), hb114, (by
          first
          | exact ⟨hp22_3.1, by omega, by omega, by omega⟩
          | exact ⟨hp41_3.1, by omega, by omega, by omega⟩
          | exact ⟨Or.inl rfl, by omega, by omega, by omega⟩
          | (have h9 := zDep_dig (ft := ft) yA.toNatClampNeg hyA.2.1 (by omega)
             exact ⟨Or.inl rfl, by omega, by omega, by omega⟩)), rfl⟩⟩
