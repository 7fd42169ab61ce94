theorem zx_X16_choose_0 {m : Nat}  : (m + 80) ≠ m := by omega
theorem zx_X16_choose_1 {m x : Nat} (h0 : x < m ∨ m + 1 ≤ x) : x ≠ m := by omega
theorem zx_X16_choose_2 {m x : Nat} (h0 : m + 6316 ≤ x) (h1 : x < m + 6316 + 1170) : x ≠ m := by omega
theorem zx_X16_choose_3 {m x : Nat} (h0 : m + 6316 ≤ x) (h1 : x < m + 6316 + 1170) : x < m ∨ m + 1 ≤ x := by omega
theorem zx_X16_choose_4 {m : Nat}  : (m + 80) < m ∨ m + 1 ≤ (m + 80) := by omega
set_option maxHeartbeats 8000000 in
set_option maxRecDepth 100000 in
theorem c_X16_choose {w : zM} {g : Nat → Int32} {r : Nat → Value} {ft : Nat → Int32} {g1 : Int32} {g3 : Int32} {g12 : Int32} {g13 : Int32} {g16 : Int32} (m : Nat) {n9 k9 : Nat} (hk9 : 40 ≤ k9) (hc9 : ∀ {w : zM} {g : Nat → Int32} {r : Nat → Value} {ft : Nat → Int32} {g1 : Int32} {g3 : Int32} {g12 : Int32} {g13 : Int32} {g16 : Int32} (m : Nat) (hm : w m = some (.inl (15, zMo m g r))) (hR_m : zR m w) (htp : 0 ≤ g13.toInt ∧ g13.toInt ≤ g12.toInt ∧ g12.toInt ≤ 400) (hA_m_80 : w (m + 80) = some (.inr (1, 400, .inl ft))) (htx : (∀ i, i ≤ g12.toNatClampNeg → zDep ft i ≤ 20) ∧ ∀ i, i < g12.toNatClampNeg → ¬ zRun ft g12.toNatClampNeg i) (hPl_m_6316 : zPil w (m + 6316)) (hut : 0 ≤ g1.toInt ∧ g1.toInt + 9 ≤ 160) (hbt : 0 ≤ g3.toInt ∧ g3.toInt + 16 ≤ 44) (hpi : 0 ≤ g16.toInt ∧ g16.toInt ≤ 4 * zDep ft g13.toNatClampNeg + 0) (hlv : 21 ≤ zDep ft g13.toNatClampNeg + (n9 : Int)) (hg1 : g 1 = g1) (hg3 : g 3 = g3) (hg12 : g 12 = g12) (hg13 : g 13 = g13) (hg16 : g 16 = g16), zConT k9 zq_X16_valueE [.ref m] w (fun v9 w9' => ∃ A9 : Int32, ∃ Q9 : Int32, ∃ X9 : Int32, ∃ Y9 : Int32, ∃ Z9 : Int32, ∃ K9 : Int32, zSI w w9' ∧ (∀ x, (x < m ∨ m + 1 ≤ x) ∧ (x < m + 6316 + 9 * g16.toNatClampNeg ∨ m + 6316 + 9 * g16.toNatClampNeg + (1170 - 9 * g16.toNatClampNeg) ≤ x) ∧ (x < m + 78 ∨ m + 78 + 1 ≤ x) ∧ (x < m + 276 + 2 * g1.toNatClampNeg ∨ m + 276 + 2 * g1.toNatClampNeg + (320 - 2 * g1.toNatClampNeg) ≤ x) ∧ (x < m + 596 + 130 * g3.toNatClampNeg ∨ m + 596 + 130 * g3.toNatClampNeg + (5720 - 130 * g3.toNatClampNeg) ≤ x) ∧ (x < m + 3 ∨ m + 3 + 1 ≤ x) ∧ (x < m + 5 ∨ m + 5 + 64 ≤ x) → w9' x = w x) ∧ w9' m = some (.inl (15, zMo m (zs (zs (zs (zs (zs g 13 A9) 16 Q9) 17 X9) 18 Y9) 19 Z9) r)) ∧ zTi w9' (m + 6316 + 9 * g16.toNatClampNeg) K9 ∧ zPil w9' (m + 6316) ∧ ((K9 = 1 ∨ K9 = 2) ∧ (g13.toInt ≤ A9.toInt ∧ A9.toInt ≤ g12.toInt) ∧ zDep ft A9.toNatClampNeg = zDep ft g13.toNatClampNeg ∧ Q9.toInt = g16.toInt + 1) ∧ v9 = some (.ref (m + 6316 + 9 * g16.toNatClampNeg))) (fun w9' => ∃ G9 : Nat → Int32, zSI w w9' ∧ (∀ x, (x < m ∨ m + 1 ≤ x) ∧ (x < m + 6316 + 9 * g16.toNatClampNeg ∨ m + 6316 + 9 * g16.toNatClampNeg + (1170 - 9 * g16.toNatClampNeg) ≤ x) ∧ (x < m + 78 ∨ m + 78 + 1 ≤ x) ∧ (x < m + 276 + 2 * g1.toNatClampNeg ∨ m + 276 + 2 * g1.toNatClampNeg + (320 - 2 * g1.toNatClampNeg) ≤ x) ∧ (x < m + 596 + 130 * g3.toNatClampNeg ∨ m + 596 + 130 * g3.toNatClampNeg + (5720 - 130 * g3.toNatClampNeg) ≤ x) ∧ (x < m + 3 ∨ m + 3 + 1 ≤ x) ∧ (x < m + 5 ∨ m + 5 + 64 ≤ x) → w9' x = w x) ∧ w9' m = some (.inl (15, zMo m G9 r)) ∧ (zKp G9 g) ∧ zPil w9' (m + 6316))) (hm : w m = some (.inl (15, zMo m g r))) (hR_m : zR m w) (htp : 0 ≤ g13.toInt ∧ g13.toInt ≤ g12.toInt ∧ g12.toInt ≤ 400) (hA_m_80 : w (m + 80) = some (.inr (1, 400, .inl ft))) (htx : (∀ i, i ≤ g12.toNatClampNeg → zDep ft i ≤ 20) ∧ ∀ i, i < g12.toNatClampNeg → ¬ zRun ft g12.toNatClampNeg i) (hPl_m_6316 : zPil w (m + 6316)) (hut : 0 ≤ g1.toInt ∧ g1.toInt + 9 ≤ 160) (hbt : 0 ≤ g3.toInt ∧ g3.toInt + 16 ≤ 44) (hpi : 0 ≤ g16.toInt ∧ g16.toInt ≤ 4 * zDep ft g13.toNatClampNeg + 3) (hlv : 21 ≤ zDep ft g13.toNatClampNeg + (n9 : Int) + 1) (hch : zChr ft g12.toNatClampNeg g13.toNatClampNeg = 67) (hg1 : g 1 = g1) (hg3 : g 3 = g3) (hg12 : g 12 = g12) (hg13 : g 13 = g13) (hg16 : g 16 = g16) : zConT (k9 + 1) zq_X16_choose [.ref m] w (fun v9 w9' => ∃ A9 : Int32, ∃ Q9 : Int32, ∃ X9 : Int32, ∃ Y9 : Int32, ∃ Z9 : Int32, ∃ K9 : Int32, zSI w w9' ∧ (∀ x, (x < m ∨ m + 1 ≤ x) ∧ (x < m + 6316 + 9 * g16.toNatClampNeg ∨ m + 6316 + 9 * g16.toNatClampNeg + (1170 - 9 * g16.toNatClampNeg) ≤ x) ∧ (x < m + 78 ∨ m + 78 + 1 ≤ x) ∧ (x < m + 276 + 2 * g1.toNatClampNeg ∨ m + 276 + 2 * g1.toNatClampNeg + (320 - 2 * g1.toNatClampNeg) ≤ x) ∧ (x < m + 596 + 130 * g3.toNatClampNeg ∨ m + 596 + 130 * g3.toNatClampNeg + (5720 - 130 * g3.toNatClampNeg) ≤ x) ∧ (x < m + 3 ∨ m + 3 + 1 ≤ x) ∧ (x < m + 5 ∨ m + 5 + 64 ≤ x) → w9' x = w x) ∧ w9' m = some (.inl (15, zMo m (zs (zs (zs (zs (zs g 13 A9) 16 Q9) 17 X9) 18 Y9) 19 Z9) r)) ∧ zTi w9' (m + 6316 + 9 * g16.toNatClampNeg) K9 ∧ zPil w9' (m + 6316) ∧ ((K9 = 1 ∨ K9 = 2) ∧ (g13.toInt ≤ A9.toInt ∧ A9.toInt ≤ g12.toInt) ∧ zDep ft A9.toNatClampNeg = zDep ft g13.toNatClampNeg ∧ Q9.toInt = g16.toInt + 1) ∧ v9 = some (.ref (m + 6316 + 9 * g16.toNatClampNeg))) (fun w9' => ∃ G9 : Nat → Int32, zSI w w9' ∧ (∀ x, (x < m ∨ m + 1 ≤ x) ∧ (x < m + 6316 + 9 * g16.toNatClampNeg ∨ m + 6316 + 9 * g16.toNatClampNeg + (1170 - 9 * g16.toNatClampNeg) ≤ x) ∧ (x < m + 78 ∨ m + 78 + 1 ≤ x) ∧ (x < m + 276 + 2 * g1.toNatClampNeg ∨ m + 276 + 2 * g1.toNatClampNeg + (320 - 2 * g1.toNatClampNeg) ≤ x) ∧ (x < m + 596 + 130 * g3.toNatClampNeg ∨ m + 596 + 130 * g3.toNatClampNeg + (5720 - 130 * g3.toNatClampNeg) ≤ x) ∧ (x < m + 3 ∨ m + 3 + 1 ≤ x) ∧ (x < m + 5 ∨ m + 5 + 64 ≤ x) → w9' x = w x) ∧ w9' m = some (.inl (15, zMo m G9 r)) ∧ (zKp G9 g) ∧ zPil w9' (m + 6316)) := by
  subst hg1
  subst hg3
  subst hg12
  subst hg13
  subst hg16
  intro d sz hd
  obtain ⟨d, rfl⟩ : ∃ d9, d = d9 + 1 := ⟨d - 1, by omega⟩
  generalize hPost : (fun (r9' : Option (Option Value)) (w9' : zM) (z9 : Nat) => z9 = sz ∧ ((∃ v9, r9' = some v9 ∧ (∃ A9 : Int32, ∃ Q9 : Int32, ∃ X9 : Int32, ∃ Y9 : Int32, ∃ Z9 : Int32, ∃ K9 : Int32, zSI w w9' ∧ (∀ x, (x < m ∨ m + 1 ≤ x) ∧ (x < m + 6316 + 9 * (g 16).toNatClampNeg ∨ m + 6316 + 9 * (g 16).toNatClampNeg + (1170 - 9 * (g 16).toNatClampNeg) ≤ x) ∧ (x < m + 78 ∨ m + 78 + 1 ≤ x) ∧ (x < m + 276 + 2 * (g 1).toNatClampNeg ∨ m + 276 + 2 * (g 1).toNatClampNeg + (320 - 2 * (g 1).toNatClampNeg) ≤ x) ∧ (x < m + 596 + 130 * (g 3).toNatClampNeg ∨ m + 596 + 130 * (g 3).toNatClampNeg + (5720 - 130 * (g 3).toNatClampNeg) ≤ x) ∧ (x < m + 3 ∨ m + 3 + 1 ≤ x) ∧ (x < m + 5 ∨ m + 5 + 64 ≤ x) → w9' x = w x) ∧ w9' m = some (.inl (15, zMo m (zs (zs (zs (zs (zs g 13 A9) 16 Q9) 17 X9) 18 Y9) 19 Z9) r)) ∧ zTi w9' (m + 6316 + 9 * (g 16).toNatClampNeg) K9 ∧ zPil w9' (m + 6316) ∧ ((K9 = 1 ∨ K9 = 2) ∧ ((g 13).toInt ≤ A9.toInt ∧ A9.toInt ≤ (g 12).toInt) ∧ zDep ft A9.toNatClampNeg = zDep ft (g 13).toNatClampNeg ∧ Q9.toInt = (g 16).toInt + 1) ∧ v9 = some (.ref (m + 6316 + 9 * (g 16).toNatClampNeg)))) ∨ (r9' = none ∧ (∃ G9 : Nat → Int32, zSI w w9' ∧ (∀ x, (x < m ∨ m + 1 ≤ x) ∧ (x < m + 6316 + 9 * (g 16).toNatClampNeg ∨ m + 6316 + 9 * (g 16).toNatClampNeg + (1170 - 9 * (g 16).toNatClampNeg) ≤ x) ∧ (x < m + 78 ∨ m + 78 + 1 ≤ x) ∧ (x < m + 276 + 2 * (g 1).toNatClampNeg ∨ m + 276 + 2 * (g 1).toNatClampNeg + (320 - 2 * (g 1).toNatClampNeg) ≤ x) ∧ (x < m + 596 + 130 * (g 3).toNatClampNeg ∨ m + 596 + 130 * (g 3).toNatClampNeg + (5720 - 130 * (g 3).toNatClampNeg) ≤ x) ∧ (x < m + 3 ∨ m + 3 + 1 ≤ x) ∧ (x < m + 5 ∨ m + 5 + 64 ≤ x) → w9' x = w x) ∧ w9' m = some (.inl (15, zMo m G9 r)) ∧ (zKp G9 g) ∧ zPil w9' (m + 6316))))) = Post
  show zP (d + 1) zq_X16_choose 0 [(0, .ref m)] [] w sz 0 0 Post
  have k1 := zrng (g 1)
  have hz2 : ((g 1).toNatClampNeg : Int) = (g 1).toInt := znat (by first | omega | decide)
  have hgb1 : (g 1).toNatClampNeg + 9 ≤ 160 := by omega
  have k3 := zrng (g 3)
  have hz4 : ((g 3).toNatClampNeg : Int) = (g 3).toInt := znat (by first | omega | decide)
  have hgb3 : (g 3).toNatClampNeg + 16 ≤ 44 := by omega
  have k5 := zrng (g 12)
  have hz6 : ((g 12).toNatClampNeg : Int) = (g 12).toInt := znat (by first | omega | decide)
  have k7 := zrng (g 13)
  have hz8 : ((g 13).toNatClampNeg : Int) = (g 13).toInt := znat (by first | omega | decide)
  have k9 := zrng (g 16)
  have hz10 : ((g 16).toNatClampNeg : Int) = (g 16).toInt := znat (by first | omega | decide)
  have hd0 := htx.1 (g 13).toNatClampNeg (by omega)
  refine zp_seg (pc' := 2) (lv' := [(0, .ref m)]) (st' := [.ref m, .ref m]) [(0, .aload_n 0), (1, .dup)] (by decide +kernel) rfl ?_
  refine zr_get (idx := 334) (k := 13) (v := .int (g 13)) (by decide +kernel) (by decide +kernel) hm rfl ?_
  refine zp_seg (pc' := 8) (lv' := [(0, .ref m)]) (st' := [.int ((g 13) + 1), .ref m, .int (g 13)]) [(5, .dup_x1), (6, .iconst 1), (7, .iadd)] (by decide +kernel) rfl ?_
  have k11 := zaddC ((g 13)) 1 (n := 1) (by decide) (by omega) (by omega)
  generalize ev8 : ((g 13) + 1 : Int32) = v8 at k11 ⊢
  have kv8 := zrng v8
  refine zr_put2 (idx := 334) (k := 13) (fs2 := zMo m (zs g 13 v8) r) (by decide +kernel) (by decide +kernel) hm (Nat.le_of_ble_eq_true rfl) rfl rfl rfl ?_
  show zP (d + 1) zq_X16_choose 11 [(0, .ref m)] [.int (g 13)] (zup w m (.inl (15, zMo m (zs g 13 v8) r))) sz 0 0 Post
  obtain ⟨w8, ew8⟩ : ∃ wz9, wz9 = zup w m (.inl (15, zMo m (zs g 13 v8) r)) := ⟨_, rfl⟩
  have hsi8 : zSI w w8 := by rw [ew8]; exact zSI.setG hm _ _
  have heq8 : ∀ x, x ≠ m → w8 x = w x := fun x hx => by rw [ew8]; exact zup_n hx
  have hc8 : w8 m = some (.inl (15, zMo m (zs g 13 v8) r)) := by rw [ew8]; exact zup_s
  rw [← ew8]
  clear ew8
  have hz9 := znat (x := v8) (by omega)
  obtain ⟨hq1, hq2⟩ := zChr_p hch (by decide) (by decide) (by decide)
  have hq3 : zDep ft (v8).toNatClampNeg = zDep ft (g 13).toNatClampNeg := by rw [show (v8).toNatClampNeg = (g 13).toNatClampNeg + 1 by omega]; exact hq2
  refine zp_seg (pc' := 15) (lv' := [(1, .int (g 13)), (0, .ref m)]) (st' := [.int 40, .ref m]) [(11, .istore_n 1), (12, .aload_n 0), (13, .bipush 40)] (by decide +kernel) rfl ?_
  have hb12 := hR_m.si hsi8
  have hb13 : w8 (m + 80) = some (.inr (1, 400, .inl ft)) := (heq8 (m + 80) (zx_X16_choose_0)).trans hA_m_80
  refine zr_callVT (idx := 368) (j := 320) (by decide +kernel) (by decide +kernel) (show zMe 320 = some zq_X16_must from rfl) rfl rfl (Nat.le_of_ble_eq_true rfl) rfl rfl hc8 (Nat.le_of_ble_eq_true rfl) (Nat.le_of_ble_eq_true rfl) (c_X16_must (w := w8) (g12 := (g 12)) (g13 := v8) m 40 hc8 hb12 (by first | omega | decide | assumption | exact zr1_1 | exact zr1_0 | fail "num") hb13 (by first | omega | decide | assumption | exact zr1_1 | exact zr1_0 | fail "num") (by first | omega | decide | assumption | exact zr1_1 | exact zr1_0 | fail "num") rfl rfl) (by omega) (fun v15 w15 hp15 => ?_) (fun wx9 hx9 => by
        obtain ⟨G9_x9, hsix9, heqx9, hx9_0, hx9_1⟩ := hx9
        have hb14 : zPil wx9 (m + 6316) := hPl_m_6316.ag (fun x hx1 hx2 => ((heqx9 x (zx_X16_choose_3 hx1 hx2)).trans (heq8 x (zx_X16_choose_2 hx1 hx2))))
        rw [← hPost]
        exact ⟨rfl, Or.inr ⟨rfl, G9_x9, (hsi8.tr hsix9), (fun x hx => ((heqx9 x hx.1).trans (heq8 x (zx_X16_choose_1 hx.1)))), hx9_0, (by
              first | exact hx9_1 | exact ⟨rfl, rfl, rfl, rfl⟩), hb14⟩⟩)
  obtain ⟨A9_15, hsi15, heq15, hp15_0, hp15_1, rfl⟩ := hp15
  have hM15 : w15 m = some (.inl (15, zMo m (zs g 13 A9_15) r)) := hp15_0
  show zP _ _ _ _ [] _ _ _ _ _
  have hzA15 := znat (x := A9_15) (by omega)
  obtain ⟨B15, b1_15, b2_15, b3_15, b4_15⟩ := hp15_1.2
  have b5_15 := b1_15.2
  have b6_15 : zDep ft A9_15.toNatClampNeg = zDep ft B15 + 1 := by rw [b4_15]; exact zDep_o b3_15
  have hd15 := htx.1 A9_15.toNatClampNeg (by omega)
  refine zp_seg (pc' := 19) (lv' := [(1, .int (g 13)), (0, .ref m)]) (st' := [.ref m]) [(18, .aload_n 0)] (by decide +kernel) rfl ?_
  have k15 := zrng A9_15
  have hz16 : (A9_15.toNatClampNeg : Int) = A9_15.toInt := znat (by first | omega | decide)
  have hb17 := hb12.si hsi15
  have hb18 : w15 (m + 80) = some (.inr (1, 400, .inl ft)) := (heq15 (m + 80) (zx_X16_choose_4)).trans hb13
  have hb19 : zPil w15 (m + 6316) := hPl_m_6316.ag (fun x hx1 hx2 => ((heq15 x (zx_X16_choose_3 hx1 hx2)).trans (heq8 x (zx_X16_choose_2 hx1 hx2))))
  refine zr_callVT (idx := 423) (j := 327) (by decide +kernel) (by decide +kernel) (show zMe 327 = some zq_X16_valueE from rfl) rfl rfl (Nat.le_of_ble_eq_true rfl) rfl rfl hM15 (Nat.le_of_ble_eq_true rfl) (Nat.le_of_ble_eq_true rfl) (hc9 (w := w15) (g1 := (g 1)) (g3 := (g 3)) (g12 := (g 12)) (g13 := A9_15) (g16 := (g 16)) m hM15 hb17 (by first | omega | decide | assumption | exact zr1_1 | exact zr1_0 | fail "num") hb18 (by first | omega | decide | assumption | exact zr1_1 | exact zr1_0 | fail "num") hb19 (by first | omega | decide | assumption | exact zr1_1 | exact zr1_0 | fail "num") (by first | omega | decide | assumption | exact zr1_1 | exact zr1_0 | fail "num") (by first | omega | decide | assumption | exact zr1_1 | exact zr1_0 | fail "num") (by first | omega | decide | assumption | exact zr1_1 | exact zr1_0 | fail "num") rfl rfl rfl rfl rfl) (by omega) (fun v19 w19 hp19 => ?_) (fun wx9 hx9 => by
        obtain ⟨G9_x9, hsix9, heqx9, hx9_0, hx9_1, hx9_2⟩ := hx9
        skip
        rw [← hPost]
        exact ⟨rfl, Or.inr ⟨rfl, G9_x9, ((hsi8.tr hsi15).tr hsix9), (fun x hx => ((heqx9 x ⟨hx.1, hx.2.1, hx.2.2.1, hx.2.2.2.1, hx.2.2.2.2.1, hx.2.2.2.2.2.1, hx.2.2.2.2.2.2⟩).trans ((heq15 x hx.1).trans (heq8 x (zx_X16_choose_1 hx.1))))), hx9_0, (by
              first | exact hx9_1 | exact ⟨rfl, rfl, rfl, rfl⟩), hx9_2⟩⟩)
  obtain ⟨A9_19, Q9_19, X9_19, Y9_19, Z9_19, K9_19, hsi19, heq19, hp19_0, hp19_1, hp19_2, hp19_3, rfl⟩ := hp19
  have hM19 : w19 m = some (.inl (15, zMo m (zs (zs (zs (zs (zs g 13 A9_19) 16 Q9_19) 17 X9_19) 18 Y9_19) 19 Z9_19) r)) := hp19_0
  show zP _ _ _ _ [.ref (m + 6316 + 9 * (g 16).toNatClampNeg)] _ _ _ _ _
  have hv19 := hp19_3
  have hzA19 := znat (x := A9_19) (by omega)
  have hzQ19 := znat (x := Q9_19) (by omega)
  refine zp_seg (pc' := 26) (lv' := [(2, .ref (m + 6316 + 9 * (g 16).toNatClampNeg)), (1, .int (g 13)), (0, .ref m)]) (st' := [.int 44, .ref m]) [(22, .astore_n 2), (23, .aload_n 0), (24, .bipush 44)] (by decide +kernel) rfl ?_
  have k20 := zrng A9_19
  have hb21 := hb17.si hsi19
  have hb22 : w19 (m + 80) = some (.inr (1, 400, .inl ft)) := (heq19 (m + 80) (by omega)).trans hb18
  refine zr_callVT (idx := 368) (j := 320) (by decide +kernel) (by decide +kernel) (show zMe 320 = some zq_X16_must from rfl) rfl rfl (Nat.le_of_ble_eq_true rfl) rfl rfl hM19 (Nat.le_of_ble_eq_true rfl) (Nat.le_of_ble_eq_true rfl) (c_X16_must (w := w19) (g12 := (g 12)) (g13 := A9_19) m 44 hM19 hb21 (by first | omega | decide | assumption | exact zr1_1 | exact zr1_0 | fail "num") hb22 (by first | omega | decide | assumption | exact zr1_1 | exact zr1_0 | fail "num") (by first | omega | decide | assumption | exact zr1_1 | exact zr1_0 | fail "num") rfl rfl) (by omega) (fun v26 w26 hp26 => ?_) (fun wx9 hx9 => by
        obtain ⟨G9_x9, hsix9, heqx9, hx9_0, hx9_1⟩ := hx9
        have hb23 : zPil wx9 (m + 6316) := hp19_2.ag (fun x hx1 hx2 => (heqx9 x (zx_X16_choose_3 hx1 hx2)))
        rw [← hPost]
        exact ⟨rfl, Or.inr ⟨rfl, G9_x9, (((hsi8.tr hsi15).tr hsi19).tr hsix9), (fun x hx => ((heqx9 x hx.1).trans ((heq19 x ⟨hx.1, hx.2.1, hx.2.2.1, hx.2.2.2.1, hx.2.2.2.2.1, hx.2.2.2.2.2.1, hx.2.2.2.2.2.2⟩).trans ((heq15 x hx.1).trans (heq8 x (zx_X16_choose_1 hx.1)))))), hx9_0, (by
              first | exact hx9_1 | exact ⟨rfl, rfl, rfl, rfl⟩), hb23⟩⟩)
  obtain ⟨A9_26, hsi26, heq26, hp26_0, hp26_1, rfl⟩ := hp26
  have hM26 : w26 m = some (.inl (15, zMo m (zs (zs (zs (zs (zs g 13 A9_26) 16 Q9_19) 17 X9_19) 18 Y9_19) 19 Z9_19) r)) := hp26_0
  show zP _ _ _ _ [] _ _ _ _ _
  have hzA26 := znat (x := A9_26) (by omega)
  obtain ⟨B26, b1_26, b2_26, b3_26, b4_26⟩ := hp26_1.2
  have b5_26 := b1_26.2
  have b6_26 : zDep ft A9_26.toNatClampNeg = zDep ft B26  := by rw [b4_26]; exact zDep_p (by rw [b3_26]; decide) (by rw [b3_26]; decide)
  refine zp_seg (pc' := 30) (lv' := [(2, .ref (m + 6316 + 9 * (g 16).toNatClampNeg)), (1, .int (g 13)), (0, .ref m)]) (st' := [.ref m]) [(29, .aload_n 0)] (by decide +kernel) rfl ?_
  have k24 := zrng A9_26
  have k25 := zrng Q9_19
  have hz26 : (A9_26.toNatClampNeg : Int) = A9_26.toInt := znat (by first | omega | decide)
  have hz27 : (Q9_19.toNatClampNeg : Int) = Q9_19.toInt := znat (by first | omega | decide)
  have hb28 := hb21.si hsi26
  have hb29 : w26 (m + 80) = some (.inr (1, 400, .inl ft)) := (heq26 (m + 80) (zx_X16_choose_4)).trans hb22
  have hb30 : zPil w26 (m + 6316) := hp19_2.ag (fun x hx1 hx2 => (heq26 x (zx_X16_choose_3 hx1 hx2)))
  refine zr_callVT (idx := 423) (j := 327) (by decide +kernel) (by decide +kernel) (show zMe 327 = some zq_X16_valueE from rfl) rfl rfl (Nat.le_of_ble_eq_true rfl) rfl rfl hM26 (Nat.le_of_ble_eq_true rfl) (Nat.le_of_ble_eq_true rfl) (hc9 (w := w26) (g1 := (g 1)) (g3 := (g 3)) (g12 := (g 12)) (g13 := A9_26) (g16 := Q9_19) m hM26 hb28 (by first | omega | decide | assumption | exact zr1_1 | exact zr1_0 | fail "num") hb29 (by first | omega | decide | assumption | exact zr1_1 | exact zr1_0 | fail "num") hb30 (by first | omega | decide | assumption | exact zr1_1 | exact zr1_0 | fail "num") (by first | omega | decide | assumption | exact zr1_1 | exact zr1_0 | fail "num") (by first | omega | decide | assumption | exact zr1_1 | exact zr1_0 | fail "num") (by first | omega | decide | assumption | exact zr1_1 | exact zr1_0 | fail "num") rfl rfl rfl rfl rfl) (by omega) (fun v30 w30 hp30 => ?_) (fun wx9 hx9 => by
        obtain ⟨G9_x9, hsix9, heqx9, hx9_0, hx9_1, hx9_2⟩ := hx9
        skip
        rw [← hPost]
        exact ⟨rfl, Or.inr ⟨rfl, G9_x9, ((((hsi8.tr hsi15).tr hsi19).tr hsi26).tr hsix9), (fun x hx => ((heqx9 x (by omega)).trans ((heq26 x hx.1).trans ((heq19 x ⟨hx.1, hx.2.1, hx.2.2.1, hx.2.2.2.1, hx.2.2.2.2.1, hx.2.2.2.2.2.1, hx.2.2.2.2.2.2⟩).trans ((heq15 x hx.1).trans (heq8 x (zx_X16_choose_1 hx.1))))))), hx9_0, (by
              first | exact hx9_1 | exact ⟨rfl, rfl, rfl, rfl⟩), hx9_2⟩⟩)
  obtain ⟨A9_30, Q9_30, X9_30, Y9_30, Z9_30, K9_30, hsi30, heq30, hp30_0, hp30_1, hp30_2, hp30_3, rfl⟩ := hp30
  have hM30 : w30 m = some (.inl (15, zMo m (zs (zs (zs (zs (zs g 13 A9_30) 16 Q9_30) 17 X9_30) 18 Y9_30) 19 Z9_30) r)) := hp30_0
  show zP _ _ _ _ [.ref (m + 6316 + 9 * Q9_19.toNatClampNeg)] _ _ _ _ _
  have hv30 := hp30_3
  have hzA30 := znat (x := A9_30) (by omega)
  have hzQ30 := znat (x := Q9_30) (by omega)
  refine zp_seg (pc' := 37) (lv' := [(3, .ref (m + 6316 + 9 * Q9_19.toNatClampNeg)), (2, .ref (m + 6316 + 9 * (g 16).toNatClampNeg)), (1, .int (g 13)), (0, .ref m)]) (st' := [.int 41, .ref m]) [(33, .astore_n 3), (34, .aload_n 0), (35, .bipush 41)] (by decide +kernel) rfl ?_
  have k31 := zrng A9_30
  have hb32 := hb28.si hsi30
  have hb33 : w30 (m + 80) = some (.inr (1, 400, .inl ft)) := (heq30 (m + 80) (by omega)).trans hb29
  refine zr_callVT (idx := 368) (j := 320) (by decide +kernel) (by decide +kernel) (show zMe 320 = some zq_X16_must from rfl) rfl rfl (Nat.le_of_ble_eq_true rfl) rfl rfl hM30 (Nat.le_of_ble_eq_true rfl) (Nat.le_of_ble_eq_true rfl) (c_X16_must (w := w30) (g12 := (g 12)) (g13 := A9_30) m 41 hM30 hb32 (by first | omega | decide | assumption | exact zr1_1 | exact zr1_0 | fail "num") hb33 (by first | omega | decide | assumption | exact zr1_1 | exact zr1_0 | fail "num") (by first | omega | decide | assumption | exact zr1_1 | exact zr1_0 | fail "num") rfl rfl) (by omega) (fun v37 w37 hp37 => ?_) (fun wx9 hx9 => by
        obtain ⟨G9_x9, hsix9, heqx9, hx9_0, hx9_1⟩ := hx9
        have hb34 : zPil wx9 (m + 6316) := hp30_2.ag (fun x hx1 hx2 => (heqx9 x (zx_X16_choose_3 hx1 hx2)))
        rw [← hPost]
        exact ⟨rfl, Or.inr ⟨rfl, G9_x9, (((((hsi8.tr hsi15).tr hsi19).tr hsi26).tr hsi30).tr hsix9), (fun x hx => ((heqx9 x hx.1).trans ((heq30 x (by omega)).trans ((heq26 x hx.1).trans ((heq19 x ⟨hx.1, hx.2.1, hx.2.2.1, hx.2.2.2.1, hx.2.2.2.2.1, hx.2.2.2.2.2.1, hx.2.2.2.2.2.2⟩).trans ((heq15 x hx.1).trans (heq8 x (zx_X16_choose_1 hx.1)))))))), hx9_0, (by
              first | exact hx9_1 | exact ⟨rfl, rfl, rfl, rfl⟩), hb34⟩⟩)
  obtain ⟨A9_37, hsi37, heq37, hp37_0, hp37_1, rfl⟩ := hp37
  have hM37 : w37 m = some (.inl (15, zMo m (zs (zs (zs (zs (zs g 13 A9_37) 16 Q9_30) 17 X9_30) 18 Y9_30) 19 Z9_30) r)) := hp37_0
  show zP _ _ _ _ [] _ _ _ _ _
  have hzA37 := znat (x := A9_37) (by omega)
  obtain ⟨B37, b1_37, b2_37, b3_37, b4_37⟩ := hp37_1.2
  have b5_37 := b1_37.2
  have b6_37 : zDep ft A9_37.toNatClampNeg = zDep ft B37 - 1 := by rw [b4_37]; exact zDep_c b3_37
  have hb35 : zTi w37 (m + 6316 + 9 * (g 16).toNatClampNeg) K9_19 := hp19_1.ag (fun x hx1 hx2 => ((heq37 x (by omega)).trans ((heq30 x (by omega)).trans (heq26 x (by omega)))))
  obtain ⟨g1, fn1, fd1, fa1, fb1, fc1, fe1, fr1, fu1, hT1, hAn1, hAd1, hAa1, hAb1, hAc1, hAe1, hAr1, hAu1, hK1⟩ := id hb35
  obtain ⟨hK10, hKn1, hKd1, hKx1, hKm1, hKl1, hKr1, hKu1, hKk1⟩ := id hK1
  refine zp_seg (pc' := 42) (lv' := [(3, .ref (m + 6316 + 9 * Q9_19.toNatClampNeg)), (2, .ref (m + 6316 + 9 * (g 16).toNatClampNeg)), (1, .int (g 13)), (0, .ref m)]) (st' := [.ref (m + 6316 + 9 * (g 16).toNatClampNeg), .ref m]) [(40, .aload_n 0), (41, .aload_n 2)] (by decide +kernel) rfl ?_
  have hb36 := hb32.si hsi37
  refine zr_callV (idx := 409) (j := 329) (by decide +kernel) (by decide +kernel) (show zMe 329 = some zq_X16_isLine from rfl) rfl rfl (Nat.le_of_ble_eq_true rfl) rfl rfl hM37 (Nat.le_of_ble_eq_true rfl) (Nat.le_of_ble_eq_true rfl) (c_X16_isLine (w := w37) m (m + 6316 + 9 * (g 16).toNatClampNeg) hM37 hb36 hT1 hAn1 hAd1 (by exact hKn1) (by first | omega | decide | assumption | exact zr1_1 | exact zr1_0 | fail "num")) (by omega) (fun v42 w42 hp42 => ?_)
  obtain ⟨A9_42, B9_42, C9_42, hsi42, heq42, hp42_0, r42, rfl, hrb42, hr42⟩ := hp42
  have hM42 : w42 m = some (.inl (15, zMo m (zs (zs (zs (zs (zs g 13 A9_37) 16 Q9_30) 17 A9_42) 18 B9_42) 19 C9_42) r)) := hp42_0
  have kr42 := zrng r42
  show zP _ _ _ _ [.int r42] _ _ _ _ _
  refine zp_seg (pc' := 48) (lv' := [(4, .int r42), (3, .ref (m + 6316 + 9 * Q9_19.toNatClampNeg)), (2, .ref (m + 6316 + 9 * (g 16).toNatClampNeg)), (1, .int (g 13)), (0, .ref m)]) (st' := [.ref m]) [(45, .istore 4), (47, .aload_n 0)] (by decide +kernel) rfl ?_
  refine zr_get (idx := 393) (k := 17) (v := .int A9_42) (by decide +kernel) (by decide +kernel) hM42 rfl ?_
  refine zp_seg (pc' := 54) (lv' := [(5, .int A9_42), (4, .int r42), (3, .ref (m + 6316 + 9 * Q9_19.toNatClampNeg)), (2, .ref (m + 6316 + 9 * (g 16).toNatClampNeg)), (1, .int (g 13)), (0, .ref m)]) (st' := [.ref m]) [(51, .istore 5), (53, .aload_n 0)] (by decide +kernel) rfl ?_
  refine zr_get (idx := 396) (k := 18) (v := .int B9_42) (by decide +kernel) (by decide +kernel) hM42 rfl ?_
  refine zp_seg (pc' := 60) (lv' := [(6, .int B9_42), (5, .int A9_42), (4, .int r42), (3, .ref (m + 6316 + 9 * Q9_19.toNatClampNeg)), (2, .ref (m + 6316 + 9 * (g 16).toNatClampNeg)), (1, .int (g 13)), (0, .ref m)]) (st' := [.ref m]) [(57, .istore 6), (59, .aload_n 0)] (by decide +kernel) rfl ?_
  refine zr_get (idx := 399) (k := 19) (v := .int C9_42) (by decide +kernel) (by decide +kernel) hM42 rfl ?_
  refine zp_seg (pc' := 67) (lv' := [(7, .int C9_42), (6, .int B9_42), (5, .int A9_42), (4, .int r42), (3, .ref (m + 6316 + 9 * Q9_19.toNatClampNeg)), (2, .ref (m + 6316 + 9 * (g 16).toNatClampNeg)), (1, .int (g 13)), (0, .ref m)]) (st' := [.int r42]) [(63, .istore 7), (65, .iload 4)] (by decide +kernel) rfl ?_
  have hJ83 : ∀ (wL83 : zM) (z0_83 : Int32) (xX : Int32) (xY : Int32) (xZ : Int32), (zSI w42 wL83) → (∀ x, ((x < m ∨ m + 1 ≤ x)) ∧ x ≠ m → wL83 x = w42 x) → ((z0_83 = 0 ∨ z0_83 = 1)) → (wL83 m = some (.inl (15, zMo m (zs (zs (zs (zs (zs g 13 A9_37) 16 Q9_30) 17 xX) 18 xY) 19 xZ) r))) → (z0_83 = 1 → ((-3 ≤ A9_42.toInt ∧ A9_42.toInt ≤ 3) ∧ (-3 ≤ B9_42.toInt ∧ B9_42.toInt ≤ 3) ∧ (-50 ≤ C9_42.toInt ∧ C9_42.toInt ≤ 50)) ∧ ((-3 ≤ xX.toInt ∧ xX.toInt ≤ 3) ∧ (-3 ≤ xY.toInt ∧ xY.toInt ≤ 3) ∧ (-50 ≤ xZ.toInt ∧ xZ.toInt ≤ 50))) → zP (d + 1) zq_X16_choose 83 [(0, .ref m), (1, .int (g 13)), (2, .ref (m + 6316 + 9 * (g 16).toNatClampNeg)), (5, .int A9_42), (6, .int B9_42), (7, .int C9_42)] [.int z0_83] wL83 sz 0 0 Post := by
    intro wL83 z0_83 xX xY xZ hsiL83 heqL83 hi83_0 hxM hLL
    have kz0_83 := zrng z0_83
    refine zp_seg (pc' := 86) (lv' := [(4, .int z0_83), (0, .ref m), (1, .int (g 13)), (2, .ref (m + 6316 + 9 * (g 16).toNatClampNeg)), (5, .int A9_42), (6, .int B9_42), (7, .int C9_42)]) (st' := [.ref m]) [(83, .istore 4), (85, .aload_n 0)] (by decide +kernel) rfl ?_
    refine zr_get (idx := 393) (k := 17) (v := .int xX) (by decide +kernel) (by decide +kernel) hxM rfl ?_
    refine zp_seg (pc' := 92) (lv' := [(8, .int xX), (4, .int z0_83), (0, .ref m), (1, .int (g 13)), (2, .ref (m + 6316 + 9 * (g 16).toNatClampNeg)), (5, .int A9_42), (6, .int B9_42), (7, .int C9_42)]) (st' := [.ref m]) [(89, .istore 8), (91, .aload_n 0)] (by decide +kernel) rfl ?_
    refine zr_get (idx := 396) (k := 18) (v := .int xY) (by decide +kernel) (by decide +kernel) hxM rfl ?_
    refine zp_seg (pc' := 98) (lv' := [(9, .int xY), (8, .int xX), (4, .int z0_83), (0, .ref m), (1, .int (g 13)), (2, .ref (m + 6316 + 9 * (g 16).toNatClampNeg)), (5, .int A9_42), (6, .int B9_42), (7, .int C9_42)]) (st' := [.ref m]) [(95, .istore 9), (97, .aload_n 0)] (by decide +kernel) rfl ?_
    refine zr_get (idx := 399) (k := 19) (v := .int xZ) (by decide +kernel) (by decide +kernel) hxM rfl ?_
    refine zp_seg (pc' := 105) (lv' := [(10, .int xZ), (9, .int xY), (8, .int xX), (4, .int z0_83), (0, .ref m), (1, .int (g 13)), (2, .ref (m + 6316 + 9 * (g 16).toNatClampNeg)), (5, .int A9_42), (6, .int B9_42), (7, .int C9_42)]) (st' := [.int z0_83]) [(101, .istore 10), (103, .iload 4)] (by decide +kernel) rfl ?_
    refine zp_if (i := .ifCond .eq 24) (c := z0_83 = 0) (t := 129) (e := 108) (lv' := [(10, .int xZ), (9, .int xY), (8, .int xX), (4, .int z0_83), (0, .ref m), (1, .int (g 13)), (2, .ref (m + 6316 + 9 * (g 16).toNatClampNeg)), (5, .int A9_42), (6, .int B9_42), (7, .int C9_42)]) (st' := []) (by decide +kernel) rfl (fun cc105 => ?_) (fun cc105 => ?_)
    ·
      have f38 := zeqI cc105
      rw [show (0 : Int32).toInt = 0 from by decide] at f38
      refine zp_seg (pc' := 132) (lv' := [(10, .int xZ), (9, .int xY), (8, .int xX), (4, .int z0_83), (0, .ref m), (1, .int (g 13)), (2, .ref (m + 6316 + 9 * (g 16).toNatClampNeg)), (5, .int A9_42), (6, .int B9_42), (7, .int C9_42)]) (st' := [.int (g 13), .int 2, .ref m]) [(129, .aload_n 0), (130, .iconst 2), (131, .iload_n 1)] (by decide +kernel) rfl ?_
      have hb39 := hb36.si (hsi42.tr hsiL83)
      refine zr_callV (idx := 346) (j := 318) (by decide +kernel) (by decide +kernel) (show zMe 318 = some zq_X16_fail from rfl) rfl rfl (Nat.le_of_ble_eq_true rfl) rfl rfl hxM (Nat.le_of_ble_eq_true rfl) (Nat.le_of_ble_eq_true rfl) (c_X16_fail (w := wL83) m 2 (g 13) hxM hb39) (by omega) (fun v132 w132 hp132 => ?_)
      obtain ⟨hsi132, heq132, hp132_0, rfl⟩ := hp132
      have hM132 : w132 m = some (.inl (15, zMo m (zs (zs (zs (zs (zs (zs (zs g 9 2) 10 (g 13)) 13 A9_37) 16 Q9_30) 17 xX) 18 xY) 19 xZ) r)) := hp132_0
      show zP _ _ _ _ [.ref (m + 79)] _ _ _ _ _
      have hb40 := hb39.si hsi132
      obtain ⟨fs9, hst9⟩ := hb40.stop
      refine zr_thr (by decide +kernel) hst9 ?_
      have hb41 : zPil w132 (m + 6316) := hp30_2.ag (fun x hx1 hx2 => ((heq132 x (zx_X16_choose_3 hx1 hx2)).trans ((heqL83 x ⟨(zx_X16_choose_3 hx1 hx2), (zx_X16_choose_2 hx1 hx2)⟩).trans ((heq42 x (zx_X16_choose_3 hx1 hx2)).trans (heq37 x (zx_X16_choose_3 hx1 hx2))))))
      rw [← hPost]; exact ⟨rfl, Or.inr ⟨rfl, (zs (zs (zs (zs (zs (zs (zs g 9 2) 10 (g 13)) 13 A9_37) 16 Q9_30) 17 xX) 18 xY) 19 xZ), ((((((((hsi8.tr hsi15).tr hsi19).tr hsi26).tr hsi30).tr hsi37).tr hsi42).tr hsiL83).tr hsi132), (fun x hx => ((heq132 x hx.1).trans ((heqL83 x ⟨hx.1, (zx_X16_choose_1 hx.1)⟩).trans ((heq42 x hx.1).trans ((heq37 x hx.1).trans ((heq30 x (by omega)).trans ((heq26 x hx.1).trans ((heq19 x ⟨hx.1, hx.2.1, hx.2.2.1, hx.2.2.2.1, hx.2.2.2.2.1, hx.2.2.2.2.2.1, hx.2.2.2.2.2.2⟩).trans ((heq15 x hx.1).trans (heq8 x (zx_X16_choose_1 hx.1))))))))))), hM132, (by
            first | exact hx9_1 | exact ⟨rfl, rfl, rfl, rfl⟩), hb41⟩⟩
    ·
      have f43 := zneI cc105
      rw [show (0 : Int32).toInt = 0 from by decide] at f43
      refine zp_seg (pc' := 113) (lv' := [(10, .int xZ), (9, .int xY), (8, .int xX), (4, .int z0_83), (0, .ref m), (1, .int (g 13)), (2, .ref (m + 6316 + 9 * (g 16).toNatClampNeg)), (5, .int A9_42), (6, .int B9_42), (7, .int C9_42)]) (st' := [.int (A9_42 - xX)]) [(108, .iload 5), (110, .iload 8), (112, .isub)] (by decide +kernel) rfl ?_
      have k44 := zrng A9_42
      have k45 := zrng xX
      have k46 := zsubM A9_42 xX
      generalize ev113 : (A9_42 - xX : Int32) = v113 at k46 ⊢
      have kv113 := zrng v113
      refine zp_seg (pc' := 118) (lv' := [(10, .int xZ), (9, .int xY), (8, .int xX), (4, .int z0_83), (0, .ref m), (1, .int (g 13)), (2, .ref (m + 6316 + 9 * (g 16).toNatClampNeg)), (5, .int A9_42), (6, .int B9_42), (7, .int C9_42)]) (st' := [.int (B9_42 - xY), .int v113]) [(113, .iload 6), (115, .iload 9), (117, .isub)] (by decide +kernel) rfl ?_
      have k47 := zrng B9_42
      have k48 := zrng xY
      have k49 := zsubM B9_42 xY
      generalize ev118 : (B9_42 - xY : Int32) = v118 at k49 ⊢
      have kv118 := zrng v118
      refine zp_seg (pc' := 123) (lv' := [(10, .int xZ), (9, .int xY), (8, .int xX), (4, .int z0_83), (0, .ref m), (1, .int (g 13)), (2, .ref (m + 6316 + 9 * (g 16).toNatClampNeg)), (5, .int A9_42), (6, .int B9_42), (7, .int C9_42)]) (st' := [.int (C9_42 - xZ), .int v118, .int v113]) [(118, .iload 7), (120, .iload 10), (122, .isub)] (by decide +kernel) rfl ?_
      have k50 := zrng C9_42
      have k51 := zrng xZ
      have k52 := zsubM C9_42 xZ
      generalize ev123 : (C9_42 - xZ : Int32) = v123 at k52 ⊢
      have kv123 := zrng v123
      refine zr_callS (idx := 402) (j := 330) (by decide +kernel) (by decide +kernel) (by decide) (show zMe 330 = some zq_X16_isLine_ from rfl) rfl rfl (Nat.le_of_ble_eq_true rfl) rfl rfl (Nat.le_of_ble_eq_true rfl) (Nat.le_of_ble_eq_true rfl) (c_X16_isLine_ (w := wL83) v113 v118 v123 ) (by omega) (fun v123 w123 hp123 => ?_)
      obtain ⟨hpw123, r123, rfl, hrb123, hr123⟩ := hp123
      replace hpw123 := hpw123.symm
      subst hpw123
      have kr123 := zrng r123
      show zP _ _ _ _ [.int r123] _ _ _ _ _
      refine zp_if (i := .ifCond .ne 10) (c := ¬ r123 = 0) (t := 136) (e := 129) (lv' := [(10, .int xZ), (9, .int xY), (8, .int xX), (4, .int z0_83), (0, .ref m), (1, .int (g 13)), (2, .ref (m + 6316 + 9 * (g 16).toNatClampNeg)), (5, .int A9_42), (6, .int B9_42), (7, .int C9_42)]) (st' := []) (by decide +kernel) rfl (fun cc126 => ?_) (fun cc126 => ?_)
      ·
        have f53 := zneI cc126
        rw [show (0 : Int32).toInt = 0 from by decide] at f53
        have hll9 := hLL (hi83_0.resolve_left cc105)
        have hln1 := hll9.1
        have hln2 := hll9.2
        have hln3 := hr123 (hrb123.resolve_left cc126)
        refine zp_seg (pc' := 138) (lv' := [(10, .int xZ), (9, .int xY), (8, .int xX), (4, .int z0_83), (0, .ref m), (1, .int (g 13)), (2, .ref (m + 6316 + 9 * (g 16).toNatClampNeg)), (5, .int A9_42), (6, .int B9_42), (7, .int C9_42)]) (st' := [.int A9_42]) [(136, .iload 5)] (by decide +kernel) rfl ?_
        have hJ151 : ∀ (_ : True), zP (d + 1) zq_X16_choose 151 [(0, .ref m), (1, .int (g 13)), (2, .ref (m + 6316 + 9 * (g 16).toNatClampNeg)), (5, .int A9_42), (6, .int B9_42), (7, .int C9_42), (8, .int xX), (9, .int xY), (10, .int xZ)] [] wL83 sz 0 0 Post := by
          intro _
          refine zp_seg (pc' := 153) (lv' := [(0, .ref m), (1, .int (g 13)), (2, .ref (m + 6316 + 9 * (g 16).toNatClampNeg)), (5, .int A9_42), (6, .int B9_42), (7, .int C9_42), (8, .int xX), (9, .int xY), (10, .int xZ)]) (st' := [.int xX]) [(151, .iload 8)] (by decide +kernel) rfl ?_
          have hJ166 : ∀ (_ : True), zP (d + 1) zq_X16_choose 166 [(0, .ref m), (1, .int (g 13)), (2, .ref (m + 6316 + 9 * (g 16).toNatClampNeg)), (5, .int A9_42), (6, .int B9_42), (7, .int C9_42), (8, .int xX), (9, .int xY), (10, .int xZ)] [] wL83 sz 0 0 Post := by
            intro _
            refine zp_seg (pc' := 170) (lv' := [(0, .ref m), (1, .int (g 13)), (2, .ref (m + 6316 + 9 * (g 16).toNatClampNeg)), (5, .int A9_42), (6, .int B9_42), (7, .int C9_42), (8, .int xX), (9, .int xY), (10, .int xZ)]) (st' := [.int xX, .int A9_42]) [(166, .iload 5), (168, .iload 8)] (by decide +kernel) rfl ?_
            have hJ194 : ∀ (_ : True), zP (d + 1) zq_X16_choose 194 [(0, .ref m), (2, .ref (m + 6316 + 9 * (g 16).toNatClampNeg)), (5, .int A9_42), (6, .int B9_42), (7, .int C9_42), (8, .int xX), (9, .int xY), (10, .int xZ)] [] wL83 sz 0 0 Post := by
              intro _
              refine zp_seg (pc' := 196) (lv' := [(0, .ref m), (2, .ref (m + 6316 + 9 * (g 16).toNatClampNeg)), (5, .int A9_42), (6, .int B9_42), (7, .int C9_42), (8, .int xX), (9, .int xY), (10, .int xZ)]) (st' := [.ref m, .ref m]) [(194, .aload_n 0), (195, .dup)] (by decide +kernel) rfl ?_
              refine zr_get (idx := 375) (k := 16) (v := .int Q9_30) (by decide +kernel) (by decide +kernel) hxM rfl ?_
              refine zp_seg (pc' := 201) (lv' := [(0, .ref m), (2, .ref (m + 6316 + 9 * (g 16).toNatClampNeg)), (5, .int A9_42), (6, .int B9_42), (7, .int C9_42), (8, .int xX), (9, .int xY), (10, .int xZ)]) (st' := [.int (Q9_30 - 1), .ref m]) [(199, .iconst 1), (200, .isub)] (by decide +kernel) rfl ?_
              have k54 := zrng Q9_30
              have k55 := zsubC Q9_30 1 (n := 1) (by decide) (by omega) (by omega)
              generalize ev201 : (Q9_30 - 1 : Int32) = v201 at k55 ⊢
              have kv201 := zrng v201
              refine zr_put2 (idx := 375) (k := 16) (fs2 := zMo m (zs (zs (zs (zs (zs g 13 A9_37) 16 v201) 17 xX) 18 xY) 19 xZ) r) (by decide +kernel) (by decide +kernel) hxM (Nat.le_of_ble_eq_true rfl) rfl rfl rfl ?_
              show zP (d + 1) zq_X16_choose 204 [(0, .ref m), (2, .ref (m + 6316 + 9 * (g 16).toNatClampNeg)), (5, .int A9_42), (6, .int B9_42), (7, .int C9_42), (8, .int xX), (9, .int xY), (10, .int xZ)] [] (zup wL83 m (.inl (15, zMo m (zs (zs (zs (zs (zs g 13 A9_37) 16 v201) 17 xX) 18 xY) 19 xZ) r))) sz 0 0 Post
              obtain ⟨w201, ew201⟩ : ∃ wz9, wz9 = zup wL83 m (.inl (15, zMo m (zs (zs (zs (zs (zs g 13 A9_37) 16 v201) 17 xX) 18 xY) 19 xZ) r)) := ⟨_, rfl⟩
              have hsi201 : zSI wL83 w201 := by rw [ew201]; exact zSI.setG hxM _ _
              have heq201 : ∀ x, x ≠ m → w201 x = wL83 x := fun x hx => by rw [ew201]; exact zup_n hx
              have hc201 : w201 m = some (.inl (15, zMo m (zs (zs (zs (zs (zs g 13 A9_37) 16 v201) 17 xX) 18 xY) 19 xZ) r)) := by rw [ew201]; exact zup_s
              rw [← ew201]
              clear ew201
              refine zp_seg (pc' := 207) (lv' := [(0, .ref m), (2, .ref (m + 6316 + 9 * (g 16).toNatClampNeg)), (5, .int A9_42), (6, .int B9_42), (7, .int C9_42), (8, .int xX), (9, .int xY), (10, .int xZ)]) (st' := [.int 1, .ref (m + 6316 + 9 * (g 16).toNatClampNeg), .ref m]) [(204, .aload_n 0), (205, .aload_n 2), (206, .iconst 1)] (by decide +kernel) rfl ?_
              have hb56 := hb36.si ((hsi42.tr hsiL83).tr hsi201)
              have hb57 : zTi w201 (m + 6316 + 9 * (g 16).toNatClampNeg) K9_19 := hb35.ag (fun x hx1 hx2 => ((heq201 x (by omega)).trans ((heqL83 x (by omega)).trans (heq42 x (by omega)))))
              refine zr_callV (idx := 292) (j := 305) (by decide +kernel) (by decide +kernel) (show zMe 305 = some zq_X16_number from rfl) rfl rfl (Nat.le_of_ble_eq_true rfl) rfl rfl hc201 (Nat.le_of_ble_eq_true rfl) (Nat.le_of_ble_eq_true rfl) (c_X16_numberZ (w := w201) (g3 := (g 3)) m (m + 6316 + 9 * (g 16).toNatClampNeg) 1 hc201 hb56 hb57 (by first | omega | decide | assumption | exact zr1_1 | exact zr1_0 | fail "num") (by first | omega | decide | assumption | exact zr1_1 | exact zr1_0 | fail "num") (by first | omega | decide | assumption | exact zr1_1 | exact zr1_0 | fail "num") rfl) (by omega) (fun v207 w207 hp207 => ?_)
              obtain ⟨hsi207, heq207, hp207_0, hp207_1, rfl⟩ := hp207
              show zP _ _ _ _ [] _ _ _ _ _
              refine zp_seg (pc' := 219) (lv' := [(0, .ref m), (2, .ref (m + 6316 + 9 * (g 16).toNatClampNeg)), (5, .int A9_42), (6, .int B9_42), (7, .int C9_42), (8, .int xX), (9, .int xY), (10, .int xZ)]) (st' := [.int 1, .int C9_42, .int B9_42, .int A9_42, .ref (m + 6316 + 9 * (g 16).toNatClampNeg), .ref m]) [(210, .aload_n 0), (211, .aload_n 2), (212, .iload 5), (214, .iload 6), (216, .iload 7), (218, .iconst 1)] (by decide +kernel) rfl ?_
              have hb58 : w207 m = some (.inl (15, zMo m (zs (zs (zs (zs (zs g 13 A9_37) 16 v201) 17 xX) 18 xY) 19 xZ) r)) := (heq207 m (by omega)).trans hc201
              refine zr_callV (idx := 411) (j := 331) (by decide +kernel) (by decide +kernel) (show zMe 331 = some zq_X16_factorial from rfl) rfl rfl (Nat.le_of_ble_eq_true rfl) rfl rfl hb58 (Nat.le_of_ble_eq_true rfl) (Nat.le_of_ble_eq_true rfl) (c_X16_factorial (w := w207) m (m + 6316 + 9 * (g 16).toNatClampNeg) A9_42 B9_42 C9_42 1 hp207_0 (by exact hp207_1 (by decide)) (by exact hln1.1) (by exact hln1.2.1) (by exact hln1.2.2)) (by omega) (fun v219 w219 hp219 => ?_)
              obtain ⟨hsi219, heq219, hp219_0, hp219_1, rfl⟩ := hp219
              show zP _ _ _ _ [] _ _ _ _ _
              refine zp_seg (pc' := 231) (lv' := [(0, .ref m), (2, .ref (m + 6316 + 9 * (g 16).toNatClampNeg)), (5, .int A9_42), (6, .int B9_42), (7, .int C9_42), (8, .int xX), (9, .int xY), (10, .int xZ)]) (st' := [.int (Int32.ofInt (-1)), .int xZ, .int xY, .int xX, .ref (m + 6316 + 9 * (g 16).toNatClampNeg), .ref m]) [(222, .aload_n 0), (223, .aload_n 2), (224, .iload 8), (226, .iload 9), (228, .iload 10), (230, .iconst (-1))] (by decide +kernel) rfl ?_
              have hb60 : w219 m = some (.inl (15, zMo m (zs (zs (zs (zs (zs g 13 A9_37) 16 v201) 17 xX) 18 xY) 19 xZ) r)) := (heq219 m (by omega)).trans hb58
              refine zr_callV (idx := 411) (j := 331) (by decide +kernel) (by decide +kernel) (show zMe 331 = some zq_X16_factorial from rfl) rfl rfl (Nat.le_of_ble_eq_true rfl) rfl rfl hb60 (Nat.le_of_ble_eq_true rfl) (Nat.le_of_ble_eq_true rfl) (c_X16_factorial (w := w219) m (m + 6316 + 9 * (g 16).toNatClampNeg) xX xY xZ (Int32.ofInt (-1)) hp219_0 (by exact hp219_1) (by exact hln2.1) (by exact hln2.2.1) (by exact hln2.2.2)) (by omega) (fun v231 w231 hp231 => ?_)
              obtain ⟨hsi231, heq231, hp231_0, hp231_1, rfl⟩ := hp231
              show zP _ _ _ _ [] _ _ _ _ _
              refine zp_seg (pc' := 241) (lv' := [(0, .ref m), (2, .ref (m + 6316 + 9 * (g 16).toNatClampNeg)), (5, .int A9_42), (6, .int B9_42), (7, .int C9_42), (8, .int xX), (9, .int xY), (10, .int xZ)]) (st' := [.int (A9_42 - xX), .ref (m + 6316 + 9 * (g 16).toNatClampNeg), .ref m]) [(234, .aload_n 0), (235, .aload_n 2), (236, .iload 5), (238, .iload 8), (240, .isub)] (by decide +kernel) rfl ?_
              have k61 := zsubM A9_42 xX
              generalize ev241 : (A9_42 - xX : Int32) = v241 at k61 ⊢
              have kv241 := zrng v241
              refine zp_seg (pc' := 246) (lv' := [(0, .ref m), (2, .ref (m + 6316 + 9 * (g 16).toNatClampNeg)), (5, .int A9_42), (6, .int B9_42), (7, .int C9_42), (8, .int xX), (9, .int xY), (10, .int xZ)]) (st' := [.int (B9_42 - xY), .int v241, .ref (m + 6316 + 9 * (g 16).toNatClampNeg), .ref m]) [(241, .iload 6), (243, .iload 9), (245, .isub)] (by decide +kernel) rfl ?_
              have k62 := zsubM B9_42 xY
              generalize ev246 : (B9_42 - xY : Int32) = v246 at k62 ⊢
              have kv246 := zrng v246
              refine zp_seg (pc' := 251) (lv' := [(0, .ref m), (2, .ref (m + 6316 + 9 * (g 16).toNatClampNeg)), (5, .int A9_42), (6, .int B9_42), (7, .int C9_42), (8, .int xX), (9, .int xY), (10, .int xZ)]) (st' := [.int (C9_42 - xZ), .int v246, .int v241, .ref (m + 6316 + 9 * (g 16).toNatClampNeg), .ref m]) [(246, .iload 7), (248, .iload 10), (250, .isub)] (by decide +kernel) rfl ?_
              have k63 := zsubM C9_42 xZ
              generalize ev251 : (C9_42 - xZ : Int32) = v251 at k63 ⊢
              have kv251 := zrng v251
              refine zp_seg (pc' := 252) (lv' := [(0, .ref m), (2, .ref (m + 6316 + 9 * (g 16).toNatClampNeg)), (5, .int A9_42), (6, .int B9_42), (7, .int C9_42), (8, .int xX), (9, .int xY), (10, .int xZ)]) (st' := [.int (Int32.ofInt (-1)), .int v251, .int v246, .int v241, .ref (m + 6316 + 9 * (g 16).toNatClampNeg), .ref m]) [(251, .iconst (-1))] (by decide +kernel) rfl ?_
              have hb64 : w231 m = some (.inl (15, zMo m (zs (zs (zs (zs (zs g 13 A9_37) 16 v201) 17 xX) 18 xY) 19 xZ) r)) := (heq231 m (by omega)).trans hb60
              refine zr_callV (idx := 411) (j := 331) (by decide +kernel) (by decide +kernel) (show zMe 331 = some zq_X16_factorial from rfl) rfl rfl (Nat.le_of_ble_eq_true rfl) rfl rfl hb64 (Nat.le_of_ble_eq_true rfl) (Nat.le_of_ble_eq_true rfl) (c_X16_factorial (w := w231) m (m + 6316 + 9 * (g 16).toNatClampNeg) v241 v246 v251 (Int32.ofInt (-1)) hp231_0 (by exact hp231_1) (by rw [← ev241, ev113]; exact hln3.1) (by rw [← ev246, ev118]; exact hln3.2.1) (by rw [← ev251, ev123]; exact hln3.2.2)) (by omega) (fun v252 w252 hp252 => ?_)
              obtain ⟨hsi252, heq252, hp252_0, hp252_1, rfl⟩ := hp252
              show zP _ _ _ _ [] _ _ _ _ _
              obtain ⟨g3, fn3, fd3, fa3, fb3, fc3, fe3, fr3, fu3, hT3, hAn3, hAd3, hAa3, hAb3, hAc3, hAe3, hAr3, hAu3, hK3⟩ := id hp252_0
              obtain ⟨hK30, hKn3, hKd3, hKx3, hKm3, hKl3, hKr3, hKu3, hKk3⟩ := id hK3
              have hnn9 := zNz_of hp252_1 hAn3
              refine zp_seg (pc' := 256) (lv' := [(0, .ref m), (2, .ref (m + 6316 + 9 * (g 16).toNatClampNeg)), (5, .int A9_42), (6, .int B9_42), (7, .int C9_42), (8, .int xX), (9, .int xY), (10, .int xZ)]) (st' := [.ref (m + 6316 + 9 * (g 16).toNatClampNeg)]) [(255, .aload_n 2)] (by decide +kernel) rfl ?_
              refine zr_callS (idx := 307) (j := 312) (by decide +kernel) (by decide +kernel) (by decide) (show zMe 312 = some zq_X16_name from rfl) rfl rfl (Nat.le_of_ble_eq_true rfl) rfl rfl (Nat.le_of_ble_eq_true rfl) (Nat.le_of_ble_eq_true rfl) (c_X16_name (w := w252) (m + 6316 + 9 * (g 16).toNatClampNeg) hT3) (by omega) (fun v256 w256 hp256 => ?_)
              obtain ⟨K9_256, hsi256, heq256, hp256_0, hp256_1, rfl⟩ := hp256
              have hT256 : w256 (m + 6316 + 9 * (g 16).toNatClampNeg) = some (.inl (13, zTo (m + 6316 + 9 * (g 16).toNatClampNeg) (zs g3 0 K9_256))) := hp256_0
              show zP _ _ _ _ [] _ _ _ _ _
              have hb65 : w256 (m + 6316 + 9 * (g 16).toNatClampNeg + 1) = some (.inr (0, 325, .inl fn3)) := (heq256 (m + 6316 + 9 * (g 16).toNatClampNeg + 1) (by omega)).trans hAn3
              have hb66 : w256 (m + 6316 + 9 * (g 16).toNatClampNeg + 2) = some (.inr (0, 325, .inl fd3)) := (heq256 (m + 6316 + 9 * (g 16).toNatClampNeg + 2) (by omega)).trans hAd3
              have hb67 : w256 (m + 6316 + 9 * (g 16).toNatClampNeg + 3) = some (.inr (0, 13, .inl fa3)) := (heq256 (m + 6316 + 9 * (g 16).toNatClampNeg + 3) (by omega)).trans hAa3
              have hb68 : w256 (m + 6316 + 9 * (g 16).toNatClampNeg + 4) = some (.inr (0, 13, .inl fb3)) := (heq256 (m + 6316 + 9 * (g 16).toNatClampNeg + 4) (by omega)).trans hAb3
              have hb69 : w256 (m + 6316 + 9 * (g 16).toNatClampNeg + 5) = some (.inr (0, 13, .inl fc3)) := (heq256 (m + 6316 + 9 * (g 16).toNatClampNeg + 5) (by omega)).trans hAc3
              have hb70 : w256 (m + 6316 + 9 * (g 16).toNatClampNeg + 6) = some (.inr (0, 13, .inl fe3)) := (heq256 (m + 6316 + 9 * (g 16).toNatClampNeg + 6) (by omega)).trans hAe3
              have hb71 : w256 (m + 6316 + 9 * (g 16).toNatClampNeg + 7) = some (.inr (0, 175, .inl fr3)) := (heq256 (m + 6316 + 9 * (g 16).toNatClampNeg + 7) (by omega)).trans hAr3
              have hb72 : w256 (m + 6316 + 9 * (g 16).toNatClampNeg + 8) = some (.inr (0, 361, .inl fu3)) := (heq256 (m + 6316 + 9 * (g 16).toNatClampNeg + 8) (by omega)).trans hAu3
              have hTi9 : zTi w256 (m + 6316 + 9 * (g 16).toNatClampNeg) K9_256 := ⟨_, _, _, _, _, _, _, _, _, hT256, hb65, hb66, hb67, hb68, hb69, hb70, hb71, hb72, ⟨rfl, hKn3, hKd3, hKx3, hKm3, hKl3, hKr3, hKu3, zKk_12 hp256_1 (hKk3.2.1 (Or.inl rfl)) (fun _ => hnn9) (hKk3.2.2.2.1 (Or.inl rfl))⟩⟩
              have hPl259 := hp30_2.up (w' := w256) (g 16).toNatClampNeg hTi9 (fun x h1 h2 h3 => ((heq256 x (by omega)).trans ((heq252 x (by omega)).trans ((heq231 x (by omega)).trans ((heq219 x (by omega)).trans ((heq207 x (by omega)).trans ((heq201 x (by omega)).trans ((heqL83 x (by omega)).trans ((heq42 x (by omega)).trans (heq37 x (by omega)))))))))))
              refine zp_seg (pc' := 260) (lv' := [(0, .ref m), (2, .ref (m + 6316 + 9 * (g 16).toNatClampNeg)), (5, .int A9_42), (6, .int B9_42), (7, .int C9_42), (8, .int xX), (9, .int xY), (10, .int xZ)]) (st' := [.ref (m + 6316 + 9 * (g 16).toNatClampNeg)]) [(259, .aload_n 2)] (by decide +kernel) rfl ?_
              have hb73 : w256 m = some (.inl (15, zMo m (zs (zs (zs (zs (zs g 13 A9_37) 16 v201) 17 xX) 18 xY) 19 xZ) r)) := ((heq256 m (by omega)).trans (heq252 m (by omega))).trans hb64
              have hoffend : ∀ x, (x < m ∨ m + 1 ≤ x) ∧ (x < m + 6316 + 9 * (g 16).toNatClampNeg ∨ m + 6316 + 9 * (g 16).toNatClampNeg + (1170 - 9 * (g 16).toNatClampNeg) ≤ x) ∧ (x < m + 78 ∨ m + 78 + 1 ≤ x) ∧ (x < m + 276 + 2 * (g 1).toNatClampNeg ∨ m + 276 + 2 * (g 1).toNatClampNeg + (320 - 2 * (g 1).toNatClampNeg) ≤ x) ∧ (x < m + 596 + 130 * (g 3).toNatClampNeg ∨ m + 596 + 130 * (g 3).toNatClampNeg + (5720 - 130 * (g 3).toNatClampNeg) ≤ x) ∧ (x < m + 3 ∨ m + 3 + 1 ≤ x) ∧ (x < m + 5 ∨ m + 5 + 64 ≤ x) → w256 x = w x := fun x hx => ((heq256 x (by omega)).trans ((heq252 x (by omega)).trans ((heq231 x (by omega)).trans ((heq219 x (by omega)).trans ((heq207 x (by omega)).trans ((heq201 x (zx_X16_choose_1 hx.1)).trans ((heqL83 x ⟨hx.1, (zx_X16_choose_1 hx.1)⟩).trans ((heq42 x hx.1).trans ((heq37 x hx.1).trans ((heq30 x (by omega)).trans ((heq26 x hx.1).trans ((heq19 x ⟨hx.1, hx.2.1, hx.2.2.1, hx.2.2.2.1, hx.2.2.2.2.1, hx.2.2.2.2.2.1, hx.2.2.2.2.2.2⟩).trans ((heq15 x hx.1).trans (heq8 x (zx_X16_choose_1 hx.1)))))))))))))))
              refine zr_retA (by decide +kernel) rfl ?_
              rw [← hPost]; exact ⟨rfl, Or.inl ⟨_, rfl, A9_37, v201, xX, xY, xZ, K9_256, (((((((((((((hsi8.tr hsi15).tr hsi19).tr hsi26).tr hsi30).tr hsi37).tr hsi42).tr hsiL83).tr hsi201).tr hsi207).tr hsi219).tr hsi231).tr hsi252).tr hsi256), hoffend, hb73, (by first | exact hTi9 | (have z9 := hTi9; simpa using z9)), hPl259, (by
                    exact ⟨hp256_1, by omega, by omega, by omega⟩), rfl⟩⟩
            refine zp_if (i := .if_icmp .ne 24) (c := ¬ A9_42 = xX) (t := 194) (e := 173) (lv' := [(0, .ref m), (1, .int (g 13)), (2, .ref (m + 6316 + 9 * (g 16).toNatClampNeg)), (5, .int A9_42), (6, .int B9_42), (7, .int C9_42), (8, .int xX), (9, .int xY), (10, .int xZ)]) (st' := []) (by decide +kernel) rfl (fun cc170 => ?_) (fun cc170 => ?_)
            ·
              have f74 := zneI cc170
              exact (hJ194 trivial ).more (zfa1 rfl (zfa1 rfl (zfa1 rfl (zfa1 rfl (zfa1 rfl (zfa1 rfl (zfa1 rfl (zfa1 rfl (zfa0)))))))))
            ·
              replace cc170 := Classical.not_not.mp cc170
              have f75 := zeqI cc170
              refine zp_seg (pc' := 177) (lv' := [(0, .ref m), (1, .int (g 13)), (2, .ref (m + 6316 + 9 * (g 16).toNatClampNeg)), (5, .int A9_42), (6, .int B9_42), (7, .int C9_42), (8, .int xX), (9, .int xY), (10, .int xZ)]) (st' := [.int xY, .int B9_42]) [(173, .iload 6), (175, .iload 9)] (by decide +kernel) rfl ?_
              refine zp_if (i := .if_icmp .ne 17) (c := ¬ B9_42 = xY) (t := 194) (e := 180) (lv' := [(0, .ref m), (1, .int (g 13)), (2, .ref (m + 6316 + 9 * (g 16).toNatClampNeg)), (5, .int A9_42), (6, .int B9_42), (7, .int C9_42), (8, .int xX), (9, .int xY), (10, .int xZ)]) (st' := []) (by decide +kernel) rfl (fun cc177 => ?_) (fun cc177 => ?_)
              ·
                have f76 := zneI cc177
                exact (hJ194 trivial ).more (zfa1 rfl (zfa1 rfl (zfa1 rfl (zfa1 rfl (zfa1 rfl (zfa1 rfl (zfa1 rfl (zfa1 rfl (zfa0)))))))))
              ·
                replace cc177 := Classical.not_not.mp cc177
                have f77 := zeqI cc177
                refine zp_seg (pc' := 184) (lv' := [(0, .ref m), (1, .int (g 13)), (2, .ref (m + 6316 + 9 * (g 16).toNatClampNeg)), (5, .int A9_42), (6, .int B9_42), (7, .int C9_42), (8, .int xX), (9, .int xY), (10, .int xZ)]) (st' := [.int xZ, .int C9_42]) [(180, .iload 7), (182, .iload 10)] (by decide +kernel) rfl ?_
                refine zp_if (i := .if_icmp .ge 10) (c := xZ ≤ C9_42) (t := 194) (e := 187) (lv' := [(0, .ref m), (1, .int (g 13)), (2, .ref (m + 6316 + 9 * (g 16).toNatClampNeg)), (5, .int A9_42), (6, .int B9_42), (7, .int C9_42), (8, .int xX), (9, .int xY), (10, .int xZ)]) (st' := []) (by decide +kernel) rfl (fun cc184 => ?_) (fun cc184 => ?_)
                ·
                  have f78 := zleI cc184
                  exact (hJ194 trivial ).more (zfa1 rfl (zfa1 rfl (zfa1 rfl (zfa1 rfl (zfa1 rfl (zfa1 rfl (zfa1 rfl (zfa1 rfl (zfa0)))))))))
                ·
                  have f79 := znleI cc184
                  refine zp_seg (pc' := 190) (lv' := [(0, .ref m), (1, .int (g 13)), (2, .ref (m + 6316 + 9 * (g 16).toNatClampNeg)), (5, .int A9_42), (6, .int B9_42), (7, .int C9_42), (8, .int xX), (9, .int xY), (10, .int xZ)]) (st' := [.int (g 13), .int 3, .ref m]) [(187, .aload_n 0), (188, .iconst 3), (189, .iload_n 1)] (by decide +kernel) rfl ?_
                  have hb80 := hb36.si (hsi42.tr hsiL83)
                  refine zr_callV (idx := 346) (j := 318) (by decide +kernel) (by decide +kernel) (show zMe 318 = some zq_X16_fail from rfl) rfl rfl (Nat.le_of_ble_eq_true rfl) rfl rfl hxM (Nat.le_of_ble_eq_true rfl) (Nat.le_of_ble_eq_true rfl) (c_X16_fail (w := wL83) m 3 (g 13) hxM hb80) (by omega) (fun v190 w190 hp190 => ?_)
                  obtain ⟨hsi190, heq190, hp190_0, rfl⟩ := hp190
                  have hM190 : w190 m = some (.inl (15, zMo m (zs (zs (zs (zs (zs (zs (zs g 9 3) 10 (g 13)) 13 A9_37) 16 Q9_30) 17 xX) 18 xY) 19 xZ) r)) := hp190_0
                  show zP _ _ _ _ [.ref (m + 79)] _ _ _ _ _
                  have hb81 := hb80.si hsi190
                  obtain ⟨fs9, hst9⟩ := hb81.stop
                  refine zr_thr (by decide +kernel) hst9 ?_
                  have hb82 : zPil w190 (m + 6316) := hp30_2.ag (fun x hx1 hx2 => ((heq190 x (zx_X16_choose_3 hx1 hx2)).trans ((heqL83 x ⟨(zx_X16_choose_3 hx1 hx2), (zx_X16_choose_2 hx1 hx2)⟩).trans ((heq42 x (zx_X16_choose_3 hx1 hx2)).trans (heq37 x (zx_X16_choose_3 hx1 hx2))))))
                  rw [← hPost]; exact ⟨rfl, Or.inr ⟨rfl, (zs (zs (zs (zs (zs (zs (zs g 9 3) 10 (g 13)) 13 A9_37) 16 Q9_30) 17 xX) 18 xY) 19 xZ), ((((((((hsi8.tr hsi15).tr hsi19).tr hsi26).tr hsi30).tr hsi37).tr hsi42).tr hsiL83).tr hsi190), (fun x hx => ((heq190 x hx.1).trans ((heqL83 x ⟨hx.1, (zx_X16_choose_1 hx.1)⟩).trans ((heq42 x hx.1).trans ((heq37 x hx.1).trans ((heq30 x (by omega)).trans ((heq26 x hx.1).trans ((heq19 x ⟨hx.1, hx.2.1, hx.2.2.1, hx.2.2.2.1, hx.2.2.2.2.1, hx.2.2.2.2.2.1, hx.2.2.2.2.2.2⟩).trans ((heq15 x hx.1).trans (heq8 x (zx_X16_choose_1 hx.1))))))))))), hM190, (by
                        first | exact hx9_1 | exact ⟨rfl, rfl, rfl, rfl⟩), hb82⟩⟩
          refine zp_if (i := .ifCond .ne 13) (c := ¬ xX = 0) (t := 166) (e := 156) (lv' := [(0, .ref m), (1, .int (g 13)), (2, .ref (m + 6316 + 9 * (g 16).toNatClampNeg)), (5, .int A9_42), (6, .int B9_42), (7, .int C9_42), (8, .int xX), (9, .int xY), (10, .int xZ)]) (st' := []) (by decide +kernel) rfl (fun cc153 => ?_) (fun cc153 => ?_)
          ·
            have f83 := zneI cc153
            rw [show (0 : Int32).toInt = 0 from by decide] at f83
            exact (hJ166 trivial ).more (zfa1 rfl (zfa1 rfl (zfa1 rfl (zfa1 rfl (zfa1 rfl (zfa1 rfl (zfa1 rfl (zfa1 rfl (zfa1 rfl (zfa0))))))))))
          ·
            replace cc153 := Classical.not_not.mp cc153
            have f84 := zeqI cc153
            rw [show (0 : Int32).toInt = 0 from by decide] at f84
            refine zp_seg (pc' := 158) (lv' := [(0, .ref m), (1, .int (g 13)), (2, .ref (m + 6316 + 9 * (g 16).toNatClampNeg)), (5, .int A9_42), (6, .int B9_42), (7, .int C9_42), (8, .int xX), (9, .int xY), (10, .int xZ)]) (st' := [.int xY]) [(156, .iload 9)] (by decide +kernel) rfl ?_
            refine zp_if (i := .ifCond .ne 8) (c := ¬ xY = 0) (t := 166) (e := 161) (lv' := [(0, .ref m), (1, .int (g 13)), (2, .ref (m + 6316 + 9 * (g 16).toNatClampNeg)), (5, .int A9_42), (6, .int B9_42), (7, .int C9_42), (8, .int xX), (9, .int xY), (10, .int xZ)]) (st' := []) (by decide +kernel) rfl (fun cc158 => ?_) (fun cc158 => ?_)
            ·
              have f85 := zneI cc158
              rw [show (0 : Int32).toInt = 0 from by decide] at f85
              exact (hJ166 trivial ).more (zfa1 rfl (zfa1 rfl (zfa1 rfl (zfa1 rfl (zfa1 rfl (zfa1 rfl (zfa1 rfl (zfa1 rfl (zfa1 rfl (zfa0))))))))))
            ·
              replace cc158 := Classical.not_not.mp cc158
              have f86 := zeqI cc158
              rw [show (0 : Int32).toInt = 0 from by decide] at f86
              refine zp_seg (pc' := 163) (lv' := [(0, .ref m), (1, .int (g 13)), (2, .ref (m + 6316 + 9 * (g 16).toNatClampNeg)), (5, .int A9_42), (6, .int B9_42), (7, .int C9_42), (8, .int xX), (9, .int xY), (10, .int xZ)]) (st' := [.int xZ]) [(161, .iload 10)] (by decide +kernel) rfl ?_
              refine zp_if (i := .ifCond .lt 24) (c := xZ < 0) (t := 187) (e := 166) (lv' := [(0, .ref m), (1, .int (g 13)), (2, .ref (m + 6316 + 9 * (g 16).toNatClampNeg)), (5, .int A9_42), (6, .int B9_42), (7, .int C9_42), (8, .int xX), (9, .int xY), (10, .int xZ)]) (st' := []) (by decide +kernel) rfl (fun cc163 => ?_) (fun cc163 => ?_)
              ·
                have f87 := zltI cc163
                rw [show (0 : Int32).toInt = 0 from by decide] at f87
                refine zp_seg (pc' := 190) (lv' := [(0, .ref m), (1, .int (g 13)), (2, .ref (m + 6316 + 9 * (g 16).toNatClampNeg)), (5, .int A9_42), (6, .int B9_42), (7, .int C9_42), (8, .int xX), (9, .int xY), (10, .int xZ)]) (st' := [.int (g 13), .int 3, .ref m]) [(187, .aload_n 0), (188, .iconst 3), (189, .iload_n 1)] (by decide +kernel) rfl ?_
                have hb88 := hb36.si (hsi42.tr hsiL83)
                refine zr_callV (idx := 346) (j := 318) (by decide +kernel) (by decide +kernel) (show zMe 318 = some zq_X16_fail from rfl) rfl rfl (Nat.le_of_ble_eq_true rfl) rfl rfl hxM (Nat.le_of_ble_eq_true rfl) (Nat.le_of_ble_eq_true rfl) (c_X16_fail (w := wL83) m 3 (g 13) hxM hb88) (by omega) (fun v190 w190 hp190 => ?_)
                obtain ⟨hsi190, heq190, hp190_0, rfl⟩ := hp190
                have hM190 : w190 m = some (.inl (15, zMo m (zs (zs (zs (zs (zs (zs (zs g 9 3) 10 (g 13)) 13 A9_37) 16 Q9_30) 17 xX) 18 xY) 19 xZ) r)) := hp190_0
                show zP _ _ _ _ [.ref (m + 79)] _ _ _ _ _
                have hb89 := hb88.si hsi190
                obtain ⟨fs9, hst9⟩ := hb89.stop
                refine zr_thr (by decide +kernel) hst9 ?_
                have hb90 : zPil w190 (m + 6316) := hp30_2.ag (fun x hx1 hx2 => ((heq190 x (zx_X16_choose_3 hx1 hx2)).trans ((heqL83 x ⟨(zx_X16_choose_3 hx1 hx2), (zx_X16_choose_2 hx1 hx2)⟩).trans ((heq42 x (zx_X16_choose_3 hx1 hx2)).trans (heq37 x (zx_X16_choose_3 hx1 hx2))))))
                rw [← hPost]; exact ⟨rfl, Or.inr ⟨rfl, (zs (zs (zs (zs (zs (zs (zs g 9 3) 10 (g 13)) 13 A9_37) 16 Q9_30) 17 xX) 18 xY) 19 xZ), ((((((((hsi8.tr hsi15).tr hsi19).tr hsi26).tr hsi30).tr hsi37).tr hsi42).tr hsiL83).tr hsi190), (fun x hx => ((heq190 x hx.1).trans ((heqL83 x ⟨hx.1, (zx_X16_choose_1 hx.1)⟩).trans ((heq42 x hx.1).trans ((heq37 x hx.1).trans ((heq30 x (by omega)).trans ((heq26 x hx.1).trans ((heq19 x ⟨hx.1, hx.2.1, hx.2.2.1, hx.2.2.2.1, hx.2.2.2.2.1, hx.2.2.2.2.2.1, hx.2.2.2.2.2.2⟩).trans ((heq15 x hx.1).trans (heq8 x (zx_X16_choose_1 hx.1))))))))))), hM190, (by
                      first | exact hx9_1 | exact ⟨rfl, rfl, rfl, rfl⟩), hb90⟩⟩
              ·
                have f91 := znltI cc163
                rw [show (0 : Int32).toInt = 0 from by decide] at f91
                exact (hJ166 trivial ).more (zfa1 rfl (zfa1 rfl (zfa1 rfl (zfa1 rfl (zfa1 rfl (zfa1 rfl (zfa1 rfl (zfa1 rfl (zfa1 rfl (zfa0))))))))))
        refine zp_if (i := .ifCond .ne 13) (c := ¬ A9_42 = 0) (t := 151) (e := 141) (lv' := [(10, .int xZ), (9, .int xY), (8, .int xX), (4, .int z0_83), (0, .ref m), (1, .int (g 13)), (2, .ref (m + 6316 + 9 * (g 16).toNatClampNeg)), (5, .int A9_42), (6, .int B9_42), (7, .int C9_42)]) (st' := []) (by decide +kernel) rfl (fun cc138 => ?_) (fun cc138 => ?_)
        ·
          have f92 := zneI cc138
          rw [show (0 : Int32).toInt = 0 from by decide] at f92
          exact (hJ151 trivial ).more (zfa1 rfl (zfa1 rfl (zfa1 rfl (zfa1 rfl (zfa1 rfl (zfa1 rfl (zfa1 rfl (zfa1 rfl (zfa1 rfl (zfa0))))))))))
        ·
          replace cc138 := Classical.not_not.mp cc138
          have f93 := zeqI cc138
          rw [show (0 : Int32).toInt = 0 from by decide] at f93
          refine zp_seg (pc' := 143) (lv' := [(10, .int xZ), (9, .int xY), (8, .int xX), (4, .int z0_83), (0, .ref m), (1, .int (g 13)), (2, .ref (m + 6316 + 9 * (g 16).toNatClampNeg)), (5, .int A9_42), (6, .int B9_42), (7, .int C9_42)]) (st' := [.int B9_42]) [(141, .iload 6)] (by decide +kernel) rfl ?_
          refine zp_if (i := .ifCond .ne 8) (c := ¬ B9_42 = 0) (t := 151) (e := 146) (lv' := [(10, .int xZ), (9, .int xY), (8, .int xX), (4, .int z0_83), (0, .ref m), (1, .int (g 13)), (2, .ref (m + 6316 + 9 * (g 16).toNatClampNeg)), (5, .int A9_42), (6, .int B9_42), (7, .int C9_42)]) (st' := []) (by decide +kernel) rfl (fun cc143 => ?_) (fun cc143 => ?_)
          ·
            have f94 := zneI cc143
            rw [show (0 : Int32).toInt = 0 from by decide] at f94
            exact (hJ151 trivial ).more (zfa1 rfl (zfa1 rfl (zfa1 rfl (zfa1 rfl (zfa1 rfl (zfa1 rfl (zfa1 rfl (zfa1 rfl (zfa1 rfl (zfa0))))))))))
          ·
            replace cc143 := Classical.not_not.mp cc143
            have f95 := zeqI cc143
            rw [show (0 : Int32).toInt = 0 from by decide] at f95
            refine zp_seg (pc' := 148) (lv' := [(10, .int xZ), (9, .int xY), (8, .int xX), (4, .int z0_83), (0, .ref m), (1, .int (g 13)), (2, .ref (m + 6316 + 9 * (g 16).toNatClampNeg)), (5, .int A9_42), (6, .int B9_42), (7, .int C9_42)]) (st' := [.int C9_42]) [(146, .iload 7)] (by decide +kernel) rfl ?_
            refine zp_if (i := .ifCond .lt 39) (c := C9_42 < 0) (t := 187) (e := 151) (lv' := [(10, .int xZ), (9, .int xY), (8, .int xX), (4, .int z0_83), (0, .ref m), (1, .int (g 13)), (2, .ref (m + 6316 + 9 * (g 16).toNatClampNeg)), (5, .int A9_42), (6, .int B9_42), (7, .int C9_42)]) (st' := []) (by decide +kernel) rfl (fun cc148 => ?_) (fun cc148 => ?_)
            ·
              have f96 := zltI cc148
              rw [show (0 : Int32).toInt = 0 from by decide] at f96
              refine zp_seg (pc' := 190) (lv' := [(10, .int xZ), (9, .int xY), (8, .int xX), (4, .int z0_83), (0, .ref m), (1, .int (g 13)), (2, .ref (m + 6316 + 9 * (g 16).toNatClampNeg)), (5, .int A9_42), (6, .int B9_42), (7, .int C9_42)]) (st' := [.int (g 13), .int 3, .ref m]) [(187, .aload_n 0), (188, .iconst 3), (189, .iload_n 1)] (by decide +kernel) rfl ?_
              have hb97 := hb36.si (hsi42.tr hsiL83)
              refine zr_callV (idx := 346) (j := 318) (by decide +kernel) (by decide +kernel) (show zMe 318 = some zq_X16_fail from rfl) rfl rfl (Nat.le_of_ble_eq_true rfl) rfl rfl hxM (Nat.le_of_ble_eq_true rfl) (Nat.le_of_ble_eq_true rfl) (c_X16_fail (w := wL83) m 3 (g 13) hxM hb97) (by omega) (fun v190 w190 hp190 => ?_)
              obtain ⟨hsi190, heq190, hp190_0, rfl⟩ := hp190
              have hM190 : w190 m = some (.inl (15, zMo m (zs (zs (zs (zs (zs (zs (zs g 9 3) 10 (g 13)) 13 A9_37) 16 Q9_30) 17 xX) 18 xY) 19 xZ) r)) := hp190_0
              show zP _ _ _ _ [.ref (m + 79)] _ _ _ _ _
              have hb98 := hb97.si hsi190
              obtain ⟨fs9, hst9⟩ := hb98.stop
              refine zr_thr (by decide +kernel) hst9 ?_
              have hb99 : zPil w190 (m + 6316) := hp30_2.ag (fun x hx1 hx2 => ((heq190 x (zx_X16_choose_3 hx1 hx2)).trans ((heqL83 x ⟨(zx_X16_choose_3 hx1 hx2), (zx_X16_choose_2 hx1 hx2)⟩).trans ((heq42 x (zx_X16_choose_3 hx1 hx2)).trans (heq37 x (zx_X16_choose_3 hx1 hx2))))))
              rw [← hPost]; exact ⟨rfl, Or.inr ⟨rfl, (zs (zs (zs (zs (zs (zs (zs g 9 3) 10 (g 13)) 13 A9_37) 16 Q9_30) 17 xX) 18 xY) 19 xZ), ((((((((hsi8.tr hsi15).tr hsi19).tr hsi26).tr hsi30).tr hsi37).tr hsi42).tr hsiL83).tr hsi190), (fun x hx => ((heq190 x hx.1).trans ((heqL83 x ⟨hx.1, (zx_X16_choose_1 hx.1)⟩).trans ((heq42 x hx.1).trans ((heq37 x hx.1).trans ((heq30 x (by omega)).trans ((heq26 x hx.1).trans ((heq19 x ⟨hx.1, hx.2.1, hx.2.2.1, hx.2.2.2.1, hx.2.2.2.2.1, hx.2.2.2.2.2.1, hx.2.2.2.2.2.2⟩).trans ((heq15 x hx.1).trans (heq8 x (zx_X16_choose_1 hx.1))))))))))), hM190, (by
                    first | exact hx9_1 | exact ⟨rfl, rfl, rfl, rfl⟩), hb99⟩⟩
            ·
              have f100 := znltI cc148
              rw [show (0 : Int32).toInt = 0 from by decide] at f100
              exact (hJ151 trivial ).more (zfa1 rfl (zfa1 rfl (zfa1 rfl (zfa1 rfl (zfa1 rfl (zfa1 rfl (zfa1 rfl (zfa1 rfl (zfa1 rfl (zfa0))))))))))
      ·
        replace cc126 := Classical.not_not.mp cc126
        have f101 := zeqI cc126
        rw [show (0 : Int32).toInt = 0 from by decide] at f101
        refine zp_seg (pc' := 132) (lv' := [(10, .int xZ), (9, .int xY), (8, .int xX), (4, .int z0_83), (0, .ref m), (1, .int (g 13)), (2, .ref (m + 6316 + 9 * (g 16).toNatClampNeg)), (5, .int A9_42), (6, .int B9_42), (7, .int C9_42)]) (st' := [.int (g 13), .int 2, .ref m]) [(129, .aload_n 0), (130, .iconst 2), (131, .iload_n 1)] (by decide +kernel) rfl ?_
        have hb102 := hb36.si (hsi42.tr hsiL83)
        refine zr_callV (idx := 346) (j := 318) (by decide +kernel) (by decide +kernel) (show zMe 318 = some zq_X16_fail from rfl) rfl rfl (Nat.le_of_ble_eq_true rfl) rfl rfl hxM (Nat.le_of_ble_eq_true rfl) (Nat.le_of_ble_eq_true rfl) (c_X16_fail (w := wL83) m 2 (g 13) hxM hb102) (by omega) (fun v132 w132 hp132 => ?_)
        obtain ⟨hsi132, heq132, hp132_0, rfl⟩ := hp132
        have hM132 : w132 m = some (.inl (15, zMo m (zs (zs (zs (zs (zs (zs (zs g 9 2) 10 (g 13)) 13 A9_37) 16 Q9_30) 17 xX) 18 xY) 19 xZ) r)) := hp132_0
        show zP _ _ _ _ [.ref (m + 79)] _ _ _ _ _
        have hb103 := hb102.si hsi132
        obtain ⟨fs9, hst9⟩ := hb103.stop
        refine zr_thr (by decide +kernel) hst9 ?_
        have hb104 : zPil w132 (m + 6316) := hp30_2.ag (fun x hx1 hx2 => ((heq132 x (zx_X16_choose_3 hx1 hx2)).trans ((heqL83 x ⟨(zx_X16_choose_3 hx1 hx2), (zx_X16_choose_2 hx1 hx2)⟩).trans ((heq42 x (zx_X16_choose_3 hx1 hx2)).trans (heq37 x (zx_X16_choose_3 hx1 hx2))))))
        rw [← hPost]; exact ⟨rfl, Or.inr ⟨rfl, (zs (zs (zs (zs (zs (zs (zs g 9 2) 10 (g 13)) 13 A9_37) 16 Q9_30) 17 xX) 18 xY) 19 xZ), ((((((((hsi8.tr hsi15).tr hsi19).tr hsi26).tr hsi30).tr hsi37).tr hsi42).tr hsiL83).tr hsi132), (fun x hx => ((heq132 x hx.1).trans ((heqL83 x ⟨hx.1, (zx_X16_choose_1 hx.1)⟩).trans ((heq42 x hx.1).trans ((heq37 x hx.1).trans ((heq30 x (by omega)).trans ((heq26 x hx.1).trans ((heq19 x ⟨hx.1, hx.2.1, hx.2.2.1, hx.2.2.2.1, hx.2.2.2.2.1, hx.2.2.2.2.2.1, hx.2.2.2.2.2.2⟩).trans ((heq15 x hx.1).trans (heq8 x (zx_X16_choose_1 hx.1))))))))))), hM132, (by
              first | exact hx9_1 | exact ⟨rfl, rfl, rfl, rfl⟩), hb104⟩⟩
  refine zp_if (i := .ifCond .eq 15) (c := r42 = 0) (t := 82) (e := 70) (lv' := [(7, .int C9_42), (6, .int B9_42), (5, .int A9_42), (4, .int r42), (3, .ref (m + 6316 + 9 * Q9_19.toNatClampNeg)), (2, .ref (m + 6316 + 9 * (g 16).toNatClampNeg)), (1, .int (g 13)), (0, .ref m)]) (st' := []) (by decide +kernel) rfl (fun cc67 => ?_) (fun cc67 => ?_)
  ·
    have f106 := zeqI cc67
    rw [show (0 : Int32).toInt = 0 from by decide] at f106
    refine zp_seg (pc' := 83) (lv' := [(7, .int C9_42), (6, .int B9_42), (5, .int A9_42), (4, .int r42), (3, .ref (m + 6316 + 9 * Q9_19.toNatClampNeg)), (2, .ref (m + 6316 + 9 * (g 16).toNatClampNeg)), (1, .int (g 13)), (0, .ref m)]) (st' := [.int 0]) [(82, .iconst 0)] (by decide +kernel) rfl ?_
    have hl107 : (0 : Int32).toInt = 0 := by decide
    exact (hJ83 w42 0 (A9_42) (B9_42) (C9_42) zSI.rf (fun _ _ => rfl) (by first | assumption | omega | decide) (by
          exact hM42) (by
          first | exact fun e => absurd e (by decide) | exact fun _ => ⟨(hr42 (hrb42.resolve_left cc67)).2, (hr72 (hrb72.resolve_left cc75)).2⟩)).more (zfa1 rfl (zfa1 rfl (zfa1 rfl (zfa1 rfl (zfa1 rfl (zfa1 rfl (zfa0)))))))
  ·
    have f109 := zneI cc67
    rw [show (0 : Int32).toInt = 0 from by decide] at f109
    have hb110 : zTi w42 (m + 6316 + 9 * Q9_19.toNatClampNeg) K9_30 := hp30_1.ag (fun x hx1 hx2 => ((heq42 x (by omega)).trans (heq37 x (by omega))))
    obtain ⟨g2, fn2, fd2, fa2, fb2, fc2, fe2, fr2, fu2, hT2, hAn2, hAd2, hAa2, hAb2, hAc2, hAe2, hAr2, hAu2, hK2⟩ := id hb110
    obtain ⟨hK20, hKn2, hKd2, hKx2, hKm2, hKl2, hKr2, hKu2, hKk2⟩ := id hK2
    refine zp_seg (pc' := 72) (lv' := [(7, .int C9_42), (6, .int B9_42), (5, .int A9_42), (4, .int r42), (3, .ref (m + 6316 + 9 * Q9_19.toNatClampNeg)), (2, .ref (m + 6316 + 9 * (g 16).toNatClampNeg)), (1, .int (g 13)), (0, .ref m)]) (st' := [.ref (m + 6316 + 9 * Q9_19.toNatClampNeg), .ref m]) [(70, .aload_n 0), (71, .aload_n 3)] (by decide +kernel) rfl ?_
    have hb111 := hb36.si hsi42
    refine zr_callV (idx := 409) (j := 329) (by decide +kernel) (by decide +kernel) (show zMe 329 = some zq_X16_isLine from rfl) rfl rfl (Nat.le_of_ble_eq_true rfl) rfl rfl hM42 (Nat.le_of_ble_eq_true rfl) (Nat.le_of_ble_eq_true rfl) (c_X16_isLine (w := w42) m (m + 6316 + 9 * Q9_19.toNatClampNeg) hM42 hb111 hT2 hAn2 hAd2 (by exact hKn2) (by first | omega | decide | assumption | exact zr1_1 | exact zr1_0 | fail "num")) (by omega) (fun v72 w72 hp72 => ?_)
    obtain ⟨A9_72, B9_72, C9_72, hsi72, heq72, hp72_0, r72, rfl, hrb72, hr72⟩ := hp72
    have hM72 : w72 m = some (.inl (15, zMo m (zs (zs (zs (zs (zs g 13 A9_37) 16 Q9_30) 17 A9_72) 18 B9_72) 19 C9_72) r)) := hp72_0
    have kr72 := zrng r72
    show zP _ _ _ _ [.int r72] _ _ _ _ _
    refine zp_if (i := .ifCond .eq 7) (c := r72 = 0) (t := 82) (e := 78) (lv' := [(7, .int C9_42), (6, .int B9_42), (5, .int A9_42), (4, .int r42), (3, .ref (m + 6316 + 9 * Q9_19.toNatClampNeg)), (2, .ref (m + 6316 + 9 * (g 16).toNatClampNeg)), (1, .int (g 13)), (0, .ref m)]) (st' := []) (by decide +kernel) rfl (fun cc75 => ?_) (fun cc75 => ?_)
    ·
      have f112 := zeqI cc75
      rw [show (0 : Int32).toInt = 0 from by decide] at f112
      refine zp_seg (pc' := 83) (lv' := [(7, .int C9_42), (6, .int B9_42), (5, .int A9_42), (4, .int r42), (3, .ref (m + 6316 + 9 * Q9_19.toNatClampNeg)), (2, .ref (m + 6316 + 9 * (g 16).toNatClampNeg)), (1, .int (g 13)), (0, .ref m)]) (st' := [.int 0]) [(82, .iconst 0)] (by decide +kernel) rfl ?_
      have hl113 : (0 : Int32).toInt = 0 := by decide
      exact (hJ83 w72 0 (A9_72) (B9_72) (C9_72) hsi72 (fun x hx => (heq72 x hx.1)) (by first | assumption | omega | decide) (by
            exact hM72) (by
            first | exact fun e => absurd e (by decide) | exact fun _ => ⟨(hr42 (hrb42.resolve_left cc67)).2, (hr72 (hrb72.resolve_left cc75)).2⟩)).more (zfa1 rfl (zfa1 rfl (zfa1 rfl (zfa1 rfl (zfa1 rfl (zfa1 rfl (zfa0)))))))
    ·
      have f114 := zneI cc75
      rw [show (0 : Int32).toInt = 0 from by decide] at f114
      refine zp_seg (pc' := 83) (lv' := [(7, .int C9_42), (6, .int B9_42), (5, .int A9_42), (4, .int r42), (3, .ref (m + 6316 + 9 * Q9_19.toNatClampNeg)), (2, .ref (m + 6316 + 9 * (g 16).toNatClampNeg)), (1, .int (g 13)), (0, .ref m)]) (st' := [.int 1]) [(78, .iconst 1), (79, .goto 4)] (by decide +kernel) rfl ?_
      have hl115 : (1 : Int32).toInt = 1 := by decide
      exact (hJ83 w72 1 (A9_72) (B9_72) (C9_72) hsi72 (fun x hx => (heq72 x hx.1)) (by first | assumption | omega | decide) (by
            exact hM72) (by
            first | exact fun e => absurd e (by decide) | exact fun _ => ⟨(hr42 (hrb42.resolve_left cc67)).2, (hr72 (hrb72.resolve_left cc75)).2⟩)).more (zfa1 rfl (zfa1 rfl (zfa1 rfl (zfa1 rfl (zfa1 rfl (zfa1 rfl (zfa0)))))))
