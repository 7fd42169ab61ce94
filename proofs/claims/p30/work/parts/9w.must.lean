theorem zx_X16_fail_0 {m x : Nat} (h0 : x < m ∨ m + 1 ≤ x) : x ≠ m := by omega
set_option maxHeartbeats 8000000 in
set_option maxRecDepth 100000 in
theorem c_X16_fail {w : zM} {g : Nat → Int32} {r : Nat → Value}  (m : Nat) (f : Int32) (at9 : Int32) (hm : w m = some (.inl (15, zMo m g r))) (hR_m : zR m w) : zCon 1 zq_X16_fail [.ref m, .int f, .int at9] w (fun v9 w9' => zSI w w9' ∧ (∀ x, (x < m ∨ m + 1 ≤ x) → w9' x = w x) ∧ w9' m = some (.inl (15, zMo m (zs (zs g 9 f) 10 at9) r)) ∧ v9 = some (.ref (m + 79))) := by
  intro d sz hd
  obtain ⟨d, rfl⟩ : ∃ d9, d = d9 + 1 := ⟨d - 1, by omega⟩
  generalize hPost : (fun (r9' : Option (Option Value)) (w9' : zM) (z9 : Nat) => z9 = sz ∧ ∃ v9, r9' = some v9 ∧ (zSI w w9' ∧ (∀ x, (x < m ∨ m + 1 ≤ x) → w9' x = w x) ∧ w9' m = some (.inl (15, zMo m (zs (zs g 9 f) 10 at9) r)) ∧ v9 = some (.ref (m + 79)))) = Post
  show zP (d + 1) zq_X16_fail 0 [(0, .ref m), (1, .int f), (2, .int at9)] [] w sz 0 0 Post
  have k1 := zrng f
  have k2 := zrng at9
  refine zp_seg (pc' := 2) (lv' := [(0, .ref m), (1, .int f), (2, .int at9)]) (st' := [.int f, .ref m]) [(0, .aload_n 0), (1, .iload_n 1)] (by decide +kernel) rfl ?_
  refine zr_put2 (idx := 324) (k := 9) (fs2 := zMo m (zs g 9 f) r) (by decide +kernel) (by decide +kernel) hm (Nat.le_of_ble_eq_true rfl) rfl rfl rfl ?_
  show zP (d + 1) zq_X16_fail 5 [(0, .ref m), (1, .int f), (2, .int at9)] [] (zup w m (.inl (15, zMo m (zs g 9 f) r))) sz 0 0 Post
  obtain ⟨w2, ew2⟩ : ∃ wz9, wz9 = zup w m (.inl (15, zMo m (zs g 9 f) r)) := ⟨_, rfl⟩
  have hsi2 : zSI w w2 := by rw [ew2]; exact zSI.setG hm _ _
  have heq2 : ∀ x, x ≠ m → w2 x = w x := fun x hx => by rw [ew2]; exact zup_n hx
  have hc2 : w2 m = some (.inl (15, zMo m (zs g 9 f) r)) := by rw [ew2]; exact zup_s
  rw [← ew2]
  clear ew2
  refine zp_seg (pc' := 7) (lv' := [(0, .ref m), (1, .int f), (2, .int at9)]) (st' := [.int at9, .ref m]) [(5, .aload_n 0), (6, .iload_n 2)] (by decide +kernel) rfl ?_
  refine zr_put2 (idx := 327) (k := 10) (fs2 := zMo m (zs (zs g 9 f) 10 at9) r) (by decide +kernel) (by decide +kernel) hc2 (Nat.le_of_ble_eq_true rfl) rfl rfl rfl ?_
  show zP (d + 1) zq_X16_fail 10 [(0, .ref m), (1, .int f), (2, .int at9)] [] (zup w2 m (.inl (15, zMo m (zs (zs g 9 f) 10 at9) r))) sz 0 0 Post
  obtain ⟨w7, ew7⟩ : ∃ wz9, wz9 = zup w2 m (.inl (15, zMo m (zs (zs g 9 f) 10 at9) r)) := ⟨_, rfl⟩
  have hsi7 : zSI w2 w7 := by rw [ew7]; exact zSI.setG hc2 _ _
  have heq7 : ∀ x, x ≠ m → w7 x = w2 x := fun x hx => by rw [ew7]; exact zup_n hx
  have hc7 : w7 m = some (.inl (15, zMo m (zs (zs g 9 f) 10 at9) r)) := by rw [ew7]; exact zup_s
  rw [← ew7]
  clear ew7
  refine zp_seg (pc' := 11) (lv' := [(0, .ref m), (1, .int f), (2, .int at9)]) (st' := [.ref m]) [(10, .aload_n 0)] (by decide +kernel) rfl ?_
  refine zr_get (idx := 330) (k := 8) (v := .ref (m + 79)) (by decide +kernel) (by decide +kernel) hc7 rfl ?_
  have hoffend : ∀ x, (x < m ∨ m + 1 ≤ x) → w7 x = w x := fun x hx => ((heq7 x (zx_X16_fail_0 hx)).trans (heq2 x (zx_X16_fail_0 hx)))
  refine zr_retA (by decide +kernel) rfl ?_
  rw [← hPost]; exact ⟨rfl, _, rfl, (hsi2.tr hsi7), hoffend, hc7, rfl⟩

theorem zx_X16_must_0 {m x : Nat} (h0 : x < m ∨ m + 1 ≤ x) : x ≠ m := by omega
set_option maxHeartbeats 8000000 in
set_option maxRecDepth 100000 in
theorem c_X16_must {w : zM} {g : Nat → Int32} {r : Nat → Value} {ft : Nat → Int32} {g12 : Int32} {g13 : Int32} (m : Nat) (c : Int32) (hm : w m = some (.inl (15, zMo m g r))) (hR_m : zR m w) (htp : 0 ≤ g13.toInt ∧ g13.toInt ≤ g12.toInt ∧ g12.toInt ≤ 400) (hA_m_80 : w (m + 80) = some (.inr (1, 400, .inl ft))) (hdp : zDep ft g13.toNatClampNeg ≤ 20) (hc : ¬ c = Int32.ofInt (-1)) (hg12 : g 12 = g12) (hg13 : g 13 = g13) : zConT 2 zq_X16_must [.ref m, .int c] w (fun v9 w9' => ∃ A9 : Int32, zSI w w9' ∧ (∀ x, (x < m ∨ m + 1 ≤ x) → w9' x = w x) ∧ w9' m = some (.inl (15, zMo m (zs g 13 A9) r)) ∧ ((g13.toInt < A9.toInt ∧ A9.toInt ≤ g12.toInt) ∧ ∃ B : Nat, zTd ft g12.toNatClampNeg g13.toNatClampNeg B ∧ B < g12.toNatClampNeg ∧ ft B &&& 255 = c ∧ A9.toNatClampNeg = B + 1) ∧ v9 = none) (fun w9' => ∃ G9 : Nat → Int32, zSI w w9' ∧ (∀ x, (x < m ∨ m + 1 ≤ x) → w9' x = w x) ∧ w9' m = some (.inl (15, zMo m G9 r)) ∧ (zKp G9 g)) := by
  subst hg12
  subst hg13
  intro d sz hd
  obtain ⟨d, rfl⟩ : ∃ d9, d = d9 + 1 := ⟨d - 1, by omega⟩
  generalize hPost : (fun (r9' : Option (Option Value)) (w9' : zM) (z9 : Nat) => z9 = sz ∧ ((∃ v9, r9' = some v9 ∧ (∃ A9 : Int32, zSI w w9' ∧ (∀ x, (x < m ∨ m + 1 ≤ x) → w9' x = w x) ∧ w9' m = some (.inl (15, zMo m (zs g 13 A9) r)) ∧ (((g 13).toInt < A9.toInt ∧ A9.toInt ≤ (g 12).toInt) ∧ ∃ B : Nat, zTd ft (g 12).toNatClampNeg (g 13).toNatClampNeg B ∧ B < (g 12).toNatClampNeg ∧ ft B &&& 255 = c ∧ A9.toNatClampNeg = B + 1) ∧ v9 = none)) ∨ (r9' = none ∧ (∃ G9 : Nat → Int32, zSI w w9' ∧ (∀ x, (x < m ∨ m + 1 ≤ x) → w9' x = w x) ∧ w9' m = some (.inl (15, zMo m G9 r)) ∧ (zKp G9 g))))) = Post
  show zP (d + 1) zq_X16_must 0 [(0, .ref m), (1, .int c)] [] w sz 0 0 Post
  have k1 := zrng c
  have k2 := zrng (g 12)
  have hz3 : ((g 12).toNatClampNeg : Int) = (g 12).toInt := znat (by first | omega | decide)
  have k4 := zrng (g 13)
  have hz5 : ((g 13).toNatClampNeg : Int) = (g 13).toInt := znat (by first | omega | decide)
  refine zp_seg (pc' := 1) (lv' := [(0, .ref m), (1, .int c)]) (st' := [.ref m]) [(0, .aload_n 0)] (by decide +kernel) rfl ?_
  refine zr_callV (idx := 343) (j := 319) (by decide +kernel) (by decide +kernel) (show zMe 319 = some zq_X16_look from rfl) rfl rfl (Nat.le_of_ble_eq_true rfl) rfl rfl hm (Nat.le_of_ble_eq_true rfl) (Nat.le_of_ble_eq_true rfl) (c_X16_look (w := w) (g12 := (g 12)) (g13 := (g 13)) m hm hR_m (by first | omega | decide | assumption | exact zr1_1 | exact zr1_0 | fail "num") hA_m_80 (by first | omega | decide | assumption | exact zr1_1 | exact zr1_0 | fail "num") rfl rfl) (by omega) (fun v1 w1 hp1 => ?_)
  obtain ⟨A9_1, hsi1, heq1, hp1_0, hp1_1, r1, rfl, hr1⟩ := hp1
  have hM1 : w1 m = some (.inl (15, zMo m (zs g 13 A9_1) r)) := hp1_0
  have kr1 := zrng r1
  show zP _ _ _ _ [.int r1] _ _ _ _ _
  refine zp_seg (pc' := 5) (lv' := [(0, .ref m), (1, .int c)]) (st' := [.int c, .int r1]) [(4, .iload_n 1)] (by decide +kernel) rfl ?_
  refine zp_if (i := .if_icmp .eq 13) (c := r1 = c) (t := 18) (e := 8) (lv' := [(0, .ref m), (1, .int c)]) (st' := []) (by decide +kernel) rfl (fun cc5 => ?_) (fun cc5 => ?_)
  ·
    have f6 := zeqI cc5
    obtain ⟨hq1, hq2⟩ := zChr_lt (hr1.symm.trans cc5) hc
    have hzA := znat (x := A9_1) (by omega)
    refine zp_seg (pc' := 20) (lv' := [(0, .ref m), (1, .int c)]) (st' := [.ref m, .ref m]) [(18, .aload_n 0), (19, .dup)] (by decide +kernel) rfl ?_
    refine zr_get (idx := 334) (k := 13) (v := .int A9_1) (by decide +kernel) (by decide +kernel) hM1 rfl ?_
    refine zp_seg (pc' := 25) (lv' := [(0, .ref m), (1, .int c)]) (st' := [.int (A9_1 + 1), .ref m]) [(23, .iconst 1), (24, .iadd)] (by decide +kernel) rfl ?_
    have k7 := zrng A9_1
    have k8 := zaddC A9_1 1 (n := 1) (by decide) (by omega) (by omega)
    generalize ev25 : (A9_1 + 1 : Int32) = v25 at k8 ⊢
    have kv25 := zrng v25
    refine zr_put2 (idx := 334) (k := 13) (fs2 := zMo m (zs g 13 v25) r) (by decide +kernel) (by decide +kernel) hM1 (Nat.le_of_ble_eq_true rfl) rfl rfl rfl ?_
    show zP (d + 1) zq_X16_must 28 [(0, .ref m), (1, .int c)] [] (zup w1 m (.inl (15, zMo m (zs g 13 v25) r))) sz 0 0 Post
    obtain ⟨w25, ew25⟩ : ∃ wz9, wz9 = zup w1 m (.inl (15, zMo m (zs g 13 v25) r)) := ⟨_, rfl⟩
    have hsi25 : zSI w1 w25 := by rw [ew25]; exact zSI.setG hM1 _ _
    have heq25 : ∀ x, x ≠ m → w25 x = w1 x := fun x hx => by rw [ew25]; exact zup_n hx
    have hc25 : w25 m = some (.inl (15, zMo m (zs g 13 v25) r)) := by rw [ew25]; exact zup_s
    rw [← ew25]
    clear ew25
    have hoffend : ∀ x, (x < m ∨ m + 1 ≤ x) → w25 x = w x := fun x hx => ((heq25 x (zx_X16_must_0 hx)).trans (heq1 x hx))
    refine zr_retV (by decide +kernel) rfl ?_
    rw [← hPost]; exact ⟨rfl, Or.inl ⟨_, rfl, v25, (hsi1.tr hsi25), hoffend, hc25, (by
          have hz9 := znat (x := v25) (by omega)
          exact ⟨⟨by omega, by omega⟩, A9_1.toNatClampNeg, hp1_1.2, hq1, hq2, by omega⟩), rfl⟩⟩
  ·
    have f9 := zneI cc5
    refine zp_seg (pc' := 11) (lv' := [(0, .ref m), (1, .int c)]) (st' := [.ref m, .int 1, .ref m]) [(8, .aload_n 0), (9, .iconst 1), (10, .aload_n 0)] (by decide +kernel) rfl ?_
    refine zr_get (idx := 334) (k := 13) (v := .int A9_1) (by decide +kernel) (by decide +kernel) hM1 rfl ?_
    have hb10 := hR_m.si hsi1
    refine zr_callV (idx := 346) (j := 318) (by decide +kernel) (by decide +kernel) (show zMe 318 = some zq_X16_fail from rfl) rfl rfl (Nat.le_of_ble_eq_true rfl) rfl rfl hM1 (Nat.le_of_ble_eq_true rfl) (Nat.le_of_ble_eq_true rfl) (c_X16_fail (w := w1) m 1 A9_1 hM1 hb10) (by omega) (fun v14 w14 hp14 => ?_)
    obtain ⟨hsi14, heq14, hp14_0, rfl⟩ := hp14
    have hM14 : w14 m = some (.inl (15, zMo m (zs (zs (zs g 9 1) 10 A9_1) 13 A9_1) r)) := hp14_0
    show zP _ _ _ _ [.ref (m + 79)] _ _ _ _ _
    have hb11 := hb10.si hsi14
    obtain ⟨fs9, hst9⟩ := hb11.stop
    refine zr_thr (by decide +kernel) hst9 ?_
    rw [← hPost]; exact ⟨rfl, Or.inr ⟨rfl, (zs (zs (zs g 9 1) 10 A9_1) 13 A9_1), (hsi1.tr hsi14), (fun x hx => ((heq14 x hx).trans (heq1 x hx))), hM14, (by
          first | exact hx9_1 | exact ⟨rfl, rfl, rfl, rfl⟩)⟩⟩
