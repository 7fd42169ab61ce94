theorem zx_X16_bracket_0 {m x : Nat} (h0 : x < m ∨ m + 1 ≤ x) : x ≠ m := by omega
set_option maxHeartbeats 8000000 in
set_option maxRecDepth 100000 in
theorem c_X16_bracket {w : zM} {g : Nat → Int32} {r : Nat → Value} {ft : Nat → Int32} {g12 : Int32} {g13 : Int32} {g14 : Int32} (m : Nat) (hm : w m = some (.inl (15, zMo m g r))) (hR_m : zR m w) (htp : 0 ≤ g13.toInt ∧ g13.toInt ≤ g12.toInt ∧ g12.toInt ≤ 400) (hA_m_80 : w (m + 80) = some (.inr (1, 400, .inl ft))) (hop : 0 ≤ g14.toInt ∧ g14.toInt ≤ 20) (hdp : zDep ft g13.toNatClampNeg = g14.toInt) (hg12 : g 12 = g12) (hg13 : g 13 = g13) (hg14 : g 14 = g14) : zConT 2 zq_X16_bracket [.ref m] w (fun v9 w9' => ∃ A9 : Int32, ∃ O9 : Int32, zSI w w9' ∧ (∀ x, (x < m ∨ m + 1 ≤ x) → w9' x = w x) ∧ w9' m = some (.inl (15, zMo m (zs (zs g 13 A9) 14 O9) r)) ∧ (((g13.toInt < A9.toInt ∧ A9.toInt ≤ g12.toInt) ∧ O9.toInt = g14.toInt + 1 ∧ O9.toInt ≤ 20) ∧ zTq ft g12.toNatClampNeg g13.toNatClampNeg A9.toNatClampNeg ∧ zDep ft A9.toNatClampNeg = O9.toInt) ∧ v9 = none) (fun w9' => ∃ G9 : Nat → Int32, zSI w w9' ∧ (∀ x, (x < m ∨ m + 1 ≤ x) → w9' x = w x) ∧ w9' m = some (.inl (15, zMo m G9 r)) ∧ (zKp G9 g)) := by
  subst hg12
  subst hg13
  subst hg14
  intro d sz hd
  obtain ⟨d, rfl⟩ : ∃ d9, d = d9 + 1 := ⟨d - 1, by omega⟩
  generalize hPost : (fun (r9' : Option (Option Value)) (w9' : zM) (z9 : Nat) => z9 = sz ∧ ((∃ v9, r9' = some v9 ∧ (∃ A9 : Int32, ∃ O9 : Int32, zSI w w9' ∧ (∀ x, (x < m ∨ m + 1 ≤ x) → w9' x = w x) ∧ w9' m = some (.inl (15, zMo m (zs (zs g 13 A9) 14 O9) r)) ∧ ((((g 13).toInt < A9.toInt ∧ A9.toInt ≤ (g 12).toInt) ∧ O9.toInt = (g 14).toInt + 1 ∧ O9.toInt ≤ 20) ∧ zTq ft (g 12).toNatClampNeg (g 13).toNatClampNeg A9.toNatClampNeg ∧ zDep ft A9.toNatClampNeg = O9.toInt) ∧ v9 = none)) ∨ (r9' = none ∧ (∃ G9 : Nat → Int32, zSI w w9' ∧ (∀ x, (x < m ∨ m + 1 ≤ x) → w9' x = w x) ∧ w9' m = some (.inl (15, zMo m G9 r)) ∧ (zKp G9 g))))) = Post
  show zP (d + 1) zq_X16_bracket 0 [(0, .ref m)] [] w sz 0 0 Post
  have k1 := zrng (g 12)
  have hz2 : ((g 12).toNatClampNeg : Int) = (g 12).toInt := znat (by first | omega | decide)
  have k3 := zrng (g 13)
  have hz4 : ((g 13).toNatClampNeg : Int) = (g 13).toInt := znat (by first | omega | decide)
  refine zp_seg (pc' := 1) (lv' := [(0, .ref m)]) (st' := [.ref m]) [(0, .aload_n 0)] (by decide +kernel) rfl ?_
  refine zr_callV (idx := 343) (j := 319) (by decide +kernel) (by decide +kernel) (show zMe 319 = some zq_X16_look from rfl) rfl rfl (Nat.le_of_ble_eq_true rfl) rfl rfl hm (Nat.le_of_ble_eq_true rfl) (Nat.le_of_ble_eq_true rfl) (c_X16_look (w := w) (g12 := (g 12)) (g13 := (g 13)) m hm hR_m (by first | omega | decide | assumption | exact zr1_1 | exact zr1_0 | fail "num") hA_m_80 (by first | omega | decide | assumption | exact zr1_1 | exact zr1_0 | fail "num") rfl rfl) (by omega) (fun v1 w1 hp1 => ?_)
  obtain ⟨A9_1, hsi1, heq1, hp1_0, hp1_1, r1, rfl, hr1⟩ := hp1
  have hM1 : w1 m = some (.inl (15, zMo m (zs g 13 A9_1) r)) := hp1_0
  have kr1 := zrng r1
  show zP _ _ _ _ [.int r1] _ _ _ _ _
  refine zp_seg (pc' := 6) (lv' := [(0, .ref m)]) (st' := [.int 40, .int r1]) [(4, .bipush 40)] (by decide +kernel) rfl ?_
  refine zp_if (i := .if_icmp .ne 12) (c := ¬ r1 = 40) (t := 18) (e := 9) (lv' := [(0, .ref m)]) (st' := []) (by decide +kernel) rfl (fun cc6 => ?_) (fun cc6 => ?_)
  ·
    have f6 := zneI cc6
    rw [show (40 : Int32).toInt = 40 from by decide] at f6
    refine zp_seg (pc' := 21) (lv' := [(0, .ref m)]) (st' := [.ref m, .int 1, .ref m]) [(18, .aload_n 0), (19, .iconst 1), (20, .aload_n 0)] (by decide +kernel) rfl ?_
    refine zr_get (idx := 334) (k := 13) (v := .int A9_1) (by decide +kernel) (by decide +kernel) hM1 rfl ?_
    have hb7 := hR_m.si hsi1
    refine zr_callV (idx := 346) (j := 318) (by decide +kernel) (by decide +kernel) (show zMe 318 = some zq_X16_fail from rfl) rfl rfl (Nat.le_of_ble_eq_true rfl) rfl rfl hM1 (Nat.le_of_ble_eq_true rfl) (Nat.le_of_ble_eq_true rfl) (c_X16_fail (w := w1) m 1 A9_1 hM1 hb7) (by omega) (fun v24 w24 hp24 => ?_)
    obtain ⟨hsi24, heq24, hp24_0, rfl⟩ := hp24
    have hM24 : w24 m = some (.inl (15, zMo m (zs (zs (zs g 9 1) 10 A9_1) 13 A9_1) r)) := hp24_0
    show zP _ _ _ _ [.ref (m + 79)] _ _ _ _ _
    have hb8 := hb7.si hsi24
    obtain ⟨fs9, hst9⟩ := hb8.stop
    refine zr_thr (by decide +kernel) hst9 ?_
    rw [← hPost]; exact ⟨rfl, Or.inr ⟨rfl, (zs (zs (zs g 9 1) 10 A9_1) 13 A9_1), (hsi1.tr hsi24), (fun x hx => ((heq24 x hx).trans (heq1 x hx))), hM24, (by
          first | exact hx9_1 | exact ⟨rfl, rfl, rfl, rfl⟩)⟩⟩
  ·
    replace cc6 := Classical.not_not.mp cc6
    have f10 := zeqI cc6
    rw [show (40 : Int32).toInt = 40 from by decide] at f10
    refine zp_seg (pc' := 10) (lv' := [(0, .ref m)]) (st' := [.ref m]) [(9, .aload_n 0)] (by decide +kernel) rfl ?_
    refine zr_get (idx := 359) (k := 14) (v := .int (g 14)) (by decide +kernel) (by decide +kernel) hM1 rfl ?_
    refine zp_seg (pc' := 15) (lv' := [(0, .ref m)]) (st' := [.int 20, .int (g 14)]) [(13, .bipush 20)] (by decide +kernel) rfl ?_
    refine zp_if (i := .if_icmp .ne 13) (c := ¬ (g 14) = 20) (t := 28) (e := 18) (lv' := [(0, .ref m)]) (st' := []) (by decide +kernel) rfl (fun cc15 => ?_) (fun cc15 => ?_)
    ·
      have k11 := zrng (g 14)
      have f13 := zneI cc15
      rw [show (20 : Int32).toInt = 20 from by decide] at f13
      have hcb : r1 = 40 := by first | exact cc6 | exact Classical.not_not.mp cc6
      obtain ⟨hq1, hq2⟩ := zChr_lt (hr1.symm.trans hcb) (by decide)
      have hzA := znat (x := A9_1) (by omega)
      have hd1 := hp1_1.2.2
      refine zp_seg (pc' := 30) (lv' := [(0, .ref m)]) (st' := [.ref m, .ref m]) [(28, .aload_n 0), (29, .dup)] (by decide +kernel) rfl ?_
      refine zr_get (idx := 359) (k := 14) (v := .int (g 14)) (by decide +kernel) (by decide +kernel) hM1 rfl ?_
      refine zp_seg (pc' := 35) (lv' := [(0, .ref m)]) (st' := [.int ((g 14) + 1), .ref m]) [(33, .iconst 1), (34, .iadd)] (by decide +kernel) rfl ?_
      have k14 := zaddC ((g 14)) 1 (n := 1) (by decide) (by omega) (by omega)
      generalize ev35 : ((g 14) + 1 : Int32) = v35 at k14 ⊢
      have kv35 := zrng v35
      refine zr_put2 (idx := 359) (k := 14) (fs2 := zMo m (zs (zs g 13 A9_1) 14 v35) r) (by decide +kernel) (by decide +kernel) hM1 (Nat.le_of_ble_eq_true rfl) rfl rfl rfl ?_
      show zP (d + 1) zq_X16_bracket 38 [(0, .ref m)] [] (zup w1 m (.inl (15, zMo m (zs (zs g 13 A9_1) 14 v35) r))) sz 0 0 Post
      obtain ⟨w35, ew35⟩ : ∃ wz9, wz9 = zup w1 m (.inl (15, zMo m (zs (zs g 13 A9_1) 14 v35) r)) := ⟨_, rfl⟩
      have hsi35 : zSI w1 w35 := by rw [ew35]; exact zSI.setG hM1 _ _
      have heq35 : ∀ x, x ≠ m → w35 x = w1 x := fun x hx => by rw [ew35]; exact zup_n hx
      have hc35 : w35 m = some (.inl (15, zMo m (zs (zs g 13 A9_1) 14 v35) r)) := by rw [ew35]; exact zup_s
      rw [← ew35]
      clear ew35
      refine zp_seg (pc' := 40) (lv' := [(0, .ref m)]) (st' := [.ref m, .ref m]) [(38, .aload_n 0), (39, .dup)] (by decide +kernel) rfl ?_
      refine zr_get (idx := 334) (k := 13) (v := .int A9_1) (by decide +kernel) (by decide +kernel) hc35 rfl ?_
      refine zp_seg (pc' := 45) (lv' := [(0, .ref m)]) (st' := [.int (A9_1 + 1), .ref m]) [(43, .iconst 1), (44, .iadd)] (by decide +kernel) rfl ?_
      have k15 := zrng A9_1
      have k16 := zaddC A9_1 1 (n := 1) (by decide) (by omega) (by omega)
      generalize ev45 : (A9_1 + 1 : Int32) = v45 at k16 ⊢
      have kv45 := zrng v45
      refine zr_put2 (idx := 334) (k := 13) (fs2 := zMo m (zs (zs g 13 v45) 14 v35) r) (by decide +kernel) (by decide +kernel) hc35 (Nat.le_of_ble_eq_true rfl) rfl rfl rfl ?_
      show zP (d + 1) zq_X16_bracket 48 [(0, .ref m)] [] (zup w35 m (.inl (15, zMo m (zs (zs g 13 v45) 14 v35) r))) sz 0 0 Post
      obtain ⟨w45, ew45⟩ : ∃ wz9, wz9 = zup w35 m (.inl (15, zMo m (zs (zs g 13 v45) 14 v35) r)) := ⟨_, rfl⟩
      have hsi45 : zSI w35 w45 := by rw [ew45]; exact zSI.setG hc35 _ _
      have heq45 : ∀ x, x ≠ m → w45 x = w35 x := fun x hx => by rw [ew45]; exact zup_n hx
      have hc45 : w45 m = some (.inl (15, zMo m (zs (zs g 13 v45) 14 v35) r)) := by rw [ew45]; exact zup_s
      rw [← ew45]
      clear ew45
      have hoffend : ∀ x, (x < m ∨ m + 1 ≤ x) → w45 x = w x := fun x hx => ((heq45 x (zx_X16_bracket_0 hx)).trans ((heq35 x (zx_X16_bracket_0 hx)).trans (heq1 x hx)))
      refine zr_retV (by decide +kernel) rfl ?_
      rw [← hPost]; exact ⟨rfl, Or.inl ⟨_, rfl, v45, v35, ((hsi1.tr hsi35).tr hsi45), hoffend, hc45, (by
            have hz9 := znat (x := v45) (by omega)
            have hq3 := zTq_open hq1 hq2 (by omega)
            refine ⟨⟨⟨by omega, by omega⟩, by omega, by omega⟩, ?_⟩
            rw [show (v45).toNatClampNeg = A9_1.toNatClampNeg + 1 by omega]
            exact ⟨hp1_1.2.1.tr hq3.1, by omega⟩), rfl⟩⟩
    ·
      replace cc15 := Classical.not_not.mp cc15
      have k17 := zrng (g 14)
      have f19 := zeqI cc15
      rw [show (20 : Int32).toInt = 20 from by decide] at f19
      refine zp_seg (pc' := 21) (lv' := [(0, .ref m)]) (st' := [.ref m, .int 1, .ref m]) [(18, .aload_n 0), (19, .iconst 1), (20, .aload_n 0)] (by decide +kernel) rfl ?_
      refine zr_get (idx := 334) (k := 13) (v := .int A9_1) (by decide +kernel) (by decide +kernel) hM1 rfl ?_
      have hb20 := hR_m.si hsi1
      refine zr_callV (idx := 346) (j := 318) (by decide +kernel) (by decide +kernel) (show zMe 318 = some zq_X16_fail from rfl) rfl rfl (Nat.le_of_ble_eq_true rfl) rfl rfl hM1 (Nat.le_of_ble_eq_true rfl) (Nat.le_of_ble_eq_true rfl) (c_X16_fail (w := w1) m 1 A9_1 hM1 hb20) (by omega) (fun v24 w24 hp24 => ?_)
      obtain ⟨hsi24, heq24, hp24_0, rfl⟩ := hp24
      have hM24 : w24 m = some (.inl (15, zMo m (zs (zs (zs g 9 1) 10 A9_1) 13 A9_1) r)) := hp24_0
      show zP _ _ _ _ [.ref (m + 79)] _ _ _ _ _
      have hb21 := hb20.si hsi24
      obtain ⟨fs9, hst9⟩ := hb21.stop
      refine zr_thr (by decide +kernel) hst9 ?_
      rw [← hPost]; exact ⟨rfl, Or.inr ⟨rfl, (zs (zs (zs g 9 1) 10 A9_1) 13 A9_1), (hsi1.tr hsi24), (fun x hx => ((heq24 x hx).trans (heq1 x hx))), hM24, (by
            first | exact hx9_1 | exact ⟨rfl, rfl, rfl, rfl⟩)⟩⟩
