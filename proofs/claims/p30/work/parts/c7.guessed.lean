theorem zx_X16_guessedG_0 {m x : Nat} (h0 : m + 83 ≤ x) (h1 : x < m + 83 + 9) : x < m ∨ m + 1 ≤ x := by omega
theorem zx_X16_guessedG_1 {m x : Nat} (h0 : m + 83 ≤ x) (h1 : x < m + 83 + 9) : x < m + 193 ∨ m + 193 + 1 ≤ x := by omega
theorem zx_X16_guessedG_2 {G1_0 m x : Nat} (h0 : m + 83 ≤ x) (h1 : x < m + 83 + 9) (h2 : G1_0 + 12 ≤ 160) : x < m + 276 + 2 * G1_0 ∨ m + 276 + 2 * G1_0 + (320 - 2 * G1_0) ≤ x := by omega
theorem zx_X16_guessedG_3 {m x : Nat} (h0 : m + 83 ≤ x) (h1 : x < m + 83 + 9) : x ≠ m := by omega
theorem zx_X16_guessedG_4 {m : Nat}  : m ≠ m + 83 := by omega
theorem zx_X16_guessedG_5 {m : Nat}  : (m + 83 + 1) < m ∨ m + 1 ≤ (m + 83 + 1) := by omega
theorem zx_X16_guessedG_6 {m : Nat}  : (m + 83 + 1) ≠ m + 83 := by omega
theorem zx_X16_guessedG_7 {m : Nat}  : (m + 83 + 2) < m ∨ m + 1 ≤ (m + 83 + 2) := by omega
theorem zx_X16_guessedG_8 {m : Nat}  : (m + 83 + 2) ≠ m + 83 := by omega
theorem zx_X16_guessedG_9 {m : Nat}  : (m + 83 + 3) < m ∨ m + 1 ≤ (m + 83 + 3) := by omega
theorem zx_X16_guessedG_10 {m : Nat}  : (m + 83 + 3) ≠ m + 83 := by omega
theorem zx_X16_guessedG_11 {m : Nat}  : (m + 83 + 4) < m ∨ m + 1 ≤ (m + 83 + 4) := by omega
theorem zx_X16_guessedG_12 {m : Nat}  : (m + 83 + 4) ≠ m + 83 := by omega
theorem zx_X16_guessedG_13 {m : Nat}  : (m + 83 + 5) < m ∨ m + 1 ≤ (m + 83 + 5) := by omega
theorem zx_X16_guessedG_14 {m : Nat}  : (m + 83 + 5) ≠ m + 83 := by omega
theorem zx_X16_guessedG_15 {m : Nat}  : (m + 83 + 6) < m ∨ m + 1 ≤ (m + 83 + 6) := by omega
theorem zx_X16_guessedG_16 {m : Nat}  : (m + 83 + 6) ≠ m + 83 := by omega
theorem zx_X16_guessedG_17 {m : Nat}  : (m + 83 + 7) ≠ m + 83 := by omega
theorem zx_X16_guessedG_18 {m : Nat}  : (m + 83 + 8) < m ∨ m + 1 ≤ (m + 83 + 8) := by omega
theorem zx_X16_guessedG_19 {m : Nat}  : (m + 83 + 8) ≠ m + 83 := by omega
theorem zx_X16_guessedG_20 {m x : Nat} (h0 : x < m ∨ m + 1 ≤ x) : x ≠ m := by omega
theorem zx_X16_guessedG_21 {m x : Nat} (h0 : x < m + 83 ∨ m + 83 + 9 ≤ x) : x ≠ m + 83 := by omega
theorem zx_X16_guessedG_22 {m : Nat}  : (m + 83) < m + 83 + 8 ∨ m + 83 + 8 + 1 ≤ (m + 83) := by omega
theorem zx_X16_guessedG_23 {m : Nat}  : (m + 83) ≠ m := by omega
theorem zx_X16_guessedG_24 {m : Nat}  : (m + 83 + 1) < m + 83 + 8 ∨ m + 83 + 8 + 1 ≤ (m + 83 + 1) := by omega
theorem zx_X16_guessedG_25 {m : Nat}  : (m + 83 + 1) ≠ m := by omega
theorem zx_X16_guessedG_26 {m : Nat}  : (m + 83 + 2) < m + 83 + 8 ∨ m + 83 + 8 + 1 ≤ (m + 83 + 2) := by omega
theorem zx_X16_guessedG_27 {m : Nat}  : (m + 83 + 2) ≠ m := by omega
theorem zx_X16_guessedG_28 {m : Nat}  : (m + 83 + 3) < m + 83 + 8 ∨ m + 83 + 8 + 1 ≤ (m + 83 + 3) := by omega
theorem zx_X16_guessedG_29 {m : Nat}  : (m + 83 + 3) ≠ m := by omega
theorem zx_X16_guessedG_30 {m : Nat}  : (m + 83 + 4) < m + 83 + 8 ∨ m + 83 + 8 + 1 ≤ (m + 83 + 4) := by omega
theorem zx_X16_guessedG_31 {m : Nat}  : (m + 83 + 4) ≠ m := by omega
theorem zx_X16_guessedG_32 {m : Nat}  : (m + 83 + 5) < m + 83 + 8 ∨ m + 83 + 8 + 1 ≤ (m + 83 + 5) := by omega
theorem zx_X16_guessedG_33 {m : Nat}  : (m + 83 + 5) ≠ m := by omega
theorem zx_X16_guessedG_34 {m : Nat}  : (m + 83 + 6) < m + 83 + 8 ∨ m + 83 + 8 + 1 ≤ (m + 83 + 6) := by omega
theorem zx_X16_guessedG_35 {m : Nat}  : (m + 83 + 6) ≠ m := by omega
theorem zx_X16_guessedG_36 {m : Nat}  : (m + 83 + 7) < m + 83 + 8 ∨ m + 83 + 8 + 1 ≤ (m + 83 + 7) := by omega
theorem zx_X16_guessedG_37 {m : Nat}  : (m + 83 + 7) ≠ m := by omega
theorem zx_X16_guessedG_38 {m : Nat}  : m < m + 83 + 8 ∨ m + 83 + 8 + 1 ≤ m := by omega
theorem zx_X16_guessedG_39 {m x : Nat} (h0 : x < m + 83 ∨ m + 83 + 9 ≤ x) : x < m + 83 + 8 ∨ m + 83 + 8 + 1 ≤ x := by omega
theorem zx_X16_guessedG_40 {m : Nat}  : (m + 94) < m ∨ m + 1 ≤ (m + 94) := by omega
theorem zx_X16_guessedG_41 {m : Nat}  : (m + 94) < m + 193 ∨ m + 193 + 1 ≤ (m + 94) := by omega
theorem zx_X16_guessedG_42 {G1_0 m : Nat} (h0 : G1_0 + 12 ≤ 160) : (m + 94) < m + 276 + 2 * G1_0 ∨ m + 276 + 2 * G1_0 + (320 - 2 * G1_0) ≤ (m + 94) := by omega
theorem zx_X16_guessedG_43 {m : Nat}  : (m + 94) ≠ m := by omega
theorem zx_X16_guessedG_44 {m : Nat}  : (m + 94) ≠ m + 83 := by omega
theorem zx_X16_guessedG_45 {m : Nat}  : (m + 94) < m + 83 + 8 ∨ m + 83 + 8 + 1 ≤ (m + 94) := by omega
theorem zx_X16_guessedG_46 {m x : Nat} (h0 : x < m + 83 + 8 ∨ m + 83 + 8 + 1 ≤ x) : x ≠ m + 83 + 8 := by omega
theorem zx_X16_guessedG_47 {m : Nat}  : m ≠ m + 83 + 8 := by omega
theorem zx_X16_guessedG_48 {m : Nat}  : (m + 193) < m ∨ m + 1 ≤ (m + 193) := by omega
theorem zx_X16_guessedG_49 {m : Nat}  : m ≠ m + 193 := by omega
theorem zx_X16_guessedG_50 {m x : Nat} (h0 : x < m + 193 ∨ m + 193 + 1 ≤ x) : x ≠ m + 193 := by omega
theorem zx_X16_guessedG_51 {m : Nat}  : (m + 273) < m ∨ m + 1 ≤ (m + 273) := by omega
theorem zx_X16_guessedG_52 {m : Nat}  : (m + 273) < m + 193 ∨ m + 193 + 1 ≤ (m + 273) := by omega
theorem zx_X16_guessedG_53 {G1_0 m : Nat} (h0 : G1_0 + 12 ≤ 160) : (m + 273) < m + 276 + 2 * G1_0 ∨ m + 276 + 2 * G1_0 + (320 - 2 * G1_0) ≤ (m + 273) := by omega
theorem zx_X16_guessedG_54 {m : Nat}  : (m + 273) ≠ m := by omega
theorem zx_X16_guessedG_55 {m : Nat}  : (m + 273) ≠ m + 193 := by omega
set_option maxHeartbeats 8000000 in
set_option maxRecDepth 100000 in
theorem c_X16_guessedG {w : zM} {g : Nat → Int32} {r : Nat → Value} {k9 : Int32} {ff fu : Nat → Int32} {g1 : Int32} {g29 : Int32} (m : Nat) (r9 : Int32) (d9 : Int32) (to : Int32) (hm : w m = some (.inl (15, zMo m g r))) (hR_m : zR m w) (hTm_m_83 : zTm w (m + 83)) (hTi_m_7486_9_to_toNatClampNeg : zTi w (m + 7486 + 9 * to.toNatClampNeg) k9) (hA_m_94 : w (m + 94) = some (.inr (0, 60, .inl ff))) (hA_m_273 : w (m + 273) = some (.inr (0, 46, .inl fu))) (hut : 0 ≤ g1.toInt ∧ g1.toInt + 12 ≤ 160) (hff : ∀ i, i < 60 → zr1 (ff i)) (hfu : ∀ i, i < ((r9.toInt + 1) * (d9.toInt + 1)).toNat → zr1 (fu i)) (hrd : 1 ≤ r9.toInt ∧ r9.toInt ≤ 4 ∧ 0 ≤ d9.toInt ∧ d9.toInt ≤ 8) (hco : (r9.toInt + 1) * (d9.toInt + 1) ≤ 46 ∧ g29.toInt ≤ 60) (hto : 0 ≤ to.toInt ∧ to.toInt < 12) (hg1 : g 1 = g1) (hg29 : g 29 = g29) : zCon 6 zq_X16_guessed [.ref m, .int r9, .int d9, .int to] w (fun v9 w9' => ∃ X9 : Int32, ∃ L9 : Int32, zSI w w9' ∧ (∀ x, (x < m ∨ m + 1 ≤ x) ∧ (x < m + 83 ∨ m + 83 + 9 ≤ x) ∧ (x < m + 193 ∨ m + 193 + 1 ≤ x) ∧ (x < m + 7486 + 9 * to.toNatClampNeg ∨ m + 7486 + 9 * to.toNatClampNeg + 9 ≤ x) ∧ (x < m + 276 + 2 * g1.toNatClampNeg ∨ m + 276 + 2 * g1.toNatClampNeg + (320 - 2 * g1.toNatClampNeg) ≤ x) → w9' x = w x) ∧ w9' m = some (.inl (15, zMo m (zs g 1 X9) r)) ∧ zTm w9' (m + 83) ∧ zTi w9' (m + 7486 + 9 * to.toNatClampNeg) L9 ∧ ∃ r9 : Int32, v9 = some (.int r9) ∧ True) := by
  subst hg1
  subst hg29
  intro d sz hd
  obtain ⟨d, rfl⟩ : ∃ d9, d = d9 + 1 := ⟨d - 1, by omega⟩
  generalize hPost : (fun (r9' : Option (Option Value)) (w9' : zM) (z9 : Nat) => z9 = sz ∧ ∃ v9, r9' = some v9 ∧ (∃ X9 : Int32, ∃ L9 : Int32, zSI w w9' ∧ (∀ x, (x < m ∨ m + 1 ≤ x) ∧ (x < m + 83 ∨ m + 83 + 9 ≤ x) ∧ (x < m + 193 ∨ m + 193 + 1 ≤ x) ∧ (x < m + 7486 + 9 * to.toNatClampNeg ∨ m + 7486 + 9 * to.toNatClampNeg + 9 ≤ x) ∧ (x < m + 276 + 2 * (g 1).toNatClampNeg ∨ m + 276 + 2 * (g 1).toNatClampNeg + (320 - 2 * (g 1).toNatClampNeg) ≤ x) → w9' x = w x) ∧ w9' m = some (.inl (15, zMo m (zs g 1 X9) r)) ∧ zTm w9' (m + 83) ∧ zTi w9' (m + 7486 + 9 * to.toNatClampNeg) L9 ∧ ∃ r9 : Int32, v9 = some (.int r9) ∧ True)) = Post
  show zP (d + 1) zq_X16_guessed 0 [(0, .ref m), (1, .int r9), (2, .int d9), (3, .int to)] [] w sz 0 0 Post
  have k1 := zrng r9
  have k2 := zrng d9
  have k3 := zrng to
  have k4 := zrng (g 1)
  have hz5 : ((g 1).toNatClampNeg : Int) = (g 1).toInt := znat (by first | omega | decide)
  have hgb1 : (g 1).toNatClampNeg + 12 ≤ 160 := by omega
  have hz6 : (r9.toNatClampNeg : Int) = r9.toInt := znat (by first | omega | decide)
  have hz7 : (d9.toNatClampNeg : Int) = d9.toInt := znat (by first | omega | decide)
  have hz8 : (to.toNatClampNeg : Int) = to.toInt := znat (by first | omega | decide)
  refine zp_seg (pc' := 3) (lv' := [(4, .int 0), (0, .ref m), (1, .int r9), (2, .int d9), (3, .int to)]) (st' := []) [(0, .iconst 0), (1, .istore 4)] (by decide +kernel) rfl ?_
  have hL3 : ∀ (mm3 : Nat) (wL3 : zM) (y4_3 : Int32) (xT : Int32) (fw : Nat → Option Nat) (Pg : Nat → zA1), (zSI w wL3) → (∀ x, ((x < m ∨ m + 1 ≤ x) ∧ (x < m + 193 ∨ m + 193 + 1 ≤ x) ∧ (x < m + 276 + 2 * (g 1).toNatClampNeg ∨ m + 276 + 2 * (g 1).toNatClampNeg + (320 - 2 * (g 1).toNatClampNeg) ≤ x)) ∧ x ≠ m → wL3 x = w x) → (0 ≤ y4_3.toInt) → (y4_3.toInt ≤ r9.toInt + 1) → (wL3 m = some (.inl (15, zMo m (zs g 1 xT) r))) → (wL3 (m + 193) = some (.inr (4, 8, .inr fw))) → (xT.toInt = (g 1).toInt + y4_3.toInt) → (∀ t, t < y4_3.toNatClampNeg → fw t = some (m + 276 + 2 * (g 1).toNatClampNeg + 2 * t)) → (∀ t, t < y4_3.toNatClampNeg → zU wL3 (m + 276 + 2 * (g 1).toNatClampNeg + 2 * t) 1000 (Pg t) ∧ zln (Pg t) ≤ 9) → (20 - y4_3.toInt).toNat < mm3 → zP (d + 1) zq_X16_guessed 3 [(0, .ref m), (1, .int r9), (2, .int d9), (3, .int to), (4, .int y4_3)] [] wL3 sz 0 0 Post := by
    intro mm3
    induction mm3 with
    | zero => intros; omega
    | succ mm3 ih3 =>
    intro wL3 y4_3 xT fw Pg hsiL3 heqL3 hi3_0 hi3_1 hxM hV9 hxT hfw hPg hmu3
    have ky4_3 := zrng y4_3
    have hz9 : (y4_3.toNatClampNeg : Int) = y4_3.toInt := znat (by first | omega | decide)
    refine zp_seg (pc' := 6) (lv' := [(0, .ref m), (1, .int r9), (2, .int d9), (3, .int to), (4, .int y4_3)]) (st' := [.int r9, .int y4_3]) [(3, .iload 4), (5, .iload_n 1)] (by decide +kernel) rfl ?_
    refine zp_if (i := .if_icmp .gt 85) (c := r9 < y4_3) (t := 91) (e := 9) (lv' := [(0, .ref m), (1, .int r9), (2, .int d9), (3, .int to), (4, .int y4_3)]) (st' := []) (by decide +kernel) rfl (fun cc6 => ?_) (fun cc6 => ?_)
    ·
      have f10 := zltI cc6
      refine zp_seg (pc' := 92) (lv' := [(0, .ref m), (1, .int r9), (2, .int d9), (3, .int to), (4, .int y4_3)]) (st' := [.ref m]) [(91, .aload_n 0)] (by decide +kernel) rfl ?_
      refine zr_get (idx := 517) (k := 55) (v := .ref (m + 193)) (by decide +kernel) (by decide +kernel) hxM rfl ?_
      refine zp_seg (pc' := 96) (lv' := [(0, .ref m), (1, .int r9), (2, .int d9), (3, .int to), (4, .int y4_3)]) (st' := [.int r9, .ref (m + 193)]) [(95, .iload_n 1)] (by decide +kernel) rfl ?_
      refine zr_aald (v := .ref (m + 276 + 2 * (g 1).toNatClampNeg + 2 * r9.toNatClampNeg)) (by decide +kernel) hV9 (by decide) (zin (by first | omega | decide) (by first | omega | decide)) (by rw [hfw r9.toNatClampNeg (by omega)]; rfl) ?_
      have hUr9 := (hPg r9.toNatClampNeg (by omega)).1.ag (w' := wL3) (fun x g1 g2 => rfl)
      obtain ⟨n11, f12, hu13, hu14, hu15, hu16, hu17⟩ := id hUr9
      have kn11 := zrng n11
      have hnr9 := hu15
      refine zr_get (idx := 25) (k := 1) (v := .int n11) (by decide +kernel) (by decide +kernel) hu13 rfl ?_
      refine zp_if (i := .ifCond .ne 5) (c := ¬ n11 = 0) (t := 105) (e := 103) (lv' := [(0, .ref m), (1, .int r9), (2, .int d9), (3, .int to), (4, .int y4_3)]) (st' := []) (by decide +kernel) rfl (fun cc100 => ?_) (fun cc100 => ?_)
      ·
        have f19 := zneI cc100
        rw [show (0 : Int32).toInt = 0 from by decide] at f19
        have hb20 : zTm wL3 (m + 83) := hTm_m_83.ag (fun x hx1 hx2 => (heqL3 x ⟨⟨(zx_X16_guessedG_0 hx1 hx2), (zx_X16_guessedG_1 hx1 hx2), (zx_X16_guessedG_2 hx1 hx2 hgb1)⟩, (zx_X16_guessedG_3 hx1 hx2)⟩))
        obtain ⟨g1, fn1, fd1, fa1, fb1, fc1, fe1, fr1, fu1, hT1, hAn1, hAd1, hAa1, hAb1, hAc1, hAe1, hAr1, hAu1, hKn1, hKd1, hKr1, hKu1⟩ := id hb20
        have hzr9 : 0 < zln (Pg r9.toNatClampNeg) := by omega
        refine zp_seg (pc' := 107) (lv' := [(0, .ref m), (1, .int r9), (2, .int d9), (3, .int to), (4, .int y4_3)]) (st' := [.ref m, .ref m]) [(105, .aload_n 0), (106, .aload_n 0)] (by decide +kernel) rfl ?_
        refine zr_get (idx := 517) (k := 55) (v := .ref (m + 193)) (by decide +kernel) (by decide +kernel) hxM rfl ?_
        refine zp_seg (pc' := 111) (lv' := [(0, .ref m), (1, .int r9), (2, .int d9), (3, .int to), (4, .int y4_3)]) (st' := [.int r9, .ref (m + 193), .ref m]) [(110, .iload_n 1)] (by decide +kernel) rfl ?_
        have k21 := zrng xT
        have hz22 : (xT.toNatClampNeg : Int) = xT.toInt := znat (by first | omega | decide)
        have hb23 := hR_m.si hsiL3
        refine zr_callV (idx := 777) (j := 403) (by decide +kernel) (by decide +kernel) (show zMe 403 = some zq_X16_makeRow from rfl) rfl rfl (Nat.le_of_ble_eq_true rfl) rfl rfl hxM (Nat.le_of_ble_eq_true rfl) (Nat.le_of_ble_eq_true rfl) (c_X16_makeRow (w := wL3) (g1 := xT) m (m + 193) r9 (m + 276 + 2 * (g 1).toNatClampNeg) Pg hxM hb23 hV9 hT1 hAr1 (by first | omega | decide | assumption | exact zr1_1 | exact zr1_0 | fail "num") (by first | omega | decide | assumption | exact zr1_1 | exact zr1_0 | fail "num") (by exact fun j hj => hfw j (by omega)) (by first | omega | decide | assumption | exact zr1_1 | exact zr1_0 | fail "num") (by exact fun j hj => (hPg j (by omega)).1.ag (fun x g1 g2 => rfl)) (by exact hzr9) (by first | omega | decide | assumption | exact zr1_1 | exact zr1_0 | fail "num") (by exact hKr1) rfl) (by omega) (fun v111 w111 hp111 => ?_)
        obtain ⟨F9_111, X9_111, hsi111, heq111, hp111_0, hp111_1, hp111_2, hp111_3, r111, rfl, hrb111, hr111⟩ := hp111
        have hM111 : w111 m = some (.inl (15, zMo m (zs g 1 X9_111) r)) := hp111_0
        have hT111 : w111 (m + 83) = some (.inl (13, zTo (m + 83) (zs (zs (zs (zs (zs (zs g1 0 4) 3 1) 4 1) 5 0) 10 r9) 13 0))) := hp111_1
        have kr111 := zrng r111
        show zP _ _ _ _ [.int r111] _ _ _ _ _
        have hgd9 := hr111.1 (hr111.2 (fun j hj => by have := (hPg j (by omega)).2; omega))
        refine zp_seg (pc' := 117) (lv' := [(4, .int r111), (0, .ref m), (1, .int r9), (2, .int d9), (3, .int to)]) (st' := [.ref m]) [(114, .istore 4), (116, .aload_n 0)] (by decide +kernel) rfl ?_
        refine zr_get (idx := 453) (k := 21) (v := .ref (m + 83)) (by decide +kernel) (by decide +kernel) hM111 rfl ?_
        refine zp_seg (pc' := 121) (lv' := [(4, .int r111), (0, .ref m), (1, .int r9), (2, .int d9), (3, .int to)]) (st' := [.ref m, .ref (m + 83)]) [(120, .aload_n 0)] (by decide +kernel) rfl ?_
        refine zr_get (idx := 453) (k := 21) (v := .ref (m + 83)) (by decide +kernel) (by decide +kernel) hM111 rfl ?_
        refine zr_get (idx := 237) (k := 11) (v := .ref (m + 83 + 7)) (by decide +kernel) (by decide +kernel) hT111 rfl ?_
        refine zp_seg (pc' := 129) (lv' := [(4, .int r111), (0, .ref m), (1, .int r9), (2, .int d9), (3, .int to)]) (st' := [.int 0, .int r9, .ref (m + 83 + 7), .ref (m + 83)]) [(127, .iload_n 1), (128, .iconst 0)] (by decide +kernel) rfl ?_
        refine zr_callS (idx := 781) (j := 402) (by decide +kernel) (by decide +kernel) (by decide) (show zMe 402 = some zq_X16_needsOf from rfl) rfl rfl (Nat.le_of_ble_eq_true rfl) rfl rfl (Nat.le_of_ble_eq_true rfl) (Nat.le_of_ble_eq_true rfl) (c_X16_needsOf (w := w111) (m + 83 + 7) r9 0 hp111_2 (by exact hp111_3) (by first | omega | decide | assumption | exact zr1_1 | exact zr1_0 | fail "num")) (by omega) (fun v129 w129 hp129 => ?_)
        obtain ⟨hpw129, r129, rfl, hr129⟩ := hp129
        replace hpw129 := hpw129.symm
        subst hpw129
        have kr129 := zrng r129
        show zP _ _ _ _ [.int r129, .ref (m + 83)] _ _ _ _ _
        refine zr_put2 (idx := 240) (k := 12) (fs2 := zTo (m + 83) (zs (zs (zs (zs (zs (zs (zs g1 0 4) 3 1) 4 1) 5 0) 10 r9) 12 r129) 13 0)) (by decide +kernel) (by decide +kernel) hT111 (Nat.le_of_ble_eq_true rfl) rfl rfl rfl ?_
        show zP (d + 1) zq_X16_guessed 135 [(4, .int r111), (0, .ref m), (1, .int r9), (2, .int d9), (3, .int to)] [] (zup w111 (m + 83) (.inl (13, zTo (m + 83) (zs (zs (zs (zs (zs (zs (zs g1 0 4) 3 1) 4 1) 5 0) 10 r9) 12 r129) 13 0)))) sz 0 0 Post
        obtain ⟨w132, ew132⟩ : ∃ wz9, wz9 = zup w111 (m + 83) (.inl (13, zTo (m + 83) (zs (zs (zs (zs (zs (zs (zs g1 0 4) 3 1) 4 1) 5 0) 10 r9) 12 r129) 13 0))) := ⟨_, rfl⟩
        have hsi132 : zSI w111 w132 := by rw [ew132]; exact zSI.setT hT111 _
        have heq132 : ∀ x, x ≠ m + 83 → w132 x = w111 x := fun x hx => by rw [ew132]; exact zup_n hx
        have hc132 : w132 (m + 83) = some (.inl (13, zTo (m + 83) (zs (zs (zs (zs (zs (zs (zs g1 0 4) 3 1) 4 1) 5 0) 10 r9) 12 r129) 13 0))) := by rw [ew132]; exact zup_s
        rw [← ew132]
        clear ew132
        refine zp_seg (pc' := 136) (lv' := [(4, .int r111), (0, .ref m), (1, .int r9), (2, .int d9), (3, .int to)]) (st' := [.ref m]) [(135, .aload_n 0)] (by decide +kernel) rfl ?_
        have hb24 : w132 m = some (.inl (15, zMo m (zs g 1 X9_111) r)) := (heq132 m (zx_X16_guessedG_4)).trans hM111
        refine zr_get (idx := 453) (k := 21) (v := .ref (m + 83)) (by decide +kernel) (by decide +kernel) hb24 rfl ?_
        refine zr_get (idx := 240) (k := 12) (v := .int r129) (by decide +kernel) (by decide +kernel) hc132 rfl ?_
        refine zp_seg (pc' := 144) (lv' := [(4, .int r111), (0, .ref m), (1, .int r9), (2, .int d9), (3, .int to)]) (st' := [.int 60, .int r129]) [(142, .bipush 60)] (by decide +kernel) rfl ?_
        refine zp_if (i := .if_icmp .gt 17) (c := 60 < r129) (t := 161) (e := 147) (lv' := [(4, .int r111), (0, .ref m), (1, .int r9), (2, .int d9), (3, .int to)]) (st' := []) (by decide +kernel) rfl (fun cc144 => ?_) (fun cc144 => ?_)
        ·
          have f26 := zltI cc144
          rw [show (60 : Int32).toInt = 60 from by decide] at f26
          have hb27 : w132 (m + 83 + 1) = some (.inr (0, 325, .inl fn1)) := ((heq132 (m + 83 + 1) (zx_X16_guessedG_6)).trans (heq111 (m + 83 + 1) (by omega))).trans hAn1
          have hb28 : w132 (m + 83 + 2) = some (.inr (0, 325, .inl fd1)) := ((heq132 (m + 83 + 2) (zx_X16_guessedG_8)).trans (heq111 (m + 83 + 2) (by omega))).trans hAd1
          have hb29 : w132 (m + 83 + 3) = some (.inr (0, 13, .inl fa1)) := ((heq132 (m + 83 + 3) (zx_X16_guessedG_10)).trans (heq111 (m + 83 + 3) (by omega))).trans hAa1
          have hb30 : w132 (m + 83 + 4) = some (.inr (0, 13, .inl fb1)) := ((heq132 (m + 83 + 4) (zx_X16_guessedG_12)).trans (heq111 (m + 83 + 4) (by omega))).trans hAb1
          have hb31 : w132 (m + 83 + 5) = some (.inr (0, 13, .inl fc1)) := ((heq132 (m + 83 + 5) (zx_X16_guessedG_14)).trans (heq111 (m + 83 + 5) (by omega))).trans hAc1
          have hb32 : w132 (m + 83 + 6) = some (.inr (0, 13, .inl fe1)) := ((heq132 (m + 83 + 6) (zx_X16_guessedG_16)).trans (heq111 (m + 83 + 6) (by omega))).trans hAe1
          have hb33 : w132 (m + 83 + 7) = some (.inr (0, 175, .inl F9_111)) := (heq132 (m + 83 + 7) (zx_X16_guessedG_17)).trans hp111_2
          have hb34 : w132 (m + 83 + 8) = some (.inr (0, 361, .inl fu1)) := ((heq132 (m + 83 + 8) (zx_X16_guessedG_19)).trans (heq111 (m + 83 + 8) (by omega))).trans hAu1
          have hTm8 : zTm w132 (m + 83) := ⟨_, _, _, _, _, _, _, _, _, hc132, hb27, hb28, hb29, hb30, hb31, hb32, hb33, hb34, hKn1, hKd1, hp111_3, hKu1⟩
          refine zp_seg (pc' := 162) (lv' := [(4, .int r111), (0, .ref m), (1, .int r9), (2, .int d9), (3, .int to)]) (st' := [.int (Int32.ofInt (-1))]) [(161, .iconst (-1))] (by decide +kernel) rfl ?_
          have hoffend : ∀ x, (x < m ∨ m + 1 ≤ x) ∧ (x < m + 83 ∨ m + 83 + 9 ≤ x) ∧ (x < m + 193 ∨ m + 193 + 1 ≤ x) ∧ (x < m + 7486 + 9 * to.toNatClampNeg ∨ m + 7486 + 9 * to.toNatClampNeg + 9 ≤ x) ∧ (x < m + 276 + 2 * (g 1).toNatClampNeg ∨ m + 276 + 2 * (g 1).toNatClampNeg + (320 - 2 * (g 1).toNatClampNeg) ≤ x) → w132 x = w x := fun x hx => ((heq132 x (zx_X16_guessedG_21 hx.2.1)).trans ((heq111 x (by omega)).trans (heqL3 x ⟨⟨hx.1, hx.2.2.1, hx.2.2.2.2⟩, (zx_X16_guessedG_20 hx.1)⟩)))
          have hb35 : zTi w132 (m + 7486 + 9 * to.toNatClampNeg) k9 := hTi_m_7486_9_to_toNatClampNeg.ag (fun x hx1 hx2 => ((heq132 x (by omega)).trans ((heq111 x (by omega)).trans (heqL3 x (by omega)))))
          refine zr_retI (by decide +kernel) rfl ?_
          rw [← hPost]; exact ⟨rfl, _, rfl, X9_111, k9, ((hsiL3.tr hsi111).tr hsi132), hoffend, hb24, hTm8, (by first | exact hb35 | (have z9 := hb35; simpa using z9)), _, rfl, trivial⟩
        ·
          have f38 := znltI cc144
          rw [show (60 : Int32).toInt = 60 from by decide] at f38
          refine zp_seg (pc' := 148) (lv' := [(4, .int r111), (0, .ref m), (1, .int r9), (2, .int d9), (3, .int to)]) (st' := [.ref m]) [(147, .aload_n 0)] (by decide +kernel) rfl ?_
          refine zr_get (idx := 453) (k := 21) (v := .ref (m + 83)) (by decide +kernel) (by decide +kernel) hb24 rfl ?_
          refine zr_get (idx := 240) (k := 12) (v := .int r129) (by decide +kernel) (by decide +kernel) hc132 rfl ?_
          refine zp_seg (pc' := 155) (lv' := [(4, .int r111), (0, .ref m), (1, .int r9), (2, .int d9), (3, .int to)]) (st' := [.ref m, .int r129]) [(154, .aload_n 0)] (by decide +kernel) rfl ?_
          refine zr_get (idx := 607) (k := 29) (v := .int (g 29)) (by decide +kernel) (by decide +kernel) hb24 rfl ?_
          refine zp_if (i := .if_icmp .le 5) (c := r129 ≤ (g 29)) (t := 163) (e := 161) (lv' := [(4, .int r111), (0, .ref m), (1, .int r9), (2, .int d9), (3, .int to)]) (st' := []) (by decide +kernel) rfl (fun cc158 => ?_) (fun cc158 => ?_)
          ·
            have k39 := zrng (g 29)
            have f40 := zleI cc158
            refine zp_seg (pc' := 166) (lv' := [(5, .int 0), (4, .int r111), (0, .ref m), (1, .int r9), (2, .int d9), (3, .int to)]) (st' := []) [(163, .iconst 0), (164, .istore 5)] (by decide +kernel) rfl ?_
            have hL166 : ∀ (mm166 : Nat) (wL166 : zM) (y5_166 : Int32) (uq : Nat → Int32), (zSI w132 wL166) → (∀ x, ((x < m + 83 + 8 ∨ m + 83 + 8 + 1 ≤ x)) ∧ x ≠ m → wL166 x = w132 x) → (0 ≤ y5_166.toInt) → (y5_166.toInt ≤ r129.toInt) → (wL166 (m + 83 + 8) = some (.inr (0, 361, .inl uq))) → (wL166 m = some (.inl (15, zMo m (zs g 1 X9_111) r))) → (∀ i, i < 361 → zr1 (uq i)) → (70 - y5_166.toInt).toNat < mm166 → zP (d + 1) zq_X16_guessed 166 [(0, .ref m), (1, .int r9), (3, .int to), (5, .int y5_166)] [] wL166 sz 0 0 Post := by
              intro mm166
              induction mm166 with
              | zero => intros; omega
              | succ mm166 ih166 =>
              intro wL166 y5_166 uq hsiL166 heqL166 hi166_0 hi166_1 hAu hmL166 huq hmu166
              have ky5_166 := zrng y5_166
              have hz41 : (y5_166.toNatClampNeg : Int) = y5_166.toInt := znat (by first | omega | decide)
              refine zp_seg (pc' := 169) (lv' := [(0, .ref m), (1, .int r9), (3, .int to), (5, .int y5_166)]) (st' := [.ref m, .int y5_166]) [(166, .iload 5), (168, .aload_n 0)] (by decide +kernel) rfl ?_
              refine zr_get (idx := 453) (k := 21) (v := .ref (m + 83)) (by decide +kernel) (by decide +kernel) hmL166 rfl ?_
              have hb42 : wL166 (m + 83) = some (.inl (13, zTo (m + 83) (zs (zs (zs (zs (zs (zs (zs g1 0 4) 3 1) 4 1) 5 0) 10 r9) 12 r129) 13 0))) := (heqL166 (m + 83) ⟨(zx_X16_guessedG_22), (zx_X16_guessedG_23)⟩).trans hc132
              refine zr_get (idx := 240) (k := 12) (v := .int r129) (by decide +kernel) (by decide +kernel) hb42 rfl ?_
              refine zp_if (i := .if_icmp .ge 26) (c := r129 ≤ y5_166) (t := 201) (e := 178) (lv' := [(0, .ref m), (1, .int r9), (3, .int to), (5, .int y5_166)]) (st' := []) (by decide +kernel) rfl (fun cc175 => ?_) (fun cc175 => ?_)
              ·
                have f43 := zleI cc175
                refine zp_seg (pc' := 202) (lv' := [(0, .ref m), (1, .int r9), (3, .int to), (5, .int y5_166)]) (st' := [.ref m]) [(201, .aload_n 0)] (by decide +kernel) rfl ?_
                refine zr_get (idx := 453) (k := 21) (v := .ref (m + 83)) (by decide +kernel) (by decide +kernel) hmL166 rfl ?_
                refine zp_seg (pc' := 206) (lv' := [(0, .ref m), (1, .int r9), (3, .int to), (5, .int y5_166)]) (st' := [.ref m, .ref (m + 83)]) [(205, .aload_n 0)] (by decide +kernel) rfl ?_
                refine zr_get (idx := 453) (k := 21) (v := .ref (m + 83)) (by decide +kernel) (by decide +kernel) hmL166 rfl ?_
                refine zr_get (idx := 240) (k := 12) (v := .int r129) (by decide +kernel) (by decide +kernel) hb42 rfl ?_
                refine zr_put2 (idx := 243) (k := 13) (fs2 := zTo (m + 83) (zs (zs (zs (zs (zs (zs (zs g1 0 4) 3 1) 4 1) 5 0) 10 r9) 12 r129) 13 r129)) (by decide +kernel) (by decide +kernel) hb42 (Nat.le_of_ble_eq_true rfl) rfl rfl rfl ?_
                show zP (d + 1) zq_X16_guessed 215 [(0, .ref m), (1, .int r9), (3, .int to), (5, .int y5_166)] [] (zup wL166 (m + 83) (.inl (13, zTo (m + 83) (zs (zs (zs (zs (zs (zs (zs g1 0 4) 3 1) 4 1) 5 0) 10 r9) 12 r129) 13 r129)))) sz 0 0 Post
                obtain ⟨w212, ew212⟩ : ∃ wz9, wz9 = zup wL166 (m + 83) (.inl (13, zTo (m + 83) (zs (zs (zs (zs (zs (zs (zs g1 0 4) 3 1) 4 1) 5 0) 10 r9) 12 r129) 13 r129))) := ⟨_, rfl⟩
                have hsi212 : zSI wL166 w212 := by rw [ew212]; exact zSI.setT hb42 _
                have heq212 : ∀ x, x ≠ m + 83 → w212 x = wL166 x := fun x hx => by rw [ew212]; exact zup_n hx
                have hc212 : w212 (m + 83) = some (.inl (13, zTo (m + 83) (zs (zs (zs (zs (zs (zs (zs g1 0 4) 3 1) 4 1) 5 0) 10 r9) 12 r129) 13 r129))) := by rw [ew212]; exact zup_s
                rw [← ew212]
                clear ew212
                refine zp_seg (pc' := 216) (lv' := [(0, .ref m), (1, .int r9), (3, .int to), (5, .int y5_166)]) (st' := [.ref m]) [(215, .aload_n 0)] (by decide +kernel) rfl ?_
                have hb44 : w212 (m + 83 + 1) = some (.inr (0, 325, .inl fn1)) := ((heq212 (m + 83 + 1) (zx_X16_guessedG_6)).trans ((heqL166 (m + 83 + 1) ⟨(zx_X16_guessedG_24), (zx_X16_guessedG_25)⟩).trans ((heq132 (m + 83 + 1) (zx_X16_guessedG_6)).trans (heq111 (m + 83 + 1) (by omega))))).trans hAn1
                have hb45 : w212 (m + 83 + 2) = some (.inr (0, 325, .inl fd1)) := ((heq212 (m + 83 + 2) (zx_X16_guessedG_8)).trans ((heqL166 (m + 83 + 2) ⟨(zx_X16_guessedG_26), (zx_X16_guessedG_27)⟩).trans ((heq132 (m + 83 + 2) (zx_X16_guessedG_8)).trans (heq111 (m + 83 + 2) (by omega))))).trans hAd1
                have hb46 : w212 (m + 83 + 3) = some (.inr (0, 13, .inl fa1)) := ((heq212 (m + 83 + 3) (zx_X16_guessedG_10)).trans ((heqL166 (m + 83 + 3) ⟨(zx_X16_guessedG_28), (zx_X16_guessedG_29)⟩).trans ((heq132 (m + 83 + 3) (zx_X16_guessedG_10)).trans (heq111 (m + 83 + 3) (by omega))))).trans hAa1
                have hb47 : w212 (m + 83 + 4) = some (.inr (0, 13, .inl fb1)) := ((heq212 (m + 83 + 4) (zx_X16_guessedG_12)).trans ((heqL166 (m + 83 + 4) ⟨(zx_X16_guessedG_30), (zx_X16_guessedG_31)⟩).trans ((heq132 (m + 83 + 4) (zx_X16_guessedG_12)).trans (heq111 (m + 83 + 4) (by omega))))).trans hAb1
                have hb48 : w212 (m + 83 + 5) = some (.inr (0, 13, .inl fc1)) := ((heq212 (m + 83 + 5) (zx_X16_guessedG_14)).trans ((heqL166 (m + 83 + 5) ⟨(zx_X16_guessedG_32), (zx_X16_guessedG_33)⟩).trans ((heq132 (m + 83 + 5) (zx_X16_guessedG_14)).trans (heq111 (m + 83 + 5) (by omega))))).trans hAc1
                have hb49 : w212 (m + 83 + 6) = some (.inr (0, 13, .inl fe1)) := ((heq212 (m + 83 + 6) (zx_X16_guessedG_16)).trans ((heqL166 (m + 83 + 6) ⟨(zx_X16_guessedG_34), (zx_X16_guessedG_35)⟩).trans ((heq132 (m + 83 + 6) (zx_X16_guessedG_16)).trans (heq111 (m + 83 + 6) (by omega))))).trans hAe1
                have hb50 : w212 (m + 83 + 7) = some (.inr (0, 175, .inl F9_111)) := ((heq212 (m + 83 + 7) (zx_X16_guessedG_17)).trans ((heqL166 (m + 83 + 7) ⟨(zx_X16_guessedG_36), (zx_X16_guessedG_37)⟩).trans (heq132 (m + 83 + 7) (zx_X16_guessedG_17)))).trans hp111_2
                have hb51 : w212 (m + 83 + 8) = some (.inr (0, 361, .inl uq)) := (heq212 (m + 83 + 8) (zx_X16_guessedG_19)).trans hAu
                have hTi9 : zTi w212 (m + 83) 4 := ⟨_, _, _, _, _, _, _, _, _, hc212, hb44, hb45, hb46, hb47, hb48, hb49, hb50, hb51, ⟨rfl, hKn1, hKd1, ⟨zr1_1, zr1_1⟩, ⟨show 0 ≤ (0 : Int32).toInt by decide, show (0 : Int32).toInt ≤ 13 by decide⟩, fun i hi => absurd hi (Nat.not_lt_zero _), hp111_3, huq, ⟨by simp, fun e => absurd e (by decide), fun e => absurd e (by decide), fun e => absurd e (by decide), fun e => absurd e (by decide), fun _ => ⟨⟨hrd.1, (show r9.toInt ≤ 6 by omega), (show r9.toInt ≤ r129.toInt by omega), (show r129.toInt ≤ 60 by omega), (show 0 ≤ r129.toInt by omega), (show r129.toInt ≤ r129.toInt by omega)⟩, hgd9⟩⟩⟩⟩
                have hb52 : w212 m = some (.inl (15, zMo m (zs g 1 X9_111) r)) := (heq212 m (zx_X16_guessedG_4)).trans hmL166
                refine zr_get (idx := 453) (k := 21) (v := .ref (m + 83)) (by decide +kernel) (by decide +kernel) hb52 rfl ?_
                refine zr_callS (idx := 784) (j := 404) (by decide +kernel) (by decide +kernel) (by decide) (show zMe 404 = some zq_X16_fill from rfl) rfl rfl (Nat.le_of_ble_eq_true rfl) rfl rfl (Nat.le_of_ble_eq_true rfl) (Nat.le_of_ble_eq_true rfl) (c_X16_fill (w := w212) (m + 83) hTi9) (by omega) (fun v219 w219 hp219 => ?_)
                obtain ⟨hsi219, heq219, hp219_0, rfl⟩ := hp219
                show zP _ _ _ _ [] _ _ _ _ _
                refine zp_seg (pc' := 223) (lv' := [(0, .ref m), (1, .int r9), (3, .int to), (5, .int y5_166)]) (st' := [.ref m]) [(222, .aload_n 0)] (by decide +kernel) rfl ?_
                have hb53 : w219 m = some (.inl (15, zMo m (zs g 1 X9_111) r)) := (heq219 m (zx_X16_guessedG_38)).trans hb52
                refine zr_get (idx := 450) (k := 20) (v := .ref (m + 82)) (by decide +kernel) (by decide +kernel) hb53 rfl ?_
                refine zp_seg (pc' := 227) (lv' := [(0, .ref m), (1, .int r9), (3, .int to), (5, .int y5_166)]) (st' := [.int to, .ref (m + 82)]) [(226, .iload_n 3)] (by decide +kernel) rfl ?_
                have hb54 := hb23.si ((((hsi111.tr hsi132).tr hsiL166).tr hsi212).tr hsi219)
                have hb56 := hb54.slots
                refine zr_aald (v := .ref (m + 7486 + 9 * to.toNatClampNeg)) (by decide +kernel) hb56 (by decide) (zin (by first | omega | decide) (by first | omega | decide)) (zsl_at (by omega)) ?_
                refine zp_seg (pc' := 229) (lv' := [(0, .ref m), (1, .int r9), (3, .int to), (5, .int y5_166)]) (st' := [.ref m, .ref (m + 7486 + 9 * to.toNatClampNeg)]) [(228, .aload_n 0)] (by decide +kernel) rfl ?_
                refine zr_get (idx := 453) (k := 21) (v := .ref (m + 83)) (by decide +kernel) (by decide +kernel) hb53 rfl ?_
                have hb57 : zTi w219 (m + 7486 + 9 * to.toNatClampNeg) k9 := hTi_m_7486_9_to_toNatClampNeg.ag (fun x hx1 hx2 => ((heq219 x (by omega)).trans ((heq212 x (by omega)).trans ((heqL166 x (by omega)).trans ((heq132 x (by omega)).trans ((heq111 x (by omega)).trans (heqL3 x (by omega))))))))
                refine zr_callS (idx := 547) (j := 298) (by decide +kernel) (by decide +kernel) (by decide) (show zMe 298 = some zq_X16_copy from rfl) rfl rfl (Nat.le_of_ble_eq_true rfl) rfl rfl (Nat.le_of_ble_eq_true rfl) (Nat.le_of_ble_eq_true rfl) (c_X16_copy (w := w219) (m + 7486 + 9 * to.toNatClampNeg) (m + 83) hb57 hp219_0 (by first | omega | decide | assumption | exact zr1_1 | exact zr1_0 | fail "num")) (by omega) (fun v232 w232 hp232 => ?_)
                obtain ⟨hsi232, heq232, hp232_0, rfl⟩ := hp232
                show zP _ _ _ _ [] _ _ _ _ _
                refine zp_seg (pc' := 236) (lv' := [(0, .ref m), (1, .int r9), (3, .int to), (5, .int y5_166)]) (st' := [.int r9]) [(235, .iload_n 1)] (by decide +kernel) rfl ?_
                have hb58 : w232 m = some (.inl (15, zMo m (zs g 1 X9_111) r)) := (heq232 m (by omega)).trans hb53
                have hoffend : ∀ x, (x < m ∨ m + 1 ≤ x) ∧ (x < m + 83 ∨ m + 83 + 9 ≤ x) ∧ (x < m + 193 ∨ m + 193 + 1 ≤ x) ∧ (x < m + 7486 + 9 * to.toNatClampNeg ∨ m + 7486 + 9 * to.toNatClampNeg + 9 ≤ x) ∧ (x < m + 276 + 2 * (g 1).toNatClampNeg ∨ m + 276 + 2 * (g 1).toNatClampNeg + (320 - 2 * (g 1).toNatClampNeg) ≤ x) → w232 x = w x := fun x hx => ((heq232 x hx.2.2.2.1).trans ((heq219 x (zx_X16_guessedG_39 hx.2.1)).trans ((heq212 x (zx_X16_guessedG_21 hx.2.1)).trans ((heqL166 x ⟨(zx_X16_guessedG_39 hx.2.1), (zx_X16_guessedG_20 hx.1)⟩).trans ((heq132 x (zx_X16_guessedG_21 hx.2.1)).trans ((heq111 x (by omega)).trans (heqL3 x ⟨⟨hx.1, hx.2.2.1, hx.2.2.2.2⟩, (zx_X16_guessedG_20 hx.1)⟩)))))))
                have hb59 : zTi w232 (m + 83) 4 := hp219_0.ag (fun x hx1 hx2 => (heq232 x (by omega)))
                refine zr_retI (by decide +kernel) rfl ?_
                rw [← hPost]; exact ⟨rfl, _, rfl, X9_111, 4, ((((((hsiL3.tr hsi111).tr hsi132).tr hsiL166).tr hsi212).tr hsi219).tr hsi232), hoffend, hb58, (zTi.m hb59), (by first | exact hp232_0 | (have z9 := hp232_0; simpa using z9)), _, rfl, trivial⟩
              ·
                have f60 := znleI cc175
                refine zp_seg (pc' := 179) (lv' := [(0, .ref m), (1, .int r9), (3, .int to), (5, .int y5_166)]) (st' := [.ref m]) [(178, .aload_n 0)] (by decide +kernel) rfl ?_
                refine zr_get (idx := 453) (k := 21) (v := .ref (m + 83)) (by decide +kernel) (by decide +kernel) hmL166 rfl ?_
                refine zr_get (idx := 246) (k := 14) (v := .ref (m + 83 + 8)) (by decide +kernel) (by decide +kernel) hb42 rfl ?_
                refine zp_seg (pc' := 188) (lv' := [(0, .ref m), (1, .int r9), (3, .int to), (5, .int y5_166)]) (st' := [.ref m, .int y5_166, .ref (m + 83 + 8)]) [(185, .iload 5), (187, .aload_n 0)] (by decide +kernel) rfl ?_
                refine zr_get (idx := 465) (k := 28) (v := .ref (m + 94)) (by decide +kernel) (by decide +kernel) hmL166 rfl ?_
                refine zp_seg (pc' := 193) (lv' := [(0, .ref m), (1, .int r9), (3, .int to), (5, .int y5_166)]) (st' := [.int y5_166, .ref (m + 94), .int y5_166, .ref (m + 83 + 8)]) [(191, .iload 5)] (by decide +kernel) rfl ?_
                have hb61 : wL166 (m + 94) = some (.inr (0, 60, .inl ff)) := ((heqL166 (m + 94) ⟨(zx_X16_guessedG_45), (zx_X16_guessedG_43)⟩).trans ((heq132 (m + 94) (zx_X16_guessedG_44)).trans ((heq111 (m + 94) (by omega)).trans (heqL3 (m + 94) ⟨⟨(zx_X16_guessedG_40), (zx_X16_guessedG_41), (zx_X16_guessedG_42 hgb1)⟩, (zx_X16_guessedG_43)⟩)))).trans hA_m_94
                refine zr_iald (by decide +kernel) hb61 (zin (by first | omega | decide) (by first | omega | decide)) ?_
                obtain ⟨x193, ex193⟩ : ∃ x9, x9 = ff (y5_166.toNatClampNeg) := ⟨_, rfl⟩
                rw [← ex193]
                have kx193 := zrng x193
                refine zr_iast (by decide +kernel) hAu (zin (by first | omega | decide) (by first | omega | decide)) ?_
                show zP (d + 1) zq_X16_guessed 195 [(0, .ref m), (1, .int r9), (3, .int to), (5, .int y5_166)] [] (zup wL166 (m + 83 + 8) (.inr (0, 361, .inl (upd uq (y5_166.toNatClampNeg) x193)))) sz 0 0 Post
                obtain ⟨w194, ew194⟩ : ∃ wz9, wz9 = zup wL166 (m + 83 + 8) (.inr (0, 361, .inl (upd uq (y5_166.toNatClampNeg) x193))) := ⟨_, rfl⟩
                have hsi194 : zSI wL166 w194 := by rw [ew194]; exact zSI.arr _ hAu
                have heq194 : ∀ x, x ≠ m + 83 + 8 → w194 x = wL166 x := fun x hx => by rw [ew194]; exact zup_n hx
                have hc194 : w194 (m + 83 + 8) = some (.inr (0, 361, .inl (upd uq (y5_166.toNatClampNeg) x193))) := by rw [ew194]; exact zup_s
                rw [← ew194]
                clear ew194
                refine zp_seg (pc' := 198) (lv' := [(5, .int (y5_166 + 1)), (0, .ref m), (1, .int r9), (3, .int to)]) (st' := []) [(195, .iinc 5 1)] (by decide +kernel) rfl ?_
                have k62 := zaddC y5_166 1 (n := 1) (by decide) (by omega) (by omega)
                generalize ev198 : (y5_166 + 1 : Int32) = v198 at k62 ⊢
                have kv198 := zrng v198
                refine zp_seg (pc' := 166) (lv' := [(5, .int v198), (0, .ref m), (1, .int r9), (3, .int to)]) (st' := []) [(198, .goto (-32))] (by decide +kernel) rfl ?_
                have hz63 : (v198.toNatClampNeg : Int) = v198.toInt := znat (by first | omega | decide)
                have hb64 : w194 m = some (.inl (15, zMo m (zs g 1 X9_111) r)) := (heq194 m (zx_X16_guessedG_47)).trans hmL166
                exact (ih166 w194 v198 ((upd uq (y5_166.toNatClampNeg) x193)) (hsiL166.tr hsi194) (fun x hx => ((heq194 x (zx_X16_guessedG_46 hx.1)).trans (heqL166 x ⟨hx.1, hx.2⟩))) (by first | assumption | omega | decide) (by first | assumption | omega | decide) hc194 hb64 (by
                      exact zall_up huq (by rw [ex193]; exact hff _ (by omega))) (by omega)).more (zfa1 rfl (zfa1 rfl (zfa1 rfl (zfa1 rfl (zfa0)))))
            have hl65 : (0 : Int32).toInt = 0 := by decide
            have hz66 : ((0 : Int32).toNatClampNeg : Int) = 0 := by decide
            have hb67 : w132 (m + 83 + 8) = some (.inr (0, 361, .inl fu1)) := ((heq132 (m + 83 + 8) (zx_X16_guessedG_19)).trans (heq111 (m + 83 + 8) (by omega))).trans hAu1
            exact (hL166 _ w132 0 (fu1) zSI.rf (fun _ _ => rfl) (by first | assumption | omega | decide) (by first | assumption | omega | decide) hb67 hb24 (by
                  exact hKu1) (Nat.lt_succ_self _)).more (zfa1 rfl (zfa1 rfl (zfa1 rfl (zfa1 rfl (zfa0)))))
          ·
            have k68 := zrng (g 29)
            have f69 := znleI cc158
            have hb70 : w132 (m + 83 + 1) = some (.inr (0, 325, .inl fn1)) := ((heq132 (m + 83 + 1) (zx_X16_guessedG_6)).trans (heq111 (m + 83 + 1) (by omega))).trans hAn1
            have hb71 : w132 (m + 83 + 2) = some (.inr (0, 325, .inl fd1)) := ((heq132 (m + 83 + 2) (zx_X16_guessedG_8)).trans (heq111 (m + 83 + 2) (by omega))).trans hAd1
            have hb72 : w132 (m + 83 + 3) = some (.inr (0, 13, .inl fa1)) := ((heq132 (m + 83 + 3) (zx_X16_guessedG_10)).trans (heq111 (m + 83 + 3) (by omega))).trans hAa1
            have hb73 : w132 (m + 83 + 4) = some (.inr (0, 13, .inl fb1)) := ((heq132 (m + 83 + 4) (zx_X16_guessedG_12)).trans (heq111 (m + 83 + 4) (by omega))).trans hAb1
            have hb74 : w132 (m + 83 + 5) = some (.inr (0, 13, .inl fc1)) := ((heq132 (m + 83 + 5) (zx_X16_guessedG_14)).trans (heq111 (m + 83 + 5) (by omega))).trans hAc1
            have hb75 : w132 (m + 83 + 6) = some (.inr (0, 13, .inl fe1)) := ((heq132 (m + 83 + 6) (zx_X16_guessedG_16)).trans (heq111 (m + 83 + 6) (by omega))).trans hAe1
            have hb76 : w132 (m + 83 + 7) = some (.inr (0, 175, .inl F9_111)) := (heq132 (m + 83 + 7) (zx_X16_guessedG_17)).trans hp111_2
            have hb77 : w132 (m + 83 + 8) = some (.inr (0, 361, .inl fu1)) := ((heq132 (m + 83 + 8) (zx_X16_guessedG_19)).trans (heq111 (m + 83 + 8) (by omega))).trans hAu1
            have hTm8 : zTm w132 (m + 83) := ⟨_, _, _, _, _, _, _, _, _, hc132, hb70, hb71, hb72, hb73, hb74, hb75, hb76, hb77, hKn1, hKd1, hp111_3, hKu1⟩
            refine zp_seg (pc' := 162) (lv' := [(4, .int r111), (0, .ref m), (1, .int r9), (2, .int d9), (3, .int to)]) (st' := [.int (Int32.ofInt (-1))]) [(161, .iconst (-1))] (by decide +kernel) rfl ?_
            have hoffend : ∀ x, (x < m ∨ m + 1 ≤ x) ∧ (x < m + 83 ∨ m + 83 + 9 ≤ x) ∧ (x < m + 193 ∨ m + 193 + 1 ≤ x) ∧ (x < m + 7486 + 9 * to.toNatClampNeg ∨ m + 7486 + 9 * to.toNatClampNeg + 9 ≤ x) ∧ (x < m + 276 + 2 * (g 1).toNatClampNeg ∨ m + 276 + 2 * (g 1).toNatClampNeg + (320 - 2 * (g 1).toNatClampNeg) ≤ x) → w132 x = w x := fun x hx => ((heq132 x (zx_X16_guessedG_21 hx.2.1)).trans ((heq111 x (by omega)).trans (heqL3 x ⟨⟨hx.1, hx.2.2.1, hx.2.2.2.2⟩, (zx_X16_guessedG_20 hx.1)⟩)))
            have hb78 : zTi w132 (m + 7486 + 9 * to.toNatClampNeg) k9 := hTi_m_7486_9_to_toNatClampNeg.ag (fun x hx1 hx2 => ((heq132 x (by omega)).trans ((heq111 x (by omega)).trans (heqL3 x (by omega)))))
            refine zr_retI (by decide +kernel) rfl ?_
            rw [← hPost]; exact ⟨rfl, _, rfl, X9_111, k9, ((hsiL3.tr hsi111).tr hsi132), hoffend, hb24, hTm8, (by first | exact hb78 | (have z9 := hb78; simpa using z9)), _, rfl, trivial⟩
      ·
        replace cc100 := Classical.not_not.mp cc100
        have f81 := zeqI cc100
        rw [show (0 : Int32).toInt = 0 from by decide] at f81
        refine zp_seg (pc' := 104) (lv' := [(0, .ref m), (1, .int r9), (2, .int d9), (3, .int to), (4, .int y4_3)]) (st' := [.int (Int32.ofInt (-1))]) [(103, .iconst (-1))] (by decide +kernel) rfl ?_
        have hoffend : ∀ x, (x < m ∨ m + 1 ≤ x) ∧ (x < m + 83 ∨ m + 83 + 9 ≤ x) ∧ (x < m + 193 ∨ m + 193 + 1 ≤ x) ∧ (x < m + 7486 + 9 * to.toNatClampNeg ∨ m + 7486 + 9 * to.toNatClampNeg + 9 ≤ x) ∧ (x < m + 276 + 2 * (g 1).toNatClampNeg ∨ m + 276 + 2 * (g 1).toNatClampNeg + (320 - 2 * (g 1).toNatClampNeg) ≤ x) → wL3 x = w x := fun x hx => (heqL3 x ⟨⟨hx.1, hx.2.2.1, hx.2.2.2.2⟩, (zx_X16_guessedG_20 hx.1)⟩)
        have hb82 : zTm wL3 (m + 83) := hTm_m_83.ag (fun x hx1 hx2 => (heqL3 x ⟨⟨(zx_X16_guessedG_0 hx1 hx2), (zx_X16_guessedG_1 hx1 hx2), (zx_X16_guessedG_2 hx1 hx2 hgb1)⟩, (zx_X16_guessedG_3 hx1 hx2)⟩))
        have hb83 : zTi wL3 (m + 7486 + 9 * to.toNatClampNeg) k9 := hTi_m_7486_9_to_toNatClampNeg.ag (fun x hx1 hx2 => (heqL3 x (by omega)))
        refine zr_retI (by decide +kernel) rfl ?_
        rw [← hPost]; exact ⟨rfl, _, rfl, xT, k9, hsiL3, hoffend, hxM, hb82, (by first | exact hb83 | (have z9 := hb83; simpa using z9)), _, rfl, trivial⟩
    ·
      have f85 := znltI cc6
      refine zp_seg (pc' := 10) (lv' := [(0, .ref m), (1, .int r9), (2, .int d9), (3, .int to), (4, .int y4_3)]) (st' := [.ref m]) [(9, .aload_n 0)] (by decide +kernel) rfl ?_
      refine zr_get (idx := 517) (k := 55) (v := .ref (m + 193)) (by decide +kernel) (by decide +kernel) hxM rfl ?_
      refine zp_seg (pc' := 16) (lv' := [(0, .ref m), (1, .int r9), (2, .int d9), (3, .int to), (4, .int y4_3)]) (st' := [.ref m, .int y4_3, .ref (m + 193)]) [(13, .iload 4), (15, .aload_n 0)] (by decide +kernel) rfl ?_
      have k86 := zrng xT
      have hz87 : (xT.toNatClampNeg : Int) = xT.toInt := znat (by first | omega | decide)
      have hb88 := hR_m.si hsiL3
      refine zr_callV (idx := 74) (j := 263) (by decide +kernel) (by decide +kernel) (show zMe 263 = some zq_X16_newU from rfl) rfl rfl (Nat.le_of_ble_eq_true rfl) rfl rfl hxM (Nat.le_of_ble_eq_true rfl) (Nat.le_of_ble_eq_true rfl) (c_X16_newU (w := wL3) (g1 := xT) m hxM hb88 (by first | omega | decide | assumption | exact zr1_1 | exact zr1_0 | fail "num") rfl) (by omega) (fun v16 w16 hp16 => ?_)
      obtain ⟨hsi16, heq16, hp16_0, hp16_1, rfl⟩ := hp16
      have hM16 : w16 m = some (.inl (15, zMo m (zs g 1 (xT + 1)) r)) := hp16_0
      show zP _ _ _ _ [.ref (m + 276 + 2 * xT.toNatClampNeg), .int y4_3, .ref (m + 193)] _ _ _ _ _
      have hb89 : w16 (m + 193) = some (.inr (4, 8, .inr fw)) := (heq16 (m + 193) (by omega)).trans hV9
      obtain ⟨n90, f91, hu92, hu93, hu94, hu95, hu96⟩ := id hp16_1
      have kn90 := zrng n90
      refine zr_aast (by decide +kernel) hb89 hu92 (by decide) (zin (by first | omega | decide) (by first | omega | decide)) ?_
      show zP (d + 1) zq_X16_guessed 20 [(0, .ref m), (1, .int r9), (2, .int d9), (3, .int to), (4, .int y4_3)] [] (zup w16 (m + 193) (.inr (4, 8, .inr (va_up fw (y4_3.toNatClampNeg) (some (m + 276 + 2 * xT.toNatClampNeg)))))) sz 0 0 Post
      obtain ⟨w19, ew19⟩ : ∃ wz9, wz9 = zup w16 (m + 193) (.inr (4, 8, .inr (va_up fw (y4_3.toNatClampNeg) (some (m + 276 + 2 * xT.toNatClampNeg))))) := ⟨_, rfl⟩
      have hsi19 : zSI w16 w19 := by rw [ew19]; exact zSI.refs _ hb89 (by decide)
      have heq19 : ∀ x, x ≠ m + 193 → w19 x = w16 x := fun x hx => by rw [ew19]; exact zup_n hx
      have hc19 : w19 (m + 193) = some (.inr (4, 8, .inr (va_up fw (y4_3.toNatClampNeg) (some (m + 276 + 2 * xT.toNatClampNeg))))) := by rw [ew19]; exact zup_s
      rw [← ew19]
      clear ew19
      have hb97 : w19 (m + 276 + 2 * xT.toNatClampNeg) = some (.inl (14, [.ref (m + 276 + 2 * xT.toNatClampNeg + 1), .int n90])) := (heq19 (m + 276 + 2 * xT.toNatClampNeg) (by omega)).trans hu92
      have hun9 := hb97
      refine zp_seg (pc' := 23) (lv' := [(5, .int 0), (0, .ref m), (1, .int r9), (2, .int d9), (3, .int to), (4, .int y4_3)]) (st' := []) [(20, .iconst 0), (21, .istore 5)] (by decide +kernel) rfl ?_
      have hb98 : w19 m = some (.inl (15, zMo m (zs g 1 (xT + 1)) r)) := (heq19 m (zx_X16_guessedG_49)).trans hM16
      have hL23 : ∀ (mm23 : Nat) (wL23 : zM) (y5_23 : Int32) (cf : Nat → Int32), (zSI w19 wL23) → (∀ x, ((x < m + 276 + 2 * xT.toNatClampNeg + 1 ∨ m + 276 + 2 * xT.toNatClampNeg + 1 + 1 ≤ x)) ∧ x ≠ m → wL23 x = w19 x) → (0 ≤ y5_23.toInt) → (y5_23.toInt ≤ d9.toInt + 1) → (wL23 (m + 276 + 2 * xT.toNatClampNeg + 1) = some (.inr (0, 1000, .inl cf))) → (wL23 m = some (.inl (15, zMo m (zs g 1 (xT + 1)) r))) → (∀ t, t < y5_23.toNatClampNeg → zr1 (cf t)) → (20 - y5_23.toInt).toNat < mm23 → zP (d + 1) zq_X16_guessed 23 [(0, .ref m), (1, .int r9), (2, .int d9), (3, .int to), (4, .int y4_3), (5, .int y5_23)] [] wL23 sz 0 0 Post := by
        intro mm23
        induction mm23 with
        | zero => intros; omega
        | succ mm23 ih23 =>
        intro wL23 y5_23 cf hsiL23 heqL23 hi23_0 hi23_1 hAc hmL23 hcf hmu23
        have ky5_23 := zrng y5_23
        have hz99 : (y5_23.toNatClampNeg : Int) = y5_23.toInt := znat (by first | omega | decide)
        refine zp_seg (pc' := 26) (lv' := [(0, .ref m), (1, .int r9), (2, .int d9), (3, .int to), (4, .int y4_3), (5, .int y5_23)]) (st' := [.int d9, .int y5_23]) [(23, .iload 5), (25, .iload_n 2)] (by decide +kernel) rfl ?_
        refine zp_if (i := .if_icmp .gt 36) (c := d9 < y5_23) (t := 62) (e := 29) (lv' := [(0, .ref m), (1, .int r9), (2, .int d9), (3, .int to), (4, .int y4_3), (5, .int y5_23)]) (st' := []) (by decide +kernel) rfl (fun cc26 => ?_) (fun cc26 => ?_)
        ·
          have f100 := zltI cc26
          refine zp_seg (pc' := 63) (lv' := [(0, .ref m), (1, .int r9), (2, .int d9), (3, .int to), (4, .int y4_3), (5, .int y5_23)]) (st' := [.ref m]) [(62, .aload_n 0)] (by decide +kernel) rfl ?_
          refine zr_get (idx := 517) (k := 55) (v := .ref (m + 193)) (by decide +kernel) (by decide +kernel) hmL23 rfl ?_
          refine zp_seg (pc' := 68) (lv' := [(0, .ref m), (1, .int r9), (2, .int d9), (3, .int to), (4, .int y4_3), (5, .int y5_23)]) (st' := [.int y4_3, .ref (m + 193)]) [(66, .iload 4)] (by decide +kernel) rfl ?_
          have hb101 : wL23 (m + 193) = some (.inr (4, 8, .inr (va_up fw (y4_3.toNatClampNeg) (some (m + 276 + 2 * xT.toNatClampNeg))))) := (heqL23 (m + 193) (by omega)).trans hc19
          refine zr_aald (v := .ref (m + 276 + 2 * xT.toNatClampNeg)) (by decide +kernel) hb101 (by decide) (zin (by first | omega | decide) (by first | omega | decide)) (by rw [va_up_self]; rfl) ?_
          refine zp_seg (pc' := 72) (lv' := [(0, .ref m), (1, .int r9), (2, .int d9), (3, .int to), (4, .int y4_3), (5, .int y5_23)]) (st' := [.int (d9 + 1), .ref (m + 276 + 2 * xT.toNatClampNeg)]) [(69, .iload_n 2), (70, .iconst 1), (71, .iadd)] (by decide +kernel) rfl ?_
          have k102 := zaddC d9 1 (n := 1) (by decide) (by omega) (by omega)
          generalize ev72 : (d9 + 1 : Int32) = v72 at k102 ⊢
          have kv72 := zrng v72
          have hb103 : wL23 (m + 276 + 2 * xT.toNatClampNeg) = some (.inl (14, [.ref (m + 276 + 2 * xT.toNatClampNeg + 1), .int n90])) := (heqL23 (m + 276 + 2 * xT.toNatClampNeg) (by omega)).trans hb97
          refine zr_put2 (idx := 25) (k := 1) (fs2 := [.ref (m + 276 + 2 * xT.toNatClampNeg + 1), .int v72]) (by decide +kernel) (by decide +kernel) hb103 (Nat.le_of_ble_eq_true rfl) rfl rfl rfl ?_
          show zP (d + 1) zq_X16_guessed 75 [(0, .ref m), (1, .int r9), (2, .int d9), (3, .int to), (4, .int y4_3), (5, .int y5_23)] [] (zup wL23 (m + 276 + 2 * xT.toNatClampNeg) (.inl (14, [.ref (m + 276 + 2 * xT.toNatClampNeg + 1), .int v72]))) sz 0 0 Post
          obtain ⟨w72, ew72⟩ : ∃ wz9, wz9 = zup wL23 (m + 276 + 2 * xT.toNatClampNeg) (.inl (14, [.ref (m + 276 + 2 * xT.toNatClampNeg + 1), .int v72])) := ⟨_, rfl⟩
          have hsi72 : zSI wL23 w72 := by rw [ew72]; exact zSI.setU hb103
          have heq72 : ∀ x, x ≠ m + 276 + 2 * xT.toNatClampNeg → w72 x = wL23 x := fun x hx => by rw [ew72]; exact zup_n hx
          have hc72 : w72 (m + 276 + 2 * xT.toNatClampNeg) = some (.inl (14, [.ref (m + 276 + 2 * xT.toNatClampNeg + 1), .int v72])) := by rw [ew72]; exact zup_s
          rw [← ew72]
          clear ew72
          refine zp_seg (pc' := 76) (lv' := [(0, .ref m), (1, .int r9), (2, .int d9), (3, .int to), (4, .int y4_3), (5, .int y5_23)]) (st' := [.ref m]) [(75, .aload_n 0)] (by decide +kernel) rfl ?_
          have hb104 : w72 m = some (.inl (15, zMo m (zs g 1 (xT + 1)) r)) := (heq72 m (by omega)).trans hmL23
          refine zr_get (idx := 517) (k := 55) (v := .ref (m + 193)) (by decide +kernel) (by decide +kernel) hb104 rfl ?_
          refine zp_seg (pc' := 81) (lv' := [(0, .ref m), (1, .int r9), (2, .int d9), (3, .int to), (4, .int y4_3), (5, .int y5_23)]) (st' := [.int y4_3, .ref (m + 193)]) [(79, .iload 4)] (by decide +kernel) rfl ?_
          have hb105 : w72 (m + 193) = some (.inr (4, 8, .inr (va_up fw (y4_3.toNatClampNeg) (some (m + 276 + 2 * xT.toNatClampNeg))))) := (heq72 (m + 193) (by omega)).trans hb101
          refine zr_aald (v := .ref (m + 276 + 2 * xT.toNatClampNeg)) (by decide +kernel) hb105 (by decide) (zin (by first | omega | decide) (by first | omega | decide)) (by rw [va_up_self]; rfl) ?_
          have hb106 : w72 (m + 276 + 2 * xT.toNatClampNeg + 1) = some (.inr (0, 1000, .inl cf)) := (heq72 (m + 276 + 2 * xT.toNatClampNeg + 1) (by omega)).trans hAc
          have hUn9 : zUw w72 (m + 276 + 2 * xT.toNatClampNeg) 1000 (d9.toNatClampNeg + 1) (zaOf (fun i => zf (cf i)) (d9.toNatClampNeg + 1)) := by
            refine ⟨_, cf, hc72, hb106, by omega, by omega, fun t ht => ?_, fun t ht => ?_⟩
            · rw [zaOf_c, if_pos ht]; exact ⟨hcf t (by omega), rfl⟩
            · rw [zaOf_c, if_neg (by omega)]
          have hln9 := zaOf_ln (fun i => zf (cf i)) (d9.toNatClampNeg + 1)
          refine zr_callV (idx := 52) (j := 251) (by decide +kernel) (by decide +kernel) (show zMe 251 = some zq_X15_trim from rfl) rfl rfl (Nat.le_of_ble_eq_true rfl) rfl rfl hc72 (Nat.le_of_ble_eq_true rfl) (Nat.le_of_ble_eq_true rfl) (c_X15_trim (w := w72) (m + 276 + 2 * xT.toNatClampNeg) hUn9) (by omega) (fun v82 w82 hp82 => ?_)
          obtain ⟨hsi82, heq82, hp82_0, rfl⟩ := hp82
          show zP _ _ _ _ [] _ _ _ _ _
          refine zp_seg (pc' := 88) (lv' := [(4, .int (y4_3 + 1)), (0, .ref m), (1, .int r9), (2, .int d9), (3, .int to), (5, .int y5_23)]) (st' := []) [(85, .iinc 4 1)] (by decide +kernel) rfl ?_
          have k107 := zaddC y4_3 1 (n := 1) (by decide) (by omega) (by omega)
          generalize ev88 : (y4_3 + 1 : Int32) = v88 at k107 ⊢
          have kv88 := zrng v88
          refine zp_seg (pc' := 3) (lv' := [(4, .int v88), (0, .ref m), (1, .int r9), (2, .int d9), (3, .int to), (5, .int y5_23)]) (st' := []) [(88, .goto (-85))] (by decide +kernel) rfl ?_
          have hz108 : (v88.toNatClampNeg : Int) = v88.toInt := znat (by first | omega | decide)
          have hb109 : w82 m = some (.inl (15, zMo m (zs g 1 (xT + 1)) r)) := (heq82 m (by omega)).trans hb104
          have hb110 : w82 (m + 193) = some (.inr (4, 8, .inr (va_up fw (y4_3.toNatClampNeg) (some (m + 276 + 2 * xT.toNatClampNeg))))) := (heq82 (m + 193) (by omega)).trans hb105
          exact (ih3 w82 v88 (((xT + 1))) ((va_up fw (y4_3.toNatClampNeg) (some (m + 276 + 2 * xT.toNatClampNeg)))) (fun t => if t = y4_3.toNatClampNeg then zaOf (fun i => zf (cf i)) (d9.toNatClampNeg + 1) else Pg t) (((((hsiL3.tr hsi16).tr hsi19).tr hsiL23).tr hsi72).tr hsi82) (fun x hx => ((heq82 x (by omega)).trans ((heq72 x (by omega)).trans ((heqL23 x (by omega)).trans ((heq19 x (zx_X16_guessedG_50 hx.1.2.1)).trans ((heq16 x (by omega)).trans (heqL3 x ⟨⟨hx.1.1, hx.1.2.1, hx.1.2.2⟩, hx.2⟩))))))) (by first | assumption | omega | decide) (by first | assumption | omega | decide) (by
                exact hb109) hb110 (by
                have z9 := zaddC xT 1 (n := 1) (by decide) (by omega) (by omega)
                omega) (by
                intro t ht
                have hzT := znat (x := xT) (by omega)
                by_cases e : t = y4_3.toNatClampNeg
                · rw [e, va_up_self, show m + 276 + 2 * xT.toNatClampNeg = m + 276 + 2 * (g 1).toNatClampNeg + 2 * y4_3.toNatClampNeg by omega]
                · rw [va_up_ne _ _ e]; exact hfw t (by omega)) (by
                intro t ht
                have hzT := znat (x := xT) (by omega)
                show zU w82 (m + 276 + 2 * (g 1).toNatClampNeg + 2 * t) 1000 (if t = y4_3.toNatClampNeg then zaOf (fun i => zf (cf i)) (d9.toNatClampNeg + 1) else Pg t) ∧ zln (if t = y4_3.toNatClampNeg then zaOf (fun i => zf (cf i)) (d9.toNatClampNeg + 1) else Pg t) ≤ 9
                by_cases e : t = y4_3.toNatClampNeg
                · rw [if_pos e, e, ← show m + 276 + 2 * xT.toNatClampNeg = m + 276 + 2 * (g 1).toNatClampNeg + 2 * y4_3.toNatClampNeg by omega]; exact ⟨hp82_0, by omega⟩
                · rw [if_neg e]; exact ⟨(hPg t (by omega)).1.ag (fun x g1 g2 => ((heq82 x (by omega)).trans ((heq72 x (by omega)).trans ((heqL23 x (by omega)).trans ((heq19 x (by omega)).trans (heq16 x (by omega))))))), (hPg t (by omega)).2⟩) (by omega)).more (zfa1 rfl (zfa1 rfl (zfa1 rfl (zfa1 rfl (zfa1 rfl (zfa0))))))
        ·
          have f111 := znltI cc26
          refine zp_seg (pc' := 30) (lv' := [(0, .ref m), (1, .int r9), (2, .int d9), (3, .int to), (4, .int y4_3), (5, .int y5_23)]) (st' := [.ref m]) [(29, .aload_n 0)] (by decide +kernel) rfl ?_
          refine zr_get (idx := 517) (k := 55) (v := .ref (m + 193)) (by decide +kernel) (by decide +kernel) hmL23 rfl ?_
          refine zp_seg (pc' := 35) (lv' := [(0, .ref m), (1, .int r9), (2, .int d9), (3, .int to), (4, .int y4_3), (5, .int y5_23)]) (st' := [.int y4_3, .ref (m + 193)]) [(33, .iload 4)] (by decide +kernel) rfl ?_
          have hb112 : wL23 (m + 193) = some (.inr (4, 8, .inr (va_up fw (y4_3.toNatClampNeg) (some (m + 276 + 2 * xT.toNatClampNeg))))) := (heqL23 (m + 193) (by omega)).trans hc19
          refine zr_aald (v := .ref (m + 276 + 2 * xT.toNatClampNeg)) (by decide +kernel) hb112 (by decide) (zin (by first | omega | decide) (by first | omega | decide)) (by rw [va_up_self]; rfl) ?_
          have hb113 : wL23 (m + 276 + 2 * xT.toNatClampNeg) = some (.inl (14, [.ref (m + 276 + 2 * xT.toNatClampNeg + 1), .int n90])) := (heqL23 (m + 276 + 2 * xT.toNatClampNeg) (by omega)).trans hb97
          refine zr_get (idx := 30) (k := 0) (v := .ref (m + 276 + 2 * xT.toNatClampNeg + 1)) (by decide +kernel) (by decide +kernel) hb113 rfl ?_
          refine zp_seg (pc' := 42) (lv' := [(0, .ref m), (1, .int r9), (2, .int d9), (3, .int to), (4, .int y4_3), (5, .int y5_23)]) (st' := [.ref m, .int y5_23, .ref (m + 276 + 2 * xT.toNatClampNeg + 1)]) [(39, .iload 5), (41, .aload_n 0)] (by decide +kernel) rfl ?_
          refine zr_get (idx := 535) (k := 61) (v := .ref (m + 273)) (by decide +kernel) (by decide +kernel) hmL23 rfl ?_
          refine zp_seg (pc' := 50) (lv' := [(0, .ref m), (1, .int r9), (2, .int d9), (3, .int to), (4, .int y4_3), (5, .int y5_23)]) (st' := [.int (d9 + 1), .int y4_3, .ref (m + 273), .int y5_23, .ref (m + 276 + 2 * xT.toNatClampNeg + 1)]) [(45, .iload 4), (47, .iload_n 2), (48, .iconst 1), (49, .iadd)] (by decide +kernel) rfl ?_
          have k114 := zaddC d9 1 (n := 1) (by decide) (by omega) (by omega)
          generalize ev50 : (d9 + 1 : Int32) = v50 at k114 ⊢
          have kv50 := zrng v50
          refine zp_seg (pc' := 51) (lv' := [(0, .ref m), (1, .int r9), (2, .int d9), (3, .int to), (4, .int y4_3), (5, .int y5_23)]) (st' := [.int (y4_3 * v50), .ref (m + 273), .int y5_23, .ref (m + 276 + 2 * xT.toNatClampNeg + 1)]) [(50, .imul)] (by decide +kernel) rfl ?_
          have k115 := zmulM y4_3 v50
          generalize ev51 : (y4_3 * v50 : Int32) = v51 at k115 ⊢
          have kv51 := zrng v51
          have hpr8 : y4_3.toInt * v50.toInt = y4_3.toInt * (d9.toInt + 1) := by rw [show v50.toInt = d9.toInt + 1 by omega]
          have hix9 := zmul_idx (j := y4_3.toInt) (d := d9.toInt) (i := y5_23.toInt) (r := r9.toInt) ⟨by omega, by omega⟩ ⟨by omega, by omega⟩ (by omega) rfl
          refine zp_seg (pc' := 54) (lv' := [(0, .ref m), (1, .int r9), (2, .int d9), (3, .int to), (4, .int y4_3), (5, .int y5_23)]) (st' := [.int (v51 + y5_23), .ref (m + 273), .int y5_23, .ref (m + 276 + 2 * xT.toNatClampNeg + 1)]) [(51, .iload 5), (53, .iadd)] (by decide +kernel) rfl ?_
          have k116 := zadd v51 y5_23 (by omega) (by omega)
          generalize ev54 : (v51 + y5_23 : Int32) = v54 at k116 ⊢
          have kv54 := zrng v54
          have hb117 : wL23 (m + 273) = some (.inr (0, 46, .inl fu)) := ((heqL23 (m + 273) (by omega)).trans ((heq19 (m + 273) (zx_X16_guessedG_55)).trans ((heq16 (m + 273) (by omega)).trans (heqL3 (m + 273) ⟨⟨(zx_X16_guessedG_51), (zx_X16_guessedG_52), (zx_X16_guessedG_53 hgb1)⟩, (zx_X16_guessedG_54)⟩)))).trans hA_m_273
          refine zr_iald (by decide +kernel) hb117 (zin (by first | omega | decide) (by first | omega | decide)) ?_
          have hz118 : (v54.toNatClampNeg : Int) = v54.toInt := znat (by first | omega | decide)
          obtain ⟨x54, ex54⟩ : ∃ x9, x9 = fu (v54.toNatClampNeg) := ⟨_, rfl⟩
          rw [← ex54]
          have kx54 := zrng x54
          refine zr_iast (by decide +kernel) hAc (zin (by first | omega | decide) (by first | omega | decide)) ?_
          show zP (d + 1) zq_X16_guessed 56 [(0, .ref m), (1, .int r9), (2, .int d9), (3, .int to), (4, .int y4_3), (5, .int y5_23)] [] (zup wL23 (m + 276 + 2 * xT.toNatClampNeg + 1) (.inr (0, 1000, .inl (upd cf (y5_23.toNatClampNeg) x54)))) sz 0 0 Post
          obtain ⟨w55, ew55⟩ : ∃ wz9, wz9 = zup wL23 (m + 276 + 2 * xT.toNatClampNeg + 1) (.inr (0, 1000, .inl (upd cf (y5_23.toNatClampNeg) x54))) := ⟨_, rfl⟩
          have hsi55 : zSI wL23 w55 := by rw [ew55]; exact zSI.arr _ hAc
          have heq55 : ∀ x, x ≠ m + 276 + 2 * xT.toNatClampNeg + 1 → w55 x = wL23 x := fun x hx => by rw [ew55]; exact zup_n hx
          have hc55 : w55 (m + 276 + 2 * xT.toNatClampNeg + 1) = some (.inr (0, 1000, .inl (upd cf (y5_23.toNatClampNeg) x54))) := by rw [ew55]; exact zup_s
          rw [← ew55]
          clear ew55
          refine zp_seg (pc' := 59) (lv' := [(5, .int (y5_23 + 1)), (0, .ref m), (1, .int r9), (2, .int d9), (3, .int to), (4, .int y4_3)]) (st' := []) [(56, .iinc 5 1)] (by decide +kernel) rfl ?_
          have k119 := zaddC y5_23 1 (n := 1) (by decide) (by omega) (by omega)
          generalize ev59 : (y5_23 + 1 : Int32) = v59 at k119 ⊢
          have kv59 := zrng v59
          refine zp_seg (pc' := 23) (lv' := [(5, .int v59), (0, .ref m), (1, .int r9), (2, .int d9), (3, .int to), (4, .int y4_3)]) (st' := []) [(59, .goto (-36))] (by decide +kernel) rfl ?_
          have hz120 : (v59.toNatClampNeg : Int) = v59.toInt := znat (by first | omega | decide)
          have hb121 : w55 m = some (.inl (15, zMo m (zs g 1 (xT + 1)) r)) := (heq55 m (by omega)).trans hmL23
          exact (ih23 w55 v59 ((upd cf (y5_23.toNatClampNeg) x54)) (hsiL23.tr hsi55) (fun x hx => ((heq55 x (by omega)).trans (heqL23 x ⟨hx.1, hx.2⟩))) (by first | assumption | omega | decide) (by first | assumption | omega | decide) hc55 hb121 (by
                intro t ht
                by_cases e : t = y5_23.toNatClampNeg
                · rw [e, zupd_s, ex54]; exact hfu _ (by omega)
                · rw [zupd_n _ _ e]; exact hcf t (by omega)) (by omega)).more (zfa1 rfl (zfa1 rfl (zfa1 rfl (zfa1 rfl (zfa1 rfl (zfa1 rfl (zfa0)))))))
      have hl122 : (0 : Int32).toInt = 0 := by decide
      have hz123 : ((0 : Int32).toNatClampNeg : Int) = 0 := by decide
      have hb124 : w19 (m + 276 + 2 * xT.toNatClampNeg + 1) = some (.inr (0, 1000, .inl f91)) := (heq19 (m + 276 + 2 * xT.toNatClampNeg + 1) (by omega)).trans hu93
      exact (hL23 _ w19 0 (f91) zSI.rf (fun _ _ => rfl) (by first | assumption | omega | decide) (by first | assumption | omega | decide) hb124 hb98 (by
            exact fun t ht => absurd ht (by omega)) (Nat.lt_succ_self _)).more (zfa1 rfl (zfa1 rfl (zfa1 rfl (zfa1 rfl (zfa1 rfl (zfa1 rfl (zfa0)))))))
  have hl125 : (0 : Int32).toInt = 0 := by decide
  have hz126 : ((0 : Int32).toNatClampNeg : Int) = 0 := by decide
  obtain ⟨f127, hb128⟩ := zR_va hR_m (j := 193) (t := 4) (n := 8) (by decide) rfl
  exact (hL3 _ w 0 ((g 1)) (f127) (fun _ => zaZ) zSI.rf (fun _ _ => rfl) (by first | assumption | omega | decide) (by first | assumption | omega | decide) (by
        exact hm) hb128 (by
        omega) (by
        exact fun t ht => absurd ht (by omega)) (by
        exact fun t ht => absurd ht (by omega)) (Nat.lt_succ_self _)).more (zfa1 rfl (zfa1 rfl (zfa1 rfl (zfa1 rfl (zfa1 rfl (zfa0))))))
