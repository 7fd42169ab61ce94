theorem zx_X16_guess_0 {m x : Nat} (h0 : x < m + 0 ∨ m + 0 + 8322 ≤ x) : x < m ∨ m + 1 ≤ x := by omega
theorem zx_X16_guess_1 {m x : Nat} (h0 : x < m + 0 ∨ m + 0 + 8322 ≤ x) : x < m + 212 ∨ m + 212 + 62 ≤ x := by omega
theorem zx_X16_guess_2 {m x : Nat} (h0 : x < m + 0 ∨ m + 0 + 8322 ≤ x) : x ≠ m := by omega
theorem zx_X16_guess_3 {m x : Nat} (h0 : m + 7486 ≤ x) (h1 : x < m + 7486 + 108) : x < m ∨ m + 1 ≤ x := by omega
theorem zx_X16_guess_4 {m x : Nat} (h0 : m + 7486 ≤ x) (h1 : x < m + 7486 + 108) : x < m + 212 ∨ m + 212 + 62 ≤ x := by omega
theorem zx_X16_guess_5 {m x : Nat} (h0 : m + 7486 ≤ x) (h1 : x < m + 7486 + 108) : x ≠ m := by omega
theorem zx_X16_guess_6 {m x : Nat} (h0 : m + 83 ≤ x) (h1 : x < m + 83 + 9) : x < m ∨ m + 1 ≤ x := by omega
theorem zx_X16_guess_7 {m x : Nat} (h0 : m + 83 ≤ x) (h1 : x < m + 83 + 9) : x < m + 212 ∨ m + 212 + 62 ≤ x := by omega
theorem zx_X16_guess_8 {m x : Nat} (h0 : m + 83 ≤ x) (h1 : x < m + 83 + 9) : x ≠ m := by omega
theorem zx_X16_guess_9 {m x : Nat} (h0 : m + 6316 ≤ x) (h1 : x < m + 6316 + 1170) : x < m ∨ m + 1 ≤ x := by omega
theorem zx_X16_guess_10 {m x : Nat} (h0 : m + 6316 ≤ x) (h1 : x < m + 6316 + 1170) : x < m + 212 ∨ m + 212 + 62 ≤ x := by omega
theorem zx_X16_guess_11 {m x : Nat} (h0 : m + 6316 ≤ x) (h1 : x < m + 6316 + 1170) : x ≠ m := by omega
theorem zx_X16_guess_12 {m x : Nat} (h0 : m + 92 ≤ x) (h1 : x < m + 92 + 1) : x < m ∨ m + 1 ≤ x := by omega
theorem zx_X16_guess_13 {m x : Nat} (h0 : m + 92 ≤ x) (h1 : x < m + 92 + 1) : x < m + 212 ∨ m + 212 + 62 ≤ x := by omega
theorem zx_X16_guess_14 {m x : Nat} (h0 : m + 92 ≤ x) (h1 : x < m + 92 + 1) : x ≠ m := by omega
theorem zx_X16_guess_15 {m x : Nat} (h0 : m + 93 ≤ x) (h1 : x < m + 93 + 1) : x < m ∨ m + 1 ≤ x := by omega
theorem zx_X16_guess_16 {m x : Nat} (h0 : m + 93 ≤ x) (h1 : x < m + 93 + 1) : x < m + 212 ∨ m + 212 + 62 ≤ x := by omega
theorem zx_X16_guess_17 {m x : Nat} (h0 : m + 93 ≤ x) (h1 : x < m + 93 + 1) : x ≠ m := by omega
theorem zx_X16_guess_18 {m x : Nat} (h0 : m + 100 ≤ x) (h1 : x < m + 100 + 49) : x < m ∨ m + 1 ≤ x := by omega
theorem zx_X16_guess_19 {m x : Nat} (h0 : m + 100 ≤ x) (h1 : x < m + 100 + 49) : x < m + 212 ∨ m + 212 + 62 ≤ x := by omega
theorem zx_X16_guess_20 {m x : Nat} (h0 : m + 100 ≤ x) (h1 : x < m + 100 + 49) : x ≠ m := by omega
theorem zx_X16_guess_21 {m x : Nat} (h0 : m + 149 ≤ x) (h1 : x < m + 149 + 27) : x < m ∨ m + 1 ≤ x := by omega
theorem zx_X16_guess_22 {m x : Nat} (h0 : m + 149 ≤ x) (h1 : x < m + 149 + 27) : x < m + 212 ∨ m + 212 + 62 ≤ x := by omega
theorem zx_X16_guess_23 {m x : Nat} (h0 : m + 149 ≤ x) (h1 : x < m + 149 + 27) : x ≠ m := by omega
theorem zx_X16_guess_24 {m : Nat}  : (m + 94) < m ∨ m + 1 ≤ (m + 94) := by omega
theorem zx_X16_guess_25 {m : Nat}  : (m + 94) < m + 212 ∨ m + 212 + 62 ≤ (m + 94) := by omega
theorem zx_X16_guess_26 {m : Nat}  : (m + 94) ≠ m := by omega
theorem zx_X16_guess_27 {m x : Nat} (h0 : x < m + 212 ∨ m + 212 + 62 ≤ x) : x < m + 212 ∨ m + 212 + 61 ≤ x := by omega
theorem zx_X16_guess_28 {m x : Nat} (h0 : x < m + 212 ∨ m + 212 + 62 ≤ x) : x < m + 273 ∨ m + 273 + 1 ≤ x := by omega
theorem zx_X16_guess_29 {m : Nat}  : m < m + 212 ∨ m + 212 + 61 ≤ m := by omega
theorem zx_X16_guess_30 {m : Nat}  : m < m + 273 ∨ m + 273 + 1 ≤ m := by omega
theorem zx_X16_guess_31 {m x : Nat} (h0 : m + 7486 ≤ x) (h1 : x < m + 7486 + 108) : x < m + 212 ∨ m + 212 + 61 ≤ x := by omega
theorem zx_X16_guess_32 {m x : Nat} (h0 : m + 7486 ≤ x) (h1 : x < m + 7486 + 108) : x < m + 273 ∨ m + 273 + 1 ≤ x := by omega
theorem zx_X16_guess_33 {m x : Nat} (h0 : m + 83 ≤ x) (h1 : x < m + 83 + 9) : x < m + 212 ∨ m + 212 + 61 ≤ x := by omega
theorem zx_X16_guess_34 {m x : Nat} (h0 : m + 83 ≤ x) (h1 : x < m + 83 + 9) : x < m + 273 ∨ m + 273 + 1 ≤ x := by omega
theorem zx_X16_guess_35 {m : Nat}  : (m + 94) < m + 212 ∨ m + 212 + 61 ≤ (m + 94) := by omega
theorem zx_X16_guess_36 {m : Nat}  : (m + 94) < m + 273 ∨ m + 273 + 1 ≤ (m + 94) := by omega
theorem zx_X16_guess_37 {m x : Nat} (h0 : x < m + 0 ∨ m + 0 + 8322 ≤ x) : x < m + 212 ∨ m + 212 + 61 ≤ x := by omega
theorem zx_X16_guess_38 {m x : Nat} (h0 : x < m + 0 ∨ m + 0 + 8322 ≤ x) : x < m + 273 ∨ m + 273 + 1 ≤ x := by omega
theorem zx_X16_guess_39 {m x : Nat} (h0 : x < m + 0 ∨ m + 0 + 8322 ≤ x) : x < m + 83 ∨ m + 83 + 9 ≤ x := by omega
theorem zx_X16_guess_40 {m x : Nat} (h0 : x < m + 0 ∨ m + 0 + 8322 ≤ x) : x < m + 193 ∨ m + 193 + 1 ≤ x := by omega
theorem zx_X16_guess_41 {m x : Nat} (h0 : m + 6316 ≤ x) (h1 : x < m + 6316 + 1170) : x < m + 212 ∨ m + 212 + 61 ≤ x := by omega
theorem zx_X16_guess_42 {m x : Nat} (h0 : m + 6316 ≤ x) (h1 : x < m + 6316 + 1170) : x < m + 273 ∨ m + 273 + 1 ≤ x := by omega
theorem zx_X16_guess_43 {m x : Nat} (h0 : m + 6316 ≤ x) (h1 : x < m + 6316 + 1170) : x < m + 83 ∨ m + 83 + 9 ≤ x := by omega
theorem zx_X16_guess_44 {m x : Nat} (h0 : m + 6316 ≤ x) (h1 : x < m + 6316 + 1170) : x < m + 193 ∨ m + 193 + 1 ≤ x := by omega
theorem zx_X16_guess_45 {m x : Nat} (h0 : m + 92 ≤ x) (h1 : x < m + 92 + 1) : x < m + 212 ∨ m + 212 + 61 ≤ x := by omega
theorem zx_X16_guess_46 {m x : Nat} (h0 : m + 92 ≤ x) (h1 : x < m + 92 + 1) : x < m + 273 ∨ m + 273 + 1 ≤ x := by omega
theorem zx_X16_guess_47 {m x : Nat} (h0 : m + 92 ≤ x) (h1 : x < m + 92 + 1) : x < m + 83 ∨ m + 83 + 9 ≤ x := by omega
theorem zx_X16_guess_48 {m x : Nat} (h0 : m + 92 ≤ x) (h1 : x < m + 92 + 1) : x < m + 193 ∨ m + 193 + 1 ≤ x := by omega
theorem zx_X16_guess_49 {m x : Nat} (h0 : m + 93 ≤ x) (h1 : x < m + 93 + 1) : x < m + 212 ∨ m + 212 + 61 ≤ x := by omega
theorem zx_X16_guess_50 {m x : Nat} (h0 : m + 93 ≤ x) (h1 : x < m + 93 + 1) : x < m + 273 ∨ m + 273 + 1 ≤ x := by omega
theorem zx_X16_guess_51 {m x : Nat} (h0 : m + 93 ≤ x) (h1 : x < m + 93 + 1) : x < m + 83 ∨ m + 83 + 9 ≤ x := by omega
theorem zx_X16_guess_52 {m x : Nat} (h0 : m + 93 ≤ x) (h1 : x < m + 93 + 1) : x < m + 193 ∨ m + 193 + 1 ≤ x := by omega
theorem zx_X16_guess_53 {m x : Nat} (h0 : m + 100 ≤ x) (h1 : x < m + 100 + 49) : x < m + 212 ∨ m + 212 + 61 ≤ x := by omega
theorem zx_X16_guess_54 {m x : Nat} (h0 : m + 100 ≤ x) (h1 : x < m + 100 + 49) : x < m + 273 ∨ m + 273 + 1 ≤ x := by omega
theorem zx_X16_guess_55 {m x : Nat} (h0 : m + 100 ≤ x) (h1 : x < m + 100 + 49) : x < m + 83 ∨ m + 83 + 9 ≤ x := by omega
theorem zx_X16_guess_56 {m x : Nat} (h0 : m + 100 ≤ x) (h1 : x < m + 100 + 49) : x < m + 193 ∨ m + 193 + 1 ≤ x := by omega
theorem zx_X16_guess_57 {m x : Nat} (h0 : m + 212 ≤ x) (h1 : x < m + 212 + 61) : x < m ∨ m + 1 ≤ x := by omega
theorem zx_X16_guess_58 {m x : Nat} (h0 : m + 212 ≤ x) (h1 : x < m + 212 + 61) : x < m + 83 ∨ m + 83 + 9 ≤ x := by omega
theorem zx_X16_guess_59 {m x : Nat} (h0 : m + 212 ≤ x) (h1 : x < m + 212 + 61) : x < m + 193 ∨ m + 193 + 1 ≤ x := by omega
theorem zx_X16_guess_60 {m x : Nat} (h0 : m + 149 ≤ x) (h1 : x < m + 149 + 27) : x < m + 212 ∨ m + 212 + 61 ≤ x := by omega
theorem zx_X16_guess_61 {m x : Nat} (h0 : m + 149 ≤ x) (h1 : x < m + 149 + 27) : x < m + 273 ∨ m + 273 + 1 ≤ x := by omega
theorem zx_X16_guess_62 {m x : Nat} (h0 : m + 149 ≤ x) (h1 : x < m + 149 + 27) : x < m + 83 ∨ m + 83 + 9 ≤ x := by omega
theorem zx_X16_guess_63 {m x : Nat} (h0 : m + 149 ≤ x) (h1 : x < m + 149 + 27) : x < m + 193 ∨ m + 193 + 1 ≤ x := by omega
theorem zx_X16_guess_64 {m : Nat}  : (m + 94) < m + 83 ∨ m + 83 + 9 ≤ (m + 94) := by omega
theorem zx_X16_guess_65 {m : Nat}  : (m + 94) < m + 193 ∨ m + 193 + 1 ≤ (m + 94) := by omega
set_option maxHeartbeats 8000000 in
set_option maxRecDepth 100000 in
theorem c_X16_guess {w : zM} {n9 : Int32} (m : Nat) (to : Int32) (hI : zInv w m n9) : zCon 7 zq_X16_guess [.ref m, .int to] w (fun v9 w9' => zSI w w9' ∧ (∀ x, (x < m + 0 ∨ m + 0 + 8322 ≤ x) → w9' x = w x) ∧ zInv w9' m n9 ∧ ∃ r9 : Int32, v9 = some (.int r9) ∧ True) := by
  intro d sz hd
  obtain ⟨d, rfl⟩ : ∃ d9, d = d9 + 1 := ⟨d - 1, by omega⟩
  generalize hPost : (fun (r9' : Option (Option Value)) (w9' : zM) (z9 : Nat) => z9 = sz ∧ ∃ v9, r9' = some v9 ∧ (zSI w w9' ∧ (∀ x, (x < m + 0 ∨ m + 0 + 8322 ≤ x) → w9' x = w x) ∧ zInv w9' m n9 ∧ ∃ r9 : Int32, v9 = some (.int r9) ∧ True)) = Post
  show zP (d + 1) zq_X16_guess 0 [(0, .ref m), (1, .int to)] [] w sz 0 0 Post
  have k1 := zrng to
  obtain ⟨g, r, hm, hR_m, hSl0, hMd0, hPl0, ⟨ff, hAf0, hff⟩, hBo0, hBl0, hGa0, hGb0, hBd0, hI12, hI24, hI29, hI31, hIn⟩ := hI
  have k2 := zrng (g 12)
  have hz3 : ((g 12).toNatClampNeg : Int) = (g 12).toInt := znat (by first | omega | decide)
  have k4 := zrng (g 24)
  have hz5 : ((g 24).toNatClampNeg : Int) = (g 24).toInt := znat (by first | omega | decide)
  have k6 := zrng (g 29)
  have hz7 : ((g 29).toNatClampNeg : Int) = (g 29).toInt := znat (by first | omega | decide)
  have k8 := zrng (g 31)
  have hz9 : ((g 31).toNatClampNeg : Int) = (g 31).toInt := znat (by first | omega | decide)
  refine zp_seg (pc' := 1) (lv' := [(0, .ref m), (1, .int to)]) (st' := [.int to]) [(0, .iload_n 1)] (by decide +kernel) rfl ?_
  refine zr_callS (idx := 551) (j := 336) (by decide +kernel) (by decide +kernel) (by decide) (show zMe 336 = some zq_X16_isSlot from rfl) rfl rfl (Nat.le_of_ble_eq_true rfl) rfl rfl (Nat.le_of_ble_eq_true rfl) (Nat.le_of_ble_eq_true rfl) (c_X16_isSlot (w := w) to ) (by omega) (fun v1 w1 hp1 => ?_)
  obtain ⟨hpw1, r1, rfl, hrb1, hr1⟩ := hp1
  replace hpw1 := hpw1.symm
  subst hpw1
  have kr1 := zrng r1
  show zP _ _ _ _ [.int r1] _ _ _ _ _
  refine zp_if (i := .ifCond .ne 5) (c := ¬ r1 = 0) (t := 9) (e := 7) (lv' := [(0, .ref m), (1, .int to)]) (st' := []) (by decide +kernel) rfl (fun cc4 => ?_) (fun cc4 => ?_)
  ·
    have f11 := zneI cc4
    rw [show (0 : Int32).toInt = 0 from by decide] at f11
    have his1 := hr1 (hrb1.resolve_left cc4)
    refine zp_seg (pc' := 10) (lv' := [(0, .ref m), (1, .int to)]) (st' := [.ref m]) [(9, .aload_n 0)] (by decide +kernel) rfl ?_
    refine zr_callV (idx := 555) (j := 337) (by decide +kernel) (by decide +kernel) (show zMe 337 = some zq_X16_begin from rfl) rfl rfl (Nat.le_of_ble_eq_true rfl) rfl rfl hm (Nat.le_of_ble_eq_true rfl) (Nat.le_of_ble_eq_true rfl) (c_X16_beginZ (w := w) m hm hR_m) (by omega) (fun v10 w10 hp10 => ?_)
    obtain ⟨Z9_10, hsi10, heq10, hp10_0, hp10_1, rfl⟩ := hp10
    have hM10 : w10 m = some (.inl (15, zMo m (zs (zs (zs g 1 Z9_10) 3 Z9_10) 16 Z9_10) r)) := hp10_0
    show zP _ _ _ _ [] _ _ _ _ _
    have k12 := zrng Z9_10
    have hz13 : (Z9_10.toNatClampNeg : Int) = Z9_10.toInt := znat (by first | omega | decide)
    have hgzZ9_10_0 : Z9_10.toNatClampNeg = 0 := by omega
    have hb14 := hR_m.si hsi10
    obtain ⟨fu9, hfu9⟩ := (hb14).unk
    refine zp_seg (pc' := 15) (lv' := [(2, .int 1), (0, .ref m), (1, .int to)]) (st' := []) [(13, .iconst 1), (14, .istore_n 2)] (by decide +kernel) rfl ?_
    have hL15 : ∀ (mm15 : Nat) (wL15 : zM) (y2_15 : Int32) (ua : Nat → Int32), (zSI w10 wL15) → (∀ x, ((x < m + 212 ∨ m + 212 + 62 ≤ x)) ∧ x ≠ m → wL15 x = w10 x) → (1 ≤ y2_15.toInt) → (y2_15.toInt ≤ 5) → (zGr wL15 (m + 212) 60 46) → (wL15 (m + 273) = some (.inr (0, 46, .inl ua))) → (wL15 m = some (.inl (15, zMo m (zs (zs (zs g 1 Z9_10) 3 Z9_10) 16 Z9_10) r))) → (20 - y2_15.toInt).toNat < mm15 → zP (d + 1) zq_X16_guess 15 [(0, .ref m), (1, .int to), (2, .int y2_15)] [] wL15 sz 0 0 Post := by
      intro mm15
      induction mm15 with
      | zero => intros; omega
      | succ mm15 ih15 =>
      intro wL15 y2_15 ua hsiL15 heqL15 hi15_0 hi15_1 hGa hAa hmL15 hmu15
      have ky2_15 := zrng y2_15
      have hz15 : (y2_15.toNatClampNeg : Int) = y2_15.toInt := znat (by first | omega | decide)
      refine zp_seg (pc' := 17) (lv' := [(0, .ref m), (1, .int to), (2, .int y2_15)]) (st' := [.int 4, .int y2_15]) [(15, .iload_n 2), (16, .iconst 4)] (by decide +kernel) rfl ?_
      refine zp_if (i := .if_icmp .gt 58) (c := 4 < y2_15) (t := 75) (e := 20) (lv' := [(0, .ref m), (1, .int to), (2, .int y2_15)]) (st' := []) (by decide +kernel) rfl (fun cc17 => ?_) (fun cc17 => ?_)
      ·
        have f17 := zltI cc17
        rw [show (4 : Int32).toInt = 4 from by decide] at f17
        refine zp_seg (pc' := 76) (lv' := [(0, .ref m), (1, .int to), (2, .int y2_15)]) (st' := [.int (Int32.ofInt (-1))]) [(75, .iconst (-1))] (by decide +kernel) rfl ?_
        have hoffend : ∀ x, (x < m + 0 ∨ m + 0 + 8322 ≤ x) → wL15 x = w x := fun x hx => ((heqL15 x ⟨(zx_X16_guess_1 hx), (zx_X16_guess_2 hx)⟩).trans (heq10 x (zx_X16_guess_0 hx)))
        have hb18 := hb14.si hsiL15
        have hb19 : zSlo wL15 (m + 7486) := hSl0.ag (fun x hx1 hx2 => ((heqL15 x ⟨(zx_X16_guess_4 hx1 hx2), (zx_X16_guess_5 hx1 hx2)⟩).trans (heq10 x (zx_X16_guess_3 hx1 hx2))))
        have hb20 : zTm wL15 (m + 83) := hMd0.ag (fun x hx1 hx2 => ((heqL15 x ⟨(zx_X16_guess_7 hx1 hx2), (zx_X16_guess_8 hx1 hx2)⟩).trans (heq10 x (zx_X16_guess_6 hx1 hx2))))
        have hb21 : zPil wL15 (m + 6316) := hPl0.ag (fun x hx1 hx2 => ((heqL15 x ⟨(zx_X16_guess_10 hx1 hx2), (zx_X16_guess_11 hx1 hx2)⟩).trans (heq10 x (zx_X16_guess_9 hx1 hx2))))
        have hb22 : zBya wL15 (m + 92) 4000 := hBo0.ag (fun x hx1 hx2 => ((heqL15 x ⟨(zx_X16_guess_13 hx1 hx2), (zx_X16_guess_14 hx1 hx2)⟩).trans (heq10 x (zx_X16_guess_12 hx1 hx2))))
        have hb23 : zBya wL15 (m + 93) 4000 := hBl0.ag (fun x hx1 hx2 => ((heqL15 x ⟨(zx_X16_guess_16 hx1 hx2), (zx_X16_guess_17 hx1 hx2)⟩).trans (heq10 x (zx_X16_guess_15 hx1 hx2))))
        have hb24 : zGr wL15 (m + 100) 48 48 := hGa0.ag (fun x hx1 hx2 => ((heqL15 x ⟨(zx_X16_guess_19 hx1 hx2), (zx_X16_guess_20 hx1 hx2)⟩).trans (heq10 x (zx_X16_guess_18 hx1 hx2))))
        have hb25 : zBd wL15 (m + 149) := hBd0.ag (fun x hx1 hx2 => ((heqL15 x ⟨(zx_X16_guess_22 hx1 hx2), (zx_X16_guess_23 hx1 hx2)⟩).trans (heq10 x (zx_X16_guess_21 hx1 hx2))))
        have hb26 : wL15 (m + 94) = some (.inr (0, 60, .inl ff)) := ((heqL15 (m + 94) ⟨(zx_X16_guess_25), (zx_X16_guess_26)⟩).trans (heq10 (m + 94) (zx_X16_guess_24))).trans hAf0
        refine zr_retI (by decide +kernel) rfl ?_
        rw [← hPost]; exact ⟨rfl, _, rfl, (hsi10.tr hsiL15), hoffend, ⟨_, _, hmL15, hb18, hb19, hb20, hb21, ⟨_, hb26, hff⟩, hb22, hb23, hb24, hGa, hb25, hI12, hI24, hI29, hI31, hIn⟩, _, rfl, trivial⟩
      ·
        have f29 := znltI cc17
        rw [show (4 : Int32).toInt = 4 from by decide] at f29
        refine zp_seg (pc' := 22) (lv' := [(3, .int 0), (0, .ref m), (1, .int to), (2, .int y2_15)]) (st' := []) [(20, .iconst 0), (21, .istore_n 3)] (by decide +kernel) rfl ?_
        have hL22 : ∀ (mm22 : Nat) (wL22 : zM) (y3_22 : Int32) (ub : Nat → Int32), (zSI wL15 wL22) → (∀ x, ((x < m + 212 ∨ m + 212 + 62 ≤ x)) ∧ x ≠ m → wL22 x = wL15 x) → (0 ≤ y3_22.toInt) → (y3_22.toInt ≤ 9) → (zGr wL22 (m + 212) 60 46) → (wL22 (m + 273) = some (.inr (0, 46, .inl ub))) → (wL22 m = some (.inl (15, zMo m (zs (zs (zs g 1 Z9_10) 3 Z9_10) 16 Z9_10) r))) → (20 - y3_22.toInt).toNat < mm22 → zP (d + 1) zq_X16_guess 22 [(0, .ref m), (1, .int to), (2, .int y2_15), (3, .int y3_22)] [] wL22 sz 0 0 Post := by
          intro mm22
          induction mm22 with
          | zero => intros; omega
          | succ mm22 ih22 =>
          intro wL22 y3_22 ub hsiL22 heqL22 hi22_0 hi22_1 hGb hAb hmL22 hmu22
          have ky3_22 := zrng y3_22
          have hz30 : (y3_22.toNatClampNeg : Int) = y3_22.toInt := znat (by first | omega | decide)
          refine zp_seg (pc' := 25) (lv' := [(0, .ref m), (1, .int to), (2, .int y2_15), (3, .int y3_22)]) (st' := [.int 8, .int y3_22]) [(22, .iload_n 3), (23, .bipush 8)] (by decide +kernel) rfl ?_
          refine zp_if (i := .if_icmp .gt 44) (c := 8 < y3_22) (t := 69) (e := 28) (lv' := [(0, .ref m), (1, .int to), (2, .int y2_15), (3, .int y3_22)]) (st' := []) (by decide +kernel) rfl (fun cc25 => ?_) (fun cc25 => ?_)
          ·
            have f32 := zltI cc25
            rw [show (8 : Int32).toInt = 8 from by decide] at f32
            refine zp_seg (pc' := 72) (lv' := [(2, .int (y2_15 + 1)), (0, .ref m), (1, .int to), (3, .int y3_22)]) (st' := []) [(69, .iinc 2 1)] (by decide +kernel) rfl ?_
            have k33 := zaddC y2_15 1 (n := 1) (by decide) (by omega) (by omega)
            generalize ev72 : (y2_15 + 1 : Int32) = v72 at k33 ⊢
            have kv72 := zrng v72
            refine zp_seg (pc' := 15) (lv' := [(2, .int v72), (0, .ref m), (1, .int to), (3, .int y3_22)]) (st' := []) [(72, .goto (-57))] (by decide +kernel) rfl ?_
            have hz34 : (v72.toNatClampNeg : Int) = v72.toInt := znat (by first | omega | decide)
            exact (ih15 wL22 v72 (ub) (hsiL15.tr hsiL22) (fun x hx => ((heqL22 x ⟨hx.1, hx.2⟩).trans (heqL15 x ⟨hx.1, hx.2⟩))) (by first | assumption | omega | decide) (by first | assumption | omega | decide) hGb hAb hmL22 (by omega)).more (zfa1 rfl (zfa1 rfl (zfa1 rfl (zfa0))))
          ·
            have f36 := znltI cc25
            rw [show (8 : Int32).toInt = 8 from by decide] at f36
            refine zp_seg (pc' := 31) (lv' := [(0, .ref m), (1, .int to), (2, .int y2_15), (3, .int y3_22)]) (st' := [.int (y2_15 + 1)]) [(28, .iload_n 2), (29, .iconst 1), (30, .iadd)] (by decide +kernel) rfl ?_
            have k37 := zaddC y2_15 1 (n := 1) (by decide) (by omega) (by omega)
            generalize ev31 : (y2_15 + 1 : Int32) = v31 at k37 ⊢
            have kv31 := zrng v31
            refine zp_seg (pc' := 34) (lv' := [(0, .ref m), (1, .int to), (2, .int y2_15), (3, .int y3_22)]) (st' := [.int (y3_22 + 1), .int v31]) [(31, .iload_n 3), (32, .iconst 1), (33, .iadd)] (by decide +kernel) rfl ?_
            have k38 := zaddC y3_22 1 (n := 1) (by decide) (by omega) (by omega)
            generalize ev34 : (y3_22 + 1 : Int32) = v34 at k38 ⊢
            have kv34 := zrng v34
            refine zp_seg (pc' := 35) (lv' := [(0, .ref m), (1, .int to), (2, .int y2_15), (3, .int y3_22)]) (st' := [.int (v31 * v34)]) [(34, .imul)] (by decide +kernel) rfl ?_
            have k39 := zmulM v31 v34
            generalize ev35 : (v31 * v34 : Int32) = v35 at k39 ⊢
            have kv35 := zrng v35
            have hpr9 : v31.toInt * v34.toInt = (y2_15.toInt + 1) * (y3_22.toInt + 1) := by rw [show v31.toInt = y2_15.toInt + 1 by omega, show v34.toInt = y3_22.toInt + 1 by omega]
            have hcm9 := zmul_le (x := y2_15.toInt + 1) (y := y3_22.toInt + 1) (a := 5) (b := 9) ⟨by omega, by omega⟩ ⟨by omega, by omega⟩
            refine zp_seg (pc' := 37) (lv' := [(0, .ref m), (1, .int to), (2, .int y2_15), (3, .int y3_22)]) (st' := [.int (v35 + 4)]) [(35, .iconst 4), (36, .iadd)] (by decide +kernel) rfl ?_
            have k40 := zaddC v35 4 (n := 4) (by decide) (by omega) (by omega)
            generalize ev37 : (v35 + 4 : Int32) = v37 at k40 ⊢
            have kv37 := zrng v37
            refine zp_seg (pc' := 38) (lv' := [(0, .ref m), (1, .int to), (2, .int y2_15), (3, .int y3_22)]) (st' := [.ref m, .int v37]) [(37, .aload_n 0)] (by decide +kernel) rfl ?_
            refine zr_get (idx := 607) (k := 29) (v := .int (g 29)) (by decide +kernel) (by decide +kernel) hmL22 rfl ?_
            refine zp_seg (pc' := 43) (lv' := [(0, .ref m), (1, .int to), (2, .int y2_15), (3, .int y3_22)]) (st' := [.int ((g 29) - y2_15), .int v37]) [(41, .iload_n 2), (42, .isub)] (by decide +kernel) rfl ?_
            have k41 := zsub ((g 29)) y2_15 (by omega) (by omega)
            generalize ev43 : ((g 29) - y2_15 : Int32) = v43 at k41 ⊢
            have kv43 := zrng v43
            refine zp_if (i := .if_icmp .gt 26) (c := v43 < v37) (t := 69) (e := 46) (lv' := [(0, .ref m), (1, .int to), (2, .int y2_15), (3, .int y3_22)]) (st' := []) (by decide +kernel) rfl (fun cc43 => ?_) (fun cc43 => ?_)
            ·
              have f42 := zltI cc43
              refine zp_seg (pc' := 72) (lv' := [(2, .int (y2_15 + 1)), (0, .ref m), (1, .int to), (3, .int y3_22)]) (st' := []) [(69, .iinc 2 1)] (by decide +kernel) rfl ?_
              have k43 := zaddC y2_15 1 (n := 1) (by decide) (by omega) (by omega)
              generalize ev72 : (y2_15 + 1 : Int32) = v72 at k43 ⊢
              have kv72 := zrng v72
              refine zp_seg (pc' := 15) (lv' := [(2, .int v72), (0, .ref m), (1, .int to), (3, .int y3_22)]) (st' := []) [(72, .goto (-57))] (by decide +kernel) rfl ?_
              have hz44 : (v72.toNatClampNeg : Int) = v72.toInt := znat (by first | omega | decide)
              exact (ih15 wL22 v72 (ub) (hsiL15.tr hsiL22) (fun x hx => ((heqL22 x ⟨hx.1, hx.2⟩).trans (heqL15 x ⟨hx.1, hx.2⟩))) (by first | assumption | omega | decide) (by first | assumption | omega | decide) hGb hAb hmL22 (by omega)).more (zfa1 rfl (zfa1 rfl (zfa1 rfl (zfa0))))
            ·
              have f45 := znltI cc43
              refine zp_seg (pc' := 49) (lv' := [(0, .ref m), (1, .int to), (2, .int y2_15), (3, .int y3_22)]) (st' := [.int y3_22, .int y2_15, .ref m]) [(46, .aload_n 0), (47, .iload_n 2), (48, .iload_n 3)] (by decide +kernel) rfl ?_
              have hb46 := hb14.si (hsiL15.tr hsiL22)
              have hb47 : wL22 (m + 94) = some (.inr (0, 60, .inl ff)) := ((heqL22 (m + 94) ⟨(zx_X16_guess_25), (zx_X16_guess_26)⟩).trans ((heqL15 (m + 94) ⟨(zx_X16_guess_25), (zx_X16_guess_26)⟩).trans (heq10 (m + 94) (zx_X16_guess_24)))).trans hAf0
              refine zr_callV (idx := 806) (j := 416) (by decide +kernel) (by decide +kernel) (show zMe 416 = some zq_X16_tries from rfl) rfl rfl (Nat.le_of_ble_eq_true rfl) rfl rfl hmL22 (Nat.le_of_ble_eq_true rfl) (Nat.le_of_ble_eq_true rfl) (c_X16_triesG (w := wL22) (g29 := (g 29)) m y2_15 y3_22 hmL22 hb46 hGb hb47 hAb (by exact hff) (by first | omega | decide | assumption | exact zr1_1 | exact zr1_0 | fail "num") (by exact ⟨by omega, by omega, by omega⟩) rfl) (by omega) (fun v49 w49 hp49 => ?_)
              obtain ⟨F9_49, hsi49, heq49, hp49_0, hp49_1, r49, rfl, hrb49, hr49⟩ := hp49
              have kr49 := zrng r49
              show zP _ _ _ _ [.int r49] _ _ _ _ _
              refine zp_if (i := .ifCond .eq 11) (c := r49 = 0) (t := 63) (e := 55) (lv' := [(0, .ref m), (1, .int to), (2, .int y2_15), (3, .int y3_22)]) (st' := []) (by decide +kernel) rfl (fun cc52 => ?_) (fun cc52 => ?_)
              ·
                have f48 := zeqI cc52
                rw [show (0 : Int32).toInt = 0 from by decide] at f48
                refine zp_seg (pc' := 66) (lv' := [(3, .int (y3_22 + 1)), (0, .ref m), (1, .int to), (2, .int y2_15)]) (st' := []) [(63, .iinc 3 1)] (by decide +kernel) rfl ?_
                have k49 := zaddC y3_22 1 (n := 1) (by decide) (by omega) (by omega)
                generalize ev66 : (y3_22 + 1 : Int32) = v66 at k49 ⊢
                have kv66 := zrng v66
                refine zp_seg (pc' := 22) (lv' := [(3, .int v66), (0, .ref m), (1, .int to), (2, .int y2_15)]) (st' := []) [(66, .goto (-44))] (by decide +kernel) rfl ?_
                have hz50 : (v66.toNatClampNeg : Int) = v66.toInt := znat (by first | omega | decide)
                have hb51 : w49 m = some (.inl (15, zMo m (zs (zs (zs g 1 Z9_10) 3 Z9_10) 16 Z9_10) r)) := (heq49 m ⟨(zx_X16_guess_29), (zx_X16_guess_30)⟩).trans hmL22
                exact (ih22 w49 v66 (F9_49) (hsiL22.tr hsi49) (fun x hx => ((heq49 x ⟨(zx_X16_guess_27 hx.1), (zx_X16_guess_28 hx.1)⟩).trans (heqL22 x ⟨hx.1, hx.2⟩))) (by first | assumption | omega | decide) (by first | assumption | omega | decide) hp49_0 hp49_1 hb51 (by omega)).more (zfa1 rfl (zfa1 rfl (zfa1 rfl (zfa1 rfl (zfa0)))))
              ·
                have f52 := zneI cc52
                rw [show (0 : Int32).toInt = 0 from by decide] at f52
                have hco9 := hr49 (hrb49.resolve_left cc52)
                have hz53 : (to.toNatClampNeg : Int) = to.toInt := znat (by first | omega | decide)
                have hb54 : zSlo w49 (m + 7486) := hSl0.ag (fun x hx1 hx2 => ((heq49 x ⟨(zx_X16_guess_31 hx1 hx2), (zx_X16_guess_32 hx1 hx2)⟩).trans ((heqL22 x ⟨(zx_X16_guess_4 hx1 hx2), (zx_X16_guess_5 hx1 hx2)⟩).trans ((heqL15 x ⟨(zx_X16_guess_4 hx1 hx2), (zx_X16_guess_5 hx1 hx2)⟩).trans (heq10 x (zx_X16_guess_3 hx1 hx2))))))
                obtain ⟨kT, hkT⟩ := hb54 to.toNatClampNeg (by omega)
                refine zp_seg (pc' := 59) (lv' := [(0, .ref m), (1, .int to), (2, .int y2_15), (3, .int y3_22)]) (st' := [.int to, .int y3_22, .int y2_15, .ref m]) [(55, .aload_n 0), (56, .iload_n 2), (57, .iload_n 3), (58, .iload_n 1)] (by decide +kernel) rfl ?_
                have hb55 : w49 m = some (.inl (15, zMo m (zs (zs (zs g 1 Z9_10) 3 Z9_10) 16 Z9_10) r)) := (heq49 m ⟨(zx_X16_guess_29), (zx_X16_guess_30)⟩).trans hmL22
                have hb56 := hb46.si hsi49
                have hb57 : zTm w49 (m + 83) := hMd0.ag (fun x hx1 hx2 => ((heq49 x ⟨(zx_X16_guess_33 hx1 hx2), (zx_X16_guess_34 hx1 hx2)⟩).trans ((heqL22 x ⟨(zx_X16_guess_7 hx1 hx2), (zx_X16_guess_8 hx1 hx2)⟩).trans ((heqL15 x ⟨(zx_X16_guess_7 hx1 hx2), (zx_X16_guess_8 hx1 hx2)⟩).trans (heq10 x (zx_X16_guess_6 hx1 hx2))))))
                have hb58 : w49 (m + 94) = some (.inr (0, 60, .inl ff)) := (heq49 (m + 94) ⟨(zx_X16_guess_35), (zx_X16_guess_36)⟩).trans hb47
                refine zr_callV (idx := 810) (j := 418) (by decide +kernel) (by decide +kernel) (show zMe 418 = some zq_X16_guessed from rfl) rfl rfl (Nat.le_of_ble_eq_true rfl) rfl rfl hb55 (Nat.le_of_ble_eq_true rfl) (Nat.le_of_ble_eq_true rfl) (c_X16_guessedG (w := w49) (g1 := Z9_10) (g29 := (g 29)) m y2_15 y3_22 to hb55 hb56 hb57 hkT hb58 hp49_1 (by first | omega | decide | assumption | exact zr1_1 | exact zr1_0 | fail "num") (by exact hff) (by exact hco9) (by first | omega | decide | assumption | exact zr1_1 | exact zr1_0 | fail "num") (by exact ⟨by omega, by omega⟩) (by first | omega | decide | assumption | exact zr1_1 | exact zr1_0 | fail "num") rfl rfl) (by omega) (fun v59 w59 hp59 => ?_)
                obtain ⟨X9_59, L9_59, hsi59, heq59, hp59_0, hp59_1, hp59_2, r59, rfl, hr59⟩ := hp59
                have hM59 : w59 m = some (.inl (15, zMo m (zs (zs (zs g 1 X9_59) 3 Z9_10) 16 Z9_10) r)) := hp59_0
                have kr59 := zrng r59
                show zP _ _ _ _ [.int r59] _ _ _ _ _
                have hSl62 := hSl0.up (w' := w59) to.toNatClampNeg hp59_2 (fun x h1 h2 h3 => ((heq59 x (by omega)).trans ((heq49 x (by omega)).trans ((heqL22 x (by omega)).trans ((heqL15 x (by omega)).trans (heq10 x (by omega)))))))
                have hoffend : ∀ x, (x < m + 0 ∨ m + 0 + 8322 ≤ x) → w59 x = w x := fun x hx => ((heq59 x (by omega)).trans ((heq49 x ⟨(zx_X16_guess_37 hx), (zx_X16_guess_38 hx)⟩).trans ((heqL22 x ⟨(zx_X16_guess_1 hx), (zx_X16_guess_2 hx)⟩).trans ((heqL15 x ⟨(zx_X16_guess_1 hx), (zx_X16_guess_2 hx)⟩).trans (heq10 x (zx_X16_guess_0 hx))))))
                have hb59 := hb56.si hsi59
                have hb60 : zPil w59 (m + 6316) := hPl0.ag (fun x hx1 hx2 => ((heq59 x (by omega)).trans ((heq49 x ⟨(zx_X16_guess_41 hx1 hx2), (zx_X16_guess_42 hx1 hx2)⟩).trans ((heqL22 x ⟨(zx_X16_guess_10 hx1 hx2), (zx_X16_guess_11 hx1 hx2)⟩).trans ((heqL15 x ⟨(zx_X16_guess_10 hx1 hx2), (zx_X16_guess_11 hx1 hx2)⟩).trans (heq10 x (zx_X16_guess_9 hx1 hx2)))))))
                have hb61 : zBya w59 (m + 92) 4000 := hBo0.ag (fun x hx1 hx2 => ((heq59 x (by omega)).trans ((heq49 x ⟨(zx_X16_guess_45 hx1 hx2), (zx_X16_guess_46 hx1 hx2)⟩).trans ((heqL22 x ⟨(zx_X16_guess_13 hx1 hx2), (zx_X16_guess_14 hx1 hx2)⟩).trans ((heqL15 x ⟨(zx_X16_guess_13 hx1 hx2), (zx_X16_guess_14 hx1 hx2)⟩).trans (heq10 x (zx_X16_guess_12 hx1 hx2)))))))
                have hb62 : zBya w59 (m + 93) 4000 := hBl0.ag (fun x hx1 hx2 => ((heq59 x (by omega)).trans ((heq49 x ⟨(zx_X16_guess_49 hx1 hx2), (zx_X16_guess_50 hx1 hx2)⟩).trans ((heqL22 x ⟨(zx_X16_guess_16 hx1 hx2), (zx_X16_guess_17 hx1 hx2)⟩).trans ((heqL15 x ⟨(zx_X16_guess_16 hx1 hx2), (zx_X16_guess_17 hx1 hx2)⟩).trans (heq10 x (zx_X16_guess_15 hx1 hx2)))))))
                have hb63 : zGr w59 (m + 100) 48 48 := hGa0.ag (fun x hx1 hx2 => ((heq59 x (by omega)).trans ((heq49 x ⟨(zx_X16_guess_53 hx1 hx2), (zx_X16_guess_54 hx1 hx2)⟩).trans ((heqL22 x ⟨(zx_X16_guess_19 hx1 hx2), (zx_X16_guess_20 hx1 hx2)⟩).trans ((heqL15 x ⟨(zx_X16_guess_19 hx1 hx2), (zx_X16_guess_20 hx1 hx2)⟩).trans (heq10 x (zx_X16_guess_18 hx1 hx2)))))))
                have hb64 : zGr w59 (m + 212) 60 46 := hp49_0.ag (fun x hx1 hx2 => (heq59 x (by omega)))
                have hb65 : zBd w59 (m + 149) := hBd0.ag (fun x hx1 hx2 => ((heq59 x (by omega)).trans ((heq49 x ⟨(zx_X16_guess_60 hx1 hx2), (zx_X16_guess_61 hx1 hx2)⟩).trans ((heqL22 x ⟨(zx_X16_guess_22 hx1 hx2), (zx_X16_guess_23 hx1 hx2)⟩).trans ((heqL15 x ⟨(zx_X16_guess_22 hx1 hx2), (zx_X16_guess_23 hx1 hx2)⟩).trans (heq10 x (zx_X16_guess_21 hx1 hx2)))))))
                have hb66 : w59 (m + 94) = some (.inr (0, 60, .inl ff)) := (heq59 (m + 94) (by omega)).trans hb58
                refine zr_retI (by decide +kernel) rfl ?_
                rw [← hPost]; exact ⟨rfl, _, rfl, ((((hsi10.tr hsiL15).tr hsiL22).tr hsi49).tr hsi59), hoffend, ⟨_, _, hM59, hb59, hSl62, hp59_1, hb60, ⟨_, hb66, hff⟩, hb61, hb62, hb63, hb64, hb65, hI12, hI24, hI29, hI31, hIn⟩, _, rfl, trivial⟩
        have hl67 : (0 : Int32).toInt = 0 := by decide
        have hz68 : ((0 : Int32).toNatClampNeg : Int) = 0 := by decide
        exact (hL22 _ wL15 0 (ua) zSI.rf (fun _ _ => rfl) (by first | assumption | omega | decide) (by first | assumption | omega | decide) hGa hAa hmL15 (Nat.lt_succ_self _)).more (zfa1 rfl (zfa1 rfl (zfa1 rfl (zfa1 rfl (zfa0)))))
    have hl69 : (1 : Int32).toInt = 1 := by decide
    have hz70 : ((1 : Int32).toNatClampNeg : Int) = 1 := by decide
    have hb71 : zGr w10 (m + 212) 60 46 := hGb0.ag (fun x hx1 hx2 => (heq10 x (zx_X16_guess_57 hx1 hx2)))
    exact (hL15 _ w10 1 (fu9) zSI.rf (fun _ _ => rfl) (by first | assumption | omega | decide) (by first | assumption | omega | decide) hb71 hfu9 hM10 (Nat.lt_succ_self _)).more (zfa1 rfl (zfa1 rfl (zfa1 rfl (zfa0))))
  ·
    replace cc4 := Classical.not_not.mp cc4
    have f73 := zeqI cc4
    rw [show (0 : Int32).toInt = 0 from by decide] at f73
    refine zp_seg (pc' := 8) (lv' := [(0, .ref m), (1, .int to)]) (st' := [.int (Int32.ofInt (-1))]) [(7, .iconst (-1))] (by decide +kernel) rfl ?_
    have hoffend : ∀ x, (x < m + 0 ∨ m + 0 + 8322 ≤ x) → w x = w x := fun x hx => rfl
    refine zr_retI (by decide +kernel) rfl ?_
    rw [← hPost]; exact ⟨rfl, _, rfl, zSI.rf, hoffend, ⟨_, _, hm, hR_m, hSl0, hMd0, hPl0, ⟨_, hAf0, hff⟩, hBo0, hBl0, hGa0, hGb0, hBd0, hI12, hI24, hI29, hI31, hIn⟩, _, rfl, trivial⟩
