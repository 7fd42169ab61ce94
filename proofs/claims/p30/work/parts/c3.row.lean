theorem zx_X16_row_0 {m x : Nat} (h0 : x < m + 0 ∨ m + 0 + 8322 ≤ x) : x < m ∨ m + 1 ≤ x := by omega
theorem zx_X16_row_1 {m x : Nat} (h0 : x < m + 0 ∨ m + 0 + 8322 ≤ x) : x < m + 193 ∨ m + 193 + 1 ≤ x := by omega
theorem zx_X16_row_2 {GZ9_35_0 m x : Nat} (h0 : x < m + 0 ∨ m + 0 + 8322 ≤ x) (h1 : GZ9_35_0 = 0) : x < m + 276 + 2 * GZ9_35_0 ∨ m + 276 + 2 * GZ9_35_0 + 320 ≤ x := by omega
theorem zx_X16_row_3 {m x : Nat} (h0 : x < m + 0 ∨ m + 0 + 8322 ≤ x) : x ≠ m := by omega
theorem zx_X16_row_4 {m x : Nat} (h0 : m + 7486 ≤ x) (h1 : x < m + 7486 + 108) : x < m ∨ m + 1 ≤ x := by omega
theorem zx_X16_row_5 {m x : Nat} (h0 : m + 7486 ≤ x) (h1 : x < m + 7486 + 108) : x < m + 193 ∨ m + 193 + 1 ≤ x := by omega
theorem zx_X16_row_6 {GZ9_35_0 m x : Nat} (h0 : m + 7486 ≤ x) (h1 : x < m + 7486 + 108) (h2 : GZ9_35_0 = 0) : x < m + 276 + 2 * GZ9_35_0 ∨ m + 276 + 2 * GZ9_35_0 + 320 ≤ x := by omega
theorem zx_X16_row_7 {m x : Nat} (h0 : m + 7486 ≤ x) (h1 : x < m + 7486 + 108) : x ≠ m := by omega
theorem zx_X16_row_8 {m x : Nat} (h0 : m + 83 ≤ x) (h1 : x < m + 83 + 9) : x < m ∨ m + 1 ≤ x := by omega
theorem zx_X16_row_9 {m x : Nat} (h0 : m + 83 ≤ x) (h1 : x < m + 83 + 9) : x < m + 193 ∨ m + 193 + 1 ≤ x := by omega
theorem zx_X16_row_10 {GZ9_35_0 m x : Nat} (h0 : m + 83 ≤ x) (h1 : x < m + 83 + 9) (h2 : GZ9_35_0 = 0) : x < m + 276 + 2 * GZ9_35_0 ∨ m + 276 + 2 * GZ9_35_0 + 320 ≤ x := by omega
theorem zx_X16_row_11 {m x : Nat} (h0 : m + 83 ≤ x) (h1 : x < m + 83 + 9) : x ≠ m := by omega
theorem zx_X16_row_12 {m x : Nat} (h0 : m + 6316 ≤ x) (h1 : x < m + 6316 + 1170) : x < m ∨ m + 1 ≤ x := by omega
theorem zx_X16_row_13 {m x : Nat} (h0 : m + 6316 ≤ x) (h1 : x < m + 6316 + 1170) : x < m + 193 ∨ m + 193 + 1 ≤ x := by omega
theorem zx_X16_row_14 {GZ9_35_0 m x : Nat} (h0 : m + 6316 ≤ x) (h1 : x < m + 6316 + 1170) (h2 : GZ9_35_0 = 0) : x < m + 276 + 2 * GZ9_35_0 ∨ m + 276 + 2 * GZ9_35_0 + 320 ≤ x := by omega
theorem zx_X16_row_15 {m x : Nat} (h0 : m + 6316 ≤ x) (h1 : x < m + 6316 + 1170) : x ≠ m := by omega
theorem zx_X16_row_16 {m x : Nat} (h0 : m + 92 ≤ x) (h1 : x < m + 92 + 1) : x < m ∨ m + 1 ≤ x := by omega
theorem zx_X16_row_17 {m x : Nat} (h0 : m + 92 ≤ x) (h1 : x < m + 92 + 1) : x < m + 193 ∨ m + 193 + 1 ≤ x := by omega
theorem zx_X16_row_18 {GZ9_35_0 m x : Nat} (h0 : m + 92 ≤ x) (h1 : x < m + 92 + 1) (h2 : GZ9_35_0 = 0) : x < m + 276 + 2 * GZ9_35_0 ∨ m + 276 + 2 * GZ9_35_0 + 320 ≤ x := by omega
theorem zx_X16_row_19 {m x : Nat} (h0 : m + 92 ≤ x) (h1 : x < m + 92 + 1) : x ≠ m := by omega
theorem zx_X16_row_20 {m x : Nat} (h0 : m + 93 ≤ x) (h1 : x < m + 93 + 1) : x < m ∨ m + 1 ≤ x := by omega
theorem zx_X16_row_21 {m x : Nat} (h0 : m + 93 ≤ x) (h1 : x < m + 93 + 1) : x < m + 193 ∨ m + 193 + 1 ≤ x := by omega
theorem zx_X16_row_22 {GZ9_35_0 m x : Nat} (h0 : m + 93 ≤ x) (h1 : x < m + 93 + 1) (h2 : GZ9_35_0 = 0) : x < m + 276 + 2 * GZ9_35_0 ∨ m + 276 + 2 * GZ9_35_0 + 320 ≤ x := by omega
theorem zx_X16_row_23 {m x : Nat} (h0 : m + 93 ≤ x) (h1 : x < m + 93 + 1) : x ≠ m := by omega
theorem zx_X16_row_24 {m x : Nat} (h0 : m + 100 ≤ x) (h1 : x < m + 100 + 49) : x < m ∨ m + 1 ≤ x := by omega
theorem zx_X16_row_25 {m x : Nat} (h0 : m + 100 ≤ x) (h1 : x < m + 100 + 49) : x < m + 193 ∨ m + 193 + 1 ≤ x := by omega
theorem zx_X16_row_26 {GZ9_35_0 m x : Nat} (h0 : m + 100 ≤ x) (h1 : x < m + 100 + 49) (h2 : GZ9_35_0 = 0) : x < m + 276 + 2 * GZ9_35_0 ∨ m + 276 + 2 * GZ9_35_0 + 320 ≤ x := by omega
theorem zx_X16_row_27 {m x : Nat} (h0 : m + 100 ≤ x) (h1 : x < m + 100 + 49) : x ≠ m := by omega
theorem zx_X16_row_28 {m x : Nat} (h0 : m + 212 ≤ x) (h1 : x < m + 212 + 61) : x < m ∨ m + 1 ≤ x := by omega
theorem zx_X16_row_29 {m x : Nat} (h0 : m + 212 ≤ x) (h1 : x < m + 212 + 61) : x < m + 193 ∨ m + 193 + 1 ≤ x := by omega
theorem zx_X16_row_30 {GZ9_35_0 m x : Nat} (h0 : m + 212 ≤ x) (h1 : x < m + 212 + 61) (h2 : GZ9_35_0 = 0) : x < m + 276 + 2 * GZ9_35_0 ∨ m + 276 + 2 * GZ9_35_0 + 320 ≤ x := by omega
theorem zx_X16_row_31 {m x : Nat} (h0 : m + 212 ≤ x) (h1 : x < m + 212 + 61) : x ≠ m := by omega
theorem zx_X16_row_32 {m x : Nat} (h0 : m + 149 ≤ x) (h1 : x < m + 149 + 27) : x < m ∨ m + 1 ≤ x := by omega
theorem zx_X16_row_33 {m x : Nat} (h0 : m + 149 ≤ x) (h1 : x < m + 149 + 27) : x < m + 193 ∨ m + 193 + 1 ≤ x := by omega
theorem zx_X16_row_34 {GZ9_35_0 m x : Nat} (h0 : m + 149 ≤ x) (h1 : x < m + 149 + 27) (h2 : GZ9_35_0 = 0) : x < m + 276 + 2 * GZ9_35_0 ∨ m + 276 + 2 * GZ9_35_0 + 320 ≤ x := by omega
theorem zx_X16_row_35 {m x : Nat} (h0 : m + 149 ≤ x) (h1 : x < m + 149 + 27) : x ≠ m := by omega
theorem zx_X16_row_36 {m : Nat}  : (m + 94) < m ∨ m + 1 ≤ (m + 94) := by omega
theorem zx_X16_row_37 {m : Nat}  : (m + 94) < m + 193 ∨ m + 193 + 1 ≤ (m + 94) := by omega
theorem zx_X16_row_38 {GZ9_35_0 m : Nat} (h0 : GZ9_35_0 = 0) : (m + 94) < m + 276 + 2 * GZ9_35_0 ∨ m + 276 + 2 * GZ9_35_0 + 320 ≤ (m + 94) := by omega
theorem zx_X16_row_39 {m : Nat}  : (m + 94) ≠ m := by omega
theorem zx_X16_row_40 {m : Nat}  : m ≠ m + 83 := by omega
theorem zx_X16_row_41 {m : Nat}  : (m + 83 + 1) < m ∨ m + 1 ≤ (m + 83 + 1) := by omega
theorem zx_X16_row_42 {m : Nat}  : (m + 83 + 1) ≠ m + 83 := by omega
theorem zx_X16_row_43 {m : Nat}  : (m + 83 + 2) < m ∨ m + 1 ≤ (m + 83 + 2) := by omega
theorem zx_X16_row_44 {m : Nat}  : (m + 83 + 2) ≠ m + 83 := by omega
theorem zx_X16_row_45 {m : Nat}  : (m + 83 + 3) < m ∨ m + 1 ≤ (m + 83 + 3) := by omega
theorem zx_X16_row_46 {m : Nat}  : (m + 83 + 3) ≠ m + 83 := by omega
theorem zx_X16_row_47 {m : Nat}  : (m + 83 + 4) < m ∨ m + 1 ≤ (m + 83 + 4) := by omega
theorem zx_X16_row_48 {m : Nat}  : (m + 83 + 4) ≠ m + 83 := by omega
theorem zx_X16_row_49 {m : Nat}  : (m + 83 + 5) < m ∨ m + 1 ≤ (m + 83 + 5) := by omega
theorem zx_X16_row_50 {m : Nat}  : (m + 83 + 5) ≠ m + 83 := by omega
theorem zx_X16_row_51 {m : Nat}  : (m + 83 + 6) < m ∨ m + 1 ≤ (m + 83 + 6) := by omega
theorem zx_X16_row_52 {m : Nat}  : (m + 83 + 6) ≠ m + 83 := by omega
theorem zx_X16_row_53 {m : Nat}  : (m + 83 + 7) ≠ m + 83 := by omega
theorem zx_X16_row_54 {m : Nat}  : (m + 83 + 8) < m ∨ m + 1 ≤ (m + 83 + 8) := by omega
theorem zx_X16_row_55 {m : Nat}  : (m + 83 + 8) ≠ m + 83 := by omega
theorem zx_X16_row_56 {m x : Nat} (h0 : m + 7486 ≤ x) (h1 : x < m + 7486 + 108) : x ≠ m + 83 := by omega
theorem zx_X16_row_57 {m : Nat}  : (m + 82) < m ∨ m + 1 ≤ (m + 82) := by omega
theorem zx_X16_row_58 {m : Nat}  : (m + 82) < m + 193 ∨ m + 193 + 1 ≤ (m + 82) := by omega
theorem zx_X16_row_59 {GZ9_35_0 m : Nat} (h0 : GZ9_35_0 = 0) : (m + 82) < m + 276 + 2 * GZ9_35_0 ∨ m + 276 + 2 * GZ9_35_0 + 320 ≤ (m + 82) := by omega
theorem zx_X16_row_60 {m : Nat}  : (m + 82) ≠ m := by omega
theorem zx_X16_row_61 {m : Nat}  : (m + 82) ≠ m + 83 := by omega
theorem zx_X16_row_62 {m x : Nat} (h0 : x < m + 0 ∨ m + 0 + 8322 ≤ x) : x ≠ m + 83 := by omega
theorem zx_X16_row_63 {m x : Nat} (h0 : m + 6316 ≤ x) (h1 : x < m + 6316 + 1170) : x ≠ m + 83 := by omega
theorem zx_X16_row_64 {m x : Nat} (h0 : m + 92 ≤ x) (h1 : x < m + 92 + 1) : x ≠ m + 83 := by omega
theorem zx_X16_row_65 {m x : Nat} (h0 : m + 93 ≤ x) (h1 : x < m + 93 + 1) : x ≠ m + 83 := by omega
theorem zx_X16_row_66 {m x : Nat} (h0 : m + 100 ≤ x) (h1 : x < m + 100 + 49) : x ≠ m + 83 := by omega
theorem zx_X16_row_67 {m x : Nat} (h0 : m + 212 ≤ x) (h1 : x < m + 212 + 61) : x ≠ m + 83 := by omega
theorem zx_X16_row_68 {m x : Nat} (h0 : m + 149 ≤ x) (h1 : x < m + 149 + 27) : x ≠ m + 83 := by omega
theorem zx_X16_row_69 {m : Nat}  : (m + 94) ≠ m + 83 := by omega
theorem zx_X16_row_70 {m : Nat}  : (m + 193) < m ∨ m + 1 ≤ (m + 193) := by omega
theorem zx_X16_row_71 {m : Nat}  : m ≠ m + 193 := by omega
theorem zx_X16_row_72 {m x : Nat} (h0 : x < m + 193 ∨ m + 193 + 1 ≤ x) : x ≠ m + 193 := by omega
set_option maxHeartbeats 8000000 in
set_option maxRecDepth 100000 in
theorem c_X16_row {w : zM} {n9 : Int32} (m : Nat) (s9 : Int32) (to : Int32) (hI : zInv w m n9) : zCon 6 zq_X16_row [.ref m, .int s9, .int to] w (fun v9 w9' => zSI w w9' ∧ (∀ x, (x < m + 0 ∨ m + 0 + 8322 ≤ x) → w9' x = w x) ∧ zInv w9' m n9 ∧ ∃ r9 : Int32, v9 = some (.int r9) ∧ True) := by
  intro d sz hd
  obtain ⟨d, rfl⟩ : ∃ d9, d = d9 + 1 := ⟨d - 1, by omega⟩
  generalize hPost : (fun (r9' : Option (Option Value)) (w9' : zM) (z9 : Nat) => z9 = sz ∧ ∃ v9, r9' = some v9 ∧ (zSI w w9' ∧ (∀ x, (x < m + 0 ∨ m + 0 + 8322 ≤ x) → w9' x = w x) ∧ zInv w9' m n9 ∧ ∃ r9 : Int32, v9 = some (.int r9) ∧ True)) = Post
  show zP (d + 1) zq_X16_row 0 [(0, .ref m), (1, .int s9), (2, .int to)] [] w sz 0 0 Post
  have k1 := zrng s9
  have k2 := zrng to
  obtain ⟨g, r, hm, hR_m, hSl0, hMd0, hPl0, ⟨ff, hAf0, hff⟩, hBo0, hBl0, hGa0, hGb0, hBd0, hI12, hI24, hI29, hI31, hIn⟩ := hI
  have k3 := zrng (g 12)
  have hz4 : ((g 12).toNatClampNeg : Int) = (g 12).toInt := znat (by first | omega | decide)
  have k5 := zrng (g 24)
  have hz6 : ((g 24).toNatClampNeg : Int) = (g 24).toInt := znat (by first | omega | decide)
  have k7 := zrng (g 29)
  have hz8 : ((g 29).toNatClampNeg : Int) = (g 29).toInt := znat (by first | omega | decide)
  have k9 := zrng (g 31)
  have hz10 : ((g 31).toNatClampNeg : Int) = (g 31).toInt := znat (by first | omega | decide)
  refine zp_seg (pc' := 1) (lv' := [(0, .ref m), (1, .int s9), (2, .int to)]) (st' := [.int s9]) [(0, .iload_n 1)] (by decide +kernel) rfl ?_
  refine zr_callS (idx := 551) (j := 336) (by decide +kernel) (by decide +kernel) (by decide) (show zMe 336 = some zq_X16_isSlot from rfl) rfl rfl (Nat.le_of_ble_eq_true rfl) rfl rfl (Nat.le_of_ble_eq_true rfl) (Nat.le_of_ble_eq_true rfl) (c_X16_isSlot (w := w) s9 ) (by omega) (fun v1 w1 hp1 => ?_)
  obtain ⟨hpw1, r1, rfl, hrb1, hr1⟩ := hp1
  replace hpw1 := hpw1.symm
  subst hpw1
  have kr1 := zrng r1
  show zP _ _ _ _ [.int r1] _ _ _ _ _
  refine zp_if (i := .ifCond .eq 10) (c := r1 = 0) (t := 14) (e := 7) (lv' := [(0, .ref m), (1, .int s9), (2, .int to)]) (st' := []) (by decide +kernel) rfl (fun cc4 => ?_) (fun cc4 => ?_)
  ·
    have f12 := zeqI cc4
    rw [show (0 : Int32).toInt = 0 from by decide] at f12
    refine zp_seg (pc' := 15) (lv' := [(0, .ref m), (1, .int s9), (2, .int to)]) (st' := [.int (Int32.ofInt (-1))]) [(14, .iconst (-1))] (by decide +kernel) rfl ?_
    have hoffend : ∀ x, (x < m + 0 ∨ m + 0 + 8322 ≤ x) → w x = w x := fun x hx => rfl
    refine zr_retI (by decide +kernel) rfl ?_
    rw [← hPost]; exact ⟨rfl, _, rfl, zSI.rf, hoffend, ⟨_, _, hm, hR_m, hSl0, hMd0, hPl0, ⟨_, hAf0, hff⟩, hBo0, hBl0, hGa0, hGb0, hBd0, hI12, hI24, hI29, hI31, hIn⟩, _, rfl, trivial⟩
  ·
    have f15 := zneI cc4
    rw [show (0 : Int32).toInt = 0 from by decide] at f15
    refine zp_seg (pc' := 8) (lv' := [(0, .ref m), (1, .int s9), (2, .int to)]) (st' := [.int to]) [(7, .iload_n 2)] (by decide +kernel) rfl ?_
    refine zr_callS (idx := 551) (j := 336) (by decide +kernel) (by decide +kernel) (by decide) (show zMe 336 = some zq_X16_isSlot from rfl) rfl rfl (Nat.le_of_ble_eq_true rfl) rfl rfl (Nat.le_of_ble_eq_true rfl) (Nat.le_of_ble_eq_true rfl) (c_X16_isSlot (w := w) to ) (by omega) (fun v8 w8 hp8 => ?_)
    obtain ⟨hpw8, r8, rfl, hrb8, hr8⟩ := hp8
    replace hpw8 := hpw8.symm
    subst hpw8
    have kr8 := zrng r8
    show zP _ _ _ _ [.int r8] _ _ _ _ _
    refine zp_if (i := .ifCond .ne 5) (c := ¬ r8 = 0) (t := 16) (e := 14) (lv' := [(0, .ref m), (1, .int s9), (2, .int to)]) (st' := []) (by decide +kernel) rfl (fun cc11 => ?_) (fun cc11 => ?_)
    ·
      have f16 := zneI cc11
      rw [show (0 : Int32).toInt = 0 from by decide] at f16
      have his1 := hr1 (hrb1.resolve_left cc4)
      have his2 := hr8 (hrb8.resolve_left cc11)
      refine zp_seg (pc' := 17) (lv' := [(0, .ref m), (1, .int s9), (2, .int to)]) (st' := [.ref m]) [(16, .aload_n 0)] (by decide +kernel) rfl ?_
      refine zr_get (idx := 450) (k := 20) (v := .ref (m + 82)) (by decide +kernel) (by decide +kernel) hm rfl ?_
      refine zp_seg (pc' := 21) (lv' := [(0, .ref m), (1, .int s9), (2, .int to)]) (st' := [.int s9, .ref (m + 82)]) [(20, .iload_n 1)] (by decide +kernel) rfl ?_
      have hb18 := hR_m.slots
      have hz19 : (s9.toNatClampNeg : Int) = s9.toInt := znat (by first | omega | decide)
      refine zr_aald (v := .ref (m + 7486 + 9 * s9.toNatClampNeg)) (by decide +kernel) hb18 (by decide) (zin (by first | omega | decide) (by first | omega | decide)) (zsl_at (by omega)) ?_
      refine zp_seg (pc' := 23) (lv' := [(3, .ref (m + 7486 + 9 * s9.toNatClampNeg)), (0, .ref m), (1, .int s9), (2, .int to)]) (st' := []) [(22, .astore_n 3)] (by decide +kernel) rfl ?_
      obtain ⟨kS1, hkS1⟩ := hSl0 s9.toNatClampNeg (by omega)
      obtain ⟨g1, fn1, fd1, fa1, fb1, fc1, fe1, fr1, fu1, hT1, hAn1, hAd1, hAa1, hAb1, hAc1, hAe1, hAr1, hAu1, hK1⟩ := id hkS1
      obtain ⟨hK10, hKn1, hKd1, hKx1, hKm1, hKl1, hKr1, hKu1, hKk1⟩ := id hK1
      refine zp_seg (pc' := 24) (lv' := [(3, .ref (m + 7486 + 9 * s9.toNatClampNeg)), (0, .ref m), (1, .int s9), (2, .int to)]) (st' := [.ref (m + 7486 + 9 * s9.toNatClampNeg)]) [(23, .aload_n 3)] (by decide +kernel) rfl ?_
      refine zr_get (idx := 202) (k := 0) (v := .int (g1 0)) (by decide +kernel) (by decide +kernel) hT1 rfl ?_
      refine zp_seg (pc' := 28) (lv' := [(3, .ref (m + 7486 + 9 * s9.toNatClampNeg)), (0, .ref m), (1, .int s9), (2, .int to)]) (st' := [.int 3, .int (g1 0)]) [(27, .iconst 3)] (by decide +kernel) rfl ?_
      refine zp_if (i := .if_icmp .eq 6) (c := (g1 0) = 3) (t := 34) (e := 31) (lv' := [(3, .ref (m + 7486 + 9 * s9.toNatClampNeg)), (0, .ref m), (1, .int s9), (2, .int to)]) (st' := []) (by decide +kernel) rfl (fun cc28 => ?_) (fun cc28 => ?_)
      ·
        have k20 := zrng (g1 0)
        have f22 := zeqI cc28
        rw [show (3 : Int32).toInt = 3 from by decide] at f22
        have hk39 : kS1 = 3 := hK10.symm.trans cc28
        have hord9 := hKk1.2.2.2.2.1 hk39
        have k23 := zrng (g1 10)
        have hz24 : ((g1 10).toNatClampNeg : Int) = (g1 10).toInt := znat (by first | omega | decide)
        refine zp_seg (pc' := 35) (lv' := [(3, .ref (m + 7486 + 9 * s9.toNatClampNeg)), (0, .ref m), (1, .int s9), (2, .int to)]) (st' := [.ref m]) [(34, .aload_n 0)] (by decide +kernel) rfl ?_
        refine zr_callV (idx := 555) (j := 337) (by decide +kernel) (by decide +kernel) (show zMe 337 = some zq_X16_begin from rfl) rfl rfl (Nat.le_of_ble_eq_true rfl) rfl rfl hm (Nat.le_of_ble_eq_true rfl) (Nat.le_of_ble_eq_true rfl) (c_X16_beginZ (w := w) m hm hR_m) (by omega) (fun v35 w35 hp35 => ?_)
        obtain ⟨Z9_35, hsi35, heq35, hp35_0, hp35_1, rfl⟩ := hp35
        have hM35 : w35 m = some (.inl (15, zMo m (zs (zs (zs g 1 Z9_35) 3 Z9_35) 16 Z9_35) r)) := hp35_0
        show zP _ _ _ _ [] _ _ _ _ _
        have k25 := zrng Z9_35
        have hz26 : (Z9_35.toNatClampNeg : Int) = Z9_35.toInt := znat (by first | omega | decide)
        have hgzZ9_35_0 : Z9_35.toNatClampNeg = 0 := by omega
        refine zp_seg (pc' := 41) (lv' := [(4, .int 0), (3, .ref (m + 7486 + 9 * s9.toNatClampNeg)), (0, .ref m), (1, .int s9), (2, .int to)]) (st' := []) [(38, .iconst 0), (39, .istore 4)] (by decide +kernel) rfl ?_
        have hL41 : ∀ (mm41 : Nat) (wL41 : zM) (y4_41 : Int32) (xT : Int32) (fw : Nat → Option Nat) (Pg : Nat → zA1), (zSI w35 wL41) → (∀ x, ((x < m ∨ m + 1 ≤ x) ∧ (x < m + 193 ∨ m + 193 + 1 ≤ x) ∧ (x < m + 276 + 2 * Z9_35.toNatClampNeg ∨ m + 276 + 2 * Z9_35.toNatClampNeg + 320 ≤ x)) ∧ x ≠ m → wL41 x = w35 x) → (0 ≤ y4_41.toInt) → (y4_41.toInt ≤ (g1 10).toInt + 1) → (wL41 m = some (.inl (15, zMo m (zs (zs (zs g 1 xT) 3 Z9_35) 16 Z9_35) r))) → (wL41 (m + 193) = some (.inr (4, 8, .inr fw))) → (xT.toInt = Z9_35.toInt + y4_41.toInt) → (∀ t, t < y4_41.toNatClampNeg → fw t = some (m + 276 + 2 * Z9_35.toNatClampNeg + 2 * t)) → (∀ t, t < y4_41.toNatClampNeg → zU wL41 (m + 276 + 2 * Z9_35.toNatClampNeg + 2 * t) 1000 (Pg t) ∧ zln (Pg t) ≤ 25) → (20 - y4_41.toInt).toNat < mm41 → zP (d + 1) zq_X16_row 41 [(0, .ref m), (2, .int to), (3, .ref (m + 7486 + 9 * s9.toNatClampNeg)), (4, .int y4_41)] [] wL41 sz 0 0 Post := by
          intro mm41
          induction mm41 with
          | zero => intros; omega
          | succ mm41 ih41 =>
          intro wL41 y4_41 xT fw Pg hsiL41 heqL41 hi41_0 hi41_1 hxM hV9 hxT hfw hPg hmu41
          have ky4_41 := zrng y4_41
          have hz27 : (y4_41.toNatClampNeg : Int) = y4_41.toInt := znat (by first | omega | decide)
          refine zp_seg (pc' := 44) (lv' := [(0, .ref m), (2, .int to), (3, .ref (m + 7486 + 9 * s9.toNatClampNeg)), (4, .int y4_41)]) (st' := [.ref (m + 7486 + 9 * s9.toNatClampNeg), .int y4_41]) [(41, .iload 4), (43, .aload_n 3)] (by decide +kernel) rfl ?_
          have hb28 : wL41 (m + 7486 + 9 * s9.toNatClampNeg) = some (.inl (13, zTo (m + 7486 + 9 * s9.toNatClampNeg) g1)) := ((heqL41 (m + 7486 + 9 * s9.toNatClampNeg) (by omega)).trans (heq35 (m + 7486 + 9 * s9.toNatClampNeg) (by omega))).trans hT1
          refine zr_get (idx := 234) (k := 10) (v := .int (g1 10)) (by decide +kernel) (by decide +kernel) hb28 rfl ?_
          refine zp_if (i := .if_icmp .gt 39) (c := (g1 10) < y4_41) (t := 86) (e := 50) (lv' := [(0, .ref m), (2, .int to), (3, .ref (m + 7486 + 9 * s9.toNatClampNeg)), (4, .int y4_41)]) (st' := []) (by decide +kernel) rfl (fun cc47 => ?_) (fun cc47 => ?_)
          ·
            have f29 := zltI cc47
            refine zp_seg (pc' := 87) (lv' := [(0, .ref m), (2, .int to), (3, .ref (m + 7486 + 9 * s9.toNatClampNeg)), (4, .int y4_41)]) (st' := [.ref (m + 7486 + 9 * s9.toNatClampNeg)]) [(86, .aload_n 3)] (by decide +kernel) rfl ?_
            refine zr_get (idx := 234) (k := 10) (v := .int (g1 10)) (by decide +kernel) (by decide +kernel) hb28 rfl ?_
            refine zp_seg (pc' := 91) (lv' := [(0, .ref m), (2, .int to), (3, .ref (m + 7486 + 9 * s9.toNatClampNeg)), (4, .int y4_41)]) (st' := [.int 1, .int (g1 10)]) [(90, .iconst 1)] (by decide +kernel) rfl ?_
            refine zp_if (i := .if_icmp .lt 18) (c := (g1 10) < 1) (t := 109) (e := 94) (lv' := [(0, .ref m), (2, .int to), (3, .ref (m + 7486 + 9 * s9.toNatClampNeg)), (4, .int y4_41)]) (st' := []) (by decide +kernel) rfl (fun cc91 => ?_) (fun cc91 => ?_)
            ·
              have f31 := zltI cc91
              rw [show (1 : Int32).toInt = 1 from by decide] at f31
              refine zp_seg (pc' := 110) (lv' := [(0, .ref m), (2, .int to), (3, .ref (m + 7486 + 9 * s9.toNatClampNeg)), (4, .int y4_41)]) (st' := [.int (Int32.ofInt (-1))]) [(109, .iconst (-1))] (by decide +kernel) rfl ?_
              have hoffend : ∀ x, (x < m + 0 ∨ m + 0 + 8322 ≤ x) → wL41 x = w x := fun x hx => ((heqL41 x ⟨⟨(zx_X16_row_0 hx), (zx_X16_row_1 hx), (zx_X16_row_2 hx hgzZ9_35_0)⟩, (zx_X16_row_3 hx)⟩).trans (heq35 x (zx_X16_row_0 hx)))
              have hb32 := hR_m.si (hsi35.tr hsiL41)
              have hb33 : zSlo wL41 (m + 7486) := hSl0.ag (fun x hx1 hx2 => ((heqL41 x ⟨⟨(zx_X16_row_4 hx1 hx2), (zx_X16_row_5 hx1 hx2), (zx_X16_row_6 hx1 hx2 hgzZ9_35_0)⟩, (zx_X16_row_7 hx1 hx2)⟩).trans (heq35 x (zx_X16_row_4 hx1 hx2))))
              have hb34 : zTm wL41 (m + 83) := hMd0.ag (fun x hx1 hx2 => ((heqL41 x ⟨⟨(zx_X16_row_8 hx1 hx2), (zx_X16_row_9 hx1 hx2), (zx_X16_row_10 hx1 hx2 hgzZ9_35_0)⟩, (zx_X16_row_11 hx1 hx2)⟩).trans (heq35 x (zx_X16_row_8 hx1 hx2))))
              have hb35 : zPil wL41 (m + 6316) := hPl0.ag (fun x hx1 hx2 => ((heqL41 x ⟨⟨(zx_X16_row_12 hx1 hx2), (zx_X16_row_13 hx1 hx2), (zx_X16_row_14 hx1 hx2 hgzZ9_35_0)⟩, (zx_X16_row_15 hx1 hx2)⟩).trans (heq35 x (zx_X16_row_12 hx1 hx2))))
              have hb36 : zBya wL41 (m + 92) 4000 := hBo0.ag (fun x hx1 hx2 => ((heqL41 x ⟨⟨(zx_X16_row_16 hx1 hx2), (zx_X16_row_17 hx1 hx2), (zx_X16_row_18 hx1 hx2 hgzZ9_35_0)⟩, (zx_X16_row_19 hx1 hx2)⟩).trans (heq35 x (zx_X16_row_16 hx1 hx2))))
              have hb37 : zBya wL41 (m + 93) 4000 := hBl0.ag (fun x hx1 hx2 => ((heqL41 x ⟨⟨(zx_X16_row_20 hx1 hx2), (zx_X16_row_21 hx1 hx2), (zx_X16_row_22 hx1 hx2 hgzZ9_35_0)⟩, (zx_X16_row_23 hx1 hx2)⟩).trans (heq35 x (zx_X16_row_20 hx1 hx2))))
              have hb38 : zGr wL41 (m + 100) 48 48 := hGa0.ag (fun x hx1 hx2 => ((heqL41 x ⟨⟨(zx_X16_row_24 hx1 hx2), (zx_X16_row_25 hx1 hx2), (zx_X16_row_26 hx1 hx2 hgzZ9_35_0)⟩, (zx_X16_row_27 hx1 hx2)⟩).trans (heq35 x (zx_X16_row_24 hx1 hx2))))
              have hb39 : zGr wL41 (m + 212) 60 46 := hGb0.ag (fun x hx1 hx2 => ((heqL41 x ⟨⟨(zx_X16_row_28 hx1 hx2), (zx_X16_row_29 hx1 hx2), (zx_X16_row_30 hx1 hx2 hgzZ9_35_0)⟩, (zx_X16_row_31 hx1 hx2)⟩).trans (heq35 x (zx_X16_row_28 hx1 hx2))))
              have hb40 : zBd wL41 (m + 149) := hBd0.ag (fun x hx1 hx2 => ((heqL41 x ⟨⟨(zx_X16_row_32 hx1 hx2), (zx_X16_row_33 hx1 hx2), (zx_X16_row_34 hx1 hx2 hgzZ9_35_0)⟩, (zx_X16_row_35 hx1 hx2)⟩).trans (heq35 x (zx_X16_row_32 hx1 hx2))))
              have hb41 : wL41 (m + 94) = some (.inr (0, 60, .inl ff)) := ((heqL41 (m + 94) ⟨⟨(zx_X16_row_36), (zx_X16_row_37), (zx_X16_row_38 hgzZ9_35_0)⟩, (zx_X16_row_39)⟩).trans (heq35 (m + 94) (zx_X16_row_36))).trans hAf0
              refine zr_retI (by decide +kernel) rfl ?_
              rw [← hPost]; exact ⟨rfl, _, rfl, (hsi35.tr hsiL41), hoffend, ⟨_, _, hxM, hb32, hb33, hb34, hb35, ⟨_, hb41, hff⟩, hb36, hb37, hb38, hb39, hb40, hI12, hI24, hI29, hI31, hIn⟩, _, rfl, trivial⟩
            ·
              have f44 := znltI cc91
              rw [show (1 : Int32).toInt = 1 from by decide] at f44
              refine zp_seg (pc' := 95) (lv' := [(0, .ref m), (2, .int to), (3, .ref (m + 7486 + 9 * s9.toNatClampNeg)), (4, .int y4_41)]) (st' := [.ref m]) [(94, .aload_n 0)] (by decide +kernel) rfl ?_
              refine zr_get (idx := 517) (k := 55) (v := .ref (m + 193)) (by decide +kernel) (by decide +kernel) hxM rfl ?_
              refine zp_seg (pc' := 99) (lv' := [(0, .ref m), (2, .int to), (3, .ref (m + 7486 + 9 * s9.toNatClampNeg)), (4, .int y4_41)]) (st' := [.ref (m + 7486 + 9 * s9.toNatClampNeg), .ref (m + 193)]) [(98, .aload_n 3)] (by decide +kernel) rfl ?_
              refine zr_get (idx := 234) (k := 10) (v := .int (g1 10)) (by decide +kernel) (by decide +kernel) hb28 rfl ?_
              refine zr_aald (v := .ref (m + 276 + 2 * Z9_35.toNatClampNeg + 2 * (g1 10).toNatClampNeg)) (by decide +kernel) hV9 (by decide) (zin (by first | omega | decide) (by first | omega | decide)) (by rw [hfw (g1 10).toNatClampNeg (by omega)]; rfl) ?_
              have hUr9 := (hPg (g1 10).toNatClampNeg (by omega)).1.ag (w' := wL41) (fun x g1 g2 => rfl)
              obtain ⟨n45, f46, hu47, hu48, hu49, hu50, hu51⟩ := id hUr9
              have kn45 := zrng n45
              have hnr9 := hu49
              refine zr_get (idx := 25) (k := 1) (v := .int n45) (by decide +kernel) (by decide +kernel) hu47 rfl ?_
              refine zp_if (i := .ifCond .ne 5) (c := ¬ n45 = 0) (t := 111) (e := 109) (lv' := [(0, .ref m), (2, .int to), (3, .ref (m + 7486 + 9 * s9.toNatClampNeg)), (4, .int y4_41)]) (st' := []) (by decide +kernel) rfl (fun cc106 => ?_) (fun cc106 => ?_)
              ·
                have f52 := zneI cc106
                rw [show (0 : Int32).toInt = 0 from by decide] at f52
                have hzr9 : 0 < zln (Pg (g1 10).toNatClampNeg) := by omega
                have hb53 : zTm wL41 (m + 83) := hMd0.ag (fun x hx1 hx2 => ((heqL41 x ⟨⟨(zx_X16_row_8 hx1 hx2), (zx_X16_row_9 hx1 hx2), (zx_X16_row_10 hx1 hx2 hgzZ9_35_0)⟩, (zx_X16_row_11 hx1 hx2)⟩).trans (heq35 x (zx_X16_row_8 hx1 hx2))))
                obtain ⟨g2, fn2, fd2, fa2, fb2, fc2, fe2, fr2, fu2, hT2, hAn2, hAd2, hAa2, hAb2, hAc2, hAe2, hAr2, hAu2, hKn2, hKd2, hKr2, hKu2⟩ := id hb53
                refine zp_seg (pc' := 113) (lv' := [(0, .ref m), (2, .int to), (3, .ref (m + 7486 + 9 * s9.toNatClampNeg)), (4, .int y4_41)]) (st' := [.ref m, .ref m]) [(111, .aload_n 0), (112, .aload_n 0)] (by decide +kernel) rfl ?_
                refine zr_get (idx := 517) (k := 55) (v := .ref (m + 193)) (by decide +kernel) (by decide +kernel) hxM rfl ?_
                refine zp_seg (pc' := 117) (lv' := [(0, .ref m), (2, .int to), (3, .ref (m + 7486 + 9 * s9.toNatClampNeg)), (4, .int y4_41)]) (st' := [.ref (m + 7486 + 9 * s9.toNatClampNeg), .ref (m + 193), .ref m]) [(116, .aload_n 3)] (by decide +kernel) rfl ?_
                refine zr_get (idx := 234) (k := 10) (v := .int (g1 10)) (by decide +kernel) (by decide +kernel) hb28 rfl ?_
                have k54 := zrng xT
                have hz55 : (xT.toNatClampNeg : Int) = xT.toInt := znat (by first | omega | decide)
                have hb56 := hR_m.si (hsi35.tr hsiL41)
                refine zr_callV (idx := 777) (j := 403) (by decide +kernel) (by decide +kernel) (show zMe 403 = some zq_X16_makeRow from rfl) rfl rfl (Nat.le_of_ble_eq_true rfl) rfl rfl hxM (Nat.le_of_ble_eq_true rfl) (Nat.le_of_ble_eq_true rfl) (c_X16_makeRow (w := wL41) (g1 := xT) m (m + 193) (g1 10) (m + 276 + 2 * Z9_35.toNatClampNeg) Pg hxM hb56 hV9 hT2 hAr2 (by first | omega | decide | assumption | exact zr1_1 | exact zr1_0 | fail "num") (by first | omega | decide | assumption | exact zr1_1 | exact zr1_0 | fail "num") (by exact fun j hj => hfw j (by omega)) (by first | omega | decide | assumption | exact zr1_1 | exact zr1_0 | fail "num") (by exact fun j hj => (hPg j (by omega)).1.ag (fun x g1 g2 => rfl)) (by exact hzr9) (by first | omega | decide | assumption | exact zr1_1 | exact zr1_0 | fail "num") (by exact hKr2) rfl) (by omega) (fun v120 w120 hp120 => ?_)
                obtain ⟨F9_120, X9_120, hsi120, heq120, hp120_0, hp120_1, hp120_2, hp120_3, r120, rfl, hrb120, hr120⟩ := hp120
                have hM120 : w120 m = some (.inl (15, zMo m (zs (zs (zs g 1 X9_120) 3 Z9_35) 16 Z9_35) r)) := hp120_0
                have hT120 : w120 (m + 83) = some (.inl (13, zTo (m + 83) (zs (zs (zs (zs (zs (zs g2 0 4) 3 1) 4 1) 5 0) 10 (g1 10)) 13 0))) := hp120_1
                have kr120 := zrng r120
                show zP _ _ _ _ [.int r120] _ _ _ _ _
                have hgd9 := hr120.1 (hr120.2 (fun j hj => (hPg j (by omega)).2))
                refine zp_seg (pc' := 126) (lv' := [(4, .int r120), (0, .ref m), (2, .int to), (3, .ref (m + 7486 + 9 * s9.toNatClampNeg))]) (st' := [.ref m]) [(123, .istore 4), (125, .aload_n 0)] (by decide +kernel) rfl ?_
                refine zr_get (idx := 453) (k := 21) (v := .ref (m + 83)) (by decide +kernel) (by decide +kernel) hM120 rfl ?_
                refine zp_seg (pc' := 130) (lv' := [(4, .int r120), (0, .ref m), (2, .int to), (3, .ref (m + 7486 + 9 * s9.toNatClampNeg))]) (st' := [.ref m, .ref (m + 83)]) [(129, .aload_n 0)] (by decide +kernel) rfl ?_
                refine zr_get (idx := 453) (k := 21) (v := .ref (m + 83)) (by decide +kernel) (by decide +kernel) hM120 rfl ?_
                refine zr_get (idx := 237) (k := 11) (v := .ref (m + 83 + 7)) (by decide +kernel) (by decide +kernel) hT120 rfl ?_
                refine zp_seg (pc' := 137) (lv' := [(4, .int r120), (0, .ref m), (2, .int to), (3, .ref (m + 7486 + 9 * s9.toNatClampNeg))]) (st' := [.ref m, .ref (m + 83 + 7), .ref (m + 83)]) [(136, .aload_n 0)] (by decide +kernel) rfl ?_
                refine zr_get (idx := 453) (k := 21) (v := .ref (m + 83)) (by decide +kernel) (by decide +kernel) hM120 rfl ?_
                refine zr_get (idx := 234) (k := 10) (v := .int ((g1 10))) (by decide +kernel) (by decide +kernel) hT120 rfl ?_
                refine zp_seg (pc' := 144) (lv' := [(4, .int r120), (0, .ref m), (2, .int to), (3, .ref (m + 7486 + 9 * s9.toNatClampNeg))]) (st' := [.int 0, .int ((g1 10)), .ref (m + 83 + 7), .ref (m + 83)]) [(143, .iconst 0)] (by decide +kernel) rfl ?_
                refine zr_callS (idx := 781) (j := 402) (by decide +kernel) (by decide +kernel) (by decide) (show zMe 402 = some zq_X16_needsOf from rfl) rfl rfl (Nat.le_of_ble_eq_true rfl) rfl rfl (Nat.le_of_ble_eq_true rfl) (Nat.le_of_ble_eq_true rfl) (c_X16_needsOf (w := w120) (m + 83 + 7) ((g1 10)) 0 hp120_2 (by exact hp120_3) (by first | omega | decide | assumption | exact zr1_1 | exact zr1_0 | fail "num")) (by omega) (fun v144 w144 hp144 => ?_)
                obtain ⟨hpw144, r144, rfl, hr144⟩ := hp144
                replace hpw144 := hpw144.symm
                subst hpw144
                have kr144 := zrng r144
                show zP _ _ _ _ [.int r144, .ref (m + 83)] _ _ _ _ _
                refine zr_put2 (idx := 240) (k := 12) (fs2 := zTo (m + 83) (zs (zs (zs (zs (zs (zs (zs g2 0 4) 3 1) 4 1) 5 0) 10 (g1 10)) 12 r144) 13 0)) (by decide +kernel) (by decide +kernel) hT120 (Nat.le_of_ble_eq_true rfl) rfl rfl rfl ?_
                show zP (d + 1) zq_X16_row 150 [(4, .int r120), (0, .ref m), (2, .int to), (3, .ref (m + 7486 + 9 * s9.toNatClampNeg))] [] (zup w120 (m + 83) (.inl (13, zTo (m + 83) (zs (zs (zs (zs (zs (zs (zs g2 0 4) 3 1) 4 1) 5 0) 10 (g1 10)) 12 r144) 13 0)))) sz 0 0 Post
                obtain ⟨w147, ew147⟩ : ∃ wz9, wz9 = zup w120 (m + 83) (.inl (13, zTo (m + 83) (zs (zs (zs (zs (zs (zs (zs g2 0 4) 3 1) 4 1) 5 0) 10 (g1 10)) 12 r144) 13 0))) := ⟨_, rfl⟩
                have hsi147 : zSI w120 w147 := by rw [ew147]; exact zSI.setT hT120 _
                have heq147 : ∀ x, x ≠ m + 83 → w147 x = w120 x := fun x hx => by rw [ew147]; exact zup_n hx
                have hc147 : w147 (m + 83) = some (.inl (13, zTo (m + 83) (zs (zs (zs (zs (zs (zs (zs g2 0 4) 3 1) 4 1) 5 0) 10 (g1 10)) 12 r144) 13 0))) := by rw [ew147]; exact zup_s
                rw [← ew147]
                clear ew147
                refine zp_seg (pc' := 151) (lv' := [(4, .int r120), (0, .ref m), (2, .int to), (3, .ref (m + 7486 + 9 * s9.toNatClampNeg))]) (st' := [.ref m]) [(150, .aload_n 0)] (by decide +kernel) rfl ?_
                have hb57 : w147 m = some (.inl (15, zMo m (zs (zs (zs g 1 X9_120) 3 Z9_35) 16 Z9_35) r)) := (heq147 m (zx_X16_row_40)).trans hM120
                refine zr_get (idx := 453) (k := 21) (v := .ref (m + 83)) (by decide +kernel) (by decide +kernel) hb57 rfl ?_
                refine zr_get (idx := 240) (k := 12) (v := .int r144) (by decide +kernel) (by decide +kernel) hc147 rfl ?_
                refine zp_seg (pc' := 159) (lv' := [(4, .int r120), (0, .ref m), (2, .int to), (3, .ref (m + 7486 + 9 * s9.toNatClampNeg))]) (st' := [.int 60, .int r144]) [(157, .bipush 60)] (by decide +kernel) rfl ?_
                refine zp_if (i := .if_icmp .le 6) (c := r144 ≤ 60) (t := 165) (e := 162) (lv' := [(4, .int r120), (0, .ref m), (2, .int to), (3, .ref (m + 7486 + 9 * s9.toNatClampNeg))]) (st' := []) (by decide +kernel) rfl (fun cc159 => ?_) (fun cc159 => ?_)
                ·
                  have f59 := zleI cc159
                  rw [show (60 : Int32).toInt = 60 from by decide] at f59
                  have hb60 : w147 (m + 83 + 1) = some (.inr (0, 325, .inl fn2)) := ((heq147 (m + 83 + 1) (zx_X16_row_42)).trans (heq120 (m + 83 + 1) (by omega))).trans hAn2
                  have hb61 : w147 (m + 83 + 2) = some (.inr (0, 325, .inl fd2)) := ((heq147 (m + 83 + 2) (zx_X16_row_44)).trans (heq120 (m + 83 + 2) (by omega))).trans hAd2
                  have hb62 : w147 (m + 83 + 3) = some (.inr (0, 13, .inl fa2)) := ((heq147 (m + 83 + 3) (zx_X16_row_46)).trans (heq120 (m + 83 + 3) (by omega))).trans hAa2
                  have hb63 : w147 (m + 83 + 4) = some (.inr (0, 13, .inl fb2)) := ((heq147 (m + 83 + 4) (zx_X16_row_48)).trans (heq120 (m + 83 + 4) (by omega))).trans hAb2
                  have hb64 : w147 (m + 83 + 5) = some (.inr (0, 13, .inl fc2)) := ((heq147 (m + 83 + 5) (zx_X16_row_50)).trans (heq120 (m + 83 + 5) (by omega))).trans hAc2
                  have hb65 : w147 (m + 83 + 6) = some (.inr (0, 13, .inl fe2)) := ((heq147 (m + 83 + 6) (zx_X16_row_52)).trans (heq120 (m + 83 + 6) (by omega))).trans hAe2
                  have hb66 : w147 (m + 83 + 7) = some (.inr (0, 175, .inl F9_120)) := (heq147 (m + 83 + 7) (zx_X16_row_53)).trans hp120_2
                  have hb67 : w147 (m + 83 + 8) = some (.inr (0, 361, .inl fu2)) := ((heq147 (m + 83 + 8) (zx_X16_row_55)).trans (heq120 (m + 83 + 8) (by omega))).trans hAu2
                  have hTi9 : zTi w147 (m + 83) 4 := ⟨_, _, _, _, _, _, _, _, _, hc147, hb60, hb61, hb62, hb63, hb64, hb65, hb66, hb67, ⟨rfl, hKn2, hKd2, ⟨zr1_1, zr1_1⟩, ⟨show 0 ≤ (0 : Int32).toInt by decide, show (0 : Int32).toInt ≤ 13 by decide⟩, fun i hi => absurd hi (Nat.not_lt_zero _), hp120_3, hKu2, ⟨by simp, fun e => absurd e (by decide), fun e => absurd e (by decide), fun e => absurd e (by decide), fun e => absurd e (by decide), fun _ => ⟨⟨(show 1 ≤ (g1 10).toInt by omega), (show (g1 10).toInt ≤ 6 by omega), (show (g1 10).toInt ≤ r144.toInt by omega), (show r144.toInt ≤ 60 by omega), (show 0 ≤ (0 : Int32).toInt by decide), (show (0 : Int32).toInt ≤ r144.toInt by have h9 : (0 : Int32).toInt = 0 := (by decide); omega)⟩, hgd9⟩⟩⟩⟩
                  have hz68 : (to.toNatClampNeg : Int) = to.toInt := znat (by first | omega | decide)
                  have hb69 : zSlo w147 (m + 7486) := hSl0.ag (fun x hx1 hx2 => ((heq147 x (zx_X16_row_56 hx1 hx2)).trans ((heq120 x (by omega)).trans ((heqL41 x ⟨⟨(zx_X16_row_4 hx1 hx2), (zx_X16_row_5 hx1 hx2), (zx_X16_row_6 hx1 hx2 hgzZ9_35_0)⟩, (zx_X16_row_7 hx1 hx2)⟩).trans (heq35 x (zx_X16_row_4 hx1 hx2))))))
                  obtain ⟨kT, hkT⟩ := hb69 to.toNatClampNeg (by omega)
                  refine zp_seg (pc' := 166) (lv' := [(4, .int r120), (0, .ref m), (2, .int to), (3, .ref (m + 7486 + 9 * s9.toNatClampNeg))]) (st' := [.ref m]) [(165, .aload_n 0)] (by decide +kernel) rfl ?_
                  refine zr_get (idx := 450) (k := 20) (v := .ref (m + 82)) (by decide +kernel) (by decide +kernel) hb57 rfl ?_
                  refine zp_seg (pc' := 170) (lv' := [(4, .int r120), (0, .ref m), (2, .int to), (3, .ref (m + 7486 + 9 * s9.toNatClampNeg))]) (st' := [.int to, .ref (m + 82)]) [(169, .iload_n 2)] (by decide +kernel) rfl ?_
                  have hb70 : w147 (m + 82) = some (.inr (6, 12, zsl m)) := ((heq147 (m + 82) (zx_X16_row_61)).trans ((heq120 (m + 82) (by omega)).trans ((heqL41 (m + 82) ⟨⟨(zx_X16_row_57), (zx_X16_row_58), (zx_X16_row_59 hgzZ9_35_0)⟩, (zx_X16_row_60)⟩).trans (heq35 (m + 82) (zx_X16_row_57))))).trans hb18
                  refine zr_aald (v := .ref (m + 7486 + 9 * to.toNatClampNeg)) (by decide +kernel) hb70 (by decide) (zin (by first | omega | decide) (by first | omega | decide)) (zsl_at (by omega)) ?_
                  refine zp_seg (pc' := 172) (lv' := [(4, .int r120), (0, .ref m), (2, .int to), (3, .ref (m + 7486 + 9 * s9.toNatClampNeg))]) (st' := [.ref m, .ref (m + 7486 + 9 * to.toNatClampNeg)]) [(171, .aload_n 0)] (by decide +kernel) rfl ?_
                  refine zr_get (idx := 453) (k := 21) (v := .ref (m + 83)) (by decide +kernel) (by decide +kernel) hb57 rfl ?_
                  refine zr_callS (idx := 547) (j := 298) (by decide +kernel) (by decide +kernel) (by decide) (show zMe 298 = some zq_X16_copy from rfl) rfl rfl (Nat.le_of_ble_eq_true rfl) rfl rfl (Nat.le_of_ble_eq_true rfl) (Nat.le_of_ble_eq_true rfl) (c_X16_copy (w := w147) (m + 7486 + 9 * to.toNatClampNeg) (m + 83) hkT hTi9 (by first | omega | decide | assumption | exact zr1_1 | exact zr1_0 | fail "num")) (by omega) (fun v175 w175 hp175 => ?_)
                  obtain ⟨hsi175, heq175, hp175_0, rfl⟩ := hp175
                  show zP _ _ _ _ [] _ _ _ _ _
                  have hSl178 := hSl0.up (w' := w175) to.toNatClampNeg hp175_0 (fun x h1 h2 h3 => ((heq175 x (by omega)).trans ((heq147 x (by omega)).trans ((heq120 x (by omega)).trans ((heqL41 x (by omega)).trans (heq35 x (by omega)))))))
                  refine zp_seg (pc' := 179) (lv' := [(4, .int r120), (0, .ref m), (2, .int to), (3, .ref (m + 7486 + 9 * s9.toNatClampNeg))]) (st' := [.ref m]) [(178, .aload_n 0)] (by decide +kernel) rfl ?_
                  have hb71 : w175 m = some (.inl (15, zMo m (zs (zs (zs g 1 X9_120) 3 Z9_35) 16 Z9_35) r)) := (heq175 m (by omega)).trans hb57
                  refine zr_get (idx := 453) (k := 21) (v := .ref (m + 83)) (by decide +kernel) (by decide +kernel) hb71 rfl ?_
                  have hb72 : w175 (m + 83) = some (.inl (13, zTo (m + 83) (zs (zs (zs (zs (zs (zs (zs g2 0 4) 3 1) 4 1) 5 0) 10 (g1 10)) 12 r144) 13 0))) := (heq175 (m + 83) (by omega)).trans hc147
                  refine zr_get (idx := 240) (k := 12) (v := .int r144) (by decide +kernel) (by decide +kernel) hb72 rfl ?_
                  have hoffend : ∀ x, (x < m + 0 ∨ m + 0 + 8322 ≤ x) → w175 x = w x := fun x hx => ((heq175 x (by omega)).trans ((heq147 x (zx_X16_row_62 hx)).trans ((heq120 x (by omega)).trans ((heqL41 x ⟨⟨(zx_X16_row_0 hx), (zx_X16_row_1 hx), (zx_X16_row_2 hx hgzZ9_35_0)⟩, (zx_X16_row_3 hx)⟩).trans (heq35 x (zx_X16_row_0 hx))))))
                  have hb73 := hb56.si ((hsi120.tr hsi147).tr hsi175)
                  have hb74 : zTi w175 (m + 83) 4 := hTi9.ag (fun x hx1 hx2 => (heq175 x (by omega)))
                  have hb75 : zPil w175 (m + 6316) := hPl0.ag (fun x hx1 hx2 => ((heq175 x (by omega)).trans ((heq147 x (zx_X16_row_63 hx1 hx2)).trans ((heq120 x (by omega)).trans ((heqL41 x ⟨⟨(zx_X16_row_12 hx1 hx2), (zx_X16_row_13 hx1 hx2), (zx_X16_row_14 hx1 hx2 hgzZ9_35_0)⟩, (zx_X16_row_15 hx1 hx2)⟩).trans (heq35 x (zx_X16_row_12 hx1 hx2)))))))
                  have hb76 : zBya w175 (m + 92) 4000 := hBo0.ag (fun x hx1 hx2 => ((heq175 x (by omega)).trans ((heq147 x (zx_X16_row_64 hx1 hx2)).trans ((heq120 x (by omega)).trans ((heqL41 x ⟨⟨(zx_X16_row_16 hx1 hx2), (zx_X16_row_17 hx1 hx2), (zx_X16_row_18 hx1 hx2 hgzZ9_35_0)⟩, (zx_X16_row_19 hx1 hx2)⟩).trans (heq35 x (zx_X16_row_16 hx1 hx2)))))))
                  have hb77 : zBya w175 (m + 93) 4000 := hBl0.ag (fun x hx1 hx2 => ((heq175 x (by omega)).trans ((heq147 x (zx_X16_row_65 hx1 hx2)).trans ((heq120 x (by omega)).trans ((heqL41 x ⟨⟨(zx_X16_row_20 hx1 hx2), (zx_X16_row_21 hx1 hx2), (zx_X16_row_22 hx1 hx2 hgzZ9_35_0)⟩, (zx_X16_row_23 hx1 hx2)⟩).trans (heq35 x (zx_X16_row_20 hx1 hx2)))))))
                  have hb78 : zGr w175 (m + 100) 48 48 := hGa0.ag (fun x hx1 hx2 => ((heq175 x (by omega)).trans ((heq147 x (zx_X16_row_66 hx1 hx2)).trans ((heq120 x (by omega)).trans ((heqL41 x ⟨⟨(zx_X16_row_24 hx1 hx2), (zx_X16_row_25 hx1 hx2), (zx_X16_row_26 hx1 hx2 hgzZ9_35_0)⟩, (zx_X16_row_27 hx1 hx2)⟩).trans (heq35 x (zx_X16_row_24 hx1 hx2)))))))
                  have hb79 : zGr w175 (m + 212) 60 46 := hGb0.ag (fun x hx1 hx2 => ((heq175 x (by omega)).trans ((heq147 x (zx_X16_row_67 hx1 hx2)).trans ((heq120 x (by omega)).trans ((heqL41 x ⟨⟨(zx_X16_row_28 hx1 hx2), (zx_X16_row_29 hx1 hx2), (zx_X16_row_30 hx1 hx2 hgzZ9_35_0)⟩, (zx_X16_row_31 hx1 hx2)⟩).trans (heq35 x (zx_X16_row_28 hx1 hx2)))))))
                  have hb80 : zBd w175 (m + 149) := hBd0.ag (fun x hx1 hx2 => ((heq175 x (by omega)).trans ((heq147 x (zx_X16_row_68 hx1 hx2)).trans ((heq120 x (by omega)).trans ((heqL41 x ⟨⟨(zx_X16_row_32 hx1 hx2), (zx_X16_row_33 hx1 hx2), (zx_X16_row_34 hx1 hx2 hgzZ9_35_0)⟩, (zx_X16_row_35 hx1 hx2)⟩).trans (heq35 x (zx_X16_row_32 hx1 hx2)))))))
                  have hb81 : w175 (m + 94) = some (.inr (0, 60, .inl ff)) := ((heq175 (m + 94) (by omega)).trans ((heq147 (m + 94) (zx_X16_row_69)).trans ((heq120 (m + 94) (by omega)).trans ((heqL41 (m + 94) ⟨⟨(zx_X16_row_36), (zx_X16_row_37), (zx_X16_row_38 hgzZ9_35_0)⟩, (zx_X16_row_39)⟩).trans (heq35 (m + 94) (zx_X16_row_36)))))).trans hAf0
                  refine zr_retI (by decide +kernel) rfl ?_
                  rw [← hPost]; exact ⟨rfl, _, rfl, ((((hsi35.tr hsiL41).tr hsi120).tr hsi147).tr hsi175), hoffend, ⟨_, _, hb71, hb73, hSl178, (zTi.m hb74), hb75, ⟨_, hb81, hff⟩, hb76, hb77, hb78, hb79, hb80, hI12, hI24, hI29, hI31, hIn⟩, _, rfl, trivial⟩
                ·
                  have f83 := znleI cc159
                  rw [show (60 : Int32).toInt = 60 from by decide] at f83
                  have hb84 : w147 (m + 83 + 1) = some (.inr (0, 325, .inl fn2)) := ((heq147 (m + 83 + 1) (zx_X16_row_42)).trans (heq120 (m + 83 + 1) (by omega))).trans hAn2
                  have hb85 : w147 (m + 83 + 2) = some (.inr (0, 325, .inl fd2)) := ((heq147 (m + 83 + 2) (zx_X16_row_44)).trans (heq120 (m + 83 + 2) (by omega))).trans hAd2
                  have hb86 : w147 (m + 83 + 3) = some (.inr (0, 13, .inl fa2)) := ((heq147 (m + 83 + 3) (zx_X16_row_46)).trans (heq120 (m + 83 + 3) (by omega))).trans hAa2
                  have hb87 : w147 (m + 83 + 4) = some (.inr (0, 13, .inl fb2)) := ((heq147 (m + 83 + 4) (zx_X16_row_48)).trans (heq120 (m + 83 + 4) (by omega))).trans hAb2
                  have hb88 : w147 (m + 83 + 5) = some (.inr (0, 13, .inl fc2)) := ((heq147 (m + 83 + 5) (zx_X16_row_50)).trans (heq120 (m + 83 + 5) (by omega))).trans hAc2
                  have hb89 : w147 (m + 83 + 6) = some (.inr (0, 13, .inl fe2)) := ((heq147 (m + 83 + 6) (zx_X16_row_52)).trans (heq120 (m + 83 + 6) (by omega))).trans hAe2
                  have hb90 : w147 (m + 83 + 7) = some (.inr (0, 175, .inl F9_120)) := (heq147 (m + 83 + 7) (zx_X16_row_53)).trans hp120_2
                  have hb91 : w147 (m + 83 + 8) = some (.inr (0, 361, .inl fu2)) := ((heq147 (m + 83 + 8) (zx_X16_row_55)).trans (heq120 (m + 83 + 8) (by omega))).trans hAu2
                  have hTm8 : zTm w147 (m + 83) := ⟨_, _, _, _, _, _, _, _, _, hc147, hb84, hb85, hb86, hb87, hb88, hb89, hb90, hb91, hKn2, hKd2, hp120_3, hKu2⟩
                  refine zp_seg (pc' := 164) (lv' := [(4, .int r120), (0, .ref m), (2, .int to), (3, .ref (m + 7486 + 9 * s9.toNatClampNeg))]) (st' := [.int (Int32.ofInt (-2))]) [(162, .bipush (-2))] (by decide +kernel) rfl ?_
                  have hoffend : ∀ x, (x < m + 0 ∨ m + 0 + 8322 ≤ x) → w147 x = w x := fun x hx => ((heq147 x (zx_X16_row_62 hx)).trans ((heq120 x (by omega)).trans ((heqL41 x ⟨⟨(zx_X16_row_0 hx), (zx_X16_row_1 hx), (zx_X16_row_2 hx hgzZ9_35_0)⟩, (zx_X16_row_3 hx)⟩).trans (heq35 x (zx_X16_row_0 hx)))))
                  have hb92 := hb56.si (hsi120.tr hsi147)
                  have hb93 : zSlo w147 (m + 7486) := hSl0.ag (fun x hx1 hx2 => ((heq147 x (zx_X16_row_56 hx1 hx2)).trans ((heq120 x (by omega)).trans ((heqL41 x ⟨⟨(zx_X16_row_4 hx1 hx2), (zx_X16_row_5 hx1 hx2), (zx_X16_row_6 hx1 hx2 hgzZ9_35_0)⟩, (zx_X16_row_7 hx1 hx2)⟩).trans (heq35 x (zx_X16_row_4 hx1 hx2))))))
                  have hb94 : zPil w147 (m + 6316) := hPl0.ag (fun x hx1 hx2 => ((heq147 x (zx_X16_row_63 hx1 hx2)).trans ((heq120 x (by omega)).trans ((heqL41 x ⟨⟨(zx_X16_row_12 hx1 hx2), (zx_X16_row_13 hx1 hx2), (zx_X16_row_14 hx1 hx2 hgzZ9_35_0)⟩, (zx_X16_row_15 hx1 hx2)⟩).trans (heq35 x (zx_X16_row_12 hx1 hx2))))))
                  have hb95 : zBya w147 (m + 92) 4000 := hBo0.ag (fun x hx1 hx2 => ((heq147 x (zx_X16_row_64 hx1 hx2)).trans ((heq120 x (by omega)).trans ((heqL41 x ⟨⟨(zx_X16_row_16 hx1 hx2), (zx_X16_row_17 hx1 hx2), (zx_X16_row_18 hx1 hx2 hgzZ9_35_0)⟩, (zx_X16_row_19 hx1 hx2)⟩).trans (heq35 x (zx_X16_row_16 hx1 hx2))))))
                  have hb96 : zBya w147 (m + 93) 4000 := hBl0.ag (fun x hx1 hx2 => ((heq147 x (zx_X16_row_65 hx1 hx2)).trans ((heq120 x (by omega)).trans ((heqL41 x ⟨⟨(zx_X16_row_20 hx1 hx2), (zx_X16_row_21 hx1 hx2), (zx_X16_row_22 hx1 hx2 hgzZ9_35_0)⟩, (zx_X16_row_23 hx1 hx2)⟩).trans (heq35 x (zx_X16_row_20 hx1 hx2))))))
                  have hb97 : zGr w147 (m + 100) 48 48 := hGa0.ag (fun x hx1 hx2 => ((heq147 x (zx_X16_row_66 hx1 hx2)).trans ((heq120 x (by omega)).trans ((heqL41 x ⟨⟨(zx_X16_row_24 hx1 hx2), (zx_X16_row_25 hx1 hx2), (zx_X16_row_26 hx1 hx2 hgzZ9_35_0)⟩, (zx_X16_row_27 hx1 hx2)⟩).trans (heq35 x (zx_X16_row_24 hx1 hx2))))))
                  have hb98 : zGr w147 (m + 212) 60 46 := hGb0.ag (fun x hx1 hx2 => ((heq147 x (zx_X16_row_67 hx1 hx2)).trans ((heq120 x (by omega)).trans ((heqL41 x ⟨⟨(zx_X16_row_28 hx1 hx2), (zx_X16_row_29 hx1 hx2), (zx_X16_row_30 hx1 hx2 hgzZ9_35_0)⟩, (zx_X16_row_31 hx1 hx2)⟩).trans (heq35 x (zx_X16_row_28 hx1 hx2))))))
                  have hb99 : zBd w147 (m + 149) := hBd0.ag (fun x hx1 hx2 => ((heq147 x (zx_X16_row_68 hx1 hx2)).trans ((heq120 x (by omega)).trans ((heqL41 x ⟨⟨(zx_X16_row_32 hx1 hx2), (zx_X16_row_33 hx1 hx2), (zx_X16_row_34 hx1 hx2 hgzZ9_35_0)⟩, (zx_X16_row_35 hx1 hx2)⟩).trans (heq35 x (zx_X16_row_32 hx1 hx2))))))
                  have hb100 : w147 (m + 94) = some (.inr (0, 60, .inl ff)) := ((heq147 (m + 94) (zx_X16_row_69)).trans ((heq120 (m + 94) (by omega)).trans ((heqL41 (m + 94) ⟨⟨(zx_X16_row_36), (zx_X16_row_37), (zx_X16_row_38 hgzZ9_35_0)⟩, (zx_X16_row_39)⟩).trans (heq35 (m + 94) (zx_X16_row_36))))).trans hAf0
                  refine zr_retI (by decide +kernel) rfl ?_
                  rw [← hPost]; exact ⟨rfl, _, rfl, (((hsi35.tr hsiL41).tr hsi120).tr hsi147), hoffend, ⟨_, _, hb57, hb92, hb93, hTm8, hb94, ⟨_, hb100, hff⟩, hb95, hb96, hb97, hb98, hb99, hI12, hI24, hI29, hI31, hIn⟩, _, rfl, trivial⟩
              ·
                replace cc106 := Classical.not_not.mp cc106
                have f102 := zeqI cc106
                rw [show (0 : Int32).toInt = 0 from by decide] at f102
                refine zp_seg (pc' := 110) (lv' := [(0, .ref m), (2, .int to), (3, .ref (m + 7486 + 9 * s9.toNatClampNeg)), (4, .int y4_41)]) (st' := [.int (Int32.ofInt (-1))]) [(109, .iconst (-1))] (by decide +kernel) rfl ?_
                have hoffend : ∀ x, (x < m + 0 ∨ m + 0 + 8322 ≤ x) → wL41 x = w x := fun x hx => ((heqL41 x ⟨⟨(zx_X16_row_0 hx), (zx_X16_row_1 hx), (zx_X16_row_2 hx hgzZ9_35_0)⟩, (zx_X16_row_3 hx)⟩).trans (heq35 x (zx_X16_row_0 hx)))
                have hb103 := hR_m.si (hsi35.tr hsiL41)
                have hb104 : zSlo wL41 (m + 7486) := hSl0.ag (fun x hx1 hx2 => ((heqL41 x ⟨⟨(zx_X16_row_4 hx1 hx2), (zx_X16_row_5 hx1 hx2), (zx_X16_row_6 hx1 hx2 hgzZ9_35_0)⟩, (zx_X16_row_7 hx1 hx2)⟩).trans (heq35 x (zx_X16_row_4 hx1 hx2))))
                have hb105 : zTm wL41 (m + 83) := hMd0.ag (fun x hx1 hx2 => ((heqL41 x ⟨⟨(zx_X16_row_8 hx1 hx2), (zx_X16_row_9 hx1 hx2), (zx_X16_row_10 hx1 hx2 hgzZ9_35_0)⟩, (zx_X16_row_11 hx1 hx2)⟩).trans (heq35 x (zx_X16_row_8 hx1 hx2))))
                have hb106 : zPil wL41 (m + 6316) := hPl0.ag (fun x hx1 hx2 => ((heqL41 x ⟨⟨(zx_X16_row_12 hx1 hx2), (zx_X16_row_13 hx1 hx2), (zx_X16_row_14 hx1 hx2 hgzZ9_35_0)⟩, (zx_X16_row_15 hx1 hx2)⟩).trans (heq35 x (zx_X16_row_12 hx1 hx2))))
                have hb107 : zBya wL41 (m + 92) 4000 := hBo0.ag (fun x hx1 hx2 => ((heqL41 x ⟨⟨(zx_X16_row_16 hx1 hx2), (zx_X16_row_17 hx1 hx2), (zx_X16_row_18 hx1 hx2 hgzZ9_35_0)⟩, (zx_X16_row_19 hx1 hx2)⟩).trans (heq35 x (zx_X16_row_16 hx1 hx2))))
                have hb108 : zBya wL41 (m + 93) 4000 := hBl0.ag (fun x hx1 hx2 => ((heqL41 x ⟨⟨(zx_X16_row_20 hx1 hx2), (zx_X16_row_21 hx1 hx2), (zx_X16_row_22 hx1 hx2 hgzZ9_35_0)⟩, (zx_X16_row_23 hx1 hx2)⟩).trans (heq35 x (zx_X16_row_20 hx1 hx2))))
                have hb109 : zGr wL41 (m + 100) 48 48 := hGa0.ag (fun x hx1 hx2 => ((heqL41 x ⟨⟨(zx_X16_row_24 hx1 hx2), (zx_X16_row_25 hx1 hx2), (zx_X16_row_26 hx1 hx2 hgzZ9_35_0)⟩, (zx_X16_row_27 hx1 hx2)⟩).trans (heq35 x (zx_X16_row_24 hx1 hx2))))
                have hb110 : zGr wL41 (m + 212) 60 46 := hGb0.ag (fun x hx1 hx2 => ((heqL41 x ⟨⟨(zx_X16_row_28 hx1 hx2), (zx_X16_row_29 hx1 hx2), (zx_X16_row_30 hx1 hx2 hgzZ9_35_0)⟩, (zx_X16_row_31 hx1 hx2)⟩).trans (heq35 x (zx_X16_row_28 hx1 hx2))))
                have hb111 : zBd wL41 (m + 149) := hBd0.ag (fun x hx1 hx2 => ((heqL41 x ⟨⟨(zx_X16_row_32 hx1 hx2), (zx_X16_row_33 hx1 hx2), (zx_X16_row_34 hx1 hx2 hgzZ9_35_0)⟩, (zx_X16_row_35 hx1 hx2)⟩).trans (heq35 x (zx_X16_row_32 hx1 hx2))))
                have hb112 : wL41 (m + 94) = some (.inr (0, 60, .inl ff)) := ((heqL41 (m + 94) ⟨⟨(zx_X16_row_36), (zx_X16_row_37), (zx_X16_row_38 hgzZ9_35_0)⟩, (zx_X16_row_39)⟩).trans (heq35 (m + 94) (zx_X16_row_36))).trans hAf0
                refine zr_retI (by decide +kernel) rfl ?_
                rw [← hPost]; exact ⟨rfl, _, rfl, (hsi35.tr hsiL41), hoffend, ⟨_, _, hxM, hb103, hb104, hb105, hb106, ⟨_, hb112, hff⟩, hb107, hb108, hb109, hb110, hb111, hI12, hI24, hI29, hI31, hIn⟩, _, rfl, trivial⟩
          ·
            have f114 := znltI cc47
            refine zp_seg (pc' := 51) (lv' := [(0, .ref m), (2, .int to), (3, .ref (m + 7486 + 9 * s9.toNatClampNeg)), (4, .int y4_41)]) (st' := [.ref m]) [(50, .aload_n 0)] (by decide +kernel) rfl ?_
            refine zr_get (idx := 517) (k := 55) (v := .ref (m + 193)) (by decide +kernel) (by decide +kernel) hxM rfl ?_
            refine zp_seg (pc' := 57) (lv' := [(0, .ref m), (2, .int to), (3, .ref (m + 7486 + 9 * s9.toNatClampNeg)), (4, .int y4_41)]) (st' := [.ref m, .int y4_41, .ref (m + 193)]) [(54, .iload 4), (56, .aload_n 0)] (by decide +kernel) rfl ?_
            have k115 := zrng xT
            have hz116 : (xT.toNatClampNeg : Int) = xT.toInt := znat (by first | omega | decide)
            have hb117 := hR_m.si (hsi35.tr hsiL41)
            refine zr_callV (idx := 74) (j := 263) (by decide +kernel) (by decide +kernel) (show zMe 263 = some zq_X16_newU from rfl) rfl rfl (Nat.le_of_ble_eq_true rfl) rfl rfl hxM (Nat.le_of_ble_eq_true rfl) (Nat.le_of_ble_eq_true rfl) (c_X16_newU (w := wL41) (g1 := xT) m hxM hb117 (by first | omega | decide | assumption | exact zr1_1 | exact zr1_0 | fail "num") rfl) (by omega) (fun v57 w57 hp57 => ?_)
            obtain ⟨hsi57, heq57, hp57_0, hp57_1, rfl⟩ := hp57
            have hM57 : w57 m = some (.inl (15, zMo m (zs (zs (zs g 1 (xT + 1)) 3 Z9_35) 16 Z9_35) r)) := hp57_0
            show zP _ _ _ _ [.ref (m + 276 + 2 * xT.toNatClampNeg), .int y4_41, .ref (m + 193)] _ _ _ _ _
            have hb118 : w57 (m + 193) = some (.inr (4, 8, .inr fw)) := (heq57 (m + 193) (by omega)).trans hV9
            obtain ⟨n119, f120, hu121, hu122, hu123, hu124, hu125⟩ := id hp57_1
            have kn119 := zrng n119
            refine zr_aast (by decide +kernel) hb118 hu121 (by decide) (zin (by first | omega | decide) (by first | omega | decide)) ?_
            show zP (d + 1) zq_X16_row 61 [(0, .ref m), (2, .int to), (3, .ref (m + 7486 + 9 * s9.toNatClampNeg)), (4, .int y4_41)] [] (zup w57 (m + 193) (.inr (4, 8, .inr (va_up fw (y4_41.toNatClampNeg) (some (m + 276 + 2 * xT.toNatClampNeg)))))) sz 0 0 Post
            obtain ⟨w60, ew60⟩ : ∃ wz9, wz9 = zup w57 (m + 193) (.inr (4, 8, .inr (va_up fw (y4_41.toNatClampNeg) (some (m + 276 + 2 * xT.toNatClampNeg))))) := ⟨_, rfl⟩
            have hsi60 : zSI w57 w60 := by rw [ew60]; exact zSI.refs _ hb118 (by decide)
            have heq60 : ∀ x, x ≠ m + 193 → w60 x = w57 x := fun x hx => by rw [ew60]; exact zup_n hx
            have hc60 : w60 (m + 193) = some (.inr (4, 8, .inr (va_up fw (y4_41.toNatClampNeg) (some (m + 276 + 2 * xT.toNatClampNeg))))) := by rw [ew60]; exact zup_s
            rw [← ew60]
            clear ew60
            refine zp_seg (pc' := 62) (lv' := [(0, .ref m), (2, .int to), (3, .ref (m + 7486 + 9 * s9.toNatClampNeg)), (4, .int y4_41)]) (st' := [.ref m]) [(61, .aload_n 0)] (by decide +kernel) rfl ?_
            have hb126 : w60 m = some (.inl (15, zMo m (zs (zs (zs g 1 (xT + 1)) 3 Z9_35) 16 Z9_35) r)) := (heq60 m (zx_X16_row_71)).trans hM57
            refine zr_get (idx := 517) (k := 55) (v := .ref (m + 193)) (by decide +kernel) (by decide +kernel) hb126 rfl ?_
            refine zp_seg (pc' := 67) (lv' := [(0, .ref m), (2, .int to), (3, .ref (m + 7486 + 9 * s9.toNatClampNeg)), (4, .int y4_41)]) (st' := [.int y4_41, .ref (m + 193)]) [(65, .iload 4)] (by decide +kernel) rfl ?_
            refine zr_aald (v := .ref (m + 276 + 2 * xT.toNatClampNeg)) (by decide +kernel) hc60 (by decide) (zin (by first | omega | decide) (by first | omega | decide)) (by rw [va_up_self]; rfl) ?_
            refine zp_seg (pc' := 69) (lv' := [(0, .ref m), (2, .int to), (3, .ref (m + 7486 + 9 * s9.toNatClampNeg)), (4, .int y4_41)]) (st' := [.ref (m + 7486 + 9 * s9.toNatClampNeg), .ref (m + 276 + 2 * xT.toNatClampNeg)]) [(68, .aload_n 3)] (by decide +kernel) rfl ?_
            have hb127 : w60 (m + 7486 + 9 * s9.toNatClampNeg) = some (.inl (13, zTo (m + 7486 + 9 * s9.toNatClampNeg) g1)) := ((heq60 (m + 7486 + 9 * s9.toNatClampNeg) (by omega)).trans (heq57 (m + 7486 + 9 * s9.toNatClampNeg) (by omega))).trans hb28
            refine zr_get (idx := 237) (k := 11) (v := .ref (m + 7486 + 9 * s9.toNatClampNeg + 7)) (by decide +kernel) (by decide +kernel) hb127 rfl ?_
            refine zp_seg (pc' := 77) (lv' := [(0, .ref m), (2, .int to), (3, .ref (m + 7486 + 9 * s9.toNatClampNeg)), (4, .int y4_41)]) (st' := [.int (25 * y4_41), .ref (m + 7486 + 9 * s9.toNatClampNeg + 7), .ref (m + 276 + 2 * xT.toNatClampNeg)]) [(72, .bipush 25), (74, .iload 4), (76, .imul)] (by decide +kernel) rfl ?_
            have k128 := zmulCl 25 y4_41 (n := 25) (by decide) (by omega) (by omega)
            generalize ev77 : (25 * y4_41 : Int32) = v77 at k128 ⊢
            have kv77 := zrng v77
            have hix9 : v77.toNatClampNeg = 25 * y4_41.toNatClampNeg := by
              have h9 := znat (x := v77) (by omega)
              omega
            have hb129 : zU w60 (m + 276 + 2 * xT.toNatClampNeg) 1000 zaZ := hp57_1.ag (fun x hx1 hx2 => (heq60 x (by omega)))
            have ho77_u := zU.o hb129
            have hb130 : w60 (m + 7486 + 9 * s9.toNatClampNeg + 7) = some (.inr (0, 175, .inl fr1)) := ((heq60 (m + 7486 + 9 * s9.toNatClampNeg + 7) (by omega)).trans ((heq57 (m + 7486 + 9 * s9.toNatClampNeg + 7) (by omega)).trans ((heqL41 (m + 7486 + 9 * s9.toNatClampNeg + 7) (by omega)).trans (heq35 (m + 7486 + 9 * s9.toNatClampNeg + 7) (by omega))))).trans hAr1
            refine zr_callS (idx := 775) (j := 301) (by decide +kernel) (by decide +kernel) (by decide) (show zMe 301 = some zq_X16_load_ from rfl) rfl rfl (Nat.le_of_ble_eq_true rfl) rfl rfl (Nat.le_of_ble_eq_true rfl) (Nat.le_of_ble_eq_true rfl) (c_X16_load_ (w := w60) (m + 276 + 2 * xT.toNatClampNeg) (m + 7486 + 9 * s9.toNatClampNeg + 7) v77 ho77_u hb130 (by first | omega | decide | assumption | exact zr1_1 | exact zr1_0 | fail "num") (by first | omega | decide | assumption | exact zr1_1 | exact zr1_0 | fail "num") (by rw [hix9]; exact fun i hi => hKr1 _ (by omega)) (by first | omega | decide | assumption | exact zr1_1 | exact zr1_0 | fail "num")) (by omega) (fun v77 w77 hp77 => ?_)
            obtain ⟨hsi77, heq77, hp77_0, rfl⟩ := hp77
            show zP _ _ _ _ [] _ _ _ _ _
            refine zp_seg (pc' := 83) (lv' := [(4, .int (y4_41 + 1)), (0, .ref m), (2, .int to), (3, .ref (m + 7486 + 9 * s9.toNatClampNeg))]) (st' := []) [(80, .iinc 4 1)] (by decide +kernel) rfl ?_
            have k131 := zaddC y4_41 1 (n := 1) (by decide) (by omega) (by omega)
            generalize ev83 : (y4_41 + 1 : Int32) = v83 at k131 ⊢
            have kv83 := zrng v83
            refine zp_seg (pc' := 41) (lv' := [(4, .int v83), (0, .ref m), (2, .int to), (3, .ref (m + 7486 + 9 * s9.toNatClampNeg))]) (st' := []) [(83, .goto (-42))] (by decide +kernel) rfl ?_
            have hz132 : (v83.toNatClampNeg : Int) = v83.toInt := znat (by first | omega | decide)
            have hb133 : w77 m = some (.inl (15, zMo m (zs (zs (zs g 1 (xT + 1)) 3 Z9_35) 16 Z9_35) r)) := (heq77 m (by omega)).trans hb126
            have hb134 : w77 (m + 193) = some (.inr (4, 8, .inr (va_up fw (y4_41.toNatClampNeg) (some (m + 276 + 2 * xT.toNatClampNeg))))) := (heq77 (m + 193) (by omega)).trans hc60
            exact (ih41 w77 v83 (((xT + 1))) ((va_up fw (y4_41.toNatClampNeg) (some (m + 276 + 2 * xT.toNatClampNeg)))) (fun t => if t = y4_41.toNatClampNeg then (zaOf (fun i => zf (fr1 (v77.toNatClampNeg + i))) 25) else Pg t) (((hsiL41.tr hsi57).tr hsi60).tr hsi77) (fun x hx => ((heq77 x (by omega)).trans ((heq60 x (zx_X16_row_72 hx.1.2.1)).trans ((heq57 x (by omega)).trans (heqL41 x ⟨⟨hx.1.1, hx.1.2.1, hx.1.2.2⟩, hx.2⟩))))) (by first | assumption | omega | decide) (by first | assumption | omega | decide) (by
                  exact hb133) hb134 (by
                  have z9 := zaddC xT 1 (n := 1) (by decide) (by omega) (by omega)
                  omega) (by
                  intro t ht
                  have hzT := znat (x := xT) (by omega)
                  by_cases e : t = y4_41.toNatClampNeg
                  · rw [e, va_up_self, show m + 276 + 2 * xT.toNatClampNeg = m + 276 + 2 * Z9_35.toNatClampNeg + 2 * y4_41.toNatClampNeg by omega]
                  · rw [va_up_ne _ _ e]; exact hfw t (by omega)) (by
                  intro t ht
                  have hzT := znat (x := xT) (by omega)
                  by_cases e : t = y4_41.toNatClampNeg
                  · simp only [if_pos e]
                    rw [e, ← show m + 276 + 2 * xT.toNatClampNeg = m + 276 + 2 * Z9_35.toNatClampNeg + 2 * y4_41.toNatClampNeg by omega]; exact ⟨hp77_0, zaOf_ln _ 25⟩
                  · simp only [if_neg e]
                    exact ⟨(hPg t (by omega)).1.ag (fun x g1 g2 => ((heq77 x (by omega)).trans ((heq60 x (by omega)).trans (heq57 x (by omega))))), (hPg t (by omega)).2⟩) (by omega)).more (zfa1 rfl (zfa1 rfl (zfa1 rfl (zfa1 rfl (zfa0)))))
        have hl135 : (0 : Int32).toInt = 0 := by decide
        have hz136 : ((0 : Int32).toNatClampNeg : Int) = 0 := by decide
        have hb137 := hR_m.si hsi35
        obtain ⟨f138, hb139⟩ := zR_va hb137 (j := 193) (t := 4) (n := 8) (by decide) rfl
        exact (hL41 _ w35 0 (Z9_35) (f138) (fun _ => zaZ) zSI.rf (fun _ _ => rfl) (by first | assumption | omega | decide) (by first | assumption | omega | decide) (by
              exact hM35) hb139 (by
              omega) (by
              exact fun t ht => absurd ht (by omega)) (by
              exact fun t ht => absurd ht (by omega)) (Nat.lt_succ_self _)).more (zfa1 rfl (zfa1 rfl (zfa1 rfl (zfa1 rfl (zfa0)))))
      ·
        have k140 := zrng (g1 0)
        have f142 := zneI cc28
        rw [show (3 : Int32).toInt = 3 from by decide] at f142
        refine zp_seg (pc' := 33) (lv' := [(3, .ref (m + 7486 + 9 * s9.toNatClampNeg)), (0, .ref m), (1, .int s9), (2, .int to)]) (st' := [.int (Int32.ofInt (-3))]) [(31, .bipush (-3))] (by decide +kernel) rfl ?_
        have hoffend : ∀ x, (x < m + 0 ∨ m + 0 + 8322 ≤ x) → w x = w x := fun x hx => rfl
        refine zr_retI (by decide +kernel) rfl ?_
        rw [← hPost]; exact ⟨rfl, _, rfl, zSI.rf, hoffend, ⟨_, _, hm, hR_m, hSl0, hMd0, hPl0, ⟨_, hAf0, hff⟩, hBo0, hBl0, hGa0, hGb0, hBd0, hI12, hI24, hI29, hI31, hIn⟩, _, rfl, trivial⟩
    ·
      replace cc11 := Classical.not_not.mp cc11
      have f144 := zeqI cc11
      rw [show (0 : Int32).toInt = 0 from by decide] at f144
      refine zp_seg (pc' := 15) (lv' := [(0, .ref m), (1, .int s9), (2, .int to)]) (st' := [.int (Int32.ofInt (-1))]) [(14, .iconst (-1))] (by decide +kernel) rfl ?_
      have hoffend : ∀ x, (x < m + 0 ∨ m + 0 + 8322 ≤ x) → w x = w x := fun x hx => rfl
      refine zr_retI (by decide +kernel) rfl ?_
      rw [← hPost]; exact ⟨rfl, _, rfl, zSI.rf, hoffend, ⟨_, _, hm, hR_m, hSl0, hMd0, hPl0, ⟨_, hAf0, hff⟩, hBo0, hBl0, hGa0, hGb0, hBd0, hI12, hI24, hI29, hI31, hIn⟩, _, rfl, trivial⟩
