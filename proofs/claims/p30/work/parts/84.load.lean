theorem zx_X16_load_0 {b x : Nat} (h0 : x < b ∨ b + 130 ≤ x) : x < b + 2 ∨ b + 2 + 128 ≤ x := by omega
theorem zx_X16_load_1 {b x : Nat} (h0 : x < b ∨ b + 130 ≤ x) : x ≠ b := by omega
theorem zx_X16_load_2 {b x : Nat} (h0 : x < b ∨ b + 130 ≤ x) : x < b ∨ b + 1 ≤ x := by omega
theorem zx_X16_load_3 {b cells : Nat} (h0 : cells < b ∨ b + 130 ≤ cells) : cells < b + 2 ∨ b + 2 + 128 ≤ cells := by omega
set_option maxHeartbeats 8000000 in
set_option maxRecDepth 100000 in
theorem c_X16_load {w : zM} {fc : Nat → Int32} (b : Nat) (cells : Nat) (hBo_b : zBo w b) (hA_cells : w cells = some (.inr (0, 325, .inl fc))) (hcr : zCr fc) (hcb : cells < b ∨ b + 130 ≤ cells) : zCon 2 zq_X16_load [.ref b, .ref cells] w (fun v9 w9' => zSI w w9' ∧ (∀ x, (x < b ∨ b + 130 ≤ x) → w9' x = w x) ∧ zB w9' b (zbT fc) ∧ v9 = none) := by
  intro d sz hd
  obtain ⟨d, rfl⟩ : ∃ d9, d = d9 + 1 := ⟨d - 1, by omega⟩
  generalize hPost : (fun (r9' : Option (Option Value)) (w9' : zM) (z9 : Nat) => z9 = sz ∧ ∃ v9, r9' = some v9 ∧ (zSI w w9' ∧ (∀ x, (x < b ∨ b + 130 ≤ x) → w9' x = w x) ∧ zB w9' b (zbT fc) ∧ v9 = none)) = Post
  show zP (d + 1) zq_X16_load 0 [(0, .ref b), (1, .ref cells)] [] w sz 0 0 Post
  refine zp_seg (pc' := 2) (lv' := [(2, .int 0), (0, .ref b), (1, .ref cells)]) (st' := []) [(0, .iconst 0), (1, .istore_n 2)] (by decide +kernel) rfl ?_
  have hL2 : ∀ (mm2 : Nat) (wL2 : zM) (y2_2 : Int32), (zSI w wL2) → (∀ x, (x < b + 2 ∨ b + 2 + 128 ≤ x) → wL2 x = w x) → (0 ≤ y2_2.toInt) → (y2_2.toInt ≤ 13) → (∀ t, t < y2_2.toNatClampNeg → zU wL2 (b + 2 + 2 * t) 200 (zaOf (fun i => zf (fc (25 * t + i))) 25)) → (2147483647 - y2_2.toInt).toNat < mm2 → zP (d + 1) zq_X16_load 2 [(0, .ref b), (1, .ref cells), (2, .int y2_2)] [] wL2 sz 0 0 Post := by
    intro mm2
    induction mm2 with
    | zero => intros; omega
    | succ mm2 ih2 =>
    intro wL2 y2_2 hsiL2 heqL2 hi2_0 hi2_1 hT hmu2
    have ky2_2 := zrng y2_2
    have hz1 : (y2_2.toNatClampNeg : Int) = y2_2.toInt := znat (by first | omega | decide)
    refine zp_seg (pc' := 5) (lv' := [(0, .ref b), (1, .ref cells), (2, .int y2_2)]) (st' := [.int 13, .int y2_2]) [(2, .iload_n 2), (3, .bipush 13)] (by decide +kernel) rfl ?_
    refine zp_if (i := .if_icmp .ge 49) (c := 13 ≤ y2_2) (t := 54) (e := 8) (lv' := [(0, .ref b), (1, .ref cells), (2, .int y2_2)]) (st' := []) (by decide +kernel) rfl (fun cc5 => ?_) (fun cc5 => ?_)
    ·
      have f3 := zleI cc5
      rw [show (13 : Int32).toInt = 13 from by decide] at f3
      refine zp_seg (pc' := 57) (lv' := [(0, .ref b), (1, .ref cells), (2, .int y2_2)]) (st' := [.int 13, .ref b]) [(54, .aload_n 0), (55, .bipush 13)] (by decide +kernel) rfl ?_
      have hb9 := hBo_b.si hsiL2
      obtain ⟨n4, hb5, hb6, -⟩ := id hb9
      have kn4 := zrng n4
      refine zr_put2 (idx := 93) (k := 1) (fs2 := [.ref (b + 1), .int 13]) (by decide +kernel) (by decide +kernel) hb5 (Nat.le_of_ble_eq_true rfl) rfl rfl rfl ?_
      show zP (d + 1) zq_X16_load 60 [(0, .ref b), (1, .ref cells), (2, .int y2_2)] [] (zup wL2 b (.inl (11, [.ref (b + 1), .int 13]))) sz 0 0 Post
      obtain ⟨w57, ew57⟩ : ∃ wz9, wz9 = zup wL2 b (.inl (11, [.ref (b + 1), .int 13])) := ⟨_, rfl⟩
      have hsi57 : zSI wL2 w57 := by rw [ew57]; exact zSI.setB hb5
      have heq57 : ∀ x, x ≠ b → w57 x = wL2 x := fun x hx => by rw [ew57]; exact zup_n hx
      have hc57 : w57 b = some (.inl (11, [.ref (b + 1), .int 13])) := by rw [ew57]; exact zup_s
      rw [← ew57]
      clear ew57
      have hb10 := hb9.si hsi57
      have hBn9 : zBw w57 b 13 (zbT fc) := zBw.mk hb10 hc57 (by decide) (by omega) (fun j hj => by
        rw [show (zbT fc).1 j = _ from zbOf_y hj]
        exact (hT j (by omega)).ag (fun x g1 g2 => (heq57 x (by omega)))) (fun j hj => zbOf_n hj)
      refine zp_seg (pc' := 61) (lv' := [(0, .ref b), (1, .ref cells), (2, .int y2_2)]) (st' := [.ref b]) [(60, .aload_n 0)] (by decide +kernel) rfl ?_
      refine zr_callV (idx := 105) (j := 244) (by decide +kernel) (by decide +kernel) (show zMe 244 = some zq_X12_trim from rfl) rfl rfl (Nat.le_of_ble_eq_true rfl) rfl rfl hc57 (Nat.le_of_ble_eq_true rfl) (Nat.le_of_ble_eq_true rfl) (c_X12_trim (w := w57) b hBn9) (by omega) (fun v61 w61 hp61 => ?_)
      obtain ⟨hsi61, heq61, hp61_0, rfl⟩ := hp61
      show zP _ _ _ _ [] _ _ _ _ _
      have hoffend : ∀ x, (x < b ∨ b + 130 ≤ x) → w61 x = w x := fun x hx => ((heq61 x (zx_X16_load_2 hx)).trans ((heq57 x (zx_X16_load_1 hx)).trans (heqL2 x (zx_X16_load_0 hx))))
      refine zr_retV (by decide +kernel) rfl ?_
      rw [← hPost]; exact ⟨rfl, _, rfl, ((hsiL2.tr hsi57).tr hsi61), hoffend, (by first | exact hp61_0 | (have z9 := hp61_0; simpa using z9)), rfl⟩
    ·
      have f12 := znleI cc5
      rw [show (13 : Int32).toInt = 13 from by decide] at f12
      refine zp_seg (pc' := 13) (lv' := [(0, .ref b), (1, .ref cells), (2, .int y2_2)]) (st' := [.int (25 * y2_2), .ref cells]) [(8, .aload_n 1), (9, .bipush 25), (11, .iload_n 2), (12, .imul)] (by decide +kernel) rfl ?_
      have k13 := zmulCl 25 y2_2 (n := 25) (by decide) (by omega) (by omega)
      generalize ev13 : (25 * y2_2 : Int32) = v13 at k13 ⊢
      have kv13 := zrng v13
      have hz14 : (v13.toNatClampNeg : Int) = v13.toInt := znat (by first | omega | decide)
      have hix9 : v13.toNatClampNeg = 25 * y2_2.toNatClampNeg := by omega
      refine zp_seg (pc' := 14) (lv' := [(0, .ref b), (1, .ref cells), (2, .int y2_2)]) (st' := [.ref b, .int v13, .ref cells]) [(13, .aload_n 0)] (by decide +kernel) rfl ?_
      have hb20 := hBo_b.si hsiL2
      obtain ⟨n15, hb16, hb17, -⟩ := id hb20
      have kn15 := zrng n15
      refine zr_get (idx := 98) (k := 0) (v := .ref (b + 1)) (by decide +kernel) (by decide +kernel) hb16 rfl ?_
      refine zp_seg (pc' := 18) (lv' := [(0, .ref b), (1, .ref cells), (2, .int y2_2)]) (st' := [.int y2_2, .ref (b + 1), .int v13, .ref cells]) [(17, .iload_n 2)] (by decide +kernel) rfl ?_
      refine zr_aald (v := .ref (b + 2 + 2 * y2_2.toNatClampNeg)) (by decide +kernel) hb17 (by decide) (zin (by first | omega | decide) (by first | omega | decide)) (zbr_at (by omega)) ?_
      have hrow21 := hb20.rowo (y2_2.toNatClampNeg) (by omega)
      obtain ⟨n22, f23, hu24, hu25⟩ := id hrow21
      have kn22 := zrng n22
      refine zr_get (idx := 30) (k := 0) (v := .ref (b + 2 + 2 * y2_2.toNatClampNeg + 1)) (by decide +kernel) (by decide +kernel) hu24 rfl ?_
      refine zp_seg (pc' := 25) (lv' := [(0, .ref b), (1, .ref cells), (2, .int y2_2)]) (st' := [.int 25, .int 0, .ref (b + 2 + 2 * y2_2.toNatClampNeg + 1), .int v13, .ref cells]) [(22, .iconst 0), (23, .bipush 25)] (by decide +kernel) rfl ?_
      have hb26 : wL2 cells = some (.inr (0, 325, .inl fc)) := (heqL2 cells (zx_X16_load_3 hcb)).trans hA_cells
      have hl27 : (25 : Int32).toInt = 25 := by decide
      have hl28 : (0 : Int32).toInt = 0 := by decide
      refine zr_acpy (idx := 34) (by decide +kernel) (by decide +kernel) hb26 hu25 (rfl) (by first | omega | decide) (by first | omega | decide) (by first | omega | decide) (by first | omega | decide) (by first | omega | decide) (by omega) (Nat.le_of_ble_eq_true rfl) ?_
      show zP (d + 1) zq_X16_load 28 [(0, .ref b), (1, .ref cells), (2, .int y2_2)] [] (zup wL2 (b + 2 + 2 * y2_2.toNatClampNeg + 1) (.inr (0, 200, .inl (va_cpy fc f23 (v13.toNatClampNeg) ((0 : Int32).toNatClampNeg) ((25 : Int32).toNatClampNeg))))) sz 0 0 Post
      obtain ⟨w25, ew25⟩ : ∃ wz9, wz9 = zup wL2 (b + 2 + 2 * y2_2.toNatClampNeg + 1) (.inr (0, 200, .inl (va_cpy fc f23 (v13.toNatClampNeg) ((0 : Int32).toNatClampNeg) ((25 : Int32).toNatClampNeg)))) := ⟨_, rfl⟩
      have hsi25 : zSI wL2 w25 := by rw [ew25]; exact zSI.arr _ hu25
      have heq25 : ∀ x, x ≠ b + 2 + 2 * y2_2.toNatClampNeg + 1 → w25 x = wL2 x := fun x hx => by rw [ew25]; exact zup_n hx
      have hc25 : w25 (b + 2 + 2 * y2_2.toNatClampNeg + 1) = some (.inr (0, 200, .inl (va_cpy fc f23 (v13.toNatClampNeg) ((0 : Int32).toNatClampNeg) ((25 : Int32).toNatClampNeg)))) := by rw [ew25]; exact zup_s
      rw [← ew25]
      clear ew25
      refine zp_seg (pc' := 29) (lv' := [(0, .ref b), (1, .ref cells), (2, .int y2_2)]) (st' := [.ref b]) [(28, .aload_n 0)] (by decide +kernel) rfl ?_
      have hb29 : w25 b = some (.inl (11, [.ref (b + 1), .int n15])) := (heq25 b (by omega)).trans hb16
      refine zr_get (idx := 98) (k := 0) (v := .ref (b + 1)) (by decide +kernel) (by decide +kernel) hb29 rfl ?_
      refine zp_seg (pc' := 33) (lv' := [(0, .ref b), (1, .ref cells), (2, .int y2_2)]) (st' := [.int y2_2, .ref (b + 1)]) [(32, .iload_n 2)] (by decide +kernel) rfl ?_
      have hb30 : w25 (b + 1) = some (.inr (4, 64, zbr b)) := (heq25 (b + 1) (by omega)).trans hb17
      refine zr_aald (v := .ref (b + 2 + 2 * y2_2.toNatClampNeg)) (by decide +kernel) hb30 (by decide) (zin (by first | omega | decide) (by first | omega | decide)) (zbr_at (by omega)) ?_
      have hb31 := hb20.si hsi25
      have hrow32 := hb31.rowo (y2_2.toNatClampNeg) (by omega)
      refine zp_seg (pc' := 36) (lv' := [(0, .ref b), (1, .ref cells), (2, .int y2_2)]) (st' := [.int 25, .ref (b + 2 + 2 * y2_2.toNatClampNeg)]) [(34, .bipush 25)] (by decide +kernel) rfl ?_
      have hb33 : w25 (b + 2 + 2 * y2_2.toNatClampNeg) = some (.inl (14, [.ref (b + 2 + 2 * y2_2.toNatClampNeg + 1), .int n22])) := (heq25 (b + 2 + 2 * y2_2.toNatClampNeg) (by omega)).trans hu24
      refine zr_put2 (idx := 25) (k := 1) (fs2 := [.ref (b + 2 + 2 * y2_2.toNatClampNeg + 1), .int 25]) (by decide +kernel) (by decide +kernel) hb33 (Nat.le_of_ble_eq_true rfl) rfl rfl rfl ?_
      show zP (d + 1) zq_X16_load 39 [(0, .ref b), (1, .ref cells), (2, .int y2_2)] [] (zup w25 (b + 2 + 2 * y2_2.toNatClampNeg) (.inl (14, [.ref (b + 2 + 2 * y2_2.toNatClampNeg + 1), .int 25]))) sz 0 0 Post
      obtain ⟨w36, ew36⟩ : ∃ wz9, wz9 = zup w25 (b + 2 + 2 * y2_2.toNatClampNeg) (.inl (14, [.ref (b + 2 + 2 * y2_2.toNatClampNeg + 1), .int 25])) := ⟨_, rfl⟩
      have hsi36 : zSI w25 w36 := by rw [ew36]; exact zSI.setU hb33
      have heq36 : ∀ x, x ≠ b + 2 + 2 * y2_2.toNatClampNeg → w36 x = w25 x := fun x hx => by rw [ew36]; exact zup_n hx
      have hc36 : w36 (b + 2 + 2 * y2_2.toNatClampNeg) = some (.inl (14, [.ref (b + 2 + 2 * y2_2.toNatClampNeg + 1), .int 25])) := by rw [ew36]; exact zup_s
      rw [← ew36]
      clear ew36
      refine zp_seg (pc' := 40) (lv' := [(0, .ref b), (1, .ref cells), (2, .int y2_2)]) (st' := [.ref b]) [(39, .aload_n 0)] (by decide +kernel) rfl ?_
      have hb34 : w36 b = some (.inl (11, [.ref (b + 1), .int n15])) := (heq36 b (by omega)).trans hb29
      refine zr_get (idx := 98) (k := 0) (v := .ref (b + 1)) (by decide +kernel) (by decide +kernel) hb34 rfl ?_
      refine zp_seg (pc' := 44) (lv' := [(0, .ref b), (1, .ref cells), (2, .int y2_2)]) (st' := [.int y2_2, .ref (b + 1)]) [(43, .iload_n 2)] (by decide +kernel) rfl ?_
      have hb35 : w36 (b + 2 + 2 * y2_2.toNatClampNeg + 1) = some (.inr (0, 200, .inl (va_cpy fc f23 (v13.toNatClampNeg) ((0 : Int32).toNatClampNeg) ((25 : Int32).toNatClampNeg)))) := (heq36 (b + 2 + 2 * y2_2.toNatClampNeg + 1) (by omega)).trans hc25
      have hUn9 := zUn_cpy (fc := fc) hc36 hb35 (by decide) (fun i hi => hcr _ (by omega)) hix9
      have hb36 : w36 (b + 1) = some (.inr (4, 64, zbr b)) := (heq36 (b + 1) (by omega)).trans hb30
      refine zr_aald (v := .ref (b + 2 + 2 * y2_2.toNatClampNeg)) (by decide +kernel) hb36 (by decide) (zin (by first | omega | decide) (by first | omega | decide)) (zbr_at (by omega)) ?_
      have hb37 := hb31.si hsi36
      have hrow38 := hb37.rowo (y2_2.toNatClampNeg) (by omega)
      refine zr_callV (idx := 52) (j := 251) (by decide +kernel) (by decide +kernel) (show zMe 251 = some zq_X15_trim from rfl) rfl rfl (Nat.le_of_ble_eq_true rfl) rfl rfl hc36 (Nat.le_of_ble_eq_true rfl) (Nat.le_of_ble_eq_true rfl) (c_X15_trim (w := w36) (b + 2 + 2 * y2_2.toNatClampNeg) hUn9) (by omega) (fun v45 w45 hp45 => ?_)
      obtain ⟨hsi45, heq45, hp45_0, rfl⟩ := hp45
      show zP _ _ _ _ [] _ _ _ _ _
      refine zp_seg (pc' := 51) (lv' := [(2, .int (y2_2 + 1)), (0, .ref b), (1, .ref cells)]) (st' := []) [(48, .iinc 2 1)] (by decide +kernel) rfl ?_
      have k39 := zaddC y2_2 1 (n := 1) (by decide) (by omega) (by omega)
      generalize ev51 : (y2_2 + 1 : Int32) = v51 at k39 ⊢
      have kv51 := zrng v51
      refine zp_seg (pc' := 2) (lv' := [(2, .int v51), (0, .ref b), (1, .ref cells)]) (st' := []) [(51, .goto (-49))] (by decide +kernel) rfl ?_
      have hz40 : (v51.toNatClampNeg : Int) = v51.toInt := znat (by first | omega | decide)
      exact (ih2 w45 v51 (((hsiL2.tr hsi25).tr hsi36).tr hsi45) (fun x hx => ((heq45 x (by omega)).trans ((heq36 x (by omega)).trans ((heq25 x (by omega)).trans (heqL2 x hx))))) (by first | assumption | omega | decide) (by first | assumption | omega | decide) (by
            intro t ht
            by_cases e : t = y2_2.toNatClampNeg
            · rw [e]; exact hp45_0
            · exact (hT t (by omega)).ag (fun x g1 g2 => ((heq45 x (by omega)).trans ((heq36 x (by omega)).trans (heq25 x (by omega)))))) (by omega)).more (zfa1 rfl (zfa1 rfl (zfa1 rfl (zfa0))))
  have hl41 : (0 : Int32).toInt = 0 := by decide
  have hz42 : ((0 : Int32).toNatClampNeg : Int) = 0 := by decide
  exact (hL2 _ w 0 zSI.rf (fun _ _ => rfl) (by first | assumption | omega | decide) (by first | assumption | omega | decide) (by
        exact fun t ht => absurd ht (by omega)) (Nat.lt_succ_self _)).more (zfa1 rfl (zfa1 rfl (zfa1 rfl (zfa0))))

theorem zx_X16_store_0 {b cells : Nat} (h0 : cells < b ∨ b + 130 ≤ cells) : b < cells ∨ cells + 1 ≤ b := by omega
theorem zx_X16_store_1 {cells x : Nat} (h0 : x < cells ∨ cells + 1 ≤ x) : x ≠ cells := by omega
theorem zx_X16_store_2 {b cells : Nat} (h0 : cells < b ∨ b + 130 ≤ cells) : (b + 1) < cells ∨ cells + 1 ≤ (b + 1) := by omega
theorem zx_X16_store_3 {b cells x : Nat} (h0 : b ≤ x) (h1 : x < b + 130) (h2 : cells < b ∨ b + 130 ≤ cells) : x < cells ∨ cells + 1 ≤ x := by omega
set_option maxHeartbeats 8000000 in
set_option maxRecDepth 100000 in
theorem c_X16_store {w : zM} {fc : Nat → Int32} {q : zA2} (cells : Nat) (b : Nat) (hA_cells : w cells = some (.inr (0, 325, .inl fc))) (hB_b : zB w b q) (hqr : zrw q ≤ 13) (hqd : zdn q ≤ 24) (hcb : cells < b ∨ b + 130 ≤ cells) : zCon 2 zq_X16_store [.ref cells, .ref b] w (fun v9 w9' => ∃ F9 : Nat → Int32, zSI w w9' ∧ (∀ x, (x < cells ∨ cells + 1 ≤ x) → w9' x = w x) ∧ w9' cells = some (.inr (0, 325, .inl F9)) ∧ (zCr F9 ∧ zbT F9 = q) ∧ v9 = none) := by
  intro d sz hd
  obtain ⟨d, rfl⟩ : ∃ d9, d = d9 + 1 := ⟨d - 1, by omega⟩
  generalize hPost : (fun (r9' : Option (Option Value)) (w9' : zM) (z9 : Nat) => z9 = sz ∧ ∃ v9, r9' = some v9 ∧ (∃ F9 : Nat → Int32, zSI w w9' ∧ (∀ x, (x < cells ∨ cells + 1 ≤ x) → w9' x = w x) ∧ w9' cells = some (.inr (0, 325, .inl F9)) ∧ (zCr F9 ∧ zbT F9 = q) ∧ v9 = none)) = Post
  show zP (d + 1) zq_X16_store 0 [(0, .ref cells), (1, .ref b)] [] w sz 0 0 Post
  obtain ⟨nb, hQb1, hQb2, hQb3, hQb4, hQb5, hQb6⟩ := id hB_b
  have knb := zrng nb
  refine zp_seg (pc' := 2) (lv' := [(2, .int 0), (0, .ref cells), (1, .ref b)]) (st' := []) [(0, .iconst 0), (1, .istore_n 2)] (by decide +kernel) rfl ?_
  have hL2 : ∀ (mm2 : Nat) (wL2 : zM) (y2_2 : Int32) (fa : Nat → Int32), (zSI w wL2) → (∀ x, (x < cells ∨ cells + 1 ≤ x) → wL2 x = w x) → (0 ≤ y2_2.toInt) → (y2_2.toInt ≤ 13) → (wL2 cells = some (.inr (0, 325, .inl fa))) → (∀ j i, j < y2_2.toNatClampNeg → i < 25 → zr1 (fa (25 * j + i)) ∧ zf (fa (25 * j + i)) = (q.1 j).1 i) → (20 - y2_2.toInt).toNat < mm2 → zP (d + 1) zq_X16_store 2 [(0, .ref cells), (1, .ref b), (2, .int y2_2)] [] wL2 sz 0 0 Post := by
    intro mm2
    induction mm2 with
    | zero => intros; omega
    | succ mm2 ih2 =>
    intro wL2 y2_2 fa hsiL2 heqL2 hi2_0 hi2_1 hAa hC hmu2
    have ky2_2 := zrng y2_2
    have hz1 : (y2_2.toNatClampNeg : Int) = y2_2.toInt := znat (by first | omega | decide)
    refine zp_seg (pc' := 5) (lv' := [(0, .ref cells), (1, .ref b), (2, .int y2_2)]) (st' := [.int 13, .int y2_2]) [(2, .iload_n 2), (3, .bipush 13)] (by decide +kernel) rfl ?_
    refine zp_if (i := .if_icmp .ge 53) (c := 13 ≤ y2_2) (t := 58) (e := 8) (lv' := [(0, .ref cells), (1, .ref b), (2, .int y2_2)]) (st' := []) (by decide +kernel) rfl (fun cc5 => ?_) (fun cc5 => ?_)
    ·
      have f3 := zleI cc5
      rw [show (13 : Int32).toInt = 13 from by decide] at f3
      have hoffend : ∀ x, (x < cells ∨ cells + 1 ≤ x) → wL2 x = w x := fun x hx => (heqL2 x hx)
      refine zr_retV (by decide +kernel) rfl ?_
      rw [← hPost]; exact ⟨rfl, _, rfl, fa, hsiL2, hoffend, hAa, (by
            refine ⟨fun i hi => ?_, zbT_eq (fun j i hj hi => (hC j i (by omega) hi).2) hqr hqd⟩
            have h9 := (hC (i / 25) (i % 25) (by omega) (by omega)).1
            rw [show 25 * (i / 25) + i % 25 = i by omega] at h9
            exact h9), rfl⟩
    ·
      have f5 := znleI cc5
      rw [show (13 : Int32).toInt = 13 from by decide] at f5
      refine zp_seg (pc' := 10) (lv' := [(3, .int 0), (0, .ref cells), (1, .ref b), (2, .int y2_2)]) (st' := []) [(8, .iconst 0), (9, .istore_n 3)] (by decide +kernel) rfl ?_
      have hL10 : ∀ (mm10 : Nat) (wL10 : zM) (y3_10 : Int32) (fb : Nat → Int32), (zSI wL2 wL10) → (∀ x, (x < cells ∨ cells + 1 ≤ x) → wL10 x = wL2 x) → (0 ≤ y3_10.toInt) → (y3_10.toInt ≤ 25) → (wL10 cells = some (.inr (0, 325, .inl fb))) → ((∀ j i, j < y2_2.toNatClampNeg → i < 25 → zr1 (fb (25 * j + i)) ∧ zf (fb (25 * j + i)) = (q.1 j).1 i) ∧ ∀ i, i < y3_10.toNatClampNeg → zr1 (fb (25 * y2_2.toNatClampNeg + i)) ∧ zf (fb (25 * y2_2.toNatClampNeg + i)) = (q.1 y2_2.toNatClampNeg).1 i) → (30 - y3_10.toInt).toNat < mm10 → zP (d + 1) zq_X16_store 10 [(0, .ref cells), (1, .ref b), (2, .int y2_2), (3, .int y3_10)] [] wL10 sz 0 0 Post := by
        intro mm10
        induction mm10 with
        | zero => intros; omega
        | succ mm10 ih10 =>
        intro wL10 y3_10 fb hsiL10 heqL10 hi10_0 hi10_1 hAb hD hmu10
        have ky3_10 := zrng y3_10
        have hz6 : (y3_10.toNatClampNeg : Int) = y3_10.toInt := znat (by first | omega | decide)
        refine zp_seg (pc' := 13) (lv' := [(0, .ref cells), (1, .ref b), (2, .int y2_2), (3, .int y3_10)]) (st' := [.int 25, .int y3_10]) [(10, .iload_n 3), (11, .bipush 25)] (by decide +kernel) rfl ?_
        refine zp_if (i := .if_icmp .ge 39) (c := 25 ≤ y3_10) (t := 52) (e := 16) (lv' := [(0, .ref cells), (1, .ref b), (2, .int y2_2), (3, .int y3_10)]) (st' := []) (by decide +kernel) rfl (fun cc13 => ?_) (fun cc13 => ?_)
        ·
          have f8 := zleI cc13
          rw [show (25 : Int32).toInt = 25 from by decide] at f8
          refine zp_seg (pc' := 55) (lv' := [(2, .int (y2_2 + 1)), (0, .ref cells), (1, .ref b), (3, .int y3_10)]) (st' := []) [(52, .iinc 2 1)] (by decide +kernel) rfl ?_
          have k9 := zaddC y2_2 1 (n := 1) (by decide) (by omega) (by omega)
          generalize ev55 : (y2_2 + 1 : Int32) = v55 at k9 ⊢
          have kv55 := zrng v55
          refine zp_seg (pc' := 2) (lv' := [(2, .int v55), (0, .ref cells), (1, .ref b), (3, .int y3_10)]) (st' := []) [(55, .goto (-53))] (by decide +kernel) rfl ?_
          have hz10 : (v55.toNatClampNeg : Int) = v55.toInt := znat (by first | omega | decide)
          exact (ih2 wL10 v55 (fb) (hsiL2.tr hsiL10) (fun x hx => ((heqL10 x hx).trans (heqL2 x hx))) (by first | assumption | omega | decide) (by first | assumption | omega | decide) hAb (by
                intro j i hj hi
                by_cases e : j < y2_2.toNatClampNeg
                · exact hD.1 j i e hi
                · rw [show j = y2_2.toNatClampNeg by omega]; exact hD.2 i (by omega)) (by omega)).more (zfa1 rfl (zfa1 rfl (zfa1 rfl (zfa0))))
        ·
          have f12 := znleI cc13
          rw [show (25 : Int32).toInt = 25 from by decide] at f12
          refine zp_seg (pc' := 21) (lv' := [(0, .ref cells), (1, .ref b), (2, .int y2_2), (3, .int y3_10)]) (st' := [.int (25 * y2_2), .ref cells]) [(16, .aload_n 0), (17, .bipush 25), (19, .iload_n 2), (20, .imul)] (by decide +kernel) rfl ?_
          have k13 := zmulCl 25 y2_2 (n := 25) (by decide) (by omega) (by omega)
          generalize ev21 : (25 * y2_2 : Int32) = v21 at k13 ⊢
          have kv21 := zrng v21
          refine zp_seg (pc' := 23) (lv' := [(0, .ref cells), (1, .ref b), (2, .int y2_2), (3, .int y3_10)]) (st' := [.int (v21 + y3_10), .ref cells]) [(21, .iload_n 3), (22, .iadd)] (by decide +kernel) rfl ?_
          have k14 := zadd v21 y3_10 (by omega) (by omega)
          generalize ev23 : (v21 + y3_10 : Int32) = v23 at k14 ⊢
          have kv23 := zrng v23
          have hz15 : (v23.toNatClampNeg : Int) = v23.toInt := znat (by first | omega | decide)
          have hix9 : v23.toNatClampNeg = 25 * y2_2.toNatClampNeg + y3_10.toNatClampNeg := by omega
          refine zp_seg (pc' := 25) (lv' := [(0, .ref cells), (1, .ref b), (2, .int y2_2), (3, .int y3_10)]) (st' := [.ref b, .int y2_2, .int v23, .ref cells]) [(23, .iload_n 2), (24, .aload_n 1)] (by decide +kernel) rfl ?_
          have hb16 : wL10 b = some (.inl (11, [.ref (b + 1), .int nb])) := ((heqL10 b (zx_X16_store_0 hcb)).trans (heqL2 b (zx_X16_store_0 hcb))).trans hQb1
          refine zr_get (idx := 93) (k := 1) (v := .int nb) (by decide +kernel) (by decide +kernel) hb16 rfl ?_
          refine zp_if (i := .if_icmp .ge 16) (c := nb ≤ y2_2) (t := 44) (e := 31) (lv' := [(0, .ref cells), (1, .ref b), (2, .int y2_2), (3, .int y3_10)]) (st' := [.int v23, .ref cells]) (by decide +kernel) rfl (fun cc28 => ?_) (fun cc28 => ?_)
          ·
            have k17 := zrng nb
            have f18 := zleI cc28
            refine zp_seg (pc' := 45) (lv' := [(0, .ref cells), (1, .ref b), (2, .int y2_2), (3, .int y3_10)]) (st' := [.int 0, .int v23, .ref cells]) [(44, .iconst 0)] (by decide +kernel) rfl ?_
            refine zr_iast (by decide +kernel) hAb (zin (by first | omega | decide) (by first | omega | decide)) ?_
            show zP (d + 1) zq_X16_store 46 [(0, .ref cells), (1, .ref b), (2, .int y2_2), (3, .int y3_10)] [] (zup wL10 cells (.inr (0, 325, .inl (upd fb (v23.toNatClampNeg) 0)))) sz 0 0 Post
            obtain ⟨w45, ew45⟩ : ∃ wz9, wz9 = zup wL10 cells (.inr (0, 325, .inl (upd fb (v23.toNatClampNeg) 0))) := ⟨_, rfl⟩
            have hsi45 : zSI wL10 w45 := by rw [ew45]; exact zSI.arr _ hAb
            have heq45 : ∀ x, x ≠ cells → w45 x = wL10 x := fun x hx => by rw [ew45]; exact zup_n hx
            have hc45 : w45 cells = some (.inr (0, 325, .inl (upd fb (v23.toNatClampNeg) 0))) := by rw [ew45]; exact zup_s
            rw [← ew45]
            clear ew45
            refine zp_seg (pc' := 49) (lv' := [(3, .int (y3_10 + 1)), (0, .ref cells), (1, .ref b), (2, .int y2_2)]) (st' := []) [(46, .iinc 3 1)] (by decide +kernel) rfl ?_
            have k19 := zaddC y3_10 1 (n := 1) (by decide) (by omega) (by omega)
            generalize ev49 : (y3_10 + 1 : Int32) = v49 at k19 ⊢
            have kv49 := zrng v49
            refine zp_seg (pc' := 10) (lv' := [(3, .int v49), (0, .ref cells), (1, .ref b), (2, .int y2_2)]) (st' := []) [(49, .goto (-39))] (by decide +kernel) rfl ?_
            have hz20 : (v49.toNatClampNeg : Int) = v49.toInt := znat (by first | omega | decide)
            exact (ih10 w45 v49 ((upd fb (v23.toNatClampNeg) 0)) (hsiL10.tr hsi45) (fun x hx => ((heq45 x (zx_X16_store_1 hx)).trans (heqL10 x hx))) (by first | assumption | omega | decide) (by first | assumption | omega | decide) hc45 (by
                  refine ⟨fun j i hj hi => ?_, fun i hi => ?_⟩
                  · rw [zupd_n _ _ (by omega)]; exact hD.1 j i hj hi
                  · by_cases e : i = y3_10.toNatClampNeg
                    · rw [e, ← hix9, zupd_s]
                      first
                      | exact ⟨hr38.1, hr38.2 (by omega)⟩
                      | (rw [zrw_dg q _ (by omega), zaZ_c]; exact ⟨zr1_0, zf_0⟩)
                    · rw [zupd_n _ _ (by omega)]; exact hD.2 i (by omega)) (by omega)).more (zfa1 rfl (zfa1 rfl (zfa1 rfl (zfa1 rfl (zfa0)))))
          ·
            have k21 := zrng nb
            have f22 := znleI cc28
            refine zp_seg (pc' := 32) (lv' := [(0, .ref cells), (1, .ref b), (2, .int y2_2), (3, .int y3_10)]) (st' := [.ref b, .int v23, .ref cells]) [(31, .aload_n 1)] (by decide +kernel) rfl ?_
            refine zr_get (idx := 98) (k := 0) (v := .ref (b + 1)) (by decide +kernel) (by decide +kernel) hb16 rfl ?_
            refine zp_seg (pc' := 36) (lv' := [(0, .ref cells), (1, .ref b), (2, .int y2_2), (3, .int y3_10)]) (st' := [.int y2_2, .ref (b + 1), .int v23, .ref cells]) [(35, .iload_n 2)] (by decide +kernel) rfl ?_
            have hb23 : wL10 (b + 1) = some (.inr (4, 64, zbr b)) := ((heqL10 (b + 1) (zx_X16_store_2 hcb)).trans (heqL2 (b + 1) (zx_X16_store_2 hcb))).trans hQb2
            refine zr_aald (v := .ref (b + 2 + 2 * y2_2.toNatClampNeg)) (by decide +kernel) hb23 (by decide) (zin (by first | omega | decide) (by first | omega | decide)) (zbr_at (by omega)) ?_
            have hb24 : zB wL10 b q := hB_b.ag (fun x hx1 hx2 => ((heqL10 x (zx_X16_store_3 hx1 hx2 hcb)).trans (heqL2 x (zx_X16_store_3 hx1 hx2 hcb))))
            have hrow25 := hb24.row (y2_2.toNatClampNeg) (by omega)
            refine zp_seg (pc' := 38) (lv' := [(0, .ref cells), (1, .ref b), (2, .int y2_2), (3, .int y3_10)]) (st' := [.int y3_10, .ref (b + 2 + 2 * y2_2.toNatClampNeg), .int v23, .ref cells]) [(37, .iload_n 3)] (by decide +kernel) rfl ?_
            obtain ⟨n26, f27, hu28, hu29, hu30, hu31, hu32⟩ := id hrow25
            have kn26 := zrng n26
            refine zr_callV (idx := 122) (j := 254) (by decide +kernel) (by decide +kernel) (show zMe 254 = some zq_X15_at from rfl) rfl rfl (Nat.le_of_ble_eq_true rfl) rfl rfl hu28 (Nat.le_of_ble_eq_true rfl) (Nat.le_of_ble_eq_true rfl) (c_X15_at (w := wL10) (b + 2 + 2 * y2_2.toNatClampNeg) y3_10 hrow25) (by omega) (fun v38 w38 hp38 => ?_)
            obtain ⟨hpw38, r38, rfl, hr38⟩ := hp38
            replace hpw38 := hpw38.symm
            subst hpw38
            have kr38 := zrng r38
            show zP _ _ _ _ [.int r38, .int v23, .ref cells] _ _ _ _ _
            refine zp_seg (pc' := 45) (lv' := [(0, .ref cells), (1, .ref b), (2, .int y2_2), (3, .int y3_10)]) (st' := [.int r38, .int v23, .ref cells]) [(41, .goto 4)] (by decide +kernel) rfl ?_
            refine zr_iast (by decide +kernel) hAb (zin (by first | omega | decide) (by first | omega | decide)) ?_
            show zP (d + 1) zq_X16_store 46 [(0, .ref cells), (1, .ref b), (2, .int y2_2), (3, .int y3_10)] [] (zup wL10 cells (.inr (0, 325, .inl (upd fb (v23.toNatClampNeg) r38)))) sz 0 0 Post
            obtain ⟨w45, ew45⟩ : ∃ wz9, wz9 = zup wL10 cells (.inr (0, 325, .inl (upd fb (v23.toNatClampNeg) r38))) := ⟨_, rfl⟩
            have hsi45 : zSI wL10 w45 := by rw [ew45]; exact zSI.arr _ hAb
            have heq45 : ∀ x, x ≠ cells → w45 x = wL10 x := fun x hx => by rw [ew45]; exact zup_n hx
            have hc45 : w45 cells = some (.inr (0, 325, .inl (upd fb (v23.toNatClampNeg) r38))) := by rw [ew45]; exact zup_s
            rw [← ew45]
            clear ew45
            refine zp_seg (pc' := 49) (lv' := [(3, .int (y3_10 + 1)), (0, .ref cells), (1, .ref b), (2, .int y2_2)]) (st' := []) [(46, .iinc 3 1)] (by decide +kernel) rfl ?_
            have k33 := zaddC y3_10 1 (n := 1) (by decide) (by omega) (by omega)
            generalize ev49 : (y3_10 + 1 : Int32) = v49 at k33 ⊢
            have kv49 := zrng v49
            refine zp_seg (pc' := 10) (lv' := [(3, .int v49), (0, .ref cells), (1, .ref b), (2, .int y2_2)]) (st' := []) [(49, .goto (-39))] (by decide +kernel) rfl ?_
            have hz34 : (v49.toNatClampNeg : Int) = v49.toInt := znat (by first | omega | decide)
            exact (ih10 w45 v49 ((upd fb (v23.toNatClampNeg) r38)) (hsiL10.tr hsi45) (fun x hx => ((heq45 x (zx_X16_store_1 hx)).trans (heqL10 x hx))) (by first | assumption | omega | decide) (by first | assumption | omega | decide) hc45 (by
                  refine ⟨fun j i hj hi => ?_, fun i hi => ?_⟩
                  · rw [zupd_n _ _ (by omega)]; exact hD.1 j i hj hi
                  · by_cases e : i = y3_10.toNatClampNeg
                    · rw [e, ← hix9, zupd_s]
                      first
                      | exact ⟨hr38.1, hr38.2 (by omega)⟩
                      | (rw [zrw_dg q _ (by omega), zaZ_c]; exact ⟨zr1_0, zf_0⟩)
                    · rw [zupd_n _ _ (by omega)]; exact hD.2 i (by omega)) (by omega)).more (zfa1 rfl (zfa1 rfl (zfa1 rfl (zfa1 rfl (zfa0)))))
      have hl35 : (0 : Int32).toInt = 0 := by decide
      have hz36 : ((0 : Int32).toNatClampNeg : Int) = 0 := by decide
      exact (hL10 _ wL2 0 (fa) zSI.rf (fun _ _ => rfl) (by first | assumption | omega | decide) (by first | assumption | omega | decide) hAa (by
            exact ⟨hC, fun i hi => absurd hi (by omega)⟩) (Nat.lt_succ_self _)).more (zfa1 rfl (zfa1 rfl (zfa1 rfl (zfa1 rfl (zfa0)))))
  have hl37 : (0 : Int32).toInt = 0 := by decide
  have hz38 : ((0 : Int32).toNatClampNeg : Int) = 0 := by decide
  exact (hL2 _ w 0 (fc) zSI.rf (fun _ _ => rfl) (by first | assumption | omega | decide) (by first | assumption | omega | decide) hA_cells (by
        exact fun j i hj _ => absurd hj (by omega)) (Nat.lt_succ_self _)).more (zfa1 rfl (zfa1 rfl (zfa1 rfl (zfa0))))

theorem zx_X16_put_0 {t : Nat}  : t < t + 1 ∨ t + 1 + 1 ≤ t := by omega
theorem zx_X16_put_1 {t : Nat}  : (t + 2) < t + 1 ∨ t + 1 + 1 ≤ (t + 2) := by omega
theorem zx_X16_put_2 {b t x : Nat} (h0 : b ≤ x) (h1 : x < b + 130) (h2 : t + 9 ≤ b ∨ b + 130 ≤ t) : x < t + 1 ∨ t + 1 + 1 ≤ x := by omega
theorem zx_X16_put_3 {t : Nat}  : (t + 1) < t + 2 ∨ t + 2 + 1 ≤ (t + 1) := by omega
theorem zx_X16_put_4 {t x : Nat} (h0 : x < t + 1 ∨ t + 1 + 2 ≤ x) : x < t + 1 ∨ t + 1 + 1 ≤ x := by omega
theorem zx_X16_put_5 {t x : Nat} (h0 : x < t + 1 ∨ t + 1 + 2 ≤ x) : x < t + 2 ∨ t + 2 + 1 ≤ x := by omega
set_option maxHeartbeats 8000000 in
set_option maxRecDepth 100000 in
theorem c_X16_put {w : zM} {gt : Nat → Int32} {fn fd : Nat → Int32} {p q : zA2} (t : Nat) (a : Nat) (b : Nat) (hT_t : w t = some (.inl (13, zTo t gt))) (hA_t_1 : w (t + 1) = some (.inr (0, 325, .inl fn))) (hA_t_2 : w (t + 2) = some (.inr (0, 325, .inl fd))) (hB_a : zB w a p) (hB_b : zB w b q) (hta : t + 9 ≤ a ∨ a + 130 ≤ t) (htb : t + 9 ≤ b ∨ b + 130 ≤ t) : zCon 3 zq_X16_put [.ref t, .ref a, .ref b] w (fun v9 w9' => ∃ Fn : Nat → Int32, ∃ Fd : Nat → Int32, zSI w w9' ∧ (∀ x, (x < t + 1 ∨ t + 1 + 2 ≤ x) → w9' x = w x) ∧ w9' (t + 1) = some (.inr (0, 325, .inl Fn)) ∧ w9' (t + 2) = some (.inr (0, 325, .inl Fd)) ∧ ∃ r9 : Int32, v9 = some (.int r9) ∧ (r9 = 0 ∨ r9 = 1) ∧ ((r9 = 0 → Fn = fn ∧ Fd = fd) ∧ (r9 = 1 → zCr Fn ∧ zCr Fd ∧ zbT Fn = p ∧ zbT Fd = q) ∧ ((zrw p ≤ 13 ∧ zdn p ≤ 24) ∧ (zrw q ≤ 13 ∧ zdn q ≤ 24) → r9 = 1))) := by
  intro d sz hd
  obtain ⟨d, rfl⟩ : ∃ d9, d = d9 + 1 := ⟨d - 1, by omega⟩
  generalize hPost : (fun (r9' : Option (Option Value)) (w9' : zM) (z9 : Nat) => z9 = sz ∧ ∃ v9, r9' = some v9 ∧ (∃ Fn : Nat → Int32, ∃ Fd : Nat → Int32, zSI w w9' ∧ (∀ x, (x < t + 1 ∨ t + 1 + 2 ≤ x) → w9' x = w x) ∧ w9' (t + 1) = some (.inr (0, 325, .inl Fn)) ∧ w9' (t + 2) = some (.inr (0, 325, .inl Fd)) ∧ ∃ r9 : Int32, v9 = some (.int r9) ∧ (r9 = 0 ∨ r9 = 1) ∧ ((r9 = 0 → Fn = fn ∧ Fd = fd) ∧ (r9 = 1 → zCr Fn ∧ zCr Fd ∧ zbT Fn = p ∧ zbT Fd = q) ∧ ((zrw p ≤ 13 ∧ zdn p ≤ 24) ∧ (zrw q ≤ 13 ∧ zdn q ≤ 24) → r9 = 1)))) = Post
  show zP (d + 1) zq_X16_put 0 [(0, .ref t), (1, .ref a), (2, .ref b)] [] w sz 0 0 Post
  refine zp_seg (pc' := 1) (lv' := [(0, .ref t), (1, .ref a), (2, .ref b)]) (st' := [.ref a]) [(0, .aload_n 1)] (by decide +kernel) rfl ?_
  refine zr_callS (idx := 249) (j := 292) (by decide +kernel) (by decide +kernel) (by decide) (show zMe 292 = some zq_X16_fits from rfl) rfl rfl (Nat.le_of_ble_eq_true rfl) rfl rfl (Nat.le_of_ble_eq_true rfl) (Nat.le_of_ble_eq_true rfl) (c_X16_fits (w := w) a hB_a) (by omega) (fun v1 w1 hp1 => ?_)
  obtain ⟨hpw1, r1, rfl, hrb1, hr1⟩ := hp1
  replace hpw1 := hpw1.symm
  subst hpw1
  have kr1 := zrng r1
  show zP _ _ _ _ [.int r1] _ _ _ _ _
  refine zp_if (i := .ifCond .eq 10) (c := r1 = 0) (t := 14) (e := 7) (lv' := [(0, .ref t), (1, .ref a), (2, .ref b)]) (st' := []) (by decide +kernel) rfl (fun cc4 => ?_) (fun cc4 => ?_)
  ·
    have f2 := zeqI cc4
    rw [show (0 : Int32).toInt = 0 from by decide] at f2
    refine zp_seg (pc' := 15) (lv' := [(0, .ref t), (1, .ref a), (2, .ref b)]) (st' := [.int 0]) [(14, .iconst 0)] (by decide +kernel) rfl ?_
    have hoffend : ∀ x, (x < t + 1 ∨ t + 1 + 2 ≤ x) → w x = w x := fun x hx => rfl
    refine zr_retB (by decide +kernel) rfl (by decide) ?_
    rw [← hPost]; exact ⟨rfl, _, rfl, fn, fd, zSI.rf, hoffend, hA_t_1, hA_t_2, _, rfl, (by decide), (by
          first
          | exact ⟨fun e => absurd e (by decide), fun _ => ⟨hp21_1.1, hp29_1.1, hp21_1.2, hp29_1.2⟩, fun _ => rfl⟩
          | exact ⟨fun _ => ⟨rfl, rfl⟩, fun e => absurd e (by decide), fun e => absurd (cc4.symm.trans (hr1.2 e.1)) (by decide)⟩
          | exact ⟨fun _ => ⟨rfl, rfl⟩, fun e => absurd e (by decide), fun e => absurd (cc11.symm.trans (hr8.2 e.2)) (by decide)⟩)⟩
  ·
    have f4 := zneI cc4
    rw [show (0 : Int32).toInt = 0 from by decide] at f4
    refine zp_seg (pc' := 8) (lv' := [(0, .ref t), (1, .ref a), (2, .ref b)]) (st' := [.ref b]) [(7, .aload_n 2)] (by decide +kernel) rfl ?_
    refine zr_callS (idx := 249) (j := 292) (by decide +kernel) (by decide +kernel) (by decide) (show zMe 292 = some zq_X16_fits from rfl) rfl rfl (Nat.le_of_ble_eq_true rfl) rfl rfl (Nat.le_of_ble_eq_true rfl) (Nat.le_of_ble_eq_true rfl) (c_X16_fits (w := w) b hB_b) (by omega) (fun v8 w8 hp8 => ?_)
    obtain ⟨hpw8, r8, rfl, hrb8, hr8⟩ := hp8
    replace hpw8 := hpw8.symm
    subst hpw8
    have kr8 := zrng r8
    show zP _ _ _ _ [.int r8] _ _ _ _ _
    refine zp_if (i := .ifCond .ne 5) (c := ¬ r8 = 0) (t := 16) (e := 14) (lv' := [(0, .ref t), (1, .ref a), (2, .ref b)]) (st' := []) (by decide +kernel) rfl (fun cc11 => ?_) (fun cc11 => ?_)
    ·
      have f5 := zneI cc11
      rw [show (0 : Int32).toInt = 0 from by decide] at f5
      have hff : (zrw p ≤ 13 ∧ zdn p ≤ 24) ∧ (zrw q ≤ 13 ∧ zdn q ≤ 24) := ⟨hr1.1 (hrb1.resolve_left cc4), hr8.1 (hrb8.resolve_left cc11)⟩
      refine zp_seg (pc' := 17) (lv' := [(0, .ref t), (1, .ref a), (2, .ref b)]) (st' := [.ref t]) [(16, .aload_n 0)] (by decide +kernel) rfl ?_
      refine zr_get (idx := 207) (k := 1) (v := .ref (t + 1)) (by decide +kernel) (by decide +kernel) hT_t rfl ?_
      refine zp_seg (pc' := 21) (lv' := [(0, .ref t), (1, .ref a), (2, .ref b)]) (st' := [.ref a, .ref (t + 1)]) [(20, .aload_n 1)] (by decide +kernel) rfl ?_
      refine zr_callS (idx := 253) (j := 300) (by decide +kernel) (by decide +kernel) (by decide) (show zMe 300 = some zq_X16_store from rfl) rfl rfl (Nat.le_of_ble_eq_true rfl) rfl rfl (Nat.le_of_ble_eq_true rfl) (Nat.le_of_ble_eq_true rfl) (c_X16_store (w := w) (t + 1) a hA_t_1 hB_a (by exact hff.1.1) (by exact hff.1.2) (by first | omega | decide | assumption | exact zr1_1 | exact zr1_0 | fail "num")) (by omega) (fun v21 w21 hp21 => ?_)
      obtain ⟨F9_21, hsi21, heq21, hp21_0, hp21_1, rfl⟩ := hp21
      show zP _ _ _ _ [] _ _ _ _ _
      refine zp_seg (pc' := 25) (lv' := [(0, .ref t), (1, .ref a), (2, .ref b)]) (st' := [.ref t]) [(24, .aload_n 0)] (by decide +kernel) rfl ?_
      have hb6 : w21 t = some (.inl (13, zTo t gt)) := (heq21 t (zx_X16_put_0)).trans hT_t
      refine zr_get (idx := 210) (k := 2) (v := .ref (t + 2)) (by decide +kernel) (by decide +kernel) hb6 rfl ?_
      refine zp_seg (pc' := 29) (lv' := [(0, .ref t), (1, .ref a), (2, .ref b)]) (st' := [.ref b, .ref (t + 2)]) [(28, .aload_n 2)] (by decide +kernel) rfl ?_
      have hb7 : w21 (t + 2) = some (.inr (0, 325, .inl fd)) := (heq21 (t + 2) (zx_X16_put_1)).trans hA_t_2
      have hb8 : zB w21 b q := hB_b.ag (fun x hx1 hx2 => (heq21 x (zx_X16_put_2 hx1 hx2 htb)))
      refine zr_callS (idx := 253) (j := 300) (by decide +kernel) (by decide +kernel) (by decide) (show zMe 300 = some zq_X16_store from rfl) rfl rfl (Nat.le_of_ble_eq_true rfl) rfl rfl (Nat.le_of_ble_eq_true rfl) (Nat.le_of_ble_eq_true rfl) (c_X16_store (w := w21) (t + 2) b hb7 hb8 (by exact hff.2.1) (by exact hff.2.2) (by first | omega | decide | assumption | exact zr1_1 | exact zr1_0 | fail "num")) (by omega) (fun v29 w29 hp29 => ?_)
      obtain ⟨F9_29, hsi29, heq29, hp29_0, hp29_1, rfl⟩ := hp29
      show zP _ _ _ _ [] _ _ _ _ _
      refine zp_seg (pc' := 33) (lv' := [(0, .ref t), (1, .ref a), (2, .ref b)]) (st' := [.int 1]) [(32, .iconst 1)] (by decide +kernel) rfl ?_
      have hb9 : w29 (t + 1) = some (.inr (0, 325, .inl F9_21)) := (heq29 (t + 1) (zx_X16_put_3)).trans hp21_0
      have hoffend : ∀ x, (x < t + 1 ∨ t + 1 + 2 ≤ x) → w29 x = w x := fun x hx => ((heq29 x (zx_X16_put_5 hx)).trans (heq21 x (zx_X16_put_4 hx)))
      refine zr_retB (by decide +kernel) rfl (by decide) ?_
      rw [← hPost]; exact ⟨rfl, _, rfl, F9_21, F9_29, (hsi21.tr hsi29), hoffend, hb9, hp29_0, _, rfl, (by decide), (by
            first
            | exact ⟨fun e => absurd e (by decide), fun _ => ⟨hp21_1.1, hp29_1.1, hp21_1.2, hp29_1.2⟩, fun _ => rfl⟩
            | exact ⟨fun _ => ⟨rfl, rfl⟩, fun e => absurd e (by decide), fun e => absurd (cc4.symm.trans (hr1.2 e.1)) (by decide)⟩
            | exact ⟨fun _ => ⟨rfl, rfl⟩, fun e => absurd e (by decide), fun e => absurd (cc11.symm.trans (hr8.2 e.2)) (by decide)⟩)⟩
    ·
      replace cc11 := Classical.not_not.mp cc11
      have f10 := zeqI cc11
      rw [show (0 : Int32).toInt = 0 from by decide] at f10
      refine zp_seg (pc' := 15) (lv' := [(0, .ref t), (1, .ref a), (2, .ref b)]) (st' := [.int 0]) [(14, .iconst 0)] (by decide +kernel) rfl ?_
      have hoffend : ∀ x, (x < t + 1 ∨ t + 1 + 2 ≤ x) → w x = w x := fun x hx => rfl
      refine zr_retB (by decide +kernel) rfl (by decide) ?_
      rw [← hPost]; exact ⟨rfl, _, rfl, fn, fd, zSI.rf, hoffend, hA_t_1, hA_t_2, _, rfl, (by decide), (by
            first
            | exact ⟨fun e => absurd e (by decide), fun _ => ⟨hp21_1.1, hp29_1.1, hp21_1.2, hp29_1.2⟩, fun _ => rfl⟩
            | exact ⟨fun _ => ⟨rfl, rfl⟩, fun e => absurd e (by decide), fun e => absurd (cc4.symm.trans (hr1.2 e.1)) (by decide)⟩
            | exact ⟨fun _ => ⟨rfl, rfl⟩, fun e => absurd e (by decide), fun e => absurd (cc11.symm.trans (hr8.2 e.2)) (by decide)⟩)⟩
