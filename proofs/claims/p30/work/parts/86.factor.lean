theorem zx_X16_move_0 {t : Nat}  : t ≠ t + 3 := by omega
theorem zx_X16_move_1 {t : Nat}  : (t + 4) ≠ t + 3 := by omega
theorem zx_X16_move_2 {t : Nat}  : t ≠ t + 4 := by omega
theorem zx_X16_move_3 {t : Nat}  : (t + 5) ≠ t + 3 := by omega
theorem zx_X16_move_4 {t : Nat}  : (t + 5) ≠ t + 4 := by omega
theorem zx_X16_move_5 {t : Nat}  : t ≠ t + 5 := by omega
theorem zx_X16_move_6 {t : Nat}  : (t + 6) ≠ t + 3 := by omega
theorem zx_X16_move_7 {t : Nat}  : (t + 6) ≠ t + 4 := by omega
theorem zx_X16_move_8 {t : Nat}  : (t + 6) ≠ t + 5 := by omega
theorem zx_X16_move_9 {t x : Nat} (h0 : x < t + 3 ∨ t + 3 + 4 ≤ x) : x ≠ t + 3 := by omega
theorem zx_X16_move_10 {t x : Nat} (h0 : x < t + 3 ∨ t + 3 + 4 ≤ x) : x ≠ t + 4 := by omega
theorem zx_X16_move_11 {t x : Nat} (h0 : x < t + 3 ∨ t + 3 + 4 ≤ x) : x ≠ t + 5 := by omega
theorem zx_X16_move_12 {t x : Nat} (h0 : x < t + 3 ∨ t + 3 + 4 ≤ x) : x ≠ t + 6 := by omega
theorem zx_X16_move_13 {t : Nat}  : (t + 3) ≠ t + 4 := by omega
theorem zx_X16_move_14 {t : Nat}  : (t + 3) ≠ t + 5 := by omega
theorem zx_X16_move_15 {t : Nat}  : (t + 3) ≠ t + 6 := by omega
theorem zx_X16_move_16 {t : Nat}  : (t + 4) ≠ t + 5 := by omega
theorem zx_X16_move_17 {t : Nat}  : (t + 4) ≠ t + 6 := by omega
theorem zx_X16_move_18 {t : Nat}  : (t + 5) ≠ t + 6 := by omega
set_option maxHeartbeats 8000000 in
set_option maxRecDepth 100000 in
theorem c_X16_move {w : zM} {gt fa fb fc fe : Nat → Int32} (t : Nat) (i : Int32) (j : Int32) (hT_t : w t = some (.inl (13, zTo t gt))) (hA_t_3 : w (t + 3) = some (.inr (0, 13, .inl fa))) (hA_t_4 : w (t + 4) = some (.inr (0, 13, .inl fb))) (hA_t_5 : w (t + 5) = some (.inr (0, 13, .inl fc))) (hA_t_6 : w (t + 6) = some (.inr (0, 13, .inl fe))) (hi : 0 ≤ i.toInt ∧ i.toInt ≤ 12) (hj : 0 ≤ j.toInt ∧ j.toInt ≤ 12) : zCon 1 zq_X16_move [.ref t, .int i, .int j] w (fun v9 w9' => zSI w w9' ∧ (∀ x, (x < t + 3 ∨ t + 3 + 4 ≤ x) → w9' x = w x) ∧ w9' (t + 3) = some (.inr (0, 13, .inl (upd fa j.toNatClampNeg (fa i.toNatClampNeg)))) ∧ w9' (t + 4) = some (.inr (0, 13, .inl (upd fb j.toNatClampNeg (fb i.toNatClampNeg)))) ∧ w9' (t + 5) = some (.inr (0, 13, .inl (upd fc j.toNatClampNeg (fc i.toNatClampNeg)))) ∧ w9' (t + 6) = some (.inr (0, 13, .inl (upd fe j.toNatClampNeg (fe i.toNatClampNeg)))) ∧ v9 = none) := by
  intro d sz hd
  obtain ⟨d, rfl⟩ : ∃ d9, d = d9 + 1 := ⟨d - 1, by omega⟩
  generalize hPost : (fun (r9' : Option (Option Value)) (w9' : zM) (z9 : Nat) => z9 = sz ∧ ∃ v9, r9' = some v9 ∧ (zSI w w9' ∧ (∀ x, (x < t + 3 ∨ t + 3 + 4 ≤ x) → w9' x = w x) ∧ w9' (t + 3) = some (.inr (0, 13, .inl (upd fa j.toNatClampNeg (fa i.toNatClampNeg)))) ∧ w9' (t + 4) = some (.inr (0, 13, .inl (upd fb j.toNatClampNeg (fb i.toNatClampNeg)))) ∧ w9' (t + 5) = some (.inr (0, 13, .inl (upd fc j.toNatClampNeg (fc i.toNatClampNeg)))) ∧ w9' (t + 6) = some (.inr (0, 13, .inl (upd fe j.toNatClampNeg (fe i.toNatClampNeg)))) ∧ v9 = none)) = Post
  show zP (d + 1) zq_X16_move 0 [(0, .ref t), (1, .int i), (2, .int j)] [] w sz 0 0 Post
  have k1 := zrng i
  have k2 := zrng j
  have hz3 : (i.toNatClampNeg : Int) = i.toInt := znat (by first | omega | decide)
  have hz4 : (j.toNatClampNeg : Int) = j.toInt := znat (by first | omega | decide)
  refine zp_seg (pc' := 1) (lv' := [(0, .ref t), (1, .int i), (2, .int j)]) (st' := [.ref t]) [(0, .aload_n 0)] (by decide +kernel) rfl ?_
  refine zr_get (idx := 222) (k := 6) (v := .ref (t + 3)) (by decide +kernel) (by decide +kernel) hT_t rfl ?_
  refine zp_seg (pc' := 6) (lv' := [(0, .ref t), (1, .int i), (2, .int j)]) (st' := [.ref t, .int j, .ref (t + 3)]) [(4, .iload_n 2), (5, .aload_n 0)] (by decide +kernel) rfl ?_
  refine zr_get (idx := 222) (k := 6) (v := .ref (t + 3)) (by decide +kernel) (by decide +kernel) hT_t rfl ?_
  refine zp_seg (pc' := 10) (lv' := [(0, .ref t), (1, .int i), (2, .int j)]) (st' := [.int i, .ref (t + 3), .int j, .ref (t + 3)]) [(9, .iload_n 1)] (by decide +kernel) rfl ?_
  refine zr_iald (by decide +kernel) hA_t_3 (zin (by first | omega | decide) (by first | omega | decide)) ?_
  obtain ⟨x10, ex10⟩ : ∃ x9, x9 = fa (i.toNatClampNeg) := ⟨_, rfl⟩
  rw [← ex10]
  have kx10 := zrng x10
  refine zr_iast (by decide +kernel) hA_t_3 (zin (by first | omega | decide) (by first | omega | decide)) ?_
  show zP (d + 1) zq_X16_move 12 [(0, .ref t), (1, .int i), (2, .int j)] [] (zup w (t + 3) (.inr (0, 13, .inl (upd fa (j.toNatClampNeg) x10)))) sz 0 0 Post
  obtain ⟨w11, ew11⟩ : ∃ wz9, wz9 = zup w (t + 3) (.inr (0, 13, .inl (upd fa (j.toNatClampNeg) x10))) := ⟨_, rfl⟩
  have hsi11 : zSI w w11 := by rw [ew11]; exact zSI.arr _ hA_t_3
  have heq11 : ∀ x, x ≠ t + 3 → w11 x = w x := fun x hx => by rw [ew11]; exact zup_n hx
  have hc11 : w11 (t + 3) = some (.inr (0, 13, .inl (upd fa (j.toNatClampNeg) x10))) := by rw [ew11]; exact zup_s
  rw [← ew11]
  clear ew11
  refine zp_seg (pc' := 13) (lv' := [(0, .ref t), (1, .int i), (2, .int j)]) (st' := [.ref t]) [(12, .aload_n 0)] (by decide +kernel) rfl ?_
  have hb5 : w11 t = some (.inl (13, zTo t gt)) := (heq11 t (zx_X16_move_0)).trans hT_t
  refine zr_get (idx := 225) (k := 7) (v := .ref (t + 4)) (by decide +kernel) (by decide +kernel) hb5 rfl ?_
  refine zp_seg (pc' := 18) (lv' := [(0, .ref t), (1, .int i), (2, .int j)]) (st' := [.ref t, .int j, .ref (t + 4)]) [(16, .iload_n 2), (17, .aload_n 0)] (by decide +kernel) rfl ?_
  refine zr_get (idx := 225) (k := 7) (v := .ref (t + 4)) (by decide +kernel) (by decide +kernel) hb5 rfl ?_
  refine zp_seg (pc' := 22) (lv' := [(0, .ref t), (1, .int i), (2, .int j)]) (st' := [.int i, .ref (t + 4), .int j, .ref (t + 4)]) [(21, .iload_n 1)] (by decide +kernel) rfl ?_
  have hb6 : w11 (t + 4) = some (.inr (0, 13, .inl fb)) := (heq11 (t + 4) (zx_X16_move_1)).trans hA_t_4
  refine zr_iald (by decide +kernel) hb6 (zin (by first | omega | decide) (by first | omega | decide)) ?_
  obtain ⟨x22, ex22⟩ : ∃ x9, x9 = fb (i.toNatClampNeg) := ⟨_, rfl⟩
  rw [← ex22]
  have kx22 := zrng x22
  refine zr_iast (by decide +kernel) hb6 (zin (by first | omega | decide) (by first | omega | decide)) ?_
  show zP (d + 1) zq_X16_move 24 [(0, .ref t), (1, .int i), (2, .int j)] [] (zup w11 (t + 4) (.inr (0, 13, .inl (upd fb (j.toNatClampNeg) x22)))) sz 0 0 Post
  obtain ⟨w23, ew23⟩ : ∃ wz9, wz9 = zup w11 (t + 4) (.inr (0, 13, .inl (upd fb (j.toNatClampNeg) x22))) := ⟨_, rfl⟩
  have hsi23 : zSI w11 w23 := by rw [ew23]; exact zSI.arr _ hb6
  have heq23 : ∀ x, x ≠ t + 4 → w23 x = w11 x := fun x hx => by rw [ew23]; exact zup_n hx
  have hc23 : w23 (t + 4) = some (.inr (0, 13, .inl (upd fb (j.toNatClampNeg) x22))) := by rw [ew23]; exact zup_s
  rw [← ew23]
  clear ew23
  refine zp_seg (pc' := 25) (lv' := [(0, .ref t), (1, .int i), (2, .int j)]) (st' := [.ref t]) [(24, .aload_n 0)] (by decide +kernel) rfl ?_
  have hb7 : w23 t = some (.inl (13, zTo t gt)) := (heq23 t (zx_X16_move_2)).trans hb5
  refine zr_get (idx := 228) (k := 8) (v := .ref (t + 5)) (by decide +kernel) (by decide +kernel) hb7 rfl ?_
  refine zp_seg (pc' := 30) (lv' := [(0, .ref t), (1, .int i), (2, .int j)]) (st' := [.ref t, .int j, .ref (t + 5)]) [(28, .iload_n 2), (29, .aload_n 0)] (by decide +kernel) rfl ?_
  refine zr_get (idx := 228) (k := 8) (v := .ref (t + 5)) (by decide +kernel) (by decide +kernel) hb7 rfl ?_
  refine zp_seg (pc' := 34) (lv' := [(0, .ref t), (1, .int i), (2, .int j)]) (st' := [.int i, .ref (t + 5), .int j, .ref (t + 5)]) [(33, .iload_n 1)] (by decide +kernel) rfl ?_
  have hb8 : w23 (t + 5) = some (.inr (0, 13, .inl fc)) := ((heq23 (t + 5) (zx_X16_move_4)).trans (heq11 (t + 5) (zx_X16_move_3))).trans hA_t_5
  refine zr_iald (by decide +kernel) hb8 (zin (by first | omega | decide) (by first | omega | decide)) ?_
  obtain ⟨x34, ex34⟩ : ∃ x9, x9 = fc (i.toNatClampNeg) := ⟨_, rfl⟩
  rw [← ex34]
  have kx34 := zrng x34
  refine zr_iast (by decide +kernel) hb8 (zin (by first | omega | decide) (by first | omega | decide)) ?_
  show zP (d + 1) zq_X16_move 36 [(0, .ref t), (1, .int i), (2, .int j)] [] (zup w23 (t + 5) (.inr (0, 13, .inl (upd fc (j.toNatClampNeg) x34)))) sz 0 0 Post
  obtain ⟨w35, ew35⟩ : ∃ wz9, wz9 = zup w23 (t + 5) (.inr (0, 13, .inl (upd fc (j.toNatClampNeg) x34))) := ⟨_, rfl⟩
  have hsi35 : zSI w23 w35 := by rw [ew35]; exact zSI.arr _ hb8
  have heq35 : ∀ x, x ≠ t + 5 → w35 x = w23 x := fun x hx => by rw [ew35]; exact zup_n hx
  have hc35 : w35 (t + 5) = some (.inr (0, 13, .inl (upd fc (j.toNatClampNeg) x34))) := by rw [ew35]; exact zup_s
  rw [← ew35]
  clear ew35
  refine zp_seg (pc' := 37) (lv' := [(0, .ref t), (1, .int i), (2, .int j)]) (st' := [.ref t]) [(36, .aload_n 0)] (by decide +kernel) rfl ?_
  have hb9 : w35 t = some (.inl (13, zTo t gt)) := (heq35 t (zx_X16_move_5)).trans hb7
  refine zr_get (idx := 231) (k := 9) (v := .ref (t + 6)) (by decide +kernel) (by decide +kernel) hb9 rfl ?_
  refine zp_seg (pc' := 42) (lv' := [(0, .ref t), (1, .int i), (2, .int j)]) (st' := [.ref t, .int j, .ref (t + 6)]) [(40, .iload_n 2), (41, .aload_n 0)] (by decide +kernel) rfl ?_
  refine zr_get (idx := 231) (k := 9) (v := .ref (t + 6)) (by decide +kernel) (by decide +kernel) hb9 rfl ?_
  refine zp_seg (pc' := 46) (lv' := [(0, .ref t), (1, .int i), (2, .int j)]) (st' := [.int i, .ref (t + 6), .int j, .ref (t + 6)]) [(45, .iload_n 1)] (by decide +kernel) rfl ?_
  have hb10 : w35 (t + 6) = some (.inr (0, 13, .inl fe)) := ((heq35 (t + 6) (zx_X16_move_8)).trans ((heq23 (t + 6) (zx_X16_move_7)).trans (heq11 (t + 6) (zx_X16_move_6)))).trans hA_t_6
  refine zr_iald (by decide +kernel) hb10 (zin (by first | omega | decide) (by first | omega | decide)) ?_
  obtain ⟨x46, ex46⟩ : ∃ x9, x9 = fe (i.toNatClampNeg) := ⟨_, rfl⟩
  rw [← ex46]
  have kx46 := zrng x46
  refine zr_iast (by decide +kernel) hb10 (zin (by first | omega | decide) (by first | omega | decide)) ?_
  show zP (d + 1) zq_X16_move 48 [(0, .ref t), (1, .int i), (2, .int j)] [] (zup w35 (t + 6) (.inr (0, 13, .inl (upd fe (j.toNatClampNeg) x46)))) sz 0 0 Post
  obtain ⟨w47, ew47⟩ : ∃ wz9, wz9 = zup w35 (t + 6) (.inr (0, 13, .inl (upd fe (j.toNatClampNeg) x46))) := ⟨_, rfl⟩
  have hsi47 : zSI w35 w47 := by rw [ew47]; exact zSI.arr _ hb10
  have heq47 : ∀ x, x ≠ t + 6 → w47 x = w35 x := fun x hx => by rw [ew47]; exact zup_n hx
  have hc47 : w47 (t + 6) = some (.inr (0, 13, .inl (upd fe (j.toNatClampNeg) x46))) := by rw [ew47]; exact zup_s
  rw [← ew47]
  clear ew47
  have hoffend : ∀ x, (x < t + 3 ∨ t + 3 + 4 ≤ x) → w47 x = w x := fun x hx => ((heq47 x (zx_X16_move_12 hx)).trans ((heq35 x (zx_X16_move_11 hx)).trans ((heq23 x (zx_X16_move_10 hx)).trans (heq11 x (zx_X16_move_9 hx)))))
  have hb11 : w47 (t + 3) = some (.inr (0, 13, .inl (upd fa (j.toNatClampNeg) x10))) := ((heq47 (t + 3) (zx_X16_move_15)).trans ((heq35 (t + 3) (zx_X16_move_14)).trans (heq23 (t + 3) (zx_X16_move_13)))).trans hc11
  have hb12 : w47 (t + 4) = some (.inr (0, 13, .inl (upd fb (j.toNatClampNeg) x22))) := ((heq47 (t + 4) (zx_X16_move_17)).trans (heq35 (t + 4) (zx_X16_move_16))).trans hc23
  have hb13 : w47 (t + 5) = some (.inr (0, 13, .inl (upd fc (j.toNatClampNeg) x34))) := (heq47 (t + 5) (zx_X16_move_18)).trans hc35
  refine zr_retV (by decide +kernel) rfl ?_
  rw [← hPost]; exact ⟨rfl, _, rfl, (((hsi11.tr hsi23).tr hsi35).tr hsi47), hoffend, (by
        rw [← ex10]
        exact hb11), (by
        rw [← ex22]
        exact hb12), (by
        rw [← ex34]
        exact hb13), (by
        rw [← ex46]
        exact hc47), rfl⟩

set_option maxHeartbeats 8000000 in
set_option maxRecDepth 100000 in
theorem c_X16_weight {w : zM} {gt fe : Nat → Int32} (t : Nat) (hT_t : w t = some (.inl (13, zTo t gt))) (hA_t_6 : w (t + 6) = some (.inr (0, 13, .inl fe))) (hmn : 0 ≤ (gt 5).toInt ∧ (gt 5).toInt ≤ 13) : zCon 1 zq_X16_weight [.ref t] w (fun v9 w9' => w9' = w ∧ ∃ r9 : Int32, v9 = some (.int r9) ∧ True) := by
  intro d sz hd
  obtain ⟨d, rfl⟩ : ∃ d9, d = d9 + 1 := ⟨d - 1, by omega⟩
  generalize hPost : (fun (r9' : Option (Option Value)) (w9' : zM) (z9 : Nat) => z9 = sz ∧ ∃ v9, r9' = some v9 ∧ (w9' = w ∧ ∃ r9 : Int32, v9 = some (.int r9) ∧ True)) = Post
  show zP (d + 1) zq_X16_weight 0 [(0, .ref t)] [] w sz 0 0 Post
  refine zp_seg (pc' := 4) (lv' := [(2, .int 0), (1, .int 0), (0, .ref t)]) (st' := []) [(0, .iconst 0), (1, .istore_n 1), (2, .iconst 0), (3, .istore_n 2)] (by decide +kernel) rfl ?_
  have hL4 : ∀ (mm4 : Nat) (y1_4 : Int32) (y2_4 : Int32), (0 ≤ y2_4.toInt) → (y2_4.toInt ≤ (gt 5).toInt) → (2147483647 - y2_4.toInt).toNat < mm4 → zP (d + 1) zq_X16_weight 4 [(0, .ref t), (1, .int y1_4), (2, .int y2_4)] [] w sz 0 0 Post := by
    intro mm4
    induction mm4 with
    | zero => intros; omega
    | succ mm4 ih4 =>
    intro y1_4 y2_4 hi4_0 hi4_1 hmu4
    have ky1_4 := zrng y1_4
    have ky2_4 := zrng y2_4
    have hz1 : (y2_4.toNatClampNeg : Int) = y2_4.toInt := znat (by first | omega | decide)
    refine zp_seg (pc' := 6) (lv' := [(0, .ref t), (1, .int y1_4), (2, .int y2_4)]) (st' := [.ref t, .int y2_4]) [(4, .iload_n 2), (5, .aload_n 0)] (by decide +kernel) rfl ?_
    refine zr_get (idx := 219) (k := 5) (v := .int (gt 5)) (by decide +kernel) (by decide +kernel) hT_t rfl ?_
    refine zp_if (i := .if_icmp .ge 21) (c := (gt 5) ≤ y2_4) (t := 30) (e := 12) (lv' := [(0, .ref t), (1, .int y1_4), (2, .int y2_4)]) (st' := []) (by decide +kernel) rfl (fun cc9 => ?_) (fun cc9 => ?_)
    ·
      have k2 := zrng (gt 5)
      have f3 := zleI cc9
      refine zp_seg (pc' := 31) (lv' := [(0, .ref t), (1, .int y1_4), (2, .int y2_4)]) (st' := [.int y1_4]) [(30, .iload_n 1)] (by decide +kernel) rfl ?_
      refine zr_retI (by decide +kernel) rfl ?_
      rw [← hPost]; exact ⟨rfl, _, rfl, rfl, _, rfl, trivial⟩
    ·
      have k4 := zrng (gt 5)
      have f5 := znleI cc9
      refine zp_seg (pc' := 14) (lv' := [(0, .ref t), (1, .int y1_4), (2, .int y2_4)]) (st' := [.ref t, .int y1_4]) [(12, .iload_n 1), (13, .aload_n 0)] (by decide +kernel) rfl ?_
      refine zr_get (idx := 231) (k := 9) (v := .ref (t + 6)) (by decide +kernel) (by decide +kernel) hT_t rfl ?_
      refine zp_seg (pc' := 18) (lv' := [(0, .ref t), (1, .int y1_4), (2, .int y2_4)]) (st' := [.int y2_4, .ref (t + 6), .int y1_4]) [(17, .iload_n 2)] (by decide +kernel) rfl ?_
      refine zr_iald (by decide +kernel) hA_t_6 (zin (by first | omega | decide) (by first | omega | decide)) ?_
      obtain ⟨x18, ex18⟩ : ∃ x9, x9 = fe (y2_4.toNatClampNeg) := ⟨_, rfl⟩
      rw [← ex18]
      have kx18 := zrng x18
      refine zr_abs (idx := 273) (by decide +kernel) (by decide +kernel) (by omega) (Nat.le_of_ble_eq_true rfl) ?_
      obtain ⟨m6, em6, hm6⟩ := zabsI x18
      rw [← em6]
      have km6 := zrng m6
      refine zp_seg (pc' := 23) (lv' := [(0, .ref t), (1, .int y1_4), (2, .int y2_4)]) (st' := [.int (y1_4 + m6)]) [(22, .iadd)] (by decide +kernel) rfl ?_
      have k7 := zaddM y1_4 m6
      generalize ev23 : (y1_4 + m6 : Int32) = v23 at k7 ⊢
      have kv23 := zrng v23
      refine zp_seg (pc' := 27) (lv' := [(2, .int (y2_4 + 1)), (1, .int v23), (0, .ref t)]) (st' := []) [(23, .istore_n 1), (24, .iinc 2 1)] (by decide +kernel) rfl ?_
      have k8 := zaddC y2_4 1 (n := 1) (by decide) (by omega) (by omega)
      generalize ev27 : (y2_4 + 1 : Int32) = v27 at k8 ⊢
      have kv27 := zrng v27
      refine zp_seg (pc' := 4) (lv' := [(2, .int v27), (1, .int v23), (0, .ref t)]) (st' := []) [(27, .goto (-23))] (by decide +kernel) rfl ?_
      have hz9 : (v27.toNatClampNeg : Int) = v27.toInt := znat (by first | omega | decide)
      exact (ih4 v23 v27 (by first | assumption | omega | decide) (by first | assumption | omega | decide) (by omega)).more (zfa1 rfl (zfa1 rfl (zfa1 rfl (zfa0))))
  have hl10 : (0 : Int32).toInt = 0 := by decide
  have hz11 : ((0 : Int32).toNatClampNeg : Int) = 0 := by decide
  exact (hL4 _ 0 0 (by first | assumption | omega | decide) (by first | assumption | omega | decide) (Nat.lt_succ_self _)).more (zfa1 rfl (zfa1 rfl (zfa1 rfl (zfa0))))

theorem zx_X16_name_0 {t x : Nat} (h0 : x < t ∨ t + 1 ≤ x) : x ≠ t := by omega
set_option maxHeartbeats 8000000 in
set_option maxRecDepth 100000 in
theorem c_X16_name {w : zM} {gt : Nat → Int32} (t : Nat) (hT_t : w t = some (.inl (13, zTo t gt))) : zCon 1 zq_X16_name [.ref t] w (fun v9 w9' => ∃ K9 : Int32, zSI w w9' ∧ (∀ x, (x < t ∨ t + 1 ≤ x) → w9' x = w x) ∧ w9' t = some (.inl (13, zTo t (zs gt 0 K9))) ∧ (K9 = 1 ∨ K9 = 2) ∧ v9 = none) := by
  intro d sz hd
  obtain ⟨d, rfl⟩ : ∃ d9, d = d9 + 1 := ⟨d - 1, by omega⟩
  generalize hPost : (fun (r9' : Option (Option Value)) (w9' : zM) (z9 : Nat) => z9 = sz ∧ ∃ v9, r9' = some v9 ∧ (∃ K9 : Int32, zSI w w9' ∧ (∀ x, (x < t ∨ t + 1 ≤ x) → w9' x = w x) ∧ w9' t = some (.inl (13, zTo t (zs gt 0 K9))) ∧ (K9 = 1 ∨ K9 = 2) ∧ v9 = none)) = Post
  show zP (d + 1) zq_X16_name 0 [(0, .ref t)] [] w sz 0 0 Post
  refine zp_seg (pc' := 2) (lv' := [(0, .ref t)]) (st' := [.ref t, .ref t]) [(0, .aload_n 0), (1, .aload_n 0)] (by decide +kernel) rfl ?_
  refine zr_get (idx := 219) (k := 5) (v := .int (gt 5)) (by decide +kernel) (by decide +kernel) hT_t rfl ?_
  refine zp_if (i := .ifCond .ne 23) (c := ¬ (gt 5) = 0) (t := 28) (e := 8) (lv' := [(0, .ref t)]) (st' := [.ref t]) (by decide +kernel) rfl (fun cc5 => ?_) (fun cc5 => ?_)
  ·
    have k1 := zrng (gt 5)
    have f3 := zneI cc5
    rw [show (0 : Int32).toInt = 0 from by decide] at f3
    refine zp_seg (pc' := 29) (lv' := [(0, .ref t)]) (st' := [.int 2, .ref t]) [(28, .iconst 2)] (by decide +kernel) rfl ?_
    refine zr_put2 (idx := 202) (k := 0) (fs2 := zTo t (zs gt 0 2)) (by decide +kernel) (by decide +kernel) hT_t (Nat.le_of_ble_eq_true rfl) rfl rfl rfl ?_
    show zP (d + 1) zq_X16_name 32 [(0, .ref t)] [] (zup w t (.inl (13, zTo t (zs gt 0 2)))) sz 0 0 Post
    obtain ⟨w29, ew29⟩ : ∃ wz9, wz9 = zup w t (.inl (13, zTo t (zs gt 0 2))) := ⟨_, rfl⟩
    have hsi29 : zSI w w29 := by rw [ew29]; exact zSI.setT hT_t _
    have heq29 : ∀ x, x ≠ t → w29 x = w x := fun x hx => by rw [ew29]; exact zup_n hx
    have hc29 : w29 t = some (.inl (13, zTo t (zs gt 0 2))) := by rw [ew29]; exact zup_s
    rw [← ew29]
    clear ew29
    have hoffend : ∀ x, (x < t ∨ t + 1 ≤ x) → w29 x = w x := fun x hx => (heq29 x (zx_X16_name_0 hx))
    refine zr_retV (by decide +kernel) rfl ?_
    rw [← hPost]; exact ⟨rfl, _, rfl, 2, hsi29, hoffend, hc29, (by
          first | exact Or.inl rfl | exact Or.inr rfl), rfl⟩
  ·
    replace cc5 := Classical.not_not.mp cc5
    have k4 := zrng (gt 5)
    have f6 := zeqI cc5
    rw [show (0 : Int32).toInt = 0 from by decide] at f6
    refine zp_seg (pc' := 9) (lv' := [(0, .ref t)]) (st' := [.ref t, .ref t]) [(8, .aload_n 0)] (by decide +kernel) rfl ?_
    refine zr_get (idx := 213) (k := 3) (v := .int (gt 3)) (by decide +kernel) (by decide +kernel) hT_t rfl ?_
    refine zp_seg (pc' := 13) (lv' := [(0, .ref t)]) (st' := [.int 1, .int (gt 3), .ref t]) [(12, .iconst 1)] (by decide +kernel) rfl ?_
    refine zp_if (i := .if_icmp .ne 15) (c := ¬ (gt 3) = 1) (t := 28) (e := 16) (lv' := [(0, .ref t)]) (st' := [.ref t]) (by decide +kernel) rfl (fun cc13 => ?_) (fun cc13 => ?_)
    ·
      have k7 := zrng (gt 3)
      have f9 := zneI cc13
      rw [show (1 : Int32).toInt = 1 from by decide] at f9
      refine zp_seg (pc' := 29) (lv' := [(0, .ref t)]) (st' := [.int 2, .ref t]) [(28, .iconst 2)] (by decide +kernel) rfl ?_
      refine zr_put2 (idx := 202) (k := 0) (fs2 := zTo t (zs gt 0 2)) (by decide +kernel) (by decide +kernel) hT_t (Nat.le_of_ble_eq_true rfl) rfl rfl rfl ?_
      show zP (d + 1) zq_X16_name 32 [(0, .ref t)] [] (zup w t (.inl (13, zTo t (zs gt 0 2)))) sz 0 0 Post
      obtain ⟨w29, ew29⟩ : ∃ wz9, wz9 = zup w t (.inl (13, zTo t (zs gt 0 2))) := ⟨_, rfl⟩
      have hsi29 : zSI w w29 := by rw [ew29]; exact zSI.setT hT_t _
      have heq29 : ∀ x, x ≠ t → w29 x = w x := fun x hx => by rw [ew29]; exact zup_n hx
      have hc29 : w29 t = some (.inl (13, zTo t (zs gt 0 2))) := by rw [ew29]; exact zup_s
      rw [← ew29]
      clear ew29
      have hoffend : ∀ x, (x < t ∨ t + 1 ≤ x) → w29 x = w x := fun x hx => (heq29 x (zx_X16_name_0 hx))
      refine zr_retV (by decide +kernel) rfl ?_
      rw [← hPost]; exact ⟨rfl, _, rfl, 2, hsi29, hoffend, hc29, (by
            first | exact Or.inl rfl | exact Or.inr rfl), rfl⟩
    ·
      replace cc13 := Classical.not_not.mp cc13
      have k10 := zrng (gt 3)
      have f12 := zeqI cc13
      rw [show (1 : Int32).toInt = 1 from by decide] at f12
      refine zp_seg (pc' := 17) (lv' := [(0, .ref t)]) (st' := [.ref t, .ref t]) [(16, .aload_n 0)] (by decide +kernel) rfl ?_
      refine zr_get (idx := 216) (k := 4) (v := .int (gt 4)) (by decide +kernel) (by decide +kernel) hT_t rfl ?_
      refine zp_seg (pc' := 21) (lv' := [(0, .ref t)]) (st' := [.int 1, .int (gt 4), .ref t]) [(20, .iconst 1)] (by decide +kernel) rfl ?_
      refine zp_if (i := .if_icmp .ne 7) (c := ¬ (gt 4) = 1) (t := 28) (e := 24) (lv' := [(0, .ref t)]) (st' := [.ref t]) (by decide +kernel) rfl (fun cc21 => ?_) (fun cc21 => ?_)
      ·
        have k13 := zrng (gt 4)
        have f14 := zneI cc21
        rw [show (1 : Int32).toInt = 1 from by decide] at f14
        refine zp_seg (pc' := 29) (lv' := [(0, .ref t)]) (st' := [.int 2, .ref t]) [(28, .iconst 2)] (by decide +kernel) rfl ?_
        refine zr_put2 (idx := 202) (k := 0) (fs2 := zTo t (zs gt 0 2)) (by decide +kernel) (by decide +kernel) hT_t (Nat.le_of_ble_eq_true rfl) rfl rfl rfl ?_
        show zP (d + 1) zq_X16_name 32 [(0, .ref t)] [] (zup w t (.inl (13, zTo t (zs gt 0 2)))) sz 0 0 Post
        obtain ⟨w29, ew29⟩ : ∃ wz9, wz9 = zup w t (.inl (13, zTo t (zs gt 0 2))) := ⟨_, rfl⟩
        have hsi29 : zSI w w29 := by rw [ew29]; exact zSI.setT hT_t _
        have heq29 : ∀ x, x ≠ t → w29 x = w x := fun x hx => by rw [ew29]; exact zup_n hx
        have hc29 : w29 t = some (.inl (13, zTo t (zs gt 0 2))) := by rw [ew29]; exact zup_s
        rw [← ew29]
        clear ew29
        have hoffend : ∀ x, (x < t ∨ t + 1 ≤ x) → w29 x = w x := fun x hx => (heq29 x (zx_X16_name_0 hx))
        refine zr_retV (by decide +kernel) rfl ?_
        rw [← hPost]; exact ⟨rfl, _, rfl, 2, hsi29, hoffend, hc29, (by
              first | exact Or.inl rfl | exact Or.inr rfl), rfl⟩
      ·
        replace cc21 := Classical.not_not.mp cc21
        have k15 := zrng (gt 4)
        have f16 := zeqI cc21
        rw [show (1 : Int32).toInt = 1 from by decide] at f16
        refine zp_seg (pc' := 29) (lv' := [(0, .ref t)]) (st' := [.int 1, .ref t]) [(24, .iconst 1), (25, .goto 4)] (by decide +kernel) rfl ?_
        refine zr_put2 (idx := 202) (k := 0) (fs2 := zTo t (zs gt 0 1)) (by decide +kernel) (by decide +kernel) hT_t (Nat.le_of_ble_eq_true rfl) rfl rfl rfl ?_
        show zP (d + 1) zq_X16_name 32 [(0, .ref t)] [] (zup w t (.inl (13, zTo t (zs gt 0 1)))) sz 0 0 Post
        obtain ⟨w29, ew29⟩ : ∃ wz9, wz9 = zup w t (.inl (13, zTo t (zs gt 0 1))) := ⟨_, rfl⟩
        have hsi29 : zSI w w29 := by rw [ew29]; exact zSI.setT hT_t _
        have heq29 : ∀ x, x ≠ t → w29 x = w x := fun x hx => by rw [ew29]; exact zup_n hx
        have hc29 : w29 t = some (.inl (13, zTo t (zs gt 0 1))) := by rw [ew29]; exact zup_s
        rw [← ew29]
        clear ew29
        have hoffend : ∀ x, (x < t ∨ t + 1 ≤ x) → w29 x = w x := fun x hx => (heq29 x (zx_X16_name_0 hx))
        refine zr_retV (by decide +kernel) rfl ?_
        rw [← hPost]; exact ⟨rfl, _, rfl, 1, hsi29, hoffend, hc29, (by
              first | exact Or.inl rfl | exact Or.inr rfl), rfl⟩

theorem zx_X16_plain_0 {t x : Nat} (h0 : x < t ∨ t + 1 ≤ x) : x ≠ t := by omega
set_option maxHeartbeats 8000000 in
set_option maxRecDepth 100000 in
theorem c_X16_plain {w : zM} {gt : Nat → Int32} (t : Nat) (hT_t : w t = some (.inl (13, zTo t gt))) : zCon 1 zq_X16_plain [.ref t] w (fun v9 w9' => zSI w w9' ∧ (∀ x, (x < t ∨ t + 1 ≤ x) → w9' x = w x) ∧ w9' t = some (.inl (13, zTo t (zs (zs (zs (zs gt 0 1) 3 1) 4 1) 5 0))) ∧ v9 = none) := by
  intro d sz hd
  obtain ⟨d, rfl⟩ : ∃ d9, d = d9 + 1 := ⟨d - 1, by omega⟩
  generalize hPost : (fun (r9' : Option (Option Value)) (w9' : zM) (z9 : Nat) => z9 = sz ∧ ∃ v9, r9' = some v9 ∧ (zSI w w9' ∧ (∀ x, (x < t ∨ t + 1 ≤ x) → w9' x = w x) ∧ w9' t = some (.inl (13, zTo t (zs (zs (zs (zs gt 0 1) 3 1) 4 1) 5 0))) ∧ v9 = none)) = Post
  show zP (d + 1) zq_X16_plain 0 [(0, .ref t)] [] w sz 0 0 Post
  refine zp_seg (pc' := 2) (lv' := [(0, .ref t)]) (st' := [.int 1, .ref t]) [(0, .aload_n 0), (1, .iconst 1)] (by decide +kernel) rfl ?_
  refine zr_put2 (idx := 202) (k := 0) (fs2 := zTo t (zs gt 0 1)) (by decide +kernel) (by decide +kernel) hT_t (Nat.le_of_ble_eq_true rfl) rfl rfl rfl ?_
  show zP (d + 1) zq_X16_plain 5 [(0, .ref t)] [] (zup w t (.inl (13, zTo t (zs gt 0 1)))) sz 0 0 Post
  obtain ⟨w2, ew2⟩ : ∃ wz9, wz9 = zup w t (.inl (13, zTo t (zs gt 0 1))) := ⟨_, rfl⟩
  have hsi2 : zSI w w2 := by rw [ew2]; exact zSI.setT hT_t _
  have heq2 : ∀ x, x ≠ t → w2 x = w x := fun x hx => by rw [ew2]; exact zup_n hx
  have hc2 : w2 t = some (.inl (13, zTo t (zs gt 0 1))) := by rw [ew2]; exact zup_s
  rw [← ew2]
  clear ew2
  refine zp_seg (pc' := 7) (lv' := [(0, .ref t)]) (st' := [.int 1, .ref t]) [(5, .aload_n 0), (6, .iconst 1)] (by decide +kernel) rfl ?_
  refine zr_put2 (idx := 213) (k := 3) (fs2 := zTo t (zs (zs gt 0 1) 3 1)) (by decide +kernel) (by decide +kernel) hc2 (Nat.le_of_ble_eq_true rfl) rfl rfl rfl ?_
  show zP (d + 1) zq_X16_plain 10 [(0, .ref t)] [] (zup w2 t (.inl (13, zTo t (zs (zs gt 0 1) 3 1)))) sz 0 0 Post
  obtain ⟨w7, ew7⟩ : ∃ wz9, wz9 = zup w2 t (.inl (13, zTo t (zs (zs gt 0 1) 3 1))) := ⟨_, rfl⟩
  have hsi7 : zSI w2 w7 := by rw [ew7]; exact zSI.setT hc2 _
  have heq7 : ∀ x, x ≠ t → w7 x = w2 x := fun x hx => by rw [ew7]; exact zup_n hx
  have hc7 : w7 t = some (.inl (13, zTo t (zs (zs gt 0 1) 3 1))) := by rw [ew7]; exact zup_s
  rw [← ew7]
  clear ew7
  refine zp_seg (pc' := 12) (lv' := [(0, .ref t)]) (st' := [.int 1, .ref t]) [(10, .aload_n 0), (11, .iconst 1)] (by decide +kernel) rfl ?_
  refine zr_put2 (idx := 216) (k := 4) (fs2 := zTo t (zs (zs (zs gt 0 1) 3 1) 4 1)) (by decide +kernel) (by decide +kernel) hc7 (Nat.le_of_ble_eq_true rfl) rfl rfl rfl ?_
  show zP (d + 1) zq_X16_plain 15 [(0, .ref t)] [] (zup w7 t (.inl (13, zTo t (zs (zs (zs gt 0 1) 3 1) 4 1)))) sz 0 0 Post
  obtain ⟨w12, ew12⟩ : ∃ wz9, wz9 = zup w7 t (.inl (13, zTo t (zs (zs (zs gt 0 1) 3 1) 4 1))) := ⟨_, rfl⟩
  have hsi12 : zSI w7 w12 := by rw [ew12]; exact zSI.setT hc7 _
  have heq12 : ∀ x, x ≠ t → w12 x = w7 x := fun x hx => by rw [ew12]; exact zup_n hx
  have hc12 : w12 t = some (.inl (13, zTo t (zs (zs (zs gt 0 1) 3 1) 4 1))) := by rw [ew12]; exact zup_s
  rw [← ew12]
  clear ew12
  refine zp_seg (pc' := 17) (lv' := [(0, .ref t)]) (st' := [.int 0, .ref t]) [(15, .aload_n 0), (16, .iconst 0)] (by decide +kernel) rfl ?_
  refine zr_put2 (idx := 219) (k := 5) (fs2 := zTo t (zs (zs (zs (zs gt 0 1) 3 1) 4 1) 5 0)) (by decide +kernel) (by decide +kernel) hc12 (Nat.le_of_ble_eq_true rfl) rfl rfl rfl ?_
  show zP (d + 1) zq_X16_plain 20 [(0, .ref t)] [] (zup w12 t (.inl (13, zTo t (zs (zs (zs (zs gt 0 1) 3 1) 4 1) 5 0)))) sz 0 0 Post
  obtain ⟨w17, ew17⟩ : ∃ wz9, wz9 = zup w12 t (.inl (13, zTo t (zs (zs (zs (zs gt 0 1) 3 1) 4 1) 5 0))) := ⟨_, rfl⟩
  have hsi17 : zSI w12 w17 := by rw [ew17]; exact zSI.setT hc12 _
  have heq17 : ∀ x, x ≠ t → w17 x = w12 x := fun x hx => by rw [ew17]; exact zup_n hx
  have hc17 : w17 t = some (.inl (13, zTo t (zs (zs (zs (zs gt 0 1) 3 1) 4 1) 5 0))) := by rw [ew17]; exact zup_s
  rw [← ew17]
  clear ew17
  have hoffend : ∀ x, (x < t ∨ t + 1 ≤ x) → w17 x = w x := fun x hx => ((heq17 x (zx_X16_plain_0 hx)).trans ((heq12 x (zx_X16_plain_0 hx)).trans ((heq7 x (zx_X16_plain_0 hx)).trans (heq2 x (zx_X16_plain_0 hx)))))
  refine zr_retV (by decide +kernel) rfl ?_
  rw [← hPost]; exact ⟨rfl, _, rfl, (((hsi2.tr hsi7).tr hsi12).tr hsi17), hoffend, hc17, rfl⟩

theorem zx_X16_factor_0 {t : Nat}  : t < t + 3 ∨ t + 3 + 4 ≤ t := by omega
theorem zx_X16_factor_1 {t : Nat}  : (t + 3) ≠ t := by omega
theorem zx_X16_factor_2 {t : Nat}  : t ≠ t + 3 := by omega
theorem zx_X16_factor_3 {t : Nat}  : (t + 4) ≠ t := by omega
theorem zx_X16_factor_4 {t : Nat}  : (t + 4) ≠ t + 3 := by omega
theorem zx_X16_factor_5 {t : Nat}  : t ≠ t + 4 := by omega
theorem zx_X16_factor_6 {t : Nat}  : (t + 5) ≠ t := by omega
theorem zx_X16_factor_7 {t : Nat}  : (t + 5) ≠ t + 3 := by omega
theorem zx_X16_factor_8 {t : Nat}  : (t + 5) ≠ t + 4 := by omega
theorem zx_X16_factor_9 {t : Nat}  : t ≠ t + 5 := by omega
theorem zx_X16_factor_10 {t : Nat}  : (t + 6) ≠ t := by omega
theorem zx_X16_factor_11 {t : Nat}  : (t + 6) ≠ t + 3 := by omega
theorem zx_X16_factor_12 {t : Nat}  : (t + 6) ≠ t + 4 := by omega
theorem zx_X16_factor_13 {t : Nat}  : (t + 6) ≠ t + 5 := by omega
theorem zx_X16_factor_14 {t : Nat}  : t ≠ t + 6 := by omega
theorem zx_X16_factor_15 {t : Nat}  : (t + 3) ≠ t + 4 := by omega
theorem zx_X16_factor_16 {t : Nat}  : (t + 3) ≠ t + 5 := by omega
theorem zx_X16_factor_17 {t : Nat}  : (t + 3) ≠ t + 6 := by omega
theorem zx_X16_factor_18 {t : Nat}  : (t + 4) ≠ t + 5 := by omega
theorem zx_X16_factor_19 {t : Nat}  : (t + 4) ≠ t + 6 := by omega
theorem zx_X16_factor_20 {t : Nat}  : (t + 5) ≠ t + 6 := by omega
theorem zx_X16_factor_21 {t x : Nat} (h0 : x < t ∨ t + 1 ≤ x) (h1 : x < t + 3 ∨ t + 3 + 4 ≤ x) : x ≠ t := by omega
theorem zx_X16_factor_22 {t x : Nat} (h0 : x < t ∨ t + 1 ≤ x) (h1 : x < t + 3 ∨ t + 3 + 4 ≤ x) : x ≠ t + 3 := by omega
theorem zx_X16_factor_23 {t x : Nat} (h0 : x < t ∨ t + 1 ≤ x) (h1 : x < t + 3 ∨ t + 3 + 4 ≤ x) : x ≠ t + 4 := by omega
theorem zx_X16_factor_24 {t x : Nat} (h0 : x < t ∨ t + 1 ≤ x) (h1 : x < t + 3 ∨ t + 3 + 4 ≤ x) : x ≠ t + 5 := by omega
theorem zx_X16_factor_25 {t x : Nat} (h0 : x < t ∨ t + 1 ≤ x) (h1 : x < t + 3 ∨ t + 3 + 4 ≤ x) : x ≠ t + 6 := by omega
set_option maxHeartbeats 8000000 in
set_option maxRecDepth 100000 in
theorem c_X16_factor {w : zM} {gt fa fb fc fe : Nat → Int32} (t : Nat) (a : Int32) (b : Int32) (c : Int32) (e : Int32) (hT_t : w t = some (.inl (13, zTo t gt))) (hA_t_3 : w (t + 3) = some (.inr (0, 13, .inl fa))) (hA_t_4 : w (t + 4) = some (.inr (0, 13, .inl fb))) (hA_t_5 : w (t + 5) = some (.inr (0, 13, .inl fc))) (hA_t_6 : w (t + 6) = some (.inr (0, 13, .inl fe))) (hmn : 0 ≤ (gt 5).toInt ∧ (gt 5).toInt ≤ 13) (hln : zLn fa fb fc (gt 5).toNatClampNeg) (ha3 : -3 ≤ a.toInt ∧ a.toInt ≤ 3) (hb3 : -3 ≤ b.toInt ∧ b.toInt ≤ 3) (hab9 : a ≠ 0 ∨ b ≠ 0) (hc5 : -50 ≤ c.toInt ∧ c.toInt ≤ 50) : zCon 2 zq_X16_factor [.ref t, .int a, .int b, .int c, .int e] w (fun v9 w9' => ∃ M9 : Int32, ∃ Fa : Nat → Int32, ∃ Fb : Nat → Int32, ∃ Fc : Nat → Int32, ∃ Fe : Nat → Int32, zSI w w9' ∧ (∀ x, (x < t ∨ t + 1 ≤ x) ∧ (x < t + 3 ∨ t + 3 + 4 ≤ x) → w9' x = w x) ∧ w9' t = some (.inl (13, zTo t (zs gt 5 M9))) ∧ w9' (t + 3) = some (.inr (0, 13, .inl Fa)) ∧ w9' (t + 4) = some (.inr (0, 13, .inl Fb)) ∧ w9' (t + 5) = some (.inr (0, 13, .inl Fc)) ∧ w9' (t + 6) = some (.inr (0, 13, .inl Fe)) ∧ ((0 ≤ M9.toInt ∧ M9.toInt ≤ 13) ∧ zLn Fa Fb Fc M9.toNatClampNeg) ∧ v9 = none) := by
  intro d sz hd
  obtain ⟨d, rfl⟩ : ∃ d9, d = d9 + 1 := ⟨d - 1, by omega⟩
  generalize hPost : (fun (r9' : Option (Option Value)) (w9' : zM) (z9 : Nat) => z9 = sz ∧ ∃ v9, r9' = some v9 ∧ (∃ M9 : Int32, ∃ Fa : Nat → Int32, ∃ Fb : Nat → Int32, ∃ Fc : Nat → Int32, ∃ Fe : Nat → Int32, zSI w w9' ∧ (∀ x, (x < t ∨ t + 1 ≤ x) ∧ (x < t + 3 ∨ t + 3 + 4 ≤ x) → w9' x = w x) ∧ w9' t = some (.inl (13, zTo t (zs gt 5 M9))) ∧ w9' (t + 3) = some (.inr (0, 13, .inl Fa)) ∧ w9' (t + 4) = some (.inr (0, 13, .inl Fb)) ∧ w9' (t + 5) = some (.inr (0, 13, .inl Fc)) ∧ w9' (t + 6) = some (.inr (0, 13, .inl Fe)) ∧ ((0 ≤ M9.toInt ∧ M9.toInt ≤ 13) ∧ zLn Fa Fb Fc M9.toNatClampNeg) ∧ v9 = none)) = Post
  show zP (d + 1) zq_X16_factor 0 [(0, .ref t), (1, .int a), (2, .int b), (3, .int c), (4, .int e)] [] w sz 0 0 Post
  have k1 := zrng a
  have k2 := zrng b
  have k3 := zrng c
  have k4 := zrng e
  have k5 := zrng (gt 5)
  have hz6 : ((gt 5).toNatClampNeg : Int) = (gt 5).toInt := znat (by first | omega | decide)
  refine zp_seg (pc' := 3) (lv' := [(5, .int 0), (0, .ref t), (1, .int a), (2, .int b), (3, .int c), (4, .int e)]) (st' := []) [(0, .iconst 0), (1, .istore 5)] (by decide +kernel) rfl ?_
  have hL3 : ∀ (mm3 : Nat) (y5_3 : Int32), (0 ≤ y5_3.toInt) → (y5_3.toInt ≤ (gt 5).toInt) → (2147483647 - y5_3.toInt).toNat < mm3 → zP (d + 1) zq_X16_factor 3 [(0, .ref t), (1, .int a), (2, .int b), (3, .int c), (4, .int e), (5, .int y5_3)] [] w sz 0 0 Post := by
    intro mm3
    induction mm3 with
    | zero => intros; omega
    | succ mm3 ih3 =>
    intro y5_3 hi3_0 hi3_1 hmu3
    have ky5_3 := zrng y5_3
    have hz7 : (y5_3.toNatClampNeg : Int) = y5_3.toInt := znat (by first | omega | decide)
    refine zp_seg (pc' := 6) (lv' := [(0, .ref t), (1, .int a), (2, .int b), (3, .int c), (4, .int e), (5, .int y5_3)]) (st' := [.ref t, .int y5_3]) [(3, .iload 5), (5, .aload_n 0)] (by decide +kernel) rfl ?_
    refine zr_get (idx := 219) (k := 5) (v := .int (gt 5)) (by decide +kernel) (by decide +kernel) hT_t rfl ?_
    have hJ73 : ∀ (_ : True), (0 ≤ y5_3.toInt) → (y5_3.toInt ≤ (gt 5).toInt) → zP (d + 1) zq_X16_factor 73 [(0, .ref t), (1, .int a), (2, .int b), (3, .int c), (4, .int e), (5, .int y5_3)] [] w sz 0 0 Post := by
      intro _ hi73_0 hi73_1
      refine zp_seg (pc' := 76) (lv' := [(0, .ref t), (1, .int a), (2, .int b), (3, .int c), (4, .int e), (5, .int y5_3)]) (st' := [.ref t, .int y5_3]) [(73, .iload 5), (75, .aload_n 0)] (by decide +kernel) rfl ?_
      refine zr_get (idx := 219) (k := 5) (v := .int (gt 5)) (by decide +kernel) (by decide +kernel) hT_t rfl ?_
      have hJ177 : ∀ (_ : True), zP (d + 1) zq_X16_factor 177 [(0, .ref t), (1, .int a), (2, .int b), (3, .int c), (4, .int e), (5, .int y5_3)] [] w sz 0 0 Post := by
        intro _
        refine zp_seg (pc' := 178) (lv' := [(0, .ref t), (1, .int a), (2, .int b), (3, .int c), (4, .int e), (5, .int y5_3)]) (st' := [.ref t]) [(177, .aload_n 0)] (by decide +kernel) rfl ?_
        refine zr_get (idx := 219) (k := 5) (v := .int (gt 5)) (by decide +kernel) (by decide +kernel) hT_t rfl ?_
        refine zp_seg (pc' := 183) (lv' := [(0, .ref t), (1, .int a), (2, .int b), (3, .int c), (4, .int e), (5, .int y5_3)]) (st' := [.int 12, .int (gt 5)]) [(181, .bipush 12)] (by decide +kernel) rfl ?_
        refine zp_if (i := .if_icmp .le 12) (c := (gt 5) ≤ 12) (t := 195) (e := 186) (lv' := [(0, .ref t), (1, .int a), (2, .int b), (3, .int c), (4, .int e), (5, .int y5_3)]) (st' := []) (by decide +kernel) rfl (fun cc183 => ?_) (fun cc183 => ?_)
        ·
          have f9 := zleI cc183
          rw [show (12 : Int32).toInt = 12 from by decide] at f9
          refine zp_seg (pc' := 196) (lv' := [(0, .ref t), (1, .int a), (2, .int b), (3, .int c), (4, .int e), (5, .int y5_3)]) (st' := [.ref t]) [(195, .aload_n 0)] (by decide +kernel) rfl ?_
          refine zr_get (idx := 219) (k := 5) (v := .int (gt 5)) (by decide +kernel) (by decide +kernel) hT_t rfl ?_
          refine zp_seg (pc' := 201) (lv' := [(6, .int (gt 5)), (0, .ref t), (1, .int a), (2, .int b), (3, .int c), (4, .int e), (5, .int y5_3)]) (st' := []) [(199, .istore 6)] (by decide +kernel) rfl ?_
          have hL201 : ∀ (mm201 : Nat) (wL201 : zM) (y6_201 : Int32) (pa : Nat → Int32) (pb : Nat → Int32) (pc : Nat → Int32) (pe : Nat → Int32), (zSI w wL201) → (∀ x, (x < t + 3 ∨ t + 3 + 4 ≤ x) → wL201 x = w x) → (y5_3.toInt ≤ y6_201.toInt) → (y6_201.toInt ≤ (gt 5).toInt) → (0 ≤ y6_201.toInt) → (wL201 (t + 3) = some (.inr (0, 13, .inl pa))) → (wL201 (t + 4) = some (.inr (0, 13, .inl pb))) → (wL201 (t + 5) = some (.inr (0, 13, .inl pc))) → (wL201 (t + 6) = some (.inr (0, 13, .inl pe))) → (zLn pa pb pc (if y6_201.toInt < (gt 5).toInt then (gt 5).toNatClampNeg + 1 else (gt 5).toNatClampNeg)) → (y6_201.toInt + 1).toNat < mm201 → zP (d + 1) zq_X16_factor 201 [(0, .ref t), (1, .int a), (2, .int b), (3, .int c), (4, .int e), (5, .int y5_3), (6, .int y6_201)] [] wL201 sz 0 0 Post := by
            intro mm201
            induction mm201 with
            | zero => intros; omega
            | succ mm201 ih201 =>
            intro wL201 y6_201 pa pb pc pe hsiL201 heqL201 hi201_0 hi201_1 hi201_2 hpa hpb hpc hpe hlp hmu201
            have ky6_201 := zrng y6_201
            have hz10 : (y6_201.toNatClampNeg : Int) = y6_201.toInt := znat (by first | omega | decide)
            refine zp_seg (pc' := 205) (lv' := [(0, .ref t), (1, .int a), (2, .int b), (3, .int c), (4, .int e), (5, .int y5_3), (6, .int y6_201)]) (st' := [.int y5_3, .int y6_201]) [(201, .iload 6), (203, .iload 5)] (by decide +kernel) rfl ?_
            refine zp_if (i := .if_icmp .le 26) (c := y6_201 ≤ y5_3) (t := 231) (e := 208) (lv' := [(0, .ref t), (1, .int a), (2, .int b), (3, .int c), (4, .int e), (5, .int y5_3), (6, .int y6_201)]) (st' := []) (by decide +kernel) rfl (fun cc205 => ?_) (fun cc205 => ?_)
            ·
              have f11 := zleI cc205
              refine zp_seg (pc' := 233) (lv' := [(0, .ref t), (1, .int a), (2, .int b), (3, .int c), (4, .int e), (5, .int y5_3), (6, .int y6_201)]) (st' := [.ref t, .ref t]) [(231, .aload_n 0), (232, .dup)] (by decide +kernel) rfl ?_
              have hb12 : wL201 t = some (.inl (13, zTo t gt)) := (heqL201 t (zx_X16_factor_0)).trans hT_t
              refine zr_get (idx := 219) (k := 5) (v := .int (gt 5)) (by decide +kernel) (by decide +kernel) hb12 rfl ?_
              refine zp_seg (pc' := 238) (lv' := [(0, .ref t), (1, .int a), (2, .int b), (3, .int c), (4, .int e), (5, .int y5_3), (6, .int y6_201)]) (st' := [.int ((gt 5) + 1), .ref t]) [(236, .iconst 1), (237, .iadd)] (by decide +kernel) rfl ?_
              have k13 := zaddC ((gt 5)) 1 (n := 1) (by decide) (by omega) (by omega)
              generalize ev238 : ((gt 5) + 1 : Int32) = v238 at k13 ⊢
              have kv238 := zrng v238
              refine zr_put2 (idx := 219) (k := 5) (fs2 := zTo t (zs gt 5 v238)) (by decide +kernel) (by decide +kernel) hb12 (Nat.le_of_ble_eq_true rfl) rfl rfl rfl ?_
              show zP (d + 1) zq_X16_factor 241 [(0, .ref t), (1, .int a), (2, .int b), (3, .int c), (4, .int e), (5, .int y5_3), (6, .int y6_201)] [] (zup wL201 t (.inl (13, zTo t (zs gt 5 v238)))) sz 0 0 Post
              obtain ⟨w238, ew238⟩ : ∃ wz9, wz9 = zup wL201 t (.inl (13, zTo t (zs gt 5 v238))) := ⟨_, rfl⟩
              have hsi238 : zSI wL201 w238 := by rw [ew238]; exact zSI.setT hb12 _
              have heq238 : ∀ x, x ≠ t → w238 x = wL201 x := fun x hx => by rw [ew238]; exact zup_n hx
              have hc238 : w238 t = some (.inl (13, zTo t (zs gt 5 v238))) := by rw [ew238]; exact zup_s
              rw [← ew238]
              clear ew238
              have hz14 : (v238.toNatClampNeg : Int) = v238.toInt := znat (by first | omega | decide)
              refine zp_seg (pc' := 245) (lv' := [(0, .ref t), (1, .int a), (2, .int b), (3, .int c), (4, .int e), (5, .int y5_3), (6, .int y6_201)]) (st' := [.int 12, .int y5_3]) [(241, .iload 5), (243, .bipush 12)] (by decide +kernel) rfl ?_
              refine zp_if (i := .if_icmp .gt 36) (c := 12 < y5_3) (t := 281) (e := 248) (lv' := [(0, .ref t), (1, .int a), (2, .int b), (3, .int c), (4, .int e), (5, .int y5_3), (6, .int y6_201)]) (st' := []) (by decide +kernel) rfl (fun cc245 => ?_) (fun cc245 => ?_)
              ·
                have f15 := zltI cc245
                rw [show (12 : Int32).toInt = 12 from by decide] at f15
                exfalso
                omega
              ·
                have f16 := znltI cc245
                rw [show (12 : Int32).toInt = 12 from by decide] at f16
                refine zp_seg (pc' := 249) (lv' := [(0, .ref t), (1, .int a), (2, .int b), (3, .int c), (4, .int e), (5, .int y5_3), (6, .int y6_201)]) (st' := [.ref t]) [(248, .aload_n 0)] (by decide +kernel) rfl ?_
                refine zr_get (idx := 222) (k := 6) (v := .ref (t + 3)) (by decide +kernel) (by decide +kernel) hc238 rfl ?_
                refine zp_seg (pc' := 255) (lv' := [(0, .ref t), (1, .int a), (2, .int b), (3, .int c), (4, .int e), (5, .int y5_3), (6, .int y6_201)]) (st' := [.int a, .int y5_3, .ref (t + 3)]) [(252, .iload 5), (254, .iload_n 1)] (by decide +kernel) rfl ?_
                have hb17 : w238 (t + 3) = some (.inr (0, 13, .inl pa)) := (heq238 (t + 3) (zx_X16_factor_1)).trans hpa
                refine zr_iast (by decide +kernel) hb17 (zin (by first | omega | decide) (by first | omega | decide)) ?_
                show zP (d + 1) zq_X16_factor 256 [(0, .ref t), (1, .int a), (2, .int b), (3, .int c), (4, .int e), (5, .int y5_3), (6, .int y6_201)] [] (zup w238 (t + 3) (.inr (0, 13, .inl (upd pa (y5_3.toNatClampNeg) a)))) sz 0 0 Post
                obtain ⟨w255, ew255⟩ : ∃ wz9, wz9 = zup w238 (t + 3) (.inr (0, 13, .inl (upd pa (y5_3.toNatClampNeg) a))) := ⟨_, rfl⟩
                have hsi255 : zSI w238 w255 := by rw [ew255]; exact zSI.arr _ hb17
                have heq255 : ∀ x, x ≠ t + 3 → w255 x = w238 x := fun x hx => by rw [ew255]; exact zup_n hx
                have hc255 : w255 (t + 3) = some (.inr (0, 13, .inl (upd pa (y5_3.toNatClampNeg) a))) := by rw [ew255]; exact zup_s
                rw [← ew255]
                clear ew255
                refine zp_seg (pc' := 257) (lv' := [(0, .ref t), (1, .int a), (2, .int b), (3, .int c), (4, .int e), (5, .int y5_3), (6, .int y6_201)]) (st' := [.ref t]) [(256, .aload_n 0)] (by decide +kernel) rfl ?_
                have hb18 : w255 t = some (.inl (13, zTo t (zs gt 5 v238))) := (heq255 t (zx_X16_factor_2)).trans hc238
                refine zr_get (idx := 225) (k := 7) (v := .ref (t + 4)) (by decide +kernel) (by decide +kernel) hb18 rfl ?_
                refine zp_seg (pc' := 263) (lv' := [(0, .ref t), (1, .int a), (2, .int b), (3, .int c), (4, .int e), (5, .int y5_3), (6, .int y6_201)]) (st' := [.int b, .int y5_3, .ref (t + 4)]) [(260, .iload 5), (262, .iload_n 2)] (by decide +kernel) rfl ?_
                have hb19 : w255 (t + 4) = some (.inr (0, 13, .inl pb)) := ((heq255 (t + 4) (zx_X16_factor_4)).trans (heq238 (t + 4) (zx_X16_factor_3))).trans hpb
                refine zr_iast (by decide +kernel) hb19 (zin (by first | omega | decide) (by first | omega | decide)) ?_
                show zP (d + 1) zq_X16_factor 264 [(0, .ref t), (1, .int a), (2, .int b), (3, .int c), (4, .int e), (5, .int y5_3), (6, .int y6_201)] [] (zup w255 (t + 4) (.inr (0, 13, .inl (upd pb (y5_3.toNatClampNeg) b)))) sz 0 0 Post
                obtain ⟨w263, ew263⟩ : ∃ wz9, wz9 = zup w255 (t + 4) (.inr (0, 13, .inl (upd pb (y5_3.toNatClampNeg) b))) := ⟨_, rfl⟩
                have hsi263 : zSI w255 w263 := by rw [ew263]; exact zSI.arr _ hb19
                have heq263 : ∀ x, x ≠ t + 4 → w263 x = w255 x := fun x hx => by rw [ew263]; exact zup_n hx
                have hc263 : w263 (t + 4) = some (.inr (0, 13, .inl (upd pb (y5_3.toNatClampNeg) b))) := by rw [ew263]; exact zup_s
                rw [← ew263]
                clear ew263
                refine zp_seg (pc' := 265) (lv' := [(0, .ref t), (1, .int a), (2, .int b), (3, .int c), (4, .int e), (5, .int y5_3), (6, .int y6_201)]) (st' := [.ref t]) [(264, .aload_n 0)] (by decide +kernel) rfl ?_
                have hb20 : w263 t = some (.inl (13, zTo t (zs gt 5 v238))) := (heq263 t (zx_X16_factor_5)).trans hb18
                refine zr_get (idx := 228) (k := 8) (v := .ref (t + 5)) (by decide +kernel) (by decide +kernel) hb20 rfl ?_
                refine zp_seg (pc' := 271) (lv' := [(0, .ref t), (1, .int a), (2, .int b), (3, .int c), (4, .int e), (5, .int y5_3), (6, .int y6_201)]) (st' := [.int c, .int y5_3, .ref (t + 5)]) [(268, .iload 5), (270, .iload_n 3)] (by decide +kernel) rfl ?_
                have hb21 : w263 (t + 5) = some (.inr (0, 13, .inl pc)) := ((heq263 (t + 5) (zx_X16_factor_8)).trans ((heq255 (t + 5) (zx_X16_factor_7)).trans (heq238 (t + 5) (zx_X16_factor_6)))).trans hpc
                refine zr_iast (by decide +kernel) hb21 (zin (by first | omega | decide) (by first | omega | decide)) ?_
                show zP (d + 1) zq_X16_factor 272 [(0, .ref t), (1, .int a), (2, .int b), (3, .int c), (4, .int e), (5, .int y5_3), (6, .int y6_201)] [] (zup w263 (t + 5) (.inr (0, 13, .inl (upd pc (y5_3.toNatClampNeg) c)))) sz 0 0 Post
                obtain ⟨w271, ew271⟩ : ∃ wz9, wz9 = zup w263 (t + 5) (.inr (0, 13, .inl (upd pc (y5_3.toNatClampNeg) c))) := ⟨_, rfl⟩
                have hsi271 : zSI w263 w271 := by rw [ew271]; exact zSI.arr _ hb21
                have heq271 : ∀ x, x ≠ t + 5 → w271 x = w263 x := fun x hx => by rw [ew271]; exact zup_n hx
                have hc271 : w271 (t + 5) = some (.inr (0, 13, .inl (upd pc (y5_3.toNatClampNeg) c))) := by rw [ew271]; exact zup_s
                rw [← ew271]
                clear ew271
                refine zp_seg (pc' := 273) (lv' := [(0, .ref t), (1, .int a), (2, .int b), (3, .int c), (4, .int e), (5, .int y5_3), (6, .int y6_201)]) (st' := [.ref t]) [(272, .aload_n 0)] (by decide +kernel) rfl ?_
                have hb22 : w271 t = some (.inl (13, zTo t (zs gt 5 v238))) := (heq271 t (zx_X16_factor_9)).trans hb20
                refine zr_get (idx := 231) (k := 9) (v := .ref (t + 6)) (by decide +kernel) (by decide +kernel) hb22 rfl ?_
                refine zp_seg (pc' := 280) (lv' := [(0, .ref t), (1, .int a), (2, .int b), (3, .int c), (4, .int e), (5, .int y5_3), (6, .int y6_201)]) (st' := [.int e, .int y5_3, .ref (t + 6)]) [(276, .iload 5), (278, .iload 4)] (by decide +kernel) rfl ?_
                have hb23 : w271 (t + 6) = some (.inr (0, 13, .inl pe)) := ((heq271 (t + 6) (zx_X16_factor_13)).trans ((heq263 (t + 6) (zx_X16_factor_12)).trans ((heq255 (t + 6) (zx_X16_factor_11)).trans (heq238 (t + 6) (zx_X16_factor_10))))).trans hpe
                refine zr_iast (by decide +kernel) hb23 (zin (by first | omega | decide) (by first | omega | decide)) ?_
                show zP (d + 1) zq_X16_factor 281 [(0, .ref t), (1, .int a), (2, .int b), (3, .int c), (4, .int e), (5, .int y5_3), (6, .int y6_201)] [] (zup w271 (t + 6) (.inr (0, 13, .inl (upd pe (y5_3.toNatClampNeg) e)))) sz 0 0 Post
                obtain ⟨w280, ew280⟩ : ∃ wz9, wz9 = zup w271 (t + 6) (.inr (0, 13, .inl (upd pe (y5_3.toNatClampNeg) e))) := ⟨_, rfl⟩
                have hsi280 : zSI w271 w280 := by rw [ew280]; exact zSI.arr _ hb23
                have heq280 : ∀ x, x ≠ t + 6 → w280 x = w271 x := fun x hx => by rw [ew280]; exact zup_n hx
                have hc280 : w280 (t + 6) = some (.inr (0, 13, .inl (upd pe (y5_3.toNatClampNeg) e))) := by rw [ew280]; exact zup_s
                rw [← ew280]
                clear ew280
                have hb24 : w280 t = some (.inl (13, zTo t (zs gt 5 v238))) := (heq280 t (zx_X16_factor_14)).trans hb22
                have hb25 : w280 (t + 3) = some (.inr (0, 13, .inl (upd pa (y5_3.toNatClampNeg) a))) := ((heq280 (t + 3) (zx_X16_factor_17)).trans ((heq271 (t + 3) (zx_X16_factor_16)).trans (heq263 (t + 3) (zx_X16_factor_15)))).trans hc255
                have hb26 : w280 (t + 4) = some (.inr (0, 13, .inl (upd pb (y5_3.toNatClampNeg) b))) := ((heq280 (t + 4) (zx_X16_factor_19)).trans (heq271 (t + 4) (zx_X16_factor_18))).trans hc263
                have hb27 : w280 (t + 5) = some (.inr (0, 13, .inl (upd pc (y5_3.toNatClampNeg) c))) := (heq280 (t + 5) (zx_X16_factor_20)).trans hc271
                have hoffend : ∀ x, (x < t ∨ t + 1 ≤ x) ∧ (x < t + 3 ∨ t + 3 + 4 ≤ x) → w280 x = w x := fun x hx => ((heq280 x (zx_X16_factor_25 hx.1 hx.2)).trans ((heq271 x (zx_X16_factor_24 hx.1 hx.2)).trans ((heq263 x (zx_X16_factor_23 hx.1 hx.2)).trans ((heq255 x (zx_X16_factor_22 hx.1 hx.2)).trans ((heq238 x (zx_X16_factor_21 hx.1 hx.2)).trans (heqL201 x hx.2))))))
                refine zr_retV (by decide +kernel) rfl ?_
                rw [← hPost]; exact ⟨rfl, _, rfl, v238, (upd pa (y5_3.toNatClampNeg) a), (upd pb (y5_3.toNatClampNeg) b), (upd pc (y5_3.toNatClampNeg) c), (upd pe (y5_3.toNatClampNeg) e), (((((hsiL201.tr hsi238).tr hsi255).tr hsi263).tr hsi271).tr hsi280), hoffend, hb24, hb25, hb26, hb27, hc280, (by
                      first
                      | exact ⟨by omega, zLn_mono hlp (by omega)⟩
                      | exact ⟨hmn, hln⟩
                      | (refine ⟨by omega, zLn_up (fun i9 hi9 hn9 => ?_) ha3 hb3 hab9 hc5⟩
                         have h9 := hlp i9
                         by_cases q9 : y6_201.toInt < (gt 5).toInt
                         · rw [if_pos q9] at h9; exact h9 (by omega)
                         · rw [if_neg q9] at h9; exact h9 (by omega))), rfl⟩
            ·
              have f28 := znleI cc205
              refine zp_seg (pc' := 212) (lv' := [(0, .ref t), (1, .int a), (2, .int b), (3, .int c), (4, .int e), (5, .int y5_3), (6, .int y6_201)]) (st' := [.int 12, .int y6_201]) [(208, .iload 6), (210, .bipush 12)] (by decide +kernel) rfl ?_
              refine zp_if (i := .if_icmp .gt 13) (c := 12 < y6_201) (t := 225) (e := 215) (lv' := [(0, .ref t), (1, .int a), (2, .int b), (3, .int c), (4, .int e), (5, .int y5_3), (6, .int y6_201)]) (st' := []) (by decide +kernel) rfl (fun cc212 => ?_) (fun cc212 => ?_)
              ·
                have f29 := zltI cc212
                rw [show (12 : Int32).toInt = 12 from by decide] at f29
                exfalso
                omega
              ·
                have f30 := znltI cc212
                rw [show (12 : Int32).toInt = 12 from by decide] at f30
                refine zp_seg (pc' := 220) (lv' := [(0, .ref t), (1, .int a), (2, .int b), (3, .int c), (4, .int e), (5, .int y5_3), (6, .int y6_201)]) (st' := [.int (y6_201 - 1), .ref t]) [(215, .aload_n 0), (216, .iload 6), (218, .iconst 1), (219, .isub)] (by decide +kernel) rfl ?_
                have k31 := zsubC y6_201 1 (n := 1) (by decide) (by omega) (by omega)
                generalize ev220 : (y6_201 - 1 : Int32) = v220 at k31 ⊢
                have kv220 := zrng v220
                refine zp_seg (pc' := 222) (lv' := [(0, .ref t), (1, .int a), (2, .int b), (3, .int c), (4, .int e), (5, .int y5_3), (6, .int y6_201)]) (st' := [.int y6_201, .int v220, .ref t]) [(220, .iload 6)] (by decide +kernel) rfl ?_
                have hz32 : (v220.toNatClampNeg : Int) = v220.toInt := znat (by first | omega | decide)
                have hb33 : wL201 t = some (.inl (13, zTo t gt)) := (heqL201 t (zx_X16_factor_0)).trans hT_t
                refine zr_callS (idx := 269) (j := 310) (by decide +kernel) (by decide +kernel) (by decide) (show zMe 310 = some zq_X16_move from rfl) rfl rfl (Nat.le_of_ble_eq_true rfl) rfl rfl (Nat.le_of_ble_eq_true rfl) (Nat.le_of_ble_eq_true rfl) (c_X16_move (w := wL201) t v220 y6_201 hb33 hpa hpb hpc hpe (by first | omega | decide | assumption | exact zr1_1 | exact zr1_0 | fail "num") (by first | omega | decide | assumption | exact zr1_1 | exact zr1_0 | fail "num")) (by omega) (fun v222 w222 hp222 => ?_)
                obtain ⟨hsi222, heq222, hp222_0, hp222_1, hp222_2, hp222_3, rfl⟩ := hp222
                show zP _ _ _ _ [] _ _ _ _ _
                refine zp_seg (pc' := 228) (lv' := [(6, .int (y6_201 + (Int32.ofInt (-1)))), (0, .ref t), (1, .int a), (2, .int b), (3, .int c), (4, .int e), (5, .int y5_3)]) (st' := []) [(225, .iinc 6 (-1))] (by decide +kernel) rfl ?_
                have k34 := zaddC y6_201 ((Int32.ofInt (-1))) (n := (-1)) (by decide) (by omega) (by omega)
                generalize ev228 : (y6_201 + (Int32.ofInt (-1)) : Int32) = v228 at k34 ⊢
                have kv228 := zrng v228
                refine zp_seg (pc' := 201) (lv' := [(6, .int v228), (0, .ref t), (1, .int a), (2, .int b), (3, .int c), (4, .int e), (5, .int y5_3)]) (st' := []) [(228, .goto (-27))] (by decide +kernel) rfl ?_
                have hz35 : (v228.toNatClampNeg : Int) = v228.toInt := znat (by first | omega | decide)
                exact (ih201 w222 v228 ((upd pa y6_201.toNatClampNeg (pa v220.toNatClampNeg))) ((upd pb y6_201.toNatClampNeg (pb v220.toNatClampNeg))) ((upd pc y6_201.toNatClampNeg (pc v220.toNatClampNeg))) ((upd pe y6_201.toNatClampNeg (pe v220.toNatClampNeg))) (hsiL201.tr hsi222) (fun x hx => ((heq222 x hx).trans (heqL201 x hx))) (by first | assumption | omega | decide) (by first | assumption | omega | decide) (by first | assumption | omega | decide) hp222_0 hp222_1 hp222_2 hp222_3 (by
                      rw [if_pos (by omega)]
                      intro k9 hk9
                      have h9 := hlp
                      by_cases e : k9 = y6_201.toNatClampNeg
                      · rw [e, zupd_s, zupd_s, zupd_s]
                        refine h9 _ ?_
                        split <;> omega
                      · rw [zupd_n _ _ e, zupd_n _ _ e, zupd_n _ _ e]
                        refine h9 _ ?_
                        split <;> omega) (by omega)).more (zfa1 rfl (zfa1 rfl (zfa1 rfl (zfa1 rfl (zfa1 rfl (zfa1 rfl (zfa1 rfl (zfa0))))))))
          exact (hL201 _ w (gt 5) (fa) (fb) (fc) (fe) zSI.rf (fun _ _ => rfl) (by first | assumption | omega | decide) (by first | assumption | omega | decide) (by first | assumption | omega | decide) hA_t_3 hA_t_4 hA_t_5 hA_t_6 (by
                rw [if_neg (by omega)]
                exact hln) (Nat.lt_succ_self _)).more (zfa1 rfl (zfa1 rfl (zfa1 rfl (zfa1 rfl (zfa1 rfl (zfa1 rfl (zfa1 rfl (zfa0))))))))
        ·
          have f37 := znleI cc183
          rw [show (12 : Int32).toInt = 12 from by decide] at f37
          refine zp_seg (pc' := 187) (lv' := [(0, .ref t), (1, .int a), (2, .int b), (3, .int c), (4, .int e), (5, .int y5_3)]) (st' := [.ref t]) [(186, .aload_n 0)] (by decide +kernel) rfl ?_
          refine zr_get (idx := 231) (k := 9) (v := .ref (t + 6)) (by decide +kernel) (by decide +kernel) hT_t rfl ?_
          refine zp_seg (pc' := 193) (lv' := [(0, .ref t), (1, .int a), (2, .int b), (3, .int c), (4, .int e), (5, .int y5_3)]) (st' := [.int 99, .int 0, .ref (t + 6)]) [(190, .iconst 0), (191, .bipush 99)] (by decide +kernel) rfl ?_
          have hl39 : (0 : Int32).toInt = 0 := by decide
          have hz40 : ((0 : Int32).toNatClampNeg : Int) = 0 := by decide
          refine zr_iast (by decide +kernel) hA_t_6 (zin (by decide) (by decide)) ?_
          show zP (d + 1) zq_X16_factor 194 [(0, .ref t), (1, .int a), (2, .int b), (3, .int c), (4, .int e), (5, .int y5_3)] [] (zup w (t + 6) (.inr (0, 13, .inl (upd fe ((0 : Int32).toNatClampNeg) 99)))) sz 0 0 Post
          obtain ⟨w193, ew193⟩ : ∃ wz9, wz9 = zup w (t + 6) (.inr (0, 13, .inl (upd fe ((0 : Int32).toNatClampNeg) 99))) := ⟨_, rfl⟩
          have hsi193 : zSI w w193 := by rw [ew193]; exact zSI.arr _ hA_t_6
          have heq193 : ∀ x, x ≠ t + 6 → w193 x = w x := fun x hx => by rw [ew193]; exact zup_n hx
          have hc193 : w193 (t + 6) = some (.inr (0, 13, .inl (upd fe ((0 : Int32).toNatClampNeg) 99))) := by rw [ew193]; exact zup_s
          rw [← ew193]
          clear ew193
          have hb41 : w193 t = some (.inl (13, zTo t gt)) := (heq193 t (zx_X16_factor_14)).trans hT_t
          have hb42 : w193 (t + 3) = some (.inr (0, 13, .inl fa)) := (heq193 (t + 3) (zx_X16_factor_17)).trans hA_t_3
          have hb43 : w193 (t + 4) = some (.inr (0, 13, .inl fb)) := (heq193 (t + 4) (zx_X16_factor_19)).trans hA_t_4
          have hb44 : w193 (t + 5) = some (.inr (0, 13, .inl fc)) := (heq193 (t + 5) (zx_X16_factor_20)).trans hA_t_5
          have hoffend : ∀ x, (x < t ∨ t + 1 ≤ x) ∧ (x < t + 3 ∨ t + 3 + 4 ≤ x) → w193 x = w x := fun x hx => (heq193 x (zx_X16_factor_25 hx.1 hx.2))
          refine zr_retV (by decide +kernel) rfl ?_
          rw [← hPost]; exact ⟨rfl, _, rfl, (gt 5), fa, fb, fc, (upd fe ((0 : Int32).toNatClampNeg) 99), hsi193, hoffend, hb41, hb42, hb43, hb44, hc193, (by
                first
                | exact ⟨by omega, zLn_mono hlp (by omega)⟩
                | exact ⟨hmn, hln⟩
                | (refine ⟨by omega, zLn_up (fun i9 hi9 hn9 => ?_) ha3 hb3 hab9 hc5⟩
                   have h9 := hlp i9
                   by_cases q9 : y6_201.toInt < (gt 5).toInt
                   · rw [if_pos q9] at h9; exact h9 (by omega)
                   · rw [if_neg q9] at h9; exact h9 (by omega))), rfl⟩
      refine zp_if (i := .if_icmp .ge 98) (c := (gt 5) ≤ y5_3) (t := 177) (e := 82) (lv' := [(0, .ref t), (1, .int a), (2, .int b), (3, .int c), (4, .int e), (5, .int y5_3)]) (st' := []) (by decide +kernel) rfl (fun cc79 => ?_) (fun cc79 => ?_)
      ·
        have f45 := zleI cc79
        exact (hJ177 trivial ).more (zfa1 rfl (zfa1 rfl (zfa1 rfl (zfa1 rfl (zfa1 rfl (zfa1 rfl (zfa0)))))))
      ·
        have f46 := znleI cc79
        refine zp_seg (pc' := 83) (lv' := [(0, .ref t), (1, .int a), (2, .int b), (3, .int c), (4, .int e), (5, .int y5_3)]) (st' := [.ref t]) [(82, .aload_n 0)] (by decide +kernel) rfl ?_
        refine zr_get (idx := 222) (k := 6) (v := .ref (t + 3)) (by decide +kernel) (by decide +kernel) hT_t rfl ?_
        refine zp_seg (pc' := 88) (lv' := [(0, .ref t), (1, .int a), (2, .int b), (3, .int c), (4, .int e), (5, .int y5_3)]) (st' := [.int y5_3, .ref (t + 3)]) [(86, .iload 5)] (by decide +kernel) rfl ?_
        refine zr_iald (by decide +kernel) hA_t_3 (zin (by first | omega | decide) (by first | omega | decide)) ?_
        obtain ⟨x88, ex88⟩ : ∃ x9, x9 = fa (y5_3.toNatClampNeg) := ⟨_, rfl⟩
        rw [← ex88]
        have kx88 := zrng x88
        refine zp_seg (pc' := 90) (lv' := [(0, .ref t), (1, .int a), (2, .int b), (3, .int c), (4, .int e), (5, .int y5_3)]) (st' := [.int a, .int x88]) [(89, .iload_n 1)] (by decide +kernel) rfl ?_
        refine zp_if (i := .if_icmp .ne 87) (c := ¬ x88 = a) (t := 177) (e := 93) (lv' := [(0, .ref t), (1, .int a), (2, .int b), (3, .int c), (4, .int e), (5, .int y5_3)]) (st' := []) (by decide +kernel) rfl (fun cc90 => ?_) (fun cc90 => ?_)
        ·
          have f47 := zneI cc90
          exact (hJ177 trivial ).more (zfa1 rfl (zfa1 rfl (zfa1 rfl (zfa1 rfl (zfa1 rfl (zfa1 rfl (zfa0)))))))
        ·
          replace cc90 := Classical.not_not.mp cc90
          have f48 := zeqI cc90
          refine zp_seg (pc' := 94) (lv' := [(0, .ref t), (1, .int a), (2, .int b), (3, .int c), (4, .int e), (5, .int y5_3)]) (st' := [.ref t]) [(93, .aload_n 0)] (by decide +kernel) rfl ?_
          refine zr_get (idx := 225) (k := 7) (v := .ref (t + 4)) (by decide +kernel) (by decide +kernel) hT_t rfl ?_
          refine zp_seg (pc' := 99) (lv' := [(0, .ref t), (1, .int a), (2, .int b), (3, .int c), (4, .int e), (5, .int y5_3)]) (st' := [.int y5_3, .ref (t + 4)]) [(97, .iload 5)] (by decide +kernel) rfl ?_
          refine zr_iald (by decide +kernel) hA_t_4 (zin (by first | omega | decide) (by first | omega | decide)) ?_
          obtain ⟨x99, ex99⟩ : ∃ x9, x9 = fb (y5_3.toNatClampNeg) := ⟨_, rfl⟩
          rw [← ex99]
          have kx99 := zrng x99
          refine zp_seg (pc' := 101) (lv' := [(0, .ref t), (1, .int a), (2, .int b), (3, .int c), (4, .int e), (5, .int y5_3)]) (st' := [.int b, .int x99]) [(100, .iload_n 2)] (by decide +kernel) rfl ?_
          refine zp_if (i := .if_icmp .ne 76) (c := ¬ x99 = b) (t := 177) (e := 104) (lv' := [(0, .ref t), (1, .int a), (2, .int b), (3, .int c), (4, .int e), (5, .int y5_3)]) (st' := []) (by decide +kernel) rfl (fun cc101 => ?_) (fun cc101 => ?_)
          ·
            have f49 := zneI cc101
            exact (hJ177 trivial ).more (zfa1 rfl (zfa1 rfl (zfa1 rfl (zfa1 rfl (zfa1 rfl (zfa1 rfl (zfa0)))))))
          ·
            replace cc101 := Classical.not_not.mp cc101
            have f50 := zeqI cc101
            refine zp_seg (pc' := 105) (lv' := [(0, .ref t), (1, .int a), (2, .int b), (3, .int c), (4, .int e), (5, .int y5_3)]) (st' := [.ref t]) [(104, .aload_n 0)] (by decide +kernel) rfl ?_
            refine zr_get (idx := 228) (k := 8) (v := .ref (t + 5)) (by decide +kernel) (by decide +kernel) hT_t rfl ?_
            refine zp_seg (pc' := 110) (lv' := [(0, .ref t), (1, .int a), (2, .int b), (3, .int c), (4, .int e), (5, .int y5_3)]) (st' := [.int y5_3, .ref (t + 5)]) [(108, .iload 5)] (by decide +kernel) rfl ?_
            refine zr_iald (by decide +kernel) hA_t_5 (zin (by first | omega | decide) (by first | omega | decide)) ?_
            obtain ⟨x110, ex110⟩ : ∃ x9, x9 = fc (y5_3.toNatClampNeg) := ⟨_, rfl⟩
            rw [← ex110]
            have kx110 := zrng x110
            refine zp_seg (pc' := 112) (lv' := [(0, .ref t), (1, .int a), (2, .int b), (3, .int c), (4, .int e), (5, .int y5_3)]) (st' := [.int c, .int x110]) [(111, .iload_n 3)] (by decide +kernel) rfl ?_
            refine zp_if (i := .if_icmp .ne 65) (c := ¬ x110 = c) (t := 177) (e := 115) (lv' := [(0, .ref t), (1, .int a), (2, .int b), (3, .int c), (4, .int e), (5, .int y5_3)]) (st' := []) (by decide +kernel) rfl (fun cc112 => ?_) (fun cc112 => ?_)
            ·
              have f51 := zneI cc112
              exact (hJ177 trivial ).more (zfa1 rfl (zfa1 rfl (zfa1 rfl (zfa1 rfl (zfa1 rfl (zfa1 rfl (zfa0)))))))
            ·
              replace cc112 := Classical.not_not.mp cc112
              have f52 := zeqI cc112
              refine zp_seg (pc' := 116) (lv' := [(0, .ref t), (1, .int a), (2, .int b), (3, .int c), (4, .int e), (5, .int y5_3)]) (st' := [.ref t]) [(115, .aload_n 0)] (by decide +kernel) rfl ?_
              refine zr_get (idx := 231) (k := 9) (v := .ref (t + 6)) (by decide +kernel) (by decide +kernel) hT_t rfl ?_
              refine zp_seg (pc' := 122) (lv' := [(0, .ref t), (1, .int a), (2, .int b), (3, .int c), (4, .int e), (5, .int y5_3)]) (st' := [.int y5_3, .ref (t + 6), .int y5_3, .ref (t + 6)]) [(119, .iload 5), (121, .dup2)] (by decide +kernel) rfl ?_
              refine zr_iald (by decide +kernel) hA_t_6 (zin (by first | omega | decide) (by first | omega | decide)) ?_
              obtain ⟨x122, ex122⟩ : ∃ x9, x9 = fe (y5_3.toNatClampNeg) := ⟨_, rfl⟩
              rw [← ex122]
              have kx122 := zrng x122
              refine zp_seg (pc' := 126) (lv' := [(0, .ref t), (1, .int a), (2, .int b), (3, .int c), (4, .int e), (5, .int y5_3)]) (st' := [.int (x122 + e), .int y5_3, .ref (t + 6)]) [(123, .iload 4), (125, .iadd)] (by decide +kernel) rfl ?_
              have k53 := zaddM x122 e
              generalize ev126 : (x122 + e : Int32) = v126 at k53 ⊢
              have kv126 := zrng v126
              refine zr_iast (by decide +kernel) hA_t_6 (zin (by first | omega | decide) (by first | omega | decide)) ?_
              show zP (d + 1) zq_X16_factor 127 [(0, .ref t), (1, .int a), (2, .int b), (3, .int c), (4, .int e), (5, .int y5_3)] [] (zup w (t + 6) (.inr (0, 13, .inl (upd fe (y5_3.toNatClampNeg) v126)))) sz 0 0 Post
              obtain ⟨w126, ew126⟩ : ∃ wz9, wz9 = zup w (t + 6) (.inr (0, 13, .inl (upd fe (y5_3.toNatClampNeg) v126))) := ⟨_, rfl⟩
              have hsi126 : zSI w w126 := by rw [ew126]; exact zSI.arr _ hA_t_6
              have heq126 : ∀ x, x ≠ t + 6 → w126 x = w x := fun x hx => by rw [ew126]; exact zup_n hx
              have hc126 : w126 (t + 6) = some (.inr (0, 13, .inl (upd fe (y5_3.toNatClampNeg) v126))) := by rw [ew126]; exact zup_s
              rw [← ew126]
              clear ew126
              refine zp_seg (pc' := 128) (lv' := [(0, .ref t), (1, .int a), (2, .int b), (3, .int c), (4, .int e), (5, .int y5_3)]) (st' := [.ref t]) [(127, .aload_n 0)] (by decide +kernel) rfl ?_
              have hb54 : w126 t = some (.inl (13, zTo t gt)) := (heq126 t (zx_X16_factor_14)).trans hT_t
              refine zr_get (idx := 231) (k := 9) (v := .ref (t + 6)) (by decide +kernel) (by decide +kernel) hb54 rfl ?_
              refine zp_seg (pc' := 133) (lv' := [(0, .ref t), (1, .int a), (2, .int b), (3, .int c), (4, .int e), (5, .int y5_3)]) (st' := [.int y5_3, .ref (t + 6)]) [(131, .iload 5)] (by decide +kernel) rfl ?_
              refine zr_iald (by decide +kernel) hc126 (zin (by first | omega | decide) (by first | omega | decide)) ?_
              obtain ⟨x133, ex133⟩ : ∃ x9, x9 = (upd fe (y5_3.toNatClampNeg) v126) (y5_3.toNatClampNeg) := ⟨_, rfl⟩
              rw [← ex133]
              have kx133 := zrng x133
              refine zp_if (i := .ifCond .ne 42) (c := ¬ x133 = 0) (t := 176) (e := 137) (lv' := [(0, .ref t), (1, .int a), (2, .int b), (3, .int c), (4, .int e), (5, .int y5_3)]) (st' := []) (by decide +kernel) rfl (fun cc134 => ?_) (fun cc134 => ?_)
              ·
                have f56 := zneI cc134
                rw [show (0 : Int32).toInt = 0 from by decide] at f56
                have hb57 : w126 (t + 3) = some (.inr (0, 13, .inl fa)) := (heq126 (t + 3) (zx_X16_factor_17)).trans hA_t_3
                have hb58 : w126 (t + 4) = some (.inr (0, 13, .inl fb)) := (heq126 (t + 4) (zx_X16_factor_19)).trans hA_t_4
                have hb59 : w126 (t + 5) = some (.inr (0, 13, .inl fc)) := (heq126 (t + 5) (zx_X16_factor_20)).trans hA_t_5
                have hoffend : ∀ x, (x < t ∨ t + 1 ≤ x) ∧ (x < t + 3 ∨ t + 3 + 4 ≤ x) → w126 x = w x := fun x hx => (heq126 x (zx_X16_factor_25 hx.1 hx.2))
                refine zr_retV (by decide +kernel) rfl ?_
                rw [← hPost]; exact ⟨rfl, _, rfl, (gt 5), fa, fb, fc, (upd fe (y5_3.toNatClampNeg) v126), hsi126, hoffend, hb54, hb57, hb58, hb59, hc126, (by
                      first
                      | exact ⟨by omega, zLn_mono hlp (by omega)⟩
                      | exact ⟨hmn, hln⟩
                      | (refine ⟨by omega, zLn_up (fun i9 hi9 hn9 => ?_) ha3 hb3 hab9 hc5⟩
                         have h9 := hlp i9
                         by_cases q9 : y6_201.toInt < (gt 5).toInt
                         · rw [if_pos q9] at h9; exact h9 (by omega)
                         · rw [if_neg q9] at h9; exact h9 (by omega))), rfl⟩
              ·
                replace cc134 := Classical.not_not.mp cc134
                have f61 := zeqI cc134
                rw [show (0 : Int32).toInt = 0 from by decide] at f61
                refine zp_seg (pc' := 139) (lv' := [(0, .ref t), (1, .int a), (2, .int b), (3, .int c), (4, .int e), (5, .int y5_3)]) (st' := [.ref t, .ref t]) [(137, .aload_n 0), (138, .dup)] (by decide +kernel) rfl ?_
                refine zr_get (idx := 219) (k := 5) (v := .int (gt 5)) (by decide +kernel) (by decide +kernel) hb54 rfl ?_
                refine zp_seg (pc' := 144) (lv' := [(0, .ref t), (1, .int a), (2, .int b), (3, .int c), (4, .int e), (5, .int y5_3)]) (st' := [.int ((gt 5) - 1), .ref t]) [(142, .iconst 1), (143, .isub)] (by decide +kernel) rfl ?_
                have k62 := zsubC ((gt 5)) 1 (n := 1) (by decide) (by omega) (by omega)
                generalize ev144 : ((gt 5) - 1 : Int32) = v144 at k62 ⊢
                have kv144 := zrng v144
                refine zr_put2 (idx := 219) (k := 5) (fs2 := zTo t (zs gt 5 v144)) (by decide +kernel) (by decide +kernel) hb54 (Nat.le_of_ble_eq_true rfl) rfl rfl rfl ?_
                show zP (d + 1) zq_X16_factor 147 [(0, .ref t), (1, .int a), (2, .int b), (3, .int c), (4, .int e), (5, .int y5_3)] [] (zup w126 t (.inl (13, zTo t (zs gt 5 v144)))) sz 0 0 Post
                obtain ⟨w144, ew144⟩ : ∃ wz9, wz9 = zup w126 t (.inl (13, zTo t (zs gt 5 v144))) := ⟨_, rfl⟩
                have hsi144 : zSI w126 w144 := by rw [ew144]; exact zSI.setT hb54 _
                have heq144 : ∀ x, x ≠ t → w144 x = w126 x := fun x hx => by rw [ew144]; exact zup_n hx
                have hc144 : w144 t = some (.inl (13, zTo t (zs gt 5 v144))) := by rw [ew144]; exact zup_s
                rw [← ew144]
                clear ew144
                have hz63 : (v144.toNatClampNeg : Int) = v144.toInt := znat (by first | omega | decide)
                refine zp_seg (pc' := 151) (lv' := [(6, .int y5_3), (0, .ref t), (1, .int a), (2, .int b), (3, .int c), (4, .int e), (5, .int y5_3)]) (st' := []) [(147, .iload 5), (149, .istore 6)] (by decide +kernel) rfl ?_
                have hL151 : ∀ (mm151 : Nat) (wL151 : zM) (y6_151 : Int32) (pa : Nat → Int32) (pb : Nat → Int32) (pc : Nat → Int32) (pe : Nat → Int32), (zSI w144 wL151) → (∀ x, (x < t + 3 ∨ t + 3 + 4 ≤ x) → wL151 x = w144 x) → (0 ≤ y6_151.toInt) → (wL151 (t + 3) = some (.inr (0, 13, .inl pa))) → (wL151 (t + 4) = some (.inr (0, 13, .inl pb))) → (wL151 (t + 5) = some (.inr (0, 13, .inl pc))) → (wL151 (t + 6) = some (.inr (0, 13, .inl pe))) → (zLn pa pb pc (gt 5).toNatClampNeg) → (2147483647 - y6_151.toInt).toNat < mm151 → zP (d + 1) zq_X16_factor 151 [(0, .ref t), (6, .int y6_151)] [] wL151 sz 0 0 Post := by
                  intro mm151
                  induction mm151 with
                  | zero => intros; omega
                  | succ mm151 ih151 =>
                  intro wL151 y6_151 pa pb pc pe hsiL151 heqL151 hi151_0 hpa hpb hpc hpe hlp hmu151
                  have ky6_151 := zrng y6_151
                  have hz64 : (y6_151.toNatClampNeg : Int) = y6_151.toInt := znat (by first | omega | decide)
                  refine zp_seg (pc' := 154) (lv' := [(0, .ref t), (6, .int y6_151)]) (st' := [.ref t, .int y6_151]) [(151, .iload 6), (153, .aload_n 0)] (by decide +kernel) rfl ?_
                  have hb65 : wL151 t = some (.inl (13, zTo t (zs gt 5 v144))) := (heqL151 t (zx_X16_factor_0)).trans hc144
                  refine zr_get (idx := 219) (k := 5) (v := .int v144) (by decide +kernel) (by decide +kernel) hb65 rfl ?_
                  refine zp_if (i := .if_icmp .ge 19) (c := v144 ≤ y6_151) (t := 176) (e := 160) (lv' := [(0, .ref t), (6, .int y6_151)]) (st' := []) (by decide +kernel) rfl (fun cc157 => ?_) (fun cc157 => ?_)
                  ·
                    have f66 := zleI cc157
                    have hoffend : ∀ x, (x < t ∨ t + 1 ≤ x) ∧ (x < t + 3 ∨ t + 3 + 4 ≤ x) → wL151 x = w x := fun x hx => ((heqL151 x hx.2).trans ((heq144 x (zx_X16_factor_21 hx.1 hx.2)).trans (heq126 x (zx_X16_factor_25 hx.1 hx.2))))
                    refine zr_retV (by decide +kernel) rfl ?_
                    rw [← hPost]; exact ⟨rfl, _, rfl, v144, pa, pb, pc, pe, ((hsi126.tr hsi144).tr hsiL151), hoffend, hb65, hpa, hpb, hpc, hpe, (by
                          first
                          | exact ⟨by omega, zLn_mono hlp (by omega)⟩
                          | exact ⟨hmn, hln⟩
                          | (refine ⟨by omega, zLn_up (fun i9 hi9 hn9 => ?_) ha3 hb3 hab9 hc5⟩
                             have h9 := hlp i9
                             by_cases q9 : y6_201.toInt < (gt 5).toInt
                             · rw [if_pos q9] at h9; exact h9 (by omega)
                             · rw [if_neg q9] at h9; exact h9 (by omega))), rfl⟩
                  ·
                    have f67 := znleI cc157
                    refine zp_seg (pc' := 165) (lv' := [(0, .ref t), (6, .int y6_151)]) (st' := [.int (y6_151 + 1), .ref t]) [(160, .aload_n 0), (161, .iload 6), (163, .iconst 1), (164, .iadd)] (by decide +kernel) rfl ?_
                    have k68 := zaddC y6_151 1 (n := 1) (by decide) (by omega) (by omega)
                    generalize ev165 : (y6_151 + 1 : Int32) = v165 at k68 ⊢
                    have kv165 := zrng v165
                    refine zp_seg (pc' := 167) (lv' := [(0, .ref t), (6, .int y6_151)]) (st' := [.int y6_151, .int v165, .ref t]) [(165, .iload 6)] (by decide +kernel) rfl ?_
                    have hz69 : (v165.toNatClampNeg : Int) = v165.toInt := znat (by first | omega | decide)
                    refine zr_callS (idx := 269) (j := 310) (by decide +kernel) (by decide +kernel) (by decide) (show zMe 310 = some zq_X16_move from rfl) rfl rfl (Nat.le_of_ble_eq_true rfl) rfl rfl (Nat.le_of_ble_eq_true rfl) (Nat.le_of_ble_eq_true rfl) (c_X16_move (w := wL151) t v165 y6_151 hb65 hpa hpb hpc hpe (by first | omega | decide | assumption | exact zr1_1 | exact zr1_0 | fail "num") (by first | omega | decide | assumption | exact zr1_1 | exact zr1_0 | fail "num")) (by omega) (fun v167 w167 hp167 => ?_)
                    obtain ⟨hsi167, heq167, hp167_0, hp167_1, hp167_2, hp167_3, rfl⟩ := hp167
                    show zP _ _ _ _ [] _ _ _ _ _
                    refine zp_seg (pc' := 173) (lv' := [(6, .int (y6_151 + 1)), (0, .ref t)]) (st' := []) [(170, .iinc 6 1)] (by decide +kernel) rfl ?_
                    have k70 := zaddC y6_151 1 (n := 1) (by decide) (by omega) (by omega)
                    generalize ev173 : (y6_151 + 1 : Int32) = v173 at k70 ⊢
                    have kv173 := zrng v173
                    refine zp_seg (pc' := 151) (lv' := [(6, .int v173), (0, .ref t)]) (st' := []) [(173, .goto (-22))] (by decide +kernel) rfl ?_
                    have hz71 : (v173.toNatClampNeg : Int) = v173.toInt := znat (by first | omega | decide)
                    exact (ih151 w167 v173 ((upd pa y6_151.toNatClampNeg (pa v165.toNatClampNeg))) ((upd pb y6_151.toNatClampNeg (pb v165.toNatClampNeg))) ((upd pc y6_151.toNatClampNeg (pc v165.toNatClampNeg))) ((upd pe y6_151.toNatClampNeg (pe v165.toNatClampNeg))) (hsiL151.tr hsi167) (fun x hx => ((heq167 x hx).trans (heqL151 x hx))) (by first | assumption | omega | decide) hp167_0 hp167_1 hp167_2 hp167_3 (by
                          exact zLn_mv hlp (by omega)) (by omega)).more (zfa1 rfl (zfa1 rfl (zfa0)))
                have hb72 : w144 (t + 3) = some (.inr (0, 13, .inl fa)) := ((heq144 (t + 3) (zx_X16_factor_1)).trans (heq126 (t + 3) (zx_X16_factor_17))).trans hA_t_3
                have hb73 : w144 (t + 4) = some (.inr (0, 13, .inl fb)) := ((heq144 (t + 4) (zx_X16_factor_3)).trans (heq126 (t + 4) (zx_X16_factor_19))).trans hA_t_4
                have hb74 : w144 (t + 5) = some (.inr (0, 13, .inl fc)) := ((heq144 (t + 5) (zx_X16_factor_6)).trans (heq126 (t + 5) (zx_X16_factor_20))).trans hA_t_5
                have hb75 : w144 (t + 6) = some (.inr (0, 13, .inl (upd fe (y5_3.toNatClampNeg) v126))) := (heq144 (t + 6) (zx_X16_factor_10)).trans hc126
                exact (hL151 _ w144 y5_3 (fa) (fb) (fc) ((upd fe (y5_3.toNatClampNeg) v126)) zSI.rf (fun _ _ => rfl) (by first | assumption | omega | decide) hb72 hb73 hb74 hb75 (by
                      exact hln) (Nat.lt_succ_self _)).more (zfa1 rfl (zfa1 rfl (zfa0)))
    refine zp_if (i := .if_icmp .ge 64) (c := (gt 5) ≤ y5_3) (t := 73) (e := 12) (lv' := [(0, .ref t), (1, .int a), (2, .int b), (3, .int c), (4, .int e), (5, .int y5_3)]) (st' := []) (by decide +kernel) rfl (fun cc9 => ?_) (fun cc9 => ?_)
    ·
      have f76 := zleI cc9
      exact (hJ73 trivial (by first | assumption | omega | decide) (by first | assumption | omega | decide)).more (zfa1 rfl (zfa1 rfl (zfa1 rfl (zfa1 rfl (zfa1 rfl (zfa1 rfl (zfa0)))))))
    ·
      have f77 := znleI cc9
      refine zp_seg (pc' := 13) (lv' := [(0, .ref t), (1, .int a), (2, .int b), (3, .int c), (4, .int e), (5, .int y5_3)]) (st' := [.ref t]) [(12, .aload_n 0)] (by decide +kernel) rfl ?_
      refine zr_get (idx := 222) (k := 6) (v := .ref (t + 3)) (by decide +kernel) (by decide +kernel) hT_t rfl ?_
      refine zp_seg (pc' := 18) (lv' := [(0, .ref t), (1, .int a), (2, .int b), (3, .int c), (4, .int e), (5, .int y5_3)]) (st' := [.int y5_3, .ref (t + 3)]) [(16, .iload 5)] (by decide +kernel) rfl ?_
      refine zr_iald (by decide +kernel) hA_t_3 (zin (by first | omega | decide) (by first | omega | decide)) ?_
      obtain ⟨x18, ex18⟩ : ∃ x9, x9 = fa (y5_3.toNatClampNeg) := ⟨_, rfl⟩
      rw [← ex18]
      have kx18 := zrng x18
      refine zp_seg (pc' := 20) (lv' := [(0, .ref t), (1, .int a), (2, .int b), (3, .int c), (4, .int e), (5, .int y5_3)]) (st' := [.int a, .int x18]) [(19, .iload_n 1)] (by decide +kernel) rfl ?_
      refine zp_if (i := .if_icmp .lt 47) (c := x18 < a) (t := 67) (e := 23) (lv' := [(0, .ref t), (1, .int a), (2, .int b), (3, .int c), (4, .int e), (5, .int y5_3)]) (st' := []) (by decide +kernel) rfl (fun cc20 => ?_) (fun cc20 => ?_)
      ·
        have f78 := zltI cc20
        refine zp_seg (pc' := 70) (lv' := [(5, .int (y5_3 + 1)), (0, .ref t), (1, .int a), (2, .int b), (3, .int c), (4, .int e)]) (st' := []) [(67, .iinc 5 1)] (by decide +kernel) rfl ?_
        have k79 := zaddC y5_3 1 (n := 1) (by decide) (by omega) (by omega)
        generalize ev70 : (y5_3 + 1 : Int32) = v70 at k79 ⊢
        have kv70 := zrng v70
        refine zp_seg (pc' := 3) (lv' := [(5, .int v70), (0, .ref t), (1, .int a), (2, .int b), (3, .int c), (4, .int e)]) (st' := []) [(70, .goto (-67))] (by decide +kernel) rfl ?_
        have hz80 : (v70.toNatClampNeg : Int) = v70.toInt := znat (by first | omega | decide)
        exact (ih3 v70 (by first | assumption | omega | decide) (by first | assumption | omega | decide) (by omega)).more (zfa1 rfl (zfa1 rfl (zfa1 rfl (zfa1 rfl (zfa1 rfl (zfa1 rfl (zfa0)))))))
      ·
        have f81 := znltI cc20
        refine zp_seg (pc' := 24) (lv' := [(0, .ref t), (1, .int a), (2, .int b), (3, .int c), (4, .int e), (5, .int y5_3)]) (st' := [.ref t]) [(23, .aload_n 0)] (by decide +kernel) rfl ?_
        refine zr_get (idx := 222) (k := 6) (v := .ref (t + 3)) (by decide +kernel) (by decide +kernel) hT_t rfl ?_
        refine zp_seg (pc' := 29) (lv' := [(0, .ref t), (1, .int a), (2, .int b), (3, .int c), (4, .int e), (5, .int y5_3)]) (st' := [.int y5_3, .ref (t + 3)]) [(27, .iload 5)] (by decide +kernel) rfl ?_
        refine zr_iald (by decide +kernel) hA_t_3 (zin (by first | omega | decide) (by first | omega | decide)) ?_
        rw [← ex18]
        refine zp_seg (pc' := 31) (lv' := [(0, .ref t), (1, .int a), (2, .int b), (3, .int c), (4, .int e), (5, .int y5_3)]) (st' := [.int a, .int x18]) [(30, .iload_n 1)] (by decide +kernel) rfl ?_
        refine zp_if (i := .if_icmp .ne 42) (c := ¬ x18 = a) (t := 73) (e := 34) (lv' := [(0, .ref t), (1, .int a), (2, .int b), (3, .int c), (4, .int e), (5, .int y5_3)]) (st' := []) (by decide +kernel) rfl (fun cc31 => ?_) (fun cc31 => ?_)
        ·
          have f82 := zneI cc31
          exact (hJ73 trivial (by first | assumption | omega | decide) (by first | assumption | omega | decide)).more (zfa1 rfl (zfa1 rfl (zfa1 rfl (zfa1 rfl (zfa1 rfl (zfa1 rfl (zfa0)))))))
        ·
          replace cc31 := Classical.not_not.mp cc31
          have f83 := zeqI cc31
          refine zp_seg (pc' := 35) (lv' := [(0, .ref t), (1, .int a), (2, .int b), (3, .int c), (4, .int e), (5, .int y5_3)]) (st' := [.ref t]) [(34, .aload_n 0)] (by decide +kernel) rfl ?_
          refine zr_get (idx := 225) (k := 7) (v := .ref (t + 4)) (by decide +kernel) (by decide +kernel) hT_t rfl ?_
          refine zp_seg (pc' := 40) (lv' := [(0, .ref t), (1, .int a), (2, .int b), (3, .int c), (4, .int e), (5, .int y5_3)]) (st' := [.int y5_3, .ref (t + 4)]) [(38, .iload 5)] (by decide +kernel) rfl ?_
          refine zr_iald (by decide +kernel) hA_t_4 (zin (by first | omega | decide) (by first | omega | decide)) ?_
          obtain ⟨x40, ex40⟩ : ∃ x9, x9 = fb (y5_3.toNatClampNeg) := ⟨_, rfl⟩
          rw [← ex40]
          have kx40 := zrng x40
          refine zp_seg (pc' := 42) (lv' := [(0, .ref t), (1, .int a), (2, .int b), (3, .int c), (4, .int e), (5, .int y5_3)]) (st' := [.int b, .int x40]) [(41, .iload_n 2)] (by decide +kernel) rfl ?_
          refine zp_if (i := .if_icmp .lt 25) (c := x40 < b) (t := 67) (e := 45) (lv' := [(0, .ref t), (1, .int a), (2, .int b), (3, .int c), (4, .int e), (5, .int y5_3)]) (st' := []) (by decide +kernel) rfl (fun cc42 => ?_) (fun cc42 => ?_)
          ·
            have f84 := zltI cc42
            refine zp_seg (pc' := 70) (lv' := [(5, .int (y5_3 + 1)), (0, .ref t), (1, .int a), (2, .int b), (3, .int c), (4, .int e)]) (st' := []) [(67, .iinc 5 1)] (by decide +kernel) rfl ?_
            have k85 := zaddC y5_3 1 (n := 1) (by decide) (by omega) (by omega)
            generalize ev70 : (y5_3 + 1 : Int32) = v70 at k85 ⊢
            have kv70 := zrng v70
            refine zp_seg (pc' := 3) (lv' := [(5, .int v70), (0, .ref t), (1, .int a), (2, .int b), (3, .int c), (4, .int e)]) (st' := []) [(70, .goto (-67))] (by decide +kernel) rfl ?_
            have hz86 : (v70.toNatClampNeg : Int) = v70.toInt := znat (by first | omega | decide)
            exact (ih3 v70 (by first | assumption | omega | decide) (by first | assumption | omega | decide) (by omega)).more (zfa1 rfl (zfa1 rfl (zfa1 rfl (zfa1 rfl (zfa1 rfl (zfa1 rfl (zfa0)))))))
          ·
            have f87 := znltI cc42
            refine zp_seg (pc' := 46) (lv' := [(0, .ref t), (1, .int a), (2, .int b), (3, .int c), (4, .int e), (5, .int y5_3)]) (st' := [.ref t]) [(45, .aload_n 0)] (by decide +kernel) rfl ?_
            refine zr_get (idx := 225) (k := 7) (v := .ref (t + 4)) (by decide +kernel) (by decide +kernel) hT_t rfl ?_
            refine zp_seg (pc' := 51) (lv' := [(0, .ref t), (1, .int a), (2, .int b), (3, .int c), (4, .int e), (5, .int y5_3)]) (st' := [.int y5_3, .ref (t + 4)]) [(49, .iload 5)] (by decide +kernel) rfl ?_
            refine zr_iald (by decide +kernel) hA_t_4 (zin (by first | omega | decide) (by first | omega | decide)) ?_
            rw [← ex40]
            refine zp_seg (pc' := 53) (lv' := [(0, .ref t), (1, .int a), (2, .int b), (3, .int c), (4, .int e), (5, .int y5_3)]) (st' := [.int b, .int x40]) [(52, .iload_n 2)] (by decide +kernel) rfl ?_
            refine zp_if (i := .if_icmp .ne 20) (c := ¬ x40 = b) (t := 73) (e := 56) (lv' := [(0, .ref t), (1, .int a), (2, .int b), (3, .int c), (4, .int e), (5, .int y5_3)]) (st' := []) (by decide +kernel) rfl (fun cc53 => ?_) (fun cc53 => ?_)
            ·
              have f88 := zneI cc53
              exact (hJ73 trivial (by first | assumption | omega | decide) (by first | assumption | omega | decide)).more (zfa1 rfl (zfa1 rfl (zfa1 rfl (zfa1 rfl (zfa1 rfl (zfa1 rfl (zfa0)))))))
            ·
              replace cc53 := Classical.not_not.mp cc53
              have f89 := zeqI cc53
              refine zp_seg (pc' := 57) (lv' := [(0, .ref t), (1, .int a), (2, .int b), (3, .int c), (4, .int e), (5, .int y5_3)]) (st' := [.ref t]) [(56, .aload_n 0)] (by decide +kernel) rfl ?_
              refine zr_get (idx := 228) (k := 8) (v := .ref (t + 5)) (by decide +kernel) (by decide +kernel) hT_t rfl ?_
              refine zp_seg (pc' := 62) (lv' := [(0, .ref t), (1, .int a), (2, .int b), (3, .int c), (4, .int e), (5, .int y5_3)]) (st' := [.int y5_3, .ref (t + 5)]) [(60, .iload 5)] (by decide +kernel) rfl ?_
              refine zr_iald (by decide +kernel) hA_t_5 (zin (by first | omega | decide) (by first | omega | decide)) ?_
              obtain ⟨x62, ex62⟩ : ∃ x9, x9 = fc (y5_3.toNatClampNeg) := ⟨_, rfl⟩
              rw [← ex62]
              have kx62 := zrng x62
              refine zp_seg (pc' := 64) (lv' := [(0, .ref t), (1, .int a), (2, .int b), (3, .int c), (4, .int e), (5, .int y5_3)]) (st' := [.int c, .int x62]) [(63, .iload_n 3)] (by decide +kernel) rfl ?_
              refine zp_if (i := .if_icmp .ge 9) (c := c ≤ x62) (t := 73) (e := 67) (lv' := [(0, .ref t), (1, .int a), (2, .int b), (3, .int c), (4, .int e), (5, .int y5_3)]) (st' := []) (by decide +kernel) rfl (fun cc64 => ?_) (fun cc64 => ?_)
              ·
                have f90 := zleI cc64
                exact (hJ73 trivial (by first | assumption | omega | decide) (by first | assumption | omega | decide)).more (zfa1 rfl (zfa1 rfl (zfa1 rfl (zfa1 rfl (zfa1 rfl (zfa1 rfl (zfa0)))))))
              ·
                have f91 := znleI cc64
                refine zp_seg (pc' := 70) (lv' := [(5, .int (y5_3 + 1)), (0, .ref t), (1, .int a), (2, .int b), (3, .int c), (4, .int e)]) (st' := []) [(67, .iinc 5 1)] (by decide +kernel) rfl ?_
                have k92 := zaddC y5_3 1 (n := 1) (by decide) (by omega) (by omega)
                generalize ev70 : (y5_3 + 1 : Int32) = v70 at k92 ⊢
                have kv70 := zrng v70
                refine zp_seg (pc' := 3) (lv' := [(5, .int v70), (0, .ref t), (1, .int a), (2, .int b), (3, .int c), (4, .int e)]) (st' := []) [(70, .goto (-67))] (by decide +kernel) rfl ?_
                have hz93 : (v70.toNatClampNeg : Int) = v70.toInt := znat (by first | omega | decide)
                exact (ih3 v70 (by first | assumption | omega | decide) (by first | assumption | omega | decide) (by omega)).more (zfa1 rfl (zfa1 rfl (zfa1 rfl (zfa1 rfl (zfa1 rfl (zfa1 rfl (zfa0)))))))
  have hl94 : (0 : Int32).toInt = 0 := by decide
  have hz95 : ((0 : Int32).toNatClampNeg : Int) = 0 := by decide
  exact (hL3 _ 0 (by first | assumption | omega | decide) (by first | assumption | omega | decide) (Nat.lt_succ_self _)).more (zfa1 rfl (zfa1 rfl (zfa1 rfl (zfa1 rfl (zfa1 rfl (zfa1 rfl (zfa0)))))))
