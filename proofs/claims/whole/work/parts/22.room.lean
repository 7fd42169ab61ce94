set_option maxHeartbeats 4000000 in
set_option maxRecDepth 100000 in
theorem s_X4_get {h : Nat} {w0 w : zM} (hG : zG h w0 w) (x1 : Int32) : zCon 1 zq_X4_get [.ref (h + 74), .int x1] w (fun v w' => zG h w0 w' ∧ ∃ r : Int32, v = some (.int r) ∧ r.toInt < 2147483647) := by
  intro d sz hd
  obtain ⟨d, rfl⟩ : ∃ d9, d = d9 + 1 := ⟨d - 1, by omega⟩
  generalize hPost : (fun (r : Option (Option Value)) (w' : zM) (z : Nat) => z = sz ∧ ∃ v, r = some v ∧ (zG h w0 w' ∧ ∃ r : Int32, v = some (.int r) ∧ r.toInt < 2147483647)) = Post
  show zP (d + 1) zq_X4_get 0 [(0, .ref (h + 74)), (1, .int x1)] [] w sz 0 0 Post
  have k1 := zrng x1
  refine zp_seg (pc' := 1) (lv' := [(0, .ref (h + 74)), (1, .int x1)]) (st' := [.int x1]) [(0, .iload_n 1)] (by decide +kernel) rfl ?_
  have hj3 : ∀ (w4 : zM) (y2 : Int32), zG h w0 w4 → y2.toInt < 2147483647 → zP (d + 1) zq_X4_get 20 [] [.int y2] w4 sz 0 0 Post := by
    intro w4 y2 hG5 hi6
    have k7 := zrng y2
    refine zr_retI (by decide +kernel) rfl ?_
    rw [← hPost]; exact ⟨rfl, _, rfl, hG5, _, rfl, by first | omega | decide⟩
  have hj8 : ∀ (w9 : zM), zG h w0 w9 → zP (d + 1) zq_X4_get 19 [] [] w9 sz 0 0 Post := by
    intro w9  hG10 
    refine zp_seg (pc' := 20) (lv' := []) (st' := [.int 0]) [(19, .iconst 0)] (by decide +kernel) rfl ?_
    exact (hj3 w9 0 hG10 (by first | omega | decide)).more (zfa0)
  refine zp_if (i := .ifCond .lt 18) (c := x1 < 0) (t := 19) (e := 4) (lv' := [(0, .ref (h + 74)), (1, .int x1)]) (st' := []) (by decide +kernel) rfl (fun c12 => ?_) (fun c12 => ?_)
  ·
    have f14 := zltI c12
    rw [show (0 : Int32).toInt = 0 from by decide] at f14
    exact (hj8 w  hG ).more (zfa0)
  ·
    have f16 := znltI c12
    rw [show (0 : Int32).toInt = 0 from by decide] at f16
    refine zp_seg (pc' := 5) (lv' := [(0, .ref (h + 74)), (1, .int x1)]) (st' := [.int x1]) [(4, .iload_n 1)] (by decide +kernel) rfl ?_
    refine zr_ldc (idx := 11) (v := 131072) (by decide +kernel) (by decide +kernel) ?_
    refine zp_if (i := .if_icmp .ge 12) (c := 131072 ≤ x1) (t := 19) (e := 10) (lv' := [(0, .ref (h + 74)), (1, .int x1)]) (st' := []) (by decide +kernel) rfl (fun c17 => ?_) (fun c17 => ?_)
    ·
      have f19 := zleI c17
      rw [show (131072 : Int32).toInt = 131072 from by decide] at f19
      exact (hj8 w  hG ).more (zfa0)
    ·
      have f21 := znleI c17
      rw [show (131072 : Int32).toInt = 131072 from by decide] at f21
      refine zp_seg (pc' := 11) (lv' := [(0, .ref (h + 74)), (1, .int x1)]) (st' := [.ref (h + 74)]) [(10, .aload_n 0)] (by decide +kernel) rfl ?_
      obtain ⟨t22, l22, hw22, g22_0, g22_1, g22_2⟩ := rd_74 hG
      refine zr_get (idx := 12) (k := 0) (by decide +kernel) (by decide +kernel) hw22 rfl ?_
      refine zp_seg (pc' := 15) (lv' := [(0, .ref (h + 74)), (1, .int x1)]) (st' := [.int x1, .ref (h + 75)]) [(14, .iload_n 1)] (by decide +kernel) rfl ?_
      obtain ⟨fa23, hw23, ga23⟩ := rd_75 hG
      refine zr_iald (by decide +kernel) hw23 (zin (by first | omega | decide) (by first | omega | decide)) ?_
      generalize ex24 : fa23 x1.toNatClampNeg = x24
      have hx24 := ga23 x1.toNatClampNeg
      rw [ex24] at hx24
      refine zp_seg (pc' := 20) (lv' := [(0, .ref (h + 74)), (1, .int x1)]) (st' := [.int x24]) [(16, .goto 4)] (by decide +kernel) rfl ?_
      have k25 := zrng x24
      exact (hj3 w x24 hG (by first | omega | decide)).more (zfa0)

set_option maxHeartbeats 4000000 in
set_option maxRecDepth 100000 in
theorem s_X4_put {h : Nat} {w0 w : zM} (hG : zG h w0 w) (x1 : Int32) (x2 : Int32) (hq0 : x2.toInt < 2147483647) : zCon 1 zq_X4_put [.ref (h + 74), .int x1, .int x2] w (fun v w' => zG h w0 w' ∧ v = none) := by
  intro d sz hd
  obtain ⟨d, rfl⟩ : ∃ d9, d = d9 + 1 := ⟨d - 1, by omega⟩
  generalize hPost : (fun (r : Option (Option Value)) (w' : zM) (z : Nat) => z = sz ∧ ∃ v, r = some v ∧ (zG h w0 w' ∧ v = none)) = Post
  show zP (d + 1) zq_X4_put 0 [(0, .ref (h + 74)), (1, .int x1), (2, .int x2)] [] w sz 0 0 Post
  have k1 := zrng x1
  have k2 := zrng x2
  refine zp_seg (pc' := 4) (lv' := [(0, .ref (h + 74)), (1, .int x1), (2, .int x2)]) (st' := [.int 2048, .int x1]) [(0, .iload_n 1), (1, .sipush 2048)] (by decide +kernel) rfl ?_
  have hj3 : ∀ (w4 : zM), zG h w0 w4 → zP (d + 1) zq_X4_put 20 [] [] w4 sz 0 0 Post := by
    intro w4  hG5 
    refine zr_retV (by decide +kernel) rfl ?_
    rw [← hPost]; exact ⟨rfl, _, rfl, hG5, rfl⟩
  refine zp_if (i := .if_icmp .lt 16) (c := x1 < 2048) (t := 20) (e := 7) (lv' := [(0, .ref (h + 74)), (1, .int x1), (2, .int x2)]) (st' := []) (by decide +kernel) rfl (fun c6 => ?_) (fun c6 => ?_)
  ·
    have f8 := zltI c6
    rw [show (2048 : Int32).toInt = 2048 from by decide] at f8
    exact (hj3 w  hG ).more (zfa0)
  ·
    have f10 := znltI c6
    rw [show (2048 : Int32).toInt = 2048 from by decide] at f10
    refine zp_seg (pc' := 8) (lv' := [(0, .ref (h + 74)), (1, .int x1), (2, .int x2)]) (st' := [.int x1]) [(7, .iload_n 1)] (by decide +kernel) rfl ?_
    refine zr_ldc (idx := 11) (v := 131072) (by decide +kernel) (by decide +kernel) ?_
    refine zp_if (i := .if_icmp .ge 10) (c := 131072 ≤ x1) (t := 20) (e := 13) (lv' := [(0, .ref (h + 74)), (1, .int x1), (2, .int x2)]) (st' := []) (by decide +kernel) rfl (fun c11 => ?_) (fun c11 => ?_)
    ·
      have f13 := zleI c11
      rw [show (131072 : Int32).toInt = 131072 from by decide] at f13
      exact (hj3 w  hG ).more (zfa0)
    ·
      have f15 := znleI c11
      rw [show (131072 : Int32).toInt = 131072 from by decide] at f15
      refine zp_seg (pc' := 14) (lv' := [(0, .ref (h + 74)), (1, .int x1), (2, .int x2)]) (st' := [.ref (h + 74)]) [(13, .aload_n 0)] (by decide +kernel) rfl ?_
      obtain ⟨t16, l16, hw16, g16_0, g16_1, g16_2⟩ := rd_74 hG
      refine zr_get (idx := 12) (k := 0) (by decide +kernel) (by decide +kernel) hw16 rfl ?_
      refine zp_seg (pc' := 19) (lv' := [(0, .ref (h + 74)), (1, .int x1), (2, .int x2)]) (st' := [.int x2, .int x1, .ref (h + 75)]) [(17, .iload_n 1), (18, .iload_n 2)] (by decide +kernel) rfl ?_
      obtain ⟨fa17, hw17, ga17⟩ := rd_75 hG
      refine zr_iast (by decide +kernel) hw17 (zin (by first | omega | decide) (by first | omega | decide)) ?_
      show zP (d + 1) zq_X4_put 20 [(0, .ref (h + 74)), (1, .int x1), (2, .int x2)] [] (zup w (h + 75) (.inr (0, 131072, .inl (upd fa17 x1.toNatClampNeg x2)))) sz 0 0 Post
      obtain ⟨w18, ew18⟩ : ∃ w2, w2 = zup w (h + 75) (.inr (0, 131072, .inl (upd fa17 x1.toNatClampNeg x2))) := ⟨_, rfl⟩
      have hG18 : zG h w0 w18 := by rw [ew18]; exact wr_75 hG (fun i => by unfold upd; split <;> first | exact ga17 i | omega | decide)
      have hw18 : w18 (h + 75) = some (.inr (0, 131072, .inl (upd fa17 x1.toNatClampNeg x2))) := by rw [ew18]; exact zup_s
      have hb18_0 := (show w18 (h + 74) = w (h + 74) by rw [ew18]; exact zup_n (by omega)).trans hw16
      rw [← ew18]
      clear ew18
      exact (hj3 w18  hG18 ).more (zfa0)

set_option maxHeartbeats 4000000 in
set_option maxRecDepth 100000 in
theorem s_X4_width {h : Nat} {w0 w : zM} (hG : zG h w0 w) (x1 : Int32) : zCon 1 zq_X4_width [.ref (h + 74), .int x1] w (fun v w' => zG h w0 w' ∧ ∃ r : Int32, v = some (.int r) ∧ r.toInt < 2147483647) := by
  intro d sz hd
  obtain ⟨d, rfl⟩ : ∃ d9, d = d9 + 1 := ⟨d - 1, by omega⟩
  generalize hPost : (fun (r : Option (Option Value)) (w' : zM) (z : Nat) => z = sz ∧ ∃ v, r = some v ∧ (zG h w0 w' ∧ ∃ r : Int32, v = some (.int r) ∧ r.toInt < 2147483647)) = Post
  show zP (d + 1) zq_X4_width 0 [(0, .ref (h + 74)), (1, .int x1)] [] w sz 0 0 Post
  have k1 := zrng x1
  refine zp_seg (pc' := 1) (lv' := [(0, .ref (h + 74)), (1, .int x1)]) (st' := [.int x1]) [(0, .iload_n 1)] (by decide +kernel) rfl ?_
  have hj3 : ∀ (w4 : zM) (y2 : Int32), zG h w0 w4 → y2.toInt < 2147483647 → zP (d + 1) zq_X4_width 20 [] [.int y2] w4 sz 0 0 Post := by
    intro w4 y2 hG5 hi6
    have k7 := zrng y2
    refine zr_retI (by decide +kernel) rfl ?_
    rw [← hPost]; exact ⟨rfl, _, rfl, hG5, _, rfl, by first | omega | decide⟩
  have hj8 : ∀ (w9 : zM), zG h w0 w9 → zP (d + 1) zq_X4_width 19 [] [] w9 sz 0 0 Post := by
    intro w9  hG10 
    refine zp_seg (pc' := 20) (lv' := []) (st' := [.int 0]) [(19, .iconst 0)] (by decide +kernel) rfl ?_
    exact (hj3 w9 0 hG10 (by first | omega | decide)).more (zfa0)
  refine zp_if (i := .ifCond .lt 18) (c := x1 < 0) (t := 19) (e := 4) (lv' := [(0, .ref (h + 74)), (1, .int x1)]) (st' := []) (by decide +kernel) rfl (fun c12 => ?_) (fun c12 => ?_)
  ·
    have f14 := zltI c12
    rw [show (0 : Int32).toInt = 0 from by decide] at f14
    exact (hj8 w  hG ).more (zfa0)
  ·
    have f16 := znltI c12
    rw [show (0 : Int32).toInt = 0 from by decide] at f16
    refine zp_seg (pc' := 5) (lv' := [(0, .ref (h + 74)), (1, .int x1)]) (st' := [.int x1]) [(4, .iload_n 1)] (by decide +kernel) rfl ?_
    refine zr_ldc (idx := 24) (v := 131070) (by decide +kernel) (by decide +kernel) ?_
    refine zp_if (i := .if_icmp .ge 12) (c := 131070 ≤ x1) (t := 19) (e := 10) (lv' := [(0, .ref (h + 74)), (1, .int x1)]) (st' := []) (by decide +kernel) rfl (fun c17 => ?_) (fun c17 => ?_)
    ·
      have f19 := zleI c17
      rw [show (131070 : Int32).toInt = 131070 from by decide] at f19
      exact (hj8 w  hG ).more (zfa0)
    ·
      have f21 := znleI c17
      rw [show (131070 : Int32).toInt = 131070 from by decide] at f21
      refine zp_seg (pc' := 11) (lv' := [(0, .ref (h + 74)), (1, .int x1)]) (st' := [.ref (h + 74)]) [(10, .aload_n 0)] (by decide +kernel) rfl ?_
      obtain ⟨t22, l22, hw22, g22_0, g22_1, g22_2⟩ := rd_74 hG
      refine zr_get (idx := 12) (k := 0) (by decide +kernel) (by decide +kernel) hw22 rfl ?_
      refine zp_seg (pc' := 15) (lv' := [(0, .ref (h + 74)), (1, .int x1)]) (st' := [.int x1, .ref (h + 75)]) [(14, .iload_n 1)] (by decide +kernel) rfl ?_
      obtain ⟨fa23, hw23, ga23⟩ := rd_75 hG
      refine zr_iald (by decide +kernel) hw23 (zin (by first | omega | decide) (by first | omega | decide)) ?_
      generalize ex24 : fa23 x1.toNatClampNeg = x24
      have hx24 := ga23 x1.toNatClampNeg
      rw [ex24] at hx24
      refine zp_seg (pc' := 20) (lv' := [(0, .ref (h + 74)), (1, .int x1)]) (st' := [.int x24]) [(16, .goto 4)] (by decide +kernel) rfl ?_
      have k25 := zrng x24
      exact (hj3 w x24 hG (by first | omega | decide)).more (zfa0)

set_option maxHeartbeats 4000000 in
set_option maxRecDepth 100000 in
theorem s_X4_height {h : Nat} {w0 w : zM} (hG : zG h w0 w) (x1 : Int32) : zCon 1 zq_X4_height [.ref (h + 74), .int x1] w (fun v w' => zG h w0 w' ∧ ∃ r : Int32, v = some (.int r) ∧ r.toInt < 2147483647) := by
  intro d sz hd
  obtain ⟨d, rfl⟩ : ∃ d9, d = d9 + 1 := ⟨d - 1, by omega⟩
  generalize hPost : (fun (r : Option (Option Value)) (w' : zM) (z : Nat) => z = sz ∧ ∃ v, r = some v ∧ (zG h w0 w' ∧ ∃ r : Int32, v = some (.int r) ∧ r.toInt < 2147483647)) = Post
  show zP (d + 1) zq_X4_height 0 [(0, .ref (h + 74)), (1, .int x1)] [] w sz 0 0 Post
  have k1 := zrng x1
  refine zp_seg (pc' := 1) (lv' := [(0, .ref (h + 74)), (1, .int x1)]) (st' := [.int x1]) [(0, .iload_n 1)] (by decide +kernel) rfl ?_
  have hj3 : ∀ (w4 : zM) (y2 : Int32), zG h w0 w4 → y2.toInt < 2147483647 → zP (d + 1) zq_X4_height 22 [] [.int y2] w4 sz 0 0 Post := by
    intro w4 y2 hG5 hi6
    have k7 := zrng y2
    refine zr_retI (by decide +kernel) rfl ?_
    rw [← hPost]; exact ⟨rfl, _, rfl, hG5, _, rfl, by first | omega | decide⟩
  have hj8 : ∀ (w9 : zM), zG h w0 w9 → zP (d + 1) zq_X4_height 21 [] [] w9 sz 0 0 Post := by
    intro w9  hG10 
    refine zp_seg (pc' := 22) (lv' := []) (st' := [.int 0]) [(21, .iconst 0)] (by decide +kernel) rfl ?_
    exact (hj3 w9 0 hG10 (by first | omega | decide)).more (zfa0)
  refine zp_if (i := .ifCond .lt 20) (c := x1 < 0) (t := 21) (e := 4) (lv' := [(0, .ref (h + 74)), (1, .int x1)]) (st' := []) (by decide +kernel) rfl (fun c12 => ?_) (fun c12 => ?_)
  ·
    have f14 := zltI c12
    rw [show (0 : Int32).toInt = 0 from by decide] at f14
    exact (hj8 w  hG ).more (zfa0)
  ·
    have f16 := znltI c12
    rw [show (0 : Int32).toInt = 0 from by decide] at f16
    refine zp_seg (pc' := 5) (lv' := [(0, .ref (h + 74)), (1, .int x1)]) (st' := [.int x1]) [(4, .iload_n 1)] (by decide +kernel) rfl ?_
    refine zr_ldc (idx := 24) (v := 131070) (by decide +kernel) (by decide +kernel) ?_
    refine zp_if (i := .if_icmp .ge 14) (c := 131070 ≤ x1) (t := 21) (e := 10) (lv' := [(0, .ref (h + 74)), (1, .int x1)]) (st' := []) (by decide +kernel) rfl (fun c17 => ?_) (fun c17 => ?_)
    ·
      have f19 := zleI c17
      rw [show (131070 : Int32).toInt = 131070 from by decide] at f19
      exact (hj8 w  hG ).more (zfa0)
    ·
      have f21 := znleI c17
      rw [show (131070 : Int32).toInt = 131070 from by decide] at f21
      refine zp_seg (pc' := 11) (lv' := [(0, .ref (h + 74)), (1, .int x1)]) (st' := [.ref (h + 74)]) [(10, .aload_n 0)] (by decide +kernel) rfl ?_
      obtain ⟨t22, l22, hw22, g22_0, g22_1, g22_2⟩ := rd_74 hG
      refine zr_get (idx := 12) (k := 0) (by decide +kernel) (by decide +kernel) hw22 rfl ?_
      refine zp_seg (pc' := 17) (lv' := [(0, .ref (h + 74)), (1, .int x1)]) (st' := [.int (x1 + 1), .ref (h + 75)]) [(14, .iload_n 1), (15, .iconst 1), (16, .iadd)] (by decide +kernel) rfl ?_
      have k24 := zaddM x1 1
      rw [show (1 : Int32).toInt = 1 from by decide] at k24
      generalize ev23 : (x1 + 1 : Int32) = v23 at k24 ⊢
      have kv23 := zrng v23
      obtain ⟨fa25, hw25, ga25⟩ := rd_75 hG
      refine zr_iald (by decide +kernel) hw25 (zin (by first | omega | decide) (by first | omega | decide)) ?_
      generalize ex26 : fa25 v23.toNatClampNeg = x26
      have hx26 := ga25 v23.toNatClampNeg
      rw [ex26] at hx26
      refine zp_seg (pc' := 22) (lv' := [(0, .ref (h + 74)), (1, .int x1)]) (st' := [.int x26]) [(18, .goto 4)] (by decide +kernel) rfl ?_
      have k27 := zrng x26
      exact (hj3 w x26 hG (by first | omega | decide)).more (zfa0)

set_option maxHeartbeats 4000000 in
set_option maxRecDepth 100000 in
theorem s_X4_empty {h : Nat} {w0 w : zM} (hG : zG h w0 w) : zCon 1 zq_X4_empty [.ref (h + 74)] w (fun v w' => zG h w0 w' ∧ v = none) := by
  intro d sz hd
  obtain ⟨d, rfl⟩ : ∃ d9, d = d9 + 1 := ⟨d - 1, by omega⟩
  generalize hPost : (fun (r : Option (Option Value)) (w' : zM) (z : Nat) => z = sz ∧ ∃ v, r = some v ∧ (zG h w0 w' ∧ v = none)) = Post
  show zP (d + 1) zq_X4_empty 0 [(0, .ref (h + 74))] [] w sz 0 0 Post
  refine zp_seg (pc' := 4) (lv' := [(0, .ref (h + 74))]) (st' := [.int 2048, .ref (h + 74)]) [(0, .aload_n 0), (1, .sipush 2048)] (by decide +kernel) rfl ?_
  obtain ⟨t1, l1, hw1, g1_0, g1_1, g1_2⟩ := rd_74 hG
  refine zr_put (idx := 16) (k := 1) (by decide +kernel) (by decide +kernel) hw1 (Nat.le_of_ble_eq_true rfl) rfl rfl ?_
  have gp3 : 2048 ≤ (2048 : Int32).toInt := (by first | omega | decide)
  have gp4 : (2048 : Int32).toInt ≤ 131072 := (by first | omega | decide)
  show zP (d + 1) zq_X4_empty 7 [(0, .ref (h + 74))] [] (zup w (h + 74) (.inl (3, [.ref (h + 75), .int (2048 : Int32), .int l1]))) sz 0 0 Post
  obtain ⟨w5, ew5⟩ : ∃ w2, w2 = zup w (h + 74) (.inl (3, [.ref (h + 75), .int (2048 : Int32), .int l1])) := ⟨_, rfl⟩
  have hG5 : zG h w0 w5 := by rw [ew5]; exact wr_74 hG gp3 gp4 g1_2
  have hw5 : w5 (h + 74) = some (.inl (3, [.ref (h + 75), .int (2048 : Int32), .int l1])) := by rw [ew5]; exact zup_s
  rw [← ew5]
  clear ew5
  refine zp_seg (pc' := 9) (lv' := [(0, .ref (h + 74))]) (st' := [.int 0, .ref (h + 74)]) [(7, .aload_n 0), (8, .iconst 0)] (by decide +kernel) rfl ?_
  refine zr_put (idx := 20) (k := 2) (by decide +kernel) (by decide +kernel) hw5 (Nat.le_of_ble_eq_true rfl) rfl rfl ?_
  have gp6 : ((0 : Int32) = 0 ∨ (0 : Int32) = 1) := (by decide)
  show zP (d + 1) zq_X4_empty 12 [(0, .ref (h + 74))] [] (zup w5 (h + 74) (.inl (3, [.ref (h + 75), .int (2048 : Int32), .int (0 : Int32)]))) sz 0 0 Post
  obtain ⟨w7, ew7⟩ : ∃ w2, w2 = zup w5 (h + 74) (.inl (3, [.ref (h + 75), .int (2048 : Int32), .int (0 : Int32)])) := ⟨_, rfl⟩
  have hG7 : zG h w0 w7 := by rw [ew7]; exact wr_74 hG5 gp3 gp4 gp6
  have hw7 : w7 (h + 74) = some (.inl (3, [.ref (h + 75), .int (2048 : Int32), .int (0 : Int32)])) := by rw [ew7]; exact zup_s
  rw [← ew7]
  clear ew7
  refine zr_retV (by decide +kernel) rfl ?_
  rw [← hPost]; exact ⟨rfl, _, rfl, hG7, rfl⟩

set_option maxHeartbeats 4000000 in
set_option maxRecDepth 100000 in
theorem s_X4_isNumber {h : Nat} {w0 w : zM} (hG : zG h w0 w) (x1 : Int32) : zCon 1 zq_X4_isNumber [.ref (h + 74), .int x1] w (fun v w' => zG h w0 w' ∧ ∃ r : Int32, v = some (.int r) ∧ (r = 0 ∨ r = 1)) := by
  intro d sz hd
  obtain ⟨d, rfl⟩ : ∃ d9, d = d9 + 1 := ⟨d - 1, by omega⟩
  generalize hPost : (fun (r : Option (Option Value)) (w' : zM) (z : Nat) => z = sz ∧ ∃ v, r = some v ∧ (zG h w0 w' ∧ ∃ r : Int32, v = some (.int r) ∧ (r = 0 ∨ r = 1))) = Post
  show zP (d + 1) zq_X4_isNumber 0 [(0, .ref (h + 74)), (1, .int x1)] [] w sz 0 0 Post
  have k1 := zrng x1
  refine zp_seg (pc' := 1) (lv' := [(0, .ref (h + 74)), (1, .int x1)]) (st' := [.int x1]) [(0, .iload_n 1)] (by decide +kernel) rfl ?_
  have hj3 : ∀ (w4 : zM) (y2 : Int32), zG h w0 w4 → (y2 = 0 ∨ y2 = 1) → zP (d + 1) zq_X4_isNumber 35 [] [.int y2] w4 sz 0 0 Post := by
    intro w4 y2 hG5 hb_y2
    have k6 := zrng y2
    refine zr_retB (by decide +kernel) rfl hb_y2 ?_
    rw [← hPost]; exact ⟨rfl, _, rfl, hG5, _, rfl, hb_y2⟩
  have hj7 : ∀ (w8 : zM), zG h w0 w8 → zP (d + 1) zq_X4_isNumber 34 [] [] w8 sz 0 0 Post := by
    intro w8  hG9 
    refine zp_seg (pc' := 35) (lv' := []) (st' := [.int 0]) [(34, .iconst 0)] (by decide +kernel) rfl ?_
    exact (hj3 w8 0 hG9 (by decide)).more (zfa0)
  refine zp_if (i := .ifCond .lt 33) (c := x1 < 0) (t := 34) (e := 4) (lv' := [(0, .ref (h + 74)), (1, .int x1)]) (st' := []) (by decide +kernel) rfl (fun c11 => ?_) (fun c11 => ?_)
  ·
    have f13 := zltI c11
    rw [show (0 : Int32).toInt = 0 from by decide] at f13
    exact (hj7 w  hG ).more (zfa0)
  ·
    have f15 := znltI c11
    rw [show (0 : Int32).toInt = 0 from by decide] at f15
    refine zp_seg (pc' := 5) (lv' := [(0, .ref (h + 74)), (1, .int x1)]) (st' := [.int x1]) [(4, .iload_n 1)] (by decide +kernel) rfl ?_
    refine zr_ldc (idx := 24) (v := 131070) (by decide +kernel) (by decide +kernel) ?_
    refine zp_if (i := .if_icmp .ge 27) (c := 131070 ≤ x1) (t := 34) (e := 10) (lv' := [(0, .ref (h + 74)), (1, .int x1)]) (st' := []) (by decide +kernel) rfl (fun c16 => ?_) (fun c16 => ?_)
    ·
      have f18 := zleI c16
      rw [show (131070 : Int32).toInt = 131070 from by decide] at f18
      exact (hj7 w  hG ).more (zfa0)
    ·
      have f20 := znleI c16
      rw [show (131070 : Int32).toInt = 131070 from by decide] at f20
      refine zp_seg (pc' := 11) (lv' := [(0, .ref (h + 74)), (1, .int x1)]) (st' := [.ref (h + 74)]) [(10, .aload_n 0)] (by decide +kernel) rfl ?_
      obtain ⟨t21, l21, hw21, g21_0, g21_1, g21_2⟩ := rd_74 hG
      refine zr_get (idx := 12) (k := 0) (by decide +kernel) (by decide +kernel) hw21 rfl ?_
      refine zp_seg (pc' := 15) (lv' := [(0, .ref (h + 74)), (1, .int x1)]) (st' := [.int x1, .ref (h + 75)]) [(14, .iload_n 1)] (by decide +kernel) rfl ?_
      obtain ⟨fa22, hw22, ga22⟩ := rd_75 hG
      refine zr_iald (by decide +kernel) hw22 (zin (by first | omega | decide) (by first | omega | decide)) ?_
      generalize ex23 : fa22 x1.toNatClampNeg = x23
      have hx23 := ga22 x1.toNatClampNeg
      rw [ex23] at hx23
      refine zp_if (i := .ifCond .ne 18) (c := ¬ x23 = 0) (t := 34) (e := 19) (lv' := [(0, .ref (h + 74)), (1, .int x1)]) (st' := []) (by decide +kernel) rfl (fun c24 => ?_) (fun c24 => ?_)
      ·
        have k25 := zrng x23
        have f26 := zneI c24
        rw [show (0 : Int32).toInt = 0 from by decide] at f26
        exact (hj7 w  hG ).more (zfa0)
      ·
        replace c24 := Classical.not_not.mp c24
        have k27 := zrng x23
        have f28 := zeqI c24
        rw [show (0 : Int32).toInt = 0 from by decide] at f28
        refine zp_seg (pc' := 20) (lv' := [(0, .ref (h + 74)), (1, .int x1)]) (st' := [.ref (h + 74)]) [(19, .aload_n 0)] (by decide +kernel) rfl ?_
        refine zr_get (idx := 12) (k := 0) (by decide +kernel) (by decide +kernel) hw21 rfl ?_
        refine zp_seg (pc' := 26) (lv' := [(0, .ref (h + 74)), (1, .int x1)]) (st' := [.int (x1 + 1), .ref (h + 75)]) [(23, .iload_n 1), (24, .iconst 1), (25, .iadd)] (by decide +kernel) rfl ?_
        have k30 := zaddM x1 1
        rw [show (1 : Int32).toInt = 1 from by decide] at k30
        generalize ev29 : (x1 + 1 : Int32) = v29 at k30 ⊢
        have kv29 := zrng v29
        refine zr_iald (by decide +kernel) hw22 (zin (by first | omega | decide) (by first | omega | decide)) ?_
        generalize ex31 : fa22 v29.toNatClampNeg = x31
        have hx31 := ga22 v29.toNatClampNeg
        rw [ex31] at hx31
        refine zp_if (i := .ifCond .ne 7) (c := ¬ x31 = 0) (t := 34) (e := 30) (lv' := [(0, .ref (h + 74)), (1, .int x1)]) (st' := []) (by decide +kernel) rfl (fun c32 => ?_) (fun c32 => ?_)
        ·
          have k33 := zrng x31
          have f34 := zneI c32
          rw [show (0 : Int32).toInt = 0 from by decide] at f34
          exact (hj7 w  hG ).more (zfa0)
        ·
          replace c32 := Classical.not_not.mp c32
          have k35 := zrng x31
          have f36 := zeqI c32
          rw [show (0 : Int32).toInt = 0 from by decide] at f36
          refine zp_seg (pc' := 35) (lv' := [(0, .ref (h + 74)), (1, .int x1)]) (st' := [.int 1]) [(30, .iconst 1), (31, .goto 4)] (by decide +kernel) rfl ?_
          exact (hj3 w 1 hG (by decide)).more (zfa0)

set_option maxHeartbeats 4000000 in
set_option maxRecDepth 100000 in
theorem s_X4_isZero {h : Nat} {w0 w : zM} (hG : zG h w0 w) (x1 : Int32) : zCon 1 zq_X4_isZero [.ref (h + 74), .int x1] w (fun v w' => zG h w0 w' ∧ ∃ r : Int32, v = some (.int r) ∧ (r = 0 ∨ r = 1)) := by
  intro d sz hd
  obtain ⟨d, rfl⟩ : ∃ d9, d = d9 + 1 := ⟨d - 1, by omega⟩
  generalize hPost : (fun (r : Option (Option Value)) (w' : zM) (z : Nat) => z = sz ∧ ∃ v, r = some v ∧ (zG h w0 w' ∧ ∃ r : Int32, v = some (.int r) ∧ (r = 0 ∨ r = 1))) = Post
  show zP (d + 1) zq_X4_isZero 0 [(0, .ref (h + 74)), (1, .int x1)] [] w sz 0 0 Post
  have k1 := zrng x1
  refine zp_seg (pc' := 1) (lv' := [(0, .ref (h + 74)), (1, .int x1)]) (st' := [.int x1]) [(0, .iload_n 1)] (by decide +kernel) rfl ?_
  have hj3 : ∀ (w4 : zM) (y2 : Int32), zG h w0 w4 → (y2 = 0 ∨ y2 = 1) → zP (d + 1) zq_X4_isZero 46 [] [.int y2] w4 sz 0 0 Post := by
    intro w4 y2 hG5 hb_y2
    have k6 := zrng y2
    refine zr_retB (by decide +kernel) rfl hb_y2 ?_
    rw [← hPost]; exact ⟨rfl, _, rfl, hG5, _, rfl, hb_y2⟩
  have hj7 : ∀ (w8 : zM), zG h w0 w8 → zP (d + 1) zq_X4_isZero 45 [] [] w8 sz 0 0 Post := by
    intro w8  hG9 
    refine zp_seg (pc' := 46) (lv' := []) (st' := [.int 0]) [(45, .iconst 0)] (by decide +kernel) rfl ?_
    exact (hj3 w8 0 hG9 (by decide)).more (zfa0)
  refine zp_if (i := .ifCond .lt 44) (c := x1 < 0) (t := 45) (e := 4) (lv' := [(0, .ref (h + 74)), (1, .int x1)]) (st' := []) (by decide +kernel) rfl (fun c11 => ?_) (fun c11 => ?_)
  ·
    have f13 := zltI c11
    rw [show (0 : Int32).toInt = 0 from by decide] at f13
    exact (hj7 w  hG ).more (zfa0)
  ·
    have f15 := znltI c11
    rw [show (0 : Int32).toInt = 0 from by decide] at f15
    refine zp_seg (pc' := 5) (lv' := [(0, .ref (h + 74)), (1, .int x1)]) (st' := [.int x1]) [(4, .iload_n 1)] (by decide +kernel) rfl ?_
    refine zr_ldc (idx := 24) (v := 131070) (by decide +kernel) (by decide +kernel) ?_
    refine zp_if (i := .if_icmp .ge 38) (c := 131070 ≤ x1) (t := 45) (e := 10) (lv' := [(0, .ref (h + 74)), (1, .int x1)]) (st' := []) (by decide +kernel) rfl (fun c16 => ?_) (fun c16 => ?_)
    ·
      have f18 := zleI c16
      rw [show (131070 : Int32).toInt = 131070 from by decide] at f18
      exact (hj7 w  hG ).more (zfa0)
    ·
      have f20 := znleI c16
      rw [show (131070 : Int32).toInt = 131070 from by decide] at f20
      refine zp_seg (pc' := 11) (lv' := [(0, .ref (h + 74)), (1, .int x1)]) (st' := [.ref (h + 74)]) [(10, .aload_n 0)] (by decide +kernel) rfl ?_
      obtain ⟨t21, l21, hw21, g21_0, g21_1, g21_2⟩ := rd_74 hG
      refine zr_get (idx := 12) (k := 0) (by decide +kernel) (by decide +kernel) hw21 rfl ?_
      refine zp_seg (pc' := 15) (lv' := [(0, .ref (h + 74)), (1, .int x1)]) (st' := [.int x1, .ref (h + 75)]) [(14, .iload_n 1)] (by decide +kernel) rfl ?_
      obtain ⟨fa22, hw22, ga22⟩ := rd_75 hG
      refine zr_iald (by decide +kernel) hw22 (zin (by first | omega | decide) (by first | omega | decide)) ?_
      generalize ex23 : fa22 x1.toNatClampNeg = x23
      have hx23 := ga22 x1.toNatClampNeg
      rw [ex23] at hx23
      refine zp_if (i := .ifCond .ne 29) (c := ¬ x23 = 0) (t := 45) (e := 19) (lv' := [(0, .ref (h + 74)), (1, .int x1)]) (st' := []) (by decide +kernel) rfl (fun c24 => ?_) (fun c24 => ?_)
      ·
        have k25 := zrng x23
        have f26 := zneI c24
        rw [show (0 : Int32).toInt = 0 from by decide] at f26
        exact (hj7 w  hG ).more (zfa0)
      ·
        replace c24 := Classical.not_not.mp c24
        have k27 := zrng x23
        have f28 := zeqI c24
        rw [show (0 : Int32).toInt = 0 from by decide] at f28
        refine zp_seg (pc' := 20) (lv' := [(0, .ref (h + 74)), (1, .int x1)]) (st' := [.ref (h + 74)]) [(19, .aload_n 0)] (by decide +kernel) rfl ?_
        refine zr_get (idx := 12) (k := 0) (by decide +kernel) (by decide +kernel) hw21 rfl ?_
        refine zp_seg (pc' := 26) (lv' := [(0, .ref (h + 74)), (1, .int x1)]) (st' := [.int (x1 + 1), .ref (h + 75)]) [(23, .iload_n 1), (24, .iconst 1), (25, .iadd)] (by decide +kernel) rfl ?_
        have k30 := zaddM x1 1
        rw [show (1 : Int32).toInt = 1 from by decide] at k30
        generalize ev29 : (x1 + 1 : Int32) = v29 at k30 ⊢
        have kv29 := zrng v29
        refine zr_iald (by decide +kernel) hw22 (zin (by first | omega | decide) (by first | omega | decide)) ?_
        generalize ex31 : fa22 v29.toNatClampNeg = x31
        have hx31 := ga22 v29.toNatClampNeg
        rw [ex31] at hx31
        refine zp_if (i := .ifCond .ne 18) (c := ¬ x31 = 0) (t := 45) (e := 30) (lv' := [(0, .ref (h + 74)), (1, .int x1)]) (st' := []) (by decide +kernel) rfl (fun c32 => ?_) (fun c32 => ?_)
        ·
          have k33 := zrng x31
          have f34 := zneI c32
          rw [show (0 : Int32).toInt = 0 from by decide] at f34
          exact (hj7 w  hG ).more (zfa0)
        ·
          replace c32 := Classical.not_not.mp c32
          have k35 := zrng x31
          have f36 := zeqI c32
          rw [show (0 : Int32).toInt = 0 from by decide] at f36
          refine zp_seg (pc' := 31) (lv' := [(0, .ref (h + 74)), (1, .int x1)]) (st' := [.ref (h + 74)]) [(30, .aload_n 0)] (by decide +kernel) rfl ?_
          refine zr_get (idx := 12) (k := 0) (by decide +kernel) (by decide +kernel) hw21 rfl ?_
          refine zp_seg (pc' := 37) (lv' := [(0, .ref (h + 74)), (1, .int x1)]) (st' := [.int (x1 + 2), .ref (h + 75)]) [(34, .iload_n 1), (35, .iconst 2), (36, .iadd)] (by decide +kernel) rfl ?_
          have k38 := zaddM x1 2
          rw [show (2 : Int32).toInt = 2 from by decide] at k38
          generalize ev37 : (x1 + 2 : Int32) = v37 at k38 ⊢
          have kv37 := zrng v37
          refine zr_iald (by decide +kernel) hw22 (zin (by first | omega | decide) (by first | omega | decide)) ?_
          generalize ex39 : fa22 v37.toNatClampNeg = x39
          have hx39 := ga22 v37.toNatClampNeg
          rw [ex39] at hx39
          refine zp_if (i := .ifCond .ne 7) (c := ¬ x39 = 0) (t := 45) (e := 41) (lv' := [(0, .ref (h + 74)), (1, .int x1)]) (st' := []) (by decide +kernel) rfl (fun c40 => ?_) (fun c40 => ?_)
          ·
            have k41 := zrng x39
            have f42 := zneI c40
            rw [show (0 : Int32).toInt = 0 from by decide] at f42
            exact (hj7 w  hG ).more (zfa0)
          ·
            replace c40 := Classical.not_not.mp c40
            have k43 := zrng x39
            have f44 := zeqI c40
            rw [show (0 : Int32).toInt = 0 from by decide] at f44
            refine zp_seg (pc' := 46) (lv' := [(0, .ref (h + 74)), (1, .int x1)]) (st' := [.int 1]) [(41, .iconst 1), (42, .goto 4)] (by decide +kernel) rfl ?_
            exact (hj3 w 1 hG (by decide)).more (zfa0)

set_option maxHeartbeats 4000000 in
set_option maxRecDepth 100000 in
theorem s_X4_span {h : Nat} {w0 w : zM} (hG : zG h w0 w) (x1 : Int32) : zCon 1 zq_X4_span [.ref (h + 74), .int x1] w (fun v w' => zG h w0 w' ∧ ∃ r : Int32, v = some (.int r) ∧ True) := by
  intro d sz hd
  obtain ⟨d, rfl⟩ : ∃ d9, d = d9 + 1 := ⟨d - 1, by omega⟩
  generalize hPost : (fun (r : Option (Option Value)) (w' : zM) (z : Nat) => z = sz ∧ ∃ v, r = some v ∧ (zG h w0 w' ∧ ∃ r : Int32, v = some (.int r) ∧ True)) = Post
  show zP (d + 1) zq_X4_span 0 [(0, .ref (h + 74)), (1, .int x1)] [] w sz 0 0 Post
  have k1 := zrng x1
  refine zp_seg (pc' := 1) (lv' := [(0, .ref (h + 74)), (1, .int x1)]) (st' := [.int x1]) [(0, .iload_n 1)] (by decide +kernel) rfl ?_
  have hj3 : ∀ (w4 : zM) (y2 : Int32), zG h w0 w4 → zP (d + 1) zq_X4_span 35 [] [.int y2] w4 sz 0 0 Post := by
    intro w4 y2 hG5 
    have k6 := zrng y2
    refine zr_retI (by decide +kernel) rfl ?_
    rw [← hPost]; exact ⟨rfl, _, rfl, hG5, _, rfl, trivial⟩
  have hj7 : ∀ (w8 : zM), zG h w0 w8 → zP (d + 1) zq_X4_span 34 [] [] w8 sz 0 0 Post := by
    intro w8  hG9 
    refine zp_seg (pc' := 35) (lv' := []) (st' := [.int 0]) [(34, .iconst 0)] (by decide +kernel) rfl ?_
    exact (hj3 w8 0 hG9 ).more (zfa0)
  refine zp_if (i := .ifCond .lt 33) (c := x1 < 0) (t := 34) (e := 4) (lv' := [(0, .ref (h + 74)), (1, .int x1)]) (st' := []) (by decide +kernel) rfl (fun c10 => ?_) (fun c10 => ?_)
  ·
    have f12 := zltI c10
    rw [show (0 : Int32).toInt = 0 from by decide] at f12
    exact (hj7 w  hG ).more (zfa0)
  ·
    have f14 := znltI c10
    rw [show (0 : Int32).toInt = 0 from by decide] at f14
    refine zp_seg (pc' := 5) (lv' := [(0, .ref (h + 74)), (1, .int x1)]) (st' := [.int x1]) [(4, .iload_n 1)] (by decide +kernel) rfl ?_
    refine zr_ldc (idx := 24) (v := 131070) (by decide +kernel) (by decide +kernel) ?_
    refine zp_if (i := .if_icmp .ge 27) (c := 131070 ≤ x1) (t := 34) (e := 10) (lv' := [(0, .ref (h + 74)), (1, .int x1)]) (st' := []) (by decide +kernel) rfl (fun c15 => ?_) (fun c15 => ?_)
    ·
      have f17 := zleI c15
      rw [show (131070 : Int32).toInt = 131070 from by decide] at f17
      exact (hj7 w  hG ).more (zfa0)
    ·
      have f19 := znleI c15
      rw [show (131070 : Int32).toInt = 131070 from by decide] at f19
      refine zp_seg (pc' := 12) (lv' := [(0, .ref (h + 74)), (1, .int x1)]) (st' := [.ref (h + 74), .int 2]) [(10, .iconst 2), (11, .aload_n 0)] (by decide +kernel) rfl ?_
      obtain ⟨t20, l20, hw20, g20_0, g20_1, g20_2⟩ := rd_74 hG
      refine zr_get (idx := 12) (k := 0) (by decide +kernel) (by decide +kernel) hw20 rfl ?_
      refine zp_seg (pc' := 16) (lv' := [(0, .ref (h + 74)), (1, .int x1)]) (st' := [.int x1, .ref (h + 75), .int 2]) [(15, .iload_n 1)] (by decide +kernel) rfl ?_
      obtain ⟨fa21, hw21, ga21⟩ := rd_75 hG
      refine zr_iald (by decide +kernel) hw21 (zin (by first | omega | decide) (by first | omega | decide)) ?_
      generalize ex22 : fa21 x1.toNatClampNeg = x22
      have hx22 := ga21 x1.toNatClampNeg
      rw [ex22] at hx22
      refine zp_seg (pc' := 19) (lv' := [(0, .ref (h + 74)), (1, .int x1)]) (st' := [.int (x22 + 1), .int 2]) [(17, .iconst 1), (18, .iadd)] (by decide +kernel) rfl ?_
      have k24 := zaddM x22 1
      rw [show (1 : Int32).toInt = 1 from by decide] at k24
      generalize ev23 : (x22 + 1 : Int32) = v23 at k24 ⊢
      have kv23 := zrng v23
      refine zp_seg (pc' := 20) (lv' := [(0, .ref (h + 74)), (1, .int x1)]) (st' := [.ref (h + 74), .int v23, .int 2]) [(19, .aload_n 0)] (by decide +kernel) rfl ?_
      refine zr_get (idx := 12) (k := 0) (by decide +kernel) (by decide +kernel) hw20 rfl ?_
      refine zp_seg (pc' := 26) (lv' := [(0, .ref (h + 74)), (1, .int x1)]) (st' := [.int (x1 + 1), .ref (h + 75), .int v23, .int 2]) [(23, .iload_n 1), (24, .iconst 1), (25, .iadd)] (by decide +kernel) rfl ?_
      have k26 := zaddM x1 1
      rw [show (1 : Int32).toInt = 1 from by decide] at k26
      generalize ev25 : (x1 + 1 : Int32) = v25 at k26 ⊢
      have kv25 := zrng v25
      refine zr_iald (by decide +kernel) hw21 (zin (by first | omega | decide) (by first | omega | decide)) ?_
      generalize ex27 : fa21 v25.toNatClampNeg = x27
      have hx27 := ga21 v25.toNatClampNeg
      rw [ex27] at hx27
      refine zp_seg (pc' := 29) (lv' := [(0, .ref (h + 74)), (1, .int x1)]) (st' := [.int (x27 + 1), .int v23, .int 2]) [(27, .iconst 1), (28, .iadd)] (by decide +kernel) rfl ?_
      have k29 := zaddM x27 1
      rw [show (1 : Int32).toInt = 1 from by decide] at k29
      generalize ev28 : (x27 + 1 : Int32) = v28 at k29 ⊢
      have kv28 := zrng v28
      refine zp_seg (pc' := 30) (lv' := [(0, .ref (h + 74)), (1, .int x1)]) (st' := [.int (v23 * v28), .int 2]) [(29, .imul)] (by decide +kernel) rfl ?_
      have k31 := zmulM v23 v28
      generalize ev30 : (v23 * v28 : Int32) = v30 at k31 ⊢
      have kv30 := zrng v30
      refine zp_seg (pc' := 31) (lv' := [(0, .ref (h + 74)), (1, .int x1)]) (st' := [.int (2 + v30)]) [(30, .iadd)] (by decide +kernel) rfl ?_
      have k33 := zaddM 2 v30
      rw [show (2 : Int32).toInt = 2 from by decide] at k33
      generalize ev32 : (2 + v30 : Int32) = v32 at k33 ⊢
      have kv32 := zrng v32
      refine zp_seg (pc' := 35) (lv' := [(0, .ref (h + 74)), (1, .int x1)]) (st' := [.int v32]) [(31, .goto 4)] (by decide +kernel) rfl ?_
      exact (hj3 w v32 hG ).more (zfa0)

set_option maxHeartbeats 4000000 in
set_option maxRecDepth 100000 in
theorem s_X4_rowOf {h : Nat} {w0 w : zM} (hG : zG h w0 w) (x1 : Int32) (x2 : Int32) : zCon 1 zq_X4_rowOf [.ref (h + 74), .int x1, .int x2] w (fun v w' => zG h w0 w' ∧ ∃ r : Int32, v = some (.int r) ∧ True) := by
  intro d sz hd
  obtain ⟨d, rfl⟩ : ∃ d9, d = d9 + 1 := ⟨d - 1, by omega⟩
  generalize hPost : (fun (r : Option (Option Value)) (w' : zM) (z : Nat) => z = sz ∧ ∃ v, r = some v ∧ (zG h w0 w' ∧ ∃ r : Int32, v = some (.int r) ∧ True)) = Post
  show zP (d + 1) zq_X4_rowOf 0 [(0, .ref (h + 74)), (1, .int x1), (2, .int x2)] [] w sz 0 0 Post
  have k1 := zrng x1
  have k2 := zrng x2
  refine zp_seg (pc' := 1) (lv' := [(0, .ref (h + 74)), (1, .int x1), (2, .int x2)]) (st' := [.int x1]) [(0, .iload_n 1)] (by decide +kernel) rfl ?_
  have hj4 : ∀ (w5 : zM) (y3 : Int32), zG h w0 w5 → zP (d + 1) zq_X4_rowOf 28 [] [.int y3] w5 sz 0 0 Post := by
    intro w5 y3 hG6 
    have k7 := zrng y3
    refine zr_retI (by decide +kernel) rfl ?_
    rw [← hPost]; exact ⟨rfl, _, rfl, hG6, _, rfl, trivial⟩
  have hj8 : ∀ (w9 : zM), zG h w0 w9 → zP (d + 1) zq_X4_rowOf 27 [] [] w9 sz 0 0 Post := by
    intro w9  hG10 
    refine zp_seg (pc' := 28) (lv' := []) (st' := [.int 0]) [(27, .iconst 0)] (by decide +kernel) rfl ?_
    exact (hj4 w9 0 hG10 ).more (zfa0)
  refine zp_if (i := .ifCond .lt 26) (c := x1 < 0) (t := 27) (e := 4) (lv' := [(0, .ref (h + 74)), (1, .int x1), (2, .int x2)]) (st' := []) (by decide +kernel) rfl (fun c11 => ?_) (fun c11 => ?_)
  ·
    have f13 := zltI c11
    rw [show (0 : Int32).toInt = 0 from by decide] at f13
    exact (hj8 w  hG ).more (zfa0)
  ·
    have f15 := znltI c11
    rw [show (0 : Int32).toInt = 0 from by decide] at f15
    refine zp_seg (pc' := 5) (lv' := [(0, .ref (h + 74)), (1, .int x1), (2, .int x2)]) (st' := [.int x1]) [(4, .iload_n 1)] (by decide +kernel) rfl ?_
    refine zr_ldc (idx := 24) (v := 131070) (by decide +kernel) (by decide +kernel) ?_
    refine zp_if (i := .if_icmp .ge 20) (c := 131070 ≤ x1) (t := 27) (e := 10) (lv' := [(0, .ref (h + 74)), (1, .int x1), (2, .int x2)]) (st' := []) (by decide +kernel) rfl (fun c16 => ?_) (fun c16 => ?_)
    ·
      have f18 := zleI c16
      rw [show (131070 : Int32).toInt = 131070 from by decide] at f18
      exact (hj8 w  hG ).more (zfa0)
    ·
      have f20 := znleI c16
      rw [show (131070 : Int32).toInt = 131070 from by decide] at f20
      refine zp_seg (pc' := 13) (lv' := [(0, .ref (h + 74)), (1, .int x1), (2, .int x2)]) (st' := [.int (x1 + 2)]) [(10, .iload_n 1), (11, .iconst 2), (12, .iadd)] (by decide +kernel) rfl ?_
      have k22 := zaddM x1 2
      rw [show (2 : Int32).toInt = 2 from by decide] at k22
      generalize ev21 : (x1 + 2 : Int32) = v21 at k22 ⊢
      have kv21 := zrng v21
      refine zp_seg (pc' := 15) (lv' := [(0, .ref (h + 74)), (1, .int x1), (2, .int x2)]) (st' := [.ref (h + 74), .int x2, .int v21]) [(13, .iload_n 2), (14, .aload_n 0)] (by decide +kernel) rfl ?_
      obtain ⟨t23, l23, hw23, g23_0, g23_1, g23_2⟩ := rd_74 hG
      refine zr_get (idx := 12) (k := 0) (by decide +kernel) (by decide +kernel) hw23 rfl ?_
      refine zp_seg (pc' := 19) (lv' := [(0, .ref (h + 74)), (1, .int x1), (2, .int x2)]) (st' := [.int x1, .ref (h + 75), .int x2, .int v21]) [(18, .iload_n 1)] (by decide +kernel) rfl ?_
      obtain ⟨fa24, hw24, ga24⟩ := rd_75 hG
      refine zr_iald (by decide +kernel) hw24 (zin (by first | omega | decide) (by first | omega | decide)) ?_
      generalize ex25 : fa24 x1.toNatClampNeg = x25
      have hx25 := ga24 x1.toNatClampNeg
      rw [ex25] at hx25
      refine zp_seg (pc' := 22) (lv' := [(0, .ref (h + 74)), (1, .int x1), (2, .int x2)]) (st' := [.int (x25 + 1), .int x2, .int v21]) [(20, .iconst 1), (21, .iadd)] (by decide +kernel) rfl ?_
      have k27 := zaddM x25 1
      rw [show (1 : Int32).toInt = 1 from by decide] at k27
      generalize ev26 : (x25 + 1 : Int32) = v26 at k27 ⊢
      have kv26 := zrng v26
      refine zp_seg (pc' := 23) (lv' := [(0, .ref (h + 74)), (1, .int x1), (2, .int x2)]) (st' := [.int (x2 * v26), .int v21]) [(22, .imul)] (by decide +kernel) rfl ?_
      have k29 := zmulM x2 v26
      generalize ev28 : (x2 * v26 : Int32) = v28 at k29 ⊢
      have kv28 := zrng v28
      refine zp_seg (pc' := 24) (lv' := [(0, .ref (h + 74)), (1, .int x1), (2, .int x2)]) (st' := [.int (v21 + v28)]) [(23, .iadd)] (by decide +kernel) rfl ?_
      have k31 := zaddM v21 v28
      generalize ev30 : (v21 + v28 : Int32) = v30 at k31 ⊢
      have kv30 := zrng v30
      refine zp_seg (pc' := 28) (lv' := [(0, .ref (h + 74)), (1, .int x1), (2, .int x2)]) (st' := [.int v30]) [(24, .goto 4)] (by decide +kernel) rfl ?_
      exact (hj4 w v30 hG ).more (zfa0)

set_option maxHeartbeats 4000000 in
set_option maxRecDepth 100000 in
theorem s_X4_release {h : Nat} {w0 w : zM} (hG : zG h w0 w) (x1 : Int32) : zCon 1 zq_X4_release [.ref (h + 74), .int x1] w (fun v w' => zG h w0 w' ∧ v = none) := by
  intro d sz hd
  obtain ⟨d, rfl⟩ : ∃ d9, d = d9 + 1 := ⟨d - 1, by omega⟩
  generalize hPost : (fun (r : Option (Option Value)) (w' : zM) (z : Nat) => z = sz ∧ ∃ v, r = some v ∧ (zG h w0 w' ∧ v = none)) = Post
  show zP (d + 1) zq_X4_release 0 [(0, .ref (h + 74)), (1, .int x1)] [] w sz 0 0 Post
  have k1 := zrng x1
  refine zp_seg (pc' := 4) (lv' := [(0, .ref (h + 74)), (1, .int x1)]) (st' := [.int 2048, .int x1]) [(0, .iload_n 1), (1, .sipush 2048)] (by decide +kernel) rfl ?_
  have hj2 : ∀ (w3 : zM), zG h w0 w3 → zP (d + 1) zq_X4_release 20 [] [] w3 sz 0 0 Post := by
    intro w3  hG4 
    refine zr_retV (by decide +kernel) rfl ?_
    rw [← hPost]; exact ⟨rfl, _, rfl, hG4, rfl⟩
  refine zp_if (i := .if_icmp .lt 16) (c := x1 < 2048) (t := 20) (e := 7) (lv' := [(0, .ref (h + 74)), (1, .int x1)]) (st' := []) (by decide +kernel) rfl (fun c5 => ?_) (fun c5 => ?_)
  ·
    have f7 := zltI c5
    rw [show (2048 : Int32).toInt = 2048 from by decide] at f7
    exact (hj2 w  hG ).more (zfa0)
  ·
    have f9 := znltI c5
    rw [show (2048 : Int32).toInt = 2048 from by decide] at f9
    refine zp_seg (pc' := 9) (lv' := [(0, .ref (h + 74)), (1, .int x1)]) (st' := [.ref (h + 74), .int x1]) [(7, .iload_n 1), (8, .aload_n 0)] (by decide +kernel) rfl ?_
    obtain ⟨t10, l10, hw10, g10_0, g10_1, g10_2⟩ := rd_74 hG
    refine zr_get (idx := 16) (k := 1) (by decide +kernel) (by decide +kernel) hw10 rfl ?_
    refine zp_if (i := .if_icmp .gt 8) (c := t10 < x1) (t := 20) (e := 15) (lv' := [(0, .ref (h + 74)), (1, .int x1)]) (st' := []) (by decide +kernel) rfl (fun c11 => ?_) (fun c11 => ?_)
    ·
      have k12 := zrng t10
      have f13 := zltI c11
      exact (hj2 w  hG ).more (zfa0)
    ·
      have k14 := zrng t10
      have f15 := znltI c11
      refine zp_seg (pc' := 17) (lv' := [(0, .ref (h + 74)), (1, .int x1)]) (st' := [.int x1, .ref (h + 74)]) [(15, .aload_n 0), (16, .iload_n 1)] (by decide +kernel) rfl ?_
      refine zr_put (idx := 16) (k := 1) (by decide +kernel) (by decide +kernel) hw10 (Nat.le_of_ble_eq_true rfl) rfl rfl ?_
      have gp16 : 2048 ≤ x1.toInt := (by first | omega | decide)
      have gp17 : x1.toInt ≤ 131072 := (by first | omega | decide)
      show zP (d + 1) zq_X4_release 20 [(0, .ref (h + 74)), (1, .int x1)] [] (zup w (h + 74) (.inl (3, [.ref (h + 75), .int x1, .int l10]))) sz 0 0 Post
      obtain ⟨w18, ew18⟩ : ∃ w2, w2 = zup w (h + 74) (.inl (3, [.ref (h + 75), .int x1, .int l10])) := ⟨_, rfl⟩
      have hG18 : zG h w0 w18 := by rw [ew18]; exact wr_74 hG gp16 gp17 g10_2
      have hw18 : w18 (h + 74) = some (.inl (3, [.ref (h + 75), .int x1, .int l10])) := by rw [ew18]; exact zup_s
      rw [← ew18]
      clear ew18
      exact (hj2 w18  hG18 ).more (zfa0)
