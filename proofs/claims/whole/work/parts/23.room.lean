set_option maxHeartbeats 4000000 in
set_option maxRecDepth 100000 in
theorem s_X4_take {h : Nat} {w0 w : zM} (hG : zG h w0 w) (x1 : Int32) : zCon 1 zq_X4_take [.ref (h + 74), .int x1] w (fun v w' => zG h w0 w' ∧ ∃ r : Int32, v = some (.int r) ∧ True) := by
  intro d sz hd
  obtain ⟨d, rfl⟩ : ∃ d9, d = d9 + 1 := ⟨d - 1, by omega⟩
  generalize hPost : (fun (r : Option (Option Value)) (w' : zM) (z : Nat) => z = sz ∧ ∃ v, r = some v ∧ (zG h w0 w' ∧ ∃ r : Int32, v = some (.int r) ∧ True)) = Post
  show zP (d + 1) zq_X4_take 0 [(0, .ref (h + 74)), (1, .int x1)] [] w sz 0 0 Post
  have k1 := zrng x1
  refine zp_seg (pc' := 1) (lv' := [(0, .ref (h + 74)), (1, .int x1)]) (st' := [.int x1]) [(0, .iload_n 1)] (by decide +kernel) rfl ?_
  have hj2 : ∀ (w3 : zM), zG h w0 w3 → zP (d + 1) zq_X4_take 15 [(0, .ref (h + 74))] [] w3 sz 0 0 Post := by
    intro w3  hG4 
    refine zp_seg (pc' := 17) (lv' := [(0, .ref (h + 74))]) (st' := [.int 1, .ref (h + 74)]) [(15, .aload_n 0), (16, .iconst 1)] (by decide +kernel) rfl ?_
    obtain ⟨t5, l5, hw5, g5_0, g5_1, g5_2⟩ := rd_74 hG4
    refine zr_put (idx := 20) (k := 2) (by decide +kernel) (by decide +kernel) hw5 (Nat.le_of_ble_eq_true rfl) rfl rfl ?_
    have gp6 : ((1 : Int32) = 0 ∨ (1 : Int32) = 1) := (by decide)
    show zP (d + 1) zq_X4_take 20 [(0, .ref (h + 74))] [] (zup w3 (h + 74) (.inl (3, [.ref (h + 75), .int t5, .int (1 : Int32)]))) sz 0 0 Post
    obtain ⟨w7, ew7⟩ : ∃ w2, w2 = zup w3 (h + 74) (.inl (3, [.ref (h + 75), .int t5, .int (1 : Int32)])) := ⟨_, rfl⟩
    have hG7 : zG h w0 w7 := by rw [ew7]; exact wr_74 hG4 g5_0 g5_1 gp6
    have hw7 : w7 (h + 74) = some (.inl (3, [.ref (h + 75), .int t5, .int (1 : Int32)])) := by rw [ew7]; exact zup_s
    rw [← ew7]
    clear ew7
    refine zp_seg (pc' := 21) (lv' := [(0, .ref (h + 74))]) (st' := [.int 0]) [(20, .iconst 0)] (by decide +kernel) rfl ?_
    refine zr_retI (by decide +kernel) rfl ?_
    rw [← hPost]; exact ⟨rfl, _, rfl, hG7, _, rfl, trivial⟩
  refine zp_if (i := .ifCond .lt 14) (c := x1 < 0) (t := 15) (e := 4) (lv' := [(0, .ref (h + 74)), (1, .int x1)]) (st' := []) (by decide +kernel) rfl (fun c8 => ?_) (fun c8 => ?_)
  ·
    have f10 := zltI c8
    rw [show (0 : Int32).toInt = 0 from by decide] at f10
    exact (hj2 w  hG ).more (zfa1 rfl (zfa0))
  ·
    have f12 := znltI c8
    rw [show (0 : Int32).toInt = 0 from by decide] at f12
    refine zp_seg (pc' := 5) (lv' := [(0, .ref (h + 74)), (1, .int x1)]) (st' := [.int x1]) [(4, .iload_n 1)] (by decide +kernel) rfl ?_
    refine zr_ldc (idx := 11) (v := 131072) (by decide +kernel) (by decide +kernel) ?_
    refine zp_seg (pc' := 8) (lv' := [(0, .ref (h + 74)), (1, .int x1)]) (st' := [.ref (h + 74), .int 131072, .int x1]) [(7, .aload_n 0)] (by decide +kernel) rfl ?_
    obtain ⟨t13, l13, hw13, g13_0, g13_1, g13_2⟩ := rd_74 hG
    refine zr_get (idx := 16) (k := 1) (by decide +kernel) (by decide +kernel) hw13 rfl ?_
    refine zp_seg (pc' := 12) (lv' := [(0, .ref (h + 74)), (1, .int x1)]) (st' := [.int (131072 - t13), .int x1]) [(11, .isub)] (by decide +kernel) rfl ?_
    have k15 := zsubM 131072 t13
    rw [show (131072 : Int32).toInt = 131072 from by decide] at k15
    generalize ev14 : (131072 - t13 : Int32) = v14 at k15 ⊢
    have kv14 := zrng v14
    refine zp_if (i := .if_icmp .le 10) (c := x1 ≤ v14) (t := 22) (e := 15) (lv' := [(0, .ref (h + 74)), (1, .int x1)]) (st' := []) (by decide +kernel) rfl (fun c16 => ?_) (fun c16 => ?_)
    ·
      have f17 := zleI c16
      refine zp_seg (pc' := 23) (lv' := [(0, .ref (h + 74)), (1, .int x1)]) (st' := [.ref (h + 74)]) [(22, .aload_n 0)] (by decide +kernel) rfl ?_
      refine zr_get (idx := 16) (k := 1) (by decide +kernel) (by decide +kernel) hw13 rfl ?_
      refine zp_seg (pc' := 29) (lv' := [(2, .int t13), (0, .ref (h + 74)), (1, .int x1)]) (st' := [.ref (h + 74), .ref (h + 74)]) [(26, .istore_n 2), (27, .aload_n 0), (28, .dup)] (by decide +kernel) rfl ?_
      refine zr_get (idx := 16) (k := 1) (by decide +kernel) (by decide +kernel) hw13 rfl ?_
      refine zp_seg (pc' := 34) (lv' := [(2, .int t13), (0, .ref (h + 74)), (1, .int x1)]) (st' := [.int (t13 + x1), .ref (h + 74)]) [(32, .iload_n 1), (33, .iadd)] (by decide +kernel) rfl ?_
      have k19 := zaddM t13 x1
      generalize ev18 : (t13 + x1 : Int32) = v18 at k19 ⊢
      have kv18 := zrng v18
      refine zr_put (idx := 16) (k := 1) (by decide +kernel) (by decide +kernel) hw13 (Nat.le_of_ble_eq_true rfl) rfl rfl ?_
      have gp20 : 2048 ≤ v18.toInt := (by first | omega | decide)
      have gp21 : v18.toInt ≤ 131072 := (by first | omega | decide)
      show zP (d + 1) zq_X4_take 37 [(2, .int t13), (0, .ref (h + 74)), (1, .int x1)] [] (zup w (h + 74) (.inl (3, [.ref (h + 75), .int v18, .int l13]))) sz 0 0 Post
      obtain ⟨w22, ew22⟩ : ∃ w2, w2 = zup w (h + 74) (.inl (3, [.ref (h + 75), .int v18, .int l13])) := ⟨_, rfl⟩
      have hG22 : zG h w0 w22 := by rw [ew22]; exact wr_74 hG gp20 gp21 g13_2
      have hw22 : w22 (h + 74) = some (.inl (3, [.ref (h + 75), .int v18, .int l13])) := by rw [ew22]; exact zup_s
      rw [← ew22]
      clear ew22
      refine zp_seg (pc' := 39) (lv' := [(3, .int t13), (2, .int t13), (0, .ref (h + 74)), (1, .int x1)]) (st' := []) [(37, .iload_n 2), (38, .istore_n 3)] (by decide +kernel) rfl ?_
      have k24 := zrng t13
      have hl25 : ∀ (m27 : Nat) (w28 : zM) (y23 : Int32), zG h w0 w28 → t13.toInt ≤ y23.toInt → (2147483647 - y23.toInt).toNat < m27 → zP (d + 1) zq_X4_take 39 [(0, .ref (h + 74)), (2, .int t13), (3, .int y23)] [] w28 sz 0 0 Post := by
        intro m27
        induction m27 with
        | zero => intros; omega
        | succ m27 ih26 =>
        intro w28 y23 hG29 hi31 hm30
        have k32 := zrng y23
        refine zp_seg (pc' := 41) (lv' := [(0, .ref (h + 74)), (2, .int t13), (3, .int y23)]) (st' := [.ref (h + 74), .int y23]) [(39, .iload_n 3), (40, .aload_n 0)] (by decide +kernel) rfl ?_
        obtain ⟨t33, l33, hw33, g33_0, g33_1, g33_2⟩ := rd_74 hG29
        refine zr_get (idx := 16) (k := 1) (by decide +kernel) (by decide +kernel) hw33 rfl ?_
        refine zp_if (i := .if_icmp .ge 16) (c := t33 ≤ y23) (t := 60) (e := 47) (lv' := [(0, .ref (h + 74)), (2, .int t13), (3, .int y23)]) (st' := []) (by decide +kernel) rfl (fun c34 => ?_) (fun c34 => ?_)
        ·
          have k35 := zrng t33
          have f36 := zleI c34
          refine zp_seg (pc' := 61) (lv' := [(0, .ref (h + 74)), (2, .int t13), (3, .int y23)]) (st' := [.int t13]) [(60, .iload_n 2)] (by decide +kernel) rfl ?_
          refine zr_retI (by decide +kernel) rfl ?_
          rw [← hPost]; exact ⟨rfl, _, rfl, hG29, _, rfl, trivial⟩
        ·
          have k37 := zrng t33
          have f38 := znleI c34
          refine zp_seg (pc' := 48) (lv' := [(0, .ref (h + 74)), (2, .int t13), (3, .int y23)]) (st' := [.ref (h + 74)]) [(47, .aload_n 0)] (by decide +kernel) rfl ?_
          refine zr_get (idx := 12) (k := 0) (by decide +kernel) (by decide +kernel) hw33 rfl ?_
          refine zp_seg (pc' := 53) (lv' := [(0, .ref (h + 74)), (2, .int t13), (3, .int y23)]) (st' := [.int 0, .int y23, .ref (h + 75)]) [(51, .iload_n 3), (52, .iconst 0)] (by decide +kernel) rfl ?_
          obtain ⟨fa39, hw39, ga39⟩ := rd_75 hG29
          refine zr_iast (by decide +kernel) hw39 (zin (by first | omega | decide) (by first | omega | decide)) ?_
          show zP (d + 1) zq_X4_take 54 [(0, .ref (h + 74)), (2, .int t13), (3, .int y23)] [] (zup w28 (h + 75) (.inr (0, 131072, .inl (upd fa39 y23.toNatClampNeg 0)))) sz 0 0 Post
          obtain ⟨w40, ew40⟩ : ∃ w2, w2 = zup w28 (h + 75) (.inr (0, 131072, .inl (upd fa39 y23.toNatClampNeg 0))) := ⟨_, rfl⟩
          have hG40 : zG h w0 w40 := by rw [ew40]; exact wr_75 hG29 (fun i => by unfold upd; split <;> first | exact ga39 i | omega | decide)
          have hw40 : w40 (h + 75) = some (.inr (0, 131072, .inl (upd fa39 y23.toNatClampNeg 0))) := by rw [ew40]; exact zup_s
          have hb40_0 := (show w40 (h + 74) = w28 (h + 74) by rw [ew40]; exact zup_n (by omega)).trans hw33
          rw [← ew40]
          clear ew40
          refine zp_seg (pc' := 57) (lv' := [(3, .int (y23 + 1)), (0, .ref (h + 74)), (2, .int t13)]) (st' := []) [(54, .iinc 3 1)] (by decide +kernel) rfl ?_
          have k42 := zaddM y23 1
          rw [show (1 : Int32).toInt = 1 from by decide] at k42
          generalize ev41 : (y23 + 1 : Int32) = v41 at k42 ⊢
          have kv41 := zrng v41
          refine zp_seg (pc' := 39) (lv' := [(3, .int v41), (0, .ref (h + 74)), (2, .int t13)]) (st' := []) [(57, .goto (-18))] (by decide +kernel) rfl ?_
          exact (ih26 w40 v41 hG40 (by first | omega | decide) (by omega)).more (zfa1 rfl (zfa1 rfl (zfa1 rfl (zfa0))))
      exact (hl25 _ w22 t13 hG22 (by first | omega | decide) (Nat.lt_succ_self _)).more (zfa1 rfl (zfa1 rfl (zfa1 rfl (zfa0))))
    ·
      have f43 := znleI c16
      exact (hj2 w  hG ).more (zfa1 rfl (zfa0))

set_option maxHeartbeats 4000000 in
set_option maxRecDepth 100000 in
theorem s_X4_constant {h : Nat} {w0 w : zM} (hG : zG h w0 w) (x1 : Int32) (hq0 : x1.toInt < 2147483647) : zCon 1 zq_X4_constant [.ref (h + 74), .int x1] w (fun v w' => zG h w0 w' ∧ ∃ r : Int32, v = some (.int r) ∧ True) := by
  intro d sz hd
  obtain ⟨d, rfl⟩ : ∃ d9, d = d9 + 1 := ⟨d - 1, by omega⟩
  generalize hPost : (fun (r : Option (Option Value)) (w' : zM) (z : Nat) => z = sz ∧ ∃ v, r = some v ∧ (zG h w0 w' ∧ ∃ r : Int32, v = some (.int r) ∧ True)) = Post
  show zP (d + 1) zq_X4_constant 0 [(0, .ref (h + 74)), (1, .int x1)] [] w sz 0 0 Post
  have k1 := zrng x1
  refine zr_ldc (idx := 11) (v := 131072) (by decide +kernel) (by decide +kernel) ?_
  refine zp_seg (pc' := 3) (lv' := [(0, .ref (h + 74)), (1, .int x1)]) (st' := [.ref (h + 74), .int 131072]) [(2, .aload_n 0)] (by decide +kernel) rfl ?_
  obtain ⟨t2, l2, hw2, g2_0, g2_1, g2_2⟩ := rd_74 hG
  refine zr_get (idx := 16) (k := 1) (by decide +kernel) (by decide +kernel) hw2 rfl ?_
  refine zp_seg (pc' := 7) (lv' := [(0, .ref (h + 74)), (1, .int x1)]) (st' := [.int (131072 - t2)]) [(6, .isub)] (by decide +kernel) rfl ?_
  have k4 := zsubM 131072 t2
  rw [show (131072 : Int32).toInt = 131072 from by decide] at k4
  generalize ev3 : (131072 - t2 : Int32) = v3 at k4 ⊢
  have kv3 := zrng v3
  refine zp_seg (pc' := 8) (lv' := [(0, .ref (h + 74)), (1, .int x1)]) (st' := [.int 3, .int v3]) [(7, .iconst 3)] (by decide +kernel) rfl ?_
  refine zp_if (i := .if_icmp .ge 10) (c := 3 ≤ v3) (t := 18) (e := 11) (lv' := [(0, .ref (h + 74)), (1, .int x1)]) (st' := []) (by decide +kernel) rfl (fun c5 => ?_) (fun c5 => ?_)
  ·
    have f7 := zleI c5
    rw [show (3 : Int32).toInt = 3 from by decide] at f7
    refine zp_seg (pc' := 19) (lv' := [(0, .ref (h + 74)), (1, .int x1)]) (st' := [.ref (h + 74)]) [(18, .aload_n 0)] (by decide +kernel) rfl ?_
    refine zr_get (idx := 12) (k := 0) (by decide +kernel) (by decide +kernel) hw2 rfl ?_
    refine zp_seg (pc' := 23) (lv' := [(0, .ref (h + 74)), (1, .int x1)]) (st' := [.ref (h + 74), .ref (h + 75)]) [(22, .aload_n 0)] (by decide +kernel) rfl ?_
    refine zr_get (idx := 16) (k := 1) (by decide +kernel) (by decide +kernel) hw2 rfl ?_
    refine zp_seg (pc' := 27) (lv' := [(0, .ref (h + 74)), (1, .int x1)]) (st' := [.int 0, .int t2, .ref (h + 75)]) [(26, .iconst 0)] (by decide +kernel) rfl ?_
    obtain ⟨fa8, hw8, ga8⟩ := rd_75 hG
    have k9 := zrng t2
    refine zr_iast (by decide +kernel) hw8 (zin (by first | omega | decide) (by first | omega | decide)) ?_
    show zP (d + 1) zq_X4_constant 28 [(0, .ref (h + 74)), (1, .int x1)] [] (zup w (h + 75) (.inr (0, 131072, .inl (upd fa8 t2.toNatClampNeg 0)))) sz 0 0 Post
    obtain ⟨w11, ew11⟩ : ∃ w2, w2 = zup w (h + 75) (.inr (0, 131072, .inl (upd fa8 t2.toNatClampNeg 0))) := ⟨_, rfl⟩
    have hG11 : zG h w0 w11 := by rw [ew11]; exact wr_75 hG (fun i => by unfold upd; split <;> first | exact ga8 i | omega | decide)
    have hw11 : w11 (h + 75) = some (.inr (0, 131072, .inl (upd fa8 t2.toNatClampNeg 0))) := by rw [ew11]; exact zup_s
    have hb11_0 := (show w11 (h + 74) = w (h + 74) by rw [ew11]; exact zup_n (by omega)).trans hw2
    rw [← ew11]
    clear ew11
    refine zp_seg (pc' := 29) (lv' := [(0, .ref (h + 74)), (1, .int x1)]) (st' := [.ref (h + 74)]) [(28, .aload_n 0)] (by decide +kernel) rfl ?_
    refine zr_get (idx := 12) (k := 0) (by decide +kernel) (by decide +kernel) hb11_0 rfl ?_
    refine zp_seg (pc' := 33) (lv' := [(0, .ref (h + 74)), (1, .int x1)]) (st' := [.ref (h + 74), .ref (h + 75)]) [(32, .aload_n 0)] (by decide +kernel) rfl ?_
    refine zr_get (idx := 16) (k := 1) (by decide +kernel) (by decide +kernel) hb11_0 rfl ?_
    refine zp_seg (pc' := 38) (lv' := [(0, .ref (h + 74)), (1, .int x1)]) (st' := [.int (t2 + 1), .ref (h + 75)]) [(36, .iconst 1), (37, .iadd)] (by decide +kernel) rfl ?_
    have k13 := zaddM t2 1
    rw [show (1 : Int32).toInt = 1 from by decide] at k13
    generalize ev12 : (t2 + 1 : Int32) = v12 at k13 ⊢
    have kv12 := zrng v12
    refine zp_seg (pc' := 39) (lv' := [(0, .ref (h + 74)), (1, .int x1)]) (st' := [.int 0, .int v12, .ref (h + 75)]) [(38, .iconst 0)] (by decide +kernel) rfl ?_
    obtain ⟨fa14, hw14, ga14⟩ := rd_75 hG11
    refine zr_iast (by decide +kernel) hw14 (zin (by first | omega | decide) (by first | omega | decide)) ?_
    show zP (d + 1) zq_X4_constant 40 [(0, .ref (h + 74)), (1, .int x1)] [] (zup w11 (h + 75) (.inr (0, 131072, .inl (upd fa14 v12.toNatClampNeg 0)))) sz 0 0 Post
    obtain ⟨w15, ew15⟩ : ∃ w2, w2 = zup w11 (h + 75) (.inr (0, 131072, .inl (upd fa14 v12.toNatClampNeg 0))) := ⟨_, rfl⟩
    have hG15 : zG h w0 w15 := by rw [ew15]; exact wr_75 hG11 (fun i => by unfold upd; split <;> first | exact ga14 i | omega | decide)
    have hw15 : w15 (h + 75) = some (.inr (0, 131072, .inl (upd fa14 v12.toNatClampNeg 0))) := by rw [ew15]; exact zup_s
    have hb15_0 := (show w15 (h + 74) = w11 (h + 74) by rw [ew15]; exact zup_n (by omega)).trans hb11_0
    rw [← ew15]
    clear ew15
    refine zp_seg (pc' := 41) (lv' := [(0, .ref (h + 74)), (1, .int x1)]) (st' := [.ref (h + 74)]) [(40, .aload_n 0)] (by decide +kernel) rfl ?_
    refine zr_get (idx := 12) (k := 0) (by decide +kernel) (by decide +kernel) hb15_0 rfl ?_
    refine zp_seg (pc' := 45) (lv' := [(0, .ref (h + 74)), (1, .int x1)]) (st' := [.ref (h + 74), .ref (h + 75)]) [(44, .aload_n 0)] (by decide +kernel) rfl ?_
    refine zr_get (idx := 16) (k := 1) (by decide +kernel) (by decide +kernel) hb15_0 rfl ?_
    refine zp_seg (pc' := 50) (lv' := [(0, .ref (h + 74)), (1, .int x1)]) (st' := [.int (t2 + 2), .ref (h + 75)]) [(48, .iconst 2), (49, .iadd)] (by decide +kernel) rfl ?_
    have k17 := zaddM t2 2
    rw [show (2 : Int32).toInt = 2 from by decide] at k17
    generalize ev16 : (t2 + 2 : Int32) = v16 at k17 ⊢
    have kv16 := zrng v16
    refine zp_seg (pc' := 51) (lv' := [(0, .ref (h + 74)), (1, .int x1)]) (st' := [.int x1, .int v16, .ref (h + 75)]) [(50, .iload_n 1)] (by decide +kernel) rfl ?_
    obtain ⟨fa18, hw18, ga18⟩ := rd_75 hG15
    refine zr_iast (by decide +kernel) hw18 (zin (by first | omega | decide) (by first | omega | decide)) ?_
    show zP (d + 1) zq_X4_constant 52 [(0, .ref (h + 74)), (1, .int x1)] [] (zup w15 (h + 75) (.inr (0, 131072, .inl (upd fa18 v16.toNatClampNeg x1)))) sz 0 0 Post
    obtain ⟨w19, ew19⟩ : ∃ w2, w2 = zup w15 (h + 75) (.inr (0, 131072, .inl (upd fa18 v16.toNatClampNeg x1))) := ⟨_, rfl⟩
    have hG19 : zG h w0 w19 := by rw [ew19]; exact wr_75 hG15 (fun i => by unfold upd; split <;> first | exact ga18 i | omega | decide)
    have hw19 : w19 (h + 75) = some (.inr (0, 131072, .inl (upd fa18 v16.toNatClampNeg x1))) := by rw [ew19]; exact zup_s
    have hb19_0 := (show w19 (h + 74) = w15 (h + 74) by rw [ew19]; exact zup_n (by omega)).trans hb15_0
    rw [← ew19]
    clear ew19
    refine zp_seg (pc' := 54) (lv' := [(0, .ref (h + 74)), (1, .int x1)]) (st' := [.ref (h + 74), .ref (h + 74)]) [(52, .aload_n 0), (53, .dup)] (by decide +kernel) rfl ?_
    refine zr_get (idx := 16) (k := 1) (by decide +kernel) (by decide +kernel) hb19_0 rfl ?_
    refine zp_seg (pc' := 59) (lv' := [(0, .ref (h + 74)), (1, .int x1)]) (st' := [.int (t2 + 3), .ref (h + 74)]) [(57, .iconst 3), (58, .iadd)] (by decide +kernel) rfl ?_
    have k21 := zaddM t2 3
    rw [show (3 : Int32).toInt = 3 from by decide] at k21
    generalize ev20 : (t2 + 3 : Int32) = v20 at k21 ⊢
    have kv20 := zrng v20
    refine zr_put (idx := 16) (k := 1) (by decide +kernel) (by decide +kernel) hb19_0 (Nat.le_of_ble_eq_true rfl) rfl rfl ?_
    have gp22 : 2048 ≤ v20.toInt := (by first | omega | decide)
    have gp23 : v20.toInt ≤ 131072 := (by first | omega | decide)
    show zP (d + 1) zq_X4_constant 62 [(0, .ref (h + 74)), (1, .int x1)] [] (zup w19 (h + 74) (.inl (3, [.ref (h + 75), .int v20, .int l2]))) sz 0 0 Post
    obtain ⟨w24, ew24⟩ : ∃ w2, w2 = zup w19 (h + 74) (.inl (3, [.ref (h + 75), .int v20, .int l2])) := ⟨_, rfl⟩
    have hG24 : zG h w0 w24 := by rw [ew24]; exact wr_74 hG19 gp22 gp23 g2_2
    have hw24 : w24 (h + 74) = some (.inl (3, [.ref (h + 75), .int v20, .int l2])) := by rw [ew24]; exact zup_s
    rw [← ew24]
    clear ew24
    refine zp_seg (pc' := 63) (lv' := [(0, .ref (h + 74)), (1, .int x1)]) (st' := [.ref (h + 74)]) [(62, .aload_n 0)] (by decide +kernel) rfl ?_
    refine zr_get (idx := 16) (k := 1) (by decide +kernel) (by decide +kernel) hw24 rfl ?_
    refine zp_seg (pc' := 68) (lv' := [(0, .ref (h + 74)), (1, .int x1)]) (st' := [.int (v20 - 3)]) [(66, .iconst 3), (67, .isub)] (by decide +kernel) rfl ?_
    have k26 := zsubM v20 3
    rw [show (3 : Int32).toInt = 3 from by decide] at k26
    generalize ev25 : (v20 - 3 : Int32) = v25 at k26 ⊢
    have kv25 := zrng v25
    refine zr_retI (by decide +kernel) rfl ?_
    rw [← hPost]; exact ⟨rfl, _, rfl, hG24, _, rfl, trivial⟩
  ·
    have f28 := znleI c5
    rw [show (3 : Int32).toInt = 3 from by decide] at f28
    refine zp_seg (pc' := 13) (lv' := [(0, .ref (h + 74)), (1, .int x1)]) (st' := [.int 1, .ref (h + 74)]) [(11, .aload_n 0), (12, .iconst 1)] (by decide +kernel) rfl ?_
    refine zr_put (idx := 20) (k := 2) (by decide +kernel) (by decide +kernel) hw2 (Nat.le_of_ble_eq_true rfl) rfl rfl ?_
    have gp29 : ((1 : Int32) = 0 ∨ (1 : Int32) = 1) := (by decide)
    show zP (d + 1) zq_X4_constant 16 [(0, .ref (h + 74)), (1, .int x1)] [] (zup w (h + 74) (.inl (3, [.ref (h + 75), .int t2, .int (1 : Int32)]))) sz 0 0 Post
    obtain ⟨w30, ew30⟩ : ∃ w2, w2 = zup w (h + 74) (.inl (3, [.ref (h + 75), .int t2, .int (1 : Int32)])) := ⟨_, rfl⟩
    have hG30 : zG h w0 w30 := by rw [ew30]; exact wr_74 hG g2_0 g2_1 gp29
    have hw30 : w30 (h + 74) = some (.inl (3, [.ref (h + 75), .int t2, .int (1 : Int32)])) := by rw [ew30]; exact zup_s
    rw [← ew30]
    clear ew30
    refine zp_seg (pc' := 17) (lv' := [(0, .ref (h + 74)), (1, .int x1)]) (st' := [.int 0]) [(16, .iconst 0)] (by decide +kernel) rfl ?_
    refine zr_retI (by decide +kernel) rfl ?_
    rw [← hPost]; exact ⟨rfl, _, rfl, hG30, _, rfl, trivial⟩

set_option maxHeartbeats 4000000 in
set_option maxRecDepth 100000 in
theorem s_X4_lastOf {h : Nat} {w0 w : zM} (hG : zG h w0 w) (x1 : Int32) (x2 : Int32) : zCon 1 zq_X4_lastOf [.ref (h + 74), .int x1, .int x2] w (fun v w' => zG h w0 w' ∧ ∃ r : Int32, v = some (.int r) ∧ True) := by
  intro d sz hd
  obtain ⟨d, rfl⟩ : ∃ d9, d = d9 + 1 := ⟨d - 1, by omega⟩
  generalize hPost : (fun (r : Option (Option Value)) (w' : zM) (z : Nat) => z = sz ∧ ∃ v, r = some v ∧ (zG h w0 w' ∧ ∃ r : Int32, v = some (.int r) ∧ True)) = Post
  show zP (d + 1) zq_X4_lastOf 0 [(0, .ref (h + 74)), (1, .int x1), (2, .int x2)] [] w sz 0 0 Post
  have k1 := zrng x1
  have k2 := zrng x2
  refine zp_seg (pc' := 1) (lv' := [(0, .ref (h + 74)), (1, .int x1), (2, .int x2)]) (st' := [.int x1]) [(0, .iload_n 1)] (by decide +kernel) rfl ?_
  have hj3 : ∀ (w4 : zM), zG h w0 w4 → zP (d + 1) zq_X4_lastOf 16 [] [] w4 sz 0 0 Post := by
    intro w4  hG5 
    refine zp_seg (pc' := 17) (lv' := []) (st' := [.int (Int32.ofInt (-1))]) [(16, .iconst (-1))] (by decide +kernel) rfl ?_
    refine zr_retI (by decide +kernel) rfl ?_
    rw [← hPost]; exact ⟨rfl, _, rfl, hG5, _, rfl, trivial⟩
  refine zp_if (i := .ifCond .lt 15) (c := x1 < 0) (t := 16) (e := 4) (lv' := [(0, .ref (h + 74)), (1, .int x1), (2, .int x2)]) (st' := []) (by decide +kernel) rfl (fun c6 => ?_) (fun c6 => ?_)
  ·
    have f8 := zltI c6
    rw [show (0 : Int32).toInt = 0 from by decide] at f8
    exact (hj3 w  hG ).more (zfa0)
  ·
    have f10 := znltI c6
    rw [show (0 : Int32).toInt = 0 from by decide] at f10
    refine zp_seg (pc' := 5) (lv' := [(0, .ref (h + 74)), (1, .int x1), (2, .int x2)]) (st' := [.int x2]) [(4, .iload_n 2)] (by decide +kernel) rfl ?_
    refine zp_if (i := .ifCond .lt 11) (c := x2 < 0) (t := 16) (e := 8) (lv' := [(0, .ref (h + 74)), (1, .int x1), (2, .int x2)]) (st' := []) (by decide +kernel) rfl (fun c11 => ?_) (fun c11 => ?_)
    ·
      have f12 := zltI c11
      rw [show (0 : Int32).toInt = 0 from by decide] at f12
      exact (hj3 w  hG ).more (zfa0)
    ·
      have f13 := znltI c11
      rw [show (0 : Int32).toInt = 0 from by decide] at f13
      refine zp_seg (pc' := 9) (lv' := [(0, .ref (h + 74)), (1, .int x1), (2, .int x2)]) (st' := [.int x1]) [(8, .iload_n 1)] (by decide +kernel) rfl ?_
      refine zr_ldc (idx := 11) (v := 131072) (by decide +kernel) (by decide +kernel) ?_
      refine zp_seg (pc' := 13) (lv' := [(0, .ref (h + 74)), (1, .int x1), (2, .int x2)]) (st' := [.int (131072 - x2), .int x1]) [(11, .iload_n 2), (12, .isub)] (by decide +kernel) rfl ?_
      have k15 := zsubM 131072 x2
      rw [show (131072 : Int32).toInt = 131072 from by decide] at k15
      generalize ev14 : (131072 - x2 : Int32) = v14 at k15 ⊢
      have kv14 := zrng v14
      refine zp_if (i := .if_icmp .le 5) (c := x1 ≤ v14) (t := 18) (e := 16) (lv' := [(0, .ref (h + 74)), (1, .int x1), (2, .int x2)]) (st' := []) (by decide +kernel) rfl (fun c16 => ?_) (fun c16 => ?_)
      ·
        have f17 := zleI c16
        refine zp_seg (pc' := 21) (lv' := [(0, .ref (h + 74)), (1, .int x1), (2, .int x2)]) (st' := [.int (x2 - 1)]) [(18, .iload_n 2), (19, .iconst 1), (20, .isub)] (by decide +kernel) rfl ?_
        have k19 := zsubM x2 1
        rw [show (1 : Int32).toInt = 1 from by decide] at k19
        generalize ev18 : (x2 - 1 : Int32) = v18 at k19 ⊢
        have kv18 := zrng v18
        refine zp_seg (pc' := 22) (lv' := [(3, .int v18), (0, .ref (h + 74)), (1, .int x1), (2, .int x2)]) (st' := []) [(21, .istore_n 3)] (by decide +kernel) rfl ?_
        have hl21 : ∀ (m23 : Nat) (w24 : zM) (y20 : Int32), zG h w0 w24 → y20.toInt ≤ v18.toInt → (y20.toInt + 1).toNat < m23 → zP (d + 1) zq_X4_lastOf 22 [(0, .ref (h + 74)), (1, .int x1), (3, .int y20)] [] w24 sz 0 0 Post := by
          intro m23
          induction m23 with
          | zero => intros; omega
          | succ m23 ih22 =>
          intro w24 y20 hG25 hi27 hm26
          have k28 := zrng y20
          refine zp_seg (pc' := 23) (lv' := [(0, .ref (h + 74)), (1, .int x1), (3, .int y20)]) (st' := [.int y20]) [(22, .iload_n 3)] (by decide +kernel) rfl ?_
          have hj29 : ∀ (w30 : zM), zG h w0 w30 → zP (d + 1) zq_X4_lastOf 43 [(3, .int y20)] [] w30 sz 0 0 Post := by
            intro w30  hG31 
            refine zp_seg (pc' := 44) (lv' := [(3, .int y20)]) (st' := [.int y20]) [(43, .iload_n 3)] (by decide +kernel) rfl ?_
            refine zr_retI (by decide +kernel) rfl ?_
            rw [← hPost]; exact ⟨rfl, _, rfl, hG31, _, rfl, trivial⟩
          refine zp_if (i := .ifCond .lt 20) (c := y20 < 0) (t := 43) (e := 26) (lv' := [(0, .ref (h + 74)), (1, .int x1), (3, .int y20)]) (st' := []) (by decide +kernel) rfl (fun c32 => ?_) (fun c32 => ?_)
          ·
            have f33 := zltI c32
            rw [show (0 : Int32).toInt = 0 from by decide] at f33
            exact (hj29 w24  hG25 ).more (zfa1 rfl (zfa0))
          ·
            have f34 := znltI c32
            rw [show (0 : Int32).toInt = 0 from by decide] at f34
            refine zp_seg (pc' := 27) (lv' := [(0, .ref (h + 74)), (1, .int x1), (3, .int y20)]) (st' := [.ref (h + 74)]) [(26, .aload_n 0)] (by decide +kernel) rfl ?_
            obtain ⟨t35, l35, hw35, g35_0, g35_1, g35_2⟩ := rd_74 hG25
            refine zr_get (idx := 12) (k := 0) (by decide +kernel) (by decide +kernel) hw35 rfl ?_
            refine zp_seg (pc' := 33) (lv' := [(0, .ref (h + 74)), (1, .int x1), (3, .int y20)]) (st' := [.int (x1 + y20), .ref (h + 75)]) [(30, .iload_n 1), (31, .iload_n 3), (32, .iadd)] (by decide +kernel) rfl ?_
            have k37 := zaddM x1 y20
            generalize ev36 : (x1 + y20 : Int32) = v36 at k37 ⊢
            have kv36 := zrng v36
            obtain ⟨fa38, hw38, ga38⟩ := rd_75 hG25
            refine zr_iald (by decide +kernel) hw38 (zin (by first | omega | decide) (by first | omega | decide)) ?_
            generalize ex39 : fa38 v36.toNatClampNeg = x39
            have hx39 := ga38 v36.toNatClampNeg
            rw [ex39] at hx39
            refine zp_if (i := .ifCond .ne 9) (c := ¬ x39 = 0) (t := 43) (e := 37) (lv' := [(0, .ref (h + 74)), (1, .int x1), (3, .int y20)]) (st' := []) (by decide +kernel) rfl (fun c40 => ?_) (fun c40 => ?_)
            ·
              have k41 := zrng x39
              have f42 := zneI c40
              rw [show (0 : Int32).toInt = 0 from by decide] at f42
              exact (hj29 w24  hG25 ).more (zfa1 rfl (zfa0))
            ·
              replace c40 := Classical.not_not.mp c40
              have k43 := zrng x39
              have f44 := zeqI c40
              rw [show (0 : Int32).toInt = 0 from by decide] at f44
              refine zp_seg (pc' := 40) (lv' := [(3, .int (y20 + (Int32.ofInt (-1)))), (0, .ref (h + 74)), (1, .int x1)]) (st' := []) [(37, .iinc 3 (-1))] (by decide +kernel) rfl ?_
              have k46 := zaddM y20 ((Int32.ofInt (-1)))
              rw [show (Int32.ofInt (-1) : Int32).toInt = (-1) from by decide] at k46
              generalize ev45 : (y20 + (Int32.ofInt (-1)) : Int32) = v45 at k46 ⊢
              have kv45 := zrng v45
              refine zp_seg (pc' := 22) (lv' := [(3, .int v45), (0, .ref (h + 74)), (1, .int x1)]) (st' := []) [(40, .goto (-18))] (by decide +kernel) rfl ?_
              exact (ih22 w24 v45 hG25 (by first | omega | decide) (by omega)).more (zfa1 rfl (zfa1 rfl (zfa1 rfl (zfa0))))
        exact (hl21 _ w v18 hG (by first | omega | decide) (Nat.lt_succ_self _)).more (zfa1 rfl (zfa1 rfl (zfa1 rfl (zfa0))))
      ·
        have f47 := znleI c16
        exact (hj3 w  hG ).more (zfa0)
