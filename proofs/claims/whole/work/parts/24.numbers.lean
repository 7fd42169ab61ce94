set_option maxHeartbeats 4000000 in
set_option maxRecDepth 100000 in
theorem s_X1_rest {w : zM} (x1 : Int64) : zCon 1 zq_X1_rest [.long x1] w (fun v w' => w' = w ∧ ∃ r : Int32, v = some (.int r) ∧ 0 ≤ r.toInt ∧ r.toInt < 2147483647) := by
  intro d sz hd
  obtain ⟨d, rfl⟩ : ∃ d9, d = d9 + 1 := ⟨d - 1, by omega⟩
  generalize hPost : (fun (r : Option (Option Value)) (w' : zM) (z : Nat) => z = sz ∧ ∃ v, r = some v ∧ (w' = w ∧ ∃ r : Int32, v = some (.int r) ∧ 0 ≤ r.toInt ∧ r.toInt < 2147483647)) = Post
  show zP (d + 1) zq_X1_rest 0 [(0, .long x1)] [] w sz 0 0 Post
  refine zp_seg (pc' := 1) (lv' := [(0, .long x1)]) (st' := [.long x1]) [(0, .lload_n 0)] (by decide +kernel) rfl ?_
  refine zr_ldc2 (idx := 9) (v := 2147483647) (by decide +kernel) (by decide +kernel) ?_
  refine zr_lrem (by decide +kernel) (by decide) ?_
  have bq1 := zremB x1
  generalize eq1 : (x1 - x1 / 2147483647 * 2147483647 : Int64) = q1 at bq1 ⊢
  refine zp_seg (pc' := 9) (lv' := [(2, .long q1), (0, .long x1)]) (st' := [.int (lg_cmp q1 0)]) [(5, .lstore_n 2), (6, .lload_n 2), (7, .lconst 0), (8, .lcmp)] (by decide +kernel) rfl ?_
  have k3 := zcmpI q1 0
  rw [show (0 : Int64).toInt = 0 from by decide] at k3
  generalize ev2 : (lg_cmp q1 0 : Int32) = v2 at k3 ⊢
  have kv2 := zrng v2
  have hj5 : ∀ (w6 : zM) (y4 : Int64), w6 = w → 0 ≤ y4.toInt ∧ y4.toInt < 2147483647 → zP (d + 1) zq_X1_rest 21 [] [.long y4] w6 sz 0 0 Post := by
    intro w6 y4 hG7 hi8
    refine zp_seg (pc' := 22) (lv' := []) (st' := [.int (y4.toInt32)]) [(21, .l2i)] (by decide +kernel) rfl ?_
    have k10 := zl2iM y4
    generalize ev9 : (y4.toInt32 : Int32) = v9 at k10 ⊢
    have kv9 := zrng v9
    refine zr_retI (by decide +kernel) rfl ?_
    rw [← hPost]; exact ⟨rfl, _, rfl, hG7, _, rfl, by omega⟩
  refine zp_if (i := .ifCond .ge 11) (c := 0 ≤ v2) (t := 20) (e := 12) (lv' := [(2, .long q1), (0, .long x1)]) (st' := []) (by decide +kernel) rfl (fun c11 => ?_) (fun c11 => ?_)
  ·
    have f13 := zleI c11
    rw [show (0 : Int32).toInt = 0 from by decide] at f13
    refine zp_seg (pc' := 21) (lv' := [(2, .long q1), (0, .long x1)]) (st' := [.long q1]) [(20, .lload_n 2)] (by decide +kernel) rfl ?_
    exact (hj5 w q1 rfl (by first | omega | decide)).more (zfa0)
  ·
    have f15 := znleI c11
    rw [show (0 : Int32).toInt = 0 from by decide] at f15
    refine zp_seg (pc' := 13) (lv' := [(2, .long q1), (0, .long x1)]) (st' := [.long q1]) [(12, .lload_n 2)] (by decide +kernel) rfl ?_
    refine zr_ldc2 (idx := 9) (v := 2147483647) (by decide +kernel) (by decide +kernel) ?_
    refine zp_seg (pc' := 17) (lv' := [(2, .long q1), (0, .long x1)]) (st' := [.long (q1 + 2147483647)]) [(16, .ladd)] (by decide +kernel) rfl ?_
    have k17 := zaddL q1 2147483647
    rw [show (2147483647 : Int64).toInt = 2147483647 from by decide] at k17
    generalize ev16 : (q1 + 2147483647 : Int64) = v16 at k17 ⊢
    have kv16 := zrngL v16
    refine zp_seg (pc' := 21) (lv' := [(2, .long q1), (0, .long x1)]) (st' := [.long v16]) [(17, .goto 4)] (by decide +kernel) rfl ?_
    exact (hj5 w v16 rfl (by first | omega | decide)).more (zfa0)

set_option maxHeartbeats 4000000 in
set_option maxRecDepth 100000 in
theorem s_X1_plus {w : zM} (x1 : Int32) (x2 : Int32) : zCon 1 zq_X1_plus [.int x1, .int x2] w (fun v w' => w' = w ∧ ∃ r : Int32, v = some (.int r) ∧ -2147483647 < r.toInt ∧ r.toInt < 2147483647) := by
  intro d sz hd
  obtain ⟨d, rfl⟩ : ∃ d9, d = d9 + 1 := ⟨d - 1, by omega⟩
  generalize hPost : (fun (r : Option (Option Value)) (w' : zM) (z : Nat) => z = sz ∧ ∃ v, r = some v ∧ (w' = w ∧ ∃ r : Int32, v = some (.int r) ∧ -2147483647 < r.toInt ∧ r.toInt < 2147483647)) = Post
  show zP (d + 1) zq_X1_plus 0 [(0, .int x1), (1, .int x2)] [] w sz 0 0 Post
  have k1 := zrng x1
  have k2 := zrng x2
  refine zp_seg (pc' := 2) (lv' := [(0, .int x1), (1, .int x2)]) (st' := [.long (x1.toInt64)]) [(0, .iload_n 0), (1, .i2l)] (by decide +kernel) rfl ?_
  have k4 := zi2lM x1
  generalize ev3 : (x1.toInt64 : Int64) = v3 at k4 ⊢
  have kv3 := zrngL v3
  refine zp_seg (pc' := 4) (lv' := [(0, .int x1), (1, .int x2)]) (st' := [.long (x2.toInt64), .long v3]) [(2, .iload_n 1), (3, .i2l)] (by decide +kernel) rfl ?_
  have k6 := zi2lM x2
  generalize ev5 : (x2.toInt64 : Int64) = v5 at k6 ⊢
  have kv5 := zrngL v5
  refine zp_seg (pc' := 5) (lv' := [(0, .int x1), (1, .int x2)]) (st' := [.long (v3 + v5)]) [(4, .ladd)] (by decide +kernel) rfl ?_
  have k8 := zaddL v3 v5
  generalize ev7 : (v3 + v5 : Int64) = v7 at k8 ⊢
  have kv7 := zrngL v7
  refine zr_ldc2 (idx := 9) (v := 2147483647) (by decide +kernel) (by decide +kernel) ?_
  refine zr_lrem (by decide +kernel) (by decide) ?_
  have bq9 := zremB v7
  generalize eq9 : (v7 - v7 / 2147483647 * 2147483647 : Int64) = q9 at bq9 ⊢
  refine zp_seg (pc' := 10) (lv' := [(0, .int x1), (1, .int x2)]) (st' := [.int (q9.toInt32)]) [(9, .l2i)] (by decide +kernel) rfl ?_
  have k11 := zl2iM q9
  generalize ev10 : (q9.toInt32 : Int32) = v10 at k11 ⊢
  have kv10 := zrng v10
  refine zr_retI (by decide +kernel) rfl ?_
  rw [← hPost]; exact ⟨rfl, _, rfl, rfl, _, rfl, by omega⟩

set_option maxHeartbeats 4000000 in
set_option maxRecDepth 100000 in
theorem s_X1_minus {w : zM} (x1 : Int32) (x2 : Int32) : zCon 1 zq_X1_minus [.int x1, .int x2] w (fun v w' => w' = w ∧ ∃ r : Int32, v = some (.int r) ∧ -2147483647 < r.toInt ∧ r.toInt < 2147483647) := by
  intro d sz hd
  obtain ⟨d, rfl⟩ : ∃ d9, d = d9 + 1 := ⟨d - 1, by omega⟩
  generalize hPost : (fun (r : Option (Option Value)) (w' : zM) (z : Nat) => z = sz ∧ ∃ v, r = some v ∧ (w' = w ∧ ∃ r : Int32, v = some (.int r) ∧ -2147483647 < r.toInt ∧ r.toInt < 2147483647)) = Post
  show zP (d + 1) zq_X1_minus 0 [(0, .int x1), (1, .int x2)] [] w sz 0 0 Post
  have k1 := zrng x1
  have k2 := zrng x2
  refine zp_seg (pc' := 2) (lv' := [(0, .int x1), (1, .int x2)]) (st' := [.long (x1.toInt64)]) [(0, .iload_n 0), (1, .i2l)] (by decide +kernel) rfl ?_
  have k4 := zi2lM x1
  generalize ev3 : (x1.toInt64 : Int64) = v3 at k4 ⊢
  have kv3 := zrngL v3
  refine zr_ldc2 (idx := 9) (v := 2147483647) (by decide +kernel) (by decide +kernel) ?_
  refine zp_seg (pc' := 6) (lv' := [(0, .int x1), (1, .int x2)]) (st' := [.long (v3 + 2147483647)]) [(5, .ladd)] (by decide +kernel) rfl ?_
  have k6 := zaddL v3 2147483647
  rw [show (2147483647 : Int64).toInt = 2147483647 from by decide] at k6
  generalize ev5 : (v3 + 2147483647 : Int64) = v5 at k6 ⊢
  have kv5 := zrngL v5
  refine zp_seg (pc' := 8) (lv' := [(0, .int x1), (1, .int x2)]) (st' := [.long (x2.toInt64), .long v5]) [(6, .iload_n 1), (7, .i2l)] (by decide +kernel) rfl ?_
  have k8 := zi2lM x2
  generalize ev7 : (x2.toInt64 : Int64) = v7 at k8 ⊢
  have kv7 := zrngL v7
  refine zp_seg (pc' := 9) (lv' := [(0, .int x1), (1, .int x2)]) (st' := [.long (v5 - v7)]) [(8, .lsub)] (by decide +kernel) rfl ?_
  have k10 := zsubL v5 v7
  generalize ev9 : (v5 - v7 : Int64) = v9 at k10 ⊢
  have kv9 := zrngL v9
  refine zr_ldc2 (idx := 9) (v := 2147483647) (by decide +kernel) (by decide +kernel) ?_
  refine zr_lrem (by decide +kernel) (by decide) ?_
  have bq11 := zremB v9
  generalize eq11 : (v9 - v9 / 2147483647 * 2147483647 : Int64) = q11 at bq11 ⊢
  refine zp_seg (pc' := 14) (lv' := [(0, .int x1), (1, .int x2)]) (st' := [.int (q11.toInt32)]) [(13, .l2i)] (by decide +kernel) rfl ?_
  have k13 := zl2iM q11
  generalize ev12 : (q11.toInt32 : Int32) = v12 at k13 ⊢
  have kv12 := zrng v12
  refine zr_retI (by decide +kernel) rfl ?_
  rw [← hPost]; exact ⟨rfl, _, rfl, rfl, _, rfl, by omega⟩

set_option maxHeartbeats 4000000 in
set_option maxRecDepth 100000 in
theorem s_X1_times {w : zM} (x1 : Int32) (x2 : Int32) : zCon 1 zq_X1_times [.int x1, .int x2] w (fun v w' => w' = w ∧ ∃ r : Int32, v = some (.int r) ∧ -2147483647 < r.toInt ∧ r.toInt < 2147483647) := by
  intro d sz hd
  obtain ⟨d, rfl⟩ : ∃ d9, d = d9 + 1 := ⟨d - 1, by omega⟩
  generalize hPost : (fun (r : Option (Option Value)) (w' : zM) (z : Nat) => z = sz ∧ ∃ v, r = some v ∧ (w' = w ∧ ∃ r : Int32, v = some (.int r) ∧ -2147483647 < r.toInt ∧ r.toInt < 2147483647)) = Post
  show zP (d + 1) zq_X1_times 0 [(0, .int x1), (1, .int x2)] [] w sz 0 0 Post
  have k1 := zrng x1
  have k2 := zrng x2
  refine zp_seg (pc' := 2) (lv' := [(0, .int x1), (1, .int x2)]) (st' := [.long (x1.toInt64)]) [(0, .iload_n 0), (1, .i2l)] (by decide +kernel) rfl ?_
  have k4 := zi2lM x1
  generalize ev3 : (x1.toInt64 : Int64) = v3 at k4 ⊢
  have kv3 := zrngL v3
  refine zp_seg (pc' := 4) (lv' := [(0, .int x1), (1, .int x2)]) (st' := [.long (x2.toInt64), .long v3]) [(2, .iload_n 1), (3, .i2l)] (by decide +kernel) rfl ?_
  have k6 := zi2lM x2
  generalize ev5 : (x2.toInt64 : Int64) = v5 at k6 ⊢
  have kv5 := zrngL v5
  refine zp_seg (pc' := 5) (lv' := [(0, .int x1), (1, .int x2)]) (st' := [.long (v3 * v5)]) [(4, .lmul)] (by decide +kernel) rfl ?_
  generalize ev7 : (v3 * v5 : Int64) = v7
  have kv7 := zrngL v7
  refine zr_ldc2 (idx := 9) (v := 2147483647) (by decide +kernel) (by decide +kernel) ?_
  refine zr_lrem (by decide +kernel) (by decide) ?_
  have bq8 := zremB v7
  generalize eq8 : (v7 - v7 / 2147483647 * 2147483647 : Int64) = q8 at bq8 ⊢
  refine zp_seg (pc' := 10) (lv' := [(0, .int x1), (1, .int x2)]) (st' := [.int (q8.toInt32)]) [(9, .l2i)] (by decide +kernel) rfl ?_
  have k10 := zl2iM q8
  generalize ev9 : (q8.toInt32 : Int32) = v9 at k10 ⊢
  have kv9 := zrng v9
  refine zr_retI (by decide +kernel) rfl ?_
  rw [← hPost]; exact ⟨rfl, _, rfl, rfl, _, rfl, by omega⟩

set_option maxHeartbeats 4000000 in
set_option maxRecDepth 100000 in
theorem s_X1_small {w : zM} (x1 : Int32) : zCon 1 zq_X1_small [.int x1] w (fun v w' => w' = w ∧ ∃ r : Int32, v = some (.int r) ∧ True) := by
  intro d sz hd
  obtain ⟨d, rfl⟩ : ∃ d9, d = d9 + 1 := ⟨d - 1, by omega⟩
  generalize hPost : (fun (r : Option (Option Value)) (w' : zM) (z : Nat) => z = sz ∧ ∃ v, r = some v ∧ (w' = w ∧ ∃ r : Int32, v = some (.int r) ∧ True)) = Post
  show zP (d + 1) zq_X1_small 0 [(0, .int x1)] [] w sz 0 0 Post
  have k1 := zrng x1
  refine zp_seg (pc' := 1) (lv' := [(0, .int x1)]) (st' := [.int x1]) [(0, .iload_n 0)] (by decide +kernel) rfl ?_
  refine zr_ldc (idx := 11) (v := 1073741823) (by decide +kernel) (by decide +kernel) ?_
  have hj3 : ∀ (w4 : zM) (y2 : Int32), w4 = w → zP (d + 1) zq_X1_small 14 [] [.int y2] w4 sz 0 0 Post := by
    intro w4 y2 hG5 
    have k6 := zrng y2
    refine zr_retI (by decide +kernel) rfl ?_
    rw [← hPost]; exact ⟨rfl, _, rfl, hG5, _, rfl, trivial⟩
  refine zp_if (i := .if_icmp .gt 7) (c := 1073741823 < x1) (t := 10) (e := 6) (lv' := [(0, .int x1)]) (st' := []) (by decide +kernel) rfl (fun c7 => ?_) (fun c7 => ?_)
  ·
    have f9 := zltI c7
    rw [show (1073741823 : Int32).toInt = 1073741823 from by decide] at f9
    refine zp_seg (pc' := 11) (lv' := [(0, .int x1)]) (st' := [.int x1]) [(10, .iload_n 0)] (by decide +kernel) rfl ?_
    refine zr_ldc (idx := 12) (v := 2147483647) (by decide +kernel) (by decide +kernel) ?_
    refine zp_seg (pc' := 14) (lv' := [(0, .int x1)]) (st' := [.int (x1 - 2147483647)]) [(13, .isub)] (by decide +kernel) rfl ?_
    have k11 := zsubM x1 2147483647
    rw [show (2147483647 : Int32).toInt = 2147483647 from by decide] at k11
    generalize ev10 : (x1 - 2147483647 : Int32) = v10 at k11 ⊢
    have kv10 := zrng v10
    exact (hj3 w v10 rfl ).more (zfa0)
  ·
    have f13 := znltI c7
    rw [show (1073741823 : Int32).toInt = 1073741823 from by decide] at f13
    refine zp_seg (pc' := 14) (lv' := [(0, .int x1)]) (st' := [.int x1]) [(6, .iload_n 0), (7, .goto 7)] (by decide +kernel) rfl ?_
    exact (hj3 w x1 rfl ).more (zfa0)

set_option maxHeartbeats 4000000 in
set_option maxRecDepth 100000 in
theorem s_X1_power {w : zM} (x1 : Int32) (x2 : Int32) : zCon 1 zq_X1_power [.int x1, .int x2] w (fun v w' => w' = w ∧ ∃ r : Int32, v = some (.int r) ∧ True) := by
  intro d sz hd
  obtain ⟨d, rfl⟩ : ∃ d9, d = d9 + 1 := ⟨d - 1, by omega⟩
  generalize hPost : (fun (r : Option (Option Value)) (w' : zM) (z : Nat) => z = sz ∧ ∃ v, r = some v ∧ (w' = w ∧ ∃ r : Int32, v = some (.int r) ∧ True)) = Post
  show zP (d + 1) zq_X1_power 0 [(0, .int x1), (1, .int x2)] [] w sz 0 0 Post
  have k1 := zrng x1
  have k2 := zrng x2
  refine zp_seg (pc' := 1) (lv' := [(0, .int x1), (1, .int x2)]) (st' := [.int x2]) [(0, .iload_n 1)] (by decide +kernel) rfl ?_
  have hj4 : ∀ (w5 : zM) (y3 : Int64), w5 = w → zP (d + 1) zq_X1_power 17 [(0, .int x1)] [.long y3] w5 sz 0 0 Post := by
    intro w5 y3 hG6 
    refine zp_seg (pc' := 23) (lv' := [(4, .long 1), (2, .long y3), (0, .int x1)]) (st' := [.long (x1.toInt64)]) [(17, .lstore_n 2), (18, .lconst 1), (19, .lstore 4), (21, .iload_n 0), (22, .i2l)] (by decide +kernel) rfl ?_
    have k8 := zi2lM x1
    generalize ev7 : (x1.toInt64 : Int64) = v7 at k8 ⊢
    have kv7 := zrngL v7
    refine zp_seg (pc' := 28) (lv' := [(8, .int 0), (6, .long v7), (4, .long 1), (2, .long y3), (0, .int x1)]) (st' := []) [(23, .lstore 6), (25, .iconst 0), (26, .istore 8)] (by decide +kernel) rfl ?_
    have hl13 : ∀ (m15 : Nat) (w16 : zM) (y9 : Int64) (y10 : Int64) (y11 : Int32), w16 = w → 0 ≤ y11.toInt → (2147483647 - y11.toInt).toNat < m15 → zP (d + 1) zq_X1_power 28 [(2, .long y3), (4, .long y9), (6, .long y10), (8, .int y11)] [] w16 sz 0 0 Post := by
      intro m15
      induction m15 with
      | zero => intros; omega
      | succ m15 ih14 =>
      intro w16 y9 y10 y11 hG17 hi19 hm18
      have k20 := zrng y11
      refine zp_seg (pc' := 32) (lv' := [(2, .long y3), (4, .long y9), (6, .long y10), (8, .int y11)]) (st' := [.int 32, .int y11]) [(28, .iload 8), (30, .bipush 32)] (by decide +kernel) rfl ?_
      have hj21 : ∀ (w22 : zM), w22 = w → zP (d + 1) zq_X1_power 83 [(4, .long y9)] [] w22 sz 0 0 Post := by
        intro w22  hG23 
        refine zp_seg (pc' := 86) (lv' := [(4, .long y9)]) (st' := [.int (y9.toInt32)]) [(83, .lload 4), (85, .l2i)] (by decide +kernel) rfl ?_
        have k25 := zl2iM y9
        generalize ev24 : (y9.toInt32 : Int32) = v24 at k25 ⊢
        have kv24 := zrng v24
        refine zr_retI (by decide +kernel) rfl ?_
        rw [← hPost]; exact ⟨rfl, _, rfl, hG23, _, rfl, trivial⟩
      refine zp_if (i := .if_icmp .ge 51) (c := 32 ≤ y11) (t := 83) (e := 35) (lv' := [(2, .long y3), (4, .long y9), (6, .long y10), (8, .int y11)]) (st' := []) (by decide +kernel) rfl (fun c26 => ?_) (fun c26 => ?_)
      ·
        have f28 := zleI c26
        rw [show (32 : Int32).toInt = 32 from by decide] at f28
        exact (hj21 w16  hG17 ).more (zfa1 rfl (zfa0))
      ·
        have f30 := znleI c26
        rw [show (32 : Int32).toInt = 32 from by decide] at f30
        refine zp_seg (pc' := 41) (lv' := [(2, .long y3), (4, .long y9), (6, .long y10), (8, .int y11)]) (st' := [.int (lg_cmp (y3 >>> (y11.toInt64 &&& 63)) 0)]) [(35, .lload_n 2), (36, .iload 8), (38, .lshr), (39, .lconst 0), (40, .lcmp)] (by decide +kernel) rfl ?_
        have k32 := zcmpI (y3 >>> (y11.toInt64 &&& 63)) 0
        rw [show (0 : Int64).toInt = 0 from by decide] at k32
        generalize ev31 : (lg_cmp (y3 >>> (y11.toInt64 &&& 63)) 0 : Int32) = v31 at k32 ⊢
        have kv31 := zrng v31
        refine zp_if (i := .ifCond .le 42) (c := v31 ≤ 0) (t := 83) (e := 44) (lv' := [(2, .long y3), (4, .long y9), (6, .long y10), (8, .int y11)]) (st' := []) (by decide +kernel) rfl (fun c33 => ?_) (fun c33 => ?_)
        ·
          have f34 := zleI c33
          rw [show (0 : Int32).toInt = 0 from by decide] at f34
          exact (hj21 w16  hG17 ).more (zfa1 rfl (zfa0))
        ·
          have f35 := znleI c33
          rw [show (0 : Int32).toInt = 0 from by decide] at f35
          refine zp_seg (pc' := 52) (lv' := [(2, .long y3), (4, .long y9), (6, .long y10), (8, .int y11)]) (st' := [.int (lg_cmp ((y3 >>> (y11.toInt64 &&& 63)) &&& 1) 1)]) [(44, .lload_n 2), (45, .iload 8), (47, .lshr), (48, .lconst 1), (49, .land), (50, .lconst 1), (51, .lcmp)] (by decide +kernel) rfl ?_
          have k37 := zcmpI ((y3 >>> (y11.toInt64 &&& 63)) &&& 1) 1
          rw [show (1 : Int64).toInt = 1 from by decide] at k37
          generalize ev36 : (lg_cmp ((y3 >>> (y11.toInt64 &&& 63)) &&& 1) 1 : Int32) = v36 at k37 ⊢
          have kv36 := zrng v36
          have hj39 : ∀ (w40 : zM) (y38 : Int64), w40 = w → zP (d + 1) zq_X1_power 66 [(2, .long y3), (4, .long y38), (6, .long y10), (8, .int y11)] [] w40 sz 0 0 Post := by
            intro w40 y38 hG41 
            refine zp_seg (pc' := 71) (lv' := [(2, .long y3), (4, .long y38), (6, .long y10), (8, .int y11)]) (st' := [.long (y10 * y10)]) [(66, .lload 6), (68, .lload 6), (70, .lmul)] (by decide +kernel) rfl ?_
            generalize ev42 : (y10 * y10 : Int64) = v42
            have kv42 := zrngL v42
            refine zr_ldc2 (idx := 9) (v := 2147483647) (by decide +kernel) (by decide +kernel) ?_
            refine zr_lrem (by decide +kernel) (by decide) ?_
            have bq43 := zremB v42
            generalize eq43 : (v42 - v42 / 2147483647 * 2147483647 : Int64) = q43 at bq43 ⊢
            refine zp_seg (pc' := 80) (lv' := [(8, .int (y11 + 1)), (6, .long q43), (2, .long y3), (4, .long y38)]) (st' := []) [(75, .lstore 6), (77, .iinc 8 1)] (by decide +kernel) rfl ?_
            have k45 := zaddM y11 1
            rw [show (1 : Int32).toInt = 1 from by decide] at k45
            generalize ev44 : (y11 + 1 : Int32) = v44 at k45 ⊢
            have kv44 := zrng v44
            refine zp_seg (pc' := 28) (lv' := [(8, .int v44), (6, .long q43), (2, .long y3), (4, .long y38)]) (st' := []) [(80, .goto (-52))] (by decide +kernel) rfl ?_
            exact (ih14 w40 y38 q43 v44 hG41 (by first | omega | decide) (by omega)).more (zfa1 rfl (zfa1 rfl (zfa1 rfl (zfa1 rfl (zfa0)))))
          refine zp_if (i := .ifCond .ne 14) (c := ¬ v36 = 0) (t := 66) (e := 55) (lv' := [(2, .long y3), (4, .long y9), (6, .long y10), (8, .int y11)]) (st' := []) (by decide +kernel) rfl (fun c46 => ?_) (fun c46 => ?_)
          ·
            have f47 := zneI c46
            rw [show (0 : Int32).toInt = 0 from by decide] at f47
            exact (hj39 w16 y9 hG17 ).more (zfa1 rfl (zfa1 rfl (zfa1 rfl (zfa1 rfl (zfa0)))))
          ·
            replace c46 := Classical.not_not.mp c46
            have f48 := zeqI c46
            rw [show (0 : Int32).toInt = 0 from by decide] at f48
            refine zp_seg (pc' := 60) (lv' := [(2, .long y3), (4, .long y9), (6, .long y10), (8, .int y11)]) (st' := [.long (y9 * y10)]) [(55, .lload 4), (57, .lload 6), (59, .lmul)] (by decide +kernel) rfl ?_
            generalize ev49 : (y9 * y10 : Int64) = v49
            have kv49 := zrngL v49
            refine zr_ldc2 (idx := 9) (v := 2147483647) (by decide +kernel) (by decide +kernel) ?_
            refine zr_lrem (by decide +kernel) (by decide) ?_
            have bq50 := zremB v49
            generalize eq50 : (v49 - v49 / 2147483647 * 2147483647 : Int64) = q50 at bq50 ⊢
            refine zp_seg (pc' := 66) (lv' := [(4, .long q50), (2, .long y3), (6, .long y10), (8, .int y11)]) (st' := []) [(64, .lstore 4)] (by decide +kernel) rfl ?_
            exact (hj39 w16 q50 hG17 ).more (zfa1 rfl (zfa1 rfl (zfa1 rfl (zfa1 rfl (zfa0)))))
    exact (hl13 _ w5 1 v7 0 hG6 (by first | omega | decide) (Nat.lt_succ_self _)).more (zfa1 rfl (zfa1 rfl (zfa1 rfl (zfa1 rfl (zfa0)))))
  refine zp_if (i := .ifCond .ge 14) (c := 0 ≤ x2) (t := 15) (e := 4) (lv' := [(0, .int x1), (1, .int x2)]) (st' := []) (by decide +kernel) rfl (fun c51 => ?_) (fun c51 => ?_)
  ·
    have f53 := zleI c51
    rw [show (0 : Int32).toInt = 0 from by decide] at f53
    refine zp_seg (pc' := 17) (lv' := [(0, .int x1), (1, .int x2)]) (st' := [.long (x2.toInt64)]) [(15, .iload_n 1), (16, .i2l)] (by decide +kernel) rfl ?_
    have k55 := zi2lM x2
    generalize ev54 : (x2.toInt64 : Int64) = v54 at k55 ⊢
    have kv54 := zrngL v54
    exact (hj4 w v54 rfl ).more (zfa1 rfl (zfa0))
  ·
    have f57 := znleI c51
    rw [show (0 : Int32).toInt = 0 from by decide] at f57
    refine zp_seg (pc' := 5) (lv' := [(0, .int x1), (1, .int x2)]) (st' := [.int x2]) [(4, .iload_n 1)] (by decide +kernel) rfl ?_
    refine zr_ldc (idx := 13) (v := 2147483646) (by decide +kernel) (by decide +kernel) ?_
    refine zr_irem (by decide +kernel) (by decide) ?_
    generalize eq58 : (x2 - x2 / 2147483646 * 2147483646 : Int32) = q58
    refine zr_ldc (idx := 13) (v := 2147483646) (by decide +kernel) (by decide +kernel) ?_
    refine zp_seg (pc' := 11) (lv' := [(0, .int x1), (1, .int x2)]) (st' := [.int (q58 + 2147483646)]) [(10, .iadd)] (by decide +kernel) rfl ?_
    have k60 := zaddM q58 2147483646
    rw [show (2147483646 : Int32).toInt = 2147483646 from by decide] at k60
    generalize ev59 : (q58 + 2147483646 : Int32) = v59 at k60 ⊢
    have kv59 := zrng v59
    refine zp_seg (pc' := 12) (lv' := [(0, .int x1), (1, .int x2)]) (st' := [.long (v59.toInt64)]) [(11, .i2l)] (by decide +kernel) rfl ?_
    have k62 := zi2lM v59
    generalize ev61 : (v59.toInt64 : Int64) = v61 at k62 ⊢
    have kv61 := zrngL v61
    refine zp_seg (pc' := 17) (lv' := [(0, .int x1), (1, .int x2)]) (st' := [.long v61]) [(12, .goto 5)] (by decide +kernel) rfl ?_
    exact (hj4 w v61 rfl ).more (zfa1 rfl (zfa0))

set_option maxHeartbeats 4000000 in
set_option maxRecDepth 100000 in
theorem s_X1_inverse {w : zM} (x1 : Int32) : zCon 1 zq_X1_inverse [.int x1] w (fun v w' => w' = w ∧ ∃ r : Int32, v = some (.int r) ∧ True) := by
  intro d sz hd
  obtain ⟨d, rfl⟩ : ∃ d9, d = d9 + 1 := ⟨d - 1, by omega⟩
  generalize hPost : (fun (r : Option (Option Value)) (w' : zM) (z : Nat) => z = sz ∧ ∃ v, r = some v ∧ (w' = w ∧ ∃ r : Int32, v = some (.int r) ∧ True)) = Post
  show zP (d + 1) zq_X1_inverse 0 [(0, .int x1)] [] w sz 0 0 Post
  have k1 := zrng x1
  refine zr_ldc2 (idx := 9) (v := 2147483647) (by decide +kernel) (by decide +kernel) ?_
  refine zp_seg (pc' := 6) (lv' := [(1, .long 2147483647), (0, .int x1)]) (st' := [.long (x1.toInt64)]) [(3, .lstore_n 1), (4, .iload_n 0), (5, .i2l)] (by decide +kernel) rfl ?_
  have k3 := zi2lM x1
  generalize ev2 : (x1.toInt64 : Int64) = v2 at k3 ⊢
  have kv2 := zrngL v2
  refine zp_seg (pc' := 16) (lv' := [(9, .int 0), (7, .long 1), (5, .long 0), (3, .long v2), (1, .long 2147483647), (0, .int x1)]) (st' := []) [(6, .lstore_n 3), (7, .lconst 0), (8, .lstore 5), (10, .lconst 1), (11, .lstore 7), (13, .iconst 0), (14, .istore 9)] (by decide +kernel) rfl ?_
  have hl10 : ∀ (m12 : Nat) (w13 : zM) (y4 : Int64) (y5 : Int64) (y6 : Int64) (y7 : Int64) (y8 : Int32), w13 = w → 0 ≤ y8.toInt → (2147483647 - y8.toInt).toNat < m12 → zP (d + 1) zq_X1_inverse 16 [(0, .int x1), (1, .long y4), (3, .long y5), (5, .long y6), (7, .long y7), (9, .int y8)] [] w13 sz 0 0 Post := by
    intro m12
    induction m12 with
    | zero => intros; omega
    | succ m12 ih11 =>
    intro w13 y4 y5 y6 y7 y8 hG14 hi16 hm15
    have k17 := zrng y8
    refine zp_seg (pc' := 20) (lv' := [(0, .int x1), (1, .long y4), (3, .long y5), (5, .long y6), (7, .long y7), (9, .int y8)]) (st' := [.int 64, .int y8]) [(16, .iload 9), (18, .bipush 64)] (by decide +kernel) rfl ?_
    have hj18 : ∀ (w19 : zM), w19 = w → zP (d + 1) zq_X1_inverse 71 [(0, .int x1), (5, .long y6)] [] w19 sz 0 0 Post := by
      intro w19  hG20 
      refine zp_seg (pc' := 72) (lv' := [(0, .int x1), (5, .long y6)]) (st' := [.int x1]) [(71, .iload_n 0)] (by decide +kernel) rfl ?_
      have hj22 : ∀ (w23 : zM) (y21 : Int32), w23 = w → zP (d + 1) zq_X1_inverse 98 [] [.int y21] w23 sz 0 0 Post := by
        intro w23 y21 hG24 
        have k25 := zrng y21
        refine zr_retI (by decide +kernel) rfl ?_
        rw [← hPost]; exact ⟨rfl, _, rfl, hG24, _, rfl, trivial⟩
      refine zp_if (i := .ifCond .ne 7) (c := ¬ x1 = 0) (t := 79) (e := 75) (lv' := [(0, .int x1), (5, .long y6)]) (st' := []) (by decide +kernel) rfl (fun c26 => ?_) (fun c26 => ?_)
      ·
        have f27 := zneI c26
        rw [show (0 : Int32).toInt = 0 from by decide] at f27
        refine zp_seg (pc' := 83) (lv' := [(0, .int x1), (5, .long y6)]) (st' := [.int (lg_cmp y6 0)]) [(79, .lload 5), (81, .lconst 0), (82, .lcmp)] (by decide +kernel) rfl ?_
        have k29 := zcmpI y6 0
        rw [show (0 : Int64).toInt = 0 from by decide] at k29
        generalize ev28 : (lg_cmp y6 0 : Int32) = v28 at k29 ⊢
        have kv28 := zrng v28
        have hj31 : ∀ (w32 : zM) (y30 : Int64), w32 = w → zP (d + 1) zq_X1_inverse 97 [] [.long y30] w32 sz 0 0 Post := by
          intro w32 y30 hG33 
          refine zp_seg (pc' := 98) (lv' := []) (st' := [.int (y30.toInt32)]) [(97, .l2i)] (by decide +kernel) rfl ?_
          have k35 := zl2iM y30
          generalize ev34 : (y30.toInt32 : Int32) = v34 at k35 ⊢
          have kv34 := zrng v34
          exact (hj22 w32 v34 hG33 ).more (zfa0)
        refine zp_if (i := .ifCond .ge 12) (c := 0 ≤ v28) (t := 95) (e := 86) (lv' := [(0, .int x1), (5, .long y6)]) (st' := []) (by decide +kernel) rfl (fun c36 => ?_) (fun c36 => ?_)
        ·
          have f37 := zleI c36
          rw [show (0 : Int32).toInt = 0 from by decide] at f37
          refine zp_seg (pc' := 97) (lv' := [(0, .int x1), (5, .long y6)]) (st' := [.long y6]) [(95, .lload 5)] (by decide +kernel) rfl ?_
          exact (hj31 w19 y6 hG20 ).more (zfa0)
        ·
          have f38 := znleI c36
          rw [show (0 : Int32).toInt = 0 from by decide] at f38
          refine zp_seg (pc' := 88) (lv' := [(0, .int x1), (5, .long y6)]) (st' := [.long y6]) [(86, .lload 5)] (by decide +kernel) rfl ?_
          refine zr_ldc2 (idx := 9) (v := 2147483647) (by decide +kernel) (by decide +kernel) ?_
          refine zp_seg (pc' := 92) (lv' := [(0, .int x1), (5, .long y6)]) (st' := [.long (y6 + 2147483647)]) [(91, .ladd)] (by decide +kernel) rfl ?_
          have k40 := zaddL y6 2147483647
          rw [show (2147483647 : Int64).toInt = 2147483647 from by decide] at k40
          generalize ev39 : (y6 + 2147483647 : Int64) = v39 at k40 ⊢
          have kv39 := zrngL v39
          refine zp_seg (pc' := 97) (lv' := [(0, .int x1), (5, .long y6)]) (st' := [.long v39]) [(92, .goto 5)] (by decide +kernel) rfl ?_
          exact (hj31 w19 v39 hG20 ).more (zfa0)
      ·
        replace c26 := Classical.not_not.mp c26
        have f41 := zeqI c26
        rw [show (0 : Int32).toInt = 0 from by decide] at f41
        refine zp_seg (pc' := 98) (lv' := [(0, .int x1), (5, .long y6)]) (st' := [.int 0]) [(75, .iconst 0), (76, .goto 22)] (by decide +kernel) rfl ?_
        exact (hj22 w19 0 hG20 ).more (zfa0)
    refine zp_if (i := .if_icmp .ge 51) (c := 64 ≤ y8) (t := 71) (e := 23) (lv' := [(0, .int x1), (1, .long y4), (3, .long y5), (5, .long y6), (7, .long y7), (9, .int y8)]) (st' := []) (by decide +kernel) rfl (fun c42 => ?_) (fun c42 => ?_)
    ·
      have f44 := zleI c42
      rw [show (64 : Int32).toInt = 64 from by decide] at f44
      exact (hj18 w13  hG14 ).more (zfa1 rfl (zfa1 rfl (zfa0)))
    ·
      have f46 := znleI c42
      rw [show (64 : Int32).toInt = 64 from by decide] at f46
      refine zp_seg (pc' := 26) (lv' := [(0, .int x1), (1, .long y4), (3, .long y5), (5, .long y6), (7, .long y7), (9, .int y8)]) (st' := [.int (lg_cmp y5 0)]) [(23, .lload_n 3), (24, .lconst 0), (25, .lcmp)] (by decide +kernel) rfl ?_
      have k48 := zcmpI y5 0
      rw [show (0 : Int64).toInt = 0 from by decide] at k48
      generalize ev47 : (lg_cmp y5 0 : Int32) = v47 at k48 ⊢
      have kv47 := zrng v47
      refine zp_if (i := .ifCond .eq 45) (c := v47 = 0) (t := 71) (e := 29) (lv' := [(0, .int x1), (1, .long y4), (3, .long y5), (5, .long y6), (7, .long y7), (9, .int y8)]) (st' := []) (by decide +kernel) rfl (fun c49 => ?_) (fun c49 => ?_)
      ·
        have f50 := zeqI c49
        rw [show (0 : Int32).toInt = 0 from by decide] at f50
        exact (hj18 w13  hG14 ).more (zfa1 rfl (zfa1 rfl (zfa0)))
      ·
        have f51 := zneI c49
        rw [show (0 : Int32).toInt = 0 from by decide] at f51
        refine zp_seg (pc' := 31) (lv' := [(0, .int x1), (1, .long y4), (3, .long y5), (5, .long y6), (7, .long y7), (9, .int y8)]) (st' := [.long y5, .long y4]) [(29, .lload_n 1), (30, .lload_n 3)] (by decide +kernel) rfl ?_
        refine zr_ldiv (by decide +kernel) (fun e => by have := congrArg Int64.toInt e; simp at this; omega) ?_
        generalize eq52 : (y4 / y5 : Int64) = q52
        refine zp_seg (pc' := 39) (lv' := [(10, .long q52), (0, .int x1), (1, .long y4), (3, .long y5), (5, .long y6), (7, .long y7), (9, .int y8)]) (st' := [.long (q52 * y5), .long y4]) [(32, .lstore 10), (34, .lload_n 1), (35, .lload 10), (37, .lload_n 3), (38, .lmul)] (by decide +kernel) rfl ?_
        generalize ev53 : (q52 * y5 : Int64) = v53
        have kv53 := zrngL v53
        refine zp_seg (pc' := 40) (lv' := [(10, .long q52), (0, .int x1), (1, .long y4), (3, .long y5), (5, .long y6), (7, .long y7), (9, .int y8)]) (st' := [.long (y4 - v53)]) [(39, .lsub)] (by decide +kernel) rfl ?_
        have k55 := zsubL y4 v53
        generalize ev54 : (y4 - v53 : Int64) = v54 at k55 ⊢
        have kv54 := zrngL v54
        refine zp_seg (pc' := 54) (lv' := [(3, .long v54), (1, .long y5), (12, .long v54), (10, .long q52), (0, .int x1), (5, .long y6), (7, .long y7), (9, .int y8)]) (st' := [.long (q52 * y7), .long y6]) [(40, .lstore 12), (42, .lload_n 3), (43, .lstore_n 1), (44, .lload 12), (46, .lstore_n 3), (47, .lload 5), (49, .lload 10), (51, .lload 7), (53, .lmul)] (by decide +kernel) rfl ?_
        generalize ev56 : (q52 * y7 : Int64) = v56
        have kv56 := zrngL v56
        refine zp_seg (pc' := 55) (lv' := [(3, .long v54), (1, .long y5), (12, .long v54), (10, .long q52), (0, .int x1), (5, .long y6), (7, .long y7), (9, .int y8)]) (st' := [.long (y6 - v56)]) [(54, .lsub)] (by decide +kernel) rfl ?_
        have k58 := zsubL y6 v56
        generalize ev57 : (y6 - v56 : Int64) = v57 at k58 ⊢
        have kv57 := zrngL v57
        refine zp_seg (pc' := 68) (lv' := [(9, .int (y8 + 1)), (7, .long v57), (5, .long y7), (14, .long v57), (3, .long v54), (1, .long y5), (12, .long v54), (10, .long q52), (0, .int x1)]) (st' := []) [(55, .lstore 14), (57, .lload 7), (59, .lstore 5), (61, .lload 14), (63, .lstore 7), (65, .iinc 9 1)] (by decide +kernel) rfl ?_
        have k60 := zaddM y8 1
        rw [show (1 : Int32).toInt = 1 from by decide] at k60
        generalize ev59 : (y8 + 1 : Int32) = v59 at k60 ⊢
        have kv59 := zrng v59
        refine zp_seg (pc' := 16) (lv' := [(9, .int v59), (7, .long v57), (5, .long y7), (14, .long v57), (3, .long v54), (1, .long y5), (12, .long v54), (10, .long q52), (0, .int x1)]) (st' := []) [(68, .goto (-52))] (by decide +kernel) rfl ?_
        exact (ih11 w13 y5 v54 y7 v57 v59 hG14 (by first | omega | decide) (by omega)).more (zfa1 rfl (zfa1 rfl (zfa1 rfl (zfa1 rfl (zfa1 rfl (zfa1 rfl (zfa0)))))))
  exact (hl10 _ w 2147483647 v2 0 1 0 rfl (by first | omega | decide) (Nat.lt_succ_self _)).more (zfa1 rfl (zfa1 rfl (zfa1 rfl (zfa1 rfl (zfa1 rfl (zfa1 rfl (zfa0)))))))
