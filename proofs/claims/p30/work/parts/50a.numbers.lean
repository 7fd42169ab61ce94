set_option maxHeartbeats 8000000 in
set_option maxRecDepth 100000 in
theorem c_X16_add {w : zM}  (a : Int32) (b : Int32) (h_a : zr1 a) (h_b : zr1 b) : zCon 1 zq_X16_add [.int a, .int b] w (fun v9 w9' => w9' = w ∧ ∃ r9 : Int32, v9 = some (.int r9) ∧ (zr1 r9 ∧ zf r9 = zf a + zf b)) := by
  intro d sz hd
  obtain ⟨d, rfl⟩ : ∃ d9, d = d9 + 1 := ⟨d - 1, by omega⟩
  generalize hPost : (fun (r9' : Option (Option Value)) (w9' : zM) (z9 : Nat) => z9 = sz ∧ ∃ v9, r9' = some v9 ∧ (w9' = w ∧ ∃ r9 : Int32, v9 = some (.int r9) ∧ (zr1 r9 ∧ zf r9 = zf a + zf b))) = Post
  show zP (d + 1) zq_X16_add 0 [(0, .int a), (1, .int b)] [] w sz 0 0 Post
  have k1 := zrng a
  have k2 := zrng b
  have r_a : 0 ≤ a.toInt ∧ a.toInt < 2147483647 := h_a
  have r_b : 0 ≤ b.toInt ∧ b.toInt < 2147483647 := h_b
  refine zp_seg (pc' := 2) (lv' := [(0, .int a), (1, .int b)]) (st' := [.long (a.toInt64)]) [(0, .iload_n 0), (1, .i2l)] (by decide +kernel) rfl ?_
  have k3 := zi2lM a
  generalize ev2 : (a.toInt64 : Int64) = v2 at k3 ⊢
  have kv2 := zrngL v2
  refine zp_seg (pc' := 4) (lv' := [(0, .int a), (1, .int b)]) (st' := [.long (b.toInt64), .long v2]) [(2, .iload_n 1), (3, .i2l)] (by decide +kernel) rfl ?_
  have k4 := zi2lM b
  generalize ev4 : (b.toInt64 : Int64) = v4 at k4 ⊢
  have kv4 := zrngL v4
  refine zp_seg (pc' := 5) (lv' := [(0, .int a), (1, .int b)]) (st' := [.long (v2 + v4)]) [(4, .ladd)] (by decide +kernel) rfl ?_
  have k5 := zaddLE v2 v4 (by omega) (by omega)
  generalize ev5 : (v2 + v4 : Int64) = v5 at k5 ⊢
  have kv5 := zrngL v5
  refine zp_seg (pc' := 7) (lv' := [(2, .long v5), (0, .int a), (1, .int b)]) (st' := [.long v5]) [(5, .lstore_n 2), (6, .lload_n 2)] (by decide +kernel) rfl ?_
  refine zr_ldc2 (idx := 3) (v := 2147483647) (by decide +kernel) (by decide +kernel) ?_
  refine zp_seg (pc' := 11) (lv' := [(2, .long v5), (0, .int a), (1, .int b)]) (st' := [.int (lg_cmp v5 2147483647)]) [(10, .lcmp)] (by decide +kernel) rfl ?_
  have k6 := zcmpI v5 2147483647
  rw [show (2147483647 : Int64).toInt = 2147483647 from by decide] at k6
  generalize ev11 : (lg_cmp v5 2147483647 : Int32) = v11 at k6 ⊢
  have kv11 := zrng v11
  refine zp_if (i := .ifCond .lt 11) (c := v11 < 0) (t := 22) (e := 14) (lv' := [(2, .long v5), (0, .int a), (1, .int b)]) (st' := []) (by decide +kernel) rfl (fun cc11 => ?_) (fun cc11 => ?_)
  ·
    have f8 := zltI cc11
    rw [show (0 : Int32).toInt = 0 from by decide] at f8
    refine zp_seg (pc' := 24) (lv' := [(2, .long v5), (0, .int a), (1, .int b)]) (st' := [.int (v5.toInt32)]) [(22, .lload_n 2), (23, .l2i)] (by decide +kernel) rfl ?_
    have k9 := zl2iE v5 (by omega) (by omega)
    generalize ev24 : (v5.toInt32 : Int32) = v24 at k9 ⊢
    have kv24 := zrng v24
    refine zr_retI (by decide +kernel) rfl ?_
    rw [← hPost]; exact ⟨rfl, _, rfl, rfl, _, rfl, (by
          refine ⟨show 0 ≤ Int32.toInt _ ∧ Int32.toInt _ < 2147483647 by omega, zf_add (by omega)⟩)⟩
  ·
    have f11 := znltI cc11
    rw [show (0 : Int32).toInt = 0 from by decide] at f11
    refine zp_seg (pc' := 15) (lv' := [(2, .long v5), (0, .int a), (1, .int b)]) (st' := [.long v5]) [(14, .lload_n 2)] (by decide +kernel) rfl ?_
    refine zr_ldc2 (idx := 3) (v := 2147483647) (by decide +kernel) (by decide +kernel) ?_
    refine zp_seg (pc' := 19) (lv' := [(2, .long v5), (0, .int a), (1, .int b)]) (st' := [.long (v5 - 2147483647)]) [(18, .lsub)] (by decide +kernel) rfl ?_
    have hl12 : (2147483647 : Int64).toInt = 2147483647 := by decide
    have k13 := zsubLE v5 2147483647 (by omega) (by omega)
    rw [show (2147483647 : Int64).toInt = 2147483647 from by decide] at k13
    generalize ev19 : (v5 - 2147483647 : Int64) = v19 at k13 ⊢
    have kv19 := zrngL v19
    refine zp_seg (pc' := 24) (lv' := [(2, .long v5), (0, .int a), (1, .int b)]) (st' := [.int (v19.toInt32)]) [(19, .goto 4), (23, .l2i)] (by decide +kernel) rfl ?_
    have k14 := zl2iE v19 (by omega) (by omega)
    generalize ev24 : (v19.toInt32 : Int32) = v24 at k14 ⊢
    have kv24 := zrng v24
    refine zr_retI (by decide +kernel) rfl ?_
    rw [← hPost]; exact ⟨rfl, _, rfl, rfl, _, rfl, (by
          refine ⟨show 0 ≤ Int32.toInt _ ∧ Int32.toInt _ < 2147483647 by omega, zf_add (by omega)⟩)⟩

set_option maxHeartbeats 8000000 in
set_option maxRecDepth 100000 in
theorem c_X16_sub {w : zM}  (a : Int32) (b : Int32) (h_a : zr1 a) (h_b : zr1 b) : zCon 1 zq_X16_sub [.int a, .int b] w (fun v9 w9' => w9' = w ∧ ∃ r9 : Int32, v9 = some (.int r9) ∧ (zr1 r9 ∧ zf r9 = zf a - zf b)) := by
  intro d sz hd
  obtain ⟨d, rfl⟩ : ∃ d9, d = d9 + 1 := ⟨d - 1, by omega⟩
  generalize hPost : (fun (r9' : Option (Option Value)) (w9' : zM) (z9 : Nat) => z9 = sz ∧ ∃ v9, r9' = some v9 ∧ (w9' = w ∧ ∃ r9 : Int32, v9 = some (.int r9) ∧ (zr1 r9 ∧ zf r9 = zf a - zf b))) = Post
  show zP (d + 1) zq_X16_sub 0 [(0, .int a), (1, .int b)] [] w sz 0 0 Post
  have k1 := zrng a
  have k2 := zrng b
  have r_a : 0 ≤ a.toInt ∧ a.toInt < 2147483647 := h_a
  have r_b : 0 ≤ b.toInt ∧ b.toInt < 2147483647 := h_b
  refine zp_seg (pc' := 2) (lv' := [(0, .int a), (1, .int b)]) (st' := [.int b, .int a]) [(0, .iload_n 0), (1, .iload_n 1)] (by decide +kernel) rfl ?_
  refine zp_if (i := .if_icmp .lt 9) (c := a < b) (t := 11) (e := 5) (lv' := [(0, .int a), (1, .int b)]) (st' := []) (by decide +kernel) rfl (fun cc2 => ?_) (fun cc2 => ?_)
  ·
    have f3 := zltI cc2
    refine zp_seg (pc' := 14) (lv' := [(0, .int a), (1, .int b)]) (st' := [.int (a - b)]) [(11, .iload_n 0), (12, .iload_n 1), (13, .isub)] (by decide +kernel) rfl ?_
    have k4 := zsub a b (by omega) (by omega)
    generalize ev14 : (a - b : Int32) = v14 at k4 ⊢
    have kv14 := zrng v14
    refine zr_ldc (idx := 5) (v := 2147483647) (by decide +kernel) (by decide +kernel) ?_
    refine zp_seg (pc' := 17) (lv' := [(0, .int a), (1, .int b)]) (st' := [.int (v14 + 2147483647)]) [(16, .iadd)] (by decide +kernel) rfl ?_
    have k5 := zaddC v14 2147483647 (n := 2147483647) (by decide) (by omega) (by omega)
    generalize ev17 : (v14 + 2147483647 : Int32) = v17 at k5 ⊢
    have kv17 := zrng v17
    refine zr_retI (by decide +kernel) rfl ?_
    rw [← hPost]; exact ⟨rfl, _, rfl, rfl, _, rfl, (by
          refine ⟨show 0 ≤ Int32.toInt _ ∧ Int32.toInt _ < 2147483647 by omega, zf_sub (by omega)⟩)⟩
  ·
    have f6 := znltI cc2
    refine zp_seg (pc' := 8) (lv' := [(0, .int a), (1, .int b)]) (st' := [.int (a - b)]) [(5, .iload_n 0), (6, .iload_n 1), (7, .isub)] (by decide +kernel) rfl ?_
    have k7 := zsub a b (by omega) (by omega)
    generalize ev8 : (a - b : Int32) = v8 at k7 ⊢
    have kv8 := zrng v8
    refine zp_seg (pc' := 17) (lv' := [(0, .int a), (1, .int b)]) (st' := [.int v8]) [(8, .goto 9)] (by decide +kernel) rfl ?_
    refine zr_retI (by decide +kernel) rfl ?_
    rw [← hPost]; exact ⟨rfl, _, rfl, rfl, _, rfl, (by
          refine ⟨show 0 ≤ Int32.toInt _ ∧ Int32.toInt _ < 2147483647 by omega, zf_sub (by omega)⟩)⟩

set_option maxHeartbeats 8000000 in
set_option maxRecDepth 100000 in
theorem c_X16_mul {w : zM}  (a : Int32) (b : Int32) (h_a : zr1 a) (h_b : zr1 b) : zCon 1 zq_X16_mul [.int a, .int b] w (fun v9 w9' => w9' = w ∧ ∃ r9 : Int32, v9 = some (.int r9) ∧ (zr1 r9 ∧ zf r9 = zf a * zf b)) := by
  intro d sz hd
  obtain ⟨d, rfl⟩ : ∃ d9, d = d9 + 1 := ⟨d - 1, by omega⟩
  generalize hPost : (fun (r9' : Option (Option Value)) (w9' : zM) (z9 : Nat) => z9 = sz ∧ ∃ v9, r9' = some v9 ∧ (w9' = w ∧ ∃ r9 : Int32, v9 = some (.int r9) ∧ (zr1 r9 ∧ zf r9 = zf a * zf b))) = Post
  show zP (d + 1) zq_X16_mul 0 [(0, .int a), (1, .int b)] [] w sz 0 0 Post
  have k1 := zrng a
  have k2 := zrng b
  have r_a : 0 ≤ a.toInt ∧ a.toInt < 2147483647 := h_a
  have r_b : 0 ≤ b.toInt ∧ b.toInt < 2147483647 := h_b
  refine zp_seg (pc' := 2) (lv' := [(0, .int a), (1, .int b)]) (st' := [.long (a.toInt64)]) [(0, .iload_n 0), (1, .i2l)] (by decide +kernel) rfl ?_
  have k3 := zi2lM a
  generalize ev2 : (a.toInt64 : Int64) = v2 at k3 ⊢
  have kv2 := zrngL v2
  refine zp_seg (pc' := 4) (lv' := [(0, .int a), (1, .int b)]) (st' := [.long (b.toInt64), .long v2]) [(2, .iload_n 1), (3, .i2l)] (by decide +kernel) rfl ?_
  have k4 := zi2lM b
  generalize ev4 : (b.toInt64 : Int64) = v4 at k4 ⊢
  have kv4 := zrngL v4
  refine zp_seg (pc' := 5) (lv' := [(0, .int a), (1, .int b)]) (st' := [.long (v2 * v4)]) [(4, .lmul)] (by decide +kernel) rfl ?_
  have k5 := zmulLN (a := v2) (b := v4) (by omega) (by omega)
  have k6 := zmulNN (a := v2.toInt) (b := v4.toInt) (by omega) (by omega)
  generalize ev5 : (v2 * v4 : Int64) = v5 at k5 ⊢
  have kv5 := zrngL v5
  refine zr_ldc2 (idx := 3) (v := 2147483647) (by decide +kernel) (by decide +kernel) ?_
  refine zr_lrem (by decide +kernel) (by decide) ?_
  obtain ⟨q8, eq8⟩ : ∃ x9 : Int64, x9 = v5 - v5 / 2147483647 * 2147483647 := ⟨_, rfl⟩
  rw [← eq8]
  have bq8 := zremB v5
  rw [← eq8] at bq8
  have mq8 := zremN (x := v5)
  rw [← eq8] at mq8
  have kq8 := zrngL q8
  refine zp_seg (pc' := 10) (lv' := [(0, .int a), (1, .int b)]) (st' := [.int (q8.toInt32)]) [(9, .l2i)] (by decide +kernel) rfl ?_
  have k7 := zl2iE q8 (by omega) (by omega)
  generalize ev10 : (q8.toInt32 : Int32) = v10 at k7 ⊢
  have kv10 := zrng v10
  refine zr_retI (by decide +kernel) rfl ?_
  rw [← hPost]; exact ⟨rfl, _, rfl, rfl, _, rfl, (by
        rw [show v2.toInt = a.toInt by omega, show v4.toInt = b.toInt by omega] at *
        refine ⟨show 0 ≤ Int32.toInt _ ∧ Int32.toInt _ < 2147483647 by omega, zf_mul (by omega)⟩)⟩
