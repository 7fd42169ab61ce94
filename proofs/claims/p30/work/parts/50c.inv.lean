set_option maxHeartbeats 8000000 in
set_option maxRecDepth 100000 in
theorem c_X16_inv {w : zM}  (a : Int32) (h_a : zr1 a) : zCon 2 zq_X16_inv [.int a] w (fun v9 w9' => w9' = w ∧ ∃ r9 : Int32, v9 = some (.int r9) ∧ (zr1 r9 ∧ zf r9 = zinvF (zf a))) := by
  intro d sz hd
  obtain ⟨d, rfl⟩ : ∃ d9, d = d9 + 1 := ⟨d - 1, by omega⟩
  generalize hPost : (fun (r9' : Option (Option Value)) (w9' : zM) (z9 : Nat) => z9 = sz ∧ ∃ v9, r9' = some v9 ∧ (w9' = w ∧ ∃ r9 : Int32, v9 = some (.int r9) ∧ (zr1 r9 ∧ zf r9 = zinvF (zf a)))) = Post
  show zP (d + 1) zq_X16_inv 0 [(0, .int a)] [] w sz 0 0 Post
  have k1 := zrng a
  refine zp_seg (pc' := 1) (lv' := [(0, .int a)]) (st' := [.int a]) [(0, .iload_n 0)] (by decide +kernel) rfl ?_
  refine zr_ldc2 (idx := 6) (v := 2147483645) (by decide +kernel) (by decide +kernel) ?_
  refine zr_callS (idx := 8) (j := 258) (by decide +kernel) (by decide +kernel) (by decide) (show zMe 258 = some zq_X16_pow from rfl) rfl rfl (Nat.le_of_ble_eq_true rfl) rfl rfl (Nat.le_of_ble_eq_true rfl) (Nat.le_of_ble_eq_true rfl) (c_X16_pow (w := w) a 2147483645 (by first | omega | decide | assumption) (by decide)) (by omega) (fun v4 w4 hp4 => ?_)
  obtain ⟨hpw4, r4, rfl, hr4⟩ := hp4
  replace hpw4 := hpw4.symm
  subst hpw4
  have kr4 := zrng r4
  show zP _ _ _ _ [.int r4] _ _ _ _ _
  refine zr_retI (by decide +kernel) rfl ?_
  rw [← hPost]; exact ⟨rfl, _, rfl, rfl, _, rfl, (by
        rw [show (2147483645 : Int64).toInt.toNat = 2147483645 by decide] at hr4
        unfold zinvF
        exact hr4)⟩

set_option maxHeartbeats 8000000 in
set_option maxRecDepth 100000 in
theorem c_X16_rest {w : zM}  (v : Int32) : zCon 1 zq_X16_rest [.int v] w (fun v9 w9' => w9' = w ∧ ∃ r9 : Int32, v9 = some (.int r9) ∧ (zr1 r9 ∧ zf r9 = zfI v.toInt)) := by
  intro d sz hd
  obtain ⟨d, rfl⟩ : ∃ d9, d = d9 + 1 := ⟨d - 1, by omega⟩
  generalize hPost : (fun (r9' : Option (Option Value)) (w9' : zM) (z9 : Nat) => z9 = sz ∧ ∃ v9, r9' = some v9 ∧ (w9' = w ∧ ∃ r9 : Int32, v9 = some (.int r9) ∧ (zr1 r9 ∧ zf r9 = zfI v.toInt))) = Post
  show zP (d + 1) zq_X16_rest 0 [(0, .int v)] [] w sz 0 0 Post
  have k1 := zrng v
  refine zp_seg (pc' := 1) (lv' := [(0, .int v)]) (st' := [.int v]) [(0, .iload_n 0)] (by decide +kernel) rfl ?_
  refine zr_ldc (idx := 5) (v := 2147483647) (by decide +kernel) (by decide +kernel) ?_
  refine zr_irem (by decide +kernel) (by decide) ?_
  obtain ⟨q3, eq3⟩ : ∃ x9 : Int32, x9 = v - v / 2147483647 * 2147483647 := ⟨_, rfl⟩
  rw [← eq3]
  have mq3 := ziremI v 2147483647 (by first | decide | omega)
  rw [← eq3] at mq3
  rw [show (2147483647 : Int32).toInt = 2147483647 from by decide] at mq3
  have kq3 := zrng q3
  refine zp_seg (pc' := 6) (lv' := [(1, .int q3), (0, .int v)]) (st' := [.int q3]) [(4, .istore_n 1), (5, .iload_n 1)] (by decide +kernel) rfl ?_
  refine zp_if (i := .ifCond .ge 10) (c := 0 ≤ q3) (t := 16) (e := 9) (lv' := [(1, .int q3), (0, .int v)]) (st' := []) (by decide +kernel) rfl (fun cc6 => ?_) (fun cc6 => ?_)
  ·
    have f4 := zleI cc6
    rw [show (0 : Int32).toInt = 0 from by decide] at f4
    refine zp_seg (pc' := 17) (lv' := [(1, .int q3), (0, .int v)]) (st' := [.int q3]) [(16, .iload_n 1)] (by decide +kernel) rfl ?_
    refine zr_retI (by decide +kernel) rfl ?_
    rw [← hPost]; exact ⟨rfl, _, rfl, rfl, _, rfl, (by
          have h1 := Int.tmod_add_tdiv_mul v.toInt 2147483647
          have h2 := Int.tmod_lt_of_pos v.toInt (show (0 : Int) < 2147483647 by decide)
          have h3 := Int.lt_tmod_of_pos v.toInt (show (0 : Int) < 2147483647 by decide)
          exact ⟨show 0 ≤ Int32.toInt _ ∧ Int32.toInt _ < 2147483647 by omega, zfI_eq (by omega)⟩)⟩
  ·
    have f6 := znleI cc6
    rw [show (0 : Int32).toInt = 0 from by decide] at f6
    refine zp_seg (pc' := 10) (lv' := [(1, .int q3), (0, .int v)]) (st' := [.int q3]) [(9, .iload_n 1)] (by decide +kernel) rfl ?_
    refine zr_ldc (idx := 5) (v := 2147483647) (by decide +kernel) (by decide +kernel) ?_
    refine zp_seg (pc' := 13) (lv' := [(1, .int q3), (0, .int v)]) (st' := [.int (q3 + 2147483647)]) [(12, .iadd)] (by decide +kernel) rfl ?_
    have k7 := zaddC q3 2147483647 (n := 2147483647) (by decide) (by omega) (by omega)
    generalize ev13 : (q3 + 2147483647 : Int32) = v13 at k7 ⊢
    have kv13 := zrng v13
    refine zp_seg (pc' := 17) (lv' := [(1, .int q3), (0, .int v)]) (st' := [.int v13]) [(13, .goto 4)] (by decide +kernel) rfl ?_
    refine zr_retI (by decide +kernel) rfl ?_
    rw [← hPost]; exact ⟨rfl, _, rfl, rfl, _, rfl, (by
          have h1 := Int.tmod_add_tdiv_mul v.toInt 2147483647
          have h2 := Int.tmod_lt_of_pos v.toInt (show (0 : Int) < 2147483647 by decide)
          have h3 := Int.lt_tmod_of_pos v.toInt (show (0 : Int) < 2147483647 by decide)
          exact ⟨show 0 ≤ Int32.toInt _ ∧ Int32.toInt _ < 2147483647 by omega, zfI_eq (by omega)⟩)⟩

set_option maxHeartbeats 8000000 in
set_option maxRecDepth 100000 in
theorem c_X16_small {w : zM}  (a : Int32) (h_a : zr1 a) : zCon 1 zq_X16_small [.int a] w (fun v9 w9' => w9' = w ∧ ∃ r9 : Int32, v9 = some (.int r9) ∧ ((-1073741824 < r9.toInt ∧ r9.toInt ≤ 1073741823) ∧ (r9.toInt = a.toInt ∨ r9.toInt = a.toInt - 2147483647))) := by
  intro d sz hd
  obtain ⟨d, rfl⟩ : ∃ d9, d = d9 + 1 := ⟨d - 1, by omega⟩
  generalize hPost : (fun (r9' : Option (Option Value)) (w9' : zM) (z9 : Nat) => z9 = sz ∧ ∃ v9, r9' = some v9 ∧ (w9' = w ∧ ∃ r9 : Int32, v9 = some (.int r9) ∧ ((-1073741824 < r9.toInt ∧ r9.toInt ≤ 1073741823) ∧ (r9.toInt = a.toInt ∨ r9.toInt = a.toInt - 2147483647)))) = Post
  show zP (d + 1) zq_X16_small 0 [(0, .int a)] [] w sz 0 0 Post
  have k1 := zrng a
  have r_a : 0 ≤ a.toInt ∧ a.toInt < 2147483647 := h_a
  refine zp_seg (pc' := 1) (lv' := [(0, .int a)]) (st' := [.int a]) [(0, .iload_n 0)] (by decide +kernel) rfl ?_
  refine zr_ldc (idx := 12) (v := 1073741823) (by decide +kernel) (by decide +kernel) ?_
  refine zp_if (i := .if_icmp .le 10) (c := a ≤ 1073741823) (t := 13) (e := 6) (lv' := [(0, .int a)]) (st' := []) (by decide +kernel) rfl (fun cc3 => ?_) (fun cc3 => ?_)
  ·
    have f3 := zleI cc3
    rw [show (1073741823 : Int32).toInt = 1073741823 from by decide] at f3
    refine zp_seg (pc' := 14) (lv' := [(0, .int a)]) (st' := [.int a]) [(13, .iload_n 0)] (by decide +kernel) rfl ?_
    refine zr_retI (by decide +kernel) rfl ?_
    rw [← hPost]; exact ⟨rfl, _, rfl, rfl, _, rfl, (by
          omega)⟩
  ·
    have f5 := znleI cc3
    rw [show (1073741823 : Int32).toInt = 1073741823 from by decide] at f5
    refine zp_seg (pc' := 7) (lv' := [(0, .int a)]) (st' := [.int a]) [(6, .iload_n 0)] (by decide +kernel) rfl ?_
    refine zr_ldc (idx := 5) (v := 2147483647) (by decide +kernel) (by decide +kernel) ?_
    refine zp_seg (pc' := 10) (lv' := [(0, .int a)]) (st' := [.int (a - 2147483647)]) [(9, .isub)] (by decide +kernel) rfl ?_
    have k6 := zsubC a 2147483647 (n := 2147483647) (by decide) (by omega) (by omega)
    generalize ev10 : (a - 2147483647 : Int32) = v10 at k6 ⊢
    have kv10 := zrng v10
    refine zp_seg (pc' := 14) (lv' := [(0, .int a)]) (st' := [.int v10]) [(10, .goto 4)] (by decide +kernel) rfl ?_
    refine zr_retI (by decide +kernel) rfl ?_
    rw [← hPost]; exact ⟨rfl, _, rfl, rfl, _, rfl, (by
          omega)⟩

set_option maxHeartbeats 8000000 in
set_option maxRecDepth 100000 in
theorem c_X16_power {w : zM}  (a : Int32) (e : Int32) (h_a : zr1 a) : zCon 3 zq_X16_power [.int a, .int e] w (fun v9 w9' => w9' = w ∧ ∃ r9 : Int32, v9 = some (.int r9) ∧ (zr1 r9 ∧ (zf a ≠ 0 → zf r9 ≠ 0))) := by
  intro d sz hd
  obtain ⟨d, rfl⟩ : ∃ d9, d = d9 + 1 := ⟨d - 1, by omega⟩
  generalize hPost : (fun (r9' : Option (Option Value)) (w9' : zM) (z9 : Nat) => z9 = sz ∧ ∃ v9, r9' = some v9 ∧ (w9' = w ∧ ∃ r9 : Int32, v9 = some (.int r9) ∧ (zr1 r9 ∧ (zf a ≠ 0 → zf r9 ≠ 0)))) = Post
  show zP (d + 1) zq_X16_power 0 [(0, .int a), (1, .int e)] [] w sz 0 0 Post
  have k1 := zrng a
  have k2 := zrng e
  refine zp_seg (pc' := 1) (lv' := [(0, .int a), (1, .int e)]) (st' := [.int e]) [(0, .iload_n 1)] (by decide +kernel) rfl ?_
  refine zp_if (i := .ifCond .ge 16) (c := 0 ≤ e) (t := 17) (e := 4) (lv' := [(0, .int a), (1, .int e)]) (st' := []) (by decide +kernel) rfl (fun cc1 => ?_) (fun cc1 => ?_)
  ·
    have f4 := zleI cc1
    rw [show (0 : Int32).toInt = 0 from by decide] at f4
    refine zp_seg (pc' := 20) (lv' := [(0, .int a), (1, .int e)]) (st' := [.long (e.toInt64), .int a]) [(17, .iload_n 0), (18, .iload_n 1), (19, .i2l)] (by decide +kernel) rfl ?_
    have k5 := zi2lM e
    generalize ev20 : (e.toInt64 : Int64) = v20 at k5 ⊢
    have kv20 := zrngL v20
    refine zr_callS (idx := 8) (j := 258) (by decide +kernel) (by decide +kernel) (by decide) (show zMe 258 = some zq_X16_pow from rfl) rfl rfl (Nat.le_of_ble_eq_true rfl) rfl rfl (Nat.le_of_ble_eq_true rfl) (Nat.le_of_ble_eq_true rfl) (c_X16_pow (w := w) a v20 (by first | omega | decide | assumption) (by omega)) (by omega) (fun v20 w20 hp20 => ?_)
    obtain ⟨hpw20, r20, rfl, hr20⟩ := hp20
    replace hpw20 := hpw20.symm
    subst hpw20
    have kr20 := zrng r20
    show zP _ _ _ _ [.int r20] _ _ _ _ _
    refine zr_retI (by decide +kernel) rfl ?_
    rw [← hPost]; exact ⟨rfl, _, rfl, rfl, _, rfl, (by
          first
            | exact ⟨hr11.1, fun h => by rw [hr11.2]; exact zinvF_ne (by rw [hr8.2]; exact zpw_ne h _)⟩
            | exact ⟨hr20.1, fun h => by rw [hr20.2]; exact zpw_ne h _⟩)⟩
  ·
    have f7 := znleI cc1
    rw [show (0 : Int32).toInt = 0 from by decide] at f7
    refine zp_seg (pc' := 7) (lv' := [(0, .int a), (1, .int e)]) (st' := [.long (e.toInt64), .int a]) [(4, .iload_n 0), (5, .iload_n 1), (6, .i2l)] (by decide +kernel) rfl ?_
    have k8 := zi2lM e
    generalize ev7 : (e.toInt64 : Int64) = v7 at k8 ⊢
    have kv7 := zrngL v7
    refine zp_seg (pc' := 8) (lv' := [(0, .int a), (1, .int e)]) (st' := [.long (-v7), .int a]) [(7, .lneg)] (by decide +kernel) rfl ?_
    have k9 := znegLE v7 (by omega)
    generalize ev8 : (-v7 : Int64) = v8 at k9 ⊢
    have kv8 := zrngL v8
    refine zr_callS (idx := 8) (j := 258) (by decide +kernel) (by decide +kernel) (by decide) (show zMe 258 = some zq_X16_pow from rfl) rfl rfl (Nat.le_of_ble_eq_true rfl) rfl rfl (Nat.le_of_ble_eq_true rfl) (Nat.le_of_ble_eq_true rfl) (c_X16_pow (w := w) a v8 (by first | omega | decide | assumption) (by omega)) (by omega) (fun v8 w8 hp8 => ?_)
    obtain ⟨hpw8, r8, rfl, hr8⟩ := hp8
    replace hpw8 := hpw8.symm
    subst hpw8
    have kr8 := zrng r8
    show zP _ _ _ _ [.int r8] _ _ _ _ _
    refine zr_callS (idx := 13) (j := 259) (by decide +kernel) (by decide +kernel) (by decide) (show zMe 259 = some zq_X16_inv from rfl) rfl rfl (Nat.le_of_ble_eq_true rfl) rfl rfl (Nat.le_of_ble_eq_true rfl) (Nat.le_of_ble_eq_true rfl) (c_X16_inv (w := w) r8 (by exact hr8.1)) (by omega) (fun v11 w11 hp11 => ?_)
    obtain ⟨hpw11, r11, rfl, hr11⟩ := hp11
    replace hpw11 := hpw11.symm
    subst hpw11
    have kr11 := zrng r11
    show zP _ _ _ _ [.int r11] _ _ _ _ _
    refine zp_seg (pc' := 23) (lv' := [(0, .int a), (1, .int e)]) (st' := [.int r11]) [(14, .goto 9)] (by decide +kernel) rfl ?_
    refine zr_retI (by decide +kernel) rfl ?_
    rw [← hPost]; exact ⟨rfl, _, rfl, rfl, _, rfl, (by
          first
            | exact ⟨hr11.1, fun h => by rw [hr11.2]; exact zinvF_ne (by rw [hr8.2]; exact zpw_ne h _)⟩
            | exact ⟨hr20.1, fun h => by rw [hr20.2]; exact zpw_ne h _⟩)⟩
