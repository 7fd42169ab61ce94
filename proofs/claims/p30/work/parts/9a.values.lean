set_option maxHeartbeats 8000000 in
set_option maxRecDepth 100000 in
theorem c_X16_cells {w : zM} {fc : Nat → Int32} (m : Nat) (cells : Nat) (n : Int32) (k : Int32) (hA_cells : w cells = some (.inr (0, 325, .inl fc))) (hcr : zCr fc) (h_n : zr1 n) (h_k : zr1 k) : zCon 1 zq_X16_cells [.ref m, .ref cells, .int n, .int k] w (fun v9 w9' => w9' = w ∧ ∃ r9 : Int32, v9 = some (.int r9) ∧ (zr1 r9)) := by
  intro d sz hd
  obtain ⟨d, rfl⟩ : ∃ d9, d = d9 + 1 := ⟨d - 1, by omega⟩
  generalize hPost : (fun (r9' : Option (Option Value)) (w9' : zM) (z9 : Nat) => z9 = sz ∧ ∃ v9, r9' = some v9 ∧ (w9' = w ∧ ∃ r9 : Int32, v9 = some (.int r9) ∧ (zr1 r9))) = Post
  show zP (d + 1) zq_X16_cells 0 [(0, .ref m), (1, .ref cells), (2, .int n), (3, .int k)] [] w sz 0 0 Post
  have k1 := zrng n
  have k2 := zrng k
  have r_n : 0 ≤ n.toInt ∧ n.toInt < 2147483647 := h_n
  have r_k : 0 ≤ k.toInt ∧ k.toInt < 2147483647 := h_k
  refine zp_seg (pc' := 7) (lv' := [(6, .int 12), (4, .long 0), (0, .ref m), (1, .ref cells), (2, .int n), (3, .int k)]) (st' := []) [(0, .lconst 0), (1, .lstore 4), (3, .bipush 12), (5, .istore 6)] (by decide +kernel) rfl ?_
  have hL7 : ∀ (mm7 : Nat) (y4_7 : Int64) (y6_7 : Int32), (0 ≤ y4_7.toInt) → (y4_7.toInt < 2147483647) → (-1 ≤ y6_7.toInt) → (y6_7.toInt ≤ 12) → (y6_7.toInt + 1).toNat < mm7 → zP (d + 1) zq_X16_cells 7 [(1, .ref cells), (2, .int n), (3, .int k), (4, .long y4_7), (6, .int y6_7)] [] w sz 0 0 Post := by
    intro mm7
    induction mm7 with
    | zero => intros; omega
    | succ mm7 ih7 =>
    intro y4_7 y6_7 hi7_0 hi7_1 hi7_2 hi7_3 hmu7
    have ky4_7 := zrngL y4_7
    have ky6_7 := zrng y6_7
    refine zp_seg (pc' := 9) (lv' := [(1, .ref cells), (2, .int n), (3, .int k), (4, .long y4_7), (6, .int y6_7)]) (st' := [.int y6_7]) [(7, .iload 6)] (by decide +kernel) rfl ?_
    refine zp_if (i := .ifCond .lt 64) (c := y6_7 < 0) (t := 73) (e := 12) (lv' := [(1, .ref cells), (2, .int n), (3, .int k), (4, .long y4_7), (6, .int y6_7)]) (st' := []) (by decide +kernel) rfl (fun cc9 => ?_) (fun cc9 => ?_)
    ·
      have f4 := zltI cc9
      rw [show (0 : Int32).toInt = 0 from by decide] at f4
      refine zp_seg (pc' := 76) (lv' := [(1, .ref cells), (2, .int n), (3, .int k), (4, .long y4_7), (6, .int y6_7)]) (st' := [.int (y4_7.toInt32)]) [(73, .lload 4), (75, .l2i)] (by decide +kernel) rfl ?_
      have k5 := zl2iE y4_7 (by omega) (by omega)
      generalize ev76 : (y4_7.toInt32 : Int32) = v76 at k5 ⊢
      have kv76 := zrng v76
      refine zr_retI (by decide +kernel) rfl ?_
      rw [← hPost]; exact ⟨rfl, _, rfl, rfl, _, rfl, (by
            exact show 0 ≤ Int32.toInt _ ∧ Int32.toInt _ < 2147483647 by omega)⟩
    ·
      have f7 := znltI cc9
      rw [show (0 : Int32).toInt = 0 from by decide] at f7
      refine zp_seg (pc' := 19) (lv' := [(9, .int 24), (7, .long 0), (1, .ref cells), (2, .int n), (3, .int k), (4, .long y4_7), (6, .int y6_7)]) (st' := []) [(12, .lconst 0), (13, .lstore 7), (15, .bipush 24), (17, .istore 9)] (by decide +kernel) rfl ?_
      have hL19 : ∀ (mm19 : Nat) (y7_19 : Int64) (y9_19 : Int32), (0 ≤ y7_19.toInt) → (y7_19.toInt < 2147483647) → (-1 ≤ y9_19.toInt) → (y9_19.toInt ≤ 24) → (y9_19.toInt + 1).toNat < mm19 → zP (d + 1) zq_X16_cells 19 [(1, .ref cells), (2, .int n), (3, .int k), (4, .long y4_7), (6, .int y6_7), (7, .long y7_19), (9, .int y9_19)] [] w sz 0 0 Post := by
        intro mm19
        induction mm19 with
        | zero => intros; omega
        | succ mm19 ih19 =>
        intro y7_19 y9_19 hi19_0 hi19_1 hi19_2 hi19_3 hmu19
        have ky7_19 := zrngL y7_19
        have ky9_19 := zrng y9_19
        refine zp_seg (pc' := 21) (lv' := [(1, .ref cells), (2, .int n), (3, .int k), (4, .long y4_7), (6, .int y6_7), (7, .long y7_19), (9, .int y9_19)]) (st' := [.int y9_19]) [(19, .iload 9)] (by decide +kernel) rfl ?_
        refine zp_if (i := .ifCond .lt 32) (c := y9_19 < 0) (t := 53) (e := 24) (lv' := [(1, .ref cells), (2, .int n), (3, .int k), (4, .long y4_7), (6, .int y6_7), (7, .long y7_19), (9, .int y9_19)]) (st' := []) (by decide +kernel) rfl (fun cc21 => ?_) (fun cc21 => ?_)
        ·
          have f8 := zltI cc21
          rw [show (0 : Int32).toInt = 0 from by decide] at f8
          refine zp_seg (pc' := 57) (lv' := [(1, .ref cells), (2, .int n), (3, .int k), (4, .long y4_7), (6, .int y6_7), (7, .long y7_19), (9, .int y9_19)]) (st' := [.long (k.toInt64), .long y4_7]) [(53, .lload 4), (55, .iload_n 3), (56, .i2l)] (by decide +kernel) rfl ?_
          have k9 := zi2lM k
          generalize ev57 : (k.toInt64 : Int64) = v57 at k9 ⊢
          have kv57 := zrngL v57
          refine zp_seg (pc' := 58) (lv' := [(1, .ref cells), (2, .int n), (3, .int k), (4, .long y4_7), (6, .int y6_7), (7, .long y7_19), (9, .int y9_19)]) (st' := [.long (y4_7 * v57)]) [(57, .lmul)] (by decide +kernel) rfl ?_
          have k10 := zmulLN (a := y4_7) (b := v57) (by omega) (by omega)
          have k11 := zmulNN (a := y4_7.toInt) (b := v57.toInt) (by omega) (by omega)
          generalize ev58 : (y4_7 * v57 : Int64) = v58 at k10 ⊢
          have kv58 := zrngL v58
          refine zp_seg (pc' := 61) (lv' := [(1, .ref cells), (2, .int n), (3, .int k), (4, .long y4_7), (6, .int y6_7), (7, .long y7_19), (9, .int y9_19)]) (st' := [.long (v58 + y7_19)]) [(58, .lload 7), (60, .ladd)] (by decide +kernel) rfl ?_
          have k12 := zaddLE v58 y7_19 (by omega) (by omega)
          generalize ev61 : (v58 + y7_19 : Int64) = v61 at k12 ⊢
          have kv61 := zrngL v61
          refine zr_ldc2 (idx := 3) (v := 2147483647) (by decide +kernel) (by decide +kernel) ?_
          refine zr_lrem (by decide +kernel) (by decide) ?_
          obtain ⟨q64, eq64⟩ : ∃ x9 : Int64, x9 = v61 - v61 / 2147483647 * 2147483647 := ⟨_, rfl⟩
          rw [← eq64]
          have bq64 := zremB v61
          rw [← eq64] at bq64
          have mq64 := zremN (x := v61)
          rw [← eq64] at mq64
          have kq64 := zrngL q64
          refine zp_seg (pc' := 70) (lv' := [(6, .int (y6_7 + (Int32.ofInt (-1)))), (4, .long q64), (1, .ref cells), (2, .int n), (3, .int k), (7, .long y7_19), (9, .int y9_19)]) (st' := []) [(65, .lstore 4), (67, .iinc 6 (-1))] (by decide +kernel) rfl ?_
          have k13 := zaddC y6_7 ((Int32.ofInt (-1))) (n := (-1)) (by decide) (by omega) (by omega)
          generalize ev70 : (y6_7 + (Int32.ofInt (-1)) : Int32) = v70 at k13 ⊢
          have kv70 := zrng v70
          refine zp_seg (pc' := 7) (lv' := [(6, .int v70), (4, .long q64), (1, .ref cells), (2, .int n), (3, .int k), (7, .long y7_19), (9, .int y9_19)]) (st' := []) [(70, .goto (-63))] (by decide +kernel) rfl ?_
          exact (ih7 q64 v70 (by first | assumption | omega | decide) (by first | assumption | omega | decide) (by first | assumption | omega | decide) (by first | assumption | omega | decide) (by omega)).more (zfa1 rfl (zfa1 rfl (zfa1 rfl (zfa1 rfl (zfa1 rfl (zfa0))))))
        ·
          have f14 := znltI cc21
          rw [show (0 : Int32).toInt = 0 from by decide] at f14
          refine zp_seg (pc' := 28) (lv' := [(1, .ref cells), (2, .int n), (3, .int k), (4, .long y4_7), (6, .int y6_7), (7, .long y7_19), (9, .int y9_19)]) (st' := [.long (n.toInt64), .long y7_19]) [(24, .lload 7), (26, .iload_n 2), (27, .i2l)] (by decide +kernel) rfl ?_
          have k15 := zi2lM n
          generalize ev28 : (n.toInt64 : Int64) = v28 at k15 ⊢
          have kv28 := zrngL v28
          refine zp_seg (pc' := 29) (lv' := [(1, .ref cells), (2, .int n), (3, .int k), (4, .long y4_7), (6, .int y6_7), (7, .long y7_19), (9, .int y9_19)]) (st' := [.long (y7_19 * v28)]) [(28, .lmul)] (by decide +kernel) rfl ?_
          have k16 := zmulLN (a := y7_19) (b := v28) (by omega) (by omega)
          have k17 := zmulNN (a := y7_19.toInt) (b := v28.toInt) (by omega) (by omega)
          generalize ev29 : (y7_19 * v28 : Int64) = v29 at k16 ⊢
          have kv29 := zrngL v29
          refine zp_seg (pc' := 35) (lv' := [(1, .ref cells), (2, .int n), (3, .int k), (4, .long y4_7), (6, .int y6_7), (7, .long y7_19), (9, .int y9_19)]) (st' := [.int (25 * y6_7), .ref cells, .long v29]) [(29, .aload_n 1), (30, .bipush 25), (32, .iload 6), (34, .imul)] (by decide +kernel) rfl ?_
          have k18 := zmulCl 25 y6_7 (n := 25) (by decide) (by omega) (by omega)
          generalize ev35 : (25 * y6_7 : Int32) = v35 at k18 ⊢
          have kv35 := zrng v35
          refine zp_seg (pc' := 38) (lv' := [(1, .ref cells), (2, .int n), (3, .int k), (4, .long y4_7), (6, .int y6_7), (7, .long y7_19), (9, .int y9_19)]) (st' := [.int (v35 + y9_19), .ref cells, .long v29]) [(35, .iload 9), (37, .iadd)] (by decide +kernel) rfl ?_
          have k19 := zadd v35 y9_19 (by omega) (by omega)
          generalize ev38 : (v35 + y9_19 : Int32) = v38 at k19 ⊢
          have kv38 := zrng v38
          refine zr_iald (by decide +kernel) hA_cells (zin (by first | omega | decide) (by first | omega | decide)) ?_
          have hz20 : (v38.toNatClampNeg : Int) = v38.toInt := znat (by first | omega | decide)
          obtain ⟨x38, ex38⟩ : ∃ x9, x9 = fc (v38.toNatClampNeg) := ⟨_, rfl⟩
          rw [← ex38]
          have kx38 := zrng x38
          have hwx9 : 0 ≤ x38.toInt ∧ x38.toInt < 2147483647 := by
            rw [ex38]
            exact hcr _ (by omega)
          refine zp_seg (pc' := 40) (lv' := [(1, .ref cells), (2, .int n), (3, .int k), (4, .long y4_7), (6, .int y6_7), (7, .long y7_19), (9, .int y9_19)]) (st' := [.long (x38.toInt64), .long v29]) [(39, .i2l)] (by decide +kernel) rfl ?_
          have k21 := zi2lM x38
          generalize ev40 : (x38.toInt64 : Int64) = v40 at k21 ⊢
          have kv40 := zrngL v40
          refine zp_seg (pc' := 41) (lv' := [(1, .ref cells), (2, .int n), (3, .int k), (4, .long y4_7), (6, .int y6_7), (7, .long y7_19), (9, .int y9_19)]) (st' := [.long (v29 + v40)]) [(40, .ladd)] (by decide +kernel) rfl ?_
          have k22 := zaddLE v29 v40 (by omega) (by omega)
          generalize ev41 : (v29 + v40 : Int64) = v41 at k22 ⊢
          have kv41 := zrngL v41
          refine zr_ldc2 (idx := 3) (v := 2147483647) (by decide +kernel) (by decide +kernel) ?_
          refine zr_lrem (by decide +kernel) (by decide) ?_
          obtain ⟨q44, eq44⟩ : ∃ x9 : Int64, x9 = v41 - v41 / 2147483647 * 2147483647 := ⟨_, rfl⟩
          rw [← eq44]
          have bq44 := zremB v41
          rw [← eq44] at bq44
          have mq44 := zremN (x := v41)
          rw [← eq44] at mq44
          have kq44 := zrngL q44
          refine zp_seg (pc' := 50) (lv' := [(9, .int (y9_19 + (Int32.ofInt (-1)))), (7, .long q44), (1, .ref cells), (2, .int n), (3, .int k), (4, .long y4_7), (6, .int y6_7)]) (st' := []) [(45, .lstore 7), (47, .iinc 9 (-1))] (by decide +kernel) rfl ?_
          have k23 := zaddC y9_19 ((Int32.ofInt (-1))) (n := (-1)) (by decide) (by omega) (by omega)
          generalize ev50 : (y9_19 + (Int32.ofInt (-1)) : Int32) = v50 at k23 ⊢
          have kv50 := zrng v50
          refine zp_seg (pc' := 19) (lv' := [(9, .int v50), (7, .long q44), (1, .ref cells), (2, .int n), (3, .int k), (4, .long y4_7), (6, .int y6_7)]) (st' := []) [(50, .goto (-31))] (by decide +kernel) rfl ?_
          exact (ih19 q44 v50 (by first | assumption | omega | decide) (by first | assumption | omega | decide) (by first | assumption | omega | decide) (by first | assumption | omega | decide) (by omega)).more (zfa1 rfl (zfa1 rfl (zfa1 rfl (zfa1 rfl (zfa1 rfl (zfa1 rfl (zfa1 rfl (zfa0))))))))
      have hl24 : (24 : Int32).toInt = 24 := by decide
      exact (hL19 _ 0 24 (by first | assumption | omega | decide) (by first | assumption | omega | decide) (by first | assumption | omega | decide) (by first | assumption | omega | decide) (Nat.lt_succ_self _)).more (zfa1 rfl (zfa1 rfl (zfa1 rfl (zfa1 rfl (zfa1 rfl (zfa1 rfl (zfa1 rfl (zfa0))))))))
  have hl25 : (12 : Int32).toInt = 12 := by decide
  exact (hL7 _ 0 12 (by first | assumption | omega | decide) (by first | assumption | omega | decide) (by first | assumption | omega | decide) (by first | assumption | omega | decide) (Nat.lt_succ_self _)).more (zfa1 rfl (zfa1 rfl (zfa1 rfl (zfa1 rfl (zfa1 rfl (zfa0))))))

set_option maxHeartbeats 8000000 in
set_option maxRecDepth 100000 in
theorem c_X16_ratioAt {w : zM} {g : Nat → Int32} {r : Nat → Value} {gt fn fd : Nat → Int32} (m : Nat) (t : Nat) (n : Int32) (k : Int32) (hm : w m = some (.inl (15, zMo m g r))) (hR_m : zR m w) (hT_t : w t = some (.inl (13, zTo t gt))) (hA_t_1 : w (t + 1) = some (.inr (0, 325, .inl fn))) (hA_t_2 : w (t + 2) = some (.inr (0, 325, .inl fd))) (hcn : zCr fn) (hcd : zCr fd) (h_n : zr1 n) (h_k : zr1 k) : zCon 3 zq_X16_ratioAt [.ref m, .ref t, .int n, .int k] w (fun v9 w9' => w9' = w ∧ ∃ r9 : Int32, v9 = some (.int r9) ∧ (r9 = Int32.ofInt (-1) ∨ zr1 r9)) := by
  intro d sz hd
  obtain ⟨d, rfl⟩ : ∃ d9, d = d9 + 1 := ⟨d - 1, by omega⟩
  generalize hPost : (fun (r9' : Option (Option Value)) (w9' : zM) (z9 : Nat) => z9 = sz ∧ ∃ v9, r9' = some v9 ∧ (w9' = w ∧ ∃ r9 : Int32, v9 = some (.int r9) ∧ (r9 = Int32.ofInt (-1) ∨ zr1 r9))) = Post
  show zP (d + 1) zq_X16_ratioAt 0 [(0, .ref m), (1, .ref t), (2, .int n), (3, .int k)] [] w sz 0 0 Post
  have k1 := zrng n
  have k2 := zrng k
  refine zp_seg (pc' := 2) (lv' := [(0, .ref m), (1, .ref t), (2, .int n), (3, .int k)]) (st' := [.ref t, .ref m]) [(0, .aload_n 0), (1, .aload_n 1)] (by decide +kernel) rfl ?_
  refine zr_get (idx := 210) (k := 2) (v := .ref (t + 2)) (by decide +kernel) (by decide +kernel) hT_t rfl ?_
  refine zp_seg (pc' := 7) (lv' := [(0, .ref m), (1, .ref t), (2, .int n), (3, .int k)]) (st' := [.int k, .int n, .ref (t + 2), .ref m]) [(5, .iload_n 2), (6, .iload_n 3)] (by decide +kernel) rfl ?_
  refine zr_callV (idx := 674) (j := 374) (by decide +kernel) (by decide +kernel) (show zMe 374 = some zq_X16_cells from rfl) rfl rfl (Nat.le_of_ble_eq_true rfl) rfl rfl hm (Nat.le_of_ble_eq_true rfl) (Nat.le_of_ble_eq_true rfl) (c_X16_cells (w := w) m (t + 2) n k hA_t_2 (by exact hcd) (by first | omega | decide | assumption | exact zr1_1 | exact zr1_0 | fail "num") (by first | omega | decide | assumption | exact zr1_1 | exact zr1_0 | fail "num")) (by omega) (fun v7 w7 hp7 => ?_)
  obtain ⟨hpw7, r7, rfl, hr7⟩ := hp7
  replace hpw7 := hpw7.symm
  subst hpw7
  have kr7 := zrng r7
  show zP _ _ _ _ [.int r7] _ _ _ _ _
  refine zp_seg (pc' := 14) (lv' := [(4, .int r7), (0, .ref m), (1, .ref t), (2, .int n), (3, .int k)]) (st' := [.int r7]) [(10, .istore 4), (12, .iload 4)] (by decide +kernel) rfl ?_
  refine zp_if (i := .ifCond .ne 7) (c := ¬ r7 = 0) (t := 21) (e := 17) (lv' := [(4, .int r7), (0, .ref m), (1, .ref t), (2, .int n), (3, .int k)]) (st' := []) (by decide +kernel) rfl (fun cc14 => ?_) (fun cc14 => ?_)
  ·
    have f4 := zneI cc14
    rw [show (0 : Int32).toInt = 0 from by decide] at f4
    refine zp_seg (pc' := 23) (lv' := [(4, .int r7), (0, .ref m), (1, .ref t), (2, .int n), (3, .int k)]) (st' := [.ref t, .ref m]) [(21, .aload_n 0), (22, .aload_n 1)] (by decide +kernel) rfl ?_
    refine zr_get (idx := 207) (k := 1) (v := .ref (t + 1)) (by decide +kernel) (by decide +kernel) hT_t rfl ?_
    refine zp_seg (pc' := 28) (lv' := [(4, .int r7), (0, .ref m), (1, .ref t), (2, .int n), (3, .int k)]) (st' := [.int k, .int n, .ref (t + 1), .ref m]) [(26, .iload_n 2), (27, .iload_n 3)] (by decide +kernel) rfl ?_
    refine zr_callV (idx := 674) (j := 374) (by decide +kernel) (by decide +kernel) (show zMe 374 = some zq_X16_cells from rfl) rfl rfl (Nat.le_of_ble_eq_true rfl) rfl rfl hm (Nat.le_of_ble_eq_true rfl) (Nat.le_of_ble_eq_true rfl) (c_X16_cells (w := w) m (t + 1) n k hA_t_1 (by exact hcn) (by first | omega | decide | assumption | exact zr1_1 | exact zr1_0 | fail "num") (by first | omega | decide | assumption | exact zr1_1 | exact zr1_0 | fail "num")) (by omega) (fun v28 w28 hp28 => ?_)
    obtain ⟨hpw28, r28, rfl, hr28⟩ := hp28
    replace hpw28 := hpw28.symm
    subst hpw28
    have kr28 := zrng r28
    show zP _ _ _ _ [.int r28] _ _ _ _ _
    refine zp_seg (pc' := 33) (lv' := [(4, .int r7), (0, .ref m), (1, .ref t), (2, .int n), (3, .int k)]) (st' := [.int r7, .int r28]) [(31, .iload 4)] (by decide +kernel) rfl ?_
    refine zr_callS (idx := 13) (j := 259) (by decide +kernel) (by decide +kernel) (by decide) (show zMe 259 = some zq_X16_inv from rfl) rfl rfl (Nat.le_of_ble_eq_true rfl) rfl rfl (Nat.le_of_ble_eq_true rfl) (Nat.le_of_ble_eq_true rfl) (c_X16_inv (w := w) r7 (by first | exact hr7.1 | omega | decide | assumption | exact zr1_1 | exact zr1_0 | fail "num")) (by omega) (fun v33 w33 hp33 => ?_)
    obtain ⟨hpw33, r33, rfl, hr33⟩ := hp33
    replace hpw33 := hpw33.symm
    subst hpw33
    have kr33 := zrng r33
    show zP _ _ _ _ [.int r33, .int r28] _ _ _ _ _
    refine zr_callS (idx := 56) (j := 257) (by decide +kernel) (by decide +kernel) (by decide) (show zMe 257 = some zq_X16_mul from rfl) rfl rfl (Nat.le_of_ble_eq_true rfl) rfl rfl (Nat.le_of_ble_eq_true rfl) (Nat.le_of_ble_eq_true rfl) (c_X16_mul (w := w) r28 r33 (by first | exact hr28.1 | omega | decide | assumption | exact zr1_1 | exact zr1_0 | fail "num") (by first | exact hr33.1 | omega | decide | assumption | exact zr1_1 | exact zr1_0 | fail "num")) (by omega) (fun v36 w36 hp36 => ?_)
    obtain ⟨hpw36, r36, rfl, hr36⟩ := hp36
    replace hpw36 := hpw36.symm
    subst hpw36
    have kr36 := zrng r36
    show zP _ _ _ _ [.int r36] _ _ _ _ _
    refine zr_retI (by decide +kernel) rfl ?_
    rw [← hPost]; exact ⟨rfl, _, rfl, rfl, _, rfl, (by
          first | exact Or.inl rfl | exact Or.inr hr36.1)⟩
  ·
    replace cc14 := Classical.not_not.mp cc14
    have f6 := zeqI cc14
    rw [show (0 : Int32).toInt = 0 from by decide] at f6
    refine zp_seg (pc' := 39) (lv' := [(4, .int r7), (0, .ref m), (1, .ref t), (2, .int n), (3, .int k)]) (st' := [.int (Int32.ofInt (-1))]) [(17, .iconst (-1)), (18, .goto 21)] (by decide +kernel) rfl ?_
    refine zr_retI (by decide +kernel) rfl ?_
    rw [← hPost]; exact ⟨rfl, _, rfl, rfl, _, rfl, (by
          first | exact Or.inl rfl | exact Or.inr hr36.1)⟩

set_option maxHeartbeats 8000000 in
set_option maxRecDepth 100000 in
theorem c_X16_factorialOf {w : zM}  (m : Nat) (v : Int32) (hv : v.toInt ≤ 100000) : zCon 2 zq_X16_factorialOf [.ref m, .int v] w (fun v9 w9' => w9' = w ∧ ∃ r9 : Int32, v9 = some (.int r9) ∧ (zr1 r9)) := by
  intro d sz hd
  obtain ⟨d, rfl⟩ : ∃ d9, d = d9 + 1 := ⟨d - 1, by omega⟩
  generalize hPost : (fun (r9' : Option (Option Value)) (w9' : zM) (z9 : Nat) => z9 = sz ∧ ∃ v9, r9' = some v9 ∧ (w9' = w ∧ ∃ r9 : Int32, v9 = some (.int r9) ∧ (zr1 r9))) = Post
  show zP (d + 1) zq_X16_factorialOf 0 [(0, .ref m), (1, .int v)] [] w sz 0 0 Post
  have k1 := zrng v
  refine zp_seg (pc' := 4) (lv' := [(3, .int 2), (2, .int 1), (0, .ref m), (1, .int v)]) (st' := []) [(0, .iconst 1), (1, .istore_n 2), (2, .iconst 2), (3, .istore_n 3)] (by decide +kernel) rfl ?_
  have hL4 : ∀ (mm4 : Nat) (y2_4 : Int32) (y3_4 : Int32), (0 ≤ y2_4.toInt) → (y2_4.toInt < 2147483647) → (2 ≤ y3_4.toInt) → (y3_4.toInt ≤ 100001) → (2147483647 - y3_4.toInt).toNat < mm4 → zP (d + 1) zq_X16_factorialOf 4 [(1, .int v), (2, .int y2_4), (3, .int y3_4)] [] w sz 0 0 Post := by
    intro mm4
    induction mm4 with
    | zero => intros; omega
    | succ mm4 ih4 =>
    intro y2_4 y3_4 hi4_0 hi4_1 hi4_2 hi4_3 hmu4
    have ky2_4 := zrng y2_4
    have ky3_4 := zrng y3_4
    refine zp_seg (pc' := 6) (lv' := [(1, .int v), (2, .int y2_4), (3, .int y3_4)]) (st' := [.int v, .int y3_4]) [(4, .iload_n 3), (5, .iload_n 1)] (by decide +kernel) rfl ?_
    refine zp_if (i := .if_icmp .gt 15) (c := v < y3_4) (t := 21) (e := 9) (lv' := [(1, .int v), (2, .int y2_4), (3, .int y3_4)]) (st' := []) (by decide +kernel) rfl (fun cc6 => ?_) (fun cc6 => ?_)
    ·
      have f2 := zltI cc6
      refine zp_seg (pc' := 22) (lv' := [(1, .int v), (2, .int y2_4), (3, .int y3_4)]) (st' := [.int y2_4]) [(21, .iload_n 2)] (by decide +kernel) rfl ?_
      refine zr_retI (by decide +kernel) rfl ?_
      rw [← hPost]; exact ⟨rfl, _, rfl, rfl, _, rfl, (by
            exact show 0 ≤ Int32.toInt _ ∧ Int32.toInt _ < 2147483647 by omega)⟩
    ·
      have f3 := znltI cc6
      refine zp_seg (pc' := 11) (lv' := [(1, .int v), (2, .int y2_4), (3, .int y3_4)]) (st' := [.int y3_4, .int y2_4]) [(9, .iload_n 2), (10, .iload_n 3)] (by decide +kernel) rfl ?_
      refine zr_callS (idx := 56) (j := 257) (by decide +kernel) (by decide +kernel) (by decide) (show zMe 257 = some zq_X16_mul from rfl) rfl rfl (Nat.le_of_ble_eq_true rfl) rfl rfl (Nat.le_of_ble_eq_true rfl) (Nat.le_of_ble_eq_true rfl) (c_X16_mul (w := w) y2_4 y3_4 (by exact ⟨by omega, by omega⟩) (by exact ⟨by omega, by omega⟩)) (by omega) (fun v11 w11 hp11 => ?_)
      obtain ⟨hpw11, r11, rfl, hr11⟩ := hp11
      replace hpw11 := hpw11.symm
      subst hpw11
      have kr11 := zrng r11
      show zP _ _ _ _ [.int r11] _ _ _ _ _
      have hrr : 0 ≤ r11.toInt ∧ r11.toInt < 2147483647 := hr11.1
      refine zp_seg (pc' := 18) (lv' := [(3, .int (y3_4 + 1)), (2, .int r11), (1, .int v)]) (st' := []) [(14, .istore_n 2), (15, .iinc 3 1)] (by decide +kernel) rfl ?_
      have k4 := zaddC y3_4 1 (n := 1) (by decide) (by omega) (by omega)
      generalize ev18 : (y3_4 + 1 : Int32) = v18 at k4 ⊢
      have kv18 := zrng v18
      refine zp_seg (pc' := 4) (lv' := [(3, .int v18), (2, .int r11), (1, .int v)]) (st' := []) [(18, .goto (-14))] (by decide +kernel) rfl ?_
      exact (ih4 r11 v18 (by first | assumption | omega | decide) (by first | assumption | omega | decide) (by first | assumption | omega | decide) (by first | assumption | omega | decide) (by omega)).more (zfa1 rfl (zfa1 rfl (zfa1 rfl (zfa0))))
  have hl5 : (1 : Int32).toInt = 1 := by decide
  have hl6 : (2 : Int32).toInt = 2 := by decide
  exact (hL4 _ 1 2 (by first | assumption | omega | decide) (by first | assumption | omega | decide) (by first | assumption | omega | decide) (by first | assumption | omega | decide) (Nat.lt_succ_self _)).more (zfa1 rfl (zfa1 rfl (zfa1 rfl (zfa0))))

set_option maxHeartbeats 8000000 in
set_option maxRecDepth 100000 in
theorem c_X16_isWhole {w : zM}  (v : Int32) : zCon 1 zq_X16_isWhole [.int v] w (fun v9 w9' => w9' = w ∧ ∃ r9 : Int32, v9 = some (.int r9) ∧ (r9 = 0 ∨ r9 = 1) ∧ (r9 = 1 → 0 ≤ v.toInt ∧ v.toInt ≤ 500)) := by
  intro d sz hd
  obtain ⟨d, rfl⟩ : ∃ d9, d = d9 + 1 := ⟨d - 1, by omega⟩
  generalize hPost : (fun (r9' : Option (Option Value)) (w9' : zM) (z9 : Nat) => z9 = sz ∧ ∃ v9, r9' = some v9 ∧ (w9' = w ∧ ∃ r9 : Int32, v9 = some (.int r9) ∧ (r9 = 0 ∨ r9 = 1) ∧ (r9 = 1 → 0 ≤ v.toInt ∧ v.toInt ≤ 500))) = Post
  show zP (d + 1) zq_X16_isWhole 0 [(0, .int v)] [] w sz 0 0 Post
  have k1 := zrng v
  refine zp_seg (pc' := 1) (lv' := [(0, .int v)]) (st' := [.int v]) [(0, .iload_n 0)] (by decide +kernel) rfl ?_
  refine zp_if (i := .ifCond .lt 14) (c := v < 0) (t := 15) (e := 4) (lv' := [(0, .int v)]) (st' := []) (by decide +kernel) rfl (fun cc1 => ?_) (fun cc1 => ?_)
  ·
    have f3 := zltI cc1
    rw [show (0 : Int32).toInt = 0 from by decide] at f3
    refine zp_seg (pc' := 16) (lv' := [(0, .int v)]) (st' := [.int 0]) [(15, .iconst 0)] (by decide +kernel) rfl ?_
    refine zr_retB (by decide +kernel) rfl (by decide) ?_
    rw [← hPost]; exact ⟨rfl, _, rfl, rfl, _, rfl, (by decide), (by
          first | exact fun e => absurd e (by decide) | exact fun _ => ⟨by omega, by omega⟩)⟩
  ·
    have f5 := znltI cc1
    rw [show (0 : Int32).toInt = 0 from by decide] at f5
    refine zp_seg (pc' := 8) (lv' := [(0, .int v)]) (st' := [.int 500, .int v]) [(4, .iload_n 0), (5, .sipush 500)] (by decide +kernel) rfl ?_
    refine zp_if (i := .if_icmp .gt 7) (c := 500 < v) (t := 15) (e := 11) (lv' := [(0, .int v)]) (st' := []) (by decide +kernel) rfl (fun cc8 => ?_) (fun cc8 => ?_)
    ·
      have f7 := zltI cc8
      rw [show (500 : Int32).toInt = 500 from by decide] at f7
      refine zp_seg (pc' := 16) (lv' := [(0, .int v)]) (st' := [.int 0]) [(15, .iconst 0)] (by decide +kernel) rfl ?_
      refine zr_retB (by decide +kernel) rfl (by decide) ?_
      rw [← hPost]; exact ⟨rfl, _, rfl, rfl, _, rfl, (by decide), (by
            first | exact fun e => absurd e (by decide) | exact fun _ => ⟨by omega, by omega⟩)⟩
    ·
      have f9 := znltI cc8
      rw [show (500 : Int32).toInt = 500 from by decide] at f9
      refine zp_seg (pc' := 16) (lv' := [(0, .int v)]) (st' := [.int 1]) [(11, .iconst 1), (12, .goto 4)] (by decide +kernel) rfl ?_
      refine zr_retB (by decide +kernel) rfl (by decide) ?_
      rw [← hPost]; exact ⟨rfl, _, rfl, rfl, _, rfl, (by decide), (by
            first | exact fun e => absurd e (by decide) | exact fun _ => ⟨by omega, by omega⟩)⟩

set_option maxHeartbeats 8000000 in
set_option maxRecDepth 100000 in
theorem c_X16_polynomialAt {w : zM} {fr : Nat → Int32} (a : Nat) (at9 : Int32) (n : Int32) (hA_a : w a = some (.inr (0, 175, .inl fr))) (hrr : ∀ i, i < 175 → zr1 (fr i)) (hat : 0 ≤ at9.toInt ∧ at9.toInt ≤ 150) (h_n : zr1 n) : zCon 1 zq_X16_polynomialAt [.ref a, .int at9, .int n] w (fun v9 w9' => w9' = w ∧ ∃ r9 : Int32, v9 = some (.int r9) ∧ (zr1 r9)) := by
  intro d sz hd
  obtain ⟨d, rfl⟩ : ∃ d9, d = d9 + 1 := ⟨d - 1, by omega⟩
  generalize hPost : (fun (r9' : Option (Option Value)) (w9' : zM) (z9 : Nat) => z9 = sz ∧ ∃ v9, r9' = some v9 ∧ (w9' = w ∧ ∃ r9 : Int32, v9 = some (.int r9) ∧ (zr1 r9))) = Post
  show zP (d + 1) zq_X16_polynomialAt 0 [(0, .ref a), (1, .int at9), (2, .int n)] [] w sz 0 0 Post
  have k1 := zrng at9
  have k2 := zrng n
  have r_n : 0 ≤ n.toInt ∧ n.toInt < 2147483647 := h_n
  refine zp_seg (pc' := 6) (lv' := [(5, .int 24), (3, .long 0), (0, .ref a), (1, .int at9), (2, .int n)]) (st' := []) [(0, .lconst 0), (1, .lstore_n 3), (2, .bipush 24), (4, .istore 5)] (by decide +kernel) rfl ?_
  have hL6 : ∀ (mm6 : Nat) (y3_6 : Int64) (y5_6 : Int32), (0 ≤ y3_6.toInt) → (y3_6.toInt < 2147483647) → (-1 ≤ y5_6.toInt) → (y5_6.toInt ≤ 24) → (y5_6.toInt + 1).toNat < mm6 → zP (d + 1) zq_X16_polynomialAt 6 [(0, .ref a), (1, .int at9), (2, .int n), (3, .long y3_6), (5, .int y5_6)] [] w sz 0 0 Post := by
    intro mm6
    induction mm6 with
    | zero => intros; omega
    | succ mm6 ih6 =>
    intro y3_6 y5_6 hi6_0 hi6_1 hi6_2 hi6_3 hmu6
    have ky3_6 := zrngL y3_6
    have ky5_6 := zrng y5_6
    refine zp_seg (pc' := 8) (lv' := [(0, .ref a), (1, .int at9), (2, .int n), (3, .long y3_6), (5, .int y5_6)]) (st' := [.int y5_6]) [(6, .iload 5)] (by decide +kernel) rfl ?_
    refine zp_if (i := .ifCond .lt 26) (c := y5_6 < 0) (t := 34) (e := 11) (lv' := [(0, .ref a), (1, .int at9), (2, .int n), (3, .long y3_6), (5, .int y5_6)]) (st' := []) (by decide +kernel) rfl (fun cc8 => ?_) (fun cc8 => ?_)
    ·
      have f4 := zltI cc8
      rw [show (0 : Int32).toInt = 0 from by decide] at f4
      refine zp_seg (pc' := 36) (lv' := [(0, .ref a), (1, .int at9), (2, .int n), (3, .long y3_6), (5, .int y5_6)]) (st' := [.int (y3_6.toInt32)]) [(34, .lload_n 3), (35, .l2i)] (by decide +kernel) rfl ?_
      have k5 := zl2iE y3_6 (by omega) (by omega)
      generalize ev36 : (y3_6.toInt32 : Int32) = v36 at k5 ⊢
      have kv36 := zrng v36
      refine zr_retI (by decide +kernel) rfl ?_
      rw [← hPost]; exact ⟨rfl, _, rfl, rfl, _, rfl, (by
            exact show 0 ≤ Int32.toInt _ ∧ Int32.toInt _ < 2147483647 by omega)⟩
    ·
      have f7 := znltI cc8
      rw [show (0 : Int32).toInt = 0 from by decide] at f7
      refine zp_seg (pc' := 14) (lv' := [(0, .ref a), (1, .int at9), (2, .int n), (3, .long y3_6), (5, .int y5_6)]) (st' := [.long (n.toInt64), .long y3_6]) [(11, .lload_n 3), (12, .iload_n 2), (13, .i2l)] (by decide +kernel) rfl ?_
      have k8 := zi2lM n
      generalize ev14 : (n.toInt64 : Int64) = v14 at k8 ⊢
      have kv14 := zrngL v14
      refine zp_seg (pc' := 15) (lv' := [(0, .ref a), (1, .int at9), (2, .int n), (3, .long y3_6), (5, .int y5_6)]) (st' := [.long (y3_6 * v14)]) [(14, .lmul)] (by decide +kernel) rfl ?_
      have k9 := zmulLN (a := y3_6) (b := v14) (by omega) (by omega)
      have k10 := zmulNN (a := y3_6.toInt) (b := v14.toInt) (by omega) (by omega)
      generalize ev15 : (y3_6 * v14 : Int64) = v15 at k9 ⊢
      have kv15 := zrngL v15
      refine zp_seg (pc' := 20) (lv' := [(0, .ref a), (1, .int at9), (2, .int n), (3, .long y3_6), (5, .int y5_6)]) (st' := [.int (at9 + y5_6), .ref a, .long v15]) [(15, .aload_n 0), (16, .iload_n 1), (17, .iload 5), (19, .iadd)] (by decide +kernel) rfl ?_
      have k11 := zadd at9 y5_6 (by omega) (by omega)
      generalize ev20 : (at9 + y5_6 : Int32) = v20 at k11 ⊢
      have kv20 := zrng v20
      refine zr_iald (by decide +kernel) hA_a (zin (by first | omega | decide) (by first | omega | decide)) ?_
      have hz12 : (v20.toNatClampNeg : Int) = v20.toInt := znat (by first | omega | decide)
      obtain ⟨x20, ex20⟩ : ∃ x9, x9 = fr (v20.toNatClampNeg) := ⟨_, rfl⟩
      rw [← ex20]
      have kx20 := zrng x20
      have hwx9 : 0 ≤ x20.toInt ∧ x20.toInt < 2147483647 := by
        rw [ex20]
        exact hrr _ (by omega)
      refine zp_seg (pc' := 22) (lv' := [(0, .ref a), (1, .int at9), (2, .int n), (3, .long y3_6), (5, .int y5_6)]) (st' := [.long (x20.toInt64), .long v15]) [(21, .i2l)] (by decide +kernel) rfl ?_
      have k13 := zi2lM x20
      generalize ev22 : (x20.toInt64 : Int64) = v22 at k13 ⊢
      have kv22 := zrngL v22
      refine zp_seg (pc' := 23) (lv' := [(0, .ref a), (1, .int at9), (2, .int n), (3, .long y3_6), (5, .int y5_6)]) (st' := [.long (v15 + v22)]) [(22, .ladd)] (by decide +kernel) rfl ?_
      have k14 := zaddLE v15 v22 (by omega) (by omega)
      generalize ev23 : (v15 + v22 : Int64) = v23 at k14 ⊢
      have kv23 := zrngL v23
      refine zr_ldc2 (idx := 3) (v := 2147483647) (by decide +kernel) (by decide +kernel) ?_
      refine zr_lrem (by decide +kernel) (by decide) ?_
      obtain ⟨q26, eq26⟩ : ∃ x9 : Int64, x9 = v23 - v23 / 2147483647 * 2147483647 := ⟨_, rfl⟩
      rw [← eq26]
      have bq26 := zremB v23
      rw [← eq26] at bq26
      have mq26 := zremN (x := v23)
      rw [← eq26] at mq26
      have kq26 := zrngL q26
      refine zp_seg (pc' := 31) (lv' := [(5, .int (y5_6 + (Int32.ofInt (-1)))), (3, .long q26), (0, .ref a), (1, .int at9), (2, .int n)]) (st' := []) [(27, .lstore_n 3), (28, .iinc 5 (-1))] (by decide +kernel) rfl ?_
      have k15 := zaddC y5_6 ((Int32.ofInt (-1))) (n := (-1)) (by decide) (by omega) (by omega)
      generalize ev31 : (y5_6 + (Int32.ofInt (-1)) : Int32) = v31 at k15 ⊢
      have kv31 := zrng v31
      refine zp_seg (pc' := 6) (lv' := [(5, .int v31), (3, .long q26), (0, .ref a), (1, .int at9), (2, .int n)]) (st' := []) [(31, .goto (-25))] (by decide +kernel) rfl ?_
      exact (ih6 q26 v31 (by first | assumption | omega | decide) (by first | assumption | omega | decide) (by first | assumption | omega | decide) (by first | assumption | omega | decide) (by omega)).more (zfa1 rfl (zfa1 rfl (zfa1 rfl (zfa1 rfl (zfa1 rfl (zfa0))))))
  have hl16 : (24 : Int32).toInt = 24 := by decide
  exact (hL6 _ 0 24 (by first | assumption | omega | decide) (by first | assumption | omega | decide) (by first | assumption | omega | decide) (by first | assumption | omega | decide) (Nat.lt_succ_self _)).more (zfa1 rfl (zfa1 rfl (zfa1 rfl (zfa1 rfl (zfa1 rfl (zfa0))))))
