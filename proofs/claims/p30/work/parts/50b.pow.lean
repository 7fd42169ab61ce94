set_option maxHeartbeats 8000000 in
set_option maxRecDepth 100000 in
theorem c_X16_pow {w : zM}  (a : Int32) (n : Int64) (h_a : zr1 a) (h_n : 0 ≤ n.toInt) : zCon 1 zq_X16_pow [.int a, .long n] w (fun v9 w9' => w9' = w ∧ ∃ r9 : Int32, v9 = some (.int r9) ∧ (zr1 r9 ∧ zf r9 = zpw (zf a) n.toInt.toNat)) := by
  intro d sz hd
  obtain ⟨d, rfl⟩ : ∃ d9, d = d9 + 1 := ⟨d - 1, by omega⟩
  generalize hPost : (fun (r9' : Option (Option Value)) (w9' : zM) (z9 : Nat) => z9 = sz ∧ ∃ v9, r9' = some v9 ∧ (w9' = w ∧ ∃ r9 : Int32, v9 = some (.int r9) ∧ (zr1 r9 ∧ zf r9 = zpw (zf a) n.toInt.toNat))) = Post
  show zP (d + 1) zq_X16_pow 0 [(0, .int a), (1, .long n)] [] w sz 0 0 Post
  have k1 := zrng a
  have kn := zrngL n
  have r_a : 0 ≤ a.toInt ∧ a.toInt < 2147483647 := h_a
  refine zp_seg (pc' := 4) (lv' := [(3, .long 1), (0, .int a), (1, .long n)]) (st' := [.long (a.toInt64)]) [(0, .lconst 1), (1, .lstore_n 3), (2, .iload_n 0), (3, .i2l)] (by decide +kernel) rfl ?_
  have k2 := zi2lM a
  generalize ev4 : (a.toInt64 : Int64) = v4 at k2 ⊢
  have kv4 := zrngL v4
  refine zp_seg (pc' := 9) (lv' := [(7, .long n), (5, .long v4), (3, .long 1), (0, .int a), (1, .long n)]) (st' := []) [(4, .lstore 5), (6, .lload_n 1), (7, .lstore 7)] (by decide +kernel) rfl ?_
  have hL9 : ∀ (mm9 : Nat) (y3_9 : Int64) (y5_9 : Int64) (y7_9 : Int64), (0 ≤ y3_9.toInt) → (y3_9.toInt < 2147483647) → (0 ≤ y5_9.toInt) → (y5_9.toInt < 2147483647) → (0 ≤ y7_9.toInt) → (zfI y3_9.toInt * zpw (zfI y5_9.toInt) y7_9.toInt.toNat = zpw (zf a) n.toInt.toNat) → y7_9.toInt.toNat < mm9 → zP (d + 1) zq_X16_pow 9 [(3, .long y3_9), (5, .long y5_9), (7, .long y7_9)] [] w sz 0 0 Post := by
    intro mm9
    induction mm9 with
    | zero => intros; omega
    | succ mm9 ih9 =>
    intro y3_9 y5_9 y7_9 hi9_0 hi9_1 hi9_2 hi9_3 hi9_4 hI hmu9
    have ky3_9 := zrngL y3_9
    have ky5_9 := zrngL y5_9
    have ky7_9 := zrngL y7_9
    refine zp_seg (pc' := 13) (lv' := [(3, .long y3_9), (5, .long y5_9), (7, .long y7_9)]) (st' := [.int (lg_cmp y7_9 0)]) [(9, .lload 7), (11, .lconst 0), (12, .lcmp)] (by decide +kernel) rfl ?_
    have k3 := zcmpI y7_9 0
    rw [show (0 : Int64).toInt = 0 from by decide] at k3
    generalize ev13 : (lg_cmp y7_9 0 : Int32) = v13 at k3 ⊢
    have kv13 := zrng v13
    refine zp_if (i := .ifCond .le 45) (c := v13 ≤ 0) (t := 58) (e := 16) (lv' := [(3, .long y3_9), (5, .long y5_9), (7, .long y7_9)]) (st' := []) (by decide +kernel) rfl (fun cc13 => ?_) (fun cc13 => ?_)
    ·
      have f5 := zleI cc13
      rw [show (0 : Int32).toInt = 0 from by decide] at f5
      refine zp_seg (pc' := 60) (lv' := [(3, .long y3_9), (5, .long y5_9), (7, .long y7_9)]) (st' := [.int (y3_9.toInt32)]) [(58, .lload_n 3), (59, .l2i)] (by decide +kernel) rfl ?_
      have k6 := zl2iE y3_9 (by omega) (by omega)
      generalize ev60 : (y3_9.toInt32 : Int32) = v60 at k6 ⊢
      have kv60 := zrng v60
      refine zr_retI (by decide +kernel) rfl ?_
      rw [← hPost]; exact ⟨rfl, _, rfl, rfl, _, rfl, (by
            have e0 : y7_9.toInt.toNat = 0 := by omega
            rw [e0] at hI
            refine ⟨show 0 ≤ Int32.toInt _ ∧ Int32.toInt _ < 2147483647 by omega, ?_⟩
            rw [← hI]
            show zfI v60.toInt = zfI y3_9.toInt * 1
            rw [show v60.toInt = y3_9.toInt by omega]
            exact (zF_1r _).symm)⟩
    ·
      have f8 := znleI cc13
      rw [show (0 : Int32).toInt = 0 from by decide] at f8
      refine zp_seg (pc' := 20) (lv' := [(3, .long y3_9), (5, .long y5_9), (7, .long y7_9)]) (st' := [.long (y7_9 &&& 1)]) [(16, .lload 7), (18, .lconst 1), (19, .land)] (by decide +kernel) rfl ?_
      have k9 := zandL1 y7_9 (by omega)
      generalize ev20 : (y7_9 &&& 1 : Int64) = v20 at k9 ⊢
      have kv20 := zrngL v20
      refine zp_seg (pc' := 22) (lv' := [(3, .long y3_9), (5, .long y5_9), (7, .long y7_9)]) (st' := [.int (lg_cmp v20 1)]) [(20, .lconst 1), (21, .lcmp)] (by decide +kernel) rfl ?_
      have k10 := zcmpI v20 1
      rw [show (1 : Int64).toInt = 1 from by decide] at k10
      generalize ev22 : (lg_cmp v20 1 : Int32) = v22 at k10 ⊢
      have kv22 := zrng v22
      refine zp_if (i := .ifCond .ne 14) (c := ¬ v22 = 0) (t := 36) (e := 25) (lv' := [(3, .long y3_9), (5, .long y5_9), (7, .long y7_9)]) (st' := []) (by decide +kernel) rfl (fun cc22 => ?_) (fun cc22 => ?_)
      ·
        have f11 := zneI cc22
        rw [show (0 : Int32).toInt = 0 from by decide] at f11
        refine zp_seg (pc' := 43) (lv' := [(3, .long y3_9), (5, .long y5_9), (7, .long y7_9)]) (st' := [.long (y5_9 * y5_9)]) [(36, .lload_n 3), (37, .lstore_n 3), (38, .lload 5), (40, .lload 5), (42, .lmul)] (by decide +kernel) rfl ?_
        have k12 := zmulLN (a := y5_9) (b := y5_9) (by omega) (by omega)
        have k13 := zmulNN (a := y5_9.toInt) (b := y5_9.toInt) (by omega) (by omega)
        generalize ev43 : (y5_9 * y5_9 : Int64) = v43 at k12 ⊢
        have kv43 := zrngL v43
        refine zr_ldc2 (idx := 3) (v := 2147483647) (by decide +kernel) (by decide +kernel) ?_
        refine zr_lrem (by decide +kernel) (by decide) ?_
        obtain ⟨q46, eq46⟩ : ∃ x9 : Int64, x9 = v43 - v43 / 2147483647 * 2147483647 := ⟨_, rfl⟩
        rw [← eq46]
        have bq46 := zremB v43
        rw [← eq46] at bq46
        have mq46 := zremN (x := v43)
        rw [← eq46] at mq46
        have kq46 := zrngL q46
        refine zp_seg (pc' := 53) (lv' := [(5, .long q46), (3, .long y3_9), (7, .long y7_9)]) (st' := [.long (y7_9 >>> ((1 : Int32).toInt64 &&& 63))]) [(47, .lstore 5), (49, .lload 7), (51, .iconst 1), (52, .lshr)] (by decide +kernel) rfl ?_
        have k14 := zshrL1 y7_9
        generalize ev53 : (y7_9 >>> ((1 : Int32).toInt64 &&& 63) : Int64) = v53 at k14 ⊢
        have kv53 := zrngL v53
        refine zp_seg (pc' := 9) (lv' := [(7, .long v53), (5, .long q46), (3, .long y3_9)]) (st' := []) [(53, .lstore 7), (55, .goto (-46))] (by decide +kernel) rfl ?_
        exact (ih9 y3_9 q46 v53 (by first | assumption | omega | decide) (by first | assumption | omega | decide) (by first | assumption | omega | decide) (by first | assumption | omega | decide) (by first | assumption | omega | decide) (by
              have e2 : zfI q46.toInt = zfI y5_9.toInt * zfI y5_9.toInt := zfI_mulmod (by omega)
              have e3 : v53.toInt.toNat = y7_9.toInt.toNat / 2 := by omega
              rw [← hI, e3, e2, zpw_half (zfI y5_9.toInt) (e := y7_9.toInt.toNat)]
              first
                | (rw [if_pos (show y7_9.toInt.toNat % 2 = 1 by omega), show zfI y3_9.toInt = zfI y3_9.toInt * zfI y5_9.toInt from zfI_mulmod (by omega)]; exact zF_as _ _ _)
                | (rw [if_neg (show ¬ y7_9.toInt.toNat % 2 = 1 by omega), zF_1l])) (by omega)).more (zfa1 rfl (zfa1 rfl (zfa1 rfl (zfa0))))
      ·
        replace cc22 := Classical.not_not.mp cc22
        have f15 := zeqI cc22
        rw [show (0 : Int32).toInt = 0 from by decide] at f15
        refine zp_seg (pc' := 29) (lv' := [(3, .long y3_9), (5, .long y5_9), (7, .long y7_9)]) (st' := [.long (y3_9 * y5_9)]) [(25, .lload_n 3), (26, .lload 5), (28, .lmul)] (by decide +kernel) rfl ?_
        have k16 := zmulLN (a := y3_9) (b := y5_9) (by omega) (by omega)
        have k17 := zmulNN (a := y3_9.toInt) (b := y5_9.toInt) (by omega) (by omega)
        generalize ev29 : (y3_9 * y5_9 : Int64) = v29 at k16 ⊢
        have kv29 := zrngL v29
        refine zr_ldc2 (idx := 3) (v := 2147483647) (by decide +kernel) (by decide +kernel) ?_
        refine zr_lrem (by decide +kernel) (by decide) ?_
        obtain ⟨q32, eq32⟩ : ∃ x9 : Int64, x9 = v29 - v29 / 2147483647 * 2147483647 := ⟨_, rfl⟩
        rw [← eq32]
        have bq32 := zremB v29
        rw [← eq32] at bq32
        have mq32 := zremN (x := v29)
        rw [← eq32] at mq32
        have kq32 := zrngL q32
        refine zp_seg (pc' := 43) (lv' := [(3, .long q32), (5, .long y5_9), (7, .long y7_9)]) (st' := [.long (y5_9 * y5_9)]) [(33, .goto 4), (37, .lstore_n 3), (38, .lload 5), (40, .lload 5), (42, .lmul)] (by decide +kernel) rfl ?_
        have k18 := zmulLN (a := y5_9) (b := y5_9) (by omega) (by omega)
        have k19 := zmulNN (a := y5_9.toInt) (b := y5_9.toInt) (by omega) (by omega)
        generalize ev43 : (y5_9 * y5_9 : Int64) = v43 at k18 ⊢
        have kv43 := zrngL v43
        refine zr_ldc2 (idx := 3) (v := 2147483647) (by decide +kernel) (by decide +kernel) ?_
        refine zr_lrem (by decide +kernel) (by decide) ?_
        obtain ⟨q46, eq46⟩ : ∃ x9 : Int64, x9 = v43 - v43 / 2147483647 * 2147483647 := ⟨_, rfl⟩
        rw [← eq46]
        have bq46 := zremB v43
        rw [← eq46] at bq46
        have mq46 := zremN (x := v43)
        rw [← eq46] at mq46
        have kq46 := zrngL q46
        refine zp_seg (pc' := 53) (lv' := [(5, .long q46), (3, .long q32), (7, .long y7_9)]) (st' := [.long (y7_9 >>> ((1 : Int32).toInt64 &&& 63))]) [(47, .lstore 5), (49, .lload 7), (51, .iconst 1), (52, .lshr)] (by decide +kernel) rfl ?_
        have k20 := zshrL1 y7_9
        generalize ev53 : (y7_9 >>> ((1 : Int32).toInt64 &&& 63) : Int64) = v53 at k20 ⊢
        have kv53 := zrngL v53
        refine zp_seg (pc' := 9) (lv' := [(7, .long v53), (5, .long q46), (3, .long q32)]) (st' := []) [(53, .lstore 7), (55, .goto (-46))] (by decide +kernel) rfl ?_
        exact (ih9 q32 q46 v53 (by first | assumption | omega | decide) (by first | assumption | omega | decide) (by first | assumption | omega | decide) (by first | assumption | omega | decide) (by first | assumption | omega | decide) (by
              have e2 : zfI q46.toInt = zfI y5_9.toInt * zfI y5_9.toInt := zfI_mulmod (by omega)
              have e3 : v53.toInt.toNat = y7_9.toInt.toNat / 2 := by omega
              rw [← hI, e3, e2, zpw_half (zfI y5_9.toInt) (e := y7_9.toInt.toNat)]
              first
                | (rw [if_pos (show y7_9.toInt.toNat % 2 = 1 by omega), show zfI q32.toInt = zfI y3_9.toInt * zfI y5_9.toInt from zfI_mulmod (by omega)]; exact zF_as _ _ _)
                | (rw [if_neg (show ¬ y7_9.toInt.toNat % 2 = 1 by omega), zF_1l])) (by omega)).more (zfa1 rfl (zfa1 rfl (zfa1 rfl (zfa0))))
  exact (hL9 _ 1 v4 n (by first | assumption | omega | decide) (by first | assumption | omega | decide) (by first | assumption | omega | decide) (by first | assumption | omega | decide) (by first | assumption | omega | decide) (by
        rw [show (1 : Int64).toInt = 1 by decide, zfI_1, show v4.toInt = a.toInt by omega]
        exact zF_1l _) (Nat.lt_succ_self _)).more (zfa1 rfl (zfa1 rfl (zfa1 rfl (zfa0))))
