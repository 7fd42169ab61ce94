theorem zx_X16_sayNumber_0 {m x : Nat} (h0 : x < m ∨ m + 1 ≤ x) : x ≠ m := by omega
set_option maxHeartbeats 8000000 in
set_option maxRecDepth 100000 in
theorem c_X16_sayNumber {w : zM} {g : Nat → Int32} {r : Nat → Value}  {g25 : Int32} (m : Nat) (v : Int64) (hm : w m = some (.inl (15, zMo m g r))) (hR_m : zR m w) (hBy_m_93 : zBya w (m + 93) 4000) (hv : 0 ≤ v.toInt ∧ v.toInt ≤ 2147483647) (how : 0 ≤ g25.toInt ∧ g25.toInt ≤ 900000000) (hg25 : g 25 = g25) : zCon 2 zq_X16_sayNumber [.ref m, .long v] w (fun v9 w9' => ∃ C9 : Int32, zSI w w9' ∧ (∀ x, (x < m ∨ m + 1 ≤ x) ∧ (x < m + 93 ∨ m + 93 + 1 ≤ x) → w9' x = w x) ∧ w9' m = some (.inl (15, zMo m (zs g 25 C9) r)) ∧ zBya w9' (m + 93) 4000 ∧ (g25.toInt ≤ C9.toInt ∧ C9.toInt ≤ g25.toInt + 10) ∧ v9 = none) := by
  subst hg25
  intro d sz hd
  obtain ⟨d, rfl⟩ : ∃ d9, d = d9 + 1 := ⟨d - 1, by omega⟩
  generalize hPost : (fun (r9' : Option (Option Value)) (w9' : zM) (z9 : Nat) => z9 = sz ∧ ∃ v9, r9' = some v9 ∧ (∃ C9 : Int32, zSI w w9' ∧ (∀ x, (x < m ∨ m + 1 ≤ x) ∧ (x < m + 93 ∨ m + 93 + 1 ≤ x) → w9' x = w x) ∧ w9' m = some (.inl (15, zMo m (zs g 25 C9) r)) ∧ zBya w9' (m + 93) 4000 ∧ ((g 25).toInt ≤ C9.toInt ∧ C9.toInt ≤ (g 25).toInt + 10) ∧ v9 = none)) = Post
  show zP (d + 1) zq_X16_sayNumber 0 [(0, .ref m), (1, .long v)] [] w sz 0 0 Post
  have kv := zrngL v
  refine zp_seg (pc' := 2) (lv' := [(3, .long 1), (0, .ref m), (1, .long v)]) (st' := []) [(0, .lconst 1), (1, .lstore_n 3)] (by decide +kernel) rfl ?_
  have hL2 : ∀ (mm2 : Nat) (y3_2 : Int64) (iI : Nat), (y3_2.toInt = z10 iI ∧ iI ≤ 9) → (2147483648 - y3_2.toInt).toNat < mm2 → zP (d + 1) zq_X16_sayNumber 2 [(0, .ref m), (1, .long v), (3, .long y3_2)] [] w sz 0 0 Post := by
    intro mm2
    induction mm2 with
    | zero => intros; omega
    | succ mm2 ih2 =>
    intro y3_2 iI hpw hmu2
    have ky3_2 := zrngL y3_2
    refine zp_seg (pc' := 4) (lv' := [(0, .ref m), (1, .long v), (3, .long y3_2)]) (st' := [.long y3_2, .long v]) [(2, .lload_n 1), (3, .lload_n 3)] (by decide +kernel) rfl ?_
    have hz9 := z10_le hpw.2
    have hz8 := z10_pos iI
    have hz7 := hpw.1
    refine zr_ldiv (by decide +kernel) (fun e => by have := congrArg Int64.toInt e; simp at this; omega) ?_
    obtain ⟨q4, eq4⟩ : ∃ x9 : Int64, x9 = v / y3_2 := ⟨_, rfl⟩
    rw [← eq4]
    have mq4 := zldivN v y3_2 (by omega) (by omega)
    rw [← eq4] at mq4
    have kq4 := zrngL q4
    refine zr_ldc2 (idx := 432) (v := 10) (by decide +kernel) (by decide +kernel) ?_
    refine zp_seg (pc' := 9) (lv' := [(0, .ref m), (1, .long v), (3, .long y3_2)]) (st' := [.int (lg_cmp q4 10)]) [(8, .lcmp)] (by decide +kernel) rfl ?_
    have k1 := zcmpI q4 10
    rw [show (10 : Int64).toInt = 10 from by decide] at k1
    generalize ev9 : (lg_cmp q4 10 : Int32) = v9 at k1 ⊢
    have kv9 := zrng v9
    refine zp_if (i := .ifCond .lt 12) (c := v9 < 0) (t := 21) (e := 12) (lv' := [(0, .ref m), (1, .long v), (3, .long y3_2)]) (st' := []) (by decide +kernel) rfl (fun cc9 => ?_) (fun cc9 => ?_)
    ·
      have f3 := zltI cc9
      rw [show (0 : Int32).toInt = 0 from by decide] at f3
      have hL21 : ∀ (mm21 : Nat) (wL21 : zM) (y3_21 : Int64) (xC : Int32) (jJ : Nat), (zSI w wL21) → (∀ x, ((x < m ∨ m + 1 ≤ x) ∧ (x < m + 93 ∨ m + 93 + 1 ≤ x)) ∧ x ≠ m → wL21 x = w x) → (wL21 m = some (.inl (15, zMo m (zs g 25 xC) r))) → (zBya wL21 (m + 93) 4000) → ((g 25).toInt ≤ xC.toInt ∧ xC.toInt + (jJ : Int) ≤ (g 25).toInt + 10) → (y3_21.toInt = zq10 jJ) → jJ < mm21 → zP (d + 1) zq_X16_sayNumber 21 [(0, .ref m), (1, .long v), (3, .long y3_21)] [] wL21 sz 0 0 Post := by
        intro mm21
        induction mm21 with
        | zero => intros; omega
        | succ mm21 ih21 =>
        intro wL21 y3_21 xC jJ hsiL21 heqL21 hxM hBYl hxC hjJ hmu21
        have ky3_21 := zrngL y3_21
        refine zp_seg (pc' := 24) (lv' := [(0, .ref m), (1, .long v), (3, .long y3_21)]) (st' := [.int (lg_cmp y3_21 0)]) [(21, .lload_n 3), (22, .lconst 0), (23, .lcmp)] (by decide +kernel) rfl ?_
        have k4 := zcmpI y3_21 0
        rw [show (0 : Int64).toInt = 0 from by decide] at k4
        generalize ev24 : (lg_cmp y3_21 0 : Int32) = v24 at k4 ⊢
        have kv24 := zrng v24
        refine zp_if (i := .ifCond .le 28) (c := v24 ≤ 0) (t := 52) (e := 27) (lv' := [(0, .ref m), (1, .long v), (3, .long y3_21)]) (st' := []) (by decide +kernel) rfl (fun cc24 => ?_) (fun cc24 => ?_)
        ·
          have f5 := zleI cc24
          rw [show (0 : Int32).toInt = 0 from by decide] at f5
          have hoffend : ∀ x, (x < m ∨ m + 1 ≤ x) ∧ (x < m + 93 ∨ m + 93 + 1 ≤ x) → wL21 x = w x := fun x hx => (heqL21 x ⟨⟨hx.1, hx.2⟩, (zx_X16_sayNumber_0 hx.1)⟩)
          refine zr_retV (by decide +kernel) rfl ?_
          rw [← hPost]; exact ⟨rfl, _, rfl, xC, hsiL21, hoffend, hxM, hBYl, (by first | omega | assumption | decide), rfl⟩
        ·
          have f6 := znleI cc24
          rw [show (0 : Int32).toInt = 0 from by decide] at f6
          have hj1 := zq10_pos (n := jJ) (by omega)
          refine zp_seg (pc' := 28) (lv' := [(0, .ref m), (1, .long v), (3, .long y3_21)]) (st' := [.ref m]) [(27, .aload_n 0)] (by decide +kernel) rfl ?_
          refine zr_ldc2 (idx := 434) (v := 48) (by decide +kernel) (by decide +kernel) ?_
          refine zp_seg (pc' := 33) (lv' := [(0, .ref m), (1, .long v), (3, .long y3_21)]) (st' := [.long y3_21, .long v, .long 48, .ref m]) [(31, .lload_n 1), (32, .lload_n 3)] (by decide +kernel) rfl ?_
          refine zr_ldiv (by decide +kernel) (fun e => by have := congrArg Int64.toInt e; simp at this; omega) ?_
          obtain ⟨q33, eq33⟩ : ∃ x9 : Int64, x9 = v / y3_21 := ⟨_, rfl⟩
          rw [← eq33]
          have mq33 := zldivN v y3_21 (by omega) (by omega)
          rw [← eq33] at mq33
          have kq33 := zrngL q33
          refine zr_ldc2 (idx := 432) (v := 10) (by decide +kernel) (by decide +kernel) ?_
          refine zr_lrem (by decide +kernel) (by decide) ?_
          obtain ⟨q37, eq37⟩ : ∃ x9 : Int64, x9 = q33 - q33 / 10 * 10 := ⟨_, rfl⟩
          rw [← eq37]
          have kq37 := zrngL q37
          refine zp_seg (pc' := 39) (lv' := [(0, .ref m), (1, .long v), (3, .long y3_21)]) (st' := [.long (48 + q37), .ref m]) [(38, .ladd)] (by decide +kernel) rfl ?_
          have hl7 : (48 : Int64).toInt = 48 := by decide
          have k8 := zaddL 48 q37
          rw [show (48 : Int64).toInt = 48 from by decide] at k8
          generalize ev39 : (48 + q37 : Int64) = v39 at k8 ⊢
          have kv39 := zrngL v39
          refine zp_seg (pc' := 40) (lv' := [(0, .ref m), (1, .long v), (3, .long y3_21)]) (st' := [.int (v39.toInt32), .ref m]) [(39, .l2i)] (by decide +kernel) rfl ?_
          have k9 := zl2iM v39
          generalize ev40 : (v39.toInt32 : Int32) = v40 at k9 ⊢
          have kv40 := zrng v40
          have k10 := zrng xC
          have hb11 := hR_m.si hsiL21
          refine zr_callV (idx := 564) (j := 341) (by decide +kernel) (by decide +kernel) (show zMe 341 = some zq_X16_say from rfl) rfl rfl (Nat.le_of_ble_eq_true rfl) rfl rfl hxM (Nat.le_of_ble_eq_true rfl) (Nat.le_of_ble_eq_true rfl) (c_X16_say (w := wL21) (g25 := xC) m v40 hxM hb11 hBYl (by first | omega | decide | assumption | exact zr1_1 | exact zr1_0 | fail "num") rfl) (by omega) (fun v40 w40 hp40 => ?_)
          obtain ⟨C9_40, hsi40, heq40, hp40_0, hp40_1, hp40_2, rfl⟩ := hp40
          have hM40 : w40 m = some (.inl (15, zMo m (zs g 25 C9_40) r)) := hp40_0
          show zP _ _ _ _ [] _ _ _ _ _
          refine zp_seg (pc' := 44) (lv' := [(0, .ref m), (1, .long v), (3, .long y3_21)]) (st' := [.long y3_21]) [(43, .lload_n 3)] (by decide +kernel) rfl ?_
          refine zr_ldc2 (idx := 432) (v := 10) (by decide +kernel) (by decide +kernel) ?_
          refine zr_ldiv (by decide +kernel) (by decide) ?_
          obtain ⟨q47, eq47⟩ : ∃ x9 : Int64, x9 = y3_21 / 10 := ⟨_, rfl⟩
          rw [← eq47]
          have hl12 : (10 : Int64).toInt = 10 := by decide
          have mq47 := zldivN y3_21 10 (by omega) (by omega)
          rw [← eq47] at mq47
          rw [show (10 : Int64).toInt = 10 from by decide] at mq47
          have kq47 := zrngL q47
          refine zp_seg (pc' := 21) (lv' := [(3, .long q47), (0, .ref m), (1, .long v)]) (st' := []) [(48, .lstore_n 3), (49, .goto (-28))] (by decide +kernel) rfl ?_
          exact (ih21 w40 q47 (C9_40) (jJ - 1) (hsiL21.tr hsi40) (fun x hx => ((heq40 x ⟨hx.1.1, hx.1.2⟩).trans (heqL21 x ⟨⟨hx.1.1, hx.1.2⟩, hx.2⟩))) (by
                exact hM40) hp40_1 (by
                omega) (by
                rw [mq47, hjJ]; exact zq10_div hj1) (by omega)).more (zfa1 rfl (zfa1 rfl (zfa1 rfl (zfa0))))
      exact (hL21 _ w y3_2 ((g 25)) (iI + 1) zSI.rf (fun _ _ => rfl) (by
            exact hm) hBy_m_93 (by
            omega) (by
            exact hpw.1) (Nat.lt_succ_self _)).more (zfa1 rfl (zfa1 rfl (zfa1 rfl (zfa0))))
    ·
      have f14 := znltI cc9
      rw [show (0 : Int32).toInt = 0 from by decide] at f14
      refine zp_seg (pc' := 13) (lv' := [(0, .ref m), (1, .long v), (3, .long y3_2)]) (st' := [.long y3_2]) [(12, .lload_n 3)] (by decide +kernel) rfl ?_
      refine zr_ldc2 (idx := 432) (v := 10) (by decide +kernel) (by decide +kernel) ?_
      refine zp_seg (pc' := 17) (lv' := [(0, .ref m), (1, .long v), (3, .long y3_2)]) (st' := [.long (y3_2 * 10)]) [(16, .lmul)] (by decide +kernel) rfl ?_
      have k15 := zmulLN (a := y3_2) (b := 10) (by first | omega | decide) (by first | omega | decide)
      rw [show (10 : Int64).toInt = 10 from by decide] at k15
      generalize ev17 : (y3_2 * 10 : Int64) = v17 at k15 ⊢
      have kv17 := zrngL v17
      refine zp_seg (pc' := 2) (lv' := [(3, .long v17), (0, .ref m), (1, .long v)]) (st' := []) [(17, .lstore_n 3), (18, .goto (-16))] (by decide +kernel) rfl ?_
      exact (ih2 v17 (iI + 1) (by
            have hq9 := zdiv_ge10 mq4 (by omega) (by omega)
            have hq8 := z10_idx (n := iI) (by omega)
            exact ⟨by show _ = 10 * z10 iI; omega, by omega⟩) (by omega)).more (zfa1 rfl (zfa1 rfl (zfa1 rfl (zfa0))))
  exact (hL2 _ 1 (0) (by
        exact ⟨by decide, by decide⟩) (Nat.lt_succ_self _)).more (zfa1 rfl (zfa1 rfl (zfa1 rfl (zfa0))))

set_option maxHeartbeats 8000000 in
set_option maxRecDepth 100000 in
theorem c_X16_sayLetter {w : zM} {g : Nat → Int32} {r : Nat → Value}  {g25 : Int32} (m : Nat) (c : Int32) (e : Int32) (more : Int32) (hm : w m = some (.inl (15, zMo m g r))) (hR_m : zR m w) (hBy_m_93 : zBya w (m + 93) 4000) (he : 0 ≤ e.toInt) (how : 0 ≤ g25.toInt ∧ g25.toInt ≤ 800000000) (hz_more : more = 0 ∨ more = 1) (hg25 : g 25 = g25) : zCon 3 zq_X16_sayLetter [.ref m, .int c, .int e, .int more] w (fun v9 w9' => ∃ C9 : Int32, zSI w w9' ∧ (∀ x, (x < m ∨ m + 1 ≤ x) ∧ (x < m + 93 ∨ m + 93 + 1 ≤ x) → w9' x = w x) ∧ w9' m = some (.inl (15, zMo m (zs g 25 C9) r)) ∧ zBya w9' (m + 93) 4000 ∧ (g25.toInt ≤ C9.toInt ∧ C9.toInt ≤ g25.toInt + 13) ∧ v9 = none) := by
  subst hg25
  intro d sz hd
  obtain ⟨d, rfl⟩ : ∃ d9, d = d9 + 1 := ⟨d - 1, by omega⟩
  generalize hPost : (fun (r9' : Option (Option Value)) (w9' : zM) (z9 : Nat) => z9 = sz ∧ ∃ v9, r9' = some v9 ∧ (∃ C9 : Int32, zSI w w9' ∧ (∀ x, (x < m ∨ m + 1 ≤ x) ∧ (x < m + 93 ∨ m + 93 + 1 ≤ x) → w9' x = w x) ∧ w9' m = some (.inl (15, zMo m (zs g 25 C9) r)) ∧ zBya w9' (m + 93) 4000 ∧ ((g 25).toInt ≤ C9.toInt ∧ C9.toInt ≤ (g 25).toInt + 13) ∧ v9 = none)) = Post
  show zP (d + 1) zq_X16_sayLetter 0 [(0, .ref m), (1, .int c), (2, .int e), (3, .int more)] [] w sz 0 0 Post
  have k1 := zrng c
  have k2 := zrng e
  have k3 := zrng more
  refine zp_seg (pc' := 1) (lv' := [(0, .ref m), (1, .int c), (2, .int e), (3, .int more)]) (st' := [.int e]) [(0, .iload_n 2)] (by decide +kernel) rfl ?_
  refine zp_if (i := .ifCond .ne 4) (c := ¬ e = 0) (t := 5) (e := 4) (lv' := [(0, .ref m), (1, .int c), (2, .int e), (3, .int more)]) (st' := []) (by decide +kernel) rfl (fun cc1 => ?_) (fun cc1 => ?_)
  ·
    have f5 := zneI cc1
    rw [show (0 : Int32).toInt = 0 from by decide] at f5
    refine zp_seg (pc' := 6) (lv' := [(0, .ref m), (1, .int c), (2, .int e), (3, .int more)]) (st' := [.int more]) [(5, .iload_n 3)] (by decide +kernel) rfl ?_
    refine zp_if (i := .ifCond .eq 9) (c := more = 0) (t := 15) (e := 9) (lv' := [(0, .ref m), (1, .int c), (2, .int e), (3, .int more)]) (st' := []) (by decide +kernel) rfl (fun cc6 => ?_) (fun cc6 => ?_)
    ·
      have f6 := zeqI cc6
      rw [show (0 : Int32).toInt = 0 from by decide] at f6
      refine zp_seg (pc' := 17) (lv' := [(0, .ref m), (1, .int c), (2, .int e), (3, .int more)]) (st' := [.int c, .ref m]) [(15, .aload_n 0), (16, .iload_n 1)] (by decide +kernel) rfl ?_
      have k7 := zrng (g 25)
      refine zr_callV (idx := 564) (j := 341) (by decide +kernel) (by decide +kernel) (show zMe 341 = some zq_X16_say from rfl) rfl rfl (Nat.le_of_ble_eq_true rfl) rfl rfl hm (Nat.le_of_ble_eq_true rfl) (Nat.le_of_ble_eq_true rfl) (c_X16_say (w := w) (g25 := (g 25)) m c hm hR_m hBy_m_93 (by first | omega | decide | assumption | exact zr1_1 | exact zr1_0 | fail "num") rfl) (by omega) (fun v17 w17 hp17 => ?_)
      obtain ⟨C9_17, hsi17, heq17, hp17_0, hp17_1, hp17_2, rfl⟩ := hp17
      have hM17 : w17 m = some (.inl (15, zMo m (zs g 25 C9_17) r)) := hp17_0
      show zP _ _ _ _ [] _ _ _ _ _
      refine zp_seg (pc' := 22) (lv' := [(0, .ref m), (1, .int c), (2, .int e), (3, .int more)]) (st' := [.int 1, .int e]) [(20, .iload_n 2), (21, .iconst 1)] (by decide +kernel) rfl ?_
      refine zp_if (i := .if_icmp .le 15) (c := e ≤ 1) (t := 37) (e := 25) (lv' := [(0, .ref m), (1, .int c), (2, .int e), (3, .int more)]) (st' := []) (by decide +kernel) rfl (fun cc22 => ?_) (fun cc22 => ?_)
      ·
        have f9 := zleI cc22
        rw [show (1 : Int32).toInt = 1 from by decide] at f9
        have hoffend : ∀ x, (x < m ∨ m + 1 ≤ x) ∧ (x < m + 93 ∨ m + 93 + 1 ≤ x) → w17 x = w x := fun x hx => (heq17 x ⟨hx.1, hx.2⟩)
        refine zr_retV (by decide +kernel) rfl ?_
        rw [← hPost]; exact ⟨rfl, _, rfl, C9_17, hsi17, hoffend, hM17, hp17_1, (by first | omega | assumption | decide), rfl⟩
      ·
        have f11 := znleI cc22
        rw [show (1 : Int32).toInt = 1 from by decide] at f11
        refine zp_seg (pc' := 28) (lv' := [(0, .ref m), (1, .int c), (2, .int e), (3, .int more)]) (st' := [.int 94, .ref m]) [(25, .aload_n 0), (26, .bipush 94)] (by decide +kernel) rfl ?_
        have k12 := zrng C9_17
        have hb13 := hR_m.si hsi17
        refine zr_callV (idx := 564) (j := 341) (by decide +kernel) (by decide +kernel) (show zMe 341 = some zq_X16_say from rfl) rfl rfl (Nat.le_of_ble_eq_true rfl) rfl rfl hM17 (Nat.le_of_ble_eq_true rfl) (Nat.le_of_ble_eq_true rfl) (c_X16_say (w := w17) (g25 := C9_17) m 94 hM17 hb13 hp17_1 (by first | omega | decide | assumption | exact zr1_1 | exact zr1_0 | fail "num") rfl) (by omega) (fun v28 w28 hp28 => ?_)
        obtain ⟨C9_28, hsi28, heq28, hp28_0, hp28_1, hp28_2, rfl⟩ := hp28
        have hM28 : w28 m = some (.inl (15, zMo m (zs g 25 C9_28) r)) := hp28_0
        show zP _ _ _ _ [] _ _ _ _ _
        refine zp_seg (pc' := 34) (lv' := [(0, .ref m), (1, .int c), (2, .int e), (3, .int more)]) (st' := [.long (e.toInt64), .ref m]) [(31, .aload_n 0), (32, .iload_n 2), (33, .i2l)] (by decide +kernel) rfl ?_
        have k14 := zi2lM e
        generalize ev34 : (e.toInt64 : Int64) = v34 at k14 ⊢
        have kv34 := zrngL v34
        have k15 := zrng C9_28
        have hb16 := hb13.si hsi28
        refine zr_callV (idx := 571) (j := 342) (by decide +kernel) (by decide +kernel) (show zMe 342 = some zq_X16_sayNumber from rfl) rfl rfl (Nat.le_of_ble_eq_true rfl) rfl rfl hM28 (Nat.le_of_ble_eq_true rfl) (Nat.le_of_ble_eq_true rfl) (c_X16_sayNumber (w := w28) (g25 := C9_28) m v34 hM28 hb16 hp28_1 (by first | omega | decide | assumption | exact zr1_1 | exact zr1_0 | fail "num") (by first | omega | decide | assumption | exact zr1_1 | exact zr1_0 | fail "num") rfl) (by omega) (fun v34 w34 hp34 => ?_)
        obtain ⟨C9_34, hsi34, heq34, hp34_0, hp34_1, hp34_2, rfl⟩ := hp34
        have hM34 : w34 m = some (.inl (15, zMo m (zs g 25 C9_34) r)) := hp34_0
        show zP _ _ _ _ [] _ _ _ _ _
        have hoffend : ∀ x, (x < m ∨ m + 1 ≤ x) ∧ (x < m + 93 ∨ m + 93 + 1 ≤ x) → w34 x = w x := fun x hx => ((heq34 x ⟨hx.1, hx.2⟩).trans ((heq28 x ⟨hx.1, hx.2⟩).trans (heq17 x ⟨hx.1, hx.2⟩)))
        refine zr_retV (by decide +kernel) rfl ?_
        rw [← hPost]; exact ⟨rfl, _, rfl, C9_34, ((hsi17.tr hsi28).tr hsi34), hoffend, hM34, hp34_1, (by first | omega | assumption | decide), rfl⟩
    ·
      have f17 := zneI cc6
      rw [show (0 : Int32).toInt = 0 from by decide] at f17
      refine zp_seg (pc' := 12) (lv' := [(0, .ref m), (1, .int c), (2, .int e), (3, .int more)]) (st' := [.int 42, .ref m]) [(9, .aload_n 0), (10, .bipush 42)] (by decide +kernel) rfl ?_
      have k18 := zrng (g 25)
      refine zr_callV (idx := 564) (j := 341) (by decide +kernel) (by decide +kernel) (show zMe 341 = some zq_X16_say from rfl) rfl rfl (Nat.le_of_ble_eq_true rfl) rfl rfl hm (Nat.le_of_ble_eq_true rfl) (Nat.le_of_ble_eq_true rfl) (c_X16_say (w := w) (g25 := (g 25)) m 42 hm hR_m hBy_m_93 (by first | omega | decide | assumption | exact zr1_1 | exact zr1_0 | fail "num") rfl) (by omega) (fun v12 w12 hp12 => ?_)
      obtain ⟨C9_12, hsi12, heq12, hp12_0, hp12_1, hp12_2, rfl⟩ := hp12
      have hM12 : w12 m = some (.inl (15, zMo m (zs g 25 C9_12) r)) := hp12_0
      show zP _ _ _ _ [] _ _ _ _ _
      refine zp_seg (pc' := 17) (lv' := [(0, .ref m), (1, .int c), (2, .int e), (3, .int more)]) (st' := [.int c, .ref m]) [(15, .aload_n 0), (16, .iload_n 1)] (by decide +kernel) rfl ?_
      have k19 := zrng C9_12
      have hb20 := hR_m.si hsi12
      refine zr_callV (idx := 564) (j := 341) (by decide +kernel) (by decide +kernel) (show zMe 341 = some zq_X16_say from rfl) rfl rfl (Nat.le_of_ble_eq_true rfl) rfl rfl hM12 (Nat.le_of_ble_eq_true rfl) (Nat.le_of_ble_eq_true rfl) (c_X16_say (w := w12) (g25 := C9_12) m c hM12 hb20 hp12_1 (by first | omega | decide | assumption | exact zr1_1 | exact zr1_0 | fail "num") rfl) (by omega) (fun v17 w17 hp17 => ?_)
      obtain ⟨C9_17, hsi17, heq17, hp17_0, hp17_1, hp17_2, rfl⟩ := hp17
      have hM17 : w17 m = some (.inl (15, zMo m (zs g 25 C9_17) r)) := hp17_0
      show zP _ _ _ _ [] _ _ _ _ _
      refine zp_seg (pc' := 22) (lv' := [(0, .ref m), (1, .int c), (2, .int e), (3, .int more)]) (st' := [.int 1, .int e]) [(20, .iload_n 2), (21, .iconst 1)] (by decide +kernel) rfl ?_
      refine zp_if (i := .if_icmp .le 15) (c := e ≤ 1) (t := 37) (e := 25) (lv' := [(0, .ref m), (1, .int c), (2, .int e), (3, .int more)]) (st' := []) (by decide +kernel) rfl (fun cc22 => ?_) (fun cc22 => ?_)
      ·
        have f22 := zleI cc22
        rw [show (1 : Int32).toInt = 1 from by decide] at f22
        have hoffend : ∀ x, (x < m ∨ m + 1 ≤ x) ∧ (x < m + 93 ∨ m + 93 + 1 ≤ x) → w17 x = w x := fun x hx => ((heq17 x ⟨hx.1, hx.2⟩).trans (heq12 x ⟨hx.1, hx.2⟩))
        refine zr_retV (by decide +kernel) rfl ?_
        rw [← hPost]; exact ⟨rfl, _, rfl, C9_17, (hsi12.tr hsi17), hoffend, hM17, hp17_1, (by first | omega | assumption | decide), rfl⟩
      ·
        have f24 := znleI cc22
        rw [show (1 : Int32).toInt = 1 from by decide] at f24
        refine zp_seg (pc' := 28) (lv' := [(0, .ref m), (1, .int c), (2, .int e), (3, .int more)]) (st' := [.int 94, .ref m]) [(25, .aload_n 0), (26, .bipush 94)] (by decide +kernel) rfl ?_
        have k25 := zrng C9_17
        have hb26 := hb20.si hsi17
        refine zr_callV (idx := 564) (j := 341) (by decide +kernel) (by decide +kernel) (show zMe 341 = some zq_X16_say from rfl) rfl rfl (Nat.le_of_ble_eq_true rfl) rfl rfl hM17 (Nat.le_of_ble_eq_true rfl) (Nat.le_of_ble_eq_true rfl) (c_X16_say (w := w17) (g25 := C9_17) m 94 hM17 hb26 hp17_1 (by first | omega | decide | assumption | exact zr1_1 | exact zr1_0 | fail "num") rfl) (by omega) (fun v28 w28 hp28 => ?_)
        obtain ⟨C9_28, hsi28, heq28, hp28_0, hp28_1, hp28_2, rfl⟩ := hp28
        have hM28 : w28 m = some (.inl (15, zMo m (zs g 25 C9_28) r)) := hp28_0
        show zP _ _ _ _ [] _ _ _ _ _
        refine zp_seg (pc' := 34) (lv' := [(0, .ref m), (1, .int c), (2, .int e), (3, .int more)]) (st' := [.long (e.toInt64), .ref m]) [(31, .aload_n 0), (32, .iload_n 2), (33, .i2l)] (by decide +kernel) rfl ?_
        have k27 := zi2lM e
        generalize ev34 : (e.toInt64 : Int64) = v34 at k27 ⊢
        have kv34 := zrngL v34
        have k28 := zrng C9_28
        have hb29 := hb26.si hsi28
        refine zr_callV (idx := 571) (j := 342) (by decide +kernel) (by decide +kernel) (show zMe 342 = some zq_X16_sayNumber from rfl) rfl rfl (Nat.le_of_ble_eq_true rfl) rfl rfl hM28 (Nat.le_of_ble_eq_true rfl) (Nat.le_of_ble_eq_true rfl) (c_X16_sayNumber (w := w28) (g25 := C9_28) m v34 hM28 hb29 hp28_1 (by first | omega | decide | assumption | exact zr1_1 | exact zr1_0 | fail "num") (by first | omega | decide | assumption | exact zr1_1 | exact zr1_0 | fail "num") rfl) (by omega) (fun v34 w34 hp34 => ?_)
        obtain ⟨C9_34, hsi34, heq34, hp34_0, hp34_1, hp34_2, rfl⟩ := hp34
        have hM34 : w34 m = some (.inl (15, zMo m (zs g 25 C9_34) r)) := hp34_0
        show zP _ _ _ _ [] _ _ _ _ _
        have hoffend : ∀ x, (x < m ∨ m + 1 ≤ x) ∧ (x < m + 93 ∨ m + 93 + 1 ≤ x) → w34 x = w x := fun x hx => ((heq34 x ⟨hx.1, hx.2⟩).trans ((heq28 x ⟨hx.1, hx.2⟩).trans ((heq17 x ⟨hx.1, hx.2⟩).trans (heq12 x ⟨hx.1, hx.2⟩))))
        refine zr_retV (by decide +kernel) rfl ?_
        rw [← hPost]; exact ⟨rfl, _, rfl, C9_34, (((hsi12.tr hsi17).tr hsi28).tr hsi34), hoffend, hM34, hp34_1, (by first | omega | assumption | decide), rfl⟩
  ·
    replace cc1 := Classical.not_not.mp cc1
    have f31 := zeqI cc1
    rw [show (0 : Int32).toInt = 0 from by decide] at f31
    have hoffend : ∀ x, (x < m ∨ m + 1 ≤ x) ∧ (x < m + 93 ∨ m + 93 + 1 ≤ x) → w x = w x := fun x hx => rfl
    refine zr_retV (by decide +kernel) rfl ?_
    rw [← hPost]; exact ⟨rfl, _, rfl, (g 25), zSI.rf, hoffend, hm, hBy_m_93, (by first | omega | assumption | decide), rfl⟩

theorem zx_X16_sayPart_0 {m x : Nat} (h0 : x < m ∨ m + 1 ≤ x) : x ≠ m := by omega
theorem zx_X16_sayPart_1 {m x : Nat} (h0 : m + 93 ≤ x) (h1 : x < m + 93 + 1) : x ≠ m := by omega
set_option maxHeartbeats 8000000 in
set_option maxRecDepth 100000 in
theorem c_X16_sayPart {w : zM} {g : Nat → Int32} {r : Nat → Value}  {g25 : Int32} (m : Nat) (v : Int32) (i : Int32) (j : Int32) (hm : w m = some (.inl (15, zMo m g r))) (hR_m : zR m w) (hBy_m_93 : zBya w (m + 93) 4000) (h_v : zr1 v) (hij : 0 ≤ i.toInt ∧ 0 ≤ j.toInt) (how : 0 ≤ g25.toInt ∧ g25.toInt ≤ 700000000) (hg25 : g 25 = g25) : zCon 4 zq_X16_sayPart [.ref m, .int v, .int i, .int j] w (fun v9 w9' => ∃ C9 : Int32, zSI w w9' ∧ (∀ x, (x < m ∨ m + 1 ≤ x) ∧ (x < m + 93 ∨ m + 93 + 1 ≤ x) → w9' x = w x) ∧ w9' m = some (.inl (15, zMo m (zs (zs g 25 C9) 27 0) r)) ∧ zBya w9' (m + 93) 4000 ∧ (g25.toInt ≤ C9.toInt ∧ C9.toInt ≤ g25.toInt + 37) ∧ v9 = none) := by
  subst hg25
  intro d sz hd
  obtain ⟨d, rfl⟩ : ∃ d9, d = d9 + 1 := ⟨d - 1, by omega⟩
  generalize hPost : (fun (r9' : Option (Option Value)) (w9' : zM) (z9 : Nat) => z9 = sz ∧ ∃ v9, r9' = some v9 ∧ (∃ C9 : Int32, zSI w w9' ∧ (∀ x, (x < m ∨ m + 1 ≤ x) ∧ (x < m + 93 ∨ m + 93 + 1 ≤ x) → w9' x = w x) ∧ w9' m = some (.inl (15, zMo m (zs (zs g 25 C9) 27 0) r)) ∧ zBya w9' (m + 93) 4000 ∧ ((g 25).toInt ≤ C9.toInt ∧ C9.toInt ≤ (g 25).toInt + 37) ∧ v9 = none)) = Post
  show zP (d + 1) zq_X16_sayPart 0 [(0, .ref m), (1, .int v), (2, .int i), (3, .int j)] [] w sz 0 0 Post
  have k1 := zrng v
  have k2 := zrng i
  have k3 := zrng j
  refine zp_seg (pc' := 1) (lv' := [(0, .ref m), (1, .int v), (2, .int i), (3, .int j)]) (st' := [.int v]) [(0, .iload_n 1)] (by decide +kernel) rfl ?_
  refine zr_callS (idx := 390) (j := 261) (by decide +kernel) (by decide +kernel) (by decide) (show zMe 261 = some zq_X16_small from rfl) rfl rfl (Nat.le_of_ble_eq_true rfl) rfl rfl (Nat.le_of_ble_eq_true rfl) (Nat.le_of_ble_eq_true rfl) (c_X16_small (w := w) v (by first | omega | decide | assumption | exact zr1_1 | exact zr1_0 | fail "num")) (by omega) (fun v1 w1 hp1 => ?_)
  obtain ⟨hpw1, r1, rfl, hr1⟩ := hp1
  replace hpw1 := hpw1.symm
  subst hpw1
  have kr1 := zrng r1
  show zP _ _ _ _ [.int r1] _ _ _ _ _
  refine zp_seg (pc' := 8) (lv' := [(4, .int r1), (0, .ref m), (1, .int v), (2, .int i), (3, .int j)]) (st' := [.int r1]) [(4, .istore 4), (6, .iload 4)] (by decide +kernel) rfl ?_
  have hJ33 : ∀ (wL33 : zM) (xC : Int32), (zSI w wL33) → (∀ x, ((x < m ∨ m + 1 ≤ x) ∧ (x < m + 93 ∨ m + 93 + 1 ≤ x)) ∧ x ≠ m → wL33 x = w x) → (wL33 m = some (.inl (15, zMo m (zs g 25 xC) r))) → (zBya wL33 (m + 93) 4000) → ((g 25).toInt ≤ xC.toInt ∧ xC.toInt ≤ (g 25).toInt + 1) → zP (d + 1) zq_X16_sayPart 33 [(0, .ref m), (2, .int i), (3, .int j), (4, .int r1)] [] wL33 sz 0 0 Post := by
    intro wL33 xC hsiL33 heqL33 hxM hBYl hxC
    refine zp_seg (pc' := 35) (lv' := [(0, .ref m), (2, .int i), (3, .int j), (4, .int r1)]) (st' := [.int 0, .ref m]) [(33, .aload_n 0), (34, .iconst 0)] (by decide +kernel) rfl ?_
    refine zr_put2 (idx := 567) (k := 27) (fs2 := zMo m (zs (zs g 25 xC) 27 0) r) (by decide +kernel) (by decide +kernel) hxM (Nat.le_of_ble_eq_true rfl) rfl rfl rfl ?_
    show zP (d + 1) zq_X16_sayPart 38 [(0, .ref m), (2, .int i), (3, .int j), (4, .int r1)] [] (zup wL33 m (.inl (15, zMo m (zs (zs g 25 xC) 27 0) r))) sz 0 0 Post
    obtain ⟨w35, ew35⟩ : ∃ wz9, wz9 = zup wL33 m (.inl (15, zMo m (zs (zs g 25 xC) 27 0) r)) := ⟨_, rfl⟩
    have hsi35 : zSI wL33 w35 := by rw [ew35]; exact zSI.setG hxM _ _
    have heq35 : ∀ x, x ≠ m → w35 x = wL33 x := fun x hx => by rw [ew35]; exact zup_n hx
    have hc35 : w35 m = some (.inl (15, zMo m (zs (zs g 25 xC) 27 0) r)) := by rw [ew35]; exact zup_s
    rw [← ew35]
    clear ew35
    refine zp_seg (pc' := 40) (lv' := [(0, .ref m), (2, .int i), (3, .int j), (4, .int r1)]) (st' := [.int r1]) [(38, .iload 4)] (by decide +kernel) rfl ?_
    refine zr_abs (idx := 273) (by decide +kernel) (by decide +kernel) (by omega) (Nat.le_of_ble_eq_true rfl) ?_
    obtain ⟨m4, em4, hm4⟩ := zabsI r1
    rw [← em4]
    have km4 := zrng m4
    refine zp_seg (pc' := 45) (lv' := [(5, .int m4), (0, .ref m), (2, .int i), (3, .int j), (4, .int r1)]) (st' := []) [(43, .istore 5)] (by decide +kernel) rfl ?_
    have hab9 := zabs_ok em4 (by omega)
    refine zp_seg (pc' := 48) (lv' := [(5, .int m4), (0, .ref m), (2, .int i), (3, .int j), (4, .int r1)]) (st' := [.int 1, .int m4]) [(45, .iload 5), (47, .iconst 1)] (by decide +kernel) rfl ?_
    have hJ64 : ∀ (z0_64 : Int32), ((z0_64 = 0 ∨ z0_64 = 1)) → zP (d + 1) zq_X16_sayPart 64 [(0, .ref m), (2, .int i), (3, .int j), (5, .int m4)] [.int z0_64] w35 sz 0 0 Post := by
      intro z0_64 hi64_0
      have kz0_64 := zrng z0_64
      refine zp_seg (pc' := 68) (lv' := [(6, .int z0_64), (0, .ref m), (2, .int i), (3, .int j), (5, .int m4)]) (st' := [.int z0_64]) [(64, .istore 6), (66, .iload 6)] (by decide +kernel) rfl ?_
      have hJ78 : ∀ (wL78 : zM) (xC : Int32), (zSI w35 wL78) → (∀ x, ((x < m ∨ m + 1 ≤ x) ∧ (x < m + 93 ∨ m + 93 + 1 ≤ x)) ∧ x ≠ m → wL78 x = w35 x) → (wL78 m = some (.inl (15, zMo m (zs (zs g 25 xC) 27 0) r))) → (zBya wL78 (m + 93) 4000) → ((g 25).toInt ≤ xC.toInt ∧ xC.toInt ≤ (g 25).toInt + 11) → zP (d + 1) zq_X16_sayPart 78 [(0, .ref m), (2, .int i), (3, .int j), (6, .int z0_64)] [] wL78 sz 0 0 Post := by
        intro wL78 xC hsiL78 heqL78 hxM hBYl hxC
        refine zp_seg (pc' := 84) (lv' := [(0, .ref m), (2, .int i), (3, .int j), (6, .int z0_64)]) (st' := [.int z0_64, .int i, .int 110, .ref m]) [(78, .aload_n 0), (79, .bipush 110), (81, .iload_n 2), (82, .iload 6)] (by decide +kernel) rfl ?_
        have k5 := zrng xC
        have hb6 := hR_m.si ((hsiL33.tr hsi35).tr hsiL78)
        refine zr_callV (idx := 575) (j := 344) (by decide +kernel) (by decide +kernel) (show zMe 344 = some zq_X16_sayLetter from rfl) rfl rfl (Nat.le_of_ble_eq_true rfl) rfl rfl hxM (Nat.le_of_ble_eq_true rfl) (Nat.le_of_ble_eq_true rfl) (c_X16_sayLetter (w := wL78) (g25 := xC) m 110 i z0_64 hxM hb6 hBYl (by first | omega | decide | assumption | exact zr1_1 | exact zr1_0 | fail "num") (by first | omega | decide | assumption | exact zr1_1 | exact zr1_0 | fail "num") (by first | omega | decide | assumption | exact zr1_1 | exact zr1_0 | fail "num") rfl) (by omega) (fun v84 w84 hp84 => ?_)
        obtain ⟨C9_84, hsi84, heq84, hp84_0, hp84_1, hp84_2, rfl⟩ := hp84
        have hM84 : w84 m = some (.inl (15, zMo m (zs (zs g 25 C9_84) 27 0) r)) := hp84_0
        show zP _ _ _ _ [] _ _ _ _ _
        refine zp_seg (pc' := 93) (lv' := [(0, .ref m), (2, .int i), (3, .int j), (6, .int z0_64)]) (st' := [.int z0_64, .int j, .int 107, .ref m]) [(87, .aload_n 0), (88, .bipush 107), (90, .iload_n 3), (91, .iload 6)] (by decide +kernel) rfl ?_
        refine zp_if (i := .ifCond .ne 7) (c := ¬ z0_64 = 0) (t := 100) (e := 96) (lv' := [(0, .ref m), (2, .int i), (3, .int j), (6, .int z0_64)]) (st' := [.int j, .int 107, .ref m]) (by decide +kernel) rfl (fun cc93 => ?_) (fun cc93 => ?_)
        ·
          have f8 := zneI cc93
          rw [show (0 : Int32).toInt = 0 from by decide] at f8
          refine zp_seg (pc' := 105) (lv' := [(0, .ref m), (2, .int i), (3, .int j), (6, .int z0_64)]) (st' := [.int 1, .int j, .int 107, .ref m]) [(100, .iconst 1), (101, .goto 4)] (by decide +kernel) rfl ?_
          have k9 := zrng C9_84
          have hb10 := hb6.si hsi84
          refine zr_callV (idx := 575) (j := 344) (by decide +kernel) (by decide +kernel) (show zMe 344 = some zq_X16_sayLetter from rfl) rfl rfl (Nat.le_of_ble_eq_true rfl) rfl rfl hM84 (Nat.le_of_ble_eq_true rfl) (Nat.le_of_ble_eq_true rfl) (c_X16_sayLetter (w := w84) (g25 := C9_84) m 107 j 1 hM84 hb10 hp84_1 (by first | omega | decide | assumption | exact zr1_1 | exact zr1_0 | fail "num") (by first | omega | decide | assumption | exact zr1_1 | exact zr1_0 | fail "num") (by first | omega | decide | assumption | exact zr1_1 | exact zr1_0 | fail "num") rfl) (by omega) (fun v105 w105 hp105 => ?_)
          obtain ⟨C9_105, hsi105, heq105, hp105_0, hp105_1, hp105_2, rfl⟩ := hp105
          have hM105 : w105 m = some (.inl (15, zMo m (zs (zs g 25 C9_105) 27 0) r)) := hp105_0
          show zP _ _ _ _ [] _ _ _ _ _
          have hoffend : ∀ x, (x < m ∨ m + 1 ≤ x) ∧ (x < m + 93 ∨ m + 93 + 1 ≤ x) → w105 x = w x := fun x hx => ((heq105 x ⟨hx.1, hx.2⟩).trans ((heq84 x ⟨hx.1, hx.2⟩).trans ((heqL78 x ⟨⟨hx.1, hx.2⟩, (zx_X16_sayPart_0 hx.1)⟩).trans ((heq35 x (zx_X16_sayPart_0 hx.1)).trans (heqL33 x ⟨⟨hx.1, hx.2⟩, (zx_X16_sayPart_0 hx.1)⟩)))))
          refine zr_retV (by decide +kernel) rfl ?_
          rw [← hPost]; exact ⟨rfl, _, rfl, C9_105, ((((hsiL33.tr hsi35).tr hsiL78).tr hsi84).tr hsi105), hoffend, hM105, hp105_1, (by first | omega | assumption | decide), rfl⟩
        ·
          replace cc93 := Classical.not_not.mp cc93
          have f12 := zeqI cc93
          rw [show (0 : Int32).toInt = 0 from by decide] at f12
          refine zp_seg (pc' := 97) (lv' := [(0, .ref m), (2, .int i), (3, .int j), (6, .int z0_64)]) (st' := [.int i, .int j, .int 107, .ref m]) [(96, .iload_n 2)] (by decide +kernel) rfl ?_
          refine zp_if (i := .ifCond .le 7) (c := i ≤ 0) (t := 104) (e := 100) (lv' := [(0, .ref m), (2, .int i), (3, .int j), (6, .int z0_64)]) (st' := [.int j, .int 107, .ref m]) (by decide +kernel) rfl (fun cc97 => ?_) (fun cc97 => ?_)
          ·
            have f13 := zleI cc97
            rw [show (0 : Int32).toInt = 0 from by decide] at f13
            refine zp_seg (pc' := 105) (lv' := [(0, .ref m), (2, .int i), (3, .int j), (6, .int z0_64)]) (st' := [.int 0, .int j, .int 107, .ref m]) [(104, .iconst 0)] (by decide +kernel) rfl ?_
            have k14 := zrng C9_84
            have hb15 := hb6.si hsi84
            refine zr_callV (idx := 575) (j := 344) (by decide +kernel) (by decide +kernel) (show zMe 344 = some zq_X16_sayLetter from rfl) rfl rfl (Nat.le_of_ble_eq_true rfl) rfl rfl hM84 (Nat.le_of_ble_eq_true rfl) (Nat.le_of_ble_eq_true rfl) (c_X16_sayLetter (w := w84) (g25 := C9_84) m 107 j 0 hM84 hb15 hp84_1 (by first | omega | decide | assumption | exact zr1_1 | exact zr1_0 | fail "num") (by first | omega | decide | assumption | exact zr1_1 | exact zr1_0 | fail "num") (by first | omega | decide | assumption | exact zr1_1 | exact zr1_0 | fail "num") rfl) (by omega) (fun v105 w105 hp105 => ?_)
            obtain ⟨C9_105, hsi105, heq105, hp105_0, hp105_1, hp105_2, rfl⟩ := hp105
            have hM105 : w105 m = some (.inl (15, zMo m (zs (zs g 25 C9_105) 27 0) r)) := hp105_0
            show zP _ _ _ _ [] _ _ _ _ _
            have hoffend : ∀ x, (x < m ∨ m + 1 ≤ x) ∧ (x < m + 93 ∨ m + 93 + 1 ≤ x) → w105 x = w x := fun x hx => ((heq105 x ⟨hx.1, hx.2⟩).trans ((heq84 x ⟨hx.1, hx.2⟩).trans ((heqL78 x ⟨⟨hx.1, hx.2⟩, (zx_X16_sayPart_0 hx.1)⟩).trans ((heq35 x (zx_X16_sayPart_0 hx.1)).trans (heqL33 x ⟨⟨hx.1, hx.2⟩, (zx_X16_sayPart_0 hx.1)⟩)))))
            refine zr_retV (by decide +kernel) rfl ?_
            rw [← hPost]; exact ⟨rfl, _, rfl, C9_105, ((((hsiL33.tr hsi35).tr hsiL78).tr hsi84).tr hsi105), hoffend, hM105, hp105_1, (by first | omega | assumption | decide), rfl⟩
          ·
            have f16 := znleI cc97
            rw [show (0 : Int32).toInt = 0 from by decide] at f16
            refine zp_seg (pc' := 105) (lv' := [(0, .ref m), (2, .int i), (3, .int j), (6, .int z0_64)]) (st' := [.int 1, .int j, .int 107, .ref m]) [(100, .iconst 1), (101, .goto 4)] (by decide +kernel) rfl ?_
            have k17 := zrng C9_84
            have hb18 := hb6.si hsi84
            refine zr_callV (idx := 575) (j := 344) (by decide +kernel) (by decide +kernel) (show zMe 344 = some zq_X16_sayLetter from rfl) rfl rfl (Nat.le_of_ble_eq_true rfl) rfl rfl hM84 (Nat.le_of_ble_eq_true rfl) (Nat.le_of_ble_eq_true rfl) (c_X16_sayLetter (w := w84) (g25 := C9_84) m 107 j 1 hM84 hb18 hp84_1 (by first | omega | decide | assumption | exact zr1_1 | exact zr1_0 | fail "num") (by first | omega | decide | assumption | exact zr1_1 | exact zr1_0 | fail "num") (by first | omega | decide | assumption | exact zr1_1 | exact zr1_0 | fail "num") rfl) (by omega) (fun v105 w105 hp105 => ?_)
            obtain ⟨C9_105, hsi105, heq105, hp105_0, hp105_1, hp105_2, rfl⟩ := hp105
            have hM105 : w105 m = some (.inl (15, zMo m (zs (zs g 25 C9_105) 27 0) r)) := hp105_0
            show zP _ _ _ _ [] _ _ _ _ _
            have hoffend : ∀ x, (x < m ∨ m + 1 ≤ x) ∧ (x < m + 93 ∨ m + 93 + 1 ≤ x) → w105 x = w x := fun x hx => ((heq105 x ⟨hx.1, hx.2⟩).trans ((heq84 x ⟨hx.1, hx.2⟩).trans ((heqL78 x ⟨⟨hx.1, hx.2⟩, (zx_X16_sayPart_0 hx.1)⟩).trans ((heq35 x (zx_X16_sayPart_0 hx.1)).trans (heqL33 x ⟨⟨hx.1, hx.2⟩, (zx_X16_sayPart_0 hx.1)⟩)))))
            refine zr_retV (by decide +kernel) rfl ?_
            rw [← hPost]; exact ⟨rfl, _, rfl, C9_105, ((((hsiL33.tr hsi35).tr hsiL78).tr hsi84).tr hsi105), hoffend, hM105, hp105_1, (by first | omega | assumption | decide), rfl⟩
      refine zp_if (i := .ifCond .eq 10) (c := z0_64 = 0) (t := 78) (e := 71) (lv' := [(6, .int z0_64), (0, .ref m), (2, .int i), (3, .int j), (5, .int m4)]) (st' := []) (by decide +kernel) rfl (fun cc68 => ?_) (fun cc68 => ?_)
      ·
        have f20 := zeqI cc68
        rw [show (0 : Int32).toInt = 0 from by decide] at f20
        have hb21 : zBya w35 (m + 93) 4000 := hBYl.ag (fun x hx1 hx2 => (heq35 x (zx_X16_sayPart_1 hx1 hx2)))
        exact (hJ78 w35 (xC) zSI.rf (fun _ _ => rfl) (by
              exact hc35) hb21 (by
              omega)).more (zfa1 rfl (zfa1 rfl (zfa1 rfl (zfa1 rfl (zfa0)))))
      ·
        have f23 := zneI cc68
        rw [show (0 : Int32).toInt = 0 from by decide] at f23
        refine zp_seg (pc' := 75) (lv' := [(6, .int z0_64), (0, .ref m), (2, .int i), (3, .int j), (5, .int m4)]) (st' := [.long (m4.toInt64), .ref m]) [(71, .aload_n 0), (72, .iload 5), (74, .i2l)] (by decide +kernel) rfl ?_
        have k24 := zi2lM m4
        generalize ev75 : (m4.toInt64 : Int64) = v75 at k24 ⊢
        have kv75 := zrngL v75
        have k25 := zrng xC
        have hb26 := hR_m.si (hsiL33.tr hsi35)
        have hb27 : zBya w35 (m + 93) 4000 := hBYl.ag (fun x hx1 hx2 => (heq35 x (zx_X16_sayPart_1 hx1 hx2)))
        refine zr_callV (idx := 571) (j := 342) (by decide +kernel) (by decide +kernel) (show zMe 342 = some zq_X16_sayNumber from rfl) rfl rfl (Nat.le_of_ble_eq_true rfl) rfl rfl hc35 (Nat.le_of_ble_eq_true rfl) (Nat.le_of_ble_eq_true rfl) (c_X16_sayNumber (w := w35) (g25 := xC) m v75 hc35 hb26 hb27 (by first | omega | decide | assumption | exact zr1_1 | exact zr1_0 | fail "num") (by first | omega | decide | assumption | exact zr1_1 | exact zr1_0 | fail "num") rfl) (by omega) (fun v75 w75 hp75 => ?_)
        obtain ⟨C9_75, hsi75, heq75, hp75_0, hp75_1, hp75_2, rfl⟩ := hp75
        have hM75 : w75 m = some (.inl (15, zMo m (zs (zs g 25 C9_75) 27 0) r)) := hp75_0
        show zP _ _ _ _ [] _ _ _ _ _
        exact (hJ78 w75 (C9_75) hsi75 (fun x hx => (heq75 x ⟨hx.1.1, hx.1.2⟩)) (by
              exact hM75) hp75_1 (by
              omega)).more (zfa1 rfl (zfa1 rfl (zfa1 rfl (zfa1 rfl (zfa0)))))
    refine zp_if (i := .if_icmp .ne 11) (c := ¬ m4 = 1) (t := 59) (e := 51) (lv' := [(5, .int m4), (0, .ref m), (2, .int i), (3, .int j), (4, .int r1)]) (st' := []) (by decide +kernel) rfl (fun cc48 => ?_) (fun cc48 => ?_)
    ·
      have f29 := zneI cc48
      rw [show (1 : Int32).toInt = 1 from by decide] at f29
      refine zp_seg (pc' := 64) (lv' := [(5, .int m4), (0, .ref m), (2, .int i), (3, .int j), (4, .int r1)]) (st' := [.int 1]) [(59, .iconst 1), (60, .goto 4)] (by decide +kernel) rfl ?_
      have hl30 : (1 : Int32).toInt = 1 := by decide
      exact (hJ64 1 (by first | assumption | omega | decide)).more (zfa1 rfl (zfa1 rfl (zfa1 rfl (zfa1 rfl (zfa0)))))
    ·
      replace cc48 := Classical.not_not.mp cc48
      have f32 := zeqI cc48
      rw [show (1 : Int32).toInt = 1 from by decide] at f32
      refine zp_seg (pc' := 52) (lv' := [(5, .int m4), (0, .ref m), (2, .int i), (3, .int j), (4, .int r1)]) (st' := [.int i]) [(51, .iload_n 2)] (by decide +kernel) rfl ?_
      refine zp_if (i := .ifCond .ne 11) (c := ¬ i = 0) (t := 63) (e := 55) (lv' := [(5, .int m4), (0, .ref m), (2, .int i), (3, .int j), (4, .int r1)]) (st' := []) (by decide +kernel) rfl (fun cc52 => ?_) (fun cc52 => ?_)
      ·
        have f34 := zneI cc52
        rw [show (0 : Int32).toInt = 0 from by decide] at f34
        refine zp_seg (pc' := 64) (lv' := [(5, .int m4), (0, .ref m), (2, .int i), (3, .int j), (4, .int r1)]) (st' := [.int 0]) [(63, .iconst 0)] (by decide +kernel) rfl ?_
        have hl35 : (0 : Int32).toInt = 0 := by decide
        exact (hJ64 0 (by first | assumption | omega | decide)).more (zfa1 rfl (zfa1 rfl (zfa1 rfl (zfa1 rfl (zfa0)))))
      ·
        replace cc52 := Classical.not_not.mp cc52
        have f37 := zeqI cc52
        rw [show (0 : Int32).toInt = 0 from by decide] at f37
        refine zp_seg (pc' := 56) (lv' := [(5, .int m4), (0, .ref m), (2, .int i), (3, .int j), (4, .int r1)]) (st' := [.int j]) [(55, .iload_n 3)] (by decide +kernel) rfl ?_
        refine zp_if (i := .ifCond .ne 7) (c := ¬ j = 0) (t := 63) (e := 59) (lv' := [(5, .int m4), (0, .ref m), (2, .int i), (3, .int j), (4, .int r1)]) (st' := []) (by decide +kernel) rfl (fun cc56 => ?_) (fun cc56 => ?_)
        ·
          have f38 := zneI cc56
          rw [show (0 : Int32).toInt = 0 from by decide] at f38
          refine zp_seg (pc' := 64) (lv' := [(5, .int m4), (0, .ref m), (2, .int i), (3, .int j), (4, .int r1)]) (st' := [.int 0]) [(63, .iconst 0)] (by decide +kernel) rfl ?_
          have hl39 : (0 : Int32).toInt = 0 := by decide
          exact (hJ64 0 (by first | assumption | omega | decide)).more (zfa1 rfl (zfa1 rfl (zfa1 rfl (zfa1 rfl (zfa0)))))
        ·
          replace cc56 := Classical.not_not.mp cc56
          have f40 := zeqI cc56
          rw [show (0 : Int32).toInt = 0 from by decide] at f40
          refine zp_seg (pc' := 64) (lv' := [(5, .int m4), (0, .ref m), (2, .int i), (3, .int j), (4, .int r1)]) (st' := [.int 1]) [(59, .iconst 1), (60, .goto 4)] (by decide +kernel) rfl ?_
          have hl41 : (1 : Int32).toInt = 1 := by decide
          exact (hJ64 1 (by first | assumption | omega | decide)).more (zfa1 rfl (zfa1 rfl (zfa1 rfl (zfa1 rfl (zfa0)))))
  refine zp_if (i := .ifCond .ge 12) (c := 0 ≤ r1) (t := 20) (e := 11) (lv' := [(4, .int r1), (0, .ref m), (1, .int v), (2, .int i), (3, .int j)]) (st' := []) (by decide +kernel) rfl (fun cc8 => ?_) (fun cc8 => ?_)
  ·
    have f43 := zleI cc8
    rw [show (0 : Int32).toInt = 0 from by decide] at f43
    refine zp_seg (pc' := 21) (lv' := [(4, .int r1), (0, .ref m), (1, .int v), (2, .int i), (3, .int j)]) (st' := [.ref m]) [(20, .aload_n 0)] (by decide +kernel) rfl ?_
    refine zr_get (idx := 567) (k := 27) (v := .int (g 27)) (by decide +kernel) (by decide +kernel) hm rfl ?_
    refine zp_if (i := .ifCond .ne 9) (c := ¬ (g 27) = 0) (t := 33) (e := 27) (lv' := [(4, .int r1), (0, .ref m), (1, .int v), (2, .int i), (3, .int j)]) (st' := []) (by decide +kernel) rfl (fun cc24 => ?_) (fun cc24 => ?_)
    ·
      have k44 := zrng (g 27)
      have f45 := zneI cc24
      rw [show (0 : Int32).toInt = 0 from by decide] at f45
      exact (hJ33 w ((g 25)) zSI.rf (fun _ _ => rfl) (by
            exact hm) hBy_m_93 (by
            omega)).more (zfa1 rfl (zfa1 rfl (zfa1 rfl (zfa1 rfl (zfa0)))))
    ·
      replace cc24 := Classical.not_not.mp cc24
      have k46 := zrng (g 27)
      have f47 := zeqI cc24
      rw [show (0 : Int32).toInt = 0 from by decide] at f47
      refine zp_seg (pc' := 30) (lv' := [(4, .int r1), (0, .ref m), (1, .int v), (2, .int i), (3, .int j)]) (st' := [.int 43, .ref m]) [(27, .aload_n 0), (28, .bipush 43)] (by decide +kernel) rfl ?_
      have k48 := zrng (g 25)
      refine zr_callV (idx := 564) (j := 341) (by decide +kernel) (by decide +kernel) (show zMe 341 = some zq_X16_say from rfl) rfl rfl (Nat.le_of_ble_eq_true rfl) rfl rfl hm (Nat.le_of_ble_eq_true rfl) (Nat.le_of_ble_eq_true rfl) (c_X16_say (w := w) (g25 := (g 25)) m 43 hm hR_m hBy_m_93 (by first | omega | decide | assumption | exact zr1_1 | exact zr1_0 | fail "num") rfl) (by omega) (fun v30 w30 hp30 => ?_)
      obtain ⟨C9_30, hsi30, heq30, hp30_0, hp30_1, hp30_2, rfl⟩ := hp30
      have hM30 : w30 m = some (.inl (15, zMo m (zs g 25 C9_30) r)) := hp30_0
      show zP _ _ _ _ [] _ _ _ _ _
      exact (hJ33 w30 (C9_30) hsi30 (fun x hx => (heq30 x ⟨hx.1.1, hx.1.2⟩)) (by
            exact hM30) hp30_1 (by
            omega)).more (zfa1 rfl (zfa1 rfl (zfa1 rfl (zfa1 rfl (zfa0)))))
  ·
    have f50 := znleI cc8
    rw [show (0 : Int32).toInt = 0 from by decide] at f50
    refine zp_seg (pc' := 14) (lv' := [(4, .int r1), (0, .ref m), (1, .int v), (2, .int i), (3, .int j)]) (st' := [.int 45, .ref m]) [(11, .aload_n 0), (12, .bipush 45)] (by decide +kernel) rfl ?_
    have k51 := zrng (g 25)
    refine zr_callV (idx := 564) (j := 341) (by decide +kernel) (by decide +kernel) (show zMe 341 = some zq_X16_say from rfl) rfl rfl (Nat.le_of_ble_eq_true rfl) rfl rfl hm (Nat.le_of_ble_eq_true rfl) (Nat.le_of_ble_eq_true rfl) (c_X16_say (w := w) (g25 := (g 25)) m 45 hm hR_m hBy_m_93 (by first | omega | decide | assumption | exact zr1_1 | exact zr1_0 | fail "num") rfl) (by omega) (fun v14 w14 hp14 => ?_)
    obtain ⟨C9_14, hsi14, heq14, hp14_0, hp14_1, hp14_2, rfl⟩ := hp14
    have hM14 : w14 m = some (.inl (15, zMo m (zs g 25 C9_14) r)) := hp14_0
    show zP _ _ _ _ [] _ _ _ _ _
    refine zp_seg (pc' := 33) (lv' := [(4, .int r1), (0, .ref m), (1, .int v), (2, .int i), (3, .int j)]) (st' := []) [(17, .goto 16)] (by decide +kernel) rfl ?_
    exact (hJ33 w14 (C9_14) hsi14 (fun x hx => (heq14 x ⟨hx.1.1, hx.1.2⟩)) (by
          exact hM14) hp14_1 (by
          omega)).more (zfa1 rfl (zfa1 rfl (zfa1 rfl (zfa1 rfl (zfa0)))))

set_option maxHeartbeats 8000000 in
set_option maxRecDepth 100000 in
theorem c_X16_sayLine {w : zM} {g : Nat → Int32} {r : Nat → Value}  {g25 : Int32} (m : Nat) (v : Int32) (i : Int32) (j : Int32) (hm : w m = some (.inl (15, zMo m g r))) (hR_m : zR m w) (hBy_m_93 : zBya w (m + 93) 4000) (hij : 0 ≤ i.toInt ∧ 0 ≤ j.toInt) (how : 0 ≤ g25.toInt ∧ g25.toInt ≤ 700000000) (hg25 : g 25 = g25) : zCon 5 zq_X16_sayLine [.ref m, .int v, .int i, .int j] w (fun v9 w9' => ∃ C9 : Int32, ∃ F9 : Int32, zSI w w9' ∧ (∀ x, (x < m ∨ m + 1 ≤ x) ∧ (x < m + 93 ∨ m + 93 + 1 ≤ x) → w9' x = w x) ∧ w9' m = some (.inl (15, zMo m (zs (zs g 25 C9) 27 F9) r)) ∧ zBya w9' (m + 93) 4000 ∧ (g25.toInt ≤ C9.toInt ∧ C9.toInt ≤ g25.toInt + 37) ∧ v9 = none) := by
  subst hg25
  intro d sz hd
  obtain ⟨d, rfl⟩ : ∃ d9, d = d9 + 1 := ⟨d - 1, by omega⟩
  generalize hPost : (fun (r9' : Option (Option Value)) (w9' : zM) (z9 : Nat) => z9 = sz ∧ ∃ v9, r9' = some v9 ∧ (∃ C9 : Int32, ∃ F9 : Int32, zSI w w9' ∧ (∀ x, (x < m ∨ m + 1 ≤ x) ∧ (x < m + 93 ∨ m + 93 + 1 ≤ x) → w9' x = w x) ∧ w9' m = some (.inl (15, zMo m (zs (zs g 25 C9) 27 F9) r)) ∧ zBya w9' (m + 93) 4000 ∧ ((g 25).toInt ≤ C9.toInt ∧ C9.toInt ≤ (g 25).toInt + 37) ∧ v9 = none)) = Post
  show zP (d + 1) zq_X16_sayLine 0 [(0, .ref m), (1, .int v), (2, .int i), (3, .int j)] [] w sz 0 0 Post
  have k1 := zrng v
  have k2 := zrng i
  have k3 := zrng j
  refine zp_seg (pc' := 1) (lv' := [(0, .ref m), (1, .int v), (2, .int i), (3, .int j)]) (st' := [.int v]) [(0, .iload_n 1)] (by decide +kernel) rfl ?_
  refine zp_if (i := .ifCond .eq 13) (c := v = 0) (t := 14) (e := 4) (lv' := [(0, .ref m), (1, .int v), (2, .int i), (3, .int j)]) (st' := []) (by decide +kernel) rfl (fun cc1 => ?_) (fun cc1 => ?_)
  ·
    have f5 := zeqI cc1
    rw [show (0 : Int32).toInt = 0 from by decide] at f5
    have hoffend : ∀ x, (x < m ∨ m + 1 ≤ x) ∧ (x < m + 93 ∨ m + 93 + 1 ≤ x) → w x = w x := fun x hx => rfl
    refine zr_retV (by decide +kernel) rfl ?_
    rw [← hPost]; exact ⟨rfl, _, rfl, (g 25), (g 27), zSI.rf, hoffend, hm, hBy_m_93, (by first | omega | assumption | decide), rfl⟩
  ·
    have f7 := zneI cc1
    rw [show (0 : Int32).toInt = 0 from by decide] at f7
    refine zp_seg (pc' := 6) (lv' := [(0, .ref m), (1, .int v), (2, .int i), (3, .int j)]) (st' := [.int v, .ref m]) [(4, .aload_n 0), (5, .iload_n 1)] (by decide +kernel) rfl ?_
    refine zr_callS (idx := 600) (j := 260) (by decide +kernel) (by decide +kernel) (by decide) (show zMe 260 = some zq_X16_rest from rfl) rfl rfl (Nat.le_of_ble_eq_true rfl) rfl rfl (Nat.le_of_ble_eq_true rfl) (Nat.le_of_ble_eq_true rfl) (c_X16_rest (w := w) v ) (by omega) (fun v6 w6 hp6 => ?_)
    obtain ⟨hpw6, r6, rfl, hr6⟩ := hp6
    replace hpw6 := hpw6.symm
    subst hpw6
    have kr6 := zrng r6
    show zP _ _ _ _ [.int r6, .ref m] _ _ _ _ _
    refine zp_seg (pc' := 11) (lv' := [(0, .ref m), (1, .int v), (2, .int i), (3, .int j)]) (st' := [.int j, .int i, .int r6, .ref m]) [(9, .iload_n 2), (10, .iload_n 3)] (by decide +kernel) rfl ?_
    have k8 := zrng (g 25)
    refine zr_callV (idx := 579) (j := 343) (by decide +kernel) (by decide +kernel) (show zMe 343 = some zq_X16_sayPart from rfl) rfl rfl (Nat.le_of_ble_eq_true rfl) rfl rfl hm (Nat.le_of_ble_eq_true rfl) (Nat.le_of_ble_eq_true rfl) (c_X16_sayPart (w := w) (g25 := (g 25)) m r6 i j hm hR_m hBy_m_93 (by first | exact hr6.1 | omega | decide | assumption | exact zr1_1 | exact zr1_0 | fail "num") (by first | omega | decide | assumption | exact zr1_1 | exact zr1_0 | fail "num") (by first | omega | decide | assumption | exact zr1_1 | exact zr1_0 | fail "num") rfl) (by omega) (fun v11 w11 hp11 => ?_)
    obtain ⟨C9_11, hsi11, heq11, hp11_0, hp11_1, hp11_2, rfl⟩ := hp11
    have hM11 : w11 m = some (.inl (15, zMo m (zs (zs g 25 C9_11) 27 0) r)) := hp11_0
    show zP _ _ _ _ [] _ _ _ _ _
    have hoffend : ∀ x, (x < m ∨ m + 1 ≤ x) ∧ (x < m + 93 ∨ m + 93 + 1 ≤ x) → w11 x = w x := fun x hx => (heq11 x ⟨hx.1, hx.2⟩)
    refine zr_retV (by decide +kernel) rfl ?_
    rw [← hPost]; exact ⟨rfl, _, rfl, C9_11, 0, hsi11, hoffend, hM11, hp11_1, (by first | omega | assumption | decide), rfl⟩

set_option maxHeartbeats 8000000 in
set_option maxRecDepth 100000 in
theorem c_X16_sayBase {w : zM} {g : Nat → Int32} {r : Nat → Value}  {g25 : Int32} (m : Nat) (v : Int32) (c : Int32) (hm : w m = some (.inl (15, zMo m g r))) (hR_m : zR m w) (hBy_m_93 : zBya w (m + 93) 4000) (h_v : zr1 v) (how : 0 ≤ g25.toInt ∧ g25.toInt ≤ 700000000) (hg25 : g 25 = g25) : zCon 3 zq_X16_sayBase [.ref m, .int v, .int c] w (fun v9 w9' => ∃ C9 : Int32, zSI w w9' ∧ (∀ x, (x < m ∨ m + 1 ≤ x) ∧ (x < m + 93 ∨ m + 93 + 1 ≤ x) → w9' x = w x) ∧ w9' m = some (.inl (15, zMo m (zs g 25 C9) r)) ∧ zBya w9' (m + 93) 4000 ∧ (g25.toInt ≤ C9.toInt ∧ C9.toInt ≤ g25.toInt + 13) ∧ v9 = none) := by
  subst hg25
  intro d sz hd
  obtain ⟨d, rfl⟩ : ∃ d9, d = d9 + 1 := ⟨d - 1, by omega⟩
  generalize hPost : (fun (r9' : Option (Option Value)) (w9' : zM) (z9 : Nat) => z9 = sz ∧ ∃ v9, r9' = some v9 ∧ (∃ C9 : Int32, zSI w w9' ∧ (∀ x, (x < m ∨ m + 1 ≤ x) ∧ (x < m + 93 ∨ m + 93 + 1 ≤ x) → w9' x = w x) ∧ w9' m = some (.inl (15, zMo m (zs g 25 C9) r)) ∧ zBya w9' (m + 93) 4000 ∧ ((g 25).toInt ≤ C9.toInt ∧ C9.toInt ≤ (g 25).toInt + 13) ∧ v9 = none)) = Post
  show zP (d + 1) zq_X16_sayBase 0 [(0, .ref m), (1, .int v), (2, .int c)] [] w sz 0 0 Post
  have k1 := zrng v
  have k2 := zrng c
  have r_v : 0 ≤ v.toInt ∧ v.toInt < 2147483647 := h_v
  refine zp_seg (pc' := 2) (lv' := [(0, .ref m), (1, .int v), (2, .int c)]) (st' := [.int 1, .int v]) [(0, .iload_n 1), (1, .iconst 1)] (by decide +kernel) rfl ?_
  refine zp_if (i := .if_icmp .eq 26) (c := v = 1) (t := 28) (e := 5) (lv' := [(0, .ref m), (1, .int v), (2, .int c)]) (st' := []) (by decide +kernel) rfl (fun cc2 => ?_) (fun cc2 => ?_)
  ·
    have f4 := zeqI cc2
    rw [show (1 : Int32).toInt = 1 from by decide] at f4
    have hoffend : ∀ x, (x < m ∨ m + 1 ≤ x) ∧ (x < m + 93 ∨ m + 93 + 1 ≤ x) → w x = w x := fun x hx => rfl
    refine zr_retV (by decide +kernel) rfl ?_
    rw [← hPost]; exact ⟨rfl, _, rfl, (g 25), zSI.rf, hoffend, hm, hBy_m_93, (by first | omega | assumption | decide), rfl⟩
  ·
    have f6 := zneI cc2
    rw [show (1 : Int32).toInt = 1 from by decide] at f6
    refine zp_seg (pc' := 8) (lv' := [(0, .ref m), (1, .int v), (2, .int c)]) (st' := [.int 42, .ref m]) [(5, .aload_n 0), (6, .bipush 42)] (by decide +kernel) rfl ?_
    have k7 := zrng (g 25)
    refine zr_callV (idx := 564) (j := 341) (by decide +kernel) (by decide +kernel) (show zMe 341 = some zq_X16_say from rfl) rfl rfl (Nat.le_of_ble_eq_true rfl) rfl rfl hm (Nat.le_of_ble_eq_true rfl) (Nat.le_of_ble_eq_true rfl) (c_X16_say (w := w) (g25 := (g 25)) m 42 hm hR_m hBy_m_93 (by first | omega | decide | assumption | exact zr1_1 | exact zr1_0 | fail "num") rfl) (by omega) (fun v8 w8 hp8 => ?_)
    obtain ⟨C9_8, hsi8, heq8, hp8_0, hp8_1, hp8_2, rfl⟩ := hp8
    have hM8 : w8 m = some (.inl (15, zMo m (zs g 25 C9_8) r)) := hp8_0
    show zP _ _ _ _ [] _ _ _ _ _
    refine zp_seg (pc' := 14) (lv' := [(0, .ref m), (1, .int v), (2, .int c)]) (st' := [.long (v.toInt64), .ref m]) [(11, .aload_n 0), (12, .iload_n 1), (13, .i2l)] (by decide +kernel) rfl ?_
    have k8 := zi2lM v
    generalize ev14 : (v.toInt64 : Int64) = v14 at k8 ⊢
    have kv14 := zrngL v14
    have k9 := zrng C9_8
    have hb10 := hR_m.si hsi8
    refine zr_callV (idx := 571) (j := 342) (by decide +kernel) (by decide +kernel) (show zMe 342 = some zq_X16_sayNumber from rfl) rfl rfl (Nat.le_of_ble_eq_true rfl) rfl rfl hM8 (Nat.le_of_ble_eq_true rfl) (Nat.le_of_ble_eq_true rfl) (c_X16_sayNumber (w := w8) (g25 := C9_8) m v14 hM8 hb10 hp8_1 (by first | omega | decide | assumption | exact zr1_1 | exact zr1_0 | fail "num") (by first | omega | decide | assumption | exact zr1_1 | exact zr1_0 | fail "num") rfl) (by omega) (fun v14 w14 hp14 => ?_)
    obtain ⟨C9_14, hsi14, heq14, hp14_0, hp14_1, hp14_2, rfl⟩ := hp14
    have hM14 : w14 m = some (.inl (15, zMo m (zs g 25 C9_14) r)) := hp14_0
    show zP _ _ _ _ [] _ _ _ _ _
    refine zp_seg (pc' := 20) (lv' := [(0, .ref m), (1, .int v), (2, .int c)]) (st' := [.int 94, .ref m]) [(17, .aload_n 0), (18, .bipush 94)] (by decide +kernel) rfl ?_
    have k11 := zrng C9_14
    have hb12 := hb10.si hsi14
    refine zr_callV (idx := 564) (j := 341) (by decide +kernel) (by decide +kernel) (show zMe 341 = some zq_X16_say from rfl) rfl rfl (Nat.le_of_ble_eq_true rfl) rfl rfl hM14 (Nat.le_of_ble_eq_true rfl) (Nat.le_of_ble_eq_true rfl) (c_X16_say (w := w14) (g25 := C9_14) m 94 hM14 hb12 hp14_1 (by first | omega | decide | assumption | exact zr1_1 | exact zr1_0 | fail "num") rfl) (by omega) (fun v20 w20 hp20 => ?_)
    obtain ⟨C9_20, hsi20, heq20, hp20_0, hp20_1, hp20_2, rfl⟩ := hp20
    have hM20 : w20 m = some (.inl (15, zMo m (zs g 25 C9_20) r)) := hp20_0
    show zP _ _ _ _ [] _ _ _ _ _
    refine zp_seg (pc' := 25) (lv' := [(0, .ref m), (1, .int v), (2, .int c)]) (st' := [.int c, .ref m]) [(23, .aload_n 0), (24, .iload_n 2)] (by decide +kernel) rfl ?_
    have k13 := zrng C9_20
    have hb14 := hb12.si hsi20
    refine zr_callV (idx := 564) (j := 341) (by decide +kernel) (by decide +kernel) (show zMe 341 = some zq_X16_say from rfl) rfl rfl (Nat.le_of_ble_eq_true rfl) rfl rfl hM20 (Nat.le_of_ble_eq_true rfl) (Nat.le_of_ble_eq_true rfl) (c_X16_say (w := w20) (g25 := C9_20) m c hM20 hb14 hp20_1 (by first | omega | decide | assumption | exact zr1_1 | exact zr1_0 | fail "num") rfl) (by omega) (fun v25 w25 hp25 => ?_)
    obtain ⟨C9_25, hsi25, heq25, hp25_0, hp25_1, hp25_2, rfl⟩ := hp25
    have hM25 : w25 m = some (.inl (15, zMo m (zs g 25 C9_25) r)) := hp25_0
    show zP _ _ _ _ [] _ _ _ _ _
    have hoffend : ∀ x, (x < m ∨ m + 1 ≤ x) ∧ (x < m + 93 ∨ m + 93 + 1 ≤ x) → w25 x = w x := fun x hx => ((heq25 x ⟨hx.1, hx.2⟩).trans ((heq20 x ⟨hx.1, hx.2⟩).trans ((heq14 x ⟨hx.1, hx.2⟩).trans (heq8 x ⟨hx.1, hx.2⟩))))
    refine zr_retV (by decide +kernel) rfl ?_
    rw [← hPost]; exact ⟨rfl, _, rfl, C9_25, (((hsi8.tr hsi14).tr hsi20).tr hsi25), hoffend, hM25, hp25_1, (by first | omega | assumption | decide), rfl⟩
