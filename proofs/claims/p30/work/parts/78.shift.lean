theorem zx_X16_shiftS_0 {to x : Nat} (h0 : x < to ∨ to + 2 ≤ x) : x < to + 1 ∨ to + 1 + 1 ≤ x := by omega
theorem zx_X16_shiftS_1 {to x : Nat} (h0 : x < to + 1 ∨ to + 1 + 1 ≤ x) : x ≠ to + 1 := by omega
theorem zx_X16_shiftS_2 {to : Nat}  : to ≠ to + 1 := by omega
set_option maxHeartbeats 8000000 in
set_option maxRecDepth 100000 in
theorem c_X16_shiftS {w : zM} {cap : Nat} {p : zA1} (to : Nat) (v : Int32) (hU_to : zU w to cap p) (hp9 : zln p ≤ 1000) (h_v : zr1 v) : zCon 2 zq_X16_shift [.ref to, .ref to, .int v] w (fun v9 w9' => ∃ P9 : zA1, zSI w w9' ∧ (∀ x, (x < to ∨ to + 2 ≤ x) → w9' x = w x) ∧ zU w9' to cap P9 ∧ zln P9 = zln p ∧ v9 = none) := by
  intro d sz hd
  obtain ⟨d, rfl⟩ : ∃ d9, d = d9 + 1 := ⟨d - 1, by omega⟩
  generalize hPost : (fun (r9' : Option (Option Value)) (w9' : zM) (z9 : Nat) => z9 = sz ∧ ∃ v9, r9' = some v9 ∧ (∃ P9 : zA1, zSI w w9' ∧ (∀ x, (x < to ∨ to + 2 ≤ x) → w9' x = w x) ∧ zU w9' to cap P9 ∧ zln P9 = zln p ∧ v9 = none)) = Post
  show zP (d + 1) zq_X16_shift 0 [(0, .ref to), (1, .ref to), (2, .int v)] [] w sz 0 0 Post
  have k1 := zrng v
  refine zp_seg (pc' := 1) (lv' := [(0, .ref to), (1, .ref to), (2, .int v)]) (st' := [.ref to]) [(0, .aload_n 1)] (by decide +kernel) rfl ?_
  obtain ⟨n2, f3, hu4, hu5, hu6, hu7, hu8⟩ := id hU_to
  have kn2 := zrng n2
  refine zr_get (idx := 25) (k := 1) (v := .int n2) (by decide +kernel) (by decide +kernel) hu4 rfl ?_
  refine zp_seg (pc' := 7) (lv' := [(3, .int n2), (0, .ref to), (1, .ref to), (2, .int v)]) (st' := [.ref to, .ref to]) [(4, .istore_n 3), (5, .aload_n 0), (6, .aload_n 1)] (by decide +kernel) rfl ?_
  refine zr_acEt (off := 8) (by decide +kernel) (by decide) (show ztg 7 (8) = 15 by decide) rfl ?_
  show zP (d + 1) zq_X16_shift 15 [(3, .int n2), (0, .ref to), (1, .ref to), (2, .int v)] [] w sz 0 0 Post
  refine zp_seg (pc' := 18) (lv' := [(4, .int 0), (3, .int n2), (0, .ref to), (1, .ref to), (2, .int v)]) (st' := []) [(15, .iconst 0), (16, .istore 4)] (by decide +kernel) rfl ?_
  have hL18 : ∀ (mm18 : Nat) (wL18 : zM) (y4_18 : Int32) (Pp : zA1), (zSI w wL18) → (∀ x, (x < to + 1 ∨ to + 1 + 1 ≤ x) → wL18 x = w x) → (0 ≤ y4_18.toInt) → (zU wL18 to cap Pp) → (zln Pp = zln p) → (2000 - y4_18.toInt).toNat < mm18 → zP (d + 1) zq_X16_shift 18 [(0, .ref to), (2, .int v), (3, .int n2), (4, .int y4_18)] [] wL18 sz 0 0 Post := by
    intro mm18
    induction mm18 with
    | zero => intros; omega
    | succ mm18 ih18 =>
    intro wL18 y4_18 Pp hsiL18 heqL18 hi18_0 hUp hPl hmu18
    have ky4_18 := zrng y4_18
    refine zp_seg (pc' := 23) (lv' := [(0, .ref to), (2, .int v), (3, .int n2), (4, .int y4_18)]) (st' := [.int (n2 - 1), .int y4_18]) [(18, .iload 4), (20, .iload_n 3), (21, .iconst 1), (22, .isub)] (by decide +kernel) rfl ?_
    have k9 := zsubC n2 1 (n := 1) (by decide) (by omega) (by omega)
    generalize ev23 : (n2 - 1 : Int32) = v23 at k9 ⊢
    have kv23 := zrng v23
    refine zp_if (i := .if_icmp .ge 57) (c := v23 ≤ y4_18) (t := 80) (e := 26) (lv' := [(0, .ref to), (2, .int v), (3, .int n2), (4, .int y4_18)]) (st' := []) (by decide +kernel) rfl (fun cc23 => ?_) (fun cc23 => ?_)
    ·
      have f10 := zleI cc23
      have hoffend : ∀ x, (x < to ∨ to + 2 ≤ x) → wL18 x = w x := fun x hx => (heqL18 x (zx_X16_shiftS_0 hx))
      refine zr_retV (by decide +kernel) rfl ?_
      rw [← hPost]; exact ⟨rfl, _, rfl, Pp, hsiL18, hoffend, (by first | exact hUp | (have z9 := hUp; simpa using z9)), (by first | omega | assumption | decide), rfl⟩
    ·
      have f11 := znleI cc23
      refine zp_seg (pc' := 29) (lv' := [(0, .ref to), (2, .int v), (3, .int n2), (4, .int y4_18)]) (st' := [.int (n2 - 2)]) [(26, .iload_n 3), (27, .iconst 2), (28, .isub)] (by decide +kernel) rfl ?_
      have k12 := zsubC n2 2 (n := 2) (by decide) (by omega) (by omega)
      generalize ev29 : (n2 - 2 : Int32) = v29 at k12 ⊢
      have kv29 := zrng v29
      refine zp_seg (pc' := 31) (lv' := [(5, .int v29), (0, .ref to), (2, .int v), (3, .int n2), (4, .int y4_18)]) (st' := []) [(29, .istore 5)] (by decide +kernel) rfl ?_
      have hL31 : ∀ (mm31 : Nat) (wL31 : zM) (y5_31 : Int32) (Pq : zA1), (zSI wL18 wL31) → (∀ x, (x < to + 1 ∨ to + 1 + 1 ≤ x) → wL31 x = wL18 x) → (y5_31.toInt + 2 ≤ (zln p : Int)) → (-1 ≤ y5_31.toInt) → (zU wL31 to cap Pq) → (zln Pq = zln p) → (y5_31.toInt + 2).toNat < mm31 → zP (d + 1) zq_X16_shift 31 [(0, .ref to), (2, .int v), (3, .int n2), (4, .int y4_18), (5, .int y5_31)] [] wL31 sz 0 0 Post := by
        intro mm31
        induction mm31 with
        | zero => intros; omega
        | succ mm31 ih31 =>
        intro wL31 y5_31 Pq hsiL31 heqL31 hi31_0 hi31_1 hUq hQl hmu31
        have ky5_31 := zrng y5_31
        refine zp_seg (pc' := 35) (lv' := [(0, .ref to), (2, .int v), (3, .int n2), (4, .int y4_18), (5, .int y5_31)]) (st' := [.int y4_18, .int y5_31]) [(31, .iload 5), (33, .iload 4)] (by decide +kernel) rfl ?_
        refine zp_if (i := .if_icmp .lt 39) (c := y5_31 < y4_18) (t := 74) (e := 38) (lv' := [(0, .ref to), (2, .int v), (3, .int n2), (4, .int y4_18), (5, .int y5_31)]) (st' := []) (by decide +kernel) rfl (fun cc35 => ?_) (fun cc35 => ?_)
        ·
          have f13 := zltI cc35
          refine zp_seg (pc' := 77) (lv' := [(4, .int (y4_18 + 1)), (0, .ref to), (2, .int v), (3, .int n2), (5, .int y5_31)]) (st' := []) [(74, .iinc 4 1)] (by decide +kernel) rfl ?_
          have k14 := zaddC y4_18 1 (n := 1) (by decide) (by omega) (by omega)
          generalize ev77 : (y4_18 + 1 : Int32) = v77 at k14 ⊢
          have kv77 := zrng v77
          refine zp_seg (pc' := 18) (lv' := [(4, .int v77), (0, .ref to), (2, .int v), (3, .int n2), (5, .int y5_31)]) (st' := []) [(77, .goto (-59))] (by decide +kernel) rfl ?_
          exact (ih18 wL31 v77 (Pq) (hsiL18.tr hsiL31) (fun x hx => ((heqL31 x hx).trans (heqL18 x hx))) (by first | assumption | omega | decide) hUq (by
                exact hQl) (by omega)).more (zfa1 rfl (zfa1 rfl (zfa1 rfl (zfa1 rfl (zfa0)))))
        ·
          have f15 := znltI cc35
          refine zp_seg (pc' := 39) (lv' := [(0, .ref to), (2, .int v), (3, .int n2), (4, .int y4_18), (5, .int y5_31)]) (st' := [.ref to]) [(38, .aload_n 0)] (by decide +kernel) rfl ?_
          obtain ⟨n16, f17, hu18, hu19, hu20, hu21, hu22⟩ := id hUq
          have kn16 := zrng n16
          refine zr_get (idx := 30) (k := 0) (v := .ref (to + 1)) (by decide +kernel) (by decide +kernel) hu18 rfl ?_
          refine zp_seg (pc' := 45) (lv' := [(0, .ref to), (2, .int v), (3, .int n2), (4, .int y4_18), (5, .int y5_31)]) (st' := [.ref to, .int y5_31, .ref (to + 1)]) [(42, .iload 5), (44, .aload_n 0)] (by decide +kernel) rfl ?_
          refine zr_get (idx := 30) (k := 0) (v := .ref (to + 1)) (by decide +kernel) (by decide +kernel) hu18 rfl ?_
          refine zp_seg (pc' := 50) (lv' := [(0, .ref to), (2, .int v), (3, .int n2), (4, .int y4_18), (5, .int y5_31)]) (st' := [.int y5_31, .ref (to + 1), .int y5_31, .ref (to + 1)]) [(48, .iload 5)] (by decide +kernel) rfl ?_
          refine zr_iald (by decide +kernel) hu19 (zin (by first | omega | decide) (by first | omega | decide)) ?_
          have hz23 : (y5_31.toNatClampNeg : Int) = y5_31.toInt := znat (by first | omega | decide)
          obtain ⟨x50, ex50⟩ : ∃ x9, x9 = f17 (y5_31.toNatClampNeg) := ⟨_, rfl⟩
          rw [← ex50]
          have kx50 := zrng x50
          have hvx50 := hu22 (y5_31.toNatClampNeg) (by omega)
          rw [← ex50] at hvx50
          have hwx50 : 0 ≤ x50.toInt ∧ x50.toInt < 2147483647 := hvx50.1
          refine zp_seg (pc' := 53) (lv' := [(0, .ref to), (2, .int v), (3, .int n2), (4, .int y4_18), (5, .int y5_31)]) (st' := [.ref to, .int v, .int x50, .int y5_31, .ref (to + 1)]) [(51, .iload_n 2), (52, .aload_n 0)] (by decide +kernel) rfl ?_
          refine zr_get (idx := 30) (k := 0) (v := .ref (to + 1)) (by decide +kernel) (by decide +kernel) hu18 rfl ?_
          refine zp_seg (pc' := 60) (lv' := [(0, .ref to), (2, .int v), (3, .int n2), (4, .int y4_18), (5, .int y5_31)]) (st' := [.int (y5_31 + 1), .ref (to + 1), .int v, .int x50, .int y5_31, .ref (to + 1)]) [(56, .iload 5), (58, .iconst 1), (59, .iadd)] (by decide +kernel) rfl ?_
          have k24 := zaddC y5_31 1 (n := 1) (by decide) (by omega) (by omega)
          generalize ev60 : (y5_31 + 1 : Int32) = v60 at k24 ⊢
          have kv60 := zrng v60
          refine zr_iald (by decide +kernel) hu19 (zin (by first | omega | decide) (by first | omega | decide)) ?_
          have hz25 : (v60.toNatClampNeg : Int) = v60.toInt := znat (by first | omega | decide)
          obtain ⟨x60, ex60⟩ : ∃ x9, x9 = f17 (v60.toNatClampNeg) := ⟨_, rfl⟩
          rw [← ex60]
          have kx60 := zrng x60
          have hvx60 := hu22 (v60.toNatClampNeg) (by omega)
          rw [← ex60] at hvx60
          have hwx60 : 0 ≤ x60.toInt ∧ x60.toInt < 2147483647 := hvx60.1
          refine zr_callS (idx := 56) (j := 257) (by decide +kernel) (by decide +kernel) (by decide) (show zMe 257 = some zq_X16_mul from rfl) rfl rfl (Nat.le_of_ble_eq_true rfl) rfl rfl (Nat.le_of_ble_eq_true rfl) (Nat.le_of_ble_eq_true rfl) (c_X16_mul (w := wL31) v x60 (by first | omega | decide | assumption | exact zr1_1 | exact zr1_0 | fail "num") (by exact hvx60.1)) (by omega) (fun v61 w61 hp61 => ?_)
          obtain ⟨hpw61, r61, rfl, hr61⟩ := hp61
          replace hpw61 := hpw61.symm
          subst hpw61
          have kr61 := zrng r61
          show zP _ _ _ _ [.int r61, .int x50, .int y5_31, .ref (to + 1)] _ _ _ _ _
          refine zr_callS (idx := 49) (j := 255) (by decide +kernel) (by decide +kernel) (by decide) (show zMe 255 = some zq_X16_add from rfl) rfl rfl (Nat.le_of_ble_eq_true rfl) rfl rfl (Nat.le_of_ble_eq_true rfl) (Nat.le_of_ble_eq_true rfl) (c_X16_add (w := wL31) x50 r61 (by exact hvx50.1) (by exact hr61.1)) (by omega) (fun v64 w64 hp64 => ?_)
          obtain ⟨hpw64, r64, rfl, hr64⟩ := hp64
          replace hpw64 := hpw64.symm
          subst hpw64
          have kr64 := zrng r64
          show zP _ _ _ _ [.int r64, .int y5_31, .ref (to + 1)] _ _ _ _ _
          refine zr_iast (by decide +kernel) hu19 (zin (by first | omega | decide) (by first | omega | decide)) ?_
          show zP (d + 1) zq_X16_shift 68 [(0, .ref to), (2, .int v), (3, .int n2), (4, .int y4_18), (5, .int y5_31)] [] (zup wL31 (to + 1) (.inr (0, cap, .inl (upd f17 (y5_31.toNatClampNeg) r64)))) sz 0 0 Post
          obtain ⟨w67, ew67⟩ : ∃ wz9, wz9 = zup wL31 (to + 1) (.inr (0, cap, .inl (upd f17 (y5_31.toNatClampNeg) r64))) := ⟨_, rfl⟩
          have hsi67 : zSI wL31 w67 := by rw [ew67]; exact zSI.arr _ hu19
          have heq67 : ∀ x, x ≠ to + 1 → w67 x = wL31 x := fun x hx => by rw [ew67]; exact zup_n hx
          have hc67 : w67 (to + 1) = some (.inr (0, cap, .inl (upd f17 (y5_31.toNatClampNeg) r64))) := by rw [ew67]; exact zup_s
          rw [← ew67]
          clear ew67
          refine zp_seg (pc' := 71) (lv' := [(5, .int (y5_31 + (Int32.ofInt (-1)))), (0, .ref to), (2, .int v), (3, .int n2), (4, .int y4_18)]) (st' := []) [(68, .iinc 5 (-1))] (by decide +kernel) rfl ?_
          have k26 := zaddC y5_31 ((Int32.ofInt (-1))) (n := (-1)) (by decide) (by omega) (by omega)
          generalize ev71 : (y5_31 + (Int32.ofInt (-1)) : Int32) = v71 at k26 ⊢
          have kv71 := zrng v71
          refine zp_seg (pc' := 31) (lv' := [(5, .int v71), (0, .ref to), (2, .int v), (3, .int n2), (4, .int y4_18)]) (st' := []) [(71, .goto (-40))] (by decide +kernel) rfl ?_
          have hb27 : w67 to = some (.inl (14, [.ref (to + 1), .int n16])) := (heq67 to (zx_X16_shiftS_2)).trans hu18
          exact (ih31 w67 v71 (zaUp Pq y5_31.toNatClampNeg (zf r64)) (hsiL31.tr hsi67) (fun x hx => ((heq67 x (zx_X16_shiftS_1 hx)).trans (heqL31 x hx))) (by first | assumption | omega | decide) (by first | assumption | omega | decide) (by
                exact zU_up hb27 hc67 hu20 hUq.cap hu22 hr64.1 (by omega)) (by
                exact (zaUp_ln _ (by omega)).trans hQl) (by omega)).more (zfa1 rfl (zfa1 rfl (zfa1 rfl (zfa1 rfl (zfa1 rfl (zfa0))))))
      exact (hL31 _ wL18 v29 (Pp) zSI.rf (fun _ _ => rfl) (by first | assumption | omega | decide) (by first | assumption | omega | decide) (by
            exact hUp) (by
            exact hPl) (Nat.lt_succ_self _)).more (zfa1 rfl (zfa1 rfl (zfa1 rfl (zfa1 rfl (zfa1 rfl (zfa0))))))
  have hl28 : (0 : Int32).toInt = 0 := by decide
  exact (hL18 _ w 0 (p) zSI.rf (fun _ _ => rfl) (by first | assumption | omega | decide) hU_to (by
        exact rfl) (Nat.lt_succ_self _)).more (zfa1 rfl (zfa1 rfl (zfa1 rfl (zfa1 rfl (zfa0)))))

theorem zx_X16_shiftD_0 {to x : Nat} (h0 : x < to ∨ to + 2 ≤ x) : x < to + 1 ∨ to + 1 + 1 ≤ x := by omega
theorem zx_X16_shiftD_1 {to x : Nat} (h0 : x < to + 1 ∨ to + 1 + 1 ≤ x) : x ≠ to + 1 := by omega
theorem zx_X16_shiftD_2 {to : Nat}  : to ≠ to + 1 := by omega
set_option maxHeartbeats 8000000 in
set_option maxRecDepth 100000 in
theorem c_X16_shiftD {w : zM} {cap ca : Nat} {p : zA1} (to : Nat) (a : Nat) (v : Int32) (hUo_to : zUo w to cap) (hU_a : zU w a ca p) (hta : to ≠ a) (hpc : zln p ≤ cap) (hp9 : zln p ≤ 1000) (h_v : zr1 v) : zCon 2 zq_X16_shift [.ref to, .ref a, .int v] w (fun v9 w9' => ∃ P9 : zA1, zSI w w9' ∧ (∀ x, (x < to ∨ to + 2 ≤ x) → w9' x = w x) ∧ zU w9' to cap P9 ∧ zln P9 = zln p ∧ v9 = none) := by
  intro d sz hd
  obtain ⟨d, rfl⟩ : ∃ d9, d = d9 + 1 := ⟨d - 1, by omega⟩
  generalize hPost : (fun (r9' : Option (Option Value)) (w9' : zM) (z9 : Nat) => z9 = sz ∧ ∃ v9, r9' = some v9 ∧ (∃ P9 : zA1, zSI w w9' ∧ (∀ x, (x < to ∨ to + 2 ≤ x) → w9' x = w x) ∧ zU w9' to cap P9 ∧ zln P9 = zln p ∧ v9 = none)) = Post
  show zP (d + 1) zq_X16_shift 0 [(0, .ref to), (1, .ref a), (2, .int v)] [] w sz 0 0 Post
  have k1 := zrng v
  refine zp_seg (pc' := 1) (lv' := [(0, .ref to), (1, .ref a), (2, .int v)]) (st' := [.ref a]) [(0, .aload_n 1)] (by decide +kernel) rfl ?_
  obtain ⟨n2, f3, hu4, hu5, hu6, hu7, hu8⟩ := id hU_a
  have kn2 := zrng n2
  refine zr_get (idx := 25) (k := 1) (v := .int n2) (by decide +kernel) (by decide +kernel) hu4 rfl ?_
  refine zp_seg (pc' := 7) (lv' := [(3, .int n2), (0, .ref to), (1, .ref a), (2, .int v)]) (st' := [.ref a, .ref to]) [(4, .istore_n 3), (5, .aload_n 0), (6, .aload_n 1)] (by decide +kernel) rfl ?_
  refine zr_acEf (off := 8) (by decide +kernel) (by decide) (by first | assumption | omega) ?_
  show zP (d + 1) zq_X16_shift 10 [(3, .int n2), (0, .ref to), (1, .ref a), (2, .int v)] [] w sz 0 0 Post
  refine zp_seg (pc' := 12) (lv' := [(3, .int n2), (0, .ref to), (1, .ref a), (2, .int v)]) (st' := [.ref a, .ref to]) [(10, .aload_n 0), (11, .aload_n 1)] (by decide +kernel) rfl ?_
  refine zr_callS (idx := 62) (j := 264) (by decide +kernel) (by decide +kernel) (by decide) (show zMe 264 = some zq_X16_set from rfl) rfl rfl (Nat.le_of_ble_eq_true rfl) rfl rfl (Nat.le_of_ble_eq_true rfl) (Nat.le_of_ble_eq_true rfl) (c_X16_set (w := w) to a hUo_to hU_a (by first | omega | decide | assumption | exact zr1_1 | exact zr1_0 | fail "num") (by first | omega | decide | assumption | exact zr1_1 | exact zr1_0 | fail "num")) (by omega) (fun v12 w12 hp12 => ?_)
  obtain ⟨hsi12, heq12, hp12_0, rfl⟩ := hp12
  show zP _ _ _ _ [] _ _ _ _ _
  refine zp_seg (pc' := 18) (lv' := [(4, .int 0), (3, .int n2), (0, .ref to), (1, .ref a), (2, .int v)]) (st' := []) [(15, .iconst 0), (16, .istore 4)] (by decide +kernel) rfl ?_
  have hL18 : ∀ (mm18 : Nat) (wL18 : zM) (y4_18 : Int32) (Pp : zA1), (zSI w12 wL18) → (∀ x, (x < to + 1 ∨ to + 1 + 1 ≤ x) → wL18 x = w12 x) → (0 ≤ y4_18.toInt) → (zU wL18 to cap Pp) → (zln Pp = zln p) → (2000 - y4_18.toInt).toNat < mm18 → zP (d + 1) zq_X16_shift 18 [(0, .ref to), (2, .int v), (3, .int n2), (4, .int y4_18)] [] wL18 sz 0 0 Post := by
    intro mm18
    induction mm18 with
    | zero => intros; omega
    | succ mm18 ih18 =>
    intro wL18 y4_18 Pp hsiL18 heqL18 hi18_0 hUp hPl hmu18
    have ky4_18 := zrng y4_18
    refine zp_seg (pc' := 23) (lv' := [(0, .ref to), (2, .int v), (3, .int n2), (4, .int y4_18)]) (st' := [.int (n2 - 1), .int y4_18]) [(18, .iload 4), (20, .iload_n 3), (21, .iconst 1), (22, .isub)] (by decide +kernel) rfl ?_
    have k9 := zsubC n2 1 (n := 1) (by decide) (by omega) (by omega)
    generalize ev23 : (n2 - 1 : Int32) = v23 at k9 ⊢
    have kv23 := zrng v23
    refine zp_if (i := .if_icmp .ge 57) (c := v23 ≤ y4_18) (t := 80) (e := 26) (lv' := [(0, .ref to), (2, .int v), (3, .int n2), (4, .int y4_18)]) (st' := []) (by decide +kernel) rfl (fun cc23 => ?_) (fun cc23 => ?_)
    ·
      have f10 := zleI cc23
      have hoffend : ∀ x, (x < to ∨ to + 2 ≤ x) → wL18 x = w x := fun x hx => ((heqL18 x (zx_X16_shiftD_0 hx)).trans (heq12 x hx))
      refine zr_retV (by decide +kernel) rfl ?_
      rw [← hPost]; exact ⟨rfl, _, rfl, Pp, (hsi12.tr hsiL18), hoffend, (by first | exact hUp | (have z9 := hUp; simpa using z9)), (by first | omega | assumption | decide), rfl⟩
    ·
      have f11 := znleI cc23
      refine zp_seg (pc' := 29) (lv' := [(0, .ref to), (2, .int v), (3, .int n2), (4, .int y4_18)]) (st' := [.int (n2 - 2)]) [(26, .iload_n 3), (27, .iconst 2), (28, .isub)] (by decide +kernel) rfl ?_
      have k12 := zsubC n2 2 (n := 2) (by decide) (by omega) (by omega)
      generalize ev29 : (n2 - 2 : Int32) = v29 at k12 ⊢
      have kv29 := zrng v29
      refine zp_seg (pc' := 31) (lv' := [(5, .int v29), (0, .ref to), (2, .int v), (3, .int n2), (4, .int y4_18)]) (st' := []) [(29, .istore 5)] (by decide +kernel) rfl ?_
      have hL31 : ∀ (mm31 : Nat) (wL31 : zM) (y5_31 : Int32) (Pq : zA1), (zSI wL18 wL31) → (∀ x, (x < to + 1 ∨ to + 1 + 1 ≤ x) → wL31 x = wL18 x) → (y5_31.toInt + 2 ≤ (zln p : Int)) → (-1 ≤ y5_31.toInt) → (zU wL31 to cap Pq) → (zln Pq = zln p) → (y5_31.toInt + 2).toNat < mm31 → zP (d + 1) zq_X16_shift 31 [(0, .ref to), (2, .int v), (3, .int n2), (4, .int y4_18), (5, .int y5_31)] [] wL31 sz 0 0 Post := by
        intro mm31
        induction mm31 with
        | zero => intros; omega
        | succ mm31 ih31 =>
        intro wL31 y5_31 Pq hsiL31 heqL31 hi31_0 hi31_1 hUq hQl hmu31
        have ky5_31 := zrng y5_31
        refine zp_seg (pc' := 35) (lv' := [(0, .ref to), (2, .int v), (3, .int n2), (4, .int y4_18), (5, .int y5_31)]) (st' := [.int y4_18, .int y5_31]) [(31, .iload 5), (33, .iload 4)] (by decide +kernel) rfl ?_
        refine zp_if (i := .if_icmp .lt 39) (c := y5_31 < y4_18) (t := 74) (e := 38) (lv' := [(0, .ref to), (2, .int v), (3, .int n2), (4, .int y4_18), (5, .int y5_31)]) (st' := []) (by decide +kernel) rfl (fun cc35 => ?_) (fun cc35 => ?_)
        ·
          have f13 := zltI cc35
          refine zp_seg (pc' := 77) (lv' := [(4, .int (y4_18 + 1)), (0, .ref to), (2, .int v), (3, .int n2), (5, .int y5_31)]) (st' := []) [(74, .iinc 4 1)] (by decide +kernel) rfl ?_
          have k14 := zaddC y4_18 1 (n := 1) (by decide) (by omega) (by omega)
          generalize ev77 : (y4_18 + 1 : Int32) = v77 at k14 ⊢
          have kv77 := zrng v77
          refine zp_seg (pc' := 18) (lv' := [(4, .int v77), (0, .ref to), (2, .int v), (3, .int n2), (5, .int y5_31)]) (st' := []) [(77, .goto (-59))] (by decide +kernel) rfl ?_
          exact (ih18 wL31 v77 (Pq) (hsiL18.tr hsiL31) (fun x hx => ((heqL31 x hx).trans (heqL18 x hx))) (by first | assumption | omega | decide) hUq (by
                exact hQl) (by omega)).more (zfa1 rfl (zfa1 rfl (zfa1 rfl (zfa1 rfl (zfa0)))))
        ·
          have f15 := znltI cc35
          refine zp_seg (pc' := 39) (lv' := [(0, .ref to), (2, .int v), (3, .int n2), (4, .int y4_18), (5, .int y5_31)]) (st' := [.ref to]) [(38, .aload_n 0)] (by decide +kernel) rfl ?_
          obtain ⟨n16, f17, hu18, hu19, hu20, hu21, hu22⟩ := id hUq
          have kn16 := zrng n16
          refine zr_get (idx := 30) (k := 0) (v := .ref (to + 1)) (by decide +kernel) (by decide +kernel) hu18 rfl ?_
          refine zp_seg (pc' := 45) (lv' := [(0, .ref to), (2, .int v), (3, .int n2), (4, .int y4_18), (5, .int y5_31)]) (st' := [.ref to, .int y5_31, .ref (to + 1)]) [(42, .iload 5), (44, .aload_n 0)] (by decide +kernel) rfl ?_
          refine zr_get (idx := 30) (k := 0) (v := .ref (to + 1)) (by decide +kernel) (by decide +kernel) hu18 rfl ?_
          refine zp_seg (pc' := 50) (lv' := [(0, .ref to), (2, .int v), (3, .int n2), (4, .int y4_18), (5, .int y5_31)]) (st' := [.int y5_31, .ref (to + 1), .int y5_31, .ref (to + 1)]) [(48, .iload 5)] (by decide +kernel) rfl ?_
          refine zr_iald (by decide +kernel) hu19 (zin (by first | omega | decide) (by first | omega | decide)) ?_
          have hz23 : (y5_31.toNatClampNeg : Int) = y5_31.toInt := znat (by first | omega | decide)
          obtain ⟨x50, ex50⟩ : ∃ x9, x9 = f17 (y5_31.toNatClampNeg) := ⟨_, rfl⟩
          rw [← ex50]
          have kx50 := zrng x50
          have hvx50 := hu22 (y5_31.toNatClampNeg) (by omega)
          rw [← ex50] at hvx50
          have hwx50 : 0 ≤ x50.toInt ∧ x50.toInt < 2147483647 := hvx50.1
          refine zp_seg (pc' := 53) (lv' := [(0, .ref to), (2, .int v), (3, .int n2), (4, .int y4_18), (5, .int y5_31)]) (st' := [.ref to, .int v, .int x50, .int y5_31, .ref (to + 1)]) [(51, .iload_n 2), (52, .aload_n 0)] (by decide +kernel) rfl ?_
          refine zr_get (idx := 30) (k := 0) (v := .ref (to + 1)) (by decide +kernel) (by decide +kernel) hu18 rfl ?_
          refine zp_seg (pc' := 60) (lv' := [(0, .ref to), (2, .int v), (3, .int n2), (4, .int y4_18), (5, .int y5_31)]) (st' := [.int (y5_31 + 1), .ref (to + 1), .int v, .int x50, .int y5_31, .ref (to + 1)]) [(56, .iload 5), (58, .iconst 1), (59, .iadd)] (by decide +kernel) rfl ?_
          have k24 := zaddC y5_31 1 (n := 1) (by decide) (by omega) (by omega)
          generalize ev60 : (y5_31 + 1 : Int32) = v60 at k24 ⊢
          have kv60 := zrng v60
          refine zr_iald (by decide +kernel) hu19 (zin (by first | omega | decide) (by first | omega | decide)) ?_
          have hz25 : (v60.toNatClampNeg : Int) = v60.toInt := znat (by first | omega | decide)
          obtain ⟨x60, ex60⟩ : ∃ x9, x9 = f17 (v60.toNatClampNeg) := ⟨_, rfl⟩
          rw [← ex60]
          have kx60 := zrng x60
          have hvx60 := hu22 (v60.toNatClampNeg) (by omega)
          rw [← ex60] at hvx60
          have hwx60 : 0 ≤ x60.toInt ∧ x60.toInt < 2147483647 := hvx60.1
          refine zr_callS (idx := 56) (j := 257) (by decide +kernel) (by decide +kernel) (by decide) (show zMe 257 = some zq_X16_mul from rfl) rfl rfl (Nat.le_of_ble_eq_true rfl) rfl rfl (Nat.le_of_ble_eq_true rfl) (Nat.le_of_ble_eq_true rfl) (c_X16_mul (w := wL31) v x60 (by first | omega | decide | assumption | exact zr1_1 | exact zr1_0 | fail "num") (by exact hvx60.1)) (by omega) (fun v61 w61 hp61 => ?_)
          obtain ⟨hpw61, r61, rfl, hr61⟩ := hp61
          replace hpw61 := hpw61.symm
          subst hpw61
          have kr61 := zrng r61
          show zP _ _ _ _ [.int r61, .int x50, .int y5_31, .ref (to + 1)] _ _ _ _ _
          refine zr_callS (idx := 49) (j := 255) (by decide +kernel) (by decide +kernel) (by decide) (show zMe 255 = some zq_X16_add from rfl) rfl rfl (Nat.le_of_ble_eq_true rfl) rfl rfl (Nat.le_of_ble_eq_true rfl) (Nat.le_of_ble_eq_true rfl) (c_X16_add (w := wL31) x50 r61 (by exact hvx50.1) (by exact hr61.1)) (by omega) (fun v64 w64 hp64 => ?_)
          obtain ⟨hpw64, r64, rfl, hr64⟩ := hp64
          replace hpw64 := hpw64.symm
          subst hpw64
          have kr64 := zrng r64
          show zP _ _ _ _ [.int r64, .int y5_31, .ref (to + 1)] _ _ _ _ _
          refine zr_iast (by decide +kernel) hu19 (zin (by first | omega | decide) (by first | omega | decide)) ?_
          show zP (d + 1) zq_X16_shift 68 [(0, .ref to), (2, .int v), (3, .int n2), (4, .int y4_18), (5, .int y5_31)] [] (zup wL31 (to + 1) (.inr (0, cap, .inl (upd f17 (y5_31.toNatClampNeg) r64)))) sz 0 0 Post
          obtain ⟨w67, ew67⟩ : ∃ wz9, wz9 = zup wL31 (to + 1) (.inr (0, cap, .inl (upd f17 (y5_31.toNatClampNeg) r64))) := ⟨_, rfl⟩
          have hsi67 : zSI wL31 w67 := by rw [ew67]; exact zSI.arr _ hu19
          have heq67 : ∀ x, x ≠ to + 1 → w67 x = wL31 x := fun x hx => by rw [ew67]; exact zup_n hx
          have hc67 : w67 (to + 1) = some (.inr (0, cap, .inl (upd f17 (y5_31.toNatClampNeg) r64))) := by rw [ew67]; exact zup_s
          rw [← ew67]
          clear ew67
          refine zp_seg (pc' := 71) (lv' := [(5, .int (y5_31 + (Int32.ofInt (-1)))), (0, .ref to), (2, .int v), (3, .int n2), (4, .int y4_18)]) (st' := []) [(68, .iinc 5 (-1))] (by decide +kernel) rfl ?_
          have k26 := zaddC y5_31 ((Int32.ofInt (-1))) (n := (-1)) (by decide) (by omega) (by omega)
          generalize ev71 : (y5_31 + (Int32.ofInt (-1)) : Int32) = v71 at k26 ⊢
          have kv71 := zrng v71
          refine zp_seg (pc' := 31) (lv' := [(5, .int v71), (0, .ref to), (2, .int v), (3, .int n2), (4, .int y4_18)]) (st' := []) [(71, .goto (-40))] (by decide +kernel) rfl ?_
          have hb27 : w67 to = some (.inl (14, [.ref (to + 1), .int n16])) := (heq67 to (zx_X16_shiftD_2)).trans hu18
          exact (ih31 w67 v71 (zaUp Pq y5_31.toNatClampNeg (zf r64)) (hsiL31.tr hsi67) (fun x hx => ((heq67 x (zx_X16_shiftD_1 hx)).trans (heqL31 x hx))) (by first | assumption | omega | decide) (by first | assumption | omega | decide) (by
                exact zU_up hb27 hc67 hu20 hUq.cap hu22 hr64.1 (by omega)) (by
                exact (zaUp_ln _ (by omega)).trans hQl) (by omega)).more (zfa1 rfl (zfa1 rfl (zfa1 rfl (zfa1 rfl (zfa1 rfl (zfa0))))))
      exact (hL31 _ wL18 v29 (Pp) zSI.rf (fun _ _ => rfl) (by first | assumption | omega | decide) (by first | assumption | omega | decide) (by
            exact hUp) (by
            exact hPl) (Nat.lt_succ_self _)).more (zfa1 rfl (zfa1 rfl (zfa1 rfl (zfa1 rfl (zfa1 rfl (zfa0))))))
  have hl28 : (0 : Int32).toInt = 0 := by decide
  exact (hL18 _ w12 0 (p) zSI.rf (fun _ _ => rfl) (by first | assumption | omega | decide) hp12_0 (by
        exact rfl) (Nat.lt_succ_self _)).more (zfa1 rfl (zfa1 rfl (zfa1 rfl (zfa1 rfl (zfa0)))))
