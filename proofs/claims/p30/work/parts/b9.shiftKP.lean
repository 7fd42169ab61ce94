set_option maxHeartbeats 8000000 in
set_option maxRecDepth 100000 in
theorem c_X16_mulP {w : zM}  (a : Int32) (b : Int32) (h_a : 0 ≤ a.toInt) (h_b : zr1 b) : zCon 1 zq_X16_mul [.int a, .int b] w (fun v9 w9' => w9' = w ∧ ∃ r9 : Int32, v9 = some (.int r9) ∧ (zr1 r9 ∧ zf r9 = zf a * zf b)) := by
  intro d sz hd
  obtain ⟨d, rfl⟩ : ∃ d9, d = d9 + 1 := ⟨d - 1, by omega⟩
  generalize hPost : (fun (r9' : Option (Option Value)) (w9' : zM) (z9 : Nat) => z9 = sz ∧ ∃ v9, r9' = some v9 ∧ (w9' = w ∧ ∃ r9 : Int32, v9 = some (.int r9) ∧ (zr1 r9 ∧ zf r9 = zf a * zf b))) = Post
  show zP (d + 1) zq_X16_mul 0 [(0, .int a), (1, .int b)] [] w sz 0 0 Post
  have k1 := zrng a
  have k2 := zrng b
  have r_b : 0 ≤ b.toInt ∧ b.toInt < 2147483647 := h_b
  refine zp_seg (pc' := 2) (lv' := [(0, .int a), (1, .int b)]) (st' := [.long (a.toInt64)]) [(0, .iload_n 0), (1, .i2l)] (by decide +kernel) rfl ?_
  have k3 := zi2lM a
  generalize ev2 : (a.toInt64 : Int64) = v2 at k3 ⊢
  have kv2 := zrngL v2
  refine zp_seg (pc' := 4) (lv' := [(0, .int a), (1, .int b)]) (st' := [.long (b.toInt64), .long v2]) [(2, .iload_n 1), (3, .i2l)] (by decide +kernel) rfl ?_
  have k4 := zi2lM b
  generalize ev4 : (b.toInt64 : Int64) = v4 at k4 ⊢
  have kv4 := zrngL v4
  refine zp_seg (pc' := 5) (lv' := [(0, .int a), (1, .int b)]) (st' := [.long (v2 * v4)]) [(4, .lmul)] (by decide +kernel) rfl ?_
  have k5 := zmulP v2 v4 (by omega) (by omega)
  generalize ev5 : (v2 * v4 : Int64) = v5 at k5 ⊢
  have kv5 := zrngL v5
  refine zr_ldc2 (idx := 3) (v := 2147483647) (by decide +kernel) (by decide +kernel) ?_
  refine zr_lrem (by decide +kernel) (by decide) ?_
  obtain ⟨q8, eq8⟩ : ∃ x9 : Int64, x9 = v5 - v5 / 2147483647 * 2147483647 := ⟨_, rfl⟩
  rw [← eq8]
  have bq8 := zremB v5
  rw [← eq8] at bq8
  have mq8 := zremN (x := v5)
  rw [← eq8] at mq8
  have kq8 := zrngL q8
  refine zp_seg (pc' := 10) (lv' := [(0, .int a), (1, .int b)]) (st' := [.int (q8.toInt32)]) [(9, .l2i)] (by decide +kernel) rfl ?_
  have k6 := zl2iE q8 (by omega) (by omega)
  generalize ev10 : (q8.toInt32 : Int32) = v10 at k6 ⊢
  have kv10 := zrng v10
  refine zr_retI (by decide +kernel) rfl ?_
  rw [← hPost]; exact ⟨rfl, _, rfl, rfl, _, rfl, (by
        rw [show v2.toInt = a.toInt by omega, show v4.toInt = b.toInt by omega] at *
        refine ⟨show 0 ≤ Int32.toInt _ ∧ Int32.toInt _ < 2147483647 by omega, zf_mul (by omega)⟩)⟩

theorem zx_X16_shiftKP_0 {to : Nat}  : to < to + 2 ∨ to + 2 + 128 ≤ to := by omega
theorem zx_X16_shiftKP_1 {to x : Nat} (h0 : x < to ∨ to + 130 ≤ x) : x < to + 2 ∨ to + 2 + 128 ≤ x := by omega
theorem zx_X16_shiftKP_2 {to : Nat}  : (to + 1) < to + 2 ∨ to + 2 + 128 ≤ (to + 1) := by omega
set_option maxHeartbeats 8000000 in
set_option maxRecDepth 100000 in
theorem c_X16_shiftKP {w : zM} {q : zA2} (to : Nat) (a : Nat) (v : Int32) (hBo_to : zBo w to) (hB_a : zB w a q) (hdj : to + 130 ≤ a ∨ a + 130 ≤ to) (h_v : 0 ≤ v.toInt) : zCon 3 zq_X16_shiftK [.ref to, .ref a, .int v] w (fun v9 w9' => zSI w w9' ∧ (∀ x, (x < to ∨ to + 130 ≤ x) → w9' x = w x) ∧ zB w9' to (zsh (zf v) q) ∧ v9 = none) := by
  intro d sz hd
  obtain ⟨d, rfl⟩ : ∃ d9, d = d9 + 1 := ⟨d - 1, by omega⟩
  generalize hPost : (fun (r9' : Option (Option Value)) (w9' : zM) (z9 : Nat) => z9 = sz ∧ ∃ v9, r9' = some v9 ∧ (zSI w w9' ∧ (∀ x, (x < to ∨ to + 130 ≤ x) → w9' x = w x) ∧ zB w9' to (zsh (zf v) q) ∧ v9 = none)) = Post
  show zP (d + 1) zq_X16_shiftK 0 [(0, .ref to), (1, .ref a), (2, .int v)] [] w sz 0 0 Post
  have k1 := zrng v
  refine zp_seg (pc' := 2) (lv' := [(0, .ref to), (1, .ref a), (2, .int v)]) (st' := [.ref a, .ref to]) [(0, .aload_n 0), (1, .aload_n 1)] (by decide +kernel) rfl ?_
  refine zr_acEf (off := 8) (by decide +kernel) (by decide) (by first | assumption | omega) ?_
  show zP (d + 1) zq_X16_shiftK 5 [(0, .ref to), (1, .ref a), (2, .int v)] [] w sz 0 0 Post
  refine zp_seg (pc' := 7) (lv' := [(0, .ref to), (1, .ref a), (2, .int v)]) (st' := [.ref a, .ref to]) [(5, .aload_n 0), (6, .aload_n 1)] (by decide +kernel) rfl ?_
  refine zr_callS (idx := 113) (j := 275) (by decide +kernel) (by decide +kernel) (by decide) (show zMe 275 = some zq_X16_set_ from rfl) rfl rfl (Nat.le_of_ble_eq_true rfl) rfl rfl (Nat.le_of_ble_eq_true rfl) (Nat.le_of_ble_eq_true rfl) (c_X16_set_ (w := w) to a hBo_to hB_a (by first | omega | decide | assumption | exact zr1_1 | exact zr1_0 | fail "num")) (by omega) (fun v7 w7 hp7 => ?_)
  obtain ⟨hsi7, heq7, hp7_0, rfl⟩ := hp7
  show zP _ _ _ _ [] _ _ _ _ _
  have hB9 := hp7_0
  obtain ⟨n9, hQ91, hQ92, hQ93, hQ94, hQ95, hQ96⟩ := id hB9
  have kn9 := zrng n9
  have hBo9 := hB9.o
  refine zp_seg (pc' := 11) (lv' := [(0, .ref to), (1, .ref a), (2, .int v)]) (st' := [.ref to]) [(10, .aload_n 0)] (by decide +kernel) rfl ?_
  refine zr_get (idx := 93) (k := 1) (v := .int n9) (by decide +kernel) (by decide +kernel) hQ91 rfl ?_
  refine zp_seg (pc' := 18) (lv' := [(4, .int 0), (3, .int n9), (0, .ref to), (1, .ref a), (2, .int v)]) (st' := []) [(14, .istore_n 3), (15, .iconst 0), (16, .istore 4)] (by decide +kernel) rfl ?_
  have hL18 : ∀ (mm18 : Nat) (wL18 : zM) (y4_18 : Int32) (T : Nat → zA1), (zSI w7 wL18) → (∀ x, (x < to + 2 ∨ to + 2 + 128 ≤ x) → wL18 x = w7 x) → (0 ≤ y4_18.toInt) → (y4_18.toInt ≤ ((zrw q - 1 : Nat) : Int)) → (∀ j, j < zrw q → zU wL18 (to + 2 + 2 * j) 200 (T j)) → (zshI (zf v) q y4_18.toNatClampNeg (zrw q) T) → (T (zrw q - 1) = q.1 (zrw q - 1)) → (100 - y4_18.toInt).toNat < mm18 → zP (d + 1) zq_X16_shiftK 18 [(0, .ref to), (2, .int v), (3, .int n9), (4, .int y4_18)] [] wL18 sz 0 0 Post := by
    intro mm18
    induction mm18 with
    | zero => intros; omega
    | succ mm18 ih18 =>
    intro wL18 y4_18 T hsiL18 heqL18 hi18_0 hi18_1 hT hI hTop hmu18
    have ky4_18 := zrng y4_18
    have hz2 : (y4_18.toNatClampNeg : Int) = y4_18.toInt := znat (by first | omega | decide)
    refine zp_seg (pc' := 23) (lv' := [(0, .ref to), (2, .int v), (3, .int n9), (4, .int y4_18)]) (st' := [.int (n9 - 1), .int y4_18]) [(18, .iload 4), (20, .iload_n 3), (21, .iconst 1), (22, .isub)] (by decide +kernel) rfl ?_
    have k3 := zrng n9
    have k4 := zsubC n9 1 (n := 1) (by decide) (by omega) (by omega)
    generalize ev23 : (n9 - 1 : Int32) = v23 at k4 ⊢
    have kv23 := zrng v23
    refine zp_if (i := .if_icmp .ge 152) (c := v23 ≤ y4_18) (t := 175) (e := 26) (lv' := [(0, .ref to), (2, .int v), (3, .int n9), (4, .int y4_18)]) (st' := []) (by decide +kernel) rfl (fun cc23 => ?_) (fun cc23 => ?_)
    ·
      have f5 := zleI cc23
      have hb6 := hBo9.si hsiL18
      have hb7 : wL18 to = some (.inl (11, [.ref (to + 1), .int n9])) := (heqL18 to (zx_X16_shiftKP_0)).trans hQ91
      have hR9 := (zsh_rw (zf v) q).1
      have hB8 : zB wL18 to (zsh (zf v) q) := zB.mk hb6 hb7 (by omega) (by omega) (fun j hj => by
        rw [zshI_e (n := zrw q) (by rw [show zrw q - 1 = y4_18.toNatClampNeg by omega]; exact hI) j, if_pos (by omega)]
        exact hT j (by omega))
      have hoffend : ∀ x, (x < to ∨ to + 130 ≤ x) → wL18 x = w x := fun x hx => ((heqL18 x (zx_X16_shiftKP_1 hx)).trans (heq7 x hx))
      refine zr_retV (by decide +kernel) rfl ?_
      rw [← hPost]; exact ⟨rfl, _, rfl, (hsi7.tr hsiL18), hoffend, hB8, rfl⟩
    ·
      have f8 := znleI cc23
      refine zp_seg (pc' := 29) (lv' := [(0, .ref to), (2, .int v), (3, .int n9), (4, .int y4_18)]) (st' := [.int (n9 - 2)]) [(26, .iload_n 3), (27, .iconst 2), (28, .isub)] (by decide +kernel) rfl ?_
      have k9 := zsubC n9 2 (n := 2) (by decide) (by omega) (by omega)
      generalize ev29 : (n9 - 2 : Int32) = v29 at k9 ⊢
      have kv29 := zrng v29
      refine zp_seg (pc' := 31) (lv' := [(5, .int v29), (0, .ref to), (2, .int v), (3, .int n9), (4, .int y4_18)]) (st' := []) [(29, .istore 5)] (by decide +kernel) rfl ?_
      have hL31 : ∀ (mm31 : Nat) (wL31 : zM) (y5_31 : Int32) (T2 : Nat → zA1), (zSI wL18 wL31) → (∀ x, (x < to + 2 ∨ to + 2 + 128 ≤ x) → wL31 x = wL18 x) → (y4_18.toInt - 1 ≤ y5_31.toInt) → (y5_31.toInt + 2 ≤ (zrw q : Int)) → (∀ j, j < zrw q → zU wL31 (to + 2 + 2 * j) 200 (T2 j)) → ((∀ j : Nat, (j : Int) ≤ y5_31.toInt → T2 j = T j) ∧ (∀ j : Nat, y5_31.toInt < (j : Int) → j + 1 < zrw q → T2 j = zaA (T j) (zaM (zaC (zf v)) (T2 (j + 1)))) ∧ T2 (zrw q - 1) = T (zrw q - 1)) → (y5_31.toInt + 2).toNat < mm31 → zP (d + 1) zq_X16_shiftK 31 [(0, .ref to), (2, .int v), (3, .int n9), (4, .int y4_18), (5, .int y5_31)] [] wL31 sz 0 0 Post := by
        intro mm31
        induction mm31 with
        | zero => intros; omega
        | succ mm31 ih31 =>
        intro wL31 y5_31 T2 hsiL31 heqL31 hi31_0 hi31_1 hT2 hS hmu31
        have ky5_31 := zrng y5_31
        refine zp_seg (pc' := 35) (lv' := [(0, .ref to), (2, .int v), (3, .int n9), (4, .int y4_18), (5, .int y5_31)]) (st' := [.int y4_18, .int y5_31]) [(31, .iload 5), (33, .iload 4)] (by decide +kernel) rfl ?_
        refine zp_if (i := .if_icmp .lt 134) (c := y5_31 < y4_18) (t := 169) (e := 38) (lv' := [(0, .ref to), (2, .int v), (3, .int n9), (4, .int y4_18), (5, .int y5_31)]) (st' := []) (by decide +kernel) rfl (fun cc35 => ?_) (fun cc35 => ?_)
        ·
          have f10 := zltI cc35
          refine zp_seg (pc' := 172) (lv' := [(4, .int (y4_18 + 1)), (0, .ref to), (2, .int v), (3, .int n9), (5, .int y5_31)]) (st' := []) [(169, .iinc 4 1)] (by decide +kernel) rfl ?_
          have k11 := zaddC y4_18 1 (n := 1) (by decide) (by omega) (by omega)
          generalize ev172 : (y4_18 + 1 : Int32) = v172 at k11 ⊢
          have kv172 := zrng v172
          refine zp_seg (pc' := 18) (lv' := [(4, .int v172), (0, .ref to), (2, .int v), (3, .int n9), (5, .int y5_31)]) (st' := []) [(172, .goto (-154))] (by decide +kernel) rfl ?_
          have hz12 : (v172.toNatClampNeg : Int) = v172.toInt := znat (by first | omega | decide)
          exact (ih18 wL31 v172 (T2) (hsiL18.tr hsiL31) (fun x hx => ((heqL31 x hx).trans (heqL18 x hx))) (by first | assumption | omega | decide) (by first | assumption | omega | decide) (by
                exact hT2) (by
                rw [show v172.toNatClampNeg = y4_18.toNatClampNeg + 1 by omega]
                exact zshI_s hI (by omega) (fun j hj => hS.1 j (by omega)) (fun j hj hn => hS.2.1 j (by omega) hn) hS.2.2) (by
                exact hS.2.2.trans hTop) (by omega)).more (zfa1 rfl (zfa1 rfl (zfa1 rfl (zfa1 rfl (zfa0)))))
        ·
          have f13 := znltI cc35
          refine zp_seg (pc' := 39) (lv' := [(0, .ref to), (2, .int v), (3, .int n9), (4, .int y4_18), (5, .int y5_31)]) (st' := [.ref to]) [(38, .aload_n 0)] (by decide +kernel) rfl ?_
          have hb14 : wL31 to = some (.inl (11, [.ref (to + 1), .int n9])) := ((heqL31 to (zx_X16_shiftKP_0)).trans (heqL18 to (zx_X16_shiftKP_0))).trans hQ91
          refine zr_get (idx := 98) (k := 0) (v := .ref (to + 1)) (by decide +kernel) (by decide +kernel) hb14 rfl ?_
          refine zp_seg (pc' := 44) (lv' := [(0, .ref to), (2, .int v), (3, .int n9), (4, .int y4_18), (5, .int y5_31)]) (st' := [.int y5_31, .ref (to + 1)]) [(42, .iload 5)] (by decide +kernel) rfl ?_
          have hb15 : wL31 (to + 1) = some (.inr (4, 64, zbr to)) := ((heqL31 (to + 1) (zx_X16_shiftKP_2)).trans (heqL18 (to + 1) (zx_X16_shiftKP_2))).trans hQ92
          have hz16 : (y5_31.toNatClampNeg : Int) = y5_31.toInt := znat (by first | omega | decide)
          refine zr_aald (v := .ref (to + 2 + 2 * y5_31.toNatClampNeg)) (by decide +kernel) hb15 (by decide) (zin (by first | omega | decide) (by first | omega | decide)) (zbr_at (by omega)) ?_
          refine zp_seg (pc' := 48) (lv' := [(6, .ref (to + 2 + 2 * y5_31.toNatClampNeg)), (0, .ref to), (2, .int v), (3, .int n9), (4, .int y4_18), (5, .int y5_31)]) (st' := [.ref to]) [(45, .astore 6), (47, .aload_n 0)] (by decide +kernel) rfl ?_
          refine zr_get (idx := 98) (k := 0) (v := .ref (to + 1)) (by decide +kernel) (by decide +kernel) hb14 rfl ?_
          refine zp_seg (pc' := 55) (lv' := [(6, .ref (to + 2 + 2 * y5_31.toNatClampNeg)), (0, .ref to), (2, .int v), (3, .int n9), (4, .int y4_18), (5, .int y5_31)]) (st' := [.int (y5_31 + 1), .ref (to + 1)]) [(51, .iload 5), (53, .iconst 1), (54, .iadd)] (by decide +kernel) rfl ?_
          have k17 := zaddC y5_31 1 (n := 1) (by decide) (by omega) (by omega)
          generalize ev55 : (y5_31 + 1 : Int32) = v55 at k17 ⊢
          have kv55 := zrng v55
          have hz18 : (v55.toNatClampNeg : Int) = v55.toInt := znat (by first | omega | decide)
          refine zr_aald (v := .ref (to + 2 + 2 * v55.toNatClampNeg)) (by decide +kernel) hb15 (by decide) (zin (by first | omega | decide) (by first | omega | decide)) (zbr_at (by omega)) ?_
          refine zp_seg (pc' := 58) (lv' := [(7, .ref (to + 2 + 2 * v55.toNatClampNeg)), (6, .ref (to + 2 + 2 * y5_31.toNatClampNeg)), (0, .ref to), (2, .int v), (3, .int n9), (4, .int y4_18), (5, .int y5_31)]) (st' := []) [(56, .astore 7)] (by decide +kernel) rfl ?_
          have hUx9 := hT2 y5_31.toNatClampNeg (by omega)
          have hUy9 := hT2 (y5_31.toNatClampNeg + 1) (by omega)
          have hcx9 := hUx9.cap
          have hcy9 := hUy9.cap
          have ej9 : v55.toNatClampNeg = y5_31.toNatClampNeg + 1 := by omega
          rw [← ej9] at hUy9
          refine zp_seg (pc' := 60) (lv' := [(7, .ref (to + 2 + 2 * v55.toNatClampNeg)), (6, .ref (to + 2 + 2 * y5_31.toNatClampNeg)), (0, .ref to), (2, .int v), (3, .int n9), (4, .int y4_18), (5, .int y5_31)]) (st' := [.ref (to + 2 + 2 * y5_31.toNatClampNeg)]) [(58, .aload 6)] (by decide +kernel) rfl ?_
          obtain ⟨n19, f20, hu21, hu22, hu23, hu24, hu25⟩ := id hUx9
          have kn19 := zrng n19
          refine zr_get (idx := 25) (k := 1) (v := .int n19) (by decide +kernel) (by decide +kernel) hu21 rfl ?_
          refine zp_seg (pc' := 65) (lv' := [(8, .int n19), (7, .ref (to + 2 + 2 * v55.toNatClampNeg)), (6, .ref (to + 2 + 2 * y5_31.toNatClampNeg)), (0, .ref to), (2, .int v), (3, .int n9), (4, .int y4_18), (5, .int y5_31)]) (st' := []) [(63, .istore 8)] (by decide +kernel) rfl ?_
          have hL65 : ∀ (mm65 : Nat) (wL65 : zM) (y8_65 : Int32) (fz : Nat → Int32), (zSI wL31 wL65) → (∀ x, (x < to + 2 + 2 * y5_31.toNatClampNeg + 1 ∨ to + 2 + 2 * y5_31.toNatClampNeg + 1 + 1 ≤ x) → wL65 x = wL31 x) → ((zln (T2 y5_31.toNatClampNeg) : Int) ≤ y8_65.toInt) → (y8_65.toInt ≤ 200) → (wL65 (to + 2 + 2 * y5_31.toNatClampNeg + 1) = some (.inr (0, 200, .inl fz))) → (∀ t, t < y8_65.toNatClampNeg → zr1 (fz t) ∧ zf (fz t) = (T2 y5_31.toNatClampNeg).1 t) → (300 - y8_65.toInt).toNat < mm65 → zP (d + 1) zq_X16_shiftK 65 [(0, .ref to), (2, .int v), (3, .int n9), (4, .int y4_18), (5, .int y5_31), (6, .ref (to + 2 + 2 * y5_31.toNatClampNeg)), (7, .ref (to + 2 + 2 * v55.toNatClampNeg)), (8, .int y8_65)] [] wL65 sz 0 0 Post := by
            intro mm65
            induction mm65 with
            | zero => intros; omega
            | succ mm65 ih65 =>
            intro wL65 y8_65 fz hsiL65 heqL65 hi65_0 hi65_1 hAz hZ hmu65
            have ky8_65 := zrng y8_65
            have hz26 : (y8_65.toNatClampNeg : Int) = y8_65.toInt := znat (by first | omega | decide)
            refine zp_seg (pc' := 69) (lv' := [(0, .ref to), (2, .int v), (3, .int n9), (4, .int y4_18), (5, .int y5_31), (6, .ref (to + 2 + 2 * y5_31.toNatClampNeg)), (7, .ref (to + 2 + 2 * v55.toNatClampNeg)), (8, .int y8_65)]) (st' := [.ref (to + 2 + 2 * v55.toNatClampNeg), .int y8_65]) [(65, .iload 8), (67, .aload 7)] (by decide +kernel) rfl ?_
            obtain ⟨n27, f28, hu29, hu30, hu31, hu32, hu33⟩ := id hUy9
            have kn27 := zrng n27
            have hb34 : wL65 (to + 2 + 2 * v55.toNatClampNeg) = some (.inl (14, [.ref (to + 2 + 2 * v55.toNatClampNeg + 1), .int n27])) := (heqL65 (to + 2 + 2 * v55.toNatClampNeg) (by omega)).trans hu29
            refine zr_get (idx := 25) (k := 1) (v := .int n27) (by decide +kernel) (by decide +kernel) hb34 rfl ?_
            refine zp_if (i := .if_icmp .ge 18) (c := n27 ≤ y8_65) (t := 90) (e := 75) (lv' := [(0, .ref to), (2, .int v), (3, .int n9), (4, .int y4_18), (5, .int y5_31), (6, .ref (to + 2 + 2 * y5_31.toNatClampNeg)), (7, .ref (to + 2 + 2 * v55.toNatClampNeg)), (8, .int y8_65)]) (st' := []) (by decide +kernel) rfl (fun cc72 => ?_) (fun cc72 => ?_)
            ·
              have f35 := zleI cc72
              refine zp_seg (pc' := 94) (lv' := [(0, .ref to), (2, .int v), (3, .int n9), (4, .int y4_18), (5, .int y5_31), (6, .ref (to + 2 + 2 * y5_31.toNatClampNeg)), (7, .ref (to + 2 + 2 * v55.toNatClampNeg)), (8, .int y8_65)]) (st' := [.ref (to + 2 + 2 * y5_31.toNatClampNeg), .ref (to + 2 + 2 * y5_31.toNatClampNeg)]) [(90, .aload 6), (92, .aload 6)] (by decide +kernel) rfl ?_
              have hb36 : wL65 (to + 2 + 2 * y5_31.toNatClampNeg) = some (.inl (14, [.ref (to + 2 + 2 * y5_31.toNatClampNeg + 1), .int n19])) := (heqL65 (to + 2 + 2 * y5_31.toNatClampNeg) (by omega)).trans hu21
              refine zr_get (idx := 25) (k := 1) (v := .int n19) (by decide +kernel) (by decide +kernel) hb36 rfl ?_
              refine zp_seg (pc' := 99) (lv' := [(0, .ref to), (2, .int v), (3, .int n9), (4, .int y4_18), (5, .int y5_31), (6, .ref (to + 2 + 2 * y5_31.toNatClampNeg)), (7, .ref (to + 2 + 2 * v55.toNatClampNeg)), (8, .int y8_65)]) (st' := [.ref (to + 2 + 2 * v55.toNatClampNeg), .int n19, .ref (to + 2 + 2 * y5_31.toNatClampNeg)]) [(97, .aload 7)] (by decide +kernel) rfl ?_
              refine zr_get (idx := 25) (k := 1) (v := .int n27) (by decide +kernel) (by decide +kernel) hb34 rfl ?_
              refine zr_max (idx := 40) (by decide +kernel) (by decide +kernel) (by omega) (Nat.le_of_ble_eq_true rfl) ?_
              obtain ⟨m37, em37, hm37⟩ := zmaxI n19 n27
              rw [← em37]
              have km37 := zrng m37
              obtain ⟨MM, hMM⟩ : ∃ x : Int32, x = m37 := ⟨_, rfl⟩
              have hMM9 : MM.toInt = m37.toInt := by rw [hMM]
              clear hMM
              have hzM9 := znat (x := MM) (by omega)
              refine zr_put2 (idx := 25) (k := 1) (fs2 := [.ref (to + 2 + 2 * y5_31.toNatClampNeg + 1), .int m37]) (by decide +kernel) (by decide +kernel) hb36 (Nat.le_of_ble_eq_true rfl) rfl rfl rfl ?_
              show zP (d + 1) zq_X16_shiftK 108 [(0, .ref to), (2, .int v), (3, .int n9), (4, .int y4_18), (5, .int y5_31), (6, .ref (to + 2 + 2 * y5_31.toNatClampNeg)), (7, .ref (to + 2 + 2 * v55.toNatClampNeg)), (8, .int y8_65)] [] (zup wL65 (to + 2 + 2 * y5_31.toNatClampNeg) (.inl (14, [.ref (to + 2 + 2 * y5_31.toNatClampNeg + 1), .int m37]))) sz 0 0 Post
              obtain ⟨w105, ew105⟩ : ∃ wz9, wz9 = zup wL65 (to + 2 + 2 * y5_31.toNatClampNeg) (.inl (14, [.ref (to + 2 + 2 * y5_31.toNatClampNeg + 1), .int m37])) := ⟨_, rfl⟩
              have hsi105 : zSI wL65 w105 := by rw [ew105]; exact zSI.setU hb36
              have heq105 : ∀ x, x ≠ to + 2 + 2 * y5_31.toNatClampNeg → w105 x = wL65 x := fun x hx => by rw [ew105]; exact zup_n hx
              have hc105 : w105 (to + 2 + 2 * y5_31.toNatClampNeg) = some (.inl (14, [.ref (to + 2 + 2 * y5_31.toNatClampNeg + 1), .int m37])) := by rw [ew105]; exact zup_s
              rw [← ew105]
              clear ew105
              refine zp_seg (pc' := 111) (lv' := [(8, .int 0), (0, .ref to), (2, .int v), (3, .int n9), (4, .int y4_18), (5, .int y5_31), (6, .ref (to + 2 + 2 * y5_31.toNatClampNeg)), (7, .ref (to + 2 + 2 * v55.toNatClampNeg))]) (st' := []) [(108, .iconst 0), (109, .istore 8)] (by decide +kernel) rfl ?_
              have hL111 : ∀ (mm111 : Nat) (wL111 : zM) (y8_111 : Int32) (fz2 : Nat → Int32), (zSI w105 wL111) → (∀ x, (x < to + 2 + 2 * y5_31.toNatClampNeg + 1 ∨ to + 2 + 2 * y5_31.toNatClampNeg + 1 + 1 ≤ x) → wL111 x = w105 x) → (0 ≤ y8_111.toInt) → (y8_111.toInt ≤ (zln (T2 v55.toNatClampNeg) : Int)) → (wL111 (to + 2 + 2 * y5_31.toNatClampNeg + 1) = some (.inr (0, 200, .inl fz2))) → (∀ t, t < MM.toNatClampNeg → zr1 (fz2 t) ∧ zf (fz2 t) = if t < y8_111.toNatClampNeg then (T2 y5_31.toNatClampNeg).1 t + zf v * (T2 v55.toNatClampNeg).1 t else (T2 y5_31.toNatClampNeg).1 t) → (2147483647 - y8_111.toInt).toNat < mm111 → zP (d + 1) zq_X16_shiftK 111 [(0, .ref to), (2, .int v), (3, .int n9), (4, .int y4_18), (5, .int y5_31), (6, .ref (to + 2 + 2 * y5_31.toNatClampNeg)), (7, .ref (to + 2 + 2 * v55.toNatClampNeg)), (8, .int y8_111)] [] wL111 sz 0 0 Post := by
                intro mm111
                induction mm111 with
                | zero => intros; omega
                | succ mm111 ih111 =>
                intro wL111 y8_111 fz2 hsiL111 heqL111 hi111_0 hi111_1 hAz2 hZ2 hmu111
                have ky8_111 := zrng y8_111
                have hz38 : (y8_111.toNatClampNeg : Int) = y8_111.toInt := znat (by first | omega | decide)
                refine zp_seg (pc' := 115) (lv' := [(0, .ref to), (2, .int v), (3, .int n9), (4, .int y4_18), (5, .int y5_31), (6, .ref (to + 2 + 2 * y5_31.toNatClampNeg)), (7, .ref (to + 2 + 2 * v55.toNatClampNeg)), (8, .int y8_111)]) (st' := [.ref (to + 2 + 2 * v55.toNatClampNeg), .int y8_111]) [(111, .iload 8), (113, .aload 7)] (by decide +kernel) rfl ?_
                have hb39 : wL111 (to + 2 + 2 * v55.toNatClampNeg) = some (.inl (14, [.ref (to + 2 + 2 * v55.toNatClampNeg + 1), .int n27])) := ((heqL111 (to + 2 + 2 * v55.toNatClampNeg) (by omega)).trans (heq105 (to + 2 + 2 * v55.toNatClampNeg) (by omega))).trans hb34
                refine zr_get (idx := 25) (k := 1) (v := .int n27) (by decide +kernel) (by decide +kernel) hb39 rfl ?_
                refine zp_if (i := .if_icmp .ge 40) (c := n27 ≤ y8_111) (t := 158) (e := 121) (lv' := [(0, .ref to), (2, .int v), (3, .int n9), (4, .int y4_18), (5, .int y5_31), (6, .ref (to + 2 + 2 * y5_31.toNatClampNeg)), (7, .ref (to + 2 + 2 * v55.toNatClampNeg)), (8, .int y8_111)]) (st' := []) (by decide +kernel) rfl (fun cc118 => ?_) (fun cc118 => ?_)
                ·
                  have f40 := zleI cc118
                  have hb41 : wL111 (to + 2 + 2 * y5_31.toNatClampNeg) = some (.inl (14, [.ref (to + 2 + 2 * y5_31.toNatClampNeg + 1), .int m37])) := (heqL111 (to + 2 + 2 * y5_31.toNatClampNeg) (by omega)).trans hc105
                  have hUn9 : zUw wL111 (to + 2 + 2 * y5_31.toNatClampNeg) 200 MM.toNatClampNeg (zaA (T2 y5_31.toNatClampNeg) (zaM (zaC (zf v)) (T2 v55.toNatClampNeg))) := by
                    refine ⟨_, fz2, hb41, hAz2, by omega, by omega, fun t ht => ?_, fun t ht => ?_⟩
                    · have h9 := hZ2 t ht
                      rw [zaSC_c]
                      by_cases k : t < y8_111.toNatClampNeg
                      · rw [if_pos k] at h9; exact h9
                      · rw [if_neg k] at h9
                        rw [zln_dg (T2 v55.toNatClampNeg) t (by omega), zF_m0, zF_a0]; exact h9
                    · rw [zaSC_c, zln_dg (T2 y5_31.toNatClampNeg) t (by omega), zln_dg (T2 v55.toNatClampNeg) t (by omega), zF_m0, zF_a0]
                  refine zp_seg (pc' := 160) (lv' := [(0, .ref to), (2, .int v), (3, .int n9), (4, .int y4_18), (5, .int y5_31), (6, .ref (to + 2 + 2 * y5_31.toNatClampNeg)), (7, .ref (to + 2 + 2 * v55.toNatClampNeg)), (8, .int y8_111)]) (st' := [.ref (to + 2 + 2 * y5_31.toNatClampNeg)]) [(158, .aload 6)] (by decide +kernel) rfl ?_
                  refine zr_callV (idx := 52) (j := 251) (by decide +kernel) (by decide +kernel) (show zMe 251 = some zq_X15_trim from rfl) rfl rfl (Nat.le_of_ble_eq_true rfl) rfl rfl hb41 (Nat.le_of_ble_eq_true rfl) (Nat.le_of_ble_eq_true rfl) (c_X15_trim (w := wL111) (to + 2 + 2 * y5_31.toNatClampNeg) hUn9) (by omega) (fun v160 w160 hp160 => ?_)
                  obtain ⟨hsi160, heq160, hp160_0, rfl⟩ := hp160
                  show zP _ _ _ _ [] _ _ _ _ _
                  refine zp_seg (pc' := 166) (lv' := [(5, .int (y5_31 + (Int32.ofInt (-1)))), (0, .ref to), (2, .int v), (3, .int n9), (4, .int y4_18), (6, .ref (to + 2 + 2 * y5_31.toNatClampNeg)), (7, .ref (to + 2 + 2 * v55.toNatClampNeg)), (8, .int y8_111)]) (st' := []) [(163, .iinc 5 (-1))] (by decide +kernel) rfl ?_
                  have k42 := zaddC y5_31 ((Int32.ofInt (-1))) (n := (-1)) (by decide) (by omega) (by omega)
                  generalize ev166 : (y5_31 + (Int32.ofInt (-1)) : Int32) = v166 at k42 ⊢
                  have kv166 := zrng v166
                  refine zp_seg (pc' := 31) (lv' := [(5, .int v166), (0, .ref to), (2, .int v), (3, .int n9), (4, .int y4_18), (6, .ref (to + 2 + 2 * y5_31.toNatClampNeg)), (7, .ref (to + 2 + 2 * v55.toNatClampNeg)), (8, .int y8_111)]) (st' := []) [(166, .goto (-135))] (by decide +kernel) rfl ?_
                  exact (ih31 w160 v166 (fun j => if j = y5_31.toNatClampNeg then zaA (T2 j) (zaM (zaC (zf v)) (T2 (j + 1))) else T2 j) ((((hsiL31.tr hsiL65).tr hsi105).tr hsiL111).tr hsi160) (fun x hx => ((heq160 x (by omega)).trans ((heqL111 x (by omega)).trans ((heq105 x (by omega)).trans ((heqL65 x (by omega)).trans (heqL31 x hx)))))) (by first | assumption | omega | decide) (by first | assumption | omega | decide) (by
                        intro t ht
                        show zU w160 (to + 2 + 2 * t) 200 (if t = y5_31.toNatClampNeg then zaA (T2 t) (zaM (zaC (zf v)) (T2 (t + 1))) else T2 t)
                        by_cases e : t = y5_31.toNatClampNeg
                        · rw [if_pos e, e, ← ej9]
                          exact hp160_0
                        · rw [if_neg e]
                          exact (hT2 t ht).ag (fun x g1 g2 => ((heq160 x (by omega)).trans ((heqL111 x (by omega)).trans ((heq105 x (by omega)).trans (heqL65 x (by omega))))))) (by
                        refine ⟨fun j hj => ?_, fun j h1 h2 => ?_, ?_⟩
                        · show (if j = y5_31.toNatClampNeg then _ else T2 j) = T j
                          rw [if_neg (by omega)]
                          exact hS.1 j (by omega)
                        · show (if j = y5_31.toNatClampNeg then zaA (T2 j) (zaM (zaC (zf v)) (T2 (j + 1))) else T2 j) = zaA (T j) (zaM (zaC (zf v)) (if j + 1 = y5_31.toNatClampNeg then _ else T2 (j + 1)))
                          rw [if_neg (show ¬ j + 1 = y5_31.toNatClampNeg by omega)]
                          by_cases e : j = y5_31.toNatClampNeg
                          · rw [if_pos e, hS.1 j (by omega)]
                          · rw [if_neg e]
                            exact hS.2.1 j (by omega) h2
                        · show (if zrw q - 1 = y5_31.toNatClampNeg then _ else T2 (zrw q - 1)) = T (zrw q - 1)
                          rw [if_neg (by omega)]
                          exact hS.2.2) (by omega)).more (zfa1 rfl (zfa1 rfl (zfa1 rfl (zfa1 rfl (zfa1 rfl (zfa0))))))
                ·
                  have f43 := znleI cc118
                  refine zp_seg (pc' := 123) (lv' := [(0, .ref to), (2, .int v), (3, .int n9), (4, .int y4_18), (5, .int y5_31), (6, .ref (to + 2 + 2 * y5_31.toNatClampNeg)), (7, .ref (to + 2 + 2 * v55.toNatClampNeg)), (8, .int y8_111)]) (st' := [.ref (to + 2 + 2 * y5_31.toNatClampNeg)]) [(121, .aload 6)] (by decide +kernel) rfl ?_
                  have hb44 : wL111 (to + 2 + 2 * y5_31.toNatClampNeg) = some (.inl (14, [.ref (to + 2 + 2 * y5_31.toNatClampNeg + 1), .int m37])) := (heqL111 (to + 2 + 2 * y5_31.toNatClampNeg) (by omega)).trans hc105
                  refine zr_get (idx := 30) (k := 0) (v := .ref (to + 2 + 2 * y5_31.toNatClampNeg + 1)) (by decide +kernel) (by decide +kernel) hb44 rfl ?_
                  refine zp_seg (pc' := 130) (lv' := [(0, .ref to), (2, .int v), (3, .int n9), (4, .int y4_18), (5, .int y5_31), (6, .ref (to + 2 + 2 * y5_31.toNatClampNeg)), (7, .ref (to + 2 + 2 * v55.toNatClampNeg)), (8, .int y8_111)]) (st' := [.ref (to + 2 + 2 * y5_31.toNatClampNeg), .int y8_111, .ref (to + 2 + 2 * y5_31.toNatClampNeg + 1)]) [(126, .iload 8), (128, .aload 6)] (by decide +kernel) rfl ?_
                  refine zr_get (idx := 30) (k := 0) (v := .ref (to + 2 + 2 * y5_31.toNatClampNeg + 1)) (by decide +kernel) (by decide +kernel) hb44 rfl ?_
                  refine zp_seg (pc' := 135) (lv' := [(0, .ref to), (2, .int v), (3, .int n9), (4, .int y4_18), (5, .int y5_31), (6, .ref (to + 2 + 2 * y5_31.toNatClampNeg)), (7, .ref (to + 2 + 2 * v55.toNatClampNeg)), (8, .int y8_111)]) (st' := [.int y8_111, .ref (to + 2 + 2 * y5_31.toNatClampNeg + 1), .int y8_111, .ref (to + 2 + 2 * y5_31.toNatClampNeg + 1)]) [(133, .iload 8)] (by decide +kernel) rfl ?_
                  refine zr_iald (by decide +kernel) hAz2 (zin (by first | omega | decide) (by first | omega | decide)) ?_
                  obtain ⟨x135, ex135⟩ : ∃ x9, x9 = fz2 (y8_111.toNatClampNeg) := ⟨_, rfl⟩
                  rw [← ex135]
                  have kx135 := zrng x135
                  refine zp_seg (pc' := 139) (lv' := [(0, .ref to), (2, .int v), (3, .int n9), (4, .int y4_18), (5, .int y5_31), (6, .ref (to + 2 + 2 * y5_31.toNatClampNeg)), (7, .ref (to + 2 + 2 * v55.toNatClampNeg)), (8, .int y8_111)]) (st' := [.ref (to + 2 + 2 * v55.toNatClampNeg), .int v, .int x135, .int y8_111, .ref (to + 2 + 2 * y5_31.toNatClampNeg + 1)]) [(136, .iload_n 2), (137, .aload 7)] (by decide +kernel) rfl ?_
                  refine zr_get (idx := 30) (k := 0) (v := .ref (to + 2 + 2 * v55.toNatClampNeg + 1)) (by decide +kernel) (by decide +kernel) hb39 rfl ?_
                  refine zp_seg (pc' := 144) (lv' := [(0, .ref to), (2, .int v), (3, .int n9), (4, .int y4_18), (5, .int y5_31), (6, .ref (to + 2 + 2 * y5_31.toNatClampNeg)), (7, .ref (to + 2 + 2 * v55.toNatClampNeg)), (8, .int y8_111)]) (st' := [.int y8_111, .ref (to + 2 + 2 * v55.toNatClampNeg + 1), .int v, .int x135, .int y8_111, .ref (to + 2 + 2 * y5_31.toNatClampNeg + 1)]) [(142, .iload 8)] (by decide +kernel) rfl ?_
                  have hb45 : wL111 (to + 2 + 2 * v55.toNatClampNeg + 1) = some (.inr (0, 200, .inl f28)) := ((heqL111 (to + 2 + 2 * v55.toNatClampNeg + 1) (by omega)).trans ((heq105 (to + 2 + 2 * v55.toNatClampNeg + 1) (by omega)).trans (heqL65 (to + 2 + 2 * v55.toNatClampNeg + 1) (by omega)))).trans hu30
                  refine zr_iald (by decide +kernel) hb45 (zin (by first | omega | decide) (by first | omega | decide)) ?_
                  obtain ⟨x144, ex144⟩ : ∃ x9, x9 = f28 (y8_111.toNatClampNeg) := ⟨_, rfl⟩
                  rw [← ex144]
                  have kx144 := zrng x144
                  have hvx144 := hu33 (y8_111.toNatClampNeg) (by omega)
                  rw [← ex144] at hvx144
                  have hwx144 : 0 ≤ x144.toInt ∧ x144.toInt < 2147483647 := hvx144.1
                  refine zr_callS (idx := 56) (j := 257) (by decide +kernel) (by decide +kernel) (by decide) (show zMe 257 = some zq_X16_mul from rfl) rfl rfl (Nat.le_of_ble_eq_true rfl) rfl rfl (Nat.le_of_ble_eq_true rfl) (Nat.le_of_ble_eq_true rfl) (c_X16_mulP (w := wL111) v x144 (by first | omega | decide | assumption | exact zr1_1 | exact zr1_0 | fail "num") (by exact hvx144.1)) (by omega) (fun v145 w145 hp145 => ?_)
                  obtain ⟨hpw145, r145, rfl, hr145⟩ := hp145
                  replace hpw145 := hpw145.symm
                  subst hpw145
                  have kr145 := zrng r145
                  show zP _ _ _ _ [.int r145, .int x135, .int y8_111, .ref (to + 2 + 2 * y5_31.toNatClampNeg + 1)] _ _ _ _ _
                  refine zr_callS (idx := 49) (j := 255) (by decide +kernel) (by decide +kernel) (by decide) (show zMe 255 = some zq_X16_add from rfl) rfl rfl (Nat.le_of_ble_eq_true rfl) rfl rfl (Nat.le_of_ble_eq_true rfl) (Nat.le_of_ble_eq_true rfl) (c_X16_add (w := wL111) x135 r145 (by rw [ex135]; exact (hZ2 _ (by omega)).1) (by exact hr145.1)) (by omega) (fun v148 w148 hp148 => ?_)
                  obtain ⟨hpw148, r148, rfl, hr148⟩ := hp148
                  replace hpw148 := hpw148.symm
                  subst hpw148
                  have kr148 := zrng r148
                  show zP _ _ _ _ [.int r148, .int y8_111, .ref (to + 2 + 2 * y5_31.toNatClampNeg + 1)] _ _ _ _ _
                  refine zr_iast (by decide +kernel) hAz2 (zin (by first | omega | decide) (by first | omega | decide)) ?_
                  show zP (d + 1) zq_X16_shiftK 152 [(0, .ref to), (2, .int v), (3, .int n9), (4, .int y4_18), (5, .int y5_31), (6, .ref (to + 2 + 2 * y5_31.toNatClampNeg)), (7, .ref (to + 2 + 2 * v55.toNatClampNeg)), (8, .int y8_111)] [] (zup wL111 (to + 2 + 2 * y5_31.toNatClampNeg + 1) (.inr (0, 200, .inl (upd fz2 (y8_111.toNatClampNeg) r148)))) sz 0 0 Post
                  obtain ⟨w151, ew151⟩ : ∃ wz9, wz9 = zup wL111 (to + 2 + 2 * y5_31.toNatClampNeg + 1) (.inr (0, 200, .inl (upd fz2 (y8_111.toNatClampNeg) r148))) := ⟨_, rfl⟩
                  have hsi151 : zSI wL111 w151 := by rw [ew151]; exact zSI.arr _ hAz2
                  have heq151 : ∀ x, x ≠ to + 2 + 2 * y5_31.toNatClampNeg + 1 → w151 x = wL111 x := fun x hx => by rw [ew151]; exact zup_n hx
                  have hc151 : w151 (to + 2 + 2 * y5_31.toNatClampNeg + 1) = some (.inr (0, 200, .inl (upd fz2 (y8_111.toNatClampNeg) r148))) := by rw [ew151]; exact zup_s
                  rw [← ew151]
                  clear ew151
                  refine zp_seg (pc' := 155) (lv' := [(8, .int (y8_111 + 1)), (0, .ref to), (2, .int v), (3, .int n9), (4, .int y4_18), (5, .int y5_31), (6, .ref (to + 2 + 2 * y5_31.toNatClampNeg)), (7, .ref (to + 2 + 2 * v55.toNatClampNeg))]) (st' := []) [(152, .iinc 8 1)] (by decide +kernel) rfl ?_
                  have k46 := zaddC y8_111 1 (n := 1) (by decide) (by omega) (by omega)
                  generalize ev155 : (y8_111 + 1 : Int32) = v155 at k46 ⊢
                  have kv155 := zrng v155
                  refine zp_seg (pc' := 111) (lv' := [(8, .int v155), (0, .ref to), (2, .int v), (3, .int n9), (4, .int y4_18), (5, .int y5_31), (6, .ref (to + 2 + 2 * y5_31.toNatClampNeg)), (7, .ref (to + 2 + 2 * v55.toNatClampNeg))]) (st' := []) [(155, .goto (-44))] (by decide +kernel) rfl ?_
                  have hz47 : (v155.toNatClampNeg : Int) = v155.toInt := znat (by first | omega | decide)
                  exact (ih111 w151 v155 (upd fz2 y8_111.toNatClampNeg r148) (hsiL111.tr hsi151) (fun x hx => ((heq151 x (by omega)).trans (heqL111 x hx))) (by first | assumption | omega | decide) (by first | assumption | omega | decide) (by
                        exact hc151) (by
                        intro t ht
                        by_cases e : t = y8_111.toNatClampNeg
                        · rw [e, zupd_s, if_pos (by omega)]
                          have h9 := hZ2 y8_111.toNatClampNeg (by omega)
                          rw [if_neg (by omega)] at h9
                          refine ⟨hr148.1, ?_⟩
                          rw [hr148.2, hr145.2]
                          rw [ex135, h9.2, hvx144.2]
                        · rw [zupd_n _ _ e]
                          have h9 := hZ2 t ht
                          by_cases k : t < y8_111.toNatClampNeg
                          · rw [if_pos k] at h9; rw [if_pos (by omega)]; exact h9
                          · rw [if_neg k] at h9; rw [if_neg (by omega)]; exact h9) (by omega)).more (zfa1 rfl (zfa1 rfl (zfa1 rfl (zfa1 rfl (zfa1 rfl (zfa1 rfl (zfa1 rfl (zfa1 rfl (zfa0)))))))))
              have hl48 : (0 : Int32).toInt = 0 := by decide
              have hz49 : ((0 : Int32).toNatClampNeg : Int) = 0 := by decide
              have hb50 : w105 (to + 2 + 2 * y5_31.toNatClampNeg + 1) = some (.inr (0, 200, .inl fz)) := (heq105 (to + 2 + 2 * y5_31.toNatClampNeg + 1) (by omega)).trans hAz
              exact (hL111 _ w105 0 (fz) zSI.rf (fun _ _ => rfl) (by first | assumption | omega | decide) (by first | assumption | omega | decide) (by
                    exact hb50) (by
                    intro t ht
                    rw [if_neg (by omega)]
                    exact hZ t (by omega)) (Nat.lt_succ_self _)).more (zfa1 rfl (zfa1 rfl (zfa1 rfl (zfa1 rfl (zfa1 rfl (zfa1 rfl (zfa1 rfl (zfa1 rfl (zfa0)))))))))
            ·
              have f51 := znleI cc72
              refine zp_seg (pc' := 77) (lv' := [(0, .ref to), (2, .int v), (3, .int n9), (4, .int y4_18), (5, .int y5_31), (6, .ref (to + 2 + 2 * y5_31.toNatClampNeg)), (7, .ref (to + 2 + 2 * v55.toNatClampNeg)), (8, .int y8_65)]) (st' := [.ref (to + 2 + 2 * y5_31.toNatClampNeg)]) [(75, .aload 6)] (by decide +kernel) rfl ?_
              have hb52 : wL65 (to + 2 + 2 * y5_31.toNatClampNeg) = some (.inl (14, [.ref (to + 2 + 2 * y5_31.toNatClampNeg + 1), .int n19])) := (heqL65 (to + 2 + 2 * y5_31.toNatClampNeg) (by omega)).trans hu21
              refine zr_get (idx := 30) (k := 0) (v := .ref (to + 2 + 2 * y5_31.toNatClampNeg + 1)) (by decide +kernel) (by decide +kernel) hb52 rfl ?_
              refine zp_seg (pc' := 83) (lv' := [(0, .ref to), (2, .int v), (3, .int n9), (4, .int y4_18), (5, .int y5_31), (6, .ref (to + 2 + 2 * y5_31.toNatClampNeg)), (7, .ref (to + 2 + 2 * v55.toNatClampNeg)), (8, .int y8_65)]) (st' := [.int 0, .int y8_65, .ref (to + 2 + 2 * y5_31.toNatClampNeg + 1)]) [(80, .iload 8), (82, .iconst 0)] (by decide +kernel) rfl ?_
              refine zr_iast (by decide +kernel) hAz (zin (by first | omega | decide) (by first | omega | decide)) ?_
              show zP (d + 1) zq_X16_shiftK 84 [(0, .ref to), (2, .int v), (3, .int n9), (4, .int y4_18), (5, .int y5_31), (6, .ref (to + 2 + 2 * y5_31.toNatClampNeg)), (7, .ref (to + 2 + 2 * v55.toNatClampNeg)), (8, .int y8_65)] [] (zup wL65 (to + 2 + 2 * y5_31.toNatClampNeg + 1) (.inr (0, 200, .inl (upd fz (y8_65.toNatClampNeg) 0)))) sz 0 0 Post
              obtain ⟨w83, ew83⟩ : ∃ wz9, wz9 = zup wL65 (to + 2 + 2 * y5_31.toNatClampNeg + 1) (.inr (0, 200, .inl (upd fz (y8_65.toNatClampNeg) 0))) := ⟨_, rfl⟩
              have hsi83 : zSI wL65 w83 := by rw [ew83]; exact zSI.arr _ hAz
              have heq83 : ∀ x, x ≠ to + 2 + 2 * y5_31.toNatClampNeg + 1 → w83 x = wL65 x := fun x hx => by rw [ew83]; exact zup_n hx
              have hc83 : w83 (to + 2 + 2 * y5_31.toNatClampNeg + 1) = some (.inr (0, 200, .inl (upd fz (y8_65.toNatClampNeg) 0))) := by rw [ew83]; exact zup_s
              rw [← ew83]
              clear ew83
              refine zp_seg (pc' := 87) (lv' := [(8, .int (y8_65 + 1)), (0, .ref to), (2, .int v), (3, .int n9), (4, .int y4_18), (5, .int y5_31), (6, .ref (to + 2 + 2 * y5_31.toNatClampNeg)), (7, .ref (to + 2 + 2 * v55.toNatClampNeg))]) (st' := []) [(84, .iinc 8 1)] (by decide +kernel) rfl ?_
              have k53 := zaddC y8_65 1 (n := 1) (by decide) (by omega) (by omega)
              generalize ev87 : (y8_65 + 1 : Int32) = v87 at k53 ⊢
              have kv87 := zrng v87
              refine zp_seg (pc' := 65) (lv' := [(8, .int v87), (0, .ref to), (2, .int v), (3, .int n9), (4, .int y4_18), (5, .int y5_31), (6, .ref (to + 2 + 2 * y5_31.toNatClampNeg)), (7, .ref (to + 2 + 2 * v55.toNatClampNeg))]) (st' := []) [(87, .goto (-22))] (by decide +kernel) rfl ?_
              have hz54 : (v87.toNatClampNeg : Int) = v87.toInt := znat (by first | omega | decide)
              exact (ih65 w83 v87 (upd fz y8_65.toNatClampNeg 0) (hsiL65.tr hsi83) (fun x hx => ((heq83 x (by omega)).trans (heqL65 x hx))) (by first | assumption | omega | decide) (by first | assumption | omega | decide) (by
                    exact hc83) (by
                    intro t ht
                    by_cases e : t = y8_65.toNatClampNeg
                    · rw [e, zupd_s, zln_dg (T2 y5_31.toNatClampNeg) _ (by omega)]
                      exact ⟨zr1_0, zf_0⟩
                    · rw [zupd_n _ _ e]
                      exact hZ t (by omega)) (by omega)).more (zfa1 rfl (zfa1 rfl (zfa1 rfl (zfa1 rfl (zfa1 rfl (zfa1 rfl (zfa1 rfl (zfa1 rfl (zfa0)))))))))
          have hz55 : (n19.toNatClampNeg : Int) = n19.toInt := znat (by first | omega | decide)
          exact (hL65 _ wL31 n19 (f20) zSI.rf (fun _ _ => rfl) (by first | assumption | omega | decide) (by first | assumption | omega | decide) (by
                exact hu22) (by
                exact fun t ht => hu25 t (by omega)) (Nat.lt_succ_self _)).more (zfa1 rfl (zfa1 rfl (zfa1 rfl (zfa1 rfl (zfa1 rfl (zfa1 rfl (zfa1 rfl (zfa1 rfl (zfa0)))))))))
      exact (hL31 _ wL18 v29 (T) zSI.rf (fun _ _ => rfl) (by first | assumption | omega | decide) (by first | assumption | omega | decide) (by
            exact hT) (by
            exact ⟨fun _ _ => rfl, fun j h1 h2 => absurd h1 (by omega), rfl⟩) (Nat.lt_succ_self _)).more (zfa1 rfl (zfa1 rfl (zfa1 rfl (zfa1 rfl (zfa1 rfl (zfa0))))))
  have hl56 : (0 : Int32).toInt = 0 := by decide
  have hz57 : ((0 : Int32).toNatClampNeg : Int) = 0 := by decide
  exact (hL18 _ w7 0 (q.1) zSI.rf (fun _ _ => rfl) (by first | assumption | omega | decide) (by first | assumption | omega | decide) (by
        exact hQ95) (by
        exact zshI_0 _ _ (Nat.le_refl _)) (by
        exact rfl) (Nat.lt_succ_self _)).more (zfa1 rfl (zfa1 rfl (zfa1 rfl (zfa1 rfl (zfa0)))))
