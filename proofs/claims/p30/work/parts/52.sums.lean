set_option maxHeartbeats 8000000 in
set_option maxRecDepth 100000 in
theorem c_X16_plusA {w : zM} {cap ca cb : Nat} {p q : zA1} (to : Nat) (a : Nat) (b : Nat) (hUo_to : zUo w to cap) (hU_a : zU w a ca p) (hU_b : zU w b cb q) (hpc : zln p ≤ cap) (hqc : zln q ≤ cap) : zCon 2 zq_X16_plus [.ref to, .ref a, .ref b, .int 0] w (fun v9 w9' => zSI w w9' ∧ (∀ x, (x < to ∨ to + 2 ≤ x) → w9' x = w x) ∧ zU w9' to cap (zaA p q) ∧ v9 = none) := by
  intro d sz hd
  obtain ⟨d, rfl⟩ : ∃ d9, d = d9 + 1 := ⟨d - 1, by omega⟩
  generalize hPost : (fun (r9' : Option (Option Value)) (w9' : zM) (z9 : Nat) => z9 = sz ∧ ∃ v9, r9' = some v9 ∧ (zSI w w9' ∧ (∀ x, (x < to ∨ to + 2 ≤ x) → w9' x = w x) ∧ zU w9' to cap (zaA p q) ∧ v9 = none)) = Post
  show zP (d + 1) zq_X16_plus 0 [(0, .ref to), (1, .ref a), (2, .ref b), (3, .int 0)] [] w sz 0 0 Post
  have hn1 := hUo_to.ne hU_a.o
  have hn2 := hUo_to.ne hU_b.o
  have hn3 := hU_a.o.ne hUo_to
  have hn4 := hU_b.o.ne hUo_to
  have hn5 := hU_a.o.ne hU_b.o
  have hn6 := hU_b.o.ne hU_a.o
  obtain ⟨na, fa, ha1, ha2, ha3, ha4, ha5⟩ := id hU_a
  have kna := zrng na
  have k2 := zrng na
  have hz3 : (na.toNatClampNeg : Int) = na.toInt := znat (by first | omega | decide)
  obtain ⟨nb, fb, hb1, hb2, hb3, hb4, hb5⟩ := id hU_b
  have knb := zrng nb
  have k4 := zrng nb
  have hz5 : (nb.toNatClampNeg : Int) = nb.toInt := znat (by first | omega | decide)
  obtain ⟨nto, fto, hto1, hto2⟩ := id hUo_to
  refine zp_seg (pc' := 1) (lv' := [(0, .ref to), (1, .ref a), (2, .ref b), (3, .int 0)]) (st' := [.ref a]) [(0, .aload_n 1)] (by decide +kernel) rfl ?_
  refine zr_get (idx := 25) (k := 1) (v := .int na) (by decide +kernel) (by decide +kernel) ha1 rfl ?_
  refine zp_seg (pc' := 5) (lv' := [(0, .ref to), (1, .ref a), (2, .ref b), (3, .int 0)]) (st' := [.ref b, .int na]) [(4, .aload_n 2)] (by decide +kernel) rfl ?_
  refine zr_get (idx := 25) (k := 1) (v := .int nb) (by decide +kernel) (by decide +kernel) hb1 rfl ?_
  refine zr_max (idx := 40) (by decide +kernel) (by decide +kernel) (by omega) (Nat.le_of_ble_eq_true rfl) ?_
  obtain ⟨m6, em6, hm6⟩ := zmaxI na nb
  rw [← em6]
  have km6 := zrng m6
  refine zp_seg (pc' := 16) (lv' := [(5, .int 0), (4, .int m6), (0, .ref to), (1, .ref a), (2, .ref b), (3, .int 0)]) (st' := []) [(11, .istore 4), (13, .iconst 0), (14, .istore 5)] (by decide +kernel) rfl ?_
  have hL16 : ∀ (mm16 : Nat) (wL16 : zM) (y5_16 : Int32), (zSI w wL16) → (∀ x, (x < to + 1 ∨ to + 1 + 1 ≤ x) → wL16 x = w x) → (0 ≤ y5_16.toInt) → (y5_16.toInt ≤ m6.toInt) → (∃ gt, wL16 (to + 1) = some (.inr (0, cap, .inl gt)) ∧ ∀ t, t < y5_16.toNatClampNeg → zr1 (gt t) ∧ zf (gt t) = (zaA p q).1 t) → (∃ ga, wL16 (a + 1) = some (.inr (0, ca, .inl ga)) ∧ ∀ t, y5_16.toNatClampNeg ≤ t → t < zln p → zr1 (ga t) ∧ zf (ga t) = p.1 t) → (∃ gb, wL16 (b + 1) = some (.inr (0, cb, .inl gb)) ∧ ∀ t, y5_16.toNatClampNeg ≤ t → t < zln q → zr1 (gb t) ∧ zf (gb t) = q.1 t) → (2147483647 - y5_16.toInt).toNat < mm16 → zP (d + 1) zq_X16_plus 16 [(0, .ref to), (1, .ref a), (2, .ref b), (3, .int 0), (4, .int m6), (5, .int y5_16)] [] wL16 sz 0 0 Post := by
    intro mm16
    induction mm16 with
    | zero => intros; omega
    | succ mm16 ih16 =>
    intro wL16 y5_16 hsiL16 heqL16 hi16_0 hi16_1 hT hA hB hmu16
    have ky5_16 := zrng y5_16
    refine zp_seg (pc' := 20) (lv' := [(0, .ref to), (1, .ref a), (2, .ref b), (3, .int 0), (4, .int m6), (5, .int y5_16)]) (st' := [.int m6, .int y5_16]) [(16, .iload 5), (18, .iload 4)] (by decide +kernel) rfl ?_
    refine zp_if (i := .if_icmp .ge 81) (c := m6 ≤ y5_16) (t := 101) (e := 23) (lv' := [(0, .ref to), (1, .ref a), (2, .ref b), (3, .int 0), (4, .int m6), (5, .int y5_16)]) (st' := []) (by decide +kernel) rfl (fun cc20 => ?_) (fun cc20 => ?_)
    ·
      have f7 := zleI cc20
      obtain ⟨gt, hgt, hgtv⟩ := id hT
      have hz8 : (m6.toNatClampNeg : Int) = m6.toInt := znat (by first | omega | decide)
      have hz9 : (y5_16.toNatClampNeg : Int) = y5_16.toInt := znat (by first | omega | decide)
      refine zp_seg (pc' := 104) (lv' := [(0, .ref to), (1, .ref a), (2, .ref b), (3, .int 0), (4, .int m6), (5, .int y5_16)]) (st' := [.int m6, .ref to]) [(101, .aload_n 0), (102, .iload 4)] (by decide +kernel) rfl ?_
      have hb10 : wL16 to = some (.inl (14, [.ref (to + 1), .int nto])) := (heqL16 to (by omega)).trans hto1
      refine zr_put2 (idx := 25) (k := 1) (fs2 := [.ref (to + 1), .int m6]) (by decide +kernel) (by decide +kernel) hb10 (Nat.le_of_ble_eq_true rfl) rfl rfl rfl ?_
      show zP (d + 1) zq_X16_plus 107 [(0, .ref to), (1, .ref a), (2, .ref b), (3, .int 0), (4, .int m6), (5, .int y5_16)] [] (zup wL16 to (.inl (14, [.ref (to + 1), .int m6]))) sz 0 0 Post
      obtain ⟨w104, ew104⟩ : ∃ wz9, wz9 = zup wL16 to (.inl (14, [.ref (to + 1), .int m6])) := ⟨_, rfl⟩
      have hsi104 : zSI wL16 w104 := by rw [ew104]; exact zSI.setU hb10
      have heq104 : ∀ x, x ≠ to → w104 x = wL16 x := fun x hx => by rw [ew104]; exact zup_n hx
      have hc104 : w104 to = some (.inl (14, [.ref (to + 1), .int m6])) := by rw [ew104]; exact zup_s
      rw [← ew104]
      clear ew104
      have hb11 : w104 (to + 1) = some (.inr (0, cap, .inl gt)) := (heq104 (to + 1) (by omega)).trans hgt
      have hUn7 : zUw w104 to cap m6.toNatClampNeg (zaA p q) := ⟨_, gt, hc104, hb11, by omega, by omega, fun t ht => hgtv t (by omega), zDg_add (zDg_mono (zln_dg p) (by omega)) (zDg_mono (zln_dg q) (by omega))⟩
      refine zp_seg (pc' := 108) (lv' := [(0, .ref to), (1, .ref a), (2, .ref b), (3, .int 0), (4, .int m6), (5, .int y5_16)]) (st' := [.ref to]) [(107, .aload_n 0)] (by decide +kernel) rfl ?_
      refine zr_callV (idx := 52) (j := 251) (by decide +kernel) (by decide +kernel) (show zMe 251 = some zq_X15_trim from rfl) rfl rfl (Nat.le_of_ble_eq_true rfl) rfl rfl hc104 (Nat.le_of_ble_eq_true rfl) (Nat.le_of_ble_eq_true rfl) (c_X15_trim (w := w104) to hUn7) (by omega) (fun v108 w108 hp108 => ?_)
      obtain ⟨hsi108, heq108, hp108_0, rfl⟩ := hp108
      show zP _ _ _ _ [] _ _ _ _ _
      have hoffend : ∀ x, (x < to ∨ to + 2 ≤ x) → w108 x = w x := fun x hx => ((heq108 x (by omega)).trans ((heq104 x (by omega)).trans (heqL16 x (by omega))))
      refine zr_retV (by decide +kernel) rfl ?_
      rw [← hPost]; exact ⟨rfl, _, rfl, ((hsiL16.tr hsi104).tr hsi108), hoffend, (by first | exact hp108_0 | (have z9 := hp108_0; simpa using z9)), rfl⟩
    ·
      have f12 := znleI cc20
      obtain ⟨gt, hgt, hgtv⟩ := id hT
      obtain ⟨ga, hga, hgav⟩ := id hA
      obtain ⟨gb, hgb, hgbv⟩ := id hB
      have hz13 : (y5_16.toNatClampNeg : Int) = y5_16.toInt := znat (by first | omega | decide)
      refine zp_seg (pc' := 26) (lv' := [(0, .ref to), (1, .ref a), (2, .ref b), (3, .int 0), (4, .int m6), (5, .int y5_16)]) (st' := [.ref a, .int y5_16]) [(23, .iload 5), (25, .aload_n 1)] (by decide +kernel) rfl ?_
      have hb14 : wL16 a = some (.inl (14, [.ref (a + 1), .int na])) := (heqL16 a (by omega)).trans ha1
      refine zr_get (idx := 25) (k := 1) (v := .int na) (by decide +kernel) (by decide +kernel) hb14 rfl ?_
      refine zp_if (i := .if_icmp .ge 13) (c := na ≤ y5_16) (t := 42) (e := 32) (lv' := [(0, .ref to), (1, .ref a), (2, .ref b), (3, .int 0), (4, .int m6), (5, .int y5_16)]) (st' := []) (by decide +kernel) rfl (fun cc29 => ?_) (fun cc29 => ?_)
      ·
        have f15 := zleI cc29
        refine zp_seg (pc' := 48) (lv' := [(6, .int 0), (0, .ref to), (1, .ref a), (2, .ref b), (3, .int 0), (4, .int m6), (5, .int y5_16)]) (st' := [.ref b, .int y5_16]) [(42, .iconst 0), (43, .istore 6), (45, .iload 5), (47, .aload_n 2)] (by decide +kernel) rfl ?_
        have hb16 : wL16 b = some (.inl (14, [.ref (b + 1), .int nb])) := (heqL16 b (by omega)).trans hb1
        refine zr_get (idx := 25) (k := 1) (v := .int nb) (by decide +kernel) (by decide +kernel) hb16 rfl ?_
        refine zp_if (i := .if_icmp .ge 13) (c := nb ≤ y5_16) (t := 64) (e := 54) (lv' := [(6, .int 0), (0, .ref to), (1, .ref a), (2, .ref b), (3, .int 0), (4, .int m6), (5, .int y5_16)]) (st' := []) (by decide +kernel) rfl (fun cc51 => ?_) (fun cc51 => ?_)
        ·
          have f17 := zleI cc51
          refine zp_seg (pc' := 67) (lv' := [(7, .int 0), (6, .int 0), (0, .ref to), (1, .ref a), (2, .ref b), (3, .int 0), (4, .int m6), (5, .int y5_16)]) (st' := []) [(64, .iconst 0), (65, .istore 7)] (by decide +kernel) rfl ?_
          have hx6r : zr1 0 := by first | exact hvx38.1 | exact zr1_0
          have hx6 : zf 0 = p.1 y5_16.toNatClampNeg := by first | exact hvx38.2 | exact (zf_0.trans (zln_dg p _ (by omega)).symm)
          have hx7r : zr1 0 := by first | exact hvx60.1 | exact zr1_0
          have hx7 : zf 0 = q.1 y5_16.toNatClampNeg := by first | exact hvx60.2 | exact (zf_0.trans (zln_dg q _ (by omega)).symm)
          refine zp_seg (pc' := 68) (lv' := [(7, .int 0), (6, .int 0), (0, .ref to), (1, .ref a), (2, .ref b), (3, .int 0), (4, .int m6), (5, .int y5_16)]) (st' := [.ref to]) [(67, .aload_n 0)] (by decide +kernel) rfl ?_
          have hb18 : wL16 to = some (.inl (14, [.ref (to + 1), .int nto])) := (heqL16 to (by omega)).trans hto1
          refine zr_get (idx := 30) (k := 0) (v := .ref (to + 1)) (by decide +kernel) (by decide +kernel) hb18 rfl ?_
          refine zp_seg (pc' := 74) (lv' := [(7, .int 0), (6, .int 0), (0, .ref to), (1, .ref a), (2, .ref b), (3, .int 0), (4, .int m6), (5, .int y5_16)]) (st' := [.int 0, .int y5_16, .ref (to + 1)]) [(71, .iload 5), (73, .iload_n 3)] (by decide +kernel) rfl ?_
          refine zp_pure (pc' := 87) (lv' := [(7, .int 0), (6, .int 0), (0, .ref to), (1, .ref a), (2, .ref b), (3, .int 0), (4, .int m6), (5, .int y5_16)]) (st' := [.int y5_16, .ref (to + 1)]) (i := .ifCond .eq 13) (by decide +kernel) rfl ?_
          refine zp_seg (pc' := 91) (lv' := [(7, .int 0), (6, .int 0), (0, .ref to), (1, .ref a), (2, .ref b), (3, .int 0), (4, .int m6), (5, .int y5_16)]) (st' := [.int 0, .int 0, .int y5_16, .ref (to + 1)]) [(87, .iload 6), (89, .iload 7)] (by decide +kernel) rfl ?_
          refine zr_callS (idx := 49) (j := 255) (by decide +kernel) (by decide +kernel) (by decide) (show zMe 255 = some zq_X16_add from rfl) rfl rfl (Nat.le_of_ble_eq_true rfl) rfl rfl (Nat.le_of_ble_eq_true rfl) (Nat.le_of_ble_eq_true rfl) (c_X16_add (w := wL16) 0 0 (by exact hx6r) (by exact hx7r)) (by omega) (fun v91 w91 hp91 => ?_)
          obtain ⟨hpw91, r91, rfl, hr91⟩ := hp91
          replace hpw91 := hpw91.symm
          subst hpw91
          have kr91 := zrng r91
          show zP _ _ _ _ [.int r91, .int y5_16, .ref (to + 1)] _ _ _ _ _
          refine zr_iast (by decide +kernel) hgt (zin (by first | omega | decide) (by first | omega | decide)) ?_
          show zP (d + 1) zq_X16_plus 95 [(7, .int 0), (6, .int 0), (0, .ref to), (1, .ref a), (2, .ref b), (3, .int 0), (4, .int m6), (5, .int y5_16)] [] (zup wL16 (to + 1) (.inr (0, cap, .inl (upd gt (y5_16.toNatClampNeg) r91)))) sz 0 0 Post
          obtain ⟨w94, ew94⟩ : ∃ wz9, wz9 = zup wL16 (to + 1) (.inr (0, cap, .inl (upd gt (y5_16.toNatClampNeg) r91))) := ⟨_, rfl⟩
          have hsi94 : zSI wL16 w94 := by rw [ew94]; exact zSI.arr _ hgt
          have heq94 : ∀ x, x ≠ to + 1 → w94 x = wL16 x := fun x hx => by rw [ew94]; exact zup_n hx
          have hc94 : w94 (to + 1) = some (.inr (0, cap, .inl (upd gt (y5_16.toNatClampNeg) r91))) := by rw [ew94]; exact zup_s
          rw [← ew94]
          clear ew94
          refine zp_seg (pc' := 98) (lv' := [(5, .int (y5_16 + 1)), (7, .int 0), (6, .int 0), (0, .ref to), (1, .ref a), (2, .ref b), (3, .int 0), (4, .int m6)]) (st' := []) [(95, .iinc 5 1)] (by decide +kernel) rfl ?_
          have k19 := zaddC y5_16 1 (n := 1) (by decide) (by omega) (by omega)
          generalize ev98 : (y5_16 + 1 : Int32) = v98 at k19 ⊢
          have kv98 := zrng v98
          refine zp_seg (pc' := 16) (lv' := [(5, .int v98), (7, .int 0), (6, .int 0), (0, .ref to), (1, .ref a), (2, .ref b), (3, .int 0), (4, .int m6)]) (st' := []) [(98, .goto (-82))] (by decide +kernel) rfl ?_
          have hz20 : (v98.toNatClampNeg : Int) = v98.toInt := znat (by first | omega | decide)
          exact (ih16 w94 v98 (hsiL16.tr hsi94) (fun x hx => ((heq94 x (by omega)).trans (heqL16 x (by omega)))) (by first | assumption | omega | decide) (by first | assumption | omega | decide) (by
                refine ⟨_, hc94, fun t ht => ?_⟩
                by_cases e : t = y5_16.toNatClampNeg
                · subst e
                  rw [zupd_s]
                  refine ⟨hr91.1, ?_⟩
                  rw [hr91.2, zaA_c, ← hx6, ← hx7]
                · rw [zupd_n _ _ e]
                  exact hgtv t (by omega)) (by
                by_cases ea : a = to
                · have e9 := hgt.symm.trans (ea ▸ hga)
                  cases e9
                  exact ⟨_, ea ▸ hc94, fun t h1 h2 => by rw [zupd_n _ _ (by omega)]; exact hgav t (by omega) h2⟩
                · exact ⟨ga, (heq94 (a + 1) (by omega)).trans hga, fun t h1 h2 => hgav t (by omega) h2⟩) (by
                by_cases ea : b = to
                · have e9 := hgt.symm.trans (ea ▸ hgb)
                  cases e9
                  exact ⟨_, ea ▸ hc94, fun t h1 h2 => by rw [zupd_n _ _ (by omega)]; exact hgbv t (by omega) h2⟩
                · exact ⟨gb, (heq94 (b + 1) (by omega)).trans hgb, fun t h1 h2 => hgbv t (by omega) h2⟩) (by omega)).more (zfa1 rfl (zfa1 rfl (zfa1 rfl (zfa1 rfl (zfa1 rfl (zfa1 rfl (zfa0)))))))
        ·
          have f21 := znleI cc51
          refine zp_seg (pc' := 55) (lv' := [(6, .int 0), (0, .ref to), (1, .ref a), (2, .ref b), (3, .int 0), (4, .int m6), (5, .int y5_16)]) (st' := [.ref b]) [(54, .aload_n 2)] (by decide +kernel) rfl ?_
          refine zr_get (idx := 30) (k := 0) (v := .ref (b + 1)) (by decide +kernel) (by decide +kernel) hb16 rfl ?_
          refine zp_seg (pc' := 60) (lv' := [(6, .int 0), (0, .ref to), (1, .ref a), (2, .ref b), (3, .int 0), (4, .int m6), (5, .int y5_16)]) (st' := [.int y5_16, .ref (b + 1)]) [(58, .iload 5)] (by decide +kernel) rfl ?_
          refine zr_iald (by decide +kernel) hgb (zin (by first | omega | decide) (by first | omega | decide)) ?_
          obtain ⟨x60, ex60⟩ : ∃ x9, x9 = gb (y5_16.toNatClampNeg) := ⟨_, rfl⟩
          rw [← ex60]
          have kx60 := zrng x60
          have hvx60 := (fun t (h9 : y5_16.toNatClampNeg ≤ t ∧ t < zln q) => hgbv t h9.1 h9.2) (y5_16.toNatClampNeg) (by omega)
          rw [← ex60] at hvx60
          have hwx60 : 0 ≤ x60.toInt ∧ x60.toInt < 2147483647 := hvx60.1
          refine zp_seg (pc' := 67) (lv' := [(7, .int x60), (6, .int 0), (0, .ref to), (1, .ref a), (2, .ref b), (3, .int 0), (4, .int m6), (5, .int y5_16)]) (st' := []) [(61, .goto 4), (65, .istore 7)] (by decide +kernel) rfl ?_
          have hx6r : zr1 0 := by first | exact hvx38.1 | exact zr1_0
          have hx6 : zf 0 = p.1 y5_16.toNatClampNeg := by first | exact hvx38.2 | exact (zf_0.trans (zln_dg p _ (by omega)).symm)
          have hx7r : zr1 x60 := by first | exact hvx60.1 | exact zr1_0
          have hx7 : zf x60 = q.1 y5_16.toNatClampNeg := by first | exact hvx60.2 | exact (zf_0.trans (zln_dg q _ (by omega)).symm)
          refine zp_seg (pc' := 68) (lv' := [(7, .int x60), (6, .int 0), (0, .ref to), (1, .ref a), (2, .ref b), (3, .int 0), (4, .int m6), (5, .int y5_16)]) (st' := [.ref to]) [(67, .aload_n 0)] (by decide +kernel) rfl ?_
          have hb22 : wL16 to = some (.inl (14, [.ref (to + 1), .int nto])) := (heqL16 to (by omega)).trans hto1
          refine zr_get (idx := 30) (k := 0) (v := .ref (to + 1)) (by decide +kernel) (by decide +kernel) hb22 rfl ?_
          refine zp_seg (pc' := 74) (lv' := [(7, .int x60), (6, .int 0), (0, .ref to), (1, .ref a), (2, .ref b), (3, .int 0), (4, .int m6), (5, .int y5_16)]) (st' := [.int 0, .int y5_16, .ref (to + 1)]) [(71, .iload 5), (73, .iload_n 3)] (by decide +kernel) rfl ?_
          refine zp_pure (pc' := 87) (lv' := [(7, .int x60), (6, .int 0), (0, .ref to), (1, .ref a), (2, .ref b), (3, .int 0), (4, .int m6), (5, .int y5_16)]) (st' := [.int y5_16, .ref (to + 1)]) (i := .ifCond .eq 13) (by decide +kernel) rfl ?_
          refine zp_seg (pc' := 91) (lv' := [(7, .int x60), (6, .int 0), (0, .ref to), (1, .ref a), (2, .ref b), (3, .int 0), (4, .int m6), (5, .int y5_16)]) (st' := [.int x60, .int 0, .int y5_16, .ref (to + 1)]) [(87, .iload 6), (89, .iload 7)] (by decide +kernel) rfl ?_
          refine zr_callS (idx := 49) (j := 255) (by decide +kernel) (by decide +kernel) (by decide) (show zMe 255 = some zq_X16_add from rfl) rfl rfl (Nat.le_of_ble_eq_true rfl) rfl rfl (Nat.le_of_ble_eq_true rfl) (Nat.le_of_ble_eq_true rfl) (c_X16_add (w := wL16) 0 x60 (by exact hx6r) (by exact hx7r)) (by omega) (fun v91 w91 hp91 => ?_)
          obtain ⟨hpw91, r91, rfl, hr91⟩ := hp91
          replace hpw91 := hpw91.symm
          subst hpw91
          have kr91 := zrng r91
          show zP _ _ _ _ [.int r91, .int y5_16, .ref (to + 1)] _ _ _ _ _
          refine zr_iast (by decide +kernel) hgt (zin (by first | omega | decide) (by first | omega | decide)) ?_
          show zP (d + 1) zq_X16_plus 95 [(7, .int x60), (6, .int 0), (0, .ref to), (1, .ref a), (2, .ref b), (3, .int 0), (4, .int m6), (5, .int y5_16)] [] (zup wL16 (to + 1) (.inr (0, cap, .inl (upd gt (y5_16.toNatClampNeg) r91)))) sz 0 0 Post
          obtain ⟨w94, ew94⟩ : ∃ wz9, wz9 = zup wL16 (to + 1) (.inr (0, cap, .inl (upd gt (y5_16.toNatClampNeg) r91))) := ⟨_, rfl⟩
          have hsi94 : zSI wL16 w94 := by rw [ew94]; exact zSI.arr _ hgt
          have heq94 : ∀ x, x ≠ to + 1 → w94 x = wL16 x := fun x hx => by rw [ew94]; exact zup_n hx
          have hc94 : w94 (to + 1) = some (.inr (0, cap, .inl (upd gt (y5_16.toNatClampNeg) r91))) := by rw [ew94]; exact zup_s
          rw [← ew94]
          clear ew94
          refine zp_seg (pc' := 98) (lv' := [(5, .int (y5_16 + 1)), (7, .int x60), (6, .int 0), (0, .ref to), (1, .ref a), (2, .ref b), (3, .int 0), (4, .int m6)]) (st' := []) [(95, .iinc 5 1)] (by decide +kernel) rfl ?_
          have k23 := zaddC y5_16 1 (n := 1) (by decide) (by omega) (by omega)
          generalize ev98 : (y5_16 + 1 : Int32) = v98 at k23 ⊢
          have kv98 := zrng v98
          refine zp_seg (pc' := 16) (lv' := [(5, .int v98), (7, .int x60), (6, .int 0), (0, .ref to), (1, .ref a), (2, .ref b), (3, .int 0), (4, .int m6)]) (st' := []) [(98, .goto (-82))] (by decide +kernel) rfl ?_
          have hz24 : (v98.toNatClampNeg : Int) = v98.toInt := znat (by first | omega | decide)
          exact (ih16 w94 v98 (hsiL16.tr hsi94) (fun x hx => ((heq94 x (by omega)).trans (heqL16 x (by omega)))) (by first | assumption | omega | decide) (by first | assumption | omega | decide) (by
                refine ⟨_, hc94, fun t ht => ?_⟩
                by_cases e : t = y5_16.toNatClampNeg
                · subst e
                  rw [zupd_s]
                  refine ⟨hr91.1, ?_⟩
                  rw [hr91.2, zaA_c, ← hx6, ← hx7]
                · rw [zupd_n _ _ e]
                  exact hgtv t (by omega)) (by
                by_cases ea : a = to
                · have e9 := hgt.symm.trans (ea ▸ hga)
                  cases e9
                  exact ⟨_, ea ▸ hc94, fun t h1 h2 => by rw [zupd_n _ _ (by omega)]; exact hgav t (by omega) h2⟩
                · exact ⟨ga, (heq94 (a + 1) (by omega)).trans hga, fun t h1 h2 => hgav t (by omega) h2⟩) (by
                by_cases ea : b = to
                · have e9 := hgt.symm.trans (ea ▸ hgb)
                  cases e9
                  exact ⟨_, ea ▸ hc94, fun t h1 h2 => by rw [zupd_n _ _ (by omega)]; exact hgbv t (by omega) h2⟩
                · exact ⟨gb, (heq94 (b + 1) (by omega)).trans hgb, fun t h1 h2 => hgbv t (by omega) h2⟩) (by omega)).more (zfa1 rfl (zfa1 rfl (zfa1 rfl (zfa1 rfl (zfa1 rfl (zfa1 rfl (zfa0)))))))
      ·
        have f25 := znleI cc29
        refine zp_seg (pc' := 33) (lv' := [(0, .ref to), (1, .ref a), (2, .ref b), (3, .int 0), (4, .int m6), (5, .int y5_16)]) (st' := [.ref a]) [(32, .aload_n 1)] (by decide +kernel) rfl ?_
        refine zr_get (idx := 30) (k := 0) (v := .ref (a + 1)) (by decide +kernel) (by decide +kernel) hb14 rfl ?_
        refine zp_seg (pc' := 38) (lv' := [(0, .ref to), (1, .ref a), (2, .ref b), (3, .int 0), (4, .int m6), (5, .int y5_16)]) (st' := [.int y5_16, .ref (a + 1)]) [(36, .iload 5)] (by decide +kernel) rfl ?_
        refine zr_iald (by decide +kernel) hga (zin (by first | omega | decide) (by first | omega | decide)) ?_
        obtain ⟨x38, ex38⟩ : ∃ x9, x9 = ga (y5_16.toNatClampNeg) := ⟨_, rfl⟩
        rw [← ex38]
        have kx38 := zrng x38
        have hvx38 := (fun t (h9 : y5_16.toNatClampNeg ≤ t ∧ t < zln p) => hgav t h9.1 h9.2) (y5_16.toNatClampNeg) (by omega)
        rw [← ex38] at hvx38
        have hwx38 : 0 ≤ x38.toInt ∧ x38.toInt < 2147483647 := hvx38.1
        refine zp_seg (pc' := 48) (lv' := [(6, .int x38), (0, .ref to), (1, .ref a), (2, .ref b), (3, .int 0), (4, .int m6), (5, .int y5_16)]) (st' := [.ref b, .int y5_16]) [(39, .goto 4), (43, .istore 6), (45, .iload 5), (47, .aload_n 2)] (by decide +kernel) rfl ?_
        have hb26 : wL16 b = some (.inl (14, [.ref (b + 1), .int nb])) := (heqL16 b (by omega)).trans hb1
        refine zr_get (idx := 25) (k := 1) (v := .int nb) (by decide +kernel) (by decide +kernel) hb26 rfl ?_
        refine zp_if (i := .if_icmp .ge 13) (c := nb ≤ y5_16) (t := 64) (e := 54) (lv' := [(6, .int x38), (0, .ref to), (1, .ref a), (2, .ref b), (3, .int 0), (4, .int m6), (5, .int y5_16)]) (st' := []) (by decide +kernel) rfl (fun cc51 => ?_) (fun cc51 => ?_)
        ·
          have f27 := zleI cc51
          refine zp_seg (pc' := 67) (lv' := [(7, .int 0), (6, .int x38), (0, .ref to), (1, .ref a), (2, .ref b), (3, .int 0), (4, .int m6), (5, .int y5_16)]) (st' := []) [(64, .iconst 0), (65, .istore 7)] (by decide +kernel) rfl ?_
          have hx6r : zr1 x38 := by first | exact hvx38.1 | exact zr1_0
          have hx6 : zf x38 = p.1 y5_16.toNatClampNeg := by first | exact hvx38.2 | exact (zf_0.trans (zln_dg p _ (by omega)).symm)
          have hx7r : zr1 0 := by first | exact hvx60.1 | exact zr1_0
          have hx7 : zf 0 = q.1 y5_16.toNatClampNeg := by first | exact hvx60.2 | exact (zf_0.trans (zln_dg q _ (by omega)).symm)
          refine zp_seg (pc' := 68) (lv' := [(7, .int 0), (6, .int x38), (0, .ref to), (1, .ref a), (2, .ref b), (3, .int 0), (4, .int m6), (5, .int y5_16)]) (st' := [.ref to]) [(67, .aload_n 0)] (by decide +kernel) rfl ?_
          have hb28 : wL16 to = some (.inl (14, [.ref (to + 1), .int nto])) := (heqL16 to (by omega)).trans hto1
          refine zr_get (idx := 30) (k := 0) (v := .ref (to + 1)) (by decide +kernel) (by decide +kernel) hb28 rfl ?_
          refine zp_seg (pc' := 74) (lv' := [(7, .int 0), (6, .int x38), (0, .ref to), (1, .ref a), (2, .ref b), (3, .int 0), (4, .int m6), (5, .int y5_16)]) (st' := [.int 0, .int y5_16, .ref (to + 1)]) [(71, .iload 5), (73, .iload_n 3)] (by decide +kernel) rfl ?_
          refine zp_pure (pc' := 87) (lv' := [(7, .int 0), (6, .int x38), (0, .ref to), (1, .ref a), (2, .ref b), (3, .int 0), (4, .int m6), (5, .int y5_16)]) (st' := [.int y5_16, .ref (to + 1)]) (i := .ifCond .eq 13) (by decide +kernel) rfl ?_
          refine zp_seg (pc' := 91) (lv' := [(7, .int 0), (6, .int x38), (0, .ref to), (1, .ref a), (2, .ref b), (3, .int 0), (4, .int m6), (5, .int y5_16)]) (st' := [.int 0, .int x38, .int y5_16, .ref (to + 1)]) [(87, .iload 6), (89, .iload 7)] (by decide +kernel) rfl ?_
          refine zr_callS (idx := 49) (j := 255) (by decide +kernel) (by decide +kernel) (by decide) (show zMe 255 = some zq_X16_add from rfl) rfl rfl (Nat.le_of_ble_eq_true rfl) rfl rfl (Nat.le_of_ble_eq_true rfl) (Nat.le_of_ble_eq_true rfl) (c_X16_add (w := wL16) x38 0 (by exact hx6r) (by exact hx7r)) (by omega) (fun v91 w91 hp91 => ?_)
          obtain ⟨hpw91, r91, rfl, hr91⟩ := hp91
          replace hpw91 := hpw91.symm
          subst hpw91
          have kr91 := zrng r91
          show zP _ _ _ _ [.int r91, .int y5_16, .ref (to + 1)] _ _ _ _ _
          refine zr_iast (by decide +kernel) hgt (zin (by first | omega | decide) (by first | omega | decide)) ?_
          show zP (d + 1) zq_X16_plus 95 [(7, .int 0), (6, .int x38), (0, .ref to), (1, .ref a), (2, .ref b), (3, .int 0), (4, .int m6), (5, .int y5_16)] [] (zup wL16 (to + 1) (.inr (0, cap, .inl (upd gt (y5_16.toNatClampNeg) r91)))) sz 0 0 Post
          obtain ⟨w94, ew94⟩ : ∃ wz9, wz9 = zup wL16 (to + 1) (.inr (0, cap, .inl (upd gt (y5_16.toNatClampNeg) r91))) := ⟨_, rfl⟩
          have hsi94 : zSI wL16 w94 := by rw [ew94]; exact zSI.arr _ hgt
          have heq94 : ∀ x, x ≠ to + 1 → w94 x = wL16 x := fun x hx => by rw [ew94]; exact zup_n hx
          have hc94 : w94 (to + 1) = some (.inr (0, cap, .inl (upd gt (y5_16.toNatClampNeg) r91))) := by rw [ew94]; exact zup_s
          rw [← ew94]
          clear ew94
          refine zp_seg (pc' := 98) (lv' := [(5, .int (y5_16 + 1)), (7, .int 0), (6, .int x38), (0, .ref to), (1, .ref a), (2, .ref b), (3, .int 0), (4, .int m6)]) (st' := []) [(95, .iinc 5 1)] (by decide +kernel) rfl ?_
          have k29 := zaddC y5_16 1 (n := 1) (by decide) (by omega) (by omega)
          generalize ev98 : (y5_16 + 1 : Int32) = v98 at k29 ⊢
          have kv98 := zrng v98
          refine zp_seg (pc' := 16) (lv' := [(5, .int v98), (7, .int 0), (6, .int x38), (0, .ref to), (1, .ref a), (2, .ref b), (3, .int 0), (4, .int m6)]) (st' := []) [(98, .goto (-82))] (by decide +kernel) rfl ?_
          have hz30 : (v98.toNatClampNeg : Int) = v98.toInt := znat (by first | omega | decide)
          exact (ih16 w94 v98 (hsiL16.tr hsi94) (fun x hx => ((heq94 x (by omega)).trans (heqL16 x (by omega)))) (by first | assumption | omega | decide) (by first | assumption | omega | decide) (by
                refine ⟨_, hc94, fun t ht => ?_⟩
                by_cases e : t = y5_16.toNatClampNeg
                · subst e
                  rw [zupd_s]
                  refine ⟨hr91.1, ?_⟩
                  rw [hr91.2, zaA_c, ← hx6, ← hx7]
                · rw [zupd_n _ _ e]
                  exact hgtv t (by omega)) (by
                by_cases ea : a = to
                · have e9 := hgt.symm.trans (ea ▸ hga)
                  cases e9
                  exact ⟨_, ea ▸ hc94, fun t h1 h2 => by rw [zupd_n _ _ (by omega)]; exact hgav t (by omega) h2⟩
                · exact ⟨ga, (heq94 (a + 1) (by omega)).trans hga, fun t h1 h2 => hgav t (by omega) h2⟩) (by
                by_cases ea : b = to
                · have e9 := hgt.symm.trans (ea ▸ hgb)
                  cases e9
                  exact ⟨_, ea ▸ hc94, fun t h1 h2 => by rw [zupd_n _ _ (by omega)]; exact hgbv t (by omega) h2⟩
                · exact ⟨gb, (heq94 (b + 1) (by omega)).trans hgb, fun t h1 h2 => hgbv t (by omega) h2⟩) (by omega)).more (zfa1 rfl (zfa1 rfl (zfa1 rfl (zfa1 rfl (zfa1 rfl (zfa1 rfl (zfa0)))))))
        ·
          have f31 := znleI cc51
          refine zp_seg (pc' := 55) (lv' := [(6, .int x38), (0, .ref to), (1, .ref a), (2, .ref b), (3, .int 0), (4, .int m6), (5, .int y5_16)]) (st' := [.ref b]) [(54, .aload_n 2)] (by decide +kernel) rfl ?_
          refine zr_get (idx := 30) (k := 0) (v := .ref (b + 1)) (by decide +kernel) (by decide +kernel) hb26 rfl ?_
          refine zp_seg (pc' := 60) (lv' := [(6, .int x38), (0, .ref to), (1, .ref a), (2, .ref b), (3, .int 0), (4, .int m6), (5, .int y5_16)]) (st' := [.int y5_16, .ref (b + 1)]) [(58, .iload 5)] (by decide +kernel) rfl ?_
          refine zr_iald (by decide +kernel) hgb (zin (by first | omega | decide) (by first | omega | decide)) ?_
          obtain ⟨x60, ex60⟩ : ∃ x9, x9 = gb (y5_16.toNatClampNeg) := ⟨_, rfl⟩
          rw [← ex60]
          have kx60 := zrng x60
          have hvx60 := (fun t (h9 : y5_16.toNatClampNeg ≤ t ∧ t < zln q) => hgbv t h9.1 h9.2) (y5_16.toNatClampNeg) (by omega)
          rw [← ex60] at hvx60
          have hwx60 : 0 ≤ x60.toInt ∧ x60.toInt < 2147483647 := hvx60.1
          refine zp_seg (pc' := 67) (lv' := [(7, .int x60), (6, .int x38), (0, .ref to), (1, .ref a), (2, .ref b), (3, .int 0), (4, .int m6), (5, .int y5_16)]) (st' := []) [(61, .goto 4), (65, .istore 7)] (by decide +kernel) rfl ?_
          have hx6r : zr1 x38 := by first | exact hvx38.1 | exact zr1_0
          have hx6 : zf x38 = p.1 y5_16.toNatClampNeg := by first | exact hvx38.2 | exact (zf_0.trans (zln_dg p _ (by omega)).symm)
          have hx7r : zr1 x60 := by first | exact hvx60.1 | exact zr1_0
          have hx7 : zf x60 = q.1 y5_16.toNatClampNeg := by first | exact hvx60.2 | exact (zf_0.trans (zln_dg q _ (by omega)).symm)
          refine zp_seg (pc' := 68) (lv' := [(7, .int x60), (6, .int x38), (0, .ref to), (1, .ref a), (2, .ref b), (3, .int 0), (4, .int m6), (5, .int y5_16)]) (st' := [.ref to]) [(67, .aload_n 0)] (by decide +kernel) rfl ?_
          have hb32 : wL16 to = some (.inl (14, [.ref (to + 1), .int nto])) := (heqL16 to (by omega)).trans hto1
          refine zr_get (idx := 30) (k := 0) (v := .ref (to + 1)) (by decide +kernel) (by decide +kernel) hb32 rfl ?_
          refine zp_seg (pc' := 74) (lv' := [(7, .int x60), (6, .int x38), (0, .ref to), (1, .ref a), (2, .ref b), (3, .int 0), (4, .int m6), (5, .int y5_16)]) (st' := [.int 0, .int y5_16, .ref (to + 1)]) [(71, .iload 5), (73, .iload_n 3)] (by decide +kernel) rfl ?_
          refine zp_pure (pc' := 87) (lv' := [(7, .int x60), (6, .int x38), (0, .ref to), (1, .ref a), (2, .ref b), (3, .int 0), (4, .int m6), (5, .int y5_16)]) (st' := [.int y5_16, .ref (to + 1)]) (i := .ifCond .eq 13) (by decide +kernel) rfl ?_
          refine zp_seg (pc' := 91) (lv' := [(7, .int x60), (6, .int x38), (0, .ref to), (1, .ref a), (2, .ref b), (3, .int 0), (4, .int m6), (5, .int y5_16)]) (st' := [.int x60, .int x38, .int y5_16, .ref (to + 1)]) [(87, .iload 6), (89, .iload 7)] (by decide +kernel) rfl ?_
          refine zr_callS (idx := 49) (j := 255) (by decide +kernel) (by decide +kernel) (by decide) (show zMe 255 = some zq_X16_add from rfl) rfl rfl (Nat.le_of_ble_eq_true rfl) rfl rfl (Nat.le_of_ble_eq_true rfl) (Nat.le_of_ble_eq_true rfl) (c_X16_add (w := wL16) x38 x60 (by exact hx6r) (by exact hx7r)) (by omega) (fun v91 w91 hp91 => ?_)
          obtain ⟨hpw91, r91, rfl, hr91⟩ := hp91
          replace hpw91 := hpw91.symm
          subst hpw91
          have kr91 := zrng r91
          show zP _ _ _ _ [.int r91, .int y5_16, .ref (to + 1)] _ _ _ _ _
          refine zr_iast (by decide +kernel) hgt (zin (by first | omega | decide) (by first | omega | decide)) ?_
          show zP (d + 1) zq_X16_plus 95 [(7, .int x60), (6, .int x38), (0, .ref to), (1, .ref a), (2, .ref b), (3, .int 0), (4, .int m6), (5, .int y5_16)] [] (zup wL16 (to + 1) (.inr (0, cap, .inl (upd gt (y5_16.toNatClampNeg) r91)))) sz 0 0 Post
          obtain ⟨w94, ew94⟩ : ∃ wz9, wz9 = zup wL16 (to + 1) (.inr (0, cap, .inl (upd gt (y5_16.toNatClampNeg) r91))) := ⟨_, rfl⟩
          have hsi94 : zSI wL16 w94 := by rw [ew94]; exact zSI.arr _ hgt
          have heq94 : ∀ x, x ≠ to + 1 → w94 x = wL16 x := fun x hx => by rw [ew94]; exact zup_n hx
          have hc94 : w94 (to + 1) = some (.inr (0, cap, .inl (upd gt (y5_16.toNatClampNeg) r91))) := by rw [ew94]; exact zup_s
          rw [← ew94]
          clear ew94
          refine zp_seg (pc' := 98) (lv' := [(5, .int (y5_16 + 1)), (7, .int x60), (6, .int x38), (0, .ref to), (1, .ref a), (2, .ref b), (3, .int 0), (4, .int m6)]) (st' := []) [(95, .iinc 5 1)] (by decide +kernel) rfl ?_
          have k33 := zaddC y5_16 1 (n := 1) (by decide) (by omega) (by omega)
          generalize ev98 : (y5_16 + 1 : Int32) = v98 at k33 ⊢
          have kv98 := zrng v98
          refine zp_seg (pc' := 16) (lv' := [(5, .int v98), (7, .int x60), (6, .int x38), (0, .ref to), (1, .ref a), (2, .ref b), (3, .int 0), (4, .int m6)]) (st' := []) [(98, .goto (-82))] (by decide +kernel) rfl ?_
          have hz34 : (v98.toNatClampNeg : Int) = v98.toInt := znat (by first | omega | decide)
          exact (ih16 w94 v98 (hsiL16.tr hsi94) (fun x hx => ((heq94 x (by omega)).trans (heqL16 x (by omega)))) (by first | assumption | omega | decide) (by first | assumption | omega | decide) (by
                refine ⟨_, hc94, fun t ht => ?_⟩
                by_cases e : t = y5_16.toNatClampNeg
                · subst e
                  rw [zupd_s]
                  refine ⟨hr91.1, ?_⟩
                  rw [hr91.2, zaA_c, ← hx6, ← hx7]
                · rw [zupd_n _ _ e]
                  exact hgtv t (by omega)) (by
                by_cases ea : a = to
                · have e9 := hgt.symm.trans (ea ▸ hga)
                  cases e9
                  exact ⟨_, ea ▸ hc94, fun t h1 h2 => by rw [zupd_n _ _ (by omega)]; exact hgav t (by omega) h2⟩
                · exact ⟨ga, (heq94 (a + 1) (by omega)).trans hga, fun t h1 h2 => hgav t (by omega) h2⟩) (by
                by_cases ea : b = to
                · have e9 := hgt.symm.trans (ea ▸ hgb)
                  cases e9
                  exact ⟨_, ea ▸ hc94, fun t h1 h2 => by rw [zupd_n _ _ (by omega)]; exact hgbv t (by omega) h2⟩
                · exact ⟨gb, (heq94 (b + 1) (by omega)).trans hgb, fun t h1 h2 => hgbv t (by omega) h2⟩) (by omega)).more (zfa1 rfl (zfa1 rfl (zfa1 rfl (zfa1 rfl (zfa1 rfl (zfa1 rfl (zfa0)))))))
  have hl35 : (0 : Int32).toInt = 0 := by decide
  have hz36 : ((0 : Int32).toNatClampNeg : Int) = 0 := by decide
  exact (hL16 _ w 0 zSI.rf (fun _ _ => rfl) (by first | assumption | omega | decide) (by first | assumption | omega | decide) (by
        exact ⟨fto, hto2, fun t ht => absurd ht (by omega)⟩) (by
        exact ⟨fa, ha2, fun t _ ht => ha5 t ht⟩) (by
        exact ⟨fb, hb2, fun t _ ht => hb5 t ht⟩) (Nat.lt_succ_self _)).more (zfa1 rfl (zfa1 rfl (zfa1 rfl (zfa1 rfl (zfa1 rfl (zfa1 rfl (zfa0)))))))

set_option maxHeartbeats 8000000 in
set_option maxRecDepth 100000 in
theorem c_X16_plusS {w : zM} {cap ca cb : Nat} {p q : zA1} (to : Nat) (a : Nat) (b : Nat) (hUo_to : zUo w to cap) (hU_a : zU w a ca p) (hU_b : zU w b cb q) (hpc : zln p ≤ cap) (hqc : zln q ≤ cap) : zCon 2 zq_X16_plus [.ref to, .ref a, .ref b, .int 1] w (fun v9 w9' => zSI w w9' ∧ (∀ x, (x < to ∨ to + 2 ≤ x) → w9' x = w x) ∧ zU w9' to cap (zaS p q) ∧ v9 = none) := by
  intro d sz hd
  obtain ⟨d, rfl⟩ : ∃ d9, d = d9 + 1 := ⟨d - 1, by omega⟩
  generalize hPost : (fun (r9' : Option (Option Value)) (w9' : zM) (z9 : Nat) => z9 = sz ∧ ∃ v9, r9' = some v9 ∧ (zSI w w9' ∧ (∀ x, (x < to ∨ to + 2 ≤ x) → w9' x = w x) ∧ zU w9' to cap (zaS p q) ∧ v9 = none)) = Post
  show zP (d + 1) zq_X16_plus 0 [(0, .ref to), (1, .ref a), (2, .ref b), (3, .int 1)] [] w sz 0 0 Post
  have hn1 := hUo_to.ne hU_a.o
  have hn2 := hUo_to.ne hU_b.o
  have hn3 := hU_a.o.ne hUo_to
  have hn4 := hU_b.o.ne hUo_to
  have hn5 := hU_a.o.ne hU_b.o
  have hn6 := hU_b.o.ne hU_a.o
  obtain ⟨na, fa, ha1, ha2, ha3, ha4, ha5⟩ := id hU_a
  have kna := zrng na
  have k2 := zrng na
  have hz3 : (na.toNatClampNeg : Int) = na.toInt := znat (by first | omega | decide)
  obtain ⟨nb, fb, hb1, hb2, hb3, hb4, hb5⟩ := id hU_b
  have knb := zrng nb
  have k4 := zrng nb
  have hz5 : (nb.toNatClampNeg : Int) = nb.toInt := znat (by first | omega | decide)
  obtain ⟨nto, fto, hto1, hto2⟩ := id hUo_to
  refine zp_seg (pc' := 1) (lv' := [(0, .ref to), (1, .ref a), (2, .ref b), (3, .int 1)]) (st' := [.ref a]) [(0, .aload_n 1)] (by decide +kernel) rfl ?_
  refine zr_get (idx := 25) (k := 1) (v := .int na) (by decide +kernel) (by decide +kernel) ha1 rfl ?_
  refine zp_seg (pc' := 5) (lv' := [(0, .ref to), (1, .ref a), (2, .ref b), (3, .int 1)]) (st' := [.ref b, .int na]) [(4, .aload_n 2)] (by decide +kernel) rfl ?_
  refine zr_get (idx := 25) (k := 1) (v := .int nb) (by decide +kernel) (by decide +kernel) hb1 rfl ?_
  refine zr_max (idx := 40) (by decide +kernel) (by decide +kernel) (by omega) (Nat.le_of_ble_eq_true rfl) ?_
  obtain ⟨m6, em6, hm6⟩ := zmaxI na nb
  rw [← em6]
  have km6 := zrng m6
  refine zp_seg (pc' := 16) (lv' := [(5, .int 0), (4, .int m6), (0, .ref to), (1, .ref a), (2, .ref b), (3, .int 1)]) (st' := []) [(11, .istore 4), (13, .iconst 0), (14, .istore 5)] (by decide +kernel) rfl ?_
  have hL16 : ∀ (mm16 : Nat) (wL16 : zM) (y5_16 : Int32), (zSI w wL16) → (∀ x, (x < to + 1 ∨ to + 1 + 1 ≤ x) → wL16 x = w x) → (0 ≤ y5_16.toInt) → (y5_16.toInt ≤ m6.toInt) → (∃ gt, wL16 (to + 1) = some (.inr (0, cap, .inl gt)) ∧ ∀ t, t < y5_16.toNatClampNeg → zr1 (gt t) ∧ zf (gt t) = (zaS p q).1 t) → (∃ ga, wL16 (a + 1) = some (.inr (0, ca, .inl ga)) ∧ ∀ t, y5_16.toNatClampNeg ≤ t → t < zln p → zr1 (ga t) ∧ zf (ga t) = p.1 t) → (∃ gb, wL16 (b + 1) = some (.inr (0, cb, .inl gb)) ∧ ∀ t, y5_16.toNatClampNeg ≤ t → t < zln q → zr1 (gb t) ∧ zf (gb t) = q.1 t) → (2147483647 - y5_16.toInt).toNat < mm16 → zP (d + 1) zq_X16_plus 16 [(0, .ref to), (1, .ref a), (2, .ref b), (3, .int 1), (4, .int m6), (5, .int y5_16)] [] wL16 sz 0 0 Post := by
    intro mm16
    induction mm16 with
    | zero => intros; omega
    | succ mm16 ih16 =>
    intro wL16 y5_16 hsiL16 heqL16 hi16_0 hi16_1 hT hA hB hmu16
    have ky5_16 := zrng y5_16
    refine zp_seg (pc' := 20) (lv' := [(0, .ref to), (1, .ref a), (2, .ref b), (3, .int 1), (4, .int m6), (5, .int y5_16)]) (st' := [.int m6, .int y5_16]) [(16, .iload 5), (18, .iload 4)] (by decide +kernel) rfl ?_
    refine zp_if (i := .if_icmp .ge 81) (c := m6 ≤ y5_16) (t := 101) (e := 23) (lv' := [(0, .ref to), (1, .ref a), (2, .ref b), (3, .int 1), (4, .int m6), (5, .int y5_16)]) (st' := []) (by decide +kernel) rfl (fun cc20 => ?_) (fun cc20 => ?_)
    ·
      have f7 := zleI cc20
      obtain ⟨gt, hgt, hgtv⟩ := id hT
      have hz8 : (m6.toNatClampNeg : Int) = m6.toInt := znat (by first | omega | decide)
      have hz9 : (y5_16.toNatClampNeg : Int) = y5_16.toInt := znat (by first | omega | decide)
      refine zp_seg (pc' := 104) (lv' := [(0, .ref to), (1, .ref a), (2, .ref b), (3, .int 1), (4, .int m6), (5, .int y5_16)]) (st' := [.int m6, .ref to]) [(101, .aload_n 0), (102, .iload 4)] (by decide +kernel) rfl ?_
      have hb10 : wL16 to = some (.inl (14, [.ref (to + 1), .int nto])) := (heqL16 to (by omega)).trans hto1
      refine zr_put2 (idx := 25) (k := 1) (fs2 := [.ref (to + 1), .int m6]) (by decide +kernel) (by decide +kernel) hb10 (Nat.le_of_ble_eq_true rfl) rfl rfl rfl ?_
      show zP (d + 1) zq_X16_plus 107 [(0, .ref to), (1, .ref a), (2, .ref b), (3, .int 1), (4, .int m6), (5, .int y5_16)] [] (zup wL16 to (.inl (14, [.ref (to + 1), .int m6]))) sz 0 0 Post
      obtain ⟨w104, ew104⟩ : ∃ wz9, wz9 = zup wL16 to (.inl (14, [.ref (to + 1), .int m6])) := ⟨_, rfl⟩
      have hsi104 : zSI wL16 w104 := by rw [ew104]; exact zSI.setU hb10
      have heq104 : ∀ x, x ≠ to → w104 x = wL16 x := fun x hx => by rw [ew104]; exact zup_n hx
      have hc104 : w104 to = some (.inl (14, [.ref (to + 1), .int m6])) := by rw [ew104]; exact zup_s
      rw [← ew104]
      clear ew104
      have hb11 : w104 (to + 1) = some (.inr (0, cap, .inl gt)) := (heq104 (to + 1) (by omega)).trans hgt
      have hUn7 : zUw w104 to cap m6.toNatClampNeg (zaS p q) := ⟨_, gt, hc104, hb11, by omega, by omega, fun t ht => hgtv t (by omega), zDg_sub (zDg_mono (zln_dg p) (by omega)) (zDg_mono (zln_dg q) (by omega))⟩
      refine zp_seg (pc' := 108) (lv' := [(0, .ref to), (1, .ref a), (2, .ref b), (3, .int 1), (4, .int m6), (5, .int y5_16)]) (st' := [.ref to]) [(107, .aload_n 0)] (by decide +kernel) rfl ?_
      refine zr_callV (idx := 52) (j := 251) (by decide +kernel) (by decide +kernel) (show zMe 251 = some zq_X15_trim from rfl) rfl rfl (Nat.le_of_ble_eq_true rfl) rfl rfl hc104 (Nat.le_of_ble_eq_true rfl) (Nat.le_of_ble_eq_true rfl) (c_X15_trim (w := w104) to hUn7) (by omega) (fun v108 w108 hp108 => ?_)
      obtain ⟨hsi108, heq108, hp108_0, rfl⟩ := hp108
      show zP _ _ _ _ [] _ _ _ _ _
      have hoffend : ∀ x, (x < to ∨ to + 2 ≤ x) → w108 x = w x := fun x hx => ((heq108 x (by omega)).trans ((heq104 x (by omega)).trans (heqL16 x (by omega))))
      refine zr_retV (by decide +kernel) rfl ?_
      rw [← hPost]; exact ⟨rfl, _, rfl, ((hsiL16.tr hsi104).tr hsi108), hoffend, (by first | exact hp108_0 | (have z9 := hp108_0; simpa using z9)), rfl⟩
    ·
      have f12 := znleI cc20
      obtain ⟨gt, hgt, hgtv⟩ := id hT
      obtain ⟨ga, hga, hgav⟩ := id hA
      obtain ⟨gb, hgb, hgbv⟩ := id hB
      have hz13 : (y5_16.toNatClampNeg : Int) = y5_16.toInt := znat (by first | omega | decide)
      refine zp_seg (pc' := 26) (lv' := [(0, .ref to), (1, .ref a), (2, .ref b), (3, .int 1), (4, .int m6), (5, .int y5_16)]) (st' := [.ref a, .int y5_16]) [(23, .iload 5), (25, .aload_n 1)] (by decide +kernel) rfl ?_
      have hb14 : wL16 a = some (.inl (14, [.ref (a + 1), .int na])) := (heqL16 a (by omega)).trans ha1
      refine zr_get (idx := 25) (k := 1) (v := .int na) (by decide +kernel) (by decide +kernel) hb14 rfl ?_
      refine zp_if (i := .if_icmp .ge 13) (c := na ≤ y5_16) (t := 42) (e := 32) (lv' := [(0, .ref to), (1, .ref a), (2, .ref b), (3, .int 1), (4, .int m6), (5, .int y5_16)]) (st' := []) (by decide +kernel) rfl (fun cc29 => ?_) (fun cc29 => ?_)
      ·
        have f15 := zleI cc29
        refine zp_seg (pc' := 48) (lv' := [(6, .int 0), (0, .ref to), (1, .ref a), (2, .ref b), (3, .int 1), (4, .int m6), (5, .int y5_16)]) (st' := [.ref b, .int y5_16]) [(42, .iconst 0), (43, .istore 6), (45, .iload 5), (47, .aload_n 2)] (by decide +kernel) rfl ?_
        have hb16 : wL16 b = some (.inl (14, [.ref (b + 1), .int nb])) := (heqL16 b (by omega)).trans hb1
        refine zr_get (idx := 25) (k := 1) (v := .int nb) (by decide +kernel) (by decide +kernel) hb16 rfl ?_
        refine zp_if (i := .if_icmp .ge 13) (c := nb ≤ y5_16) (t := 64) (e := 54) (lv' := [(6, .int 0), (0, .ref to), (1, .ref a), (2, .ref b), (3, .int 1), (4, .int m6), (5, .int y5_16)]) (st' := []) (by decide +kernel) rfl (fun cc51 => ?_) (fun cc51 => ?_)
        ·
          have f17 := zleI cc51
          refine zp_seg (pc' := 67) (lv' := [(7, .int 0), (6, .int 0), (0, .ref to), (1, .ref a), (2, .ref b), (3, .int 1), (4, .int m6), (5, .int y5_16)]) (st' := []) [(64, .iconst 0), (65, .istore 7)] (by decide +kernel) rfl ?_
          have hx6r : zr1 0 := by first | exact hvx38.1 | exact zr1_0
          have hx6 : zf 0 = p.1 y5_16.toNatClampNeg := by first | exact hvx38.2 | exact (zf_0.trans (zln_dg p _ (by omega)).symm)
          have hx7r : zr1 0 := by first | exact hvx60.1 | exact zr1_0
          have hx7 : zf 0 = q.1 y5_16.toNatClampNeg := by first | exact hvx60.2 | exact (zf_0.trans (zln_dg q _ (by omega)).symm)
          refine zp_seg (pc' := 68) (lv' := [(7, .int 0), (6, .int 0), (0, .ref to), (1, .ref a), (2, .ref b), (3, .int 1), (4, .int m6), (5, .int y5_16)]) (st' := [.ref to]) [(67, .aload_n 0)] (by decide +kernel) rfl ?_
          have hb18 : wL16 to = some (.inl (14, [.ref (to + 1), .int nto])) := (heqL16 to (by omega)).trans hto1
          refine zr_get (idx := 30) (k := 0) (v := .ref (to + 1)) (by decide +kernel) (by decide +kernel) hb18 rfl ?_
          refine zp_seg (pc' := 74) (lv' := [(7, .int 0), (6, .int 0), (0, .ref to), (1, .ref a), (2, .ref b), (3, .int 1), (4, .int m6), (5, .int y5_16)]) (st' := [.int 1, .int y5_16, .ref (to + 1)]) [(71, .iload 5), (73, .iload_n 3)] (by decide +kernel) rfl ?_
          refine zp_pure (pc' := 77) (lv' := [(7, .int 0), (6, .int 0), (0, .ref to), (1, .ref a), (2, .ref b), (3, .int 1), (4, .int m6), (5, .int y5_16)]) (st' := [.int y5_16, .ref (to + 1)]) (i := .ifCond .eq 13) (by decide +kernel) rfl ?_
          refine zp_seg (pc' := 81) (lv' := [(7, .int 0), (6, .int 0), (0, .ref to), (1, .ref a), (2, .ref b), (3, .int 1), (4, .int m6), (5, .int y5_16)]) (st' := [.int 0, .int 0, .int y5_16, .ref (to + 1)]) [(77, .iload 6), (79, .iload 7)] (by decide +kernel) rfl ?_
          refine zr_callS (idx := 46) (j := 256) (by decide +kernel) (by decide +kernel) (by decide) (show zMe 256 = some zq_X16_sub from rfl) rfl rfl (Nat.le_of_ble_eq_true rfl) rfl rfl (Nat.le_of_ble_eq_true rfl) (Nat.le_of_ble_eq_true rfl) (c_X16_sub (w := wL16) 0 0 (by exact hx6r) (by exact hx7r)) (by omega) (fun v81 w81 hp81 => ?_)
          obtain ⟨hpw81, r81, rfl, hr81⟩ := hp81
          replace hpw81 := hpw81.symm
          subst hpw81
          have kr81 := zrng r81
          show zP _ _ _ _ [.int r81, .int y5_16, .ref (to + 1)] _ _ _ _ _
          refine zp_seg (pc' := 94) (lv' := [(7, .int 0), (6, .int 0), (0, .ref to), (1, .ref a), (2, .ref b), (3, .int 1), (4, .int m6), (5, .int y5_16)]) (st' := [.int r81, .int y5_16, .ref (to + 1)]) [(84, .goto 10)] (by decide +kernel) rfl ?_
          refine zr_iast (by decide +kernel) hgt (zin (by first | omega | decide) (by first | omega | decide)) ?_
          show zP (d + 1) zq_X16_plus 95 [(7, .int 0), (6, .int 0), (0, .ref to), (1, .ref a), (2, .ref b), (3, .int 1), (4, .int m6), (5, .int y5_16)] [] (zup wL16 (to + 1) (.inr (0, cap, .inl (upd gt (y5_16.toNatClampNeg) r81)))) sz 0 0 Post
          obtain ⟨w94, ew94⟩ : ∃ wz9, wz9 = zup wL16 (to + 1) (.inr (0, cap, .inl (upd gt (y5_16.toNatClampNeg) r81))) := ⟨_, rfl⟩
          have hsi94 : zSI wL16 w94 := by rw [ew94]; exact zSI.arr _ hgt
          have heq94 : ∀ x, x ≠ to + 1 → w94 x = wL16 x := fun x hx => by rw [ew94]; exact zup_n hx
          have hc94 : w94 (to + 1) = some (.inr (0, cap, .inl (upd gt (y5_16.toNatClampNeg) r81))) := by rw [ew94]; exact zup_s
          rw [← ew94]
          clear ew94
          refine zp_seg (pc' := 98) (lv' := [(5, .int (y5_16 + 1)), (7, .int 0), (6, .int 0), (0, .ref to), (1, .ref a), (2, .ref b), (3, .int 1), (4, .int m6)]) (st' := []) [(95, .iinc 5 1)] (by decide +kernel) rfl ?_
          have k19 := zaddC y5_16 1 (n := 1) (by decide) (by omega) (by omega)
          generalize ev98 : (y5_16 + 1 : Int32) = v98 at k19 ⊢
          have kv98 := zrng v98
          refine zp_seg (pc' := 16) (lv' := [(5, .int v98), (7, .int 0), (6, .int 0), (0, .ref to), (1, .ref a), (2, .ref b), (3, .int 1), (4, .int m6)]) (st' := []) [(98, .goto (-82))] (by decide +kernel) rfl ?_
          have hz20 : (v98.toNatClampNeg : Int) = v98.toInt := znat (by first | omega | decide)
          exact (ih16 w94 v98 (hsiL16.tr hsi94) (fun x hx => ((heq94 x (by omega)).trans (heqL16 x (by omega)))) (by first | assumption | omega | decide) (by first | assumption | omega | decide) (by
                refine ⟨_, hc94, fun t ht => ?_⟩
                by_cases e : t = y5_16.toNatClampNeg
                · subst e
                  rw [zupd_s]
                  refine ⟨hr81.1, ?_⟩
                  rw [hr81.2, zaS_c, ← hx6, ← hx7]
                · rw [zupd_n _ _ e]
                  exact hgtv t (by omega)) (by
                by_cases ea : a = to
                · have e9 := hgt.symm.trans (ea ▸ hga)
                  cases e9
                  exact ⟨_, ea ▸ hc94, fun t h1 h2 => by rw [zupd_n _ _ (by omega)]; exact hgav t (by omega) h2⟩
                · exact ⟨ga, (heq94 (a + 1) (by omega)).trans hga, fun t h1 h2 => hgav t (by omega) h2⟩) (by
                by_cases ea : b = to
                · have e9 := hgt.symm.trans (ea ▸ hgb)
                  cases e9
                  exact ⟨_, ea ▸ hc94, fun t h1 h2 => by rw [zupd_n _ _ (by omega)]; exact hgbv t (by omega) h2⟩
                · exact ⟨gb, (heq94 (b + 1) (by omega)).trans hgb, fun t h1 h2 => hgbv t (by omega) h2⟩) (by omega)).more (zfa1 rfl (zfa1 rfl (zfa1 rfl (zfa1 rfl (zfa1 rfl (zfa1 rfl (zfa0)))))))
        ·
          have f21 := znleI cc51
          refine zp_seg (pc' := 55) (lv' := [(6, .int 0), (0, .ref to), (1, .ref a), (2, .ref b), (3, .int 1), (4, .int m6), (5, .int y5_16)]) (st' := [.ref b]) [(54, .aload_n 2)] (by decide +kernel) rfl ?_
          refine zr_get (idx := 30) (k := 0) (v := .ref (b + 1)) (by decide +kernel) (by decide +kernel) hb16 rfl ?_
          refine zp_seg (pc' := 60) (lv' := [(6, .int 0), (0, .ref to), (1, .ref a), (2, .ref b), (3, .int 1), (4, .int m6), (5, .int y5_16)]) (st' := [.int y5_16, .ref (b + 1)]) [(58, .iload 5)] (by decide +kernel) rfl ?_
          refine zr_iald (by decide +kernel) hgb (zin (by first | omega | decide) (by first | omega | decide)) ?_
          obtain ⟨x60, ex60⟩ : ∃ x9, x9 = gb (y5_16.toNatClampNeg) := ⟨_, rfl⟩
          rw [← ex60]
          have kx60 := zrng x60
          have hvx60 := (fun t (h9 : y5_16.toNatClampNeg ≤ t ∧ t < zln q) => hgbv t h9.1 h9.2) (y5_16.toNatClampNeg) (by omega)
          rw [← ex60] at hvx60
          have hwx60 : 0 ≤ x60.toInt ∧ x60.toInt < 2147483647 := hvx60.1
          refine zp_seg (pc' := 67) (lv' := [(7, .int x60), (6, .int 0), (0, .ref to), (1, .ref a), (2, .ref b), (3, .int 1), (4, .int m6), (5, .int y5_16)]) (st' := []) [(61, .goto 4), (65, .istore 7)] (by decide +kernel) rfl ?_
          have hx6r : zr1 0 := by first | exact hvx38.1 | exact zr1_0
          have hx6 : zf 0 = p.1 y5_16.toNatClampNeg := by first | exact hvx38.2 | exact (zf_0.trans (zln_dg p _ (by omega)).symm)
          have hx7r : zr1 x60 := by first | exact hvx60.1 | exact zr1_0
          have hx7 : zf x60 = q.1 y5_16.toNatClampNeg := by first | exact hvx60.2 | exact (zf_0.trans (zln_dg q _ (by omega)).symm)
          refine zp_seg (pc' := 68) (lv' := [(7, .int x60), (6, .int 0), (0, .ref to), (1, .ref a), (2, .ref b), (3, .int 1), (4, .int m6), (5, .int y5_16)]) (st' := [.ref to]) [(67, .aload_n 0)] (by decide +kernel) rfl ?_
          have hb22 : wL16 to = some (.inl (14, [.ref (to + 1), .int nto])) := (heqL16 to (by omega)).trans hto1
          refine zr_get (idx := 30) (k := 0) (v := .ref (to + 1)) (by decide +kernel) (by decide +kernel) hb22 rfl ?_
          refine zp_seg (pc' := 74) (lv' := [(7, .int x60), (6, .int 0), (0, .ref to), (1, .ref a), (2, .ref b), (3, .int 1), (4, .int m6), (5, .int y5_16)]) (st' := [.int 1, .int y5_16, .ref (to + 1)]) [(71, .iload 5), (73, .iload_n 3)] (by decide +kernel) rfl ?_
          refine zp_pure (pc' := 77) (lv' := [(7, .int x60), (6, .int 0), (0, .ref to), (1, .ref a), (2, .ref b), (3, .int 1), (4, .int m6), (5, .int y5_16)]) (st' := [.int y5_16, .ref (to + 1)]) (i := .ifCond .eq 13) (by decide +kernel) rfl ?_
          refine zp_seg (pc' := 81) (lv' := [(7, .int x60), (6, .int 0), (0, .ref to), (1, .ref a), (2, .ref b), (3, .int 1), (4, .int m6), (5, .int y5_16)]) (st' := [.int x60, .int 0, .int y5_16, .ref (to + 1)]) [(77, .iload 6), (79, .iload 7)] (by decide +kernel) rfl ?_
          refine zr_callS (idx := 46) (j := 256) (by decide +kernel) (by decide +kernel) (by decide) (show zMe 256 = some zq_X16_sub from rfl) rfl rfl (Nat.le_of_ble_eq_true rfl) rfl rfl (Nat.le_of_ble_eq_true rfl) (Nat.le_of_ble_eq_true rfl) (c_X16_sub (w := wL16) 0 x60 (by exact hx6r) (by exact hx7r)) (by omega) (fun v81 w81 hp81 => ?_)
          obtain ⟨hpw81, r81, rfl, hr81⟩ := hp81
          replace hpw81 := hpw81.symm
          subst hpw81
          have kr81 := zrng r81
          show zP _ _ _ _ [.int r81, .int y5_16, .ref (to + 1)] _ _ _ _ _
          refine zp_seg (pc' := 94) (lv' := [(7, .int x60), (6, .int 0), (0, .ref to), (1, .ref a), (2, .ref b), (3, .int 1), (4, .int m6), (5, .int y5_16)]) (st' := [.int r81, .int y5_16, .ref (to + 1)]) [(84, .goto 10)] (by decide +kernel) rfl ?_
          refine zr_iast (by decide +kernel) hgt (zin (by first | omega | decide) (by first | omega | decide)) ?_
          show zP (d + 1) zq_X16_plus 95 [(7, .int x60), (6, .int 0), (0, .ref to), (1, .ref a), (2, .ref b), (3, .int 1), (4, .int m6), (5, .int y5_16)] [] (zup wL16 (to + 1) (.inr (0, cap, .inl (upd gt (y5_16.toNatClampNeg) r81)))) sz 0 0 Post
          obtain ⟨w94, ew94⟩ : ∃ wz9, wz9 = zup wL16 (to + 1) (.inr (0, cap, .inl (upd gt (y5_16.toNatClampNeg) r81))) := ⟨_, rfl⟩
          have hsi94 : zSI wL16 w94 := by rw [ew94]; exact zSI.arr _ hgt
          have heq94 : ∀ x, x ≠ to + 1 → w94 x = wL16 x := fun x hx => by rw [ew94]; exact zup_n hx
          have hc94 : w94 (to + 1) = some (.inr (0, cap, .inl (upd gt (y5_16.toNatClampNeg) r81))) := by rw [ew94]; exact zup_s
          rw [← ew94]
          clear ew94
          refine zp_seg (pc' := 98) (lv' := [(5, .int (y5_16 + 1)), (7, .int x60), (6, .int 0), (0, .ref to), (1, .ref a), (2, .ref b), (3, .int 1), (4, .int m6)]) (st' := []) [(95, .iinc 5 1)] (by decide +kernel) rfl ?_
          have k23 := zaddC y5_16 1 (n := 1) (by decide) (by omega) (by omega)
          generalize ev98 : (y5_16 + 1 : Int32) = v98 at k23 ⊢
          have kv98 := zrng v98
          refine zp_seg (pc' := 16) (lv' := [(5, .int v98), (7, .int x60), (6, .int 0), (0, .ref to), (1, .ref a), (2, .ref b), (3, .int 1), (4, .int m6)]) (st' := []) [(98, .goto (-82))] (by decide +kernel) rfl ?_
          have hz24 : (v98.toNatClampNeg : Int) = v98.toInt := znat (by first | omega | decide)
          exact (ih16 w94 v98 (hsiL16.tr hsi94) (fun x hx => ((heq94 x (by omega)).trans (heqL16 x (by omega)))) (by first | assumption | omega | decide) (by first | assumption | omega | decide) (by
                refine ⟨_, hc94, fun t ht => ?_⟩
                by_cases e : t = y5_16.toNatClampNeg
                · subst e
                  rw [zupd_s]
                  refine ⟨hr81.1, ?_⟩
                  rw [hr81.2, zaS_c, ← hx6, ← hx7]
                · rw [zupd_n _ _ e]
                  exact hgtv t (by omega)) (by
                by_cases ea : a = to
                · have e9 := hgt.symm.trans (ea ▸ hga)
                  cases e9
                  exact ⟨_, ea ▸ hc94, fun t h1 h2 => by rw [zupd_n _ _ (by omega)]; exact hgav t (by omega) h2⟩
                · exact ⟨ga, (heq94 (a + 1) (by omega)).trans hga, fun t h1 h2 => hgav t (by omega) h2⟩) (by
                by_cases ea : b = to
                · have e9 := hgt.symm.trans (ea ▸ hgb)
                  cases e9
                  exact ⟨_, ea ▸ hc94, fun t h1 h2 => by rw [zupd_n _ _ (by omega)]; exact hgbv t (by omega) h2⟩
                · exact ⟨gb, (heq94 (b + 1) (by omega)).trans hgb, fun t h1 h2 => hgbv t (by omega) h2⟩) (by omega)).more (zfa1 rfl (zfa1 rfl (zfa1 rfl (zfa1 rfl (zfa1 rfl (zfa1 rfl (zfa0)))))))
      ·
        have f25 := znleI cc29
        refine zp_seg (pc' := 33) (lv' := [(0, .ref to), (1, .ref a), (2, .ref b), (3, .int 1), (4, .int m6), (5, .int y5_16)]) (st' := [.ref a]) [(32, .aload_n 1)] (by decide +kernel) rfl ?_
        refine zr_get (idx := 30) (k := 0) (v := .ref (a + 1)) (by decide +kernel) (by decide +kernel) hb14 rfl ?_
        refine zp_seg (pc' := 38) (lv' := [(0, .ref to), (1, .ref a), (2, .ref b), (3, .int 1), (4, .int m6), (5, .int y5_16)]) (st' := [.int y5_16, .ref (a + 1)]) [(36, .iload 5)] (by decide +kernel) rfl ?_
        refine zr_iald (by decide +kernel) hga (zin (by first | omega | decide) (by first | omega | decide)) ?_
        obtain ⟨x38, ex38⟩ : ∃ x9, x9 = ga (y5_16.toNatClampNeg) := ⟨_, rfl⟩
        rw [← ex38]
        have kx38 := zrng x38
        have hvx38 := (fun t (h9 : y5_16.toNatClampNeg ≤ t ∧ t < zln p) => hgav t h9.1 h9.2) (y5_16.toNatClampNeg) (by omega)
        rw [← ex38] at hvx38
        have hwx38 : 0 ≤ x38.toInt ∧ x38.toInt < 2147483647 := hvx38.1
        refine zp_seg (pc' := 48) (lv' := [(6, .int x38), (0, .ref to), (1, .ref a), (2, .ref b), (3, .int 1), (4, .int m6), (5, .int y5_16)]) (st' := [.ref b, .int y5_16]) [(39, .goto 4), (43, .istore 6), (45, .iload 5), (47, .aload_n 2)] (by decide +kernel) rfl ?_
        have hb26 : wL16 b = some (.inl (14, [.ref (b + 1), .int nb])) := (heqL16 b (by omega)).trans hb1
        refine zr_get (idx := 25) (k := 1) (v := .int nb) (by decide +kernel) (by decide +kernel) hb26 rfl ?_
        refine zp_if (i := .if_icmp .ge 13) (c := nb ≤ y5_16) (t := 64) (e := 54) (lv' := [(6, .int x38), (0, .ref to), (1, .ref a), (2, .ref b), (3, .int 1), (4, .int m6), (5, .int y5_16)]) (st' := []) (by decide +kernel) rfl (fun cc51 => ?_) (fun cc51 => ?_)
        ·
          have f27 := zleI cc51
          refine zp_seg (pc' := 67) (lv' := [(7, .int 0), (6, .int x38), (0, .ref to), (1, .ref a), (2, .ref b), (3, .int 1), (4, .int m6), (5, .int y5_16)]) (st' := []) [(64, .iconst 0), (65, .istore 7)] (by decide +kernel) rfl ?_
          have hx6r : zr1 x38 := by first | exact hvx38.1 | exact zr1_0
          have hx6 : zf x38 = p.1 y5_16.toNatClampNeg := by first | exact hvx38.2 | exact (zf_0.trans (zln_dg p _ (by omega)).symm)
          have hx7r : zr1 0 := by first | exact hvx60.1 | exact zr1_0
          have hx7 : zf 0 = q.1 y5_16.toNatClampNeg := by first | exact hvx60.2 | exact (zf_0.trans (zln_dg q _ (by omega)).symm)
          refine zp_seg (pc' := 68) (lv' := [(7, .int 0), (6, .int x38), (0, .ref to), (1, .ref a), (2, .ref b), (3, .int 1), (4, .int m6), (5, .int y5_16)]) (st' := [.ref to]) [(67, .aload_n 0)] (by decide +kernel) rfl ?_
          have hb28 : wL16 to = some (.inl (14, [.ref (to + 1), .int nto])) := (heqL16 to (by omega)).trans hto1
          refine zr_get (idx := 30) (k := 0) (v := .ref (to + 1)) (by decide +kernel) (by decide +kernel) hb28 rfl ?_
          refine zp_seg (pc' := 74) (lv' := [(7, .int 0), (6, .int x38), (0, .ref to), (1, .ref a), (2, .ref b), (3, .int 1), (4, .int m6), (5, .int y5_16)]) (st' := [.int 1, .int y5_16, .ref (to + 1)]) [(71, .iload 5), (73, .iload_n 3)] (by decide +kernel) rfl ?_
          refine zp_pure (pc' := 77) (lv' := [(7, .int 0), (6, .int x38), (0, .ref to), (1, .ref a), (2, .ref b), (3, .int 1), (4, .int m6), (5, .int y5_16)]) (st' := [.int y5_16, .ref (to + 1)]) (i := .ifCond .eq 13) (by decide +kernel) rfl ?_
          refine zp_seg (pc' := 81) (lv' := [(7, .int 0), (6, .int x38), (0, .ref to), (1, .ref a), (2, .ref b), (3, .int 1), (4, .int m6), (5, .int y5_16)]) (st' := [.int 0, .int x38, .int y5_16, .ref (to + 1)]) [(77, .iload 6), (79, .iload 7)] (by decide +kernel) rfl ?_
          refine zr_callS (idx := 46) (j := 256) (by decide +kernel) (by decide +kernel) (by decide) (show zMe 256 = some zq_X16_sub from rfl) rfl rfl (Nat.le_of_ble_eq_true rfl) rfl rfl (Nat.le_of_ble_eq_true rfl) (Nat.le_of_ble_eq_true rfl) (c_X16_sub (w := wL16) x38 0 (by exact hx6r) (by exact hx7r)) (by omega) (fun v81 w81 hp81 => ?_)
          obtain ⟨hpw81, r81, rfl, hr81⟩ := hp81
          replace hpw81 := hpw81.symm
          subst hpw81
          have kr81 := zrng r81
          show zP _ _ _ _ [.int r81, .int y5_16, .ref (to + 1)] _ _ _ _ _
          refine zp_seg (pc' := 94) (lv' := [(7, .int 0), (6, .int x38), (0, .ref to), (1, .ref a), (2, .ref b), (3, .int 1), (4, .int m6), (5, .int y5_16)]) (st' := [.int r81, .int y5_16, .ref (to + 1)]) [(84, .goto 10)] (by decide +kernel) rfl ?_
          refine zr_iast (by decide +kernel) hgt (zin (by first | omega | decide) (by first | omega | decide)) ?_
          show zP (d + 1) zq_X16_plus 95 [(7, .int 0), (6, .int x38), (0, .ref to), (1, .ref a), (2, .ref b), (3, .int 1), (4, .int m6), (5, .int y5_16)] [] (zup wL16 (to + 1) (.inr (0, cap, .inl (upd gt (y5_16.toNatClampNeg) r81)))) sz 0 0 Post
          obtain ⟨w94, ew94⟩ : ∃ wz9, wz9 = zup wL16 (to + 1) (.inr (0, cap, .inl (upd gt (y5_16.toNatClampNeg) r81))) := ⟨_, rfl⟩
          have hsi94 : zSI wL16 w94 := by rw [ew94]; exact zSI.arr _ hgt
          have heq94 : ∀ x, x ≠ to + 1 → w94 x = wL16 x := fun x hx => by rw [ew94]; exact zup_n hx
          have hc94 : w94 (to + 1) = some (.inr (0, cap, .inl (upd gt (y5_16.toNatClampNeg) r81))) := by rw [ew94]; exact zup_s
          rw [← ew94]
          clear ew94
          refine zp_seg (pc' := 98) (lv' := [(5, .int (y5_16 + 1)), (7, .int 0), (6, .int x38), (0, .ref to), (1, .ref a), (2, .ref b), (3, .int 1), (4, .int m6)]) (st' := []) [(95, .iinc 5 1)] (by decide +kernel) rfl ?_
          have k29 := zaddC y5_16 1 (n := 1) (by decide) (by omega) (by omega)
          generalize ev98 : (y5_16 + 1 : Int32) = v98 at k29 ⊢
          have kv98 := zrng v98
          refine zp_seg (pc' := 16) (lv' := [(5, .int v98), (7, .int 0), (6, .int x38), (0, .ref to), (1, .ref a), (2, .ref b), (3, .int 1), (4, .int m6)]) (st' := []) [(98, .goto (-82))] (by decide +kernel) rfl ?_
          have hz30 : (v98.toNatClampNeg : Int) = v98.toInt := znat (by first | omega | decide)
          exact (ih16 w94 v98 (hsiL16.tr hsi94) (fun x hx => ((heq94 x (by omega)).trans (heqL16 x (by omega)))) (by first | assumption | omega | decide) (by first | assumption | omega | decide) (by
                refine ⟨_, hc94, fun t ht => ?_⟩
                by_cases e : t = y5_16.toNatClampNeg
                · subst e
                  rw [zupd_s]
                  refine ⟨hr81.1, ?_⟩
                  rw [hr81.2, zaS_c, ← hx6, ← hx7]
                · rw [zupd_n _ _ e]
                  exact hgtv t (by omega)) (by
                by_cases ea : a = to
                · have e9 := hgt.symm.trans (ea ▸ hga)
                  cases e9
                  exact ⟨_, ea ▸ hc94, fun t h1 h2 => by rw [zupd_n _ _ (by omega)]; exact hgav t (by omega) h2⟩
                · exact ⟨ga, (heq94 (a + 1) (by omega)).trans hga, fun t h1 h2 => hgav t (by omega) h2⟩) (by
                by_cases ea : b = to
                · have e9 := hgt.symm.trans (ea ▸ hgb)
                  cases e9
                  exact ⟨_, ea ▸ hc94, fun t h1 h2 => by rw [zupd_n _ _ (by omega)]; exact hgbv t (by omega) h2⟩
                · exact ⟨gb, (heq94 (b + 1) (by omega)).trans hgb, fun t h1 h2 => hgbv t (by omega) h2⟩) (by omega)).more (zfa1 rfl (zfa1 rfl (zfa1 rfl (zfa1 rfl (zfa1 rfl (zfa1 rfl (zfa0)))))))
        ·
          have f31 := znleI cc51
          refine zp_seg (pc' := 55) (lv' := [(6, .int x38), (0, .ref to), (1, .ref a), (2, .ref b), (3, .int 1), (4, .int m6), (5, .int y5_16)]) (st' := [.ref b]) [(54, .aload_n 2)] (by decide +kernel) rfl ?_
          refine zr_get (idx := 30) (k := 0) (v := .ref (b + 1)) (by decide +kernel) (by decide +kernel) hb26 rfl ?_
          refine zp_seg (pc' := 60) (lv' := [(6, .int x38), (0, .ref to), (1, .ref a), (2, .ref b), (3, .int 1), (4, .int m6), (5, .int y5_16)]) (st' := [.int y5_16, .ref (b + 1)]) [(58, .iload 5)] (by decide +kernel) rfl ?_
          refine zr_iald (by decide +kernel) hgb (zin (by first | omega | decide) (by first | omega | decide)) ?_
          obtain ⟨x60, ex60⟩ : ∃ x9, x9 = gb (y5_16.toNatClampNeg) := ⟨_, rfl⟩
          rw [← ex60]
          have kx60 := zrng x60
          have hvx60 := (fun t (h9 : y5_16.toNatClampNeg ≤ t ∧ t < zln q) => hgbv t h9.1 h9.2) (y5_16.toNatClampNeg) (by omega)
          rw [← ex60] at hvx60
          have hwx60 : 0 ≤ x60.toInt ∧ x60.toInt < 2147483647 := hvx60.1
          refine zp_seg (pc' := 67) (lv' := [(7, .int x60), (6, .int x38), (0, .ref to), (1, .ref a), (2, .ref b), (3, .int 1), (4, .int m6), (5, .int y5_16)]) (st' := []) [(61, .goto 4), (65, .istore 7)] (by decide +kernel) rfl ?_
          have hx6r : zr1 x38 := by first | exact hvx38.1 | exact zr1_0
          have hx6 : zf x38 = p.1 y5_16.toNatClampNeg := by first | exact hvx38.2 | exact (zf_0.trans (zln_dg p _ (by omega)).symm)
          have hx7r : zr1 x60 := by first | exact hvx60.1 | exact zr1_0
          have hx7 : zf x60 = q.1 y5_16.toNatClampNeg := by first | exact hvx60.2 | exact (zf_0.trans (zln_dg q _ (by omega)).symm)
          refine zp_seg (pc' := 68) (lv' := [(7, .int x60), (6, .int x38), (0, .ref to), (1, .ref a), (2, .ref b), (3, .int 1), (4, .int m6), (5, .int y5_16)]) (st' := [.ref to]) [(67, .aload_n 0)] (by decide +kernel) rfl ?_
          have hb32 : wL16 to = some (.inl (14, [.ref (to + 1), .int nto])) := (heqL16 to (by omega)).trans hto1
          refine zr_get (idx := 30) (k := 0) (v := .ref (to + 1)) (by decide +kernel) (by decide +kernel) hb32 rfl ?_
          refine zp_seg (pc' := 74) (lv' := [(7, .int x60), (6, .int x38), (0, .ref to), (1, .ref a), (2, .ref b), (3, .int 1), (4, .int m6), (5, .int y5_16)]) (st' := [.int 1, .int y5_16, .ref (to + 1)]) [(71, .iload 5), (73, .iload_n 3)] (by decide +kernel) rfl ?_
          refine zp_pure (pc' := 77) (lv' := [(7, .int x60), (6, .int x38), (0, .ref to), (1, .ref a), (2, .ref b), (3, .int 1), (4, .int m6), (5, .int y5_16)]) (st' := [.int y5_16, .ref (to + 1)]) (i := .ifCond .eq 13) (by decide +kernel) rfl ?_
          refine zp_seg (pc' := 81) (lv' := [(7, .int x60), (6, .int x38), (0, .ref to), (1, .ref a), (2, .ref b), (3, .int 1), (4, .int m6), (5, .int y5_16)]) (st' := [.int x60, .int x38, .int y5_16, .ref (to + 1)]) [(77, .iload 6), (79, .iload 7)] (by decide +kernel) rfl ?_
          refine zr_callS (idx := 46) (j := 256) (by decide +kernel) (by decide +kernel) (by decide) (show zMe 256 = some zq_X16_sub from rfl) rfl rfl (Nat.le_of_ble_eq_true rfl) rfl rfl (Nat.le_of_ble_eq_true rfl) (Nat.le_of_ble_eq_true rfl) (c_X16_sub (w := wL16) x38 x60 (by exact hx6r) (by exact hx7r)) (by omega) (fun v81 w81 hp81 => ?_)
          obtain ⟨hpw81, r81, rfl, hr81⟩ := hp81
          replace hpw81 := hpw81.symm
          subst hpw81
          have kr81 := zrng r81
          show zP _ _ _ _ [.int r81, .int y5_16, .ref (to + 1)] _ _ _ _ _
          refine zp_seg (pc' := 94) (lv' := [(7, .int x60), (6, .int x38), (0, .ref to), (1, .ref a), (2, .ref b), (3, .int 1), (4, .int m6), (5, .int y5_16)]) (st' := [.int r81, .int y5_16, .ref (to + 1)]) [(84, .goto 10)] (by decide +kernel) rfl ?_
          refine zr_iast (by decide +kernel) hgt (zin (by first | omega | decide) (by first | omega | decide)) ?_
          show zP (d + 1) zq_X16_plus 95 [(7, .int x60), (6, .int x38), (0, .ref to), (1, .ref a), (2, .ref b), (3, .int 1), (4, .int m6), (5, .int y5_16)] [] (zup wL16 (to + 1) (.inr (0, cap, .inl (upd gt (y5_16.toNatClampNeg) r81)))) sz 0 0 Post
          obtain ⟨w94, ew94⟩ : ∃ wz9, wz9 = zup wL16 (to + 1) (.inr (0, cap, .inl (upd gt (y5_16.toNatClampNeg) r81))) := ⟨_, rfl⟩
          have hsi94 : zSI wL16 w94 := by rw [ew94]; exact zSI.arr _ hgt
          have heq94 : ∀ x, x ≠ to + 1 → w94 x = wL16 x := fun x hx => by rw [ew94]; exact zup_n hx
          have hc94 : w94 (to + 1) = some (.inr (0, cap, .inl (upd gt (y5_16.toNatClampNeg) r81))) := by rw [ew94]; exact zup_s
          rw [← ew94]
          clear ew94
          refine zp_seg (pc' := 98) (lv' := [(5, .int (y5_16 + 1)), (7, .int x60), (6, .int x38), (0, .ref to), (1, .ref a), (2, .ref b), (3, .int 1), (4, .int m6)]) (st' := []) [(95, .iinc 5 1)] (by decide +kernel) rfl ?_
          have k33 := zaddC y5_16 1 (n := 1) (by decide) (by omega) (by omega)
          generalize ev98 : (y5_16 + 1 : Int32) = v98 at k33 ⊢
          have kv98 := zrng v98
          refine zp_seg (pc' := 16) (lv' := [(5, .int v98), (7, .int x60), (6, .int x38), (0, .ref to), (1, .ref a), (2, .ref b), (3, .int 1), (4, .int m6)]) (st' := []) [(98, .goto (-82))] (by decide +kernel) rfl ?_
          have hz34 : (v98.toNatClampNeg : Int) = v98.toInt := znat (by first | omega | decide)
          exact (ih16 w94 v98 (hsiL16.tr hsi94) (fun x hx => ((heq94 x (by omega)).trans (heqL16 x (by omega)))) (by first | assumption | omega | decide) (by first | assumption | omega | decide) (by
                refine ⟨_, hc94, fun t ht => ?_⟩
                by_cases e : t = y5_16.toNatClampNeg
                · subst e
                  rw [zupd_s]
                  refine ⟨hr81.1, ?_⟩
                  rw [hr81.2, zaS_c, ← hx6, ← hx7]
                · rw [zupd_n _ _ e]
                  exact hgtv t (by omega)) (by
                by_cases ea : a = to
                · have e9 := hgt.symm.trans (ea ▸ hga)
                  cases e9
                  exact ⟨_, ea ▸ hc94, fun t h1 h2 => by rw [zupd_n _ _ (by omega)]; exact hgav t (by omega) h2⟩
                · exact ⟨ga, (heq94 (a + 1) (by omega)).trans hga, fun t h1 h2 => hgav t (by omega) h2⟩) (by
                by_cases ea : b = to
                · have e9 := hgt.symm.trans (ea ▸ hgb)
                  cases e9
                  exact ⟨_, ea ▸ hc94, fun t h1 h2 => by rw [zupd_n _ _ (by omega)]; exact hgbv t (by omega) h2⟩
                · exact ⟨gb, (heq94 (b + 1) (by omega)).trans hgb, fun t h1 h2 => hgbv t (by omega) h2⟩) (by omega)).more (zfa1 rfl (zfa1 rfl (zfa1 rfl (zfa1 rfl (zfa1 rfl (zfa1 rfl (zfa0)))))))
  have hl35 : (0 : Int32).toInt = 0 := by decide
  have hz36 : ((0 : Int32).toNatClampNeg : Int) = 0 := by decide
  exact (hL16 _ w 0 zSI.rf (fun _ _ => rfl) (by first | assumption | omega | decide) (by first | assumption | omega | decide) (by
        exact ⟨fto, hto2, fun t ht => absurd ht (by omega)⟩) (by
        exact ⟨fa, ha2, fun t _ ht => ha5 t ht⟩) (by
        exact ⟨fb, hb2, fun t _ ht => hb5 t ht⟩) (Nat.lt_succ_self _)).more (zfa1 rfl (zfa1 rfl (zfa1 rfl (zfa1 rfl (zfa1 rfl (zfa1 rfl (zfa0)))))))

set_option maxHeartbeats 8000000 in
set_option maxRecDepth 100000 in
theorem c_X16_scale {w : zM} {cap ca : Nat} {p : zA1} (to : Nat) (a : Nat) (v : Int32) (hUo_to : zUo w to cap) (hU_a : zU w a ca p) (h_v : zr1 v) (hpc : zln p ≤ cap) : zCon 2 zq_X16_scale [.ref to, .ref a, .int v] w (fun v9 w9' => zSI w w9' ∧ (∀ x, (x < to ∨ to + 2 ≤ x) → w9' x = w x) ∧ zU w9' to cap (zaM (zaC (zf v)) p) ∧ v9 = none) := by
  intro d sz hd
  obtain ⟨d, rfl⟩ : ∃ d9, d = d9 + 1 := ⟨d - 1, by omega⟩
  generalize hPost : (fun (r9' : Option (Option Value)) (w9' : zM) (z9 : Nat) => z9 = sz ∧ ∃ v9, r9' = some v9 ∧ (zSI w w9' ∧ (∀ x, (x < to ∨ to + 2 ≤ x) → w9' x = w x) ∧ zU w9' to cap (zaM (zaC (zf v)) p) ∧ v9 = none)) = Post
  show zP (d + 1) zq_X16_scale 0 [(0, .ref to), (1, .ref a), (2, .int v)] [] w sz 0 0 Post
  have k1 := zrng v
  have hn1 := hUo_to.ne hU_a.o
  have hn3 := hU_a.o.ne hUo_to
  obtain ⟨na, fa, ha1, ha2, ha3, ha4, ha5⟩ := id hU_a
  have kna := zrng na
  have k2 := zrng na
  have hz3 : (na.toNatClampNeg : Int) = na.toInt := znat (by first | omega | decide)
  obtain ⟨nto, fto, hto1, hto2⟩ := id hUo_to
  refine zp_seg (pc' := 2) (lv' := [(3, .int 0), (0, .ref to), (1, .ref a), (2, .int v)]) (st' := []) [(0, .iconst 0), (1, .istore_n 3)] (by decide +kernel) rfl ?_
  have hL2 : ∀ (mm2 : Nat) (wL2 : zM) (y3_2 : Int32), (zSI w wL2) → (∀ x, (x < to + 1 ∨ to + 1 + 1 ≤ x) → wL2 x = w x) → (0 ≤ y3_2.toInt) → (y3_2.toInt ≤ na.toInt) → (∃ gt, wL2 (to + 1) = some (.inr (0, cap, .inl gt)) ∧ ∀ t, t < y3_2.toNatClampNeg → zr1 (gt t) ∧ zf (gt t) = zf v * p.1 t) → (∃ ga, wL2 (a + 1) = some (.inr (0, ca, .inl ga)) ∧ ∀ t, y3_2.toNatClampNeg ≤ t → t < zln p → zr1 (ga t) ∧ zf (ga t) = p.1 t) → (2147483647 - y3_2.toInt).toNat < mm2 → zP (d + 1) zq_X16_scale 2 [(0, .ref to), (1, .ref a), (2, .int v), (3, .int y3_2)] [] wL2 sz 0 0 Post := by
    intro mm2
    induction mm2 with
    | zero => intros; omega
    | succ mm2 ih2 =>
    intro wL2 y3_2 hsiL2 heqL2 hi2_0 hi2_1 hT hA hmu2
    have ky3_2 := zrng y3_2
    refine zp_seg (pc' := 4) (lv' := [(0, .ref to), (1, .ref a), (2, .int v), (3, .int y3_2)]) (st' := [.ref a, .int y3_2]) [(2, .iload_n 3), (3, .aload_n 1)] (by decide +kernel) rfl ?_
    have hb4 : wL2 a = some (.inl (14, [.ref (a + 1), .int na])) := (heqL2 a (by omega)).trans ha1
    refine zr_get (idx := 25) (k := 1) (v := .int na) (by decide +kernel) (by decide +kernel) hb4 rfl ?_
    refine zp_if (i := .if_icmp .ge 25) (c := na ≤ y3_2) (t := 32) (e := 10) (lv' := [(0, .ref to), (1, .ref a), (2, .int v), (3, .int y3_2)]) (st' := []) (by decide +kernel) rfl (fun cc7 => ?_) (fun cc7 => ?_)
    ·
      have f5 := zleI cc7
      obtain ⟨gt, hgt, hgtv⟩ := id hT
      have hz6 : (y3_2.toNatClampNeg : Int) = y3_2.toInt := znat (by first | omega | decide)
      refine zp_seg (pc' := 34) (lv' := [(0, .ref to), (1, .ref a), (2, .int v), (3, .int y3_2)]) (st' := [.ref a, .ref to]) [(32, .aload_n 0), (33, .aload_n 1)] (by decide +kernel) rfl ?_
      refine zr_get (idx := 25) (k := 1) (v := .int na) (by decide +kernel) (by decide +kernel) hb4 rfl ?_
      have hb7 : wL2 to = some (.inl (14, [.ref (to + 1), .int nto])) := (heqL2 to (by omega)).trans hto1
      refine zr_put2 (idx := 25) (k := 1) (fs2 := [.ref (to + 1), .int na]) (by decide +kernel) (by decide +kernel) hb7 (Nat.le_of_ble_eq_true rfl) rfl rfl rfl ?_
      show zP (d + 1) zq_X16_scale 40 [(0, .ref to), (1, .ref a), (2, .int v), (3, .int y3_2)] [] (zup wL2 to (.inl (14, [.ref (to + 1), .int na]))) sz 0 0 Post
      obtain ⟨w37, ew37⟩ : ∃ wz9, wz9 = zup wL2 to (.inl (14, [.ref (to + 1), .int na])) := ⟨_, rfl⟩
      have hsi37 : zSI wL2 w37 := by rw [ew37]; exact zSI.setU hb7
      have heq37 : ∀ x, x ≠ to → w37 x = wL2 x := fun x hx => by rw [ew37]; exact zup_n hx
      have hc37 : w37 to = some (.inl (14, [.ref (to + 1), .int na])) := by rw [ew37]; exact zup_s
      rw [← ew37]
      clear ew37
      have hb8 : w37 (to + 1) = some (.inr (0, cap, .inl gt)) := (heq37 (to + 1) (by omega)).trans hgt
      have hUn7 : zUw w37 to cap na.toNatClampNeg (zaM (zaC (zf v)) p) := ⟨_, gt, hc37, hb8, by omega, by omega, fun t ht => by rw [zaCM_c]; exact hgtv t (by omega), fun t ht => by rw [zaCM_c, zln_dg p t (by omega)]; exact zF_m0 _⟩
      refine zp_seg (pc' := 41) (lv' := [(0, .ref to), (1, .ref a), (2, .int v), (3, .int y3_2)]) (st' := [.ref to]) [(40, .aload_n 0)] (by decide +kernel) rfl ?_
      refine zr_callV (idx := 52) (j := 251) (by decide +kernel) (by decide +kernel) (show zMe 251 = some zq_X15_trim from rfl) rfl rfl (Nat.le_of_ble_eq_true rfl) rfl rfl hc37 (Nat.le_of_ble_eq_true rfl) (Nat.le_of_ble_eq_true rfl) (c_X15_trim (w := w37) to hUn7) (by omega) (fun v41 w41 hp41 => ?_)
      obtain ⟨hsi41, heq41, hp41_0, rfl⟩ := hp41
      show zP _ _ _ _ [] _ _ _ _ _
      have hoffend : ∀ x, (x < to ∨ to + 2 ≤ x) → w41 x = w x := fun x hx => ((heq41 x (by omega)).trans ((heq37 x (by omega)).trans (heqL2 x (by omega))))
      refine zr_retV (by decide +kernel) rfl ?_
      rw [← hPost]; exact ⟨rfl, _, rfl, ((hsiL2.tr hsi37).tr hsi41), hoffend, (by first | exact hp41_0 | (have z9 := hp41_0; simpa using z9)), rfl⟩
    ·
      have f9 := znleI cc7
      obtain ⟨gt, hgt, hgtv⟩ := id hT
      obtain ⟨ga, hga, hgav⟩ := id hA
      have hz10 : (y3_2.toNatClampNeg : Int) = y3_2.toInt := znat (by first | omega | decide)
      refine zp_seg (pc' := 11) (lv' := [(0, .ref to), (1, .ref a), (2, .int v), (3, .int y3_2)]) (st' := [.ref to]) [(10, .aload_n 0)] (by decide +kernel) rfl ?_
      have hb11 : wL2 to = some (.inl (14, [.ref (to + 1), .int nto])) := (heqL2 to (by omega)).trans hto1
      refine zr_get (idx := 30) (k := 0) (v := .ref (to + 1)) (by decide +kernel) (by decide +kernel) hb11 rfl ?_
      refine zp_seg (pc' := 16) (lv' := [(0, .ref to), (1, .ref a), (2, .int v), (3, .int y3_2)]) (st' := [.ref a, .int y3_2, .ref (to + 1)]) [(14, .iload_n 3), (15, .aload_n 1)] (by decide +kernel) rfl ?_
      refine zr_get (idx := 30) (k := 0) (v := .ref (a + 1)) (by decide +kernel) (by decide +kernel) hb4 rfl ?_
      refine zp_seg (pc' := 20) (lv' := [(0, .ref to), (1, .ref a), (2, .int v), (3, .int y3_2)]) (st' := [.int y3_2, .ref (a + 1), .int y3_2, .ref (to + 1)]) [(19, .iload_n 3)] (by decide +kernel) rfl ?_
      refine zr_iald (by decide +kernel) hga (zin (by first | omega | decide) (by first | omega | decide)) ?_
      obtain ⟨x20, ex20⟩ : ∃ x9, x9 = ga (y3_2.toNatClampNeg) := ⟨_, rfl⟩
      rw [← ex20]
      have kx20 := zrng x20
      have hvx20 := (fun t (h9 : y3_2.toNatClampNeg ≤ t ∧ t < zln p) => hgav t h9.1 h9.2) (y3_2.toNatClampNeg) (by omega)
      rw [← ex20] at hvx20
      have hwx20 : 0 ≤ x20.toInt ∧ x20.toInt < 2147483647 := hvx20.1
      refine zp_seg (pc' := 22) (lv' := [(0, .ref to), (1, .ref a), (2, .int v), (3, .int y3_2)]) (st' := [.int v, .int x20, .int y3_2, .ref (to + 1)]) [(21, .iload_n 2)] (by decide +kernel) rfl ?_
      refine zr_callS (idx := 56) (j := 257) (by decide +kernel) (by decide +kernel) (by decide) (show zMe 257 = some zq_X16_mul from rfl) rfl rfl (Nat.le_of_ble_eq_true rfl) rfl rfl (Nat.le_of_ble_eq_true rfl) (Nat.le_of_ble_eq_true rfl) (c_X16_mul (w := wL2) x20 v (by exact hvx20.1) (by first | omega | decide | assumption)) (by omega) (fun v22 w22 hp22 => ?_)
      obtain ⟨hpw22, r22, rfl, hr22⟩ := hp22
      replace hpw22 := hpw22.symm
      subst hpw22
      have kr22 := zrng r22
      show zP _ _ _ _ [.int r22, .int y3_2, .ref (to + 1)] _ _ _ _ _
      refine zr_iast (by decide +kernel) hgt (zin (by first | omega | decide) (by first | omega | decide)) ?_
      show zP (d + 1) zq_X16_scale 26 [(0, .ref to), (1, .ref a), (2, .int v), (3, .int y3_2)] [] (zup wL2 (to + 1) (.inr (0, cap, .inl (upd gt (y3_2.toNatClampNeg) r22)))) sz 0 0 Post
      obtain ⟨w25, ew25⟩ : ∃ wz9, wz9 = zup wL2 (to + 1) (.inr (0, cap, .inl (upd gt (y3_2.toNatClampNeg) r22))) := ⟨_, rfl⟩
      have hsi25 : zSI wL2 w25 := by rw [ew25]; exact zSI.arr _ hgt
      have heq25 : ∀ x, x ≠ to + 1 → w25 x = wL2 x := fun x hx => by rw [ew25]; exact zup_n hx
      have hc25 : w25 (to + 1) = some (.inr (0, cap, .inl (upd gt (y3_2.toNatClampNeg) r22))) := by rw [ew25]; exact zup_s
      rw [← ew25]
      clear ew25
      refine zp_seg (pc' := 29) (lv' := [(3, .int (y3_2 + 1)), (0, .ref to), (1, .ref a), (2, .int v)]) (st' := []) [(26, .iinc 3 1)] (by decide +kernel) rfl ?_
      have k12 := zaddC y3_2 1 (n := 1) (by decide) (by omega) (by omega)
      generalize ev29 : (y3_2 + 1 : Int32) = v29 at k12 ⊢
      have kv29 := zrng v29
      refine zp_seg (pc' := 2) (lv' := [(3, .int v29), (0, .ref to), (1, .ref a), (2, .int v)]) (st' := []) [(29, .goto (-27))] (by decide +kernel) rfl ?_
      have hz13 : (v29.toNatClampNeg : Int) = v29.toInt := znat (by first | omega | decide)
      exact (ih2 w25 v29 (hsiL2.tr hsi25) (fun x hx => ((heq25 x (by omega)).trans (heqL2 x (by omega)))) (by first | assumption | omega | decide) (by first | assumption | omega | decide) (by
            refine ⟨_, hc25, fun t ht => ?_⟩
            by_cases e : t = y3_2.toNatClampNeg
            · subst e
              rw [zupd_s]
              exact ⟨hr22.1, by rw [hr22.2, hvx20.2]; exact zF_comm _ _⟩
            · rw [zupd_n _ _ e]
              exact hgtv t (by omega)) (by
            by_cases ea : a = to
            · have e9 := hgt.symm.trans (ea ▸ hga)
              cases e9
              exact ⟨_, ea ▸ hc25, fun t h1 h2 => by rw [zupd_n _ _ (by omega)]; exact hgav t (by omega) h2⟩
            · exact ⟨ga, (heq25 (a + 1) (by omega)).trans hga, fun t h1 h2 => hgav t (by omega) h2⟩) (by omega)).more (zfa1 rfl (zfa1 rfl (zfa1 rfl (zfa1 rfl (zfa0)))))
  have hl14 : (0 : Int32).toInt = 0 := by decide
  have hz15 : ((0 : Int32).toNatClampNeg : Int) = 0 := by decide
  exact (hL2 _ w 0 zSI.rf (fun _ _ => rfl) (by first | assumption | omega | decide) (by first | assumption | omega | decide) (by
        exact ⟨fto, hto2, fun t ht => absurd ht (by omega)⟩) (by
        exact ⟨fa, ha2, fun t _ ht => ha5 t ht⟩) (Nat.lt_succ_self _)).more (zfa1 rfl (zfa1 rfl (zfa1 rfl (zfa1 rfl (zfa0)))))
