set_option maxHeartbeats 8000000 in
set_option maxRecDepth 100000 in
theorem c_X16_monic {w : zM} {ca : Nat} {p : zA1} (m : Nat) (a : Nat) (hU_a : zU w a ca p) : zCon 3 zq_X16_monic [.ref m, .ref a] w (fun v9 w9' => zSI w w9' ∧ (∀ x, (x < a ∨ a + 2 ≤ x) → w9' x = w x) ∧ zU w9' a ca (zaM (zaC (zinvF (zhd p))) p) ∧ v9 = none) := by
  intro d sz hd
  obtain ⟨d, rfl⟩ : ∃ d9, d = d9 + 1 := ⟨d - 1, by omega⟩
  generalize hPost : (fun (r9' : Option (Option Value)) (w9' : zM) (z9 : Nat) => z9 = sz ∧ ∃ v9, r9' = some v9 ∧ (zSI w w9' ∧ (∀ x, (x < a ∨ a + 2 ≤ x) → w9' x = w x) ∧ zU w9' a ca (zaM (zaC (zinvF (zhd p))) p) ∧ v9 = none)) = Post
  show zP (d + 1) zq_X16_monic 0 [(0, .ref m), (1, .ref a)] [] w sz 0 0 Post
  have hcp := hU_a.cap
  obtain ⟨na, fa, ha1, ha2, ha3, ha4, ha5⟩ := id hU_a
  have kna := zrng na
  have k1 := zrng na
  have hz2 : (na.toNatClampNeg : Int) = na.toInt := znat (by first | omega | decide)
  refine zp_seg (pc' := 1) (lv' := [(0, .ref m), (1, .ref a)]) (st' := [.ref a]) [(0, .aload_n 1)] (by decide +kernel) rfl ?_
  refine zr_get (idx := 25) (k := 1) (v := .int na) (by decide +kernel) (by decide +kernel) ha1 rfl ?_
  refine zp_if (i := .ifCond .le 15) (c := na ≤ 0) (t := 19) (e := 7) (lv' := [(0, .ref m), (1, .ref a)]) (st' := []) (by decide +kernel) rfl (fun cc4 => ?_) (fun cc4 => ?_)
  ·
    have f4 := zleI cc4
    rw [show (0 : Int32).toInt = 0 from by decide] at f4
    have hoffend : ∀ x, (x < a ∨ a + 2 ≤ x) → w x = w x := fun x hx => rfl
    refine zr_retV (by decide +kernel) rfl ?_
    rw [← hPost]; exact ⟨rfl, _, rfl, zSI.rf, hoffend, (by
          first
            | (have e : zaM (zaC (zinvF (zhd p))) p = p := by rw [zln_0.mp (show zln p = 0 by omega)]; exact zaM_Zr _
               rw [e]
               exact hU_a)
            | (have e : zf r13 = zinvF (zhd p) := by rw [hr13.2, hr10.2]
               rw [← e]
               exact hU_a)), rfl⟩
  ·
    have f6 := znleI cc4
    rw [show (0 : Int32).toInt = 0 from by decide] at f6
    refine zp_seg (pc' := 10) (lv' := [(0, .ref m), (1, .ref a)]) (st' := [.ref a, .ref a, .ref a]) [(7, .aload_n 1), (8, .aload_n 1), (9, .aload_n 1)] (by decide +kernel) rfl ?_
    refine zr_callV (idx := 66) (j := 253) (by decide +kernel) (by decide +kernel) (show zMe 253 = some zq_X15_head from rfl) rfl rfl (Nat.le_of_ble_eq_true rfl) rfl rfl ha1 (Nat.le_of_ble_eq_true rfl) (Nat.le_of_ble_eq_true rfl) (c_X15_head (w := w) a hU_a) (by omega) (fun v10 w10 hp10 => ?_)
    obtain ⟨hpw10, r10, rfl, hr10⟩ := hp10
    replace hpw10 := hpw10.symm
    subst hpw10
    have kr10 := zrng r10
    show zP _ _ _ _ [.int r10, .ref a, .ref a] _ _ _ _ _
    refine zr_callS (idx := 13) (j := 259) (by decide +kernel) (by decide +kernel) (by decide) (show zMe 259 = some zq_X16_inv from rfl) rfl rfl (Nat.le_of_ble_eq_true rfl) rfl rfl (Nat.le_of_ble_eq_true rfl) (Nat.le_of_ble_eq_true rfl) (c_X16_inv (w := w) r10 (by exact hr10.1)) (by omega) (fun v13 w13 hp13 => ?_)
    obtain ⟨hpw13, r13, rfl, hr13⟩ := hp13
    replace hpw13 := hpw13.symm
    subst hpw13
    have kr13 := zrng r13
    show zP _ _ _ _ [.int r13, .ref a, .ref a] _ _ _ _ _
    have ho16_to := zU.o hU_a
    refine zr_callS (idx := 70) (j := 266) (by decide +kernel) (by decide +kernel) (by decide) (show zMe 266 = some zq_X16_scale from rfl) rfl rfl (Nat.le_of_ble_eq_true rfl) rfl rfl (Nat.le_of_ble_eq_true rfl) (Nat.le_of_ble_eq_true rfl) (c_X16_scale (w := w) a a r13 ho16_to hU_a (by exact hr13.1) (by first | omega | decide | assumption)) (by omega) (fun v16 w16 hp16 => ?_)
    obtain ⟨hsi16, heq16, hp16_0, rfl⟩ := hp16
    show zP _ _ _ _ [] _ _ _ _ _
    have hoffend : ∀ x, (x < a ∨ a + 2 ≤ x) → w16 x = w x := fun x hx => (heq16 x (by omega))
    refine zr_retV (by decide +kernel) rfl ?_
    rw [← hPost]; exact ⟨rfl, _, rfl, hsi16, hoffend, (by
          first
            | (have e : zaM (zaC (zinvF (zhd p))) p = p := by rw [zln_0.mp (show zln p = 0 by omega)]; exact zaM_Zr _
               rw [e]
               exact hU_a)
            | (have e : zf r13 = zinvF (zhd p) := by rw [hr13.2, hr10.2]
               rw [← e]
               exact hp16_0)), rfl⟩

set_option maxHeartbeats 8000000 in
set_option maxRecDepth 100000 in
theorem c_X16_gcd {w : zM} {g : Nat → Int32} {r : Nat → Value} {ct ca cb : Nat} {p q : zA1} {g1 : Int32} (m : Nat) (to : Nat) (a : Nat) (b : Nat) (hm : w m = some (.inl (15, zMo m g r))) (hR_m : zR m w) (hUo_to : zUo w to ct) (hU_a : zU w a ca p) (hU_b : zU w b cb q) (hut : 0 ≤ g1.toInt ∧ g1.toInt + 3 ≤ 160) (ht : (m + 276 ≤ to ∧ to + 2 ≤ m + 276 + 2 * g1.toNatClampNeg) ∨ m + 596 ≤ to) (ha : (m + 276 ≤ a ∧ a + 2 ≤ m + 276 + 2 * g1.toNatClampNeg) ∨ m + 596 ≤ a) (hb : (m + 276 ≤ b ∧ b + 2 ≤ m + 276 + 2 * g1.toNatClampNeg) ∨ m + 596 ≤ b) (hpc : zln p ≤ 1000) (hqc : zln q ≤ 1000) (hct : zln (zgcd p q) ≤ ct) (hg1 : g 1 = g1) : zCon 4 zq_X16_gcd [.ref m, .ref to, .ref a, .ref b] w (fun v9 w9' => zSI w w9' ∧ (∀ x, (x < to ∨ to + 2 ≤ x) ∧ (x < m + 276 + 2 * g1.toNatClampNeg ∨ m + 276 + 2 * g1.toNatClampNeg + (320 - 2 * g1.toNatClampNeg) ≤ x) → w9' x = w x) ∧ zU w9' to ct (zgcd p q) ∧ v9 = none) := by
  subst hg1
  intro d sz hd
  obtain ⟨d, rfl⟩ : ∃ d9, d = d9 + 1 := ⟨d - 1, by omega⟩
  generalize hPost : (fun (r9' : Option (Option Value)) (w9' : zM) (z9 : Nat) => z9 = sz ∧ ∃ v9, r9' = some v9 ∧ (zSI w w9' ∧ (∀ x, (x < to ∨ to + 2 ≤ x) ∧ (x < m + 276 + 2 * (g 1).toNatClampNeg ∨ m + 276 + 2 * (g 1).toNatClampNeg + (320 - 2 * (g 1).toNatClampNeg) ≤ x) → w9' x = w x) ∧ zU w9' to ct (zgcd p q) ∧ v9 = none)) = Post
  show zP (d + 1) zq_X16_gcd 0 [(0, .ref m), (1, .ref to), (2, .ref a), (3, .ref b)] [] w sz 0 0 Post
  have k1 := zrng (g 1)
  have hz2 : ((g 1).toNatClampNeg : Int) = (g 1).toInt := znat (by first | omega | decide)
  refine zp_seg (pc' := 1) (lv' := [(0, .ref m), (1, .ref to), (2, .ref a), (3, .ref b)]) (st' := [.ref m]) [(0, .aload_n 0)] (by decide +kernel) rfl ?_
  refine zr_get (idx := 21) (k := 1) (v := .int (g 1)) (by decide +kernel) (by decide +kernel) hm rfl ?_
  refine zp_seg (pc' := 7) (lv' := [(4, .int (g 1)), (0, .ref m), (1, .ref to), (2, .ref a), (3, .ref b)]) (st' := [.ref m]) [(4, .istore 4), (6, .aload_n 0)] (by decide +kernel) rfl ?_
  refine zr_callV (idx := 74) (j := 263) (by decide +kernel) (by decide +kernel) (show zMe 263 = some zq_X16_newU from rfl) rfl rfl (Nat.le_of_ble_eq_true rfl) rfl rfl hm (Nat.le_of_ble_eq_true rfl) (Nat.le_of_ble_eq_true rfl) (c_X16_newU (w := w) (g1 := (g 1)) m hm hR_m (by first | omega | decide | assumption) rfl) (by omega) (fun v7 w7 hp7 => ?_)
  obtain ⟨hsi7, heq7, hp7_0, hp7_1, rfl⟩ := hp7
  have hM7 : w7 m = some (.inl (15, zMo m (zs g 1 ((g 1) + 1)) r)) := hp7_0
  show zP _ _ _ _ [.ref (m + 276 + 2 * (g 1).toNatClampNeg)] _ _ _ _ _
  refine zp_seg (pc' := 13) (lv' := [(5, .ref (m + 276 + 2 * (g 1).toNatClampNeg)), (4, .int (g 1)), (0, .ref m), (1, .ref to), (2, .ref a), (3, .ref b)]) (st' := [.ref m]) [(10, .astore 5), (12, .aload_n 0)] (by decide +kernel) rfl ?_
  have k4 := zaddC ((g 1)) 1 (n := 1) (by decide) (by omega) (by omega)
  have hz5 : (((g 1) + 1).toNatClampNeg : Int) = ((g 1) + 1).toInt := znat (by first | omega | decide)
  have hb6 := hR_m.si hsi7
  refine zr_callV (idx := 74) (j := 263) (by decide +kernel) (by decide +kernel) (show zMe 263 = some zq_X16_newU from rfl) rfl rfl (Nat.le_of_ble_eq_true rfl) rfl rfl hM7 (Nat.le_of_ble_eq_true rfl) (Nat.le_of_ble_eq_true rfl) (c_X16_newU (w := w7) (g1 := (((g 1) + 1))) m hM7 hb6 (by first | omega | decide | assumption) rfl) (by omega) (fun v13 w13 hp13 => ?_)
  obtain ⟨hsi13, heq13, hp13_0, hp13_1, rfl⟩ := hp13
  have hM13 : w13 m = some (.inl (15, zMo m (zs g 1 ((((g 1) + 1)) + 1)) r)) := hp13_0
  show zP _ _ _ _ [.ref (m + 276 + 2 * (((g 1) + 1)).toNatClampNeg)] _ _ _ _ _
  refine zp_seg (pc' := 19) (lv' := [(6, .ref (m + 276 + 2 * (((g 1) + 1)).toNatClampNeg)), (5, .ref (m + 276 + 2 * (g 1).toNatClampNeg)), (4, .int (g 1)), (0, .ref m), (1, .ref to), (2, .ref a), (3, .ref b)]) (st' := [.ref m]) [(16, .astore 6), (18, .aload_n 0)] (by decide +kernel) rfl ?_
  have k7 := zaddC ((((g 1) + 1))) 1 (n := 1) (by decide) (by omega) (by omega)
  have hz8 : (((((g 1) + 1)) + 1).toNatClampNeg : Int) = ((((g 1) + 1)) + 1).toInt := znat (by first | omega | decide)
  have hb9 := hb6.si hsi13
  refine zr_callV (idx := 74) (j := 263) (by decide +kernel) (by decide +kernel) (show zMe 263 = some zq_X16_newU from rfl) rfl rfl (Nat.le_of_ble_eq_true rfl) rfl rfl hM13 (Nat.le_of_ble_eq_true rfl) (Nat.le_of_ble_eq_true rfl) (c_X16_newU (w := w13) (g1 := (((((g 1) + 1)) + 1))) m hM13 hb9 (by first | omega | decide | assumption) rfl) (by omega) (fun v19 w19 hp19 => ?_)
  obtain ⟨hsi19, heq19, hp19_0, hp19_1, rfl⟩ := hp19
  have hM19 : w19 m = some (.inl (15, zMo m (zs g 1 ((((((g 1) + 1)) + 1)) + 1)) r)) := hp19_0
  show zP _ _ _ _ [.ref (m + 276 + 2 * (((((g 1) + 1)) + 1)).toNatClampNeg)] _ _ _ _ _
  refine zp_seg (pc' := 27) (lv' := [(7, .ref (m + 276 + 2 * (((((g 1) + 1)) + 1)).toNatClampNeg)), (6, .ref (m + 276 + 2 * (((g 1) + 1)).toNatClampNeg)), (5, .ref (m + 276 + 2 * (g 1).toNatClampNeg)), (4, .int (g 1)), (0, .ref m), (1, .ref to), (2, .ref a), (3, .ref b)]) (st' := [.ref a, .ref (m + 276 + 2 * (g 1).toNatClampNeg)]) [(22, .astore 7), (24, .aload 5), (26, .aload_n 2)] (by decide +kernel) rfl ?_
  have hb10 : zU w19 (m + 276 + 2 * (g 1).toNatClampNeg) 1000 zaZ := hp7_1.ag (fun x hx1 hx2 => ((heq19 x (by omega)).trans (heq13 x (by omega))))
  have ho27_to := zU.o hb10
  have hb11 : zU w19 a ca p := hU_a.ag (fun x hx1 hx2 => ((heq19 x (by omega)).trans ((heq13 x (by omega)).trans (heq7 x (by omega)))))
  refine zr_callS (idx := 62) (j := 264) (by decide +kernel) (by decide +kernel) (by decide) (show zMe 264 = some zq_X16_set from rfl) rfl rfl (Nat.le_of_ble_eq_true rfl) rfl rfl (Nat.le_of_ble_eq_true rfl) (Nat.le_of_ble_eq_true rfl) (c_X16_set (w := w19) (m + 276 + 2 * (g 1).toNatClampNeg) a ho27_to hb11 (by first | omega | decide | assumption) (by first | omega | decide | assumption)) (by omega) (fun v27 w27 hp27 => ?_)
  obtain ⟨hsi27, heq27, hp27_0, rfl⟩ := hp27
  show zP _ _ _ _ [] _ _ _ _ _
  refine zp_seg (pc' := 33) (lv' := [(7, .ref (m + 276 + 2 * (((((g 1) + 1)) + 1)).toNatClampNeg)), (6, .ref (m + 276 + 2 * (((g 1) + 1)).toNatClampNeg)), (5, .ref (m + 276 + 2 * (g 1).toNatClampNeg)), (4, .int (g 1)), (0, .ref m), (1, .ref to), (2, .ref a), (3, .ref b)]) (st' := [.ref b, .ref (m + 276 + 2 * (((g 1) + 1)).toNatClampNeg)]) [(30, .aload 6), (32, .aload_n 3)] (by decide +kernel) rfl ?_
  have hb12 : zU w27 (m + 276 + 2 * (((g 1) + 1)).toNatClampNeg) 1000 zaZ := hp13_1.ag (fun x hx1 hx2 => ((heq27 x (by omega)).trans (heq19 x (by omega))))
  have ho33_to := zU.o hb12
  have hb13 : zU w27 b cb q := hU_b.ag (fun x hx1 hx2 => ((heq27 x (by omega)).trans ((heq19 x (by omega)).trans ((heq13 x (by omega)).trans (heq7 x (by omega))))))
  refine zr_callS (idx := 62) (j := 264) (by decide +kernel) (by decide +kernel) (by decide) (show zMe 264 = some zq_X16_set from rfl) rfl rfl (Nat.le_of_ble_eq_true rfl) rfl rfl (Nat.le_of_ble_eq_true rfl) (Nat.le_of_ble_eq_true rfl) (c_X16_set (w := w27) (m + 276 + 2 * (((g 1) + 1)).toNatClampNeg) b ho33_to hb13 (by first | omega | decide | assumption) (by first | omega | decide | assumption)) (by omega) (fun v33 w33 hp33 => ?_)
  obtain ⟨hsi33, heq33, hp33_0, rfl⟩ := hp33
  show zP _ _ _ _ [] _ _ _ _ _
  have hb14 : w33 m = some (.inl (15, zMo m (zs g 1 ((((((g 1) + 1)) + 1)) + 1)) r)) := ((heq33 m (by omega)).trans (heq27 m (by omega))).trans hM19
  have hL36 : ∀ (mm36 : Nat) (wL36 : zM) (y5_36 : Nat) (y6_36 : Nat) (y7_36 : Nat) (X : zA1) (Y : zA1), (zSI w33 wL36) → (∀ x, ((x < m + 276 + 2 * (g 1).toNatClampNeg ∨ m + 276 + 2 * (g 1).toNatClampNeg + 6 ≤ x)) ∧ x ≠ m → wL36 x = w33 x) → ((y5_36 = m + 276 + 2 * (g 1).toNatClampNeg ∨ y5_36 = m + 276 + 2 * (g 1 + 1).toNatClampNeg ∨ y5_36 = m + 276 + 2 * (g 1 + 1 + 1).toNatClampNeg)) → ((y6_36 = m + 276 + 2 * (g 1).toNatClampNeg ∨ y6_36 = m + 276 + 2 * (g 1 + 1).toNatClampNeg ∨ y6_36 = m + 276 + 2 * (g 1 + 1 + 1).toNatClampNeg)) → ((y7_36 = m + 276 + 2 * (g 1).toNatClampNeg ∨ y7_36 = m + 276 + 2 * (g 1 + 1).toNatClampNeg ∨ y7_36 = m + 276 + 2 * (g 1 + 1 + 1).toNatClampNeg)) → (y5_36 ≠ y6_36) → (y5_36 ≠ y7_36) → (y6_36 ≠ y7_36) → (zU wL36 y5_36 1000 X) → (zU wL36 y6_36 1000 Y) → (zUo wL36 y7_36 1000) → (wL36 m = some (.inl (15, zMo m (zs g 1 ((((((g 1) + 1)) + 1)) + 1)) r))) → ((∃ u v, X = zaA (zaM u p) (zaM v q)) ∧ (∃ u v, Y = zaA (zaM u p) (zaM v q)) ∧ ∀ d, zdv d X → zdv d Y → zdv d p ∧ zdv d q) → zln Y < mm36 → zP (d + 1) zq_X16_gcd 36 [(0, .ref m), (1, .ref to), (4, .int (g 1)), (5, .ref y5_36), (6, .ref y6_36), (7, .ref y7_36)] [] wL36 sz 0 0 Post := by
    intro mm36
    induction mm36 with
    | zero => intros; omega
    | succ mm36 ih36 =>
    intro wL36 y5_36 y6_36 y7_36 X Y hsiL36 heqL36 hi36_0 hi36_1 hi36_2 hi36_3 hi36_4 hi36_5 hUX hUY hUr hmL36 hXY hmu36
    refine zp_seg (pc' := 38) (lv' := [(0, .ref m), (1, .ref to), (4, .int (g 1)), (5, .ref y5_36), (6, .ref y6_36), (7, .ref y7_36)]) (st' := [.ref y6_36]) [(36, .aload 6)] (by decide +kernel) rfl ?_
    obtain ⟨n15, f16, hu17, hu18, hu19, hu20, hu21⟩ := id hUY
    have kn15 := zrng n15
    refine zr_get (idx := 25) (k := 1) (v := .int n15) (by decide +kernel) (by decide +kernel) hu17 rfl ?_
    refine zp_if (i := .ifCond .le 32) (c := n15 ≤ 0) (t := 73) (e := 44) (lv' := [(0, .ref m), (1, .ref to), (4, .int (g 1)), (5, .ref y5_36), (6, .ref y6_36), (7, .ref y7_36)]) (st' := []) (by decide +kernel) rfl (fun cc41 => ?_) (fun cc41 => ?_)
    ·
      have f23 := zleI cc41
      rw [show (0 : Int32).toInt = 0 from by decide] at f23
      have hYz : Y = zaZ := zln_0.mp (by omega)
      have hG : zaM (zaC (zinvF (zhd X))) X = zgcd p q := by
        obtain ⟨e1, -, h3⟩ := id hXY
        have h4 := h3 X (zdv_self X) (by rw [hYz]; exact zdv_0 X)
        exact zg_last e1 h4.1 h4.2
      refine zp_seg (pc' := 76) (lv' := [(0, .ref m), (1, .ref to), (4, .int (g 1)), (5, .ref y5_36), (6, .ref y6_36), (7, .ref y7_36)]) (st' := [.ref y5_36, .ref m]) [(73, .aload_n 0), (74, .aload 5)] (by decide +kernel) rfl ?_
      refine zr_callV (idx := 82) (j := 269) (by decide +kernel) (by decide +kernel) (show zMe 269 = some zq_X16_monic from rfl) rfl rfl (Nat.le_of_ble_eq_true rfl) rfl rfl hmL36 (Nat.le_of_ble_eq_true rfl) (Nat.le_of_ble_eq_true rfl) (c_X16_monic (w := wL36) m y5_36 hUX) (by omega) (fun v76 w76 hp76 => ?_)
      obtain ⟨hsi76, heq76, hp76_0, rfl⟩ := hp76
      show zP _ _ _ _ [] _ _ _ _ _
      refine zp_seg (pc' := 82) (lv' := [(0, .ref m), (1, .ref to), (4, .int (g 1)), (5, .ref y5_36), (6, .ref y6_36), (7, .ref y7_36)]) (st' := [.ref y5_36, .ref to]) [(79, .aload_n 1), (80, .aload 5)] (by decide +kernel) rfl ?_
      have hb24 := hUo_to.si ((((((hsi7.tr hsi13).tr hsi19).tr hsi27).tr hsi33).tr hsiL36).tr hsi76)
      refine zr_callS (idx := 62) (j := 264) (by decide +kernel) (by decide +kernel) (by decide) (show zMe 264 = some zq_X16_set from rfl) rfl rfl (Nat.le_of_ble_eq_true rfl) rfl rfl (Nat.le_of_ble_eq_true rfl) (Nat.le_of_ble_eq_true rfl) (c_X16_set (w := w76) to y5_36 hb24 hp76_0 (by first | omega | decide | assumption) (by rw [hG]; exact hct)) (by omega) (fun v82 w82 hp82 => ?_)
      obtain ⟨hsi82, heq82, hp82_0, rfl⟩ := hp82
      show zP _ _ _ _ [] _ _ _ _ _
      refine zp_seg (pc' := 88) (lv' := [(0, .ref m), (1, .ref to), (4, .int (g 1)), (5, .ref y5_36), (6, .ref y6_36), (7, .ref y7_36)]) (st' := [.int (g 1), .ref m]) [(85, .aload_n 0), (86, .iload 4)] (by decide +kernel) rfl ?_
      have hb25 : w82 m = some (.inl (15, zMo m (zs g 1 ((((((g 1) + 1)) + 1)) + 1)) r)) := ((heq82 m (by omega)).trans (heq76 m (by omega))).trans hmL36
      refine zr_put2 (idx := 21) (k := 1) (fs2 := zMo m g r) (by decide +kernel) (by decide +kernel) hb25 (Nat.le_of_ble_eq_true rfl) rfl rfl rfl ?_
      show zP (d + 1) zq_X16_gcd 91 [(0, .ref m), (1, .ref to), (4, .int (g 1)), (5, .ref y5_36), (6, .ref y6_36), (7, .ref y7_36)] [] (zup w82 m (.inl (15, zMo m g r))) sz 0 0 Post
      obtain ⟨w88, ew88⟩ : ∃ wz9, wz9 = zup w82 m (.inl (15, zMo m g r)) := ⟨_, rfl⟩
      have hsi88 : zSI w82 w88 := by rw [ew88]; exact zSI.setG hb25 _ _
      have heq88 : ∀ x, x ≠ m → w88 x = w82 x := fun x hx => by rw [ew88]; exact zup_n hx
      have hc88 : w88 m = some (.inl (15, zMo m g r)) := by rw [ew88]; exact zup_s
      rw [← ew88]
      clear ew88
      have hmend : w88 m = w m := by rw [hc88, hm]
      have hoffend : ∀ x, (x < to ∨ to + 2 ≤ x) ∧ (x < m + 276 + 2 * (g 1).toNatClampNeg ∨ m + 276 + 2 * (g 1).toNatClampNeg + (320 - 2 * (g 1).toNatClampNeg) ≤ x) → w88 x = w x := fun x hx => by
          by_cases ex : x = m
          · rw [ex]; exact hmend
          · exact ((heq88 x (by omega)).trans ((heq82 x (by omega)).trans ((heq76 x (by omega)).trans ((heqL36 x (by omega)).trans ((heq33 x (by omega)).trans ((heq27 x (by omega)).trans ((heq19 x (by omega)).trans ((heq13 x (by omega)).trans (heq7 x (by omega))))))))))
      have hb26 : zU w88 to ct ((zaM (zaC (zinvF (zhd X))) X)) := hp82_0.ag (fun x hx1 hx2 => (heq88 x (by omega)))
      refine zr_retV (by decide +kernel) rfl ?_
      rw [← hPost]; exact ⟨rfl, _, rfl, ((((((((hsi7.tr hsi13).tr hsi19).tr hsi27).tr hsi33).tr hsiL36).tr hsi76).tr hsi82).tr hsi88), hoffend, (by
            rw [← hG]; exact hb26), rfl⟩
    ·
      have f28 := znleI cc41
      rw [show (0 : Int32).toInt = 0 from by decide] at f28
      refine zp_seg (pc' := 51) (lv' := [(0, .ref m), (1, .ref to), (4, .int (g 1)), (5, .ref y5_36), (6, .ref y6_36), (7, .ref y7_36)]) (st' := [.ref y6_36, .ref y5_36, .ref y7_36, .null]) [(44, .aconst_null), (45, .aload 7), (47, .aload 5), (49, .aload 6)] (by decide +kernel) rfl ?_
      refine zr_callS (idx := 78) (j := 268) (by decide +kernel) (by decide +kernel) (by decide) (show zMe 268 = some zq_X16_divide from rfl) rfl rfl (Nat.le_of_ble_eq_true rfl) rfl rfl (Nat.le_of_ble_eq_true rfl) (Nat.le_of_ble_eq_true rfl) (c_X16_divideN (w := wL36)  y7_36 y5_36 y6_36 hUr hUX hUY (by first | omega | decide | assumption) (by first | omega | decide | assumption) (by have := hUX.cap; omega) (by first | omega | decide | assumption) (by have := hUX.cap; have := hUY.cap; omega)) (by omega) (fun v51 w51 hp51 => ?_)
      obtain ⟨hsi51, heq51, hp51_0, rfl⟩ := hp51
      show zP _ _ _ _ [] _ _ _ _ _
      refine zp_seg (pc' := 36) (lv' := [(7, .ref y5_36), (6, .ref y7_36), (5, .ref y6_36), (8, .ref y5_36), (0, .ref m), (1, .ref to), (4, .int (g 1))]) (st' := []) [(54, .aload 5), (56, .astore 8), (58, .aload 6), (60, .astore 5), (62, .aload 7), (64, .astore 6), (66, .aload 8), (68, .astore 7), (70, .goto (-34))] (by decide +kernel) rfl ?_
      have hlt9 := (@zdm X Y (by omega)).2
      have hb29 : zU w51 y6_36 1000 Y := hUY.ag (fun x hx1 hx2 => (heq51 x (by omega)))
      have hb30 : zU w51 y5_36 1000 X := hUX.ag (fun x hx1 hx2 => (heq51 x (by omega)))
      have hb31 : w51 m = some (.inl (15, zMo m (zs g 1 ((((((g 1) + 1)) + 1)) + 1)) r)) := (heq51 m (by omega)).trans hmL36
      exact (ih36 w51 y6_36 y7_36 y5_36 (Y) (zrem X Y) (hsiL36.tr hsi51) (fun x hx => ((heq51 x (by omega)).trans (heqL36 x (by omega)))) (by first | assumption | omega | decide) (by first | assumption | omega | decide) (by first | assumption | omega | decide) (by first | assumption | omega | decide) (by first | assumption | omega | decide) (by first | assumption | omega | decide) hb29 hp51_0 (zU.o hb30) hb31 (by
            obtain ⟨⟨u1, v1, e1⟩, ⟨u2, v2, e2⟩, h3⟩ := id hXY
            have hd := (@zdm X Y (by omega)).1
            exact ⟨⟨u2, v2, e2⟩, ⟨_, _, zg_step hd e1 e2⟩, fun d h1 h2 => h3 d (zg_dv hd h1 h2) h1⟩) (by omega)).more (zfa1 rfl (zfa1 rfl (zfa1 rfl (zfa1 rfl (zfa1 rfl (zfa1 rfl (zfa0)))))))
  have hb32 : zU w33 (m + 276 + 2 * (g 1).toNatClampNeg) 1000 p := hp27_0.ag (fun x hx1 hx2 => (heq33 x (by omega)))
  have hb33 : zU w33 (m + 276 + 2 * (((((g 1) + 1)) + 1)).toNatClampNeg) 1000 zaZ := hp19_1.ag (fun x hx1 hx2 => ((heq33 x (by omega)).trans (heq27 x (by omega))))
  exact (hL36 _ w33 (m + 276 + 2 * (g 1).toNatClampNeg) (m + 276 + 2 * (((g 1) + 1)).toNatClampNeg) (m + 276 + 2 * (((((g 1) + 1)) + 1)).toNatClampNeg) (p) (q) zSI.rf (fun _ _ => rfl) (by first | assumption | omega | decide) (by first | assumption | omega | decide) (by first | assumption | omega | decide) (by first | assumption | omega | decide) (by first | assumption | omega | decide) (by first | assumption | omega | decide) hb32 hp33_0 (zU.o hb33) hb14 (by
        exact ⟨⟨zaO, zaZ, zgB0 p q⟩, ⟨zaZ, zaO, zgB1 p q⟩, fun d h1 h2 => ⟨h1, h2⟩⟩) (Nat.lt_succ_self _)).more (zfa1 rfl (zfa1 rfl (zfa1 rfl (zfa1 rfl (zfa1 rfl (zfa1 rfl (zfa0)))))))

set_option maxHeartbeats 8000000 in
set_option maxRecDepth 100000 in
theorem c_X16_exact {w : zM} {g : Nat → Int32} {r : Nat → Value} {ct ca cb : Nat} {p d9 : zA1} {g1 : Int32} (m : Nat) (to : Nat) (a : Nat) (b : Nat) (hm : w m = some (.inl (15, zMo m g r))) (hR_m : zR m w) (hUo_to : zUo w to ct) (hU_a : zU w a ca p) (hU_b : zU w b cb d9) (hut : 0 ≤ g1.toInt ∧ g1.toInt + 2 ≤ 160) (ht : (m + 276 ≤ to ∧ to + 2 ≤ m + 276 + 2 * g1.toNatClampNeg) ∨ m + 596 ≤ to) (ha : (m + 276 ≤ a ∧ a + 2 ≤ m + 276 + 2 * g1.toNatClampNeg) ∨ m + 596 ≤ a) (hb : (m + 276 ≤ b ∧ b + 2 ≤ m + 276 + 2 * g1.toNatClampNeg) ∨ m + 596 ≤ b) (hpc : zln p ≤ 1000) (hd9 : 0 < zln d9) (hqc : zln d9 ≤ 1000) (hct : zln p + 1 ≤ ct + zln d9) (hg1 : g 1 = g1) : zCon 4 zq_X16_exact [.ref m, .ref to, .ref a, .ref b] w (fun v9 w9' => zSI w w9' ∧ (∀ x, (x < to ∨ to + 2 ≤ x) ∧ (x < m + 276 + 2 * g1.toNatClampNeg ∨ m + 276 + 2 * g1.toNatClampNeg + (320 - 2 * g1.toNatClampNeg) ≤ x) → w9' x = w x) ∧ zU w9' to ct (zquo p d9) ∧ v9 = none) := by
  subst hg1
  intro d sz hd
  obtain ⟨d, rfl⟩ : ∃ d9, d = d9 + 1 := ⟨d - 1, by omega⟩
  generalize hPost : (fun (r9' : Option (Option Value)) (w9' : zM) (z9 : Nat) => z9 = sz ∧ ∃ v9, r9' = some v9 ∧ (zSI w w9' ∧ (∀ x, (x < to ∨ to + 2 ≤ x) ∧ (x < m + 276 + 2 * (g 1).toNatClampNeg ∨ m + 276 + 2 * (g 1).toNatClampNeg + (320 - 2 * (g 1).toNatClampNeg) ≤ x) → w9' x = w x) ∧ zU w9' to ct (zquo p d9) ∧ v9 = none)) = Post
  show zP (d + 1) zq_X16_exact 0 [(0, .ref m), (1, .ref to), (2, .ref a), (3, .ref b)] [] w sz 0 0 Post
  have k1 := zrng (g 1)
  have hz2 : ((g 1).toNatClampNeg : Int) = (g 1).toInt := znat (by first | omega | decide)
  refine zp_seg (pc' := 1) (lv' := [(0, .ref m), (1, .ref to), (2, .ref a), (3, .ref b)]) (st' := [.ref m]) [(0, .aload_n 0)] (by decide +kernel) rfl ?_
  refine zr_get (idx := 21) (k := 1) (v := .int (g 1)) (by decide +kernel) (by decide +kernel) hm rfl ?_
  refine zp_seg (pc' := 7) (lv' := [(4, .int (g 1)), (0, .ref m), (1, .ref to), (2, .ref a), (3, .ref b)]) (st' := [.ref m]) [(4, .istore 4), (6, .aload_n 0)] (by decide +kernel) rfl ?_
  refine zr_callV (idx := 74) (j := 263) (by decide +kernel) (by decide +kernel) (show zMe 263 = some zq_X16_newU from rfl) rfl rfl (Nat.le_of_ble_eq_true rfl) rfl rfl hm (Nat.le_of_ble_eq_true rfl) (Nat.le_of_ble_eq_true rfl) (c_X16_newU (w := w) (g1 := (g 1)) m hm hR_m (by first | omega | decide | assumption) rfl) (by omega) (fun v7 w7 hp7 => ?_)
  obtain ⟨hsi7, heq7, hp7_0, hp7_1, rfl⟩ := hp7
  have hM7 : w7 m = some (.inl (15, zMo m (zs g 1 ((g 1) + 1)) r)) := hp7_0
  show zP _ _ _ _ [.ref (m + 276 + 2 * (g 1).toNatClampNeg)] _ _ _ _ _
  refine zp_seg (pc' := 13) (lv' := [(5, .ref (m + 276 + 2 * (g 1).toNatClampNeg)), (4, .int (g 1)), (0, .ref m), (1, .ref to), (2, .ref a), (3, .ref b)]) (st' := [.ref m]) [(10, .astore 5), (12, .aload_n 0)] (by decide +kernel) rfl ?_
  have k4 := zaddC ((g 1)) 1 (n := 1) (by decide) (by omega) (by omega)
  have hz5 : (((g 1) + 1).toNatClampNeg : Int) = ((g 1) + 1).toInt := znat (by first | omega | decide)
  have hb6 := hR_m.si hsi7
  refine zr_callV (idx := 74) (j := 263) (by decide +kernel) (by decide +kernel) (show zMe 263 = some zq_X16_newU from rfl) rfl rfl (Nat.le_of_ble_eq_true rfl) rfl rfl hM7 (Nat.le_of_ble_eq_true rfl) (Nat.le_of_ble_eq_true rfl) (c_X16_newU (w := w7) (g1 := (((g 1) + 1))) m hM7 hb6 (by first | omega | decide | assumption) rfl) (by omega) (fun v13 w13 hp13 => ?_)
  obtain ⟨hsi13, heq13, hp13_0, hp13_1, rfl⟩ := hp13
  have hM13 : w13 m = some (.inl (15, zMo m (zs g 1 ((((g 1) + 1)) + 1)) r)) := hp13_0
  show zP _ _ _ _ [.ref (m + 276 + 2 * (((g 1) + 1)).toNatClampNeg)] _ _ _ _ _
  refine zp_seg (pc' := 24) (lv' := [(6, .ref (m + 276 + 2 * (((g 1) + 1)).toNatClampNeg)), (5, .ref (m + 276 + 2 * (g 1).toNatClampNeg)), (4, .int (g 1)), (0, .ref m), (1, .ref to), (2, .ref a), (3, .ref b)]) (st' := [.ref b, .ref a, .ref (m + 276 + 2 * (((g 1) + 1)).toNatClampNeg), .ref (m + 276 + 2 * (g 1).toNatClampNeg)]) [(16, .astore 6), (18, .aload 5), (20, .aload 6), (22, .aload_n 2), (23, .aload_n 3)] (by decide +kernel) rfl ?_
  have hb7 : zU w13 (m + 276 + 2 * (g 1).toNatClampNeg) 1000 zaZ := hp7_1.ag (fun x hx1 hx2 => (heq13 x (by omega)))
  have ho24_q := zU.o hb7
  have ho24_r := zU.o hp13_1
  have hb8 : zU w13 a ca p := hU_a.ag (fun x hx1 hx2 => ((heq13 x (by omega)).trans (heq7 x (by omega))))
  have hb9 : zU w13 b cb d9 := hU_b.ag (fun x hx1 hx2 => ((heq13 x (by omega)).trans (heq7 x (by omega))))
  refine zr_callS (idx := 78) (j := 268) (by decide +kernel) (by decide +kernel) (by decide) (show zMe 268 = some zq_X16_divide from rfl) rfl rfl (Nat.le_of_ble_eq_true rfl) rfl rfl (Nat.le_of_ble_eq_true rfl) (Nat.le_of_ble_eq_true rfl) (c_X16_divideQ (w := w13) (m + 276 + 2 * (g 1).toNatClampNeg) (m + 276 + 2 * (((g 1) + 1)).toNatClampNeg) a b ho24_q ho24_r hb8 hb9 (by first | omega | decide | assumption) (by first | omega | decide | assumption) (by first | omega | decide | assumption) (by first | omega | decide | assumption) (by first | omega | decide | assumption) (by first | omega | decide | assumption) (by first | omega | decide | assumption) (by first | omega | decide | assumption) (by first | omega | decide | assumption)) (by omega) (fun v24 w24 hp24 => ?_)
  obtain ⟨hsi24, heq24, hp24_0, hp24_1, rfl⟩ := hp24
  show zP _ _ _ _ [] _ _ _ _ _
  refine zp_seg (pc' := 30) (lv' := [(6, .ref (m + 276 + 2 * (((g 1) + 1)).toNatClampNeg)), (5, .ref (m + 276 + 2 * (g 1).toNatClampNeg)), (4, .int (g 1)), (0, .ref m), (1, .ref to), (2, .ref a), (3, .ref b)]) (st' := [.ref (m + 276 + 2 * (g 1).toNatClampNeg), .ref to]) [(27, .aload_n 1), (28, .aload 5)] (by decide +kernel) rfl ?_
  have hb10 := hUo_to.si ((hsi7.tr hsi13).tr hsi24)
  refine zr_callS (idx := 62) (j := 264) (by decide +kernel) (by decide +kernel) (by decide) (show zMe 264 = some zq_X16_set from rfl) rfl rfl (Nat.le_of_ble_eq_true rfl) rfl rfl (Nat.le_of_ble_eq_true rfl) (Nat.le_of_ble_eq_true rfl) (c_X16_set (w := w24) to (m + 276 + 2 * (g 1).toNatClampNeg) hb10 hp24_1 (by first | omega | decide | assumption) (by rw [zquo_ln hd9]; omega)) (by omega) (fun v30 w30 hp30 => ?_)
  obtain ⟨hsi30, heq30, hp30_0, rfl⟩ := hp30
  show zP _ _ _ _ [] _ _ _ _ _
  refine zp_seg (pc' := 36) (lv' := [(6, .ref (m + 276 + 2 * (((g 1) + 1)).toNatClampNeg)), (5, .ref (m + 276 + 2 * (g 1).toNatClampNeg)), (4, .int (g 1)), (0, .ref m), (1, .ref to), (2, .ref a), (3, .ref b)]) (st' := [.int (g 1), .ref m]) [(33, .aload_n 0), (34, .iload 4)] (by decide +kernel) rfl ?_
  have hb11 : w30 m = some (.inl (15, zMo m (zs g 1 ((((g 1) + 1)) + 1)) r)) := ((heq30 m (by omega)).trans (heq24 m (by omega))).trans hM13
  refine zr_put2 (idx := 21) (k := 1) (fs2 := zMo m g r) (by decide +kernel) (by decide +kernel) hb11 (Nat.le_of_ble_eq_true rfl) rfl rfl rfl ?_
  show zP (d + 1) zq_X16_exact 39 [(6, .ref (m + 276 + 2 * (((g 1) + 1)).toNatClampNeg)), (5, .ref (m + 276 + 2 * (g 1).toNatClampNeg)), (4, .int (g 1)), (0, .ref m), (1, .ref to), (2, .ref a), (3, .ref b)] [] (zup w30 m (.inl (15, zMo m g r))) sz 0 0 Post
  obtain ⟨w36, ew36⟩ : ∃ wz9, wz9 = zup w30 m (.inl (15, zMo m g r)) := ⟨_, rfl⟩
  have hsi36 : zSI w30 w36 := by rw [ew36]; exact zSI.setG hb11 _ _
  have heq36 : ∀ x, x ≠ m → w36 x = w30 x := fun x hx => by rw [ew36]; exact zup_n hx
  have hc36 : w36 m = some (.inl (15, zMo m g r)) := by rw [ew36]; exact zup_s
  rw [← ew36]
  clear ew36
  have hmend : w36 m = w m := by rw [hc36, hm]
  have hoffend : ∀ x, (x < to ∨ to + 2 ≤ x) ∧ (x < m + 276 + 2 * (g 1).toNatClampNeg ∨ m + 276 + 2 * (g 1).toNatClampNeg + (320 - 2 * (g 1).toNatClampNeg) ≤ x) → w36 x = w x := fun x hx => by
      by_cases ex : x = m
      · rw [ex]; exact hmend
      · exact ((heq36 x (by omega)).trans ((heq30 x (by omega)).trans ((heq24 x (by omega)).trans ((heq13 x (by omega)).trans (heq7 x (by omega))))))
  have hb12 : zU w36 to ct ((zquo p d9)) := hp30_0.ag (fun x hx1 hx2 => (heq36 x (by omega)))
  refine zr_retV (by decide +kernel) rfl ?_
  rw [← hPost]; exact ⟨rfl, _, rfl, ((((hsi7.tr hsi13).tr hsi24).tr hsi30).tr hsi36), hoffend, (by first | exact hb12 | (have z9 := hb12; simpa using z9)), rfl⟩
