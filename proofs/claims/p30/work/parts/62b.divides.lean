set_option maxHeartbeats 8000000 in
set_option maxRecDepth 100000 in
theorem c_X16_divides {w : zM} {g : Nat → Int32} {r : Nat → Value} {p d9 : zA2} {g1 : Int32} {g3 : Int32} (m : Nat) (q : Nat) (a : Nat) (b : Nat) (hm : w m = some (.inl (15, zMo m g r))) (hR_m : zR m w) (hBo_q : zBo w q) (hB_a : zB w a p) (hB_b : zB w b d9) (hut : 0 ≤ g1.toInt ∧ g1.toInt + 3 ≤ 160) (hbt : 0 ≤ g3.toInt ∧ g3.toInt + 1 ≤ 44) (hqa : q + 130 ≤ a ∨ a + 130 ≤ q) (hqb : q + 130 ≤ b ∨ b + 130 ≤ q) (hmq : m + 596 ≤ q ∧ q + 130 ≤ m + 596 + 130 * g3.toNatClampNeg) (hma : m + 596 ≤ a ∧ a + 130 ≤ m + 596 + 130 * g3.toNatClampNeg) (hmb : m + 596 ≤ b ∧ b + 130 ≤ m + 596 + 130 * g3.toNatClampNeg) (hd0 : 0 < zrw d9) (hdn : zdn d9 ≤ 100) (hg1 : g 1 = g1) (hg3 : g 3 = g3) : zCon 4 zq_X16_divides [.ref m, .ref q, .ref a, .ref b] w (fun v9 w9' => ∃ Q : zA2, zSI w w9' ∧ (∀ x, (x < q ∨ q + 130 ≤ x) ∧ (x < m + 276 + 2 * g1.toNatClampNeg ∨ m + 276 + 2 * g1.toNatClampNeg + (320 - 2 * g1.toNatClampNeg) ≤ x) ∧ (x < m + 596 + 130 * g3.toNatClampNeg ∨ m + 596 + 130 * g3.toNatClampNeg + (5720 - 130 * g3.toNatClampNeg) ≤ x) → w9' x = w x) ∧ zB w9' q Q ∧ ∃ r9 : Int32, v9 = some (.int r9) ∧ (r9 = 0 ∨ r9 = 1) ∧ ((r9 = 1 → p = zbM Q d9) ∧ ((∃ c, p = zbM c d9 ∧ ∀ i, zln (c.1 i) ≤ 100) → r9 = 1))) := by
  subst hg1
  subst hg3
  intro d sz hd
  obtain ⟨d, rfl⟩ : ∃ d9, d = d9 + 1 := ⟨d - 1, by omega⟩
  generalize hPost : (fun (r9' : Option (Option Value)) (w9' : zM) (z9 : Nat) => z9 = sz ∧ ∃ v9, r9' = some v9 ∧ (∃ Q : zA2, zSI w w9' ∧ (∀ x, (x < q ∨ q + 130 ≤ x) ∧ (x < m + 276 + 2 * (g 1).toNatClampNeg ∨ m + 276 + 2 * (g 1).toNatClampNeg + (320 - 2 * (g 1).toNatClampNeg) ≤ x) ∧ (x < m + 596 + 130 * (g 3).toNatClampNeg ∨ m + 596 + 130 * (g 3).toNatClampNeg + (5720 - 130 * (g 3).toNatClampNeg) ≤ x) → w9' x = w x) ∧ zB w9' q Q ∧ ∃ r9 : Int32, v9 = some (.int r9) ∧ (r9 = 0 ∨ r9 = 1) ∧ ((r9 = 1 → p = zbM Q d9) ∧ ((∃ c, p = zbM c d9 ∧ ∀ i, zln (c.1 i) ≤ 100) → r9 = 1)))) = Post
  show zP (d + 1) zq_X16_divides 0 [(0, .ref m), (1, .ref q), (2, .ref a), (3, .ref b)] [] w sz 0 0 Post
  have k1 := zrng (g 1)
  have hz2 : ((g 1).toNatClampNeg : Int) = (g 1).toInt := znat (by first | omega | decide)
  have k3 := zrng (g 3)
  have hz4 : ((g 3).toNatClampNeg : Int) = (g 3).toInt := znat (by first | omega | decide)
  obtain ⟨na, hQa1, hQa2, hQa3, hQa4, hQa5, hQa6⟩ := id hB_a
  have kna := zrng na
  obtain ⟨nb, hQb1, hQb2, hQb3, hQb4, hQb5, hQb6⟩ := id hB_b
  have knb := zrng nb
  have hBor := hR_m.bsB (g 3).toNatClampNeg (by omega)
  refine zp_seg (pc' := 1) (lv' := [(0, .ref m), (1, .ref q), (2, .ref a), (3, .ref b)]) (st' := [.ref m]) [(0, .aload_n 0)] (by decide +kernel) rfl ?_
  refine zr_get (idx := 90) (k := 3) (v := .int (g 3)) (by decide +kernel) (by decide +kernel) hm rfl ?_
  refine zp_seg (pc' := 7) (lv' := [(4, .int (g 3)), (0, .ref m), (1, .ref q), (2, .ref a), (3, .ref b)]) (st' := [.ref m]) [(4, .istore 4), (6, .aload_n 0)] (by decide +kernel) rfl ?_
  refine zr_get (idx := 21) (k := 1) (v := .int (g 1)) (by decide +kernel) (by decide +kernel) hm rfl ?_
  refine zp_seg (pc' := 13) (lv' := [(5, .int (g 1)), (4, .int (g 3)), (0, .ref m), (1, .ref q), (2, .ref a), (3, .ref b)]) (st' := [.ref m]) [(10, .istore 5), (12, .aload_n 0)] (by decide +kernel) rfl ?_
  refine zr_callV (idx := 140) (j := 274) (by decide +kernel) (by decide +kernel) (show zMe 274 = some zq_X16_newB from rfl) rfl rfl (Nat.le_of_ble_eq_true rfl) rfl rfl hm (Nat.le_of_ble_eq_true rfl) (Nat.le_of_ble_eq_true rfl) (c_X16_newB (w := w) (g3 := (g 3)) m hm hR_m (by first | omega | decide | assumption) rfl) (by omega) (fun v13 w13 hp13 => ?_)
  obtain ⟨hsi13, heq13, hp13_0, hp13_1, rfl⟩ := hp13
  have hM13 : w13 m = some (.inl (15, zMo m (zs g 3 (g 3 + 1)) r)) := hp13_0
  show zP _ _ _ _ [.ref (m + 596 + 130 * (g 3).toNatClampNeg)] _ _ _ _ _
  refine zp_seg (pc' := 19) (lv' := [(6, .ref (m + 596 + 130 * (g 3).toNatClampNeg)), (5, .int (g 1)), (4, .int (g 3)), (0, .ref m), (1, .ref q), (2, .ref a), (3, .ref b)]) (st' := [.ref m]) [(16, .astore 6), (18, .aload_n 0)] (by decide +kernel) rfl ?_
  have hb5 := hR_m.si hsi13
  refine zr_callV (idx := 74) (j := 263) (by decide +kernel) (by decide +kernel) (show zMe 263 = some zq_X16_newU from rfl) rfl rfl (Nat.le_of_ble_eq_true rfl) rfl rfl hM13 (Nat.le_of_ble_eq_true rfl) (Nat.le_of_ble_eq_true rfl) (c_X16_newU (w := w13) (g1 := (g 1)) m hM13 hb5 (by first | omega | decide | assumption) rfl) (by omega) (fun v19 w19 hp19 => ?_)
  obtain ⟨hsi19, heq19, hp19_0, hp19_1, rfl⟩ := hp19
  have hM19 : w19 m = some (.inl (15, zMo m (zs (zs g 1 (g 1 + 1)) 3 (g 3 + 1)) r)) := hp19_0
  show zP _ _ _ _ [.ref (m + 276 + 2 * (g 1).toNatClampNeg)] _ _ _ _ _
  refine zp_seg (pc' := 25) (lv' := [(7, .ref (m + 276 + 2 * (g 1).toNatClampNeg)), (6, .ref (m + 596 + 130 * (g 3).toNatClampNeg)), (5, .int (g 1)), (4, .int (g 3)), (0, .ref m), (1, .ref q), (2, .ref a), (3, .ref b)]) (st' := [.ref m]) [(22, .astore 7), (24, .aload_n 0)] (by decide +kernel) rfl ?_
  have k7 := zaddC (g 1) 1 (n := 1) (by decide) (by omega) (by omega)
  have hz8 : ((g 1 + 1).toNatClampNeg : Int) = (g 1 + 1).toInt := znat (by first | omega | decide)
  have hb9 := hb5.si hsi19
  refine zr_callV (idx := 74) (j := 263) (by decide +kernel) (by decide +kernel) (show zMe 263 = some zq_X16_newU from rfl) rfl rfl (Nat.le_of_ble_eq_true rfl) rfl rfl hM19 (Nat.le_of_ble_eq_true rfl) (Nat.le_of_ble_eq_true rfl) (c_X16_newU (w := w19) (g1 := (g 1 + 1)) m hM19 hb9 (by first | omega | decide | assumption) rfl) (by omega) (fun v25 w25 hp25 => ?_)
  obtain ⟨hsi25, heq25, hp25_0, hp25_1, rfl⟩ := hp25
  have hM25 : w25 m = some (.inl (15, zMo m (zs (zs g 1 (g 1 + 1 + 1)) 3 (g 3 + 1)) r)) := hp25_0
  show zP _ _ _ _ [.ref (m + 276 + 2 * (g 1 + 1).toNatClampNeg)] _ _ _ _ _
  refine zp_seg (pc' := 31) (lv' := [(8, .ref (m + 276 + 2 * (g 1 + 1).toNatClampNeg)), (7, .ref (m + 276 + 2 * (g 1).toNatClampNeg)), (6, .ref (m + 596 + 130 * (g 3).toNatClampNeg)), (5, .int (g 1)), (4, .int (g 3)), (0, .ref m), (1, .ref q), (2, .ref a), (3, .ref b)]) (st' := [.ref m]) [(28, .astore 8), (30, .aload_n 0)] (by decide +kernel) rfl ?_
  have k10 := zaddC (g 1 + 1) 1 (n := 1) (by decide) (by omega) (by omega)
  have hz11 : ((g 1 + 1 + 1).toNatClampNeg : Int) = (g 1 + 1 + 1).toInt := znat (by first | omega | decide)
  have hb12 := hb9.si hsi25
  refine zr_callV (idx := 74) (j := 263) (by decide +kernel) (by decide +kernel) (show zMe 263 = some zq_X16_newU from rfl) rfl rfl (Nat.le_of_ble_eq_true rfl) rfl rfl hM25 (Nat.le_of_ble_eq_true rfl) (Nat.le_of_ble_eq_true rfl) (c_X16_newU (w := w25) (g1 := (g 1 + 1 + 1)) m hM25 hb12 (by first | omega | decide | assumption) rfl) (by omega) (fun v31 w31 hp31 => ?_)
  obtain ⟨hsi31, heq31, hp31_0, hp31_1, rfl⟩ := hp31
  have hM31 : w31 m = some (.inl (15, zMo m (zs (zs g 1 (g 1 + 1 + 1 + 1)) 3 (g 3 + 1)) r)) := hp31_0
  show zP _ _ _ _ [.ref (m + 276 + 2 * (g 1 + 1 + 1).toNatClampNeg)] _ _ _ _ _
  refine zp_seg (pc' := 39) (lv' := [(9, .ref (m + 276 + 2 * (g 1 + 1 + 1).toNatClampNeg)), (8, .ref (m + 276 + 2 * (g 1 + 1).toNatClampNeg)), (7, .ref (m + 276 + 2 * (g 1).toNatClampNeg)), (6, .ref (m + 596 + 130 * (g 3).toNatClampNeg)), (5, .int (g 1)), (4, .int (g 3)), (0, .ref m), (1, .ref q), (2, .ref a), (3, .ref b)]) (st' := [.ref a, .ref (m + 596 + 130 * (g 3).toNatClampNeg)]) [(34, .astore 9), (36, .aload 6), (38, .aload_n 2)] (by decide +kernel) rfl ?_
  have hb13 : zB w31 (m + 596 + 130 * (g 3).toNatClampNeg) zbZ := hp13_1.ag (fun x hx1 hx2 => ((heq31 x (by omega)).trans ((heq25 x (by omega)).trans (heq19 x (by omega)))))
  have ho39_to := zB.o hb13
  have hb14 : zB w31 a p := hB_a.ag (fun x hx1 hx2 => ((heq31 x (by omega)).trans ((heq25 x (by omega)).trans ((heq19 x (by omega)).trans (heq13 x (by omega))))))
  refine zr_callS (idx := 113) (j := 275) (by decide +kernel) (by decide +kernel) (by decide) (show zMe 275 = some zq_X16_set_ from rfl) rfl rfl (Nat.le_of_ble_eq_true rfl) rfl rfl (Nat.le_of_ble_eq_true rfl) (Nat.le_of_ble_eq_true rfl) (c_X16_set_ (w := w31) (m + 596 + 130 * (g 3).toNatClampNeg) a ho39_to hb14 (by first | omega | decide | assumption)) (by omega) (fun v39 w39 hp39 => ?_)
  obtain ⟨hsi39, heq39, hp39_0, rfl⟩ := hp39
  show zP _ _ _ _ [] _ _ _ _ _
  refine zp_seg (pc' := 45) (lv' := [(9, .ref (m + 276 + 2 * (g 1 + 1 + 1).toNatClampNeg)), (8, .ref (m + 276 + 2 * (g 1 + 1).toNatClampNeg)), (7, .ref (m + 276 + 2 * (g 1).toNatClampNeg)), (6, .ref (m + 596 + 130 * (g 3).toNatClampNeg)), (5, .int (g 1)), (4, .int (g 3)), (0, .ref m), (1, .ref q), (2, .ref a), (3, .ref b)]) (st' := [.ref a, .int 0, .ref q]) [(42, .aload_n 1), (43, .iconst 0), (44, .aload_n 2)] (by decide +kernel) rfl ?_
  have hb15 : w39 a = some (.inl (11, [.ref (a + 1), .int na])) := ((heq39 a (by omega)).trans ((heq31 a (by omega)).trans ((heq25 a (by omega)).trans ((heq19 a (by omega)).trans (heq13 a (by omega)))))).trans hQa1
  refine zr_get (idx := 93) (k := 1) (v := .int na) (by decide +kernel) (by decide +kernel) hb15 rfl ?_
  refine zp_seg (pc' := 49) (lv' := [(9, .ref (m + 276 + 2 * (g 1 + 1 + 1).toNatClampNeg)), (8, .ref (m + 276 + 2 * (g 1 + 1).toNatClampNeg)), (7, .ref (m + 276 + 2 * (g 1).toNatClampNeg)), (6, .ref (m + 596 + 130 * (g 3).toNatClampNeg)), (5, .int (g 1)), (4, .int (g 3)), (0, .ref m), (1, .ref q), (2, .ref a), (3, .ref b)]) (st' := [.ref b, .int na, .int 0, .ref q]) [(48, .aload_n 3)] (by decide +kernel) rfl ?_
  have hb16 : w39 b = some (.inl (11, [.ref (b + 1), .int nb])) := ((heq39 b (by omega)).trans ((heq31 b (by omega)).trans ((heq25 b (by omega)).trans ((heq19 b (by omega)).trans (heq13 b (by omega)))))).trans hQb1
  refine zr_get (idx := 93) (k := 1) (v := .int nb) (by decide +kernel) (by decide +kernel) hb16 rfl ?_
  refine zp_seg (pc' := 53) (lv' := [(9, .ref (m + 276 + 2 * (g 1 + 1 + 1).toNatClampNeg)), (8, .ref (m + 276 + 2 * (g 1 + 1).toNatClampNeg)), (7, .ref (m + 276 + 2 * (g 1).toNatClampNeg)), (6, .ref (m + 596 + 130 * (g 3).toNatClampNeg)), (5, .int (g 1)), (4, .int (g 3)), (0, .ref m), (1, .ref q), (2, .ref a), (3, .ref b)]) (st' := [.int (na - nb), .int 0, .ref q]) [(52, .isub)] (by decide +kernel) rfl ?_
  have k17 := zrng na
  have k18 := zrng nb
  have k19 := zsub na nb (by omega) (by omega)
  generalize ev53 : (na - nb : Int32) = v53 at k19 ⊢
  have kv53 := zrng v53
  refine zp_seg (pc' := 55) (lv' := [(9, .ref (m + 276 + 2 * (g 1 + 1 + 1).toNatClampNeg)), (8, .ref (m + 276 + 2 * (g 1 + 1).toNatClampNeg)), (7, .ref (m + 276 + 2 * (g 1).toNatClampNeg)), (6, .ref (m + 596 + 130 * (g 3).toNatClampNeg)), (5, .int (g 1)), (4, .int (g 3)), (0, .ref m), (1, .ref q), (2, .ref a), (3, .ref b)]) (st' := [.int (v53 + 1), .int 0, .ref q]) [(53, .iconst 1), (54, .iadd)] (by decide +kernel) rfl ?_
  have k20 := zaddC v53 1 (n := 1) (by decide) (by omega) (by omega)
  generalize ev55 : (v53 + 1 : Int32) = v55 at k20 ⊢
  have kv55 := zrng v55
  have hl21 : (0 : Int32).toInt = 0 := by decide
  refine zr_max (idx := 40) (by decide +kernel) (by decide +kernel) (by omega) (Nat.le_of_ble_eq_true rfl) ?_
  obtain ⟨m22, em22, hm22⟩ := zmaxI 0 v55
  rw [← em22]
  have km22 := zrng m22
  obtain ⟨qn, hqn⟩ : ∃ x : Int, x = m22.toInt := ⟨_, rfl⟩
  have hb29 := hBo_q.si ((((hsi13.tr hsi19).tr hsi25).tr hsi31).tr hsi39)
  obtain ⟨n24, hb25, hb26, -⟩ := id hb29
  have kn24 := zrng n24
  refine zr_put2 (idx := 93) (k := 1) (fs2 := [.ref (q + 1), .int m22]) (by decide +kernel) (by decide +kernel) hb25 (Nat.le_of_ble_eq_true rfl) rfl rfl rfl ?_
  show zP (d + 1) zq_X16_divides 61 [(9, .ref (m + 276 + 2 * (g 1 + 1 + 1).toNatClampNeg)), (8, .ref (m + 276 + 2 * (g 1 + 1).toNatClampNeg)), (7, .ref (m + 276 + 2 * (g 1).toNatClampNeg)), (6, .ref (m + 596 + 130 * (g 3).toNatClampNeg)), (5, .int (g 1)), (4, .int (g 3)), (0, .ref m), (1, .ref q), (2, .ref a), (3, .ref b)] [] (zup w39 q (.inl (11, [.ref (q + 1), .int m22]))) sz 0 0 Post
  obtain ⟨w58, ew58⟩ : ∃ wz9, wz9 = zup w39 q (.inl (11, [.ref (q + 1), .int m22])) := ⟨_, rfl⟩
  have hsi58 : zSI w39 w58 := by rw [ew58]; exact zSI.setB hb25
  have heq58 : ∀ x, x ≠ q → w58 x = w39 x := fun x hx => by rw [ew58]; exact zup_n hx
  have hc58 : w58 q = some (.inl (11, [.ref (q + 1), .int m22])) := by rw [ew58]; exact zup_s
  rw [← ew58]
  clear ew58
  refine zp_seg (pc' := 64) (lv' := [(10, .int 0), (9, .ref (m + 276 + 2 * (g 1 + 1 + 1).toNatClampNeg)), (8, .ref (m + 276 + 2 * (g 1 + 1).toNatClampNeg)), (7, .ref (m + 276 + 2 * (g 1).toNatClampNeg)), (6, .ref (m + 596 + 130 * (g 3).toNatClampNeg)), (5, .int (g 1)), (4, .int (g 3)), (0, .ref m), (1, .ref q), (2, .ref a), (3, .ref b)]) (st' := []) [(61, .iconst 0), (62, .istore 10)] (by decide +kernel) rfl ?_
  have hb30 : w58 m = some (.inl (15, zMo m (zs (zs g 1 (g 1 + 1 + 1 + 1)) 3 (g 3 + 1)) r)) := ((heq58 m (by omega)).trans (heq39 m (by omega))).trans hM31
  have hL64 : ∀ (mm64 : Nat) (wL64 : zM) (y10_64 : Int32), (zSI w58 wL64) → (∀ x, ((x < q + 2 ∨ q + 2 + 128 ≤ x)) ∧ x ≠ m → wL64 x = w58 x) → (0 ≤ y10_64.toInt) → (y10_64.toInt ≤ qn) → (wL64 m = some (.inl (15, zMo m (zs (zs g 1 (g 1 + 1 + 1 + 1)) 3 (g 3 + 1)) r))) → (∀ t, t < y10_64.toNatClampNeg → zU wL64 (q + 2 + 2 * t) 200 zaZ) → (2147483647 - y10_64.toInt).toNat < mm64 → zP (d + 1) zq_X16_divides 64 [(0, .ref m), (1, .ref q), (2, .ref a), (3, .ref b), (4, .int (g 3)), (5, .int (g 1)), (6, .ref (m + 596 + 130 * (g 3).toNatClampNeg)), (7, .ref (m + 276 + 2 * (g 1).toNatClampNeg)), (8, .ref (m + 276 + 2 * (g 1 + 1).toNatClampNeg)), (9, .ref (m + 276 + 2 * (g 1 + 1 + 1).toNatClampNeg)), (10, .int y10_64)] [] wL64 sz 0 0 Post := by
    intro mm64
    induction mm64 with
    | zero => intros; omega
    | succ mm64 ih64 =>
    intro wL64 y10_64 hsiL64 heqL64 hi64_0 hi64_1 hmL64 hZ hmu64
    have ky10_64 := zrng y10_64
    refine zp_seg (pc' := 67) (lv' := [(0, .ref m), (1, .ref q), (2, .ref a), (3, .ref b), (4, .int (g 3)), (5, .int (g 1)), (6, .ref (m + 596 + 130 * (g 3).toNatClampNeg)), (7, .ref (m + 276 + 2 * (g 1).toNatClampNeg)), (8, .ref (m + 276 + 2 * (g 1 + 1).toNatClampNeg)), (9, .ref (m + 276 + 2 * (g 1 + 1 + 1).toNatClampNeg)), (10, .int y10_64)]) (st' := [.ref q, .int y10_64]) [(64, .iload 10), (66, .aload_n 1)] (by decide +kernel) rfl ?_
    have hb31 : wL64 q = some (.inl (11, [.ref (q + 1), .int m22])) := (heqL64 q (by omega)).trans hc58
    refine zr_get (idx := 93) (k := 1) (v := .int m22) (by decide +kernel) (by decide +kernel) hb31 rfl ?_
    refine zp_if (i := .if_icmp .ge 20) (c := m22 ≤ y10_64) (t := 90) (e := 73) (lv' := [(0, .ref m), (1, .ref q), (2, .ref a), (3, .ref b), (4, .int (g 3)), (5, .int (g 1)), (6, .ref (m + 596 + 130 * (g 3).toNatClampNeg)), (7, .ref (m + 276 + 2 * (g 1).toNatClampNeg)), (8, .ref (m + 276 + 2 * (g 1 + 1).toNatClampNeg)), (9, .ref (m + 276 + 2 * (g 1 + 1 + 1).toNatClampNeg)), (10, .int y10_64)]) (st' := []) (by decide +kernel) rfl (fun cc70 => ?_) (fun cc70 => ?_)
    ·
      have f32 := zleI cc70
      have hz33 : (y10_64.toNatClampNeg : Int) = y10_64.toInt := znat (by first | omega | decide)
      refine zp_seg (pc' := 91) (lv' := [(0, .ref m), (1, .ref q), (2, .ref a), (3, .ref b), (4, .int (g 3)), (5, .int (g 1)), (6, .ref (m + 596 + 130 * (g 3).toNatClampNeg)), (7, .ref (m + 276 + 2 * (g 1).toNatClampNeg)), (8, .ref (m + 276 + 2 * (g 1 + 1).toNatClampNeg)), (9, .ref (m + 276 + 2 * (g 1 + 1 + 1).toNatClampNeg)), (10, .int y10_64)]) (st' := [.ref a]) [(90, .aload_n 2)] (by decide +kernel) rfl ?_
      have hb34 : wL64 a = some (.inl (11, [.ref (a + 1), .int na])) := ((heqL64 a (by omega)).trans (heq58 a (by omega))).trans hb15
      refine zr_get (idx := 93) (k := 1) (v := .int na) (by decide +kernel) (by decide +kernel) hb34 rfl ?_
      have hJ113 : ∀ (z0_113 : Int32), ((z0_113 = 0 ∨ z0_113 = 1)) → (0 ≤ z0_113.toInt) → (z0_113.toInt ≤ 1) → (zDv2 p d9 zbZ p (z0_113 = 1)) → zP (d + 1) zq_X16_divides 113 [(0, .ref m), (1, .ref q), (3, .ref b), (4, .int (g 3)), (5, .int (g 1)), (6, .ref (m + 596 + 130 * (g 3).toNatClampNeg)), (7, .ref (m + 276 + 2 * (g 1).toNatClampNeg)), (8, .ref (m + 276 + 2 * (g 1 + 1).toNatClampNeg)), (9, .ref (m + 276 + 2 * (g 1 + 1 + 1).toNatClampNeg))] [.int z0_113] wL64 sz 0 0 Post := by
        intro z0_113 hi113_0 hi113_1 hi113_2 hg
        have kz0_113 := zrng z0_113
        refine zp_seg (pc' := 115) (lv' := [(10, .int z0_113), (0, .ref m), (1, .ref q), (3, .ref b), (4, .int (g 3)), (5, .int (g 1)), (6, .ref (m + 596 + 130 * (g 3).toNatClampNeg)), (7, .ref (m + 276 + 2 * (g 1).toNatClampNeg)), (8, .ref (m + 276 + 2 * (g 1 + 1).toNatClampNeg)), (9, .ref (m + 276 + 2 * (g 1 + 1 + 1).toNatClampNeg))]) (st' := []) [(113, .istore 10)] (by decide +kernel) rfl ?_
        have hL115 : ∀ (mm115 : Nat) (wL115 : zM) (y10_115 : Int32) (R : zA2) (Qa : zA2), (zSI wL64 wL115) → (∀ x, ((x < m + 596 + 130 * (g 3).toNatClampNeg ∨ m + 596 + 130 * (g 3).toNatClampNeg + 130 ≤ x) ∧ (x < q + 2 ∨ q + 2 + 128 ≤ x) ∧ (x < m + 276 + 2 * (g 1).toNatClampNeg ∨ m + 276 + 2 * (g 1).toNatClampNeg + 6 ≤ x)) ∧ x ≠ m → wL115 x = wL64 x) → ((y10_115 = 0 ∨ y10_115 = 1)) → (0 ≤ y10_115.toInt) → (y10_115.toInt ≤ 1) → (zB wL115 (m + 596 + 130 * (g 3).toNatClampNeg) R) → (zUo wL115 (m + 276 + 2 * (g 1).toNatClampNeg) 1000) → (zUo wL115 (m + 276 + 2 * (g 1 + 1).toNatClampNeg) 1000) → (zUo wL115 (m + 276 + 2 * (g 1 + 1 + 1).toNatClampNeg) 1000) → (wL115 m = some (.inl (15, zMo m (zs (zs g 1 (g 1 + 1 + 1 + 1)) 3 (g 3 + 1)) r))) → (zDv2 p d9 Qa R (y10_115 = 1)) → (∀ t : Nat, (t : Int) < qn → zU wL115 (q + 2 + 2 * t) 200 (Qa.1 t)) → 2 * zrw R + y10_115.toNatClampNeg < mm115 → zP (d + 1) zq_X16_divides 115 [(0, .ref m), (1, .ref q), (3, .ref b), (4, .int (g 3)), (5, .int (g 1)), (6, .ref (m + 596 + 130 * (g 3).toNatClampNeg)), (7, .ref (m + 276 + 2 * (g 1).toNatClampNeg)), (8, .ref (m + 276 + 2 * (g 1 + 1).toNatClampNeg)), (9, .ref (m + 276 + 2 * (g 1 + 1 + 1).toNatClampNeg)), (10, .int y10_115)] [] wL115 sz 0 0 Post := by
          intro mm115
          induction mm115 with
          | zero => intros; omega
          | succ mm115 ih115 =>
          intro wL115 y10_115 R Qa hsiL115 heqL115 hi115_0 hi115_1 hi115_2 hBR hUx hUy hUp hmL115 hD hQr hmu115
          have ky10_115 := zrng y10_115
          have hz35 : (y10_115.toNatClampNeg : Int) = y10_115.toInt := znat (by first | omega | decide)
          refine zp_seg (pc' := 117) (lv' := [(0, .ref m), (1, .ref q), (3, .ref b), (4, .int (g 3)), (5, .int (g 1)), (6, .ref (m + 596 + 130 * (g 3).toNatClampNeg)), (7, .ref (m + 276 + 2 * (g 1).toNatClampNeg)), (8, .ref (m + 276 + 2 * (g 1 + 1).toNatClampNeg)), (9, .ref (m + 276 + 2 * (g 1 + 1 + 1).toNatClampNeg)), (10, .int y10_115)]) (st' := [.int y10_115]) [(115, .iload 10)] (by decide +kernel) rfl ?_
          refine zp_if (i := .ifCond .eq 177) (c := y10_115 = 0) (t := 294) (e := 120) (lv' := [(0, .ref m), (1, .ref q), (3, .ref b), (4, .int (g 3)), (5, .int (g 1)), (6, .ref (m + 596 + 130 * (g 3).toNatClampNeg)), (7, .ref (m + 276 + 2 * (g 1).toNatClampNeg)), (8, .ref (m + 276 + 2 * (g 1 + 1).toNatClampNeg)), (9, .ref (m + 276 + 2 * (g 1 + 1 + 1).toNatClampNeg)), (10, .int y10_115)]) (st' := []) (by decide +kernel) rfl (fun cc117 => ?_) (fun cc117 => ?_)
          ·
            have f36 := zeqI cc117
            rw [show (0 : Int32).toInt = 0 from by decide] at f36
            have hn1 : y10_115 = 1 → y10_115.toInt = 1 := fun e => by rw [e]; decide
            refine zp_seg (pc' := 296) (lv' := [(0, .ref m), (1, .ref q), (3, .ref b), (4, .int (g 3)), (5, .int (g 1)), (6, .ref (m + 596 + 130 * (g 3).toNatClampNeg)), (7, .ref (m + 276 + 2 * (g 1).toNatClampNeg)), (8, .ref (m + 276 + 2 * (g 1 + 1).toNatClampNeg)), (9, .ref (m + 276 + 2 * (g 1 + 1 + 1).toNatClampNeg)), (10, .int y10_115)]) (st' := [.int y10_115]) [(294, .iload 10)] (by decide +kernel) rfl ?_
            refine zp_if (i := .ifCond .eq 15) (c := y10_115 = 0) (t := 311) (e := 299) (lv' := [(0, .ref m), (1, .ref q), (3, .ref b), (4, .int (g 3)), (5, .int (g 1)), (6, .ref (m + 596 + 130 * (g 3).toNatClampNeg)), (7, .ref (m + 276 + 2 * (g 1).toNatClampNeg)), (8, .ref (m + 276 + 2 * (g 1 + 1).toNatClampNeg)), (9, .ref (m + 276 + 2 * (g 1 + 1 + 1).toNatClampNeg)), (10, .int y10_115)]) (st' := []) (by decide +kernel) rfl (fun cc296 => ?_) (fun cc296 => ?_)
            ·
              have f37 := zeqI cc296
              rw [show (0 : Int32).toInt = 0 from by decide] at f37
              refine zp_seg (pc' := 314) (lv' := [(10, .int 0), (0, .ref m), (1, .ref q), (3, .ref b), (4, .int (g 3)), (5, .int (g 1)), (6, .ref (m + 596 + 130 * (g 3).toNatClampNeg)), (7, .ref (m + 276 + 2 * (g 1).toNatClampNeg)), (8, .ref (m + 276 + 2 * (g 1 + 1).toNatClampNeg)), (9, .ref (m + 276 + 2 * (g 1 + 1 + 1).toNatClampNeg))]) (st' := []) [(311, .iconst 0), (312, .istore 10)] (by decide +kernel) rfl ?_
              have hb38 := hb29.si ((hsi58.tr hsiL64).tr hsiL115)
              have hb39 : wL115 q = some (.inl (11, [.ref (q + 1), .int m22])) := (heqL115 q (by omega)).trans hb31
              have hBq9 : zBw wL115 q qn.toNat Qa := zBw.mk hb38 hb39 (by omega) (by omega) (fun j hj => hQr j (by omega)) (fun j hj => hD.2.2.1 j (by omega))
              refine zp_seg (pc' := 315) (lv' := [(10, .int 0), (0, .ref m), (1, .ref q), (3, .ref b), (4, .int (g 3)), (5, .int (g 1)), (6, .ref (m + 596 + 130 * (g 3).toNatClampNeg)), (7, .ref (m + 276 + 2 * (g 1).toNatClampNeg)), (8, .ref (m + 276 + 2 * (g 1 + 1).toNatClampNeg)), (9, .ref (m + 276 + 2 * (g 1 + 1 + 1).toNatClampNeg))]) (st' := [.ref q]) [(314, .aload_n 1)] (by decide +kernel) rfl ?_
              refine zr_callV (idx := 105) (j := 244) (by decide +kernel) (by decide +kernel) (show zMe 244 = some zq_X12_trim from rfl) rfl rfl (Nat.le_of_ble_eq_true rfl) rfl rfl hb39 (Nat.le_of_ble_eq_true rfl) (Nat.le_of_ble_eq_true rfl) (c_X12_trim (w := wL115) q hBq9) (by omega) (fun v315 w315 hp315 => ?_)
              obtain ⟨hsi315, heq315, hp315_0, rfl⟩ := hp315
              show zP _ _ _ _ [] _ _ _ _ _
              refine zp_seg (pc' := 321) (lv' := [(10, .int 0), (0, .ref m), (1, .ref q), (3, .ref b), (4, .int (g 3)), (5, .int (g 1)), (6, .ref (m + 596 + 130 * (g 3).toNatClampNeg)), (7, .ref (m + 276 + 2 * (g 1).toNatClampNeg)), (8, .ref (m + 276 + 2 * (g 1 + 1).toNatClampNeg)), (9, .ref (m + 276 + 2 * (g 1 + 1 + 1).toNatClampNeg))]) (st' := [.int (g 3), .ref m]) [(318, .aload_n 0), (319, .iload 4)] (by decide +kernel) rfl ?_
              have hb40 : w315 m = some (.inl (15, zMo m (zs (zs g 1 (g 1 + 1 + 1 + 1)) 3 (g 3 + 1)) r)) := (heq315 m (by omega)).trans hmL115
              refine zr_put2 (idx := 90) (k := 3) (fs2 := zMo m (zs g 1 (g 1 + 1 + 1 + 1)) r) (by decide +kernel) (by decide +kernel) hb40 (Nat.le_of_ble_eq_true rfl) rfl rfl rfl ?_
              show zP (d + 1) zq_X16_divides 324 [(10, .int 0), (0, .ref m), (1, .ref q), (3, .ref b), (4, .int (g 3)), (5, .int (g 1)), (6, .ref (m + 596 + 130 * (g 3).toNatClampNeg)), (7, .ref (m + 276 + 2 * (g 1).toNatClampNeg)), (8, .ref (m + 276 + 2 * (g 1 + 1).toNatClampNeg)), (9, .ref (m + 276 + 2 * (g 1 + 1 + 1).toNatClampNeg))] [] (zup w315 m (.inl (15, zMo m (zs g 1 (g 1 + 1 + 1 + 1)) r))) sz 0 0 Post
              obtain ⟨w321, ew321⟩ : ∃ wz9, wz9 = zup w315 m (.inl (15, zMo m (zs g 1 (g 1 + 1 + 1 + 1)) r)) := ⟨_, rfl⟩
              have hsi321 : zSI w315 w321 := by rw [ew321]; exact zSI.setG hb40 _ _
              have heq321 : ∀ x, x ≠ m → w321 x = w315 x := fun x hx => by rw [ew321]; exact zup_n hx
              have hc321 : w321 m = some (.inl (15, zMo m (zs g 1 (g 1 + 1 + 1 + 1)) r)) := by rw [ew321]; exact zup_s
              rw [← ew321]
              clear ew321
              refine zp_seg (pc' := 327) (lv' := [(10, .int 0), (0, .ref m), (1, .ref q), (3, .ref b), (4, .int (g 3)), (5, .int (g 1)), (6, .ref (m + 596 + 130 * (g 3).toNatClampNeg)), (7, .ref (m + 276 + 2 * (g 1).toNatClampNeg)), (8, .ref (m + 276 + 2 * (g 1 + 1).toNatClampNeg)), (9, .ref (m + 276 + 2 * (g 1 + 1 + 1).toNatClampNeg))]) (st' := [.int (g 1), .ref m]) [(324, .aload_n 0), (325, .iload 5)] (by decide +kernel) rfl ?_
              refine zr_put2 (idx := 21) (k := 1) (fs2 := zMo m g r) (by decide +kernel) (by decide +kernel) hc321 (Nat.le_of_ble_eq_true rfl) rfl rfl rfl ?_
              show zP (d + 1) zq_X16_divides 330 [(10, .int 0), (0, .ref m), (1, .ref q), (3, .ref b), (4, .int (g 3)), (5, .int (g 1)), (6, .ref (m + 596 + 130 * (g 3).toNatClampNeg)), (7, .ref (m + 276 + 2 * (g 1).toNatClampNeg)), (8, .ref (m + 276 + 2 * (g 1 + 1).toNatClampNeg)), (9, .ref (m + 276 + 2 * (g 1 + 1 + 1).toNatClampNeg))] [] (zup w321 m (.inl (15, zMo m g r))) sz 0 0 Post
              obtain ⟨w327, ew327⟩ : ∃ wz9, wz9 = zup w321 m (.inl (15, zMo m g r)) := ⟨_, rfl⟩
              have hsi327 : zSI w321 w327 := by rw [ew327]; exact zSI.setG hc321 _ _
              have heq327 : ∀ x, x ≠ m → w327 x = w321 x := fun x hx => by rw [ew327]; exact zup_n hx
              have hc327 : w327 m = some (.inl (15, zMo m g r)) := by rw [ew327]; exact zup_s
              rw [← ew327]
              clear ew327
              refine zp_seg (pc' := 332) (lv' := [(10, .int 0), (0, .ref m), (1, .ref q), (3, .ref b), (4, .int (g 3)), (5, .int (g 1)), (6, .ref (m + 596 + 130 * (g 3).toNatClampNeg)), (7, .ref (m + 276 + 2 * (g 1).toNatClampNeg)), (8, .ref (m + 276 + 2 * (g 1 + 1).toNatClampNeg)), (9, .ref (m + 276 + 2 * (g 1 + 1 + 1).toNatClampNeg))]) (st' := [.int 0]) [(330, .iload 10)] (by decide +kernel) rfl ?_
              have hmend : w327 m = w m := by rw [hc327, hm]
              have hoffend : ∀ x, (x < q ∨ q + 130 ≤ x) ∧ (x < m + 276 + 2 * (g 1).toNatClampNeg ∨ m + 276 + 2 * (g 1).toNatClampNeg + (320 - 2 * (g 1).toNatClampNeg) ≤ x) ∧ (x < m + 596 + 130 * (g 3).toNatClampNeg ∨ m + 596 + 130 * (g 3).toNatClampNeg + (5720 - 130 * (g 3).toNatClampNeg) ≤ x) → w327 x = w x := fun x hx => by
                  by_cases ex : x = m
                  · rw [ex]; exact hmend
                  · exact ((heq327 x (by omega)).trans ((heq321 x (by omega)).trans ((heq315 x (by omega)).trans ((heqL115 x (by omega)).trans ((heqL64 x (by omega)).trans ((heq58 x (by omega)).trans ((heq39 x (by omega)).trans ((heq31 x (by omega)).trans ((heq25 x (by omega)).trans ((heq19 x (by omega)).trans (heq13 x (by omega))))))))))))
              have hb41 : zB w327 q Qa := hp315_0.ag (fun x hx1 hx2 => ((heq327 x (by omega)).trans (heq321 x (by omega))))
              refine zr_retB (by decide +kernel) rfl (by decide) ?_
              rw [← hPost]; exact ⟨rfl, _, rfl, Qa, ((((((((((hsi13.tr hsi19).tr hsi25).tr hsi31).tr hsi39).tr hsi58).tr hsiL64).tr hsiL115).tr hsi315).tr hsi321).tr hsi327), hoffend, (by first | exact hb41 | (have z9 := hb41; simpa using z9)), _, rfl, (by decide), (by
                    first
                      | exact ⟨fun _ => (zDv2_e hd0 hD (Or.inr (by omega))).1 (by omega), fun _ => rfl⟩
                      | exact ⟨fun e => absurd e (by decide), fun hc => by
                          exfalso
                          have h9 := (zDv2_e hd0 hD (by first | exact Or.inr (by omega) | exact Or.inl (fun e => by have := hn1 e; omega))).2 hc
                          have h8 := hn1 h9.1
                          have h7 := h9.2
                          omega⟩)⟩
            ·
              have f42 := zneI cc296
              rw [show (0 : Int32).toInt = 0 from by decide] at f42
              refine zp_seg (pc' := 301) (lv' := [(0, .ref m), (1, .ref q), (3, .ref b), (4, .int (g 3)), (5, .int (g 1)), (6, .ref (m + 596 + 130 * (g 3).toNatClampNeg)), (7, .ref (m + 276 + 2 * (g 1).toNatClampNeg)), (8, .ref (m + 276 + 2 * (g 1 + 1).toNatClampNeg)), (9, .ref (m + 276 + 2 * (g 1 + 1 + 1).toNatClampNeg)), (10, .int y10_115)]) (st' := [.ref (m + 596 + 130 * (g 3).toNatClampNeg)]) [(299, .aload 6)] (by decide +kernel) rfl ?_
              obtain ⟨n43, hb44, hb45, hb46, hb47, -⟩ := id hBR
              have kn43 := zrng n43
              refine zr_get (idx := 93) (k := 1) (v := .int n43) (by decide +kernel) (by decide +kernel) hb44 rfl ?_
              refine zp_if (i := .ifCond .ne 7) (c := ¬ n43 = 0) (t := 311) (e := 307) (lv' := [(0, .ref m), (1, .ref q), (3, .ref b), (4, .int (g 3)), (5, .int (g 1)), (6, .ref (m + 596 + 130 * (g 3).toNatClampNeg)), (7, .ref (m + 276 + 2 * (g 1).toNatClampNeg)), (8, .ref (m + 276 + 2 * (g 1 + 1).toNatClampNeg)), (9, .ref (m + 276 + 2 * (g 1 + 1 + 1).toNatClampNeg)), (10, .int y10_115)]) (st' := []) (by decide +kernel) rfl (fun cc304 => ?_) (fun cc304 => ?_)
              ·
                have f48 := zneI cc304
                rw [show (0 : Int32).toInt = 0 from by decide] at f48
                refine zp_seg (pc' := 314) (lv' := [(10, .int 0), (0, .ref m), (1, .ref q), (3, .ref b), (4, .int (g 3)), (5, .int (g 1)), (6, .ref (m + 596 + 130 * (g 3).toNatClampNeg)), (7, .ref (m + 276 + 2 * (g 1).toNatClampNeg)), (8, .ref (m + 276 + 2 * (g 1 + 1).toNatClampNeg)), (9, .ref (m + 276 + 2 * (g 1 + 1 + 1).toNatClampNeg))]) (st' := []) [(311, .iconst 0), (312, .istore 10)] (by decide +kernel) rfl ?_
                have hb49 := hb29.si ((hsi58.tr hsiL64).tr hsiL115)
                have hb50 : wL115 q = some (.inl (11, [.ref (q + 1), .int m22])) := (heqL115 q (by omega)).trans hb31
                have hBq9 : zBw wL115 q qn.toNat Qa := zBw.mk hb49 hb50 (by omega) (by omega) (fun j hj => hQr j (by omega)) (fun j hj => hD.2.2.1 j (by omega))
                refine zp_seg (pc' := 315) (lv' := [(10, .int 0), (0, .ref m), (1, .ref q), (3, .ref b), (4, .int (g 3)), (5, .int (g 1)), (6, .ref (m + 596 + 130 * (g 3).toNatClampNeg)), (7, .ref (m + 276 + 2 * (g 1).toNatClampNeg)), (8, .ref (m + 276 + 2 * (g 1 + 1).toNatClampNeg)), (9, .ref (m + 276 + 2 * (g 1 + 1 + 1).toNatClampNeg))]) (st' := [.ref q]) [(314, .aload_n 1)] (by decide +kernel) rfl ?_
                refine zr_callV (idx := 105) (j := 244) (by decide +kernel) (by decide +kernel) (show zMe 244 = some zq_X12_trim from rfl) rfl rfl (Nat.le_of_ble_eq_true rfl) rfl rfl hb50 (Nat.le_of_ble_eq_true rfl) (Nat.le_of_ble_eq_true rfl) (c_X12_trim (w := wL115) q hBq9) (by omega) (fun v315 w315 hp315 => ?_)
                obtain ⟨hsi315, heq315, hp315_0, rfl⟩ := hp315
                show zP _ _ _ _ [] _ _ _ _ _
                refine zp_seg (pc' := 321) (lv' := [(10, .int 0), (0, .ref m), (1, .ref q), (3, .ref b), (4, .int (g 3)), (5, .int (g 1)), (6, .ref (m + 596 + 130 * (g 3).toNatClampNeg)), (7, .ref (m + 276 + 2 * (g 1).toNatClampNeg)), (8, .ref (m + 276 + 2 * (g 1 + 1).toNatClampNeg)), (9, .ref (m + 276 + 2 * (g 1 + 1 + 1).toNatClampNeg))]) (st' := [.int (g 3), .ref m]) [(318, .aload_n 0), (319, .iload 4)] (by decide +kernel) rfl ?_
                have hb51 : w315 m = some (.inl (15, zMo m (zs (zs g 1 (g 1 + 1 + 1 + 1)) 3 (g 3 + 1)) r)) := (heq315 m (by omega)).trans hmL115
                refine zr_put2 (idx := 90) (k := 3) (fs2 := zMo m (zs g 1 (g 1 + 1 + 1 + 1)) r) (by decide +kernel) (by decide +kernel) hb51 (Nat.le_of_ble_eq_true rfl) rfl rfl rfl ?_
                show zP (d + 1) zq_X16_divides 324 [(10, .int 0), (0, .ref m), (1, .ref q), (3, .ref b), (4, .int (g 3)), (5, .int (g 1)), (6, .ref (m + 596 + 130 * (g 3).toNatClampNeg)), (7, .ref (m + 276 + 2 * (g 1).toNatClampNeg)), (8, .ref (m + 276 + 2 * (g 1 + 1).toNatClampNeg)), (9, .ref (m + 276 + 2 * (g 1 + 1 + 1).toNatClampNeg))] [] (zup w315 m (.inl (15, zMo m (zs g 1 (g 1 + 1 + 1 + 1)) r))) sz 0 0 Post
                obtain ⟨w321, ew321⟩ : ∃ wz9, wz9 = zup w315 m (.inl (15, zMo m (zs g 1 (g 1 + 1 + 1 + 1)) r)) := ⟨_, rfl⟩
                have hsi321 : zSI w315 w321 := by rw [ew321]; exact zSI.setG hb51 _ _
                have heq321 : ∀ x, x ≠ m → w321 x = w315 x := fun x hx => by rw [ew321]; exact zup_n hx
                have hc321 : w321 m = some (.inl (15, zMo m (zs g 1 (g 1 + 1 + 1 + 1)) r)) := by rw [ew321]; exact zup_s
                rw [← ew321]
                clear ew321
                refine zp_seg (pc' := 327) (lv' := [(10, .int 0), (0, .ref m), (1, .ref q), (3, .ref b), (4, .int (g 3)), (5, .int (g 1)), (6, .ref (m + 596 + 130 * (g 3).toNatClampNeg)), (7, .ref (m + 276 + 2 * (g 1).toNatClampNeg)), (8, .ref (m + 276 + 2 * (g 1 + 1).toNatClampNeg)), (9, .ref (m + 276 + 2 * (g 1 + 1 + 1).toNatClampNeg))]) (st' := [.int (g 1), .ref m]) [(324, .aload_n 0), (325, .iload 5)] (by decide +kernel) rfl ?_
                refine zr_put2 (idx := 21) (k := 1) (fs2 := zMo m g r) (by decide +kernel) (by decide +kernel) hc321 (Nat.le_of_ble_eq_true rfl) rfl rfl rfl ?_
                show zP (d + 1) zq_X16_divides 330 [(10, .int 0), (0, .ref m), (1, .ref q), (3, .ref b), (4, .int (g 3)), (5, .int (g 1)), (6, .ref (m + 596 + 130 * (g 3).toNatClampNeg)), (7, .ref (m + 276 + 2 * (g 1).toNatClampNeg)), (8, .ref (m + 276 + 2 * (g 1 + 1).toNatClampNeg)), (9, .ref (m + 276 + 2 * (g 1 + 1 + 1).toNatClampNeg))] [] (zup w321 m (.inl (15, zMo m g r))) sz 0 0 Post
                obtain ⟨w327, ew327⟩ : ∃ wz9, wz9 = zup w321 m (.inl (15, zMo m g r)) := ⟨_, rfl⟩
                have hsi327 : zSI w321 w327 := by rw [ew327]; exact zSI.setG hc321 _ _
                have heq327 : ∀ x, x ≠ m → w327 x = w321 x := fun x hx => by rw [ew327]; exact zup_n hx
                have hc327 : w327 m = some (.inl (15, zMo m g r)) := by rw [ew327]; exact zup_s
                rw [← ew327]
                clear ew327
                refine zp_seg (pc' := 332) (lv' := [(10, .int 0), (0, .ref m), (1, .ref q), (3, .ref b), (4, .int (g 3)), (5, .int (g 1)), (6, .ref (m + 596 + 130 * (g 3).toNatClampNeg)), (7, .ref (m + 276 + 2 * (g 1).toNatClampNeg)), (8, .ref (m + 276 + 2 * (g 1 + 1).toNatClampNeg)), (9, .ref (m + 276 + 2 * (g 1 + 1 + 1).toNatClampNeg))]) (st' := [.int 0]) [(330, .iload 10)] (by decide +kernel) rfl ?_
                have hmend : w327 m = w m := by rw [hc327, hm]
                have hoffend : ∀ x, (x < q ∨ q + 130 ≤ x) ∧ (x < m + 276 + 2 * (g 1).toNatClampNeg ∨ m + 276 + 2 * (g 1).toNatClampNeg + (320 - 2 * (g 1).toNatClampNeg) ≤ x) ∧ (x < m + 596 + 130 * (g 3).toNatClampNeg ∨ m + 596 + 130 * (g 3).toNatClampNeg + (5720 - 130 * (g 3).toNatClampNeg) ≤ x) → w327 x = w x := fun x hx => by
                    by_cases ex : x = m
                    · rw [ex]; exact hmend
                    · exact ((heq327 x (by omega)).trans ((heq321 x (by omega)).trans ((heq315 x (by omega)).trans ((heqL115 x (by omega)).trans ((heqL64 x (by omega)).trans ((heq58 x (by omega)).trans ((heq39 x (by omega)).trans ((heq31 x (by omega)).trans ((heq25 x (by omega)).trans ((heq19 x (by omega)).trans (heq13 x (by omega))))))))))))
                have hb52 : zB w327 q Qa := hp315_0.ag (fun x hx1 hx2 => ((heq327 x (by omega)).trans (heq321 x (by omega))))
                refine zr_retB (by decide +kernel) rfl (by decide) ?_
                rw [← hPost]; exact ⟨rfl, _, rfl, Qa, ((((((((((hsi13.tr hsi19).tr hsi25).tr hsi31).tr hsi39).tr hsi58).tr hsiL64).tr hsiL115).tr hsi315).tr hsi321).tr hsi327), hoffend, (by first | exact hb52 | (have z9 := hb52; simpa using z9)), _, rfl, (by decide), (by
                      first
                        | exact ⟨fun _ => (zDv2_e hd0 hD (Or.inr (by omega))).1 (by omega), fun _ => rfl⟩
                        | exact ⟨fun e => absurd e (by decide), fun hc => by
                            exfalso
                            have h9 := (zDv2_e hd0 hD (by first | exact Or.inr (by omega) | exact Or.inl (fun e => by have := hn1 e; omega))).2 hc
                            have h8 := hn1 h9.1
                            have h7 := h9.2
                            omega⟩)⟩
              ·
                replace cc304 := Classical.not_not.mp cc304
                have f53 := zeqI cc304
                rw [show (0 : Int32).toInt = 0 from by decide] at f53
                refine zp_seg (pc' := 314) (lv' := [(10, .int 1), (0, .ref m), (1, .ref q), (3, .ref b), (4, .int (g 3)), (5, .int (g 1)), (6, .ref (m + 596 + 130 * (g 3).toNatClampNeg)), (7, .ref (m + 276 + 2 * (g 1).toNatClampNeg)), (8, .ref (m + 276 + 2 * (g 1 + 1).toNatClampNeg)), (9, .ref (m + 276 + 2 * (g 1 + 1 + 1).toNatClampNeg))]) (st' := []) [(307, .iconst 1), (308, .goto 4), (312, .istore 10)] (by decide +kernel) rfl ?_
                have hb54 := hb29.si ((hsi58.tr hsiL64).tr hsiL115)
                have hb55 : wL115 q = some (.inl (11, [.ref (q + 1), .int m22])) := (heqL115 q (by omega)).trans hb31
                have hBq9 : zBw wL115 q qn.toNat Qa := zBw.mk hb54 hb55 (by omega) (by omega) (fun j hj => hQr j (by omega)) (fun j hj => hD.2.2.1 j (by omega))
                refine zp_seg (pc' := 315) (lv' := [(10, .int 1), (0, .ref m), (1, .ref q), (3, .ref b), (4, .int (g 3)), (5, .int (g 1)), (6, .ref (m + 596 + 130 * (g 3).toNatClampNeg)), (7, .ref (m + 276 + 2 * (g 1).toNatClampNeg)), (8, .ref (m + 276 + 2 * (g 1 + 1).toNatClampNeg)), (9, .ref (m + 276 + 2 * (g 1 + 1 + 1).toNatClampNeg))]) (st' := [.ref q]) [(314, .aload_n 1)] (by decide +kernel) rfl ?_
                refine zr_callV (idx := 105) (j := 244) (by decide +kernel) (by decide +kernel) (show zMe 244 = some zq_X12_trim from rfl) rfl rfl (Nat.le_of_ble_eq_true rfl) rfl rfl hb55 (Nat.le_of_ble_eq_true rfl) (Nat.le_of_ble_eq_true rfl) (c_X12_trim (w := wL115) q hBq9) (by omega) (fun v315 w315 hp315 => ?_)
                obtain ⟨hsi315, heq315, hp315_0, rfl⟩ := hp315
                show zP _ _ _ _ [] _ _ _ _ _
                refine zp_seg (pc' := 321) (lv' := [(10, .int 1), (0, .ref m), (1, .ref q), (3, .ref b), (4, .int (g 3)), (5, .int (g 1)), (6, .ref (m + 596 + 130 * (g 3).toNatClampNeg)), (7, .ref (m + 276 + 2 * (g 1).toNatClampNeg)), (8, .ref (m + 276 + 2 * (g 1 + 1).toNatClampNeg)), (9, .ref (m + 276 + 2 * (g 1 + 1 + 1).toNatClampNeg))]) (st' := [.int (g 3), .ref m]) [(318, .aload_n 0), (319, .iload 4)] (by decide +kernel) rfl ?_
                have hb56 : w315 m = some (.inl (15, zMo m (zs (zs g 1 (g 1 + 1 + 1 + 1)) 3 (g 3 + 1)) r)) := (heq315 m (by omega)).trans hmL115
                refine zr_put2 (idx := 90) (k := 3) (fs2 := zMo m (zs g 1 (g 1 + 1 + 1 + 1)) r) (by decide +kernel) (by decide +kernel) hb56 (Nat.le_of_ble_eq_true rfl) rfl rfl rfl ?_
                show zP (d + 1) zq_X16_divides 324 [(10, .int 1), (0, .ref m), (1, .ref q), (3, .ref b), (4, .int (g 3)), (5, .int (g 1)), (6, .ref (m + 596 + 130 * (g 3).toNatClampNeg)), (7, .ref (m + 276 + 2 * (g 1).toNatClampNeg)), (8, .ref (m + 276 + 2 * (g 1 + 1).toNatClampNeg)), (9, .ref (m + 276 + 2 * (g 1 + 1 + 1).toNatClampNeg))] [] (zup w315 m (.inl (15, zMo m (zs g 1 (g 1 + 1 + 1 + 1)) r))) sz 0 0 Post
                obtain ⟨w321, ew321⟩ : ∃ wz9, wz9 = zup w315 m (.inl (15, zMo m (zs g 1 (g 1 + 1 + 1 + 1)) r)) := ⟨_, rfl⟩
                have hsi321 : zSI w315 w321 := by rw [ew321]; exact zSI.setG hb56 _ _
                have heq321 : ∀ x, x ≠ m → w321 x = w315 x := fun x hx => by rw [ew321]; exact zup_n hx
                have hc321 : w321 m = some (.inl (15, zMo m (zs g 1 (g 1 + 1 + 1 + 1)) r)) := by rw [ew321]; exact zup_s
                rw [← ew321]
                clear ew321
                refine zp_seg (pc' := 327) (lv' := [(10, .int 1), (0, .ref m), (1, .ref q), (3, .ref b), (4, .int (g 3)), (5, .int (g 1)), (6, .ref (m + 596 + 130 * (g 3).toNatClampNeg)), (7, .ref (m + 276 + 2 * (g 1).toNatClampNeg)), (8, .ref (m + 276 + 2 * (g 1 + 1).toNatClampNeg)), (9, .ref (m + 276 + 2 * (g 1 + 1 + 1).toNatClampNeg))]) (st' := [.int (g 1), .ref m]) [(324, .aload_n 0), (325, .iload 5)] (by decide +kernel) rfl ?_
                refine zr_put2 (idx := 21) (k := 1) (fs2 := zMo m g r) (by decide +kernel) (by decide +kernel) hc321 (Nat.le_of_ble_eq_true rfl) rfl rfl rfl ?_
                show zP (d + 1) zq_X16_divides 330 [(10, .int 1), (0, .ref m), (1, .ref q), (3, .ref b), (4, .int (g 3)), (5, .int (g 1)), (6, .ref (m + 596 + 130 * (g 3).toNatClampNeg)), (7, .ref (m + 276 + 2 * (g 1).toNatClampNeg)), (8, .ref (m + 276 + 2 * (g 1 + 1).toNatClampNeg)), (9, .ref (m + 276 + 2 * (g 1 + 1 + 1).toNatClampNeg))] [] (zup w321 m (.inl (15, zMo m g r))) sz 0 0 Post
                obtain ⟨w327, ew327⟩ : ∃ wz9, wz9 = zup w321 m (.inl (15, zMo m g r)) := ⟨_, rfl⟩
                have hsi327 : zSI w321 w327 := by rw [ew327]; exact zSI.setG hc321 _ _
                have heq327 : ∀ x, x ≠ m → w327 x = w321 x := fun x hx => by rw [ew327]; exact zup_n hx
                have hc327 : w327 m = some (.inl (15, zMo m g r)) := by rw [ew327]; exact zup_s
                rw [← ew327]
                clear ew327
                refine zp_seg (pc' := 332) (lv' := [(10, .int 1), (0, .ref m), (1, .ref q), (3, .ref b), (4, .int (g 3)), (5, .int (g 1)), (6, .ref (m + 596 + 130 * (g 3).toNatClampNeg)), (7, .ref (m + 276 + 2 * (g 1).toNatClampNeg)), (8, .ref (m + 276 + 2 * (g 1 + 1).toNatClampNeg)), (9, .ref (m + 276 + 2 * (g 1 + 1 + 1).toNatClampNeg))]) (st' := [.int 1]) [(330, .iload 10)] (by decide +kernel) rfl ?_
                have hmend : w327 m = w m := by rw [hc327, hm]
                have hoffend : ∀ x, (x < q ∨ q + 130 ≤ x) ∧ (x < m + 276 + 2 * (g 1).toNatClampNeg ∨ m + 276 + 2 * (g 1).toNatClampNeg + (320 - 2 * (g 1).toNatClampNeg) ≤ x) ∧ (x < m + 596 + 130 * (g 3).toNatClampNeg ∨ m + 596 + 130 * (g 3).toNatClampNeg + (5720 - 130 * (g 3).toNatClampNeg) ≤ x) → w327 x = w x := fun x hx => by
                    by_cases ex : x = m
                    · rw [ex]; exact hmend
                    · exact ((heq327 x (by omega)).trans ((heq321 x (by omega)).trans ((heq315 x (by omega)).trans ((heqL115 x (by omega)).trans ((heqL64 x (by omega)).trans ((heq58 x (by omega)).trans ((heq39 x (by omega)).trans ((heq31 x (by omega)).trans ((heq25 x (by omega)).trans ((heq19 x (by omega)).trans (heq13 x (by omega))))))))))))
                have hb57 : zB w327 q Qa := hp315_0.ag (fun x hx1 hx2 => ((heq327 x (by omega)).trans (heq321 x (by omega))))
                refine zr_retB (by decide +kernel) rfl (by decide) ?_
                rw [← hPost]; exact ⟨rfl, _, rfl, Qa, ((((((((((hsi13.tr hsi19).tr hsi25).tr hsi31).tr hsi39).tr hsi58).tr hsiL64).tr hsiL115).tr hsi315).tr hsi321).tr hsi327), hoffend, (by first | exact hb57 | (have z9 := hb57; simpa using z9)), _, rfl, (by decide), (by
                      first
                        | exact ⟨fun _ => (zDv2_e hd0 hD (Or.inr (by omega))).1 (by omega), fun _ => rfl⟩
                        | exact ⟨fun e => absurd e (by decide), fun hc => by
                            exfalso
                            have h9 := (zDv2_e hd0 hD (by first | exact Or.inr (by omega) | exact Or.inl (fun e => by have := hn1 e; omega))).2 hc
                            have h8 := hn1 h9.1
                            have h7 := h9.2
                            omega⟩)⟩
          ·
            have f58 := zneI cc117
            rw [show (0 : Int32).toInt = 0 from by decide] at f58
            refine zp_seg (pc' := 122) (lv' := [(0, .ref m), (1, .ref q), (3, .ref b), (4, .int (g 3)), (5, .int (g 1)), (6, .ref (m + 596 + 130 * (g 3).toNatClampNeg)), (7, .ref (m + 276 + 2 * (g 1).toNatClampNeg)), (8, .ref (m + 276 + 2 * (g 1 + 1).toNatClampNeg)), (9, .ref (m + 276 + 2 * (g 1 + 1 + 1).toNatClampNeg)), (10, .int y10_115)]) (st' := [.ref (m + 596 + 130 * (g 3).toNatClampNeg)]) [(120, .aload 6)] (by decide +kernel) rfl ?_
            obtain ⟨n59, hb60, hb61, hb62, hb63, -⟩ := id hBR
            have kn59 := zrng n59
            refine zr_get (idx := 93) (k := 1) (v := .int n59) (by decide +kernel) (by decide +kernel) hb60 rfl ?_
            refine zp_seg (pc' := 126) (lv' := [(0, .ref m), (1, .ref q), (3, .ref b), (4, .int (g 3)), (5, .int (g 1)), (6, .ref (m + 596 + 130 * (g 3).toNatClampNeg)), (7, .ref (m + 276 + 2 * (g 1).toNatClampNeg)), (8, .ref (m + 276 + 2 * (g 1 + 1).toNatClampNeg)), (9, .ref (m + 276 + 2 * (g 1 + 1 + 1).toNatClampNeg)), (10, .int y10_115)]) (st' := [.ref b, .int n59]) [(125, .aload_n 3)] (by decide +kernel) rfl ?_
            have hb64 : wL115 b = some (.inl (11, [.ref (b + 1), .int nb])) := ((heqL115 b (by omega)).trans ((heqL64 b (by omega)).trans (heq58 b (by omega)))).trans hb16
            refine zr_get (idx := 93) (k := 1) (v := .int nb) (by decide +kernel) (by decide +kernel) hb64 rfl ?_
            refine zp_if (i := .if_icmp .lt 165) (c := n59 < nb) (t := 294) (e := 132) (lv' := [(0, .ref m), (1, .ref q), (3, .ref b), (4, .int (g 3)), (5, .int (g 1)), (6, .ref (m + 596 + 130 * (g 3).toNatClampNeg)), (7, .ref (m + 276 + 2 * (g 1).toNatClampNeg)), (8, .ref (m + 276 + 2 * (g 1 + 1).toNatClampNeg)), (9, .ref (m + 276 + 2 * (g 1 + 1 + 1).toNatClampNeg)), (10, .int y10_115)]) (st' := []) (by decide +kernel) rfl (fun cc129 => ?_) (fun cc129 => ?_)
            ·
              have f65 := zltI cc129
              have hn1 : y10_115 = 1 → y10_115.toInt = 1 := fun e => by rw [e]; decide
              refine zp_seg (pc' := 296) (lv' := [(0, .ref m), (1, .ref q), (3, .ref b), (4, .int (g 3)), (5, .int (g 1)), (6, .ref (m + 596 + 130 * (g 3).toNatClampNeg)), (7, .ref (m + 276 + 2 * (g 1).toNatClampNeg)), (8, .ref (m + 276 + 2 * (g 1 + 1).toNatClampNeg)), (9, .ref (m + 276 + 2 * (g 1 + 1 + 1).toNatClampNeg)), (10, .int y10_115)]) (st' := [.int y10_115]) [(294, .iload 10)] (by decide +kernel) rfl ?_
              refine zp_if (i := .ifCond .eq 15) (c := y10_115 = 0) (t := 311) (e := 299) (lv' := [(0, .ref m), (1, .ref q), (3, .ref b), (4, .int (g 3)), (5, .int (g 1)), (6, .ref (m + 596 + 130 * (g 3).toNatClampNeg)), (7, .ref (m + 276 + 2 * (g 1).toNatClampNeg)), (8, .ref (m + 276 + 2 * (g 1 + 1).toNatClampNeg)), (9, .ref (m + 276 + 2 * (g 1 + 1 + 1).toNatClampNeg)), (10, .int y10_115)]) (st' := []) (by decide +kernel) rfl (fun cc296 => ?_) (fun cc296 => ?_)
              ·
                have f66 := zeqI cc296
                rw [show (0 : Int32).toInt = 0 from by decide] at f66
                refine zp_seg (pc' := 314) (lv' := [(10, .int 0), (0, .ref m), (1, .ref q), (3, .ref b), (4, .int (g 3)), (5, .int (g 1)), (6, .ref (m + 596 + 130 * (g 3).toNatClampNeg)), (7, .ref (m + 276 + 2 * (g 1).toNatClampNeg)), (8, .ref (m + 276 + 2 * (g 1 + 1).toNatClampNeg)), (9, .ref (m + 276 + 2 * (g 1 + 1 + 1).toNatClampNeg))]) (st' := []) [(311, .iconst 0), (312, .istore 10)] (by decide +kernel) rfl ?_
                have hb67 := hb29.si ((hsi58.tr hsiL64).tr hsiL115)
                have hb68 : wL115 q = some (.inl (11, [.ref (q + 1), .int m22])) := (heqL115 q (by omega)).trans hb31
                have hBq9 : zBw wL115 q qn.toNat Qa := zBw.mk hb67 hb68 (by omega) (by omega) (fun j hj => hQr j (by omega)) (fun j hj => hD.2.2.1 j (by omega))
                refine zp_seg (pc' := 315) (lv' := [(10, .int 0), (0, .ref m), (1, .ref q), (3, .ref b), (4, .int (g 3)), (5, .int (g 1)), (6, .ref (m + 596 + 130 * (g 3).toNatClampNeg)), (7, .ref (m + 276 + 2 * (g 1).toNatClampNeg)), (8, .ref (m + 276 + 2 * (g 1 + 1).toNatClampNeg)), (9, .ref (m + 276 + 2 * (g 1 + 1 + 1).toNatClampNeg))]) (st' := [.ref q]) [(314, .aload_n 1)] (by decide +kernel) rfl ?_
                refine zr_callV (idx := 105) (j := 244) (by decide +kernel) (by decide +kernel) (show zMe 244 = some zq_X12_trim from rfl) rfl rfl (Nat.le_of_ble_eq_true rfl) rfl rfl hb68 (Nat.le_of_ble_eq_true rfl) (Nat.le_of_ble_eq_true rfl) (c_X12_trim (w := wL115) q hBq9) (by omega) (fun v315 w315 hp315 => ?_)
                obtain ⟨hsi315, heq315, hp315_0, rfl⟩ := hp315
                show zP _ _ _ _ [] _ _ _ _ _
                refine zp_seg (pc' := 321) (lv' := [(10, .int 0), (0, .ref m), (1, .ref q), (3, .ref b), (4, .int (g 3)), (5, .int (g 1)), (6, .ref (m + 596 + 130 * (g 3).toNatClampNeg)), (7, .ref (m + 276 + 2 * (g 1).toNatClampNeg)), (8, .ref (m + 276 + 2 * (g 1 + 1).toNatClampNeg)), (9, .ref (m + 276 + 2 * (g 1 + 1 + 1).toNatClampNeg))]) (st' := [.int (g 3), .ref m]) [(318, .aload_n 0), (319, .iload 4)] (by decide +kernel) rfl ?_
                have hb69 : w315 m = some (.inl (15, zMo m (zs (zs g 1 (g 1 + 1 + 1 + 1)) 3 (g 3 + 1)) r)) := (heq315 m (by omega)).trans hmL115
                refine zr_put2 (idx := 90) (k := 3) (fs2 := zMo m (zs g 1 (g 1 + 1 + 1 + 1)) r) (by decide +kernel) (by decide +kernel) hb69 (Nat.le_of_ble_eq_true rfl) rfl rfl rfl ?_
                show zP (d + 1) zq_X16_divides 324 [(10, .int 0), (0, .ref m), (1, .ref q), (3, .ref b), (4, .int (g 3)), (5, .int (g 1)), (6, .ref (m + 596 + 130 * (g 3).toNatClampNeg)), (7, .ref (m + 276 + 2 * (g 1).toNatClampNeg)), (8, .ref (m + 276 + 2 * (g 1 + 1).toNatClampNeg)), (9, .ref (m + 276 + 2 * (g 1 + 1 + 1).toNatClampNeg))] [] (zup w315 m (.inl (15, zMo m (zs g 1 (g 1 + 1 + 1 + 1)) r))) sz 0 0 Post
                obtain ⟨w321, ew321⟩ : ∃ wz9, wz9 = zup w315 m (.inl (15, zMo m (zs g 1 (g 1 + 1 + 1 + 1)) r)) := ⟨_, rfl⟩
                have hsi321 : zSI w315 w321 := by rw [ew321]; exact zSI.setG hb69 _ _
                have heq321 : ∀ x, x ≠ m → w321 x = w315 x := fun x hx => by rw [ew321]; exact zup_n hx
                have hc321 : w321 m = some (.inl (15, zMo m (zs g 1 (g 1 + 1 + 1 + 1)) r)) := by rw [ew321]; exact zup_s
                rw [← ew321]
                clear ew321
                refine zp_seg (pc' := 327) (lv' := [(10, .int 0), (0, .ref m), (1, .ref q), (3, .ref b), (4, .int (g 3)), (5, .int (g 1)), (6, .ref (m + 596 + 130 * (g 3).toNatClampNeg)), (7, .ref (m + 276 + 2 * (g 1).toNatClampNeg)), (8, .ref (m + 276 + 2 * (g 1 + 1).toNatClampNeg)), (9, .ref (m + 276 + 2 * (g 1 + 1 + 1).toNatClampNeg))]) (st' := [.int (g 1), .ref m]) [(324, .aload_n 0), (325, .iload 5)] (by decide +kernel) rfl ?_
                refine zr_put2 (idx := 21) (k := 1) (fs2 := zMo m g r) (by decide +kernel) (by decide +kernel) hc321 (Nat.le_of_ble_eq_true rfl) rfl rfl rfl ?_
                show zP (d + 1) zq_X16_divides 330 [(10, .int 0), (0, .ref m), (1, .ref q), (3, .ref b), (4, .int (g 3)), (5, .int (g 1)), (6, .ref (m + 596 + 130 * (g 3).toNatClampNeg)), (7, .ref (m + 276 + 2 * (g 1).toNatClampNeg)), (8, .ref (m + 276 + 2 * (g 1 + 1).toNatClampNeg)), (9, .ref (m + 276 + 2 * (g 1 + 1 + 1).toNatClampNeg))] [] (zup w321 m (.inl (15, zMo m g r))) sz 0 0 Post
                obtain ⟨w327, ew327⟩ : ∃ wz9, wz9 = zup w321 m (.inl (15, zMo m g r)) := ⟨_, rfl⟩
                have hsi327 : zSI w321 w327 := by rw [ew327]; exact zSI.setG hc321 _ _
                have heq327 : ∀ x, x ≠ m → w327 x = w321 x := fun x hx => by rw [ew327]; exact zup_n hx
                have hc327 : w327 m = some (.inl (15, zMo m g r)) := by rw [ew327]; exact zup_s
                rw [← ew327]
                clear ew327
                refine zp_seg (pc' := 332) (lv' := [(10, .int 0), (0, .ref m), (1, .ref q), (3, .ref b), (4, .int (g 3)), (5, .int (g 1)), (6, .ref (m + 596 + 130 * (g 3).toNatClampNeg)), (7, .ref (m + 276 + 2 * (g 1).toNatClampNeg)), (8, .ref (m + 276 + 2 * (g 1 + 1).toNatClampNeg)), (9, .ref (m + 276 + 2 * (g 1 + 1 + 1).toNatClampNeg))]) (st' := [.int 0]) [(330, .iload 10)] (by decide +kernel) rfl ?_
                have hmend : w327 m = w m := by rw [hc327, hm]
                have hoffend : ∀ x, (x < q ∨ q + 130 ≤ x) ∧ (x < m + 276 + 2 * (g 1).toNatClampNeg ∨ m + 276 + 2 * (g 1).toNatClampNeg + (320 - 2 * (g 1).toNatClampNeg) ≤ x) ∧ (x < m + 596 + 130 * (g 3).toNatClampNeg ∨ m + 596 + 130 * (g 3).toNatClampNeg + (5720 - 130 * (g 3).toNatClampNeg) ≤ x) → w327 x = w x := fun x hx => by
                    by_cases ex : x = m
                    · rw [ex]; exact hmend
                    · exact ((heq327 x (by omega)).trans ((heq321 x (by omega)).trans ((heq315 x (by omega)).trans ((heqL115 x (by omega)).trans ((heqL64 x (by omega)).trans ((heq58 x (by omega)).trans ((heq39 x (by omega)).trans ((heq31 x (by omega)).trans ((heq25 x (by omega)).trans ((heq19 x (by omega)).trans (heq13 x (by omega))))))))))))
                have hb70 : zB w327 q Qa := hp315_0.ag (fun x hx1 hx2 => ((heq327 x (by omega)).trans (heq321 x (by omega))))
                refine zr_retB (by decide +kernel) rfl (by decide) ?_
                rw [← hPost]; exact ⟨rfl, _, rfl, Qa, ((((((((((hsi13.tr hsi19).tr hsi25).tr hsi31).tr hsi39).tr hsi58).tr hsiL64).tr hsiL115).tr hsi315).tr hsi321).tr hsi327), hoffend, (by first | exact hb70 | (have z9 := hb70; simpa using z9)), _, rfl, (by decide), (by
                      first
                        | exact ⟨fun _ => (zDv2_e hd0 hD (Or.inr (by omega))).1 (by omega), fun _ => rfl⟩
                        | exact ⟨fun e => absurd e (by decide), fun hc => by
                            exfalso
                            have h9 := (zDv2_e hd0 hD (by first | exact Or.inr (by omega) | exact Or.inl (fun e => by have := hn1 e; omega))).2 hc
                            have h8 := hn1 h9.1
                            have h7 := h9.2
                            omega⟩)⟩
              ·
                have f71 := zneI cc296
                rw [show (0 : Int32).toInt = 0 from by decide] at f71
                refine zp_seg (pc' := 301) (lv' := [(0, .ref m), (1, .ref q), (3, .ref b), (4, .int (g 3)), (5, .int (g 1)), (6, .ref (m + 596 + 130 * (g 3).toNatClampNeg)), (7, .ref (m + 276 + 2 * (g 1).toNatClampNeg)), (8, .ref (m + 276 + 2 * (g 1 + 1).toNatClampNeg)), (9, .ref (m + 276 + 2 * (g 1 + 1 + 1).toNatClampNeg)), (10, .int y10_115)]) (st' := [.ref (m + 596 + 130 * (g 3).toNatClampNeg)]) [(299, .aload 6)] (by decide +kernel) rfl ?_
                refine zr_get (idx := 93) (k := 1) (v := .int n59) (by decide +kernel) (by decide +kernel) hb60 rfl ?_
                refine zp_if (i := .ifCond .ne 7) (c := ¬ n59 = 0) (t := 311) (e := 307) (lv' := [(0, .ref m), (1, .ref q), (3, .ref b), (4, .int (g 3)), (5, .int (g 1)), (6, .ref (m + 596 + 130 * (g 3).toNatClampNeg)), (7, .ref (m + 276 + 2 * (g 1).toNatClampNeg)), (8, .ref (m + 276 + 2 * (g 1 + 1).toNatClampNeg)), (9, .ref (m + 276 + 2 * (g 1 + 1 + 1).toNatClampNeg)), (10, .int y10_115)]) (st' := []) (by decide +kernel) rfl (fun cc304 => ?_) (fun cc304 => ?_)
                ·
                  have f72 := zneI cc304
                  rw [show (0 : Int32).toInt = 0 from by decide] at f72
                  refine zp_seg (pc' := 314) (lv' := [(10, .int 0), (0, .ref m), (1, .ref q), (3, .ref b), (4, .int (g 3)), (5, .int (g 1)), (6, .ref (m + 596 + 130 * (g 3).toNatClampNeg)), (7, .ref (m + 276 + 2 * (g 1).toNatClampNeg)), (8, .ref (m + 276 + 2 * (g 1 + 1).toNatClampNeg)), (9, .ref (m + 276 + 2 * (g 1 + 1 + 1).toNatClampNeg))]) (st' := []) [(311, .iconst 0), (312, .istore 10)] (by decide +kernel) rfl ?_
                  have hb73 := hb29.si ((hsi58.tr hsiL64).tr hsiL115)
                  have hb74 : wL115 q = some (.inl (11, [.ref (q + 1), .int m22])) := (heqL115 q (by omega)).trans hb31
                  have hBq9 : zBw wL115 q qn.toNat Qa := zBw.mk hb73 hb74 (by omega) (by omega) (fun j hj => hQr j (by omega)) (fun j hj => hD.2.2.1 j (by omega))
                  refine zp_seg (pc' := 315) (lv' := [(10, .int 0), (0, .ref m), (1, .ref q), (3, .ref b), (4, .int (g 3)), (5, .int (g 1)), (6, .ref (m + 596 + 130 * (g 3).toNatClampNeg)), (7, .ref (m + 276 + 2 * (g 1).toNatClampNeg)), (8, .ref (m + 276 + 2 * (g 1 + 1).toNatClampNeg)), (9, .ref (m + 276 + 2 * (g 1 + 1 + 1).toNatClampNeg))]) (st' := [.ref q]) [(314, .aload_n 1)] (by decide +kernel) rfl ?_
                  refine zr_callV (idx := 105) (j := 244) (by decide +kernel) (by decide +kernel) (show zMe 244 = some zq_X12_trim from rfl) rfl rfl (Nat.le_of_ble_eq_true rfl) rfl rfl hb74 (Nat.le_of_ble_eq_true rfl) (Nat.le_of_ble_eq_true rfl) (c_X12_trim (w := wL115) q hBq9) (by omega) (fun v315 w315 hp315 => ?_)
                  obtain ⟨hsi315, heq315, hp315_0, rfl⟩ := hp315
                  show zP _ _ _ _ [] _ _ _ _ _
                  refine zp_seg (pc' := 321) (lv' := [(10, .int 0), (0, .ref m), (1, .ref q), (3, .ref b), (4, .int (g 3)), (5, .int (g 1)), (6, .ref (m + 596 + 130 * (g 3).toNatClampNeg)), (7, .ref (m + 276 + 2 * (g 1).toNatClampNeg)), (8, .ref (m + 276 + 2 * (g 1 + 1).toNatClampNeg)), (9, .ref (m + 276 + 2 * (g 1 + 1 + 1).toNatClampNeg))]) (st' := [.int (g 3), .ref m]) [(318, .aload_n 0), (319, .iload 4)] (by decide +kernel) rfl ?_
                  have hb75 : w315 m = some (.inl (15, zMo m (zs (zs g 1 (g 1 + 1 + 1 + 1)) 3 (g 3 + 1)) r)) := (heq315 m (by omega)).trans hmL115
                  refine zr_put2 (idx := 90) (k := 3) (fs2 := zMo m (zs g 1 (g 1 + 1 + 1 + 1)) r) (by decide +kernel) (by decide +kernel) hb75 (Nat.le_of_ble_eq_true rfl) rfl rfl rfl ?_
                  show zP (d + 1) zq_X16_divides 324 [(10, .int 0), (0, .ref m), (1, .ref q), (3, .ref b), (4, .int (g 3)), (5, .int (g 1)), (6, .ref (m + 596 + 130 * (g 3).toNatClampNeg)), (7, .ref (m + 276 + 2 * (g 1).toNatClampNeg)), (8, .ref (m + 276 + 2 * (g 1 + 1).toNatClampNeg)), (9, .ref (m + 276 + 2 * (g 1 + 1 + 1).toNatClampNeg))] [] (zup w315 m (.inl (15, zMo m (zs g 1 (g 1 + 1 + 1 + 1)) r))) sz 0 0 Post
                  obtain ⟨w321, ew321⟩ : ∃ wz9, wz9 = zup w315 m (.inl (15, zMo m (zs g 1 (g 1 + 1 + 1 + 1)) r)) := ⟨_, rfl⟩
                  have hsi321 : zSI w315 w321 := by rw [ew321]; exact zSI.setG hb75 _ _
                  have heq321 : ∀ x, x ≠ m → w321 x = w315 x := fun x hx => by rw [ew321]; exact zup_n hx
                  have hc321 : w321 m = some (.inl (15, zMo m (zs g 1 (g 1 + 1 + 1 + 1)) r)) := by rw [ew321]; exact zup_s
                  rw [← ew321]
                  clear ew321
                  refine zp_seg (pc' := 327) (lv' := [(10, .int 0), (0, .ref m), (1, .ref q), (3, .ref b), (4, .int (g 3)), (5, .int (g 1)), (6, .ref (m + 596 + 130 * (g 3).toNatClampNeg)), (7, .ref (m + 276 + 2 * (g 1).toNatClampNeg)), (8, .ref (m + 276 + 2 * (g 1 + 1).toNatClampNeg)), (9, .ref (m + 276 + 2 * (g 1 + 1 + 1).toNatClampNeg))]) (st' := [.int (g 1), .ref m]) [(324, .aload_n 0), (325, .iload 5)] (by decide +kernel) rfl ?_
                  refine zr_put2 (idx := 21) (k := 1) (fs2 := zMo m g r) (by decide +kernel) (by decide +kernel) hc321 (Nat.le_of_ble_eq_true rfl) rfl rfl rfl ?_
                  show zP (d + 1) zq_X16_divides 330 [(10, .int 0), (0, .ref m), (1, .ref q), (3, .ref b), (4, .int (g 3)), (5, .int (g 1)), (6, .ref (m + 596 + 130 * (g 3).toNatClampNeg)), (7, .ref (m + 276 + 2 * (g 1).toNatClampNeg)), (8, .ref (m + 276 + 2 * (g 1 + 1).toNatClampNeg)), (9, .ref (m + 276 + 2 * (g 1 + 1 + 1).toNatClampNeg))] [] (zup w321 m (.inl (15, zMo m g r))) sz 0 0 Post
                  obtain ⟨w327, ew327⟩ : ∃ wz9, wz9 = zup w321 m (.inl (15, zMo m g r)) := ⟨_, rfl⟩
                  have hsi327 : zSI w321 w327 := by rw [ew327]; exact zSI.setG hc321 _ _
                  have heq327 : ∀ x, x ≠ m → w327 x = w321 x := fun x hx => by rw [ew327]; exact zup_n hx
                  have hc327 : w327 m = some (.inl (15, zMo m g r)) := by rw [ew327]; exact zup_s
                  rw [← ew327]
                  clear ew327
                  refine zp_seg (pc' := 332) (lv' := [(10, .int 0), (0, .ref m), (1, .ref q), (3, .ref b), (4, .int (g 3)), (5, .int (g 1)), (6, .ref (m + 596 + 130 * (g 3).toNatClampNeg)), (7, .ref (m + 276 + 2 * (g 1).toNatClampNeg)), (8, .ref (m + 276 + 2 * (g 1 + 1).toNatClampNeg)), (9, .ref (m + 276 + 2 * (g 1 + 1 + 1).toNatClampNeg))]) (st' := [.int 0]) [(330, .iload 10)] (by decide +kernel) rfl ?_
                  have hmend : w327 m = w m := by rw [hc327, hm]
                  have hoffend : ∀ x, (x < q ∨ q + 130 ≤ x) ∧ (x < m + 276 + 2 * (g 1).toNatClampNeg ∨ m + 276 + 2 * (g 1).toNatClampNeg + (320 - 2 * (g 1).toNatClampNeg) ≤ x) ∧ (x < m + 596 + 130 * (g 3).toNatClampNeg ∨ m + 596 + 130 * (g 3).toNatClampNeg + (5720 - 130 * (g 3).toNatClampNeg) ≤ x) → w327 x = w x := fun x hx => by
                      by_cases ex : x = m
                      · rw [ex]; exact hmend
                      · exact ((heq327 x (by omega)).trans ((heq321 x (by omega)).trans ((heq315 x (by omega)).trans ((heqL115 x (by omega)).trans ((heqL64 x (by omega)).trans ((heq58 x (by omega)).trans ((heq39 x (by omega)).trans ((heq31 x (by omega)).trans ((heq25 x (by omega)).trans ((heq19 x (by omega)).trans (heq13 x (by omega))))))))))))
                  have hb76 : zB w327 q Qa := hp315_0.ag (fun x hx1 hx2 => ((heq327 x (by omega)).trans (heq321 x (by omega))))
                  refine zr_retB (by decide +kernel) rfl (by decide) ?_
                  rw [← hPost]; exact ⟨rfl, _, rfl, Qa, ((((((((((hsi13.tr hsi19).tr hsi25).tr hsi31).tr hsi39).tr hsi58).tr hsiL64).tr hsiL115).tr hsi315).tr hsi321).tr hsi327), hoffend, (by first | exact hb76 | (have z9 := hb76; simpa using z9)), _, rfl, (by decide), (by
                        first
                          | exact ⟨fun _ => (zDv2_e hd0 hD (Or.inr (by omega))).1 (by omega), fun _ => rfl⟩
                          | exact ⟨fun e => absurd e (by decide), fun hc => by
                              exfalso
                              have h9 := (zDv2_e hd0 hD (by first | exact Or.inr (by omega) | exact Or.inl (fun e => by have := hn1 e; omega))).2 hc
                              have h8 := hn1 h9.1
                              have h7 := h9.2
                              omega⟩)⟩
                ·
                  replace cc304 := Classical.not_not.mp cc304
                  have f77 := zeqI cc304
                  rw [show (0 : Int32).toInt = 0 from by decide] at f77
                  refine zp_seg (pc' := 314) (lv' := [(10, .int 1), (0, .ref m), (1, .ref q), (3, .ref b), (4, .int (g 3)), (5, .int (g 1)), (6, .ref (m + 596 + 130 * (g 3).toNatClampNeg)), (7, .ref (m + 276 + 2 * (g 1).toNatClampNeg)), (8, .ref (m + 276 + 2 * (g 1 + 1).toNatClampNeg)), (9, .ref (m + 276 + 2 * (g 1 + 1 + 1).toNatClampNeg))]) (st' := []) [(307, .iconst 1), (308, .goto 4), (312, .istore 10)] (by decide +kernel) rfl ?_
                  have hb78 := hb29.si ((hsi58.tr hsiL64).tr hsiL115)
                  have hb79 : wL115 q = some (.inl (11, [.ref (q + 1), .int m22])) := (heqL115 q (by omega)).trans hb31
                  have hBq9 : zBw wL115 q qn.toNat Qa := zBw.mk hb78 hb79 (by omega) (by omega) (fun j hj => hQr j (by omega)) (fun j hj => hD.2.2.1 j (by omega))
                  refine zp_seg (pc' := 315) (lv' := [(10, .int 1), (0, .ref m), (1, .ref q), (3, .ref b), (4, .int (g 3)), (5, .int (g 1)), (6, .ref (m + 596 + 130 * (g 3).toNatClampNeg)), (7, .ref (m + 276 + 2 * (g 1).toNatClampNeg)), (8, .ref (m + 276 + 2 * (g 1 + 1).toNatClampNeg)), (9, .ref (m + 276 + 2 * (g 1 + 1 + 1).toNatClampNeg))]) (st' := [.ref q]) [(314, .aload_n 1)] (by decide +kernel) rfl ?_
                  refine zr_callV (idx := 105) (j := 244) (by decide +kernel) (by decide +kernel) (show zMe 244 = some zq_X12_trim from rfl) rfl rfl (Nat.le_of_ble_eq_true rfl) rfl rfl hb79 (Nat.le_of_ble_eq_true rfl) (Nat.le_of_ble_eq_true rfl) (c_X12_trim (w := wL115) q hBq9) (by omega) (fun v315 w315 hp315 => ?_)
                  obtain ⟨hsi315, heq315, hp315_0, rfl⟩ := hp315
                  show zP _ _ _ _ [] _ _ _ _ _
                  refine zp_seg (pc' := 321) (lv' := [(10, .int 1), (0, .ref m), (1, .ref q), (3, .ref b), (4, .int (g 3)), (5, .int (g 1)), (6, .ref (m + 596 + 130 * (g 3).toNatClampNeg)), (7, .ref (m + 276 + 2 * (g 1).toNatClampNeg)), (8, .ref (m + 276 + 2 * (g 1 + 1).toNatClampNeg)), (9, .ref (m + 276 + 2 * (g 1 + 1 + 1).toNatClampNeg))]) (st' := [.int (g 3), .ref m]) [(318, .aload_n 0), (319, .iload 4)] (by decide +kernel) rfl ?_
                  have hb80 : w315 m = some (.inl (15, zMo m (zs (zs g 1 (g 1 + 1 + 1 + 1)) 3 (g 3 + 1)) r)) := (heq315 m (by omega)).trans hmL115
                  refine zr_put2 (idx := 90) (k := 3) (fs2 := zMo m (zs g 1 (g 1 + 1 + 1 + 1)) r) (by decide +kernel) (by decide +kernel) hb80 (Nat.le_of_ble_eq_true rfl) rfl rfl rfl ?_
                  show zP (d + 1) zq_X16_divides 324 [(10, .int 1), (0, .ref m), (1, .ref q), (3, .ref b), (4, .int (g 3)), (5, .int (g 1)), (6, .ref (m + 596 + 130 * (g 3).toNatClampNeg)), (7, .ref (m + 276 + 2 * (g 1).toNatClampNeg)), (8, .ref (m + 276 + 2 * (g 1 + 1).toNatClampNeg)), (9, .ref (m + 276 + 2 * (g 1 + 1 + 1).toNatClampNeg))] [] (zup w315 m (.inl (15, zMo m (zs g 1 (g 1 + 1 + 1 + 1)) r))) sz 0 0 Post
                  obtain ⟨w321, ew321⟩ : ∃ wz9, wz9 = zup w315 m (.inl (15, zMo m (zs g 1 (g 1 + 1 + 1 + 1)) r)) := ⟨_, rfl⟩
                  have hsi321 : zSI w315 w321 := by rw [ew321]; exact zSI.setG hb80 _ _
                  have heq321 : ∀ x, x ≠ m → w321 x = w315 x := fun x hx => by rw [ew321]; exact zup_n hx
                  have hc321 : w321 m = some (.inl (15, zMo m (zs g 1 (g 1 + 1 + 1 + 1)) r)) := by rw [ew321]; exact zup_s
                  rw [← ew321]
                  clear ew321
                  refine zp_seg (pc' := 327) (lv' := [(10, .int 1), (0, .ref m), (1, .ref q), (3, .ref b), (4, .int (g 3)), (5, .int (g 1)), (6, .ref (m + 596 + 130 * (g 3).toNatClampNeg)), (7, .ref (m + 276 + 2 * (g 1).toNatClampNeg)), (8, .ref (m + 276 + 2 * (g 1 + 1).toNatClampNeg)), (9, .ref (m + 276 + 2 * (g 1 + 1 + 1).toNatClampNeg))]) (st' := [.int (g 1), .ref m]) [(324, .aload_n 0), (325, .iload 5)] (by decide +kernel) rfl ?_
                  refine zr_put2 (idx := 21) (k := 1) (fs2 := zMo m g r) (by decide +kernel) (by decide +kernel) hc321 (Nat.le_of_ble_eq_true rfl) rfl rfl rfl ?_
                  show zP (d + 1) zq_X16_divides 330 [(10, .int 1), (0, .ref m), (1, .ref q), (3, .ref b), (4, .int (g 3)), (5, .int (g 1)), (6, .ref (m + 596 + 130 * (g 3).toNatClampNeg)), (7, .ref (m + 276 + 2 * (g 1).toNatClampNeg)), (8, .ref (m + 276 + 2 * (g 1 + 1).toNatClampNeg)), (9, .ref (m + 276 + 2 * (g 1 + 1 + 1).toNatClampNeg))] [] (zup w321 m (.inl (15, zMo m g r))) sz 0 0 Post
                  obtain ⟨w327, ew327⟩ : ∃ wz9, wz9 = zup w321 m (.inl (15, zMo m g r)) := ⟨_, rfl⟩
                  have hsi327 : zSI w321 w327 := by rw [ew327]; exact zSI.setG hc321 _ _
                  have heq327 : ∀ x, x ≠ m → w327 x = w321 x := fun x hx => by rw [ew327]; exact zup_n hx
                  have hc327 : w327 m = some (.inl (15, zMo m g r)) := by rw [ew327]; exact zup_s
                  rw [← ew327]
                  clear ew327
                  refine zp_seg (pc' := 332) (lv' := [(10, .int 1), (0, .ref m), (1, .ref q), (3, .ref b), (4, .int (g 3)), (5, .int (g 1)), (6, .ref (m + 596 + 130 * (g 3).toNatClampNeg)), (7, .ref (m + 276 + 2 * (g 1).toNatClampNeg)), (8, .ref (m + 276 + 2 * (g 1 + 1).toNatClampNeg)), (9, .ref (m + 276 + 2 * (g 1 + 1 + 1).toNatClampNeg))]) (st' := [.int 1]) [(330, .iload 10)] (by decide +kernel) rfl ?_
                  have hmend : w327 m = w m := by rw [hc327, hm]
                  have hoffend : ∀ x, (x < q ∨ q + 130 ≤ x) ∧ (x < m + 276 + 2 * (g 1).toNatClampNeg ∨ m + 276 + 2 * (g 1).toNatClampNeg + (320 - 2 * (g 1).toNatClampNeg) ≤ x) ∧ (x < m + 596 + 130 * (g 3).toNatClampNeg ∨ m + 596 + 130 * (g 3).toNatClampNeg + (5720 - 130 * (g 3).toNatClampNeg) ≤ x) → w327 x = w x := fun x hx => by
                      by_cases ex : x = m
                      · rw [ex]; exact hmend
                      · exact ((heq327 x (by omega)).trans ((heq321 x (by omega)).trans ((heq315 x (by omega)).trans ((heqL115 x (by omega)).trans ((heqL64 x (by omega)).trans ((heq58 x (by omega)).trans ((heq39 x (by omega)).trans ((heq31 x (by omega)).trans ((heq25 x (by omega)).trans ((heq19 x (by omega)).trans (heq13 x (by omega))))))))))))
                  have hb81 : zB w327 q Qa := hp315_0.ag (fun x hx1 hx2 => ((heq327 x (by omega)).trans (heq321 x (by omega))))
                  refine zr_retB (by decide +kernel) rfl (by decide) ?_
                  rw [← hPost]; exact ⟨rfl, _, rfl, Qa, ((((((((((hsi13.tr hsi19).tr hsi25).tr hsi31).tr hsi39).tr hsi58).tr hsiL64).tr hsiL115).tr hsi315).tr hsi321).tr hsi327), hoffend, (by first | exact hb81 | (have z9 := hb81; simpa using z9)), _, rfl, (by decide), (by
                        first
                          | exact ⟨fun _ => (zDv2_e hd0 hD (Or.inr (by omega))).1 (by omega), fun _ => rfl⟩
                          | exact ⟨fun e => absurd e (by decide), fun hc => by
                              exfalso
                              have h9 := (zDv2_e hd0 hD (by first | exact Or.inr (by omega) | exact Or.inl (fun e => by have := hn1 e; omega))).2 hc
                              have h8 := hn1 h9.1
                              have h7 := h9.2
                              omega⟩)⟩
            ·
              have f82 := znltI cc129
              have hRr := hBR.rows
              have hRp := hD.2.2.2.1
              have hcR := (hBR.row (zrw R - 1) (by omega)).cap
              have hcd := (hB_b.row (zrw d9 - 1) (by omega)).cap
              have hld := zln_nz (zrw_hd hd0)
              have hdd := zdn_le d9 (zrw d9 - 1)
              refine zp_seg (pc' := 138) (lv' := [(0, .ref m), (1, .ref q), (3, .ref b), (4, .int (g 3)), (5, .int (g 1)), (6, .ref (m + 596 + 130 * (g 3).toNatClampNeg)), (7, .ref (m + 276 + 2 * (g 1).toNatClampNeg)), (8, .ref (m + 276 + 2 * (g 1 + 1).toNatClampNeg)), (9, .ref (m + 276 + 2 * (g 1 + 1 + 1).toNatClampNeg)), (10, .int y10_115)]) (st' := [.ref (m + 596 + 130 * (g 3).toNatClampNeg), .ref (m + 276 + 2 * (g 1 + 1).toNatClampNeg), .ref (m + 276 + 2 * (g 1).toNatClampNeg)]) [(132, .aload 7), (134, .aload 8), (136, .aload 6)] (by decide +kernel) rfl ?_
              refine zr_callV (idx := 144) (j := 246) (by decide +kernel) (by decide +kernel) (show zMe 246 = some zq_X12_lead from rfl) rfl rfl (Nat.le_of_ble_eq_true rfl) rfl rfl hb60 (Nat.le_of_ble_eq_true rfl) (Nat.le_of_ble_eq_true rfl) (c_X12_lead (w := wL115) (m + 596 + 130 * (g 3).toNatClampNeg) hBR (by first | omega | decide | assumption)) (by omega) (fun v138 w138 hp138 => ?_)
              obtain ⟨hpw138, hp138_0, rfl⟩ := hp138
              replace hpw138 := hpw138.symm
              subst hpw138
              show zP _ _ _ _ [.ref ((m + 596 + 130 * (g 3).toNatClampNeg) + 2 + 2 * (zrw R - 1)), .ref (m + 276 + 2 * (g 1 + 1).toNatClampNeg), .ref (m + 276 + 2 * (g 1).toNatClampNeg)] _ _ _ _ _
              refine zp_seg (pc' := 142) (lv' := [(0, .ref m), (1, .ref q), (3, .ref b), (4, .int (g 3)), (5, .int (g 1)), (6, .ref (m + 596 + 130 * (g 3).toNatClampNeg)), (7, .ref (m + 276 + 2 * (g 1).toNatClampNeg)), (8, .ref (m + 276 + 2 * (g 1 + 1).toNatClampNeg)), (9, .ref (m + 276 + 2 * (g 1 + 1 + 1).toNatClampNeg)), (10, .int y10_115)]) (st' := [.ref b, .ref ((m + 596 + 130 * (g 3).toNatClampNeg) + 2 + 2 * (zrw R - 1)), .ref (m + 276 + 2 * (g 1 + 1).toNatClampNeg), .ref (m + 276 + 2 * (g 1).toNatClampNeg)]) [(141, .aload_n 3)] (by decide +kernel) rfl ?_
              have hb83 : zB wL115 b d9 := hB_b.ag (fun x hx1 hx2 => ((heqL115 x (by omega)).trans ((heqL64 x (by omega)).trans ((heq58 x (by omega)).trans ((heq39 x (by omega)).trans ((heq31 x (by omega)).trans ((heq25 x (by omega)).trans ((heq19 x (by omega)).trans (heq13 x (by omega))))))))))
              refine zr_callV (idx := 144) (j := 246) (by decide +kernel) (by decide +kernel) (show zMe 246 = some zq_X12_lead from rfl) rfl rfl (Nat.le_of_ble_eq_true rfl) rfl rfl hb64 (Nat.le_of_ble_eq_true rfl) (Nat.le_of_ble_eq_true rfl) (c_X12_lead (w := wL115) b hb83 (by first | omega | decide | assumption)) (by omega) (fun v142 w142 hp142 => ?_)
              obtain ⟨hpw142, hp142_0, rfl⟩ := hp142
              replace hpw142 := hpw142.symm
              subst hpw142
              show zP _ _ _ _ [.ref (b + 2 + 2 * (zrw d9 - 1)), .ref ((m + 596 + 130 * (g 3).toNatClampNeg) + 2 + 2 * (zrw R - 1)), .ref (m + 276 + 2 * (g 1 + 1).toNatClampNeg), .ref (m + 276 + 2 * (g 1).toNatClampNeg)] _ _ _ _ _
              refine zr_callS (idx := 78) (j := 268) (by decide +kernel) (by decide +kernel) (by decide) (show zMe 268 = some zq_X16_divide from rfl) rfl rfl (Nat.le_of_ble_eq_true rfl) rfl rfl (Nat.le_of_ble_eq_true rfl) (Nat.le_of_ble_eq_true rfl) (c_X16_divideQ (w := wL115) (m + 276 + 2 * (g 1).toNatClampNeg) (m + 276 + 2 * (g 1 + 1).toNatClampNeg) ((m + 596 + 130 * (g 3).toNatClampNeg) + 2 + 2 * (zrw R - 1)) (b + 2 + 2 * (zrw d9 - 1)) hUx hUy hp138_0 hp142_0 (by first | omega | decide | assumption) (by first | omega | decide | assumption) (by first | omega | decide | assumption) (by first | omega | decide | assumption) (by first | omega | decide | assumption) (by first | omega | decide | assumption) (by first | omega | decide | assumption) (by first | omega | decide | assumption) (by first | omega | decide | assumption)) (by omega) (fun v145 w145 hp145 => ?_)
              obtain ⟨hsi145, heq145, hp145_0, hp145_1, rfl⟩ := hp145
              show zP _ _ _ _ [] _ _ _ _ _
              refine zp_seg (pc' := 150) (lv' := [(0, .ref m), (1, .ref q), (3, .ref b), (4, .int (g 3)), (5, .int (g 1)), (6, .ref (m + 596 + 130 * (g 3).toNatClampNeg)), (7, .ref (m + 276 + 2 * (g 1).toNatClampNeg)), (8, .ref (m + 276 + 2 * (g 1 + 1).toNatClampNeg)), (9, .ref (m + 276 + 2 * (g 1 + 1 + 1).toNatClampNeg)), (10, .int y10_115)]) (st' := [.ref (m + 276 + 2 * (g 1 + 1).toNatClampNeg)]) [(148, .aload 8)] (by decide +kernel) rfl ?_
              obtain ⟨n84, f85, hu86, hu87, hu88, hu89, hu90⟩ := id hp145_0
              have kn84 := zrng n84
              refine zr_get (idx := 25) (k := 1) (v := .int n84) (by decide +kernel) (by decide +kernel) hu86 rfl ?_
              refine zp_if (i := .ifCond .ne 17) (c := ¬ n84 = 0) (t := 170) (e := 156) (lv' := [(0, .ref m), (1, .ref q), (3, .ref b), (4, .int (g 3)), (5, .int (g 1)), (6, .ref (m + 596 + 130 * (g 3).toNatClampNeg)), (7, .ref (m + 276 + 2 * (g 1).toNatClampNeg)), (8, .ref (m + 276 + 2 * (g 1 + 1).toNatClampNeg)), (9, .ref (m + 276 + 2 * (g 1 + 1 + 1).toNatClampNeg)), (10, .int y10_115)]) (st' := []) (by decide +kernel) rfl (fun cc153 => ?_) (fun cc153 => ?_)
              ·
                have f91 := zneI cc153
                rw [show (0 : Int32).toInt = 0 from by decide] at f91
                refine zp_seg (pc' := 175) (lv' := [(10, .int 0), (0, .ref m), (1, .ref q), (3, .ref b), (4, .int (g 3)), (5, .int (g 1)), (6, .ref (m + 596 + 130 * (g 3).toNatClampNeg)), (7, .ref (m + 276 + 2 * (g 1).toNatClampNeg)), (8, .ref (m + 276 + 2 * (g 1 + 1).toNatClampNeg)), (9, .ref (m + 276 + 2 * (g 1 + 1 + 1).toNatClampNeg))]) (st' := [.ref (m + 596 + 130 * (g 3).toNatClampNeg)]) [(170, .iconst 0), (171, .istore 10), (173, .aload 6)] (by decide +kernel) rfl ?_
                have hb92 : w145 (m + 596 + 130 * (g 3).toNatClampNeg) = some (.inl (11, [.ref (m + 596 + 130 * (g 3).toNatClampNeg + 1), .int n59])) := (heq145 (m + 596 + 130 * (g 3).toNatClampNeg) (by omega)).trans hb60
                refine zr_get (idx := 93) (k := 1) (v := .int n59) (by decide +kernel) (by decide +kernel) hb92 rfl ?_
                refine zp_seg (pc' := 179) (lv' := [(10, .int 0), (0, .ref m), (1, .ref q), (3, .ref b), (4, .int (g 3)), (5, .int (g 1)), (6, .ref (m + 596 + 130 * (g 3).toNatClampNeg)), (7, .ref (m + 276 + 2 * (g 1).toNatClampNeg)), (8, .ref (m + 276 + 2 * (g 1 + 1).toNatClampNeg)), (9, .ref (m + 276 + 2 * (g 1 + 1 + 1).toNatClampNeg))]) (st' := [.ref b, .int n59]) [(178, .aload_n 3)] (by decide +kernel) rfl ?_
                have hb93 : w145 b = some (.inl (11, [.ref (b + 1), .int nb])) := (heq145 b (by omega)).trans hb64
                refine zr_get (idx := 93) (k := 1) (v := .int nb) (by decide +kernel) (by decide +kernel) hb93 rfl ?_
                refine zp_seg (pc' := 183) (lv' := [(10, .int 0), (0, .ref m), (1, .ref q), (3, .ref b), (4, .int (g 3)), (5, .int (g 1)), (6, .ref (m + 596 + 130 * (g 3).toNatClampNeg)), (7, .ref (m + 276 + 2 * (g 1).toNatClampNeg)), (8, .ref (m + 276 + 2 * (g 1 + 1).toNatClampNeg)), (9, .ref (m + 276 + 2 * (g 1 + 1 + 1).toNatClampNeg))]) (st' := [.int (n59 - nb)]) [(182, .isub)] (by decide +kernel) rfl ?_
                have k94 := zsub n59 nb (by omega) (by omega)
                generalize ev183 : (n59 - nb : Int32) = v183 at k94 ⊢
                have kv183 := zrng v183
                refine zp_seg (pc' := 187) (lv' := [(11, .int v183), (10, .int 0), (0, .ref m), (1, .ref q), (3, .ref b), (4, .int (g 3)), (5, .int (g 1)), (6, .ref (m + 596 + 130 * (g 3).toNatClampNeg)), (7, .ref (m + 276 + 2 * (g 1).toNatClampNeg)), (8, .ref (m + 276 + 2 * (g 1 + 1).toNatClampNeg)), (9, .ref (m + 276 + 2 * (g 1 + 1 + 1).toNatClampNeg))]) (st' := [.int 0]) [(183, .istore 11), (185, .iload 10)] (by decide +kernel) rfl ?_
                refine zp_pure (pc' := 291) (lv' := [(11, .int v183), (10, .int 0), (0, .ref m), (1, .ref q), (3, .ref b), (4, .int (g 3)), (5, .int (g 1)), (6, .ref (m + 596 + 130 * (g 3).toNatClampNeg)), (7, .ref (m + 276 + 2 * (g 1).toNatClampNeg)), (8, .ref (m + 276 + 2 * (g 1 + 1).toNatClampNeg)), (9, .ref (m + 276 + 2 * (g 1 + 1 + 1).toNatClampNeg))]) (st' := []) (i := .ifCond .eq 104) (by decide +kernel) rfl ?_
                refine zp_seg (pc' := 115) (lv' := [(11, .int v183), (10, .int 0), (0, .ref m), (1, .ref q), (3, .ref b), (4, .int (g 3)), (5, .int (g 1)), (6, .ref (m + 596 + 130 * (g 3).toNatClampNeg)), (7, .ref (m + 276 + 2 * (g 1).toNatClampNeg)), (8, .ref (m + 276 + 2 * (g 1 + 1).toNatClampNeg)), (9, .ref (m + 276 + 2 * (g 1 + 1 + 1).toNatClampNeg))]) (st' := []) [(291, .goto (-176))] (by decide +kernel) rfl ?_
                have hz95 : ((0 : Int32).toNatClampNeg : Int) = 0 := by decide
                have hb96 : zB w145 (m + 596 + 130 * (g 3).toNatClampNeg) R := hBR.ag (fun x hx1 hx2 => (heq145 x (by omega)))
                have hb97 := hUx.si hsi145
                have hb98 := hUy.si hsi145
                have hb99 := hUp.si hsi145
                have hb100 : w145 m = some (.inl (15, zMo m (zs (zs g 1 (g 1 + 1 + 1 + 1)) 3 (g 3 + 1)) r)) := (heq145 m (by omega)).trans hmL115
                exact (ih115 w145 0 (R) (Qa) (hsiL115.tr hsi145) (fun x hx => ((heq145 x (by omega)).trans (heqL115 x (by omega)))) (by first | assumption | omega | decide) (by first | assumption | omega | decide) (by first | assumption | omega | decide) hb96 hb97 hb98 hb99 hb100 (by
                      first
                        | exact zDv2_f hd0 (by omega) hD (by omega)
                        | exact (zDv2_s hd0 (by omega) hD (zDv2_x hd0 (by omega)) (fun _ => rfl)).1) (by
                      intro t ht
                      exact (hQr t ht).ag (fun x g1 g2 => heq145 x (by omega))) (by omega)).more (zfa1 rfl (zfa1 rfl (zfa1 rfl (zfa1 rfl (zfa1 rfl (zfa1 rfl (zfa1 rfl (zfa1 rfl (zfa1 rfl (zfa1 rfl (zfa0)))))))))))
              ·
                replace cc153 := Classical.not_not.mp cc153
                have f101 := zeqI cc153
                rw [show (0 : Int32).toInt = 0 from by decide] at f101
                refine zp_seg (pc' := 158) (lv' := [(0, .ref m), (1, .ref q), (3, .ref b), (4, .int (g 3)), (5, .int (g 1)), (6, .ref (m + 596 + 130 * (g 3).toNatClampNeg)), (7, .ref (m + 276 + 2 * (g 1).toNatClampNeg)), (8, .ref (m + 276 + 2 * (g 1 + 1).toNatClampNeg)), (9, .ref (m + 276 + 2 * (g 1 + 1 + 1).toNatClampNeg)), (10, .int y10_115)]) (st' := [.ref (m + 276 + 2 * (g 1).toNatClampNeg)]) [(156, .aload 7)] (by decide +kernel) rfl ?_
                obtain ⟨n102, f103, hu104, hu105, hu106, hu107, hu108⟩ := id hp145_1
                have kn102 := zrng n102
                refine zr_get (idx := 25) (k := 1) (v := .int n102) (by decide +kernel) (by decide +kernel) hu104 rfl ?_
                refine zp_seg (pc' := 163) (lv' := [(0, .ref m), (1, .ref q), (3, .ref b), (4, .int (g 3)), (5, .int (g 1)), (6, .ref (m + 596 + 130 * (g 3).toNatClampNeg)), (7, .ref (m + 276 + 2 * (g 1).toNatClampNeg)), (8, .ref (m + 276 + 2 * (g 1 + 1).toNatClampNeg)), (9, .ref (m + 276 + 2 * (g 1 + 1 + 1).toNatClampNeg)), (10, .int y10_115)]) (st' := [.int 100, .int n102]) [(161, .bipush 100)] (by decide +kernel) rfl ?_
                refine zp_if (i := .if_icmp .gt 7) (c := 100 < n102) (t := 170) (e := 166) (lv' := [(0, .ref m), (1, .ref q), (3, .ref b), (4, .int (g 3)), (5, .int (g 1)), (6, .ref (m + 596 + 130 * (g 3).toNatClampNeg)), (7, .ref (m + 276 + 2 * (g 1).toNatClampNeg)), (8, .ref (m + 276 + 2 * (g 1 + 1).toNatClampNeg)), (9, .ref (m + 276 + 2 * (g 1 + 1 + 1).toNatClampNeg)), (10, .int y10_115)]) (st' := []) (by decide +kernel) rfl (fun cc163 => ?_) (fun cc163 => ?_)
                ·
                  have f110 := zltI cc163
                  rw [show (100 : Int32).toInt = 100 from by decide] at f110
                  refine zp_seg (pc' := 175) (lv' := [(10, .int 0), (0, .ref m), (1, .ref q), (3, .ref b), (4, .int (g 3)), (5, .int (g 1)), (6, .ref (m + 596 + 130 * (g 3).toNatClampNeg)), (7, .ref (m + 276 + 2 * (g 1).toNatClampNeg)), (8, .ref (m + 276 + 2 * (g 1 + 1).toNatClampNeg)), (9, .ref (m + 276 + 2 * (g 1 + 1 + 1).toNatClampNeg))]) (st' := [.ref (m + 596 + 130 * (g 3).toNatClampNeg)]) [(170, .iconst 0), (171, .istore 10), (173, .aload 6)] (by decide +kernel) rfl ?_
                  have hb111 : w145 (m + 596 + 130 * (g 3).toNatClampNeg) = some (.inl (11, [.ref (m + 596 + 130 * (g 3).toNatClampNeg + 1), .int n59])) := (heq145 (m + 596 + 130 * (g 3).toNatClampNeg) (by omega)).trans hb60
                  refine zr_get (idx := 93) (k := 1) (v := .int n59) (by decide +kernel) (by decide +kernel) hb111 rfl ?_
                  refine zp_seg (pc' := 179) (lv' := [(10, .int 0), (0, .ref m), (1, .ref q), (3, .ref b), (4, .int (g 3)), (5, .int (g 1)), (6, .ref (m + 596 + 130 * (g 3).toNatClampNeg)), (7, .ref (m + 276 + 2 * (g 1).toNatClampNeg)), (8, .ref (m + 276 + 2 * (g 1 + 1).toNatClampNeg)), (9, .ref (m + 276 + 2 * (g 1 + 1 + 1).toNatClampNeg))]) (st' := [.ref b, .int n59]) [(178, .aload_n 3)] (by decide +kernel) rfl ?_
                  have hb112 : w145 b = some (.inl (11, [.ref (b + 1), .int nb])) := (heq145 b (by omega)).trans hb64
                  refine zr_get (idx := 93) (k := 1) (v := .int nb) (by decide +kernel) (by decide +kernel) hb112 rfl ?_
                  refine zp_seg (pc' := 183) (lv' := [(10, .int 0), (0, .ref m), (1, .ref q), (3, .ref b), (4, .int (g 3)), (5, .int (g 1)), (6, .ref (m + 596 + 130 * (g 3).toNatClampNeg)), (7, .ref (m + 276 + 2 * (g 1).toNatClampNeg)), (8, .ref (m + 276 + 2 * (g 1 + 1).toNatClampNeg)), (9, .ref (m + 276 + 2 * (g 1 + 1 + 1).toNatClampNeg))]) (st' := [.int (n59 - nb)]) [(182, .isub)] (by decide +kernel) rfl ?_
                  have k113 := zsub n59 nb (by omega) (by omega)
                  generalize ev183 : (n59 - nb : Int32) = v183 at k113 ⊢
                  have kv183 := zrng v183
                  refine zp_seg (pc' := 187) (lv' := [(11, .int v183), (10, .int 0), (0, .ref m), (1, .ref q), (3, .ref b), (4, .int (g 3)), (5, .int (g 1)), (6, .ref (m + 596 + 130 * (g 3).toNatClampNeg)), (7, .ref (m + 276 + 2 * (g 1).toNatClampNeg)), (8, .ref (m + 276 + 2 * (g 1 + 1).toNatClampNeg)), (9, .ref (m + 276 + 2 * (g 1 + 1 + 1).toNatClampNeg))]) (st' := [.int 0]) [(183, .istore 11), (185, .iload 10)] (by decide +kernel) rfl ?_
                  refine zp_pure (pc' := 291) (lv' := [(11, .int v183), (10, .int 0), (0, .ref m), (1, .ref q), (3, .ref b), (4, .int (g 3)), (5, .int (g 1)), (6, .ref (m + 596 + 130 * (g 3).toNatClampNeg)), (7, .ref (m + 276 + 2 * (g 1).toNatClampNeg)), (8, .ref (m + 276 + 2 * (g 1 + 1).toNatClampNeg)), (9, .ref (m + 276 + 2 * (g 1 + 1 + 1).toNatClampNeg))]) (st' := []) (i := .ifCond .eq 104) (by decide +kernel) rfl ?_
                  refine zp_seg (pc' := 115) (lv' := [(11, .int v183), (10, .int 0), (0, .ref m), (1, .ref q), (3, .ref b), (4, .int (g 3)), (5, .int (g 1)), (6, .ref (m + 596 + 130 * (g 3).toNatClampNeg)), (7, .ref (m + 276 + 2 * (g 1).toNatClampNeg)), (8, .ref (m + 276 + 2 * (g 1 + 1).toNatClampNeg)), (9, .ref (m + 276 + 2 * (g 1 + 1 + 1).toNatClampNeg))]) (st' := []) [(291, .goto (-176))] (by decide +kernel) rfl ?_
                  have hz114 : ((0 : Int32).toNatClampNeg : Int) = 0 := by decide
                  have hb115 : zB w145 (m + 596 + 130 * (g 3).toNatClampNeg) R := hBR.ag (fun x hx1 hx2 => (heq145 x (by omega)))
                  have hb116 := hUx.si hsi145
                  have hb117 := hUy.si hsi145
                  have hb118 := hUp.si hsi145
                  have hb119 : w145 m = some (.inl (15, zMo m (zs (zs g 1 (g 1 + 1 + 1 + 1)) 3 (g 3 + 1)) r)) := (heq145 m (by omega)).trans hmL115
                  exact (ih115 w145 0 (R) (Qa) (hsiL115.tr hsi145) (fun x hx => ((heq145 x (by omega)).trans (heqL115 x (by omega)))) (by first | assumption | omega | decide) (by first | assumption | omega | decide) (by first | assumption | omega | decide) hb115 hb116 hb117 hb118 hb119 (by
                        first
                          | exact zDv2_f hd0 (by omega) hD (by omega)
                          | exact (zDv2_s hd0 (by omega) hD (zDv2_x hd0 (by omega)) (fun _ => rfl)).1) (by
                        intro t ht
                        exact (hQr t ht).ag (fun x g1 g2 => heq145 x (by omega))) (by omega)).more (zfa1 rfl (zfa1 rfl (zfa1 rfl (zfa1 rfl (zfa1 rfl (zfa1 rfl (zfa1 rfl (zfa1 rfl (zfa1 rfl (zfa1 rfl (zfa0)))))))))))
                ·
                  have f121 := znltI cc163
                  rw [show (100 : Int32).toInt = 100 from by decide] at f121
                  refine zp_seg (pc' := 175) (lv' := [(10, .int 1), (0, .ref m), (1, .ref q), (3, .ref b), (4, .int (g 3)), (5, .int (g 1)), (6, .ref (m + 596 + 130 * (g 3).toNatClampNeg)), (7, .ref (m + 276 + 2 * (g 1).toNatClampNeg)), (8, .ref (m + 276 + 2 * (g 1 + 1).toNatClampNeg)), (9, .ref (m + 276 + 2 * (g 1 + 1 + 1).toNatClampNeg))]) (st' := [.ref (m + 596 + 130 * (g 3).toNatClampNeg)]) [(166, .iconst 1), (167, .goto 4), (171, .istore 10), (173, .aload 6)] (by decide +kernel) rfl ?_
                  have hb122 : w145 (m + 596 + 130 * (g 3).toNatClampNeg) = some (.inl (11, [.ref (m + 596 + 130 * (g 3).toNatClampNeg + 1), .int n59])) := (heq145 (m + 596 + 130 * (g 3).toNatClampNeg) (by omega)).trans hb60
                  refine zr_get (idx := 93) (k := 1) (v := .int n59) (by decide +kernel) (by decide +kernel) hb122 rfl ?_
                  refine zp_seg (pc' := 179) (lv' := [(10, .int 1), (0, .ref m), (1, .ref q), (3, .ref b), (4, .int (g 3)), (5, .int (g 1)), (6, .ref (m + 596 + 130 * (g 3).toNatClampNeg)), (7, .ref (m + 276 + 2 * (g 1).toNatClampNeg)), (8, .ref (m + 276 + 2 * (g 1 + 1).toNatClampNeg)), (9, .ref (m + 276 + 2 * (g 1 + 1 + 1).toNatClampNeg))]) (st' := [.ref b, .int n59]) [(178, .aload_n 3)] (by decide +kernel) rfl ?_
                  have hb123 : w145 b = some (.inl (11, [.ref (b + 1), .int nb])) := (heq145 b (by omega)).trans hb64
                  refine zr_get (idx := 93) (k := 1) (v := .int nb) (by decide +kernel) (by decide +kernel) hb123 rfl ?_
                  refine zp_seg (pc' := 183) (lv' := [(10, .int 1), (0, .ref m), (1, .ref q), (3, .ref b), (4, .int (g 3)), (5, .int (g 1)), (6, .ref (m + 596 + 130 * (g 3).toNatClampNeg)), (7, .ref (m + 276 + 2 * (g 1).toNatClampNeg)), (8, .ref (m + 276 + 2 * (g 1 + 1).toNatClampNeg)), (9, .ref (m + 276 + 2 * (g 1 + 1 + 1).toNatClampNeg))]) (st' := [.int (n59 - nb)]) [(182, .isub)] (by decide +kernel) rfl ?_
                  have k124 := zsub n59 nb (by omega) (by omega)
                  generalize ev183 : (n59 - nb : Int32) = v183 at k124 ⊢
                  have kv183 := zrng v183
                  refine zp_seg (pc' := 187) (lv' := [(11, .int v183), (10, .int 1), (0, .ref m), (1, .ref q), (3, .ref b), (4, .int (g 3)), (5, .int (g 1)), (6, .ref (m + 596 + 130 * (g 3).toNatClampNeg)), (7, .ref (m + 276 + 2 * (g 1).toNatClampNeg)), (8, .ref (m + 276 + 2 * (g 1 + 1).toNatClampNeg)), (9, .ref (m + 276 + 2 * (g 1 + 1 + 1).toNatClampNeg))]) (st' := [.int 1]) [(183, .istore 11), (185, .iload 10)] (by decide +kernel) rfl ?_
                  refine zp_pure (pc' := 190) (lv' := [(11, .int v183), (10, .int 1), (0, .ref m), (1, .ref q), (3, .ref b), (4, .int (g 3)), (5, .int (g 1)), (6, .ref (m + 596 + 130 * (g 3).toNatClampNeg)), (7, .ref (m + 276 + 2 * (g 1).toNatClampNeg)), (8, .ref (m + 276 + 2 * (g 1 + 1).toNatClampNeg)), (9, .ref (m + 276 + 2 * (g 1 + 1 + 1).toNatClampNeg))]) (st' := []) (i := .ifCond .eq 104) (by decide +kernel) rfl ?_
                  have hz125 : (v183.toNatClampNeg : Int) = v183.toInt := znat (by first | omega | decide)
                  refine zp_seg (pc' := 191) (lv' := [(11, .int v183), (10, .int 1), (0, .ref m), (1, .ref q), (3, .ref b), (4, .int (g 3)), (5, .int (g 1)), (6, .ref (m + 596 + 130 * (g 3).toNatClampNeg)), (7, .ref (m + 276 + 2 * (g 1).toNatClampNeg)), (8, .ref (m + 276 + 2 * (g 1 + 1).toNatClampNeg)), (9, .ref (m + 276 + 2 * (g 1 + 1 + 1).toNatClampNeg))]) (st' := [.ref q]) [(190, .aload_n 1)] (by decide +kernel) rfl ?_
                  have hb126 : w145 q = some (.inl (11, [.ref (q + 1), .int m22])) := ((heq145 q (by omega)).trans (heqL115 q (by omega))).trans hb31
                  refine zr_get (idx := 98) (k := 0) (v := .ref (q + 1)) (by decide +kernel) (by decide +kernel) hb126 rfl ?_
                  refine zp_seg (pc' := 196) (lv' := [(11, .int v183), (10, .int 1), (0, .ref m), (1, .ref q), (3, .ref b), (4, .int (g 3)), (5, .int (g 1)), (6, .ref (m + 596 + 130 * (g 3).toNatClampNeg)), (7, .ref (m + 276 + 2 * (g 1).toNatClampNeg)), (8, .ref (m + 276 + 2 * (g 1 + 1).toNatClampNeg)), (9, .ref (m + 276 + 2 * (g 1 + 1 + 1).toNatClampNeg))]) (st' := [.int v183, .ref (q + 1)]) [(194, .iload 11)] (by decide +kernel) rfl ?_
                  have hb127 : w145 (q + 1) = some (.inr (4, 64, zbr q)) := ((heq145 (q + 1) (by omega)).trans ((heqL115 (q + 1) (by omega)).trans ((heqL64 (q + 1) (by omega)).trans (heq58 (q + 1) (by omega))))).trans hb26
                  refine zr_aald (v := .ref (q + 2 + 2 * v183.toNatClampNeg)) (by decide +kernel) hb127 (by decide) (zin (by first | omega | decide) (by first | omega | decide)) (zbr_at (by omega)) ?_
                  have hb128 := hb29.si (((hsi58.tr hsiL64).tr hsiL115).tr hsi145)
                  have hrow129 := hb128.rowo (v183.toNatClampNeg) (by omega)
                  refine zp_seg (pc' := 199) (lv' := [(11, .int v183), (10, .int 1), (0, .ref m), (1, .ref q), (3, .ref b), (4, .int (g 3)), (5, .int (g 1)), (6, .ref (m + 596 + 130 * (g 3).toNatClampNeg)), (7, .ref (m + 276 + 2 * (g 1).toNatClampNeg)), (8, .ref (m + 276 + 2 * (g 1 + 1).toNatClampNeg)), (9, .ref (m + 276 + 2 * (g 1 + 1 + 1).toNatClampNeg))]) (st' := [.ref (m + 276 + 2 * (g 1).toNatClampNeg), .ref (q + 2 + 2 * v183.toNatClampNeg)]) [(197, .aload 7)] (by decide +kernel) rfl ?_
                  refine zr_callS (idx := 62) (j := 264) (by decide +kernel) (by decide +kernel) (by decide) (show zMe 264 = some zq_X16_set from rfl) rfl rfl (Nat.le_of_ble_eq_true rfl) rfl rfl (Nat.le_of_ble_eq_true rfl) (Nat.le_of_ble_eq_true rfl) (c_X16_set (w := w145) (q + 2 + 2 * v183.toNatClampNeg) (m + 276 + 2 * (g 1).toNatClampNeg) hrow129 hp145_1 (by first | omega | decide | assumption) (by first | omega | decide | assumption)) (by omega) (fun v199 w199 hp199 => ?_)
                  obtain ⟨hsi199, heq199, hp199_0, rfl⟩ := hp199
                  show zP _ _ _ _ [] _ _ _ _ _
                  refine zp_seg (pc' := 205) (lv' := [(12, .int 0), (11, .int v183), (10, .int 1), (0, .ref m), (1, .ref q), (3, .ref b), (4, .int (g 3)), (5, .int (g 1)), (6, .ref (m + 596 + 130 * (g 3).toNatClampNeg)), (7, .ref (m + 276 + 2 * (g 1).toNatClampNeg)), (8, .ref (m + 276 + 2 * (g 1 + 1).toNatClampNeg)), (9, .ref (m + 276 + 2 * (g 1 + 1 + 1).toNatClampNeg))]) (st' := []) [(202, .iconst 0), (203, .istore 12)] (by decide +kernel) rfl ?_
                  have hb130 : w199 m = some (.inl (15, zMo m (zs (zs g 1 (g 1 + 1 + 1 + 1)) 3 (g 3 + 1)) r)) := ((heq199 m (by omega)).trans (heq145 m (by omega))).trans hmL115
                  have hL205 : ∀ (mm205 : Nat) (wL205 : zM) (y12_205 : Int32), (zSI w199 wL205) → (∀ x, ((x < m + 276 + 2 * (g 1 + 1 + 1).toNatClampNeg ∨ m + 276 + 2 * (g 1 + 1 + 1).toNatClampNeg + 2 ≤ x) ∧ (x < m + 596 + 130 * (g 3).toNatClampNeg + 2 ∨ m + 596 + 130 * (g 3).toNatClampNeg + 2 + 128 ≤ x)) ∧ x ≠ m → wL205 x = w199 x) → (0 ≤ y12_205.toInt) → (y12_205.toInt ≤ (zrw d9 : Int)) → (zUo wL205 (m + 276 + 2 * (g 1 + 1 + 1).toNatClampNeg) 1000) → (wL205 m = some (.inl (15, zMo m (zs (zs g 1 (g 1 + 1 + 1 + 1)) 3 (g 3 + 1)) r))) → (∀ t, t < zrw R → zU wL205 (m + 596 + 130 * (g 3).toNatClampNeg + 2 + 2 * t) 200 (if v183.toNatClampNeg ≤ t ∧ t < v183.toNatClampNeg + y12_205.toNatClampNeg then zaS (R.1 t) (zaM (zquo (R.1 (zrw R - 1)) (d9.1 (zrw d9 - 1))) (d9.1 (t - v183.toNatClampNeg))) else R.1 t)) → (2147483647 - y12_205.toInt).toNat < mm205 → zP (d + 1) zq_X16_divides 205 [(0, .ref m), (1, .ref q), (3, .ref b), (4, .int (g 3)), (5, .int (g 1)), (6, .ref (m + 596 + 130 * (g 3).toNatClampNeg)), (7, .ref (m + 276 + 2 * (g 1).toNatClampNeg)), (8, .ref (m + 276 + 2 * (g 1 + 1).toNatClampNeg)), (9, .ref (m + 276 + 2 * (g 1 + 1 + 1).toNatClampNeg)), (11, .int v183), (12, .int y12_205)] [] wL205 sz 0 0 Post := by
                    intro mm205
                    induction mm205 with
                    | zero => intros; omega
                    | succ mm205 ih205 =>
                    intro wL205 y12_205 hsiL205 heqL205 hi205_0 hi205_1 hUp3 hmL205 hW hmu205
                    have ky12_205 := zrng y12_205
                    refine zp_seg (pc' := 208) (lv' := [(0, .ref m), (1, .ref q), (3, .ref b), (4, .int (g 3)), (5, .int (g 1)), (6, .ref (m + 596 + 130 * (g 3).toNatClampNeg)), (7, .ref (m + 276 + 2 * (g 1).toNatClampNeg)), (8, .ref (m + 276 + 2 * (g 1 + 1).toNatClampNeg)), (9, .ref (m + 276 + 2 * (g 1 + 1 + 1).toNatClampNeg)), (11, .int v183), (12, .int y12_205)]) (st' := [.ref b, .int y12_205]) [(205, .iload 12), (207, .aload_n 3)] (by decide +kernel) rfl ?_
                    have hb131 : wL205 b = some (.inl (11, [.ref (b + 1), .int nb])) := ((heqL205 b (by omega)).trans (heq199 b (by omega))).trans hb123
                    refine zr_get (idx := 93) (k := 1) (v := .int nb) (by decide +kernel) (by decide +kernel) hb131 rfl ?_
                    refine zp_if (i := .if_icmp .ge 51) (c := nb ≤ y12_205) (t := 262) (e := 214) (lv' := [(0, .ref m), (1, .ref q), (3, .ref b), (4, .int (g 3)), (5, .int (g 1)), (6, .ref (m + 596 + 130 * (g 3).toNatClampNeg)), (7, .ref (m + 276 + 2 * (g 1).toNatClampNeg)), (8, .ref (m + 276 + 2 * (g 1 + 1).toNatClampNeg)), (9, .ref (m + 276 + 2 * (g 1 + 1 + 1).toNatClampNeg)), (11, .int v183), (12, .int y12_205)]) (st' := []) (by decide +kernel) rfl (fun cc211 => ?_) (fun cc211 => ?_)
                    ·
                      have f132 := zleI cc211
                      have hz133 : (y12_205.toNatClampNeg : Int) = y12_205.toInt := znat (by first | omega | decide)
                      refine zp_seg (pc' := 264) (lv' := [(0, .ref m), (1, .ref q), (3, .ref b), (4, .int (g 3)), (5, .int (g 1)), (6, .ref (m + 596 + 130 * (g 3).toNatClampNeg)), (7, .ref (m + 276 + 2 * (g 1).toNatClampNeg)), (8, .ref (m + 276 + 2 * (g 1 + 1).toNatClampNeg)), (9, .ref (m + 276 + 2 * (g 1 + 1 + 1).toNatClampNeg)), (11, .int v183), (12, .int y12_205)]) (st' := [.ref (m + 596 + 130 * (g 3).toNatClampNeg)]) [(262, .aload 6)] (by decide +kernel) rfl ?_
                      have hb134 : wL205 (m + 596 + 130 * (g 3).toNatClampNeg) = some (.inl (11, [.ref (m + 596 + 130 * (g 3).toNatClampNeg + 1), .int n59])) := ((heqL205 (m + 596 + 130 * (g 3).toNatClampNeg) (by omega)).trans (heq199 (m + 596 + 130 * (g 3).toNatClampNeg) (by omega))).trans hb122
                      refine zr_get (idx := 93) (k := 1) (v := .int n59) (by decide +kernel) (by decide +kernel) hb134 rfl ?_
                      refine zp_seg (pc' := 269) (lv' := [(12, .int n59), (0, .ref m), (1, .ref q), (3, .ref b), (4, .int (g 3)), (5, .int (g 1)), (6, .ref (m + 596 + 130 * (g 3).toNatClampNeg)), (7, .ref (m + 276 + 2 * (g 1).toNatClampNeg)), (8, .ref (m + 276 + 2 * (g 1 + 1).toNatClampNeg)), (9, .ref (m + 276 + 2 * (g 1 + 1 + 1).toNatClampNeg)), (11, .int v183)]) (st' := []) [(267, .istore 12)] (by decide +kernel) rfl ?_
                      have hb135 := hBor.si ((((((((((hsi13.tr hsi19).tr hsi25).tr hsi31).tr hsi39).tr hsi58).tr hsiL64).tr hsiL115).tr hsi145).tr hsi199).tr hsiL205)
                      have hBn9 : zBw wL205 (m + 596 + 130 * (g 3).toNatClampNeg) (zrw R) (zbS R (zbM (zbmon (zquo (R.1 (zrw R - 1)) (d9.1 (zrw d9 - 1))) (zrw R - zrw d9)) d9)) := zBw.mk hb135 hb134 (by omega) (by omega) (fun j hj => by
                        rw [zDv2_row]
                        have h9 := hW j hj
                        rw [show v183.toNatClampNeg = zrw R - zrw d9 by omega, show y12_205.toNatClampNeg = zrw d9 by omega] at h9
                        exact h9) (fun j hj => zrw_dg _ j (by have := (zDv2_s (good' := True) hd0 (by omega) hD (zDv2_x hd0 (by omega)) (fun _ => trivial)).2; omega))
                      have hlt9 := (zDv2_s (good' := True) hd0 (by omega) hD (zDv2_x hd0 (by omega)) (fun _ => trivial)).2
                      refine zp_seg (pc' := 271) (lv' := [(12, .int n59), (0, .ref m), (1, .ref q), (3, .ref b), (4, .int (g 3)), (5, .int (g 1)), (6, .ref (m + 596 + 130 * (g 3).toNatClampNeg)), (7, .ref (m + 276 + 2 * (g 1).toNatClampNeg)), (8, .ref (m + 276 + 2 * (g 1 + 1).toNatClampNeg)), (9, .ref (m + 276 + 2 * (g 1 + 1 + 1).toNatClampNeg)), (11, .int v183)]) (st' := [.ref (m + 596 + 130 * (g 3).toNatClampNeg)]) [(269, .aload 6)] (by decide +kernel) rfl ?_
                      refine zr_callV (idx := 105) (j := 244) (by decide +kernel) (by decide +kernel) (show zMe 244 = some zq_X12_trim from rfl) rfl rfl (Nat.le_of_ble_eq_true rfl) rfl rfl hb134 (Nat.le_of_ble_eq_true rfl) (Nat.le_of_ble_eq_true rfl) (c_X12_trim (w := wL205) (m + 596 + 130 * (g 3).toNatClampNeg) hBn9) (by omega) (fun v271 w271 hp271 => ?_)
                      obtain ⟨hsi271, heq271, hp271_0, rfl⟩ := hp271
                      show zP _ _ _ _ [] _ _ _ _ _
                      refine zp_seg (pc' := 276) (lv' := [(12, .int n59), (0, .ref m), (1, .ref q), (3, .ref b), (4, .int (g 3)), (5, .int (g 1)), (6, .ref (m + 596 + 130 * (g 3).toNatClampNeg)), (7, .ref (m + 276 + 2 * (g 1).toNatClampNeg)), (8, .ref (m + 276 + 2 * (g 1 + 1).toNatClampNeg)), (9, .ref (m + 276 + 2 * (g 1 + 1 + 1).toNatClampNeg)), (11, .int v183)]) (st' := [.ref (m + 596 + 130 * (g 3).toNatClampNeg)]) [(274, .aload 6)] (by decide +kernel) rfl ?_
                      obtain ⟨n136, hb137, hb138, hb139, hb140, -⟩ := id hp271_0
                      have kn136 := zrng n136
                      refine zr_get (idx := 93) (k := 1) (v := .int n136) (by decide +kernel) (by decide +kernel) hb137 rfl ?_
                      refine zp_seg (pc' := 281) (lv' := [(12, .int n59), (0, .ref m), (1, .ref q), (3, .ref b), (4, .int (g 3)), (5, .int (g 1)), (6, .ref (m + 596 + 130 * (g 3).toNatClampNeg)), (7, .ref (m + 276 + 2 * (g 1).toNatClampNeg)), (8, .ref (m + 276 + 2 * (g 1 + 1).toNatClampNeg)), (9, .ref (m + 276 + 2 * (g 1 + 1 + 1).toNatClampNeg)), (11, .int v183)]) (st' := [.int n59, .int n136]) [(279, .iload 12)] (by decide +kernel) rfl ?_
                      refine zp_if (i := .if_icmp .ge 7) (c := n59 ≤ n136) (t := 288) (e := 284) (lv' := [(12, .int n59), (0, .ref m), (1, .ref q), (3, .ref b), (4, .int (g 3)), (5, .int (g 1)), (6, .ref (m + 596 + 130 * (g 3).toNatClampNeg)), (7, .ref (m + 276 + 2 * (g 1).toNatClampNeg)), (8, .ref (m + 276 + 2 * (g 1 + 1).toNatClampNeg)), (9, .ref (m + 276 + 2 * (g 1 + 1 + 1).toNatClampNeg)), (11, .int v183)]) (st' := []) (by decide +kernel) rfl (fun cc281 => ?_) (fun cc281 => ?_)
                      ·
                        have f141 := zleI cc281
                        exfalso
                        omega
                      ·
                        have f142 := znleI cc281
                        refine zp_seg (pc' := 115) (lv' := [(10, .int 1), (12, .int n59), (0, .ref m), (1, .ref q), (3, .ref b), (4, .int (g 3)), (5, .int (g 1)), (6, .ref (m + 596 + 130 * (g 3).toNatClampNeg)), (7, .ref (m + 276 + 2 * (g 1).toNatClampNeg)), (8, .ref (m + 276 + 2 * (g 1 + 1).toNatClampNeg)), (9, .ref (m + 276 + 2 * (g 1 + 1 + 1).toNatClampNeg)), (11, .int v183)]) (st' := []) [(284, .iconst 1), (285, .goto 4), (289, .istore 10), (291, .goto (-176))] (by decide +kernel) rfl ?_
                        have hl143 : (1 : Int32).toInt = 1 := by decide
                        have hz144 : ((1 : Int32).toNatClampNeg : Int) = 1 := by decide
                        have hb145 := hUx.si (((hsi145.tr hsi199).tr hsiL205).tr hsi271)
                        have hb146 := hUy.si (((hsi145.tr hsi199).tr hsiL205).tr hsi271)
                        have hb147 := hUp3.si hsi271
                        have hb148 : w271 m = some (.inl (15, zMo m (zs (zs g 1 (g 1 + 1 + 1 + 1)) 3 (g 3 + 1)) r)) := (heq271 m (by omega)).trans hmL205
                        have hb149 : zU w271 (q + 2 + 2 * v183.toNatClampNeg) 200 ((zquo (R.1 (zrw R - 1)) (d9.1 (zrw d9 - 1)))) := hp199_0.ag (fun x hx1 hx2 => ((heq271 x (by omega)).trans (heqL205 x (by omega))))
                        exact (ih115 w271 1 (zbS R (zbM (zbmon (zquo (R.1 (zrw R - 1)) (d9.1 (zrw d9 - 1))) (zrw R - zrw d9)) d9)) (zbA Qa (zbmon (zquo (R.1 (zrw R - 1)) (d9.1 (zrw d9 - 1))) (zrw R - zrw d9))) ((((hsiL115.tr hsi145).tr hsi199).tr hsiL205).tr hsi271) (fun x hx => ((heq271 x (by omega)).trans ((heqL205 x (by omega)).trans ((heq199 x (by omega)).trans ((heq145 x (by omega)).trans (heqL115 x (by omega))))))) (by first | assumption | omega | decide) (by first | assumption | omega | decide) (by first | assumption | omega | decide) hp271_0 hb145 hb146 hb147 hb148 (by
                              first
                                | exact zDv2_f hd0 (by omega) hD (by omega)
                                | exact (zDv2_s hd0 (by omega) hD (zDv2_x hd0 (by omega)) (fun _ => rfl)).1) (by
                              intro t ht
                              rw [zbA_c]
                              by_cases e : t = zrw R - zrw d9
                              · rw [hD.2.1 t (by omega), zaA_Zl, show (zbmon (zquo (R.1 (zrw R - 1)) (d9.1 (zrw d9 - 1))) (zrw R - zrw d9)).1 t = zquo (R.1 (zrw R - 1)) (d9.1 (zrw d9 - 1)) from if_pos e]
                                have h9 := hb149
                                rw [show v183.toNatClampNeg = t by omega] at h9
                                exact h9
                              · rw [show (zbmon (zquo (R.1 (zrw R - 1)) (d9.1 (zrw d9 - 1))) (zrw R - zrw d9)).1 t = zaZ from if_neg e, zaA_Zr]
                                exact (hQr t ht).ag (fun x g1 g2 => ((heq271 x (by omega)).trans ((heqL205 x (by omega)).trans ((heq199 x (by omega)).trans (heq145 x (by omega))))))) (by omega)).more (zfa1 rfl (zfa1 rfl (zfa1 rfl (zfa1 rfl (zfa1 rfl (zfa1 rfl (zfa1 rfl (zfa1 rfl (zfa1 rfl (zfa1 rfl (zfa0)))))))))))
                    ·
                      have f150 := znleI cc211
                      have hz151 : (y12_205.toNatClampNeg : Int) = y12_205.toInt := znat (by first | omega | decide)
                      refine zp_seg (pc' := 219) (lv' := [(0, .ref m), (1, .ref q), (3, .ref b), (4, .int (g 3)), (5, .int (g 1)), (6, .ref (m + 596 + 130 * (g 3).toNatClampNeg)), (7, .ref (m + 276 + 2 * (g 1).toNatClampNeg)), (8, .ref (m + 276 + 2 * (g 1 + 1).toNatClampNeg)), (9, .ref (m + 276 + 2 * (g 1 + 1 + 1).toNatClampNeg)), (11, .int v183), (12, .int y12_205)]) (st' := [.ref b, .ref (m + 276 + 2 * (g 1).toNatClampNeg), .ref (m + 276 + 2 * (g 1 + 1 + 1).toNatClampNeg)]) [(214, .aload 9), (216, .aload 7), (218, .aload_n 3)] (by decide +kernel) rfl ?_
                      refine zr_get (idx := 98) (k := 0) (v := .ref (b + 1)) (by decide +kernel) (by decide +kernel) hb131 rfl ?_
                      refine zp_seg (pc' := 224) (lv' := [(0, .ref m), (1, .ref q), (3, .ref b), (4, .int (g 3)), (5, .int (g 1)), (6, .ref (m + 596 + 130 * (g 3).toNatClampNeg)), (7, .ref (m + 276 + 2 * (g 1).toNatClampNeg)), (8, .ref (m + 276 + 2 * (g 1 + 1).toNatClampNeg)), (9, .ref (m + 276 + 2 * (g 1 + 1 + 1).toNatClampNeg)), (11, .int v183), (12, .int y12_205)]) (st' := [.int y12_205, .ref (b + 1), .ref (m + 276 + 2 * (g 1).toNatClampNeg), .ref (m + 276 + 2 * (g 1 + 1 + 1).toNatClampNeg)]) [(222, .iload 12)] (by decide +kernel) rfl ?_
                      have hb152 : wL205 (b + 1) = some (.inr (4, 64, zbr b)) := ((heqL205 (b + 1) (by omega)).trans ((heq199 (b + 1) (by omega)).trans ((heq145 (b + 1) (by omega)).trans ((heqL115 (b + 1) (by omega)).trans ((heqL64 (b + 1) (by omega)).trans ((heq58 (b + 1) (by omega)).trans ((heq39 (b + 1) (by omega)).trans ((heq31 (b + 1) (by omega)).trans ((heq25 (b + 1) (by omega)).trans ((heq19 (b + 1) (by omega)).trans (heq13 (b + 1) (by omega)))))))))))).trans hQb2
                      refine zr_aald (v := .ref (b + 2 + 2 * y12_205.toNatClampNeg)) (by decide +kernel) hb152 (by decide) (zin (by first | omega | decide) (by first | omega | decide)) (zbr_at (by omega)) ?_
                      have hb153 : zB wL205 b d9 := hb83.ag (fun x hx1 hx2 => ((heqL205 x (by omega)).trans ((heq199 x (by omega)).trans (heq145 x (by omega)))))
                      have hrow154 := hb153.row (y12_205.toNatClampNeg) (by omega)
                      have hdk := zdn_le d9 y12_205.toNatClampNeg
                      have hmk := zln_Mle (zquo (R.1 (zrw R - 1)) (d9.1 (zrw d9 - 1))) (d9.1 y12_205.toNatClampNeg)
                      have hrk := (hBR.row (v183.toNatClampNeg + y12_205.toNatClampNeg) (by omega)).cap
                      have hb155 : zU wL205 (m + 276 + 2 * (g 1).toNatClampNeg) 1000 (zquo (R.1 (zrw R - 1)) (d9.1 (zrw d9 - 1))) := hp145_1.ag (fun x hx1 hx2 => ((heqL205 x (by omega)).trans (heq199 x (by omega))))
                      refine zr_callS (idx := 106) (j := 267) (by decide +kernel) (by decide +kernel) (by decide) (show zMe 267 = some zq_X16_times from rfl) rfl rfl (Nat.le_of_ble_eq_true rfl) rfl rfl (Nat.le_of_ble_eq_true rfl) (Nat.le_of_ble_eq_true rfl) (c_X16_times (w := wL205) (m + 276 + 2 * (g 1 + 1 + 1).toNatClampNeg) (m + 276 + 2 * (g 1).toNatClampNeg) (b + 2 + 2 * y12_205.toNatClampNeg) hUp3 hb155 hrow154 (by first | omega | decide | assumption) (by first | omega | decide | assumption) (by first | omega | decide | assumption) (by first | omega | decide | assumption)) (by omega) (fun v225 w225 hp225 => ?_)
                      obtain ⟨hsi225, heq225, hp225_0, rfl⟩ := hp225
                      show zP _ _ _ _ [] _ _ _ _ _
                      refine zp_seg (pc' := 230) (lv' := [(0, .ref m), (1, .ref q), (3, .ref b), (4, .int (g 3)), (5, .int (g 1)), (6, .ref (m + 596 + 130 * (g 3).toNatClampNeg)), (7, .ref (m + 276 + 2 * (g 1).toNatClampNeg)), (8, .ref (m + 276 + 2 * (g 1 + 1).toNatClampNeg)), (9, .ref (m + 276 + 2 * (g 1 + 1 + 1).toNatClampNeg)), (11, .int v183), (12, .int y12_205)]) (st' := [.ref (m + 596 + 130 * (g 3).toNatClampNeg)]) [(228, .aload 6)] (by decide +kernel) rfl ?_
                      have hb156 : w225 (m + 596 + 130 * (g 3).toNatClampNeg) = some (.inl (11, [.ref (m + 596 + 130 * (g 3).toNatClampNeg + 1), .int n59])) := ((heq225 (m + 596 + 130 * (g 3).toNatClampNeg) (by omega)).trans ((heqL205 (m + 596 + 130 * (g 3).toNatClampNeg) (by omega)).trans (heq199 (m + 596 + 130 * (g 3).toNatClampNeg) (by omega)))).trans hb122
                      refine zr_get (idx := 98) (k := 0) (v := .ref (m + 596 + 130 * (g 3).toNatClampNeg + 1)) (by decide +kernel) (by decide +kernel) hb156 rfl ?_
                      refine zp_seg (pc' := 238) (lv' := [(0, .ref m), (1, .ref q), (3, .ref b), (4, .int (g 3)), (5, .int (g 1)), (6, .ref (m + 596 + 130 * (g 3).toNatClampNeg)), (7, .ref (m + 276 + 2 * (g 1).toNatClampNeg)), (8, .ref (m + 276 + 2 * (g 1 + 1).toNatClampNeg)), (9, .ref (m + 276 + 2 * (g 1 + 1 + 1).toNatClampNeg)), (11, .int v183), (12, .int y12_205)]) (st' := [.int (v183 + y12_205), .ref (m + 596 + 130 * (g 3).toNatClampNeg + 1)]) [(233, .iload 11), (235, .iload 12), (237, .iadd)] (by decide +kernel) rfl ?_
                      have k157 := zadd v183 y12_205 (by omega) (by omega)
                      generalize ev238 : (v183 + y12_205 : Int32) = v238 at k157 ⊢
                      have kv238 := zrng v238
                      have hb158 : w225 (m + 596 + 130 * (g 3).toNatClampNeg + 1) = some (.inr (4, 64, zbr (m + 596 + 130 * (g 3).toNatClampNeg))) := ((heq225 (m + 596 + 130 * (g 3).toNatClampNeg + 1) (by omega)).trans ((heqL205 (m + 596 + 130 * (g 3).toNatClampNeg + 1) (by omega)).trans ((heq199 (m + 596 + 130 * (g 3).toNatClampNeg + 1) (by omega)).trans (heq145 (m + 596 + 130 * (g 3).toNatClampNeg + 1) (by omega))))).trans hb61
                      have hz159 : (v238.toNatClampNeg : Int) = v238.toInt := znat (by first | omega | decide)
                      refine zr_aald (v := .ref (m + 596 + 130 * (g 3).toNatClampNeg + 2 + 2 * v238.toNatClampNeg)) (by decide +kernel) hb158 (by decide) (zin (by first | omega | decide) (by first | omega | decide)) (zbr_at (by omega)) ?_
                      have hb160 := hBor.si (((((((((((hsi13.tr hsi19).tr hsi25).tr hsi31).tr hsi39).tr hsi58).tr hsiL64).tr hsiL115).tr hsi145).tr hsi199).tr hsiL205).tr hsi225)
                      have hrow161 := hb160.rowo (v238.toNatClampNeg) (by omega)
                      refine zp_seg (pc' := 241) (lv' := [(0, .ref m), (1, .ref q), (3, .ref b), (4, .int (g 3)), (5, .int (g 1)), (6, .ref (m + 596 + 130 * (g 3).toNatClampNeg)), (7, .ref (m + 276 + 2 * (g 1).toNatClampNeg)), (8, .ref (m + 276 + 2 * (g 1 + 1).toNatClampNeg)), (9, .ref (m + 276 + 2 * (g 1 + 1 + 1).toNatClampNeg)), (11, .int v183), (12, .int y12_205)]) (st' := [.ref (m + 596 + 130 * (g 3).toNatClampNeg), .ref (m + 596 + 130 * (g 3).toNatClampNeg + 2 + 2 * v238.toNatClampNeg)]) [(239, .aload 6)] (by decide +kernel) rfl ?_
                      refine zr_get (idx := 98) (k := 0) (v := .ref (m + 596 + 130 * (g 3).toNatClampNeg + 1)) (by decide +kernel) (by decide +kernel) hb156 rfl ?_
                      refine zp_seg (pc' := 249) (lv' := [(0, .ref m), (1, .ref q), (3, .ref b), (4, .int (g 3)), (5, .int (g 1)), (6, .ref (m + 596 + 130 * (g 3).toNatClampNeg)), (7, .ref (m + 276 + 2 * (g 1).toNatClampNeg)), (8, .ref (m + 276 + 2 * (g 1 + 1).toNatClampNeg)), (9, .ref (m + 276 + 2 * (g 1 + 1 + 1).toNatClampNeg)), (11, .int v183), (12, .int y12_205)]) (st' := [.int (v183 + y12_205), .ref (m + 596 + 130 * (g 3).toNatClampNeg + 1), .ref (m + 596 + 130 * (g 3).toNatClampNeg + 2 + 2 * v238.toNatClampNeg)]) [(244, .iload 11), (246, .iload 12), (248, .iadd)] (by decide +kernel) rfl ?_
                      have k162 := zadd v183 y12_205 (by omega) (by omega)
                      generalize ev249 : (v183 + y12_205 : Int32) = v249 at k162 ⊢
                      have kv249 := zrng v249
                      have hz163 : (v249.toNatClampNeg : Int) = v249.toInt := znat (by first | omega | decide)
                      refine zr_aald (v := .ref (m + 596 + 130 * (g 3).toNatClampNeg + 2 + 2 * v249.toNatClampNeg)) (by decide +kernel) hb158 (by decide) (zin (by first | omega | decide) (by first | omega | decide)) (zbr_at (by omega)) ?_
                      refine zp_seg (pc' := 253) (lv' := [(0, .ref m), (1, .ref q), (3, .ref b), (4, .int (g 3)), (5, .int (g 1)), (6, .ref (m + 596 + 130 * (g 3).toNatClampNeg)), (7, .ref (m + 276 + 2 * (g 1).toNatClampNeg)), (8, .ref (m + 276 + 2 * (g 1 + 1).toNatClampNeg)), (9, .ref (m + 276 + 2 * (g 1 + 1 + 1).toNatClampNeg)), (11, .int v183), (12, .int y12_205)]) (st' := [.int 1, .ref (m + 276 + 2 * (g 1 + 1 + 1).toNatClampNeg), .ref (m + 596 + 130 * (g 3).toNatClampNeg + 2 + 2 * v249.toNatClampNeg), .ref (m + 596 + 130 * (g 3).toNatClampNeg + 2 + 2 * v238.toNatClampNeg)]) [(250, .aload 9), (252, .iconst 1)] (by decide +kernel) rfl ?_
                      have hUt := (hW (v183.toNatClampNeg + y12_205.toNatClampNeg) (by omega)).ag (w' := w225) (fun x g1 g2 => heq225 x (by omega))
                      rw [if_neg (by omega), ← show v249.toNatClampNeg = v183.toNatClampNeg + y12_205.toNatClampNeg by omega] at hUt
                      rw [← show v249.toNatClampNeg = v183.toNatClampNeg + y12_205.toNatClampNeg by omega] at hrk
                      refine zr_callS (idx := 101) (j := 265) (by decide +kernel) (by decide +kernel) (by decide) (show zMe 265 = some zq_X16_plus from rfl) rfl rfl (Nat.le_of_ble_eq_true rfl) rfl rfl (Nat.le_of_ble_eq_true rfl) (Nat.le_of_ble_eq_true rfl) (c_X16_plusS (w := w225) (m + 596 + 130 * (g 3).toNatClampNeg + 2 + 2 * v238.toNatClampNeg) (m + 596 + 130 * (g 3).toNatClampNeg + 2 + 2 * v249.toNatClampNeg) (m + 276 + 2 * (g 1 + 1 + 1).toNatClampNeg)  hrow161 hUt hp225_0 (by first | omega | decide | assumption) (by first | omega | decide | assumption)) (by omega) (fun v253 w253 hp253 => ?_)
                      obtain ⟨hsi253, heq253, hp253_0, rfl⟩ := hp253
                      show zP _ _ _ _ [] _ _ _ _ _
                      refine zp_seg (pc' := 259) (lv' := [(12, .int (y12_205 + 1)), (0, .ref m), (1, .ref q), (3, .ref b), (4, .int (g 3)), (5, .int (g 1)), (6, .ref (m + 596 + 130 * (g 3).toNatClampNeg)), (7, .ref (m + 276 + 2 * (g 1).toNatClampNeg)), (8, .ref (m + 276 + 2 * (g 1 + 1).toNatClampNeg)), (9, .ref (m + 276 + 2 * (g 1 + 1 + 1).toNatClampNeg)), (11, .int v183)]) (st' := []) [(256, .iinc 12 1)] (by decide +kernel) rfl ?_
                      have k164 := zaddC y12_205 1 (n := 1) (by decide) (by omega) (by omega)
                      generalize ev259 : (y12_205 + 1 : Int32) = v259 at k164 ⊢
                      have kv259 := zrng v259
                      refine zp_seg (pc' := 205) (lv' := [(12, .int v259), (0, .ref m), (1, .ref q), (3, .ref b), (4, .int (g 3)), (5, .int (g 1)), (6, .ref (m + 596 + 130 * (g 3).toNatClampNeg)), (7, .ref (m + 276 + 2 * (g 1).toNatClampNeg)), (8, .ref (m + 276 + 2 * (g 1 + 1).toNatClampNeg)), (9, .ref (m + 276 + 2 * (g 1 + 1 + 1).toNatClampNeg)), (11, .int v183)]) (st' := []) [(259, .goto (-54))] (by decide +kernel) rfl ?_
                      have hz165 : (v259.toNatClampNeg : Int) = v259.toInt := znat (by first | omega | decide)
                      have hb166 := hUp3.si (hsi225.tr hsi253)
                      have hb167 : w253 m = some (.inl (15, zMo m (zs (zs g 1 (g 1 + 1 + 1 + 1)) 3 (g 3 + 1)) r)) := ((heq253 m (by omega)).trans (heq225 m (by omega))).trans hmL205
                      exact (ih205 w253 v259 ((hsiL205.tr hsi225).tr hsi253) (fun x hx => ((heq253 x (by omega)).trans ((heq225 x (by omega)).trans (heqL205 x (by omega))))) (by first | assumption | omega | decide) (by first | assumption | omega | decide) hb166 hb167 (by
                            intro t ht
                            by_cases e : t = v183.toNatClampNeg + y12_205.toNatClampNeg
                            · have h9 := hp253_0
                              rw [show v238.toNatClampNeg = t by omega] at h9
                              rw [if_pos (by omega), show t - v183.toNatClampNeg = y12_205.toNatClampNeg by omega]
                              rw [show v249.toNatClampNeg = t by omega] at h9
                              exact h9
                            · have h9 := (hW t ht).ag (w' := w253) (fun x g1 g2 => (heq253 x (by omega)).trans (heq225 x (by omega)))
                              by_cases h : v183.toNatClampNeg ≤ t ∧ t < v183.toNatClampNeg + y12_205.toNatClampNeg
                              · rw [if_pos h] at h9; rw [if_pos (by omega)]; exact h9
                              · rw [if_neg h] at h9; rw [if_neg (by omega)]; exact h9) (by omega)).more (zfa1 rfl (zfa1 rfl (zfa1 rfl (zfa1 rfl (zfa1 rfl (zfa1 rfl (zfa1 rfl (zfa1 rfl (zfa1 rfl (zfa1 rfl (zfa1 rfl (zfa0))))))))))))
                  have hz168 : ((0 : Int32).toNatClampNeg : Int) = 0 := by decide
                  have hb169 := hUp.si (hsi145.tr hsi199)
                  exact (hL205 _ w199 0 zSI.rf (fun _ _ => rfl) (by first | assumption | omega | decide) (by first | assumption | omega | decide) hb169 hb130 (by
                        intro t ht
                        rw [if_neg (by omega)]
                        exact (hBR.row t ht).ag (fun x g1 g2 => ((heq199 x (by omega)).trans (heq145 x (by omega))))) (Nat.lt_succ_self _)).more (zfa1 rfl (zfa1 rfl (zfa1 rfl (zfa1 rfl (zfa1 rfl (zfa1 rfl (zfa1 rfl (zfa1 rfl (zfa1 rfl (zfa1 rfl (zfa1 rfl (zfa0))))))))))))
        have hz170 : (z0_113.toNatClampNeg : Int) = z0_113.toInt := znat (by first | omega | decide)
        have hb171 : zB wL64 (m + 596 + 130 * (g 3).toNatClampNeg) p := hp39_0.ag (fun x hx1 hx2 => ((heqL64 x (by omega)).trans (heq58 x (by omega))))
        have hb172 : zU wL64 (m + 276 + 2 * (g 1).toNatClampNeg) 1000 zaZ := hp19_1.ag (fun x hx1 hx2 => ((heqL64 x (by omega)).trans ((heq58 x (by omega)).trans ((heq39 x (by omega)).trans ((heq31 x (by omega)).trans (heq25 x (by omega)))))))
        have hb173 : zU wL64 (m + 276 + 2 * (g 1 + 1).toNatClampNeg) 1000 zaZ := hp25_1.ag (fun x hx1 hx2 => ((heqL64 x (by omega)).trans ((heq58 x (by omega)).trans ((heq39 x (by omega)).trans (heq31 x (by omega))))))
        have hb174 : zU wL64 (m + 276 + 2 * (g 1 + 1 + 1).toNatClampNeg) 1000 zaZ := hp31_1.ag (fun x hx1 hx2 => ((heqL64 x (by omega)).trans ((heq58 x (by omega)).trans (heq39 x (by omega)))))
        exact (hL115 _ wL64 z0_113 (p) (zbZ) zSI.rf (fun _ _ => rfl) (by first | assumption | omega | decide) (by first | assumption | omega | decide) (by first | assumption | omega | decide) hb171 (zU.o hb172) (zU.o hb173) (zU.o hb174) hmL64 (by
              exact hg) (by
              exact fun t ht => by rw [zbZ_c]; exact hZ t (by omega)) (Nat.lt_succ_self _)).more (zfa1 rfl (zfa1 rfl (zfa1 rfl (zfa1 rfl (zfa1 rfl (zfa1 rfl (zfa1 rfl (zfa1 rfl (zfa1 rfl (zfa1 rfl (zfa0)))))))))))
      refine zp_if (i := .ifCond .eq 14) (c := na = 0) (t := 108) (e := 97) (lv' := [(0, .ref m), (1, .ref q), (2, .ref a), (3, .ref b), (4, .int (g 3)), (5, .int (g 1)), (6, .ref (m + 596 + 130 * (g 3).toNatClampNeg)), (7, .ref (m + 276 + 2 * (g 1).toNatClampNeg)), (8, .ref (m + 276 + 2 * (g 1 + 1).toNatClampNeg)), (9, .ref (m + 276 + 2 * (g 1 + 1 + 1).toNatClampNeg)), (10, .int y10_64)]) (st' := []) (by decide +kernel) rfl (fun cc94 => ?_) (fun cc94 => ?_)
      ·
        have f175 := zeqI cc94
        rw [show (0 : Int32).toInt = 0 from by decide] at f175
        refine zp_seg (pc' := 113) (lv' := [(0, .ref m), (1, .ref q), (2, .ref a), (3, .ref b), (4, .int (g 3)), (5, .int (g 1)), (6, .ref (m + 596 + 130 * (g 3).toNatClampNeg)), (7, .ref (m + 276 + 2 * (g 1).toNatClampNeg)), (8, .ref (m + 276 + 2 * (g 1 + 1).toNatClampNeg)), (9, .ref (m + 276 + 2 * (g 1 + 1 + 1).toNatClampNeg)), (10, .int y10_64)]) (st' := [.int 1]) [(108, .iconst 1), (109, .goto 4)] (by decide +kernel) rfl ?_
        have hl176 : (1 : Int32).toInt = 1 := by decide
        exact (hJ113 1 (by first | assumption | omega | decide) (by first | assumption | omega | decide) (by first | assumption | omega | decide) (by
              refine zDv2_0 p d9 hd0 _ ?_
              first
                | exact fun _ => rfl
                | (intro h; exfalso; omega))).more (zfa1 rfl (zfa1 rfl (zfa1 rfl (zfa1 rfl (zfa1 rfl (zfa1 rfl (zfa1 rfl (zfa1 rfl (zfa1 rfl (zfa0))))))))))
      ·
        have f177 := zneI cc94
        rw [show (0 : Int32).toInt = 0 from by decide] at f177
        refine zp_seg (pc' := 98) (lv' := [(0, .ref m), (1, .ref q), (2, .ref a), (3, .ref b), (4, .int (g 3)), (5, .int (g 1)), (6, .ref (m + 596 + 130 * (g 3).toNatClampNeg)), (7, .ref (m + 276 + 2 * (g 1).toNatClampNeg)), (8, .ref (m + 276 + 2 * (g 1 + 1).toNatClampNeg)), (9, .ref (m + 276 + 2 * (g 1 + 1 + 1).toNatClampNeg)), (10, .int y10_64)]) (st' := [.ref a]) [(97, .aload_n 2)] (by decide +kernel) rfl ?_
        refine zr_get (idx := 93) (k := 1) (v := .int na) (by decide +kernel) (by decide +kernel) hb34 rfl ?_
        refine zp_seg (pc' := 102) (lv' := [(0, .ref m), (1, .ref q), (2, .ref a), (3, .ref b), (4, .int (g 3)), (5, .int (g 1)), (6, .ref (m + 596 + 130 * (g 3).toNatClampNeg)), (7, .ref (m + 276 + 2 * (g 1).toNatClampNeg)), (8, .ref (m + 276 + 2 * (g 1 + 1).toNatClampNeg)), (9, .ref (m + 276 + 2 * (g 1 + 1 + 1).toNatClampNeg)), (10, .int y10_64)]) (st' := [.ref b, .int na]) [(101, .aload_n 3)] (by decide +kernel) rfl ?_
        have hb178 : wL64 b = some (.inl (11, [.ref (b + 1), .int nb])) := ((heqL64 b (by omega)).trans (heq58 b (by omega))).trans hb16
        refine zr_get (idx := 93) (k := 1) (v := .int nb) (by decide +kernel) (by decide +kernel) hb178 rfl ?_
        refine zp_if (i := .if_icmp .lt 7) (c := na < nb) (t := 112) (e := 108) (lv' := [(0, .ref m), (1, .ref q), (2, .ref a), (3, .ref b), (4, .int (g 3)), (5, .int (g 1)), (6, .ref (m + 596 + 130 * (g 3).toNatClampNeg)), (7, .ref (m + 276 + 2 * (g 1).toNatClampNeg)), (8, .ref (m + 276 + 2 * (g 1 + 1).toNatClampNeg)), (9, .ref (m + 276 + 2 * (g 1 + 1 + 1).toNatClampNeg)), (10, .int y10_64)]) (st' := []) (by decide +kernel) rfl (fun cc105 => ?_) (fun cc105 => ?_)
        ·
          have f179 := zltI cc105
          refine zp_seg (pc' := 113) (lv' := [(0, .ref m), (1, .ref q), (2, .ref a), (3, .ref b), (4, .int (g 3)), (5, .int (g 1)), (6, .ref (m + 596 + 130 * (g 3).toNatClampNeg)), (7, .ref (m + 276 + 2 * (g 1).toNatClampNeg)), (8, .ref (m + 276 + 2 * (g 1 + 1).toNatClampNeg)), (9, .ref (m + 276 + 2 * (g 1 + 1 + 1).toNatClampNeg)), (10, .int y10_64)]) (st' := [.int 0]) [(112, .iconst 0)] (by decide +kernel) rfl ?_
          exact (hJ113 0 (by first | assumption | omega | decide) (by first | assumption | omega | decide) (by first | assumption | omega | decide) (by
                refine zDv2_0 p d9 hd0 _ ?_
                first
                  | exact fun _ => rfl
                  | (intro h; exfalso; omega))).more (zfa1 rfl (zfa1 rfl (zfa1 rfl (zfa1 rfl (zfa1 rfl (zfa1 rfl (zfa1 rfl (zfa1 rfl (zfa1 rfl (zfa0))))))))))
        ·
          have f180 := znltI cc105
          refine zp_seg (pc' := 113) (lv' := [(0, .ref m), (1, .ref q), (2, .ref a), (3, .ref b), (4, .int (g 3)), (5, .int (g 1)), (6, .ref (m + 596 + 130 * (g 3).toNatClampNeg)), (7, .ref (m + 276 + 2 * (g 1).toNatClampNeg)), (8, .ref (m + 276 + 2 * (g 1 + 1).toNatClampNeg)), (9, .ref (m + 276 + 2 * (g 1 + 1 + 1).toNatClampNeg)), (10, .int y10_64)]) (st' := [.int 1]) [(108, .iconst 1), (109, .goto 4)] (by decide +kernel) rfl ?_
          have hl181 : (1 : Int32).toInt = 1 := by decide
          exact (hJ113 1 (by first | assumption | omega | decide) (by first | assumption | omega | decide) (by first | assumption | omega | decide) (by
                refine zDv2_0 p d9 hd0 _ ?_
                first
                  | exact fun _ => rfl
                  | (intro h; exfalso; omega))).more (zfa1 rfl (zfa1 rfl (zfa1 rfl (zfa1 rfl (zfa1 rfl (zfa1 rfl (zfa1 rfl (zfa1 rfl (zfa1 rfl (zfa0))))))))))
    ·
      have f182 := znleI cc70
      have hz183 : (y10_64.toNatClampNeg : Int) = y10_64.toInt := znat (by first | omega | decide)
      refine zp_seg (pc' := 74) (lv' := [(0, .ref m), (1, .ref q), (2, .ref a), (3, .ref b), (4, .int (g 3)), (5, .int (g 1)), (6, .ref (m + 596 + 130 * (g 3).toNatClampNeg)), (7, .ref (m + 276 + 2 * (g 1).toNatClampNeg)), (8, .ref (m + 276 + 2 * (g 1 + 1).toNatClampNeg)), (9, .ref (m + 276 + 2 * (g 1 + 1 + 1).toNatClampNeg)), (10, .int y10_64)]) (st' := [.ref q]) [(73, .aload_n 1)] (by decide +kernel) rfl ?_
      refine zr_get (idx := 98) (k := 0) (v := .ref (q + 1)) (by decide +kernel) (by decide +kernel) hb31 rfl ?_
      refine zp_seg (pc' := 79) (lv' := [(0, .ref m), (1, .ref q), (2, .ref a), (3, .ref b), (4, .int (g 3)), (5, .int (g 1)), (6, .ref (m + 596 + 130 * (g 3).toNatClampNeg)), (7, .ref (m + 276 + 2 * (g 1).toNatClampNeg)), (8, .ref (m + 276 + 2 * (g 1 + 1).toNatClampNeg)), (9, .ref (m + 276 + 2 * (g 1 + 1 + 1).toNatClampNeg)), (10, .int y10_64)]) (st' := [.int y10_64, .ref (q + 1)]) [(77, .iload 10)] (by decide +kernel) rfl ?_
      have hb184 : wL64 (q + 1) = some (.inr (4, 64, zbr q)) := ((heqL64 (q + 1) (by omega)).trans (heq58 (q + 1) (by omega))).trans hb26
      refine zr_aald (v := .ref (q + 2 + 2 * y10_64.toNatClampNeg)) (by decide +kernel) hb184 (by decide) (zin (by first | omega | decide) (by first | omega | decide)) (zbr_at (by omega)) ?_
      have hb185 := hb29.si (hsi58.tr hsiL64)
      have hrow186 := hb185.rowo (y10_64.toNatClampNeg) (by omega)
      refine zp_seg (pc' := 81) (lv' := [(0, .ref m), (1, .ref q), (2, .ref a), (3, .ref b), (4, .int (g 3)), (5, .int (g 1)), (6, .ref (m + 596 + 130 * (g 3).toNatClampNeg)), (7, .ref (m + 276 + 2 * (g 1).toNatClampNeg)), (8, .ref (m + 276 + 2 * (g 1 + 1).toNatClampNeg)), (9, .ref (m + 276 + 2 * (g 1 + 1 + 1).toNatClampNeg)), (10, .int y10_64)]) (st' := [.int 0, .ref (q + 2 + 2 * y10_64.toNatClampNeg)]) [(80, .iconst 0)] (by decide +kernel) rfl ?_
      obtain ⟨n187, f188, hu189, hu190⟩ := id hrow186
      have kn187 := zrng n187
      refine zr_put2 (idx := 25) (k := 1) (fs2 := [.ref (q + 2 + 2 * y10_64.toNatClampNeg + 1), .int 0]) (by decide +kernel) (by decide +kernel) hu189 (Nat.le_of_ble_eq_true rfl) rfl rfl rfl ?_
      show zP (d + 1) zq_X16_divides 84 [(0, .ref m), (1, .ref q), (2, .ref a), (3, .ref b), (4, .int (g 3)), (5, .int (g 1)), (6, .ref (m + 596 + 130 * (g 3).toNatClampNeg)), (7, .ref (m + 276 + 2 * (g 1).toNatClampNeg)), (8, .ref (m + 276 + 2 * (g 1 + 1).toNatClampNeg)), (9, .ref (m + 276 + 2 * (g 1 + 1 + 1).toNatClampNeg)), (10, .int y10_64)] [] (zup wL64 (q + 2 + 2 * y10_64.toNatClampNeg) (.inl (14, [.ref (q + 2 + 2 * y10_64.toNatClampNeg + 1), .int 0]))) sz 0 0 Post
      obtain ⟨w81, ew81⟩ : ∃ wz9, wz9 = zup wL64 (q + 2 + 2 * y10_64.toNatClampNeg) (.inl (14, [.ref (q + 2 + 2 * y10_64.toNatClampNeg + 1), .int 0])) := ⟨_, rfl⟩
      have hsi81 : zSI wL64 w81 := by rw [ew81]; exact zSI.setU hu189
      have heq81 : ∀ x, x ≠ q + 2 + 2 * y10_64.toNatClampNeg → w81 x = wL64 x := fun x hx => by rw [ew81]; exact zup_n hx
      have hc81 : w81 (q + 2 + 2 * y10_64.toNatClampNeg) = some (.inl (14, [.ref (q + 2 + 2 * y10_64.toNatClampNeg + 1), .int 0])) := by rw [ew81]; exact zup_s
      rw [← ew81]
      clear ew81
      refine zp_seg (pc' := 87) (lv' := [(10, .int (y10_64 + 1)), (0, .ref m), (1, .ref q), (2, .ref a), (3, .ref b), (4, .int (g 3)), (5, .int (g 1)), (6, .ref (m + 596 + 130 * (g 3).toNatClampNeg)), (7, .ref (m + 276 + 2 * (g 1).toNatClampNeg)), (8, .ref (m + 276 + 2 * (g 1 + 1).toNatClampNeg)), (9, .ref (m + 276 + 2 * (g 1 + 1 + 1).toNatClampNeg))]) (st' := []) [(84, .iinc 10 1)] (by decide +kernel) rfl ?_
      have k191 := zaddC y10_64 1 (n := 1) (by decide) (by omega) (by omega)
      generalize ev87 : (y10_64 + 1 : Int32) = v87 at k191 ⊢
      have kv87 := zrng v87
      refine zp_seg (pc' := 64) (lv' := [(10, .int v87), (0, .ref m), (1, .ref q), (2, .ref a), (3, .ref b), (4, .int (g 3)), (5, .int (g 1)), (6, .ref (m + 596 + 130 * (g 3).toNatClampNeg)), (7, .ref (m + 276 + 2 * (g 1).toNatClampNeg)), (8, .ref (m + 276 + 2 * (g 1 + 1).toNatClampNeg)), (9, .ref (m + 276 + 2 * (g 1 + 1 + 1).toNatClampNeg))]) (st' := []) [(87, .goto (-23))] (by decide +kernel) rfl ?_
      have hz192 : (v87.toNatClampNeg : Int) = v87.toInt := znat (by first | omega | decide)
      have hb193 : w81 m = some (.inl (15, zMo m (zs (zs g 1 (g 1 + 1 + 1 + 1)) 3 (g 3 + 1)) r)) := (heq81 m (by omega)).trans hmL64
      have hb194 : w81 (q + 2 + 2 * y10_64.toNatClampNeg + 1) = some (.inr (0, 200, .inl f188)) := (heq81 (q + 2 + 2 * y10_64.toNatClampNeg + 1) (by omega)).trans hu190
      exact (ih64 w81 v87 (hsiL64.tr hsi81) (fun x hx => ((heq81 x (by omega)).trans (heqL64 x (by omega)))) (by first | assumption | omega | decide) (by first | assumption | omega | decide) hb193 (by
            intro t ht
            by_cases e : t = y10_64.toNatClampNeg
            · rw [e]
              exact zU.mk0 hc81 hb194
            · exact (hZ t (by omega)).ag (fun x g1 g2 => heq81 x (by omega))) (by omega)).more (zfa1 rfl (zfa1 rfl (zfa1 rfl (zfa1 rfl (zfa1 rfl (zfa1 rfl (zfa1 rfl (zfa1 rfl (zfa1 rfl (zfa1 rfl (zfa1 rfl (zfa0))))))))))))
  have hz195 : ((0 : Int32).toNatClampNeg : Int) = 0 := by decide
  exact (hL64 _ w58 0 zSI.rf (fun _ _ => rfl) (by first | assumption | omega | decide) (by first | assumption | omega | decide) hb30 (by
        exact fun t ht => absurd ht (by omega)) (Nat.lt_succ_self _)).more (zfa1 rfl (zfa1 rfl (zfa1 rfl (zfa1 rfl (zfa1 rfl (zfa1 rfl (zfa1 rfl (zfa1 rfl (zfa1 rfl (zfa1 rfl (zfa1 rfl (zfa0))))))))))))
