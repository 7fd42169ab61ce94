set_option maxHeartbeats 8000000 in
set_option maxRecDepth 100000 in
theorem c_X16_plus_AD {w : zM} {p q : zA2} (to : Nat) (a : Nat) (b : Nat) (hBo_to : zBo w to) (hB_a : zB w a p) (hB_b : zB w b q) (hab : a + 130 ≤ b ∨ b + 130 ≤ a) (hta : to + 130 ≤ a ∨ a + 130 ≤ to) (htb : to + 130 ≤ b ∨ b + 130 ≤ to) : zCon 3 zq_X16_plus_ [.ref to, .ref a, .ref b, .int 0] w (fun v9 w9' => zSI w w9' ∧ (∀ x, (x < a ∨ a + 130 ≤ x) ∧ (x < b ∨ b + 130 ≤ x) ∧ (x < to ∨ to + 130 ≤ x) → w9' x = w x) ∧ zB w9' to (zbA p q) ∧ zB w9' a p ∧ zB w9' b q ∧ v9 = none) := by
  intro d sz hd
  obtain ⟨d, rfl⟩ : ∃ d9, d = d9 + 1 := ⟨d - 1, by omega⟩
  generalize hPost : (fun (r9' : Option (Option Value)) (w9' : zM) (z9 : Nat) => z9 = sz ∧ ∃ v9, r9' = some v9 ∧ (zSI w w9' ∧ (∀ x, (x < a ∨ a + 130 ≤ x) ∧ (x < b ∨ b + 130 ≤ x) ∧ (x < to ∨ to + 130 ≤ x) → w9' x = w x) ∧ zB w9' to (zbA p q) ∧ zB w9' a p ∧ zB w9' b q ∧ v9 = none)) = Post
  show zP (d + 1) zq_X16_plus_ 0 [(0, .ref to), (1, .ref a), (2, .ref b), (3, .int 0)] [] w sz 0 0 Post
  obtain ⟨na, ha1, ha2, ha3, ha4, ha5, ha6⟩ := id hB_a
  have kna := zrng na
  obtain ⟨nb, hb1, hb2, hb3, hb4, hb5, hb6⟩ := id hB_b
  have knb := zrng nb
  have hBo_a := hB_a.o
  have hBo_b := hB_b.o
  refine zp_seg (pc' := 1) (lv' := [(0, .ref to), (1, .ref a), (2, .ref b), (3, .int 0)]) (st' := [.ref a]) [(0, .aload_n 1)] (by decide +kernel) rfl ?_
  refine zr_get (idx := 93) (k := 1) (v := .int na) (by decide +kernel) (by decide +kernel) ha1 rfl ?_
  refine zp_seg (pc' := 5) (lv' := [(0, .ref to), (1, .ref a), (2, .ref b), (3, .int 0)]) (st' := [.ref b, .int na]) [(4, .aload_n 2)] (by decide +kernel) rfl ?_
  refine zr_get (idx := 93) (k := 1) (v := .int nb) (by decide +kernel) (by decide +kernel) hb1 rfl ?_
  refine zr_max (idx := 40) (by decide +kernel) (by decide +kernel) (by omega) (Nat.le_of_ble_eq_true rfl) ?_
  have k3 := zrng na
  have k4 := zrng nb
  obtain ⟨m2, em2, hm2⟩ := zmaxI na nb
  rw [← em2]
  have km2 := zrng m2
  refine zp_seg (pc' := 14) (lv' := [(4, .int m2), (0, .ref to), (1, .ref a), (2, .ref b), (3, .int 0)]) (st' := [.ref a]) [(11, .istore 4), (13, .aload_n 1)] (by decide +kernel) rfl ?_
  refine zr_get (idx := 93) (k := 1) (v := .int na) (by decide +kernel) (by decide +kernel) ha1 rfl ?_
  refine zp_seg (pc' := 19) (lv' := [(5, .int na), (4, .int m2), (0, .ref to), (1, .ref a), (2, .ref b), (3, .int 0)]) (st' := []) [(17, .istore 5)] (by decide +kernel) rfl ?_
  have hL19 : ∀ (mm19 : Nat) (wL19 : zM) (y5_19 : Int32), (zSI w wL19) → (∀ x, (x < a + 2 ∨ a + 2 + 128 ≤ x) → wL19 x = w x) → (0 ≤ y5_19.toInt) → ((zrw p : Int) ≤ y5_19.toInt) → (y5_19.toInt ≤ m2.toInt) → (∀ t, t < y5_19.toNatClampNeg → zU wL19 (a + 2 + 2 * t) 200 (p.1 t)) → (2147483647 - y5_19.toInt).toNat < mm19 → zP (d + 1) zq_X16_plus_ 19 [(0, .ref to), (1, .ref a), (2, .ref b), (3, .int 0), (4, .int m2), (5, .int y5_19)] [] wL19 sz 0 0 Post := by
    intro mm19
    induction mm19 with
    | zero => intros; omega
    | succ mm19 ih19 =>
    intro wL19 y5_19 hsiL19 heqL19 hi19_0 hi19_1 hi19_2 hA1 hmu19
    have ky5_19 := zrng y5_19
    refine zp_seg (pc' := 23) (lv' := [(0, .ref to), (1, .ref a), (2, .ref b), (3, .int 0), (4, .int m2), (5, .int y5_19)]) (st' := [.int m2, .int y5_19]) [(19, .iload 5), (21, .iload 4)] (by decide +kernel) rfl ?_
    refine zp_if (i := .if_icmp .ge 20) (c := m2 ≤ y5_19) (t := 43) (e := 26) (lv' := [(0, .ref to), (1, .ref a), (2, .ref b), (3, .int 0), (4, .int m2), (5, .int y5_19)]) (st' := []) (by decide +kernel) rfl (fun cc23 => ?_) (fun cc23 => ?_)
    ·
      have f5 := zleI cc23
      have hz6 : (m2.toNatClampNeg : Int) = m2.toInt := znat (by first | omega | decide)
      have hz7 : (y5_19.toNatClampNeg : Int) = y5_19.toInt := znat (by first | omega | decide)
      refine zp_seg (pc' := 44) (lv' := [(0, .ref to), (1, .ref a), (2, .ref b), (3, .int 0), (4, .int m2), (5, .int y5_19)]) (st' := [.ref b]) [(43, .aload_n 2)] (by decide +kernel) rfl ?_
      have hb8 : wL19 b = some (.inl (11, [.ref (b + 1), .int nb])) := (heqL19 b (by omega)).trans hb1
      refine zr_get (idx := 93) (k := 1) (v := .int nb) (by decide +kernel) (by decide +kernel) hb8 rfl ?_
      refine zp_seg (pc' := 49) (lv' := [(5, .int nb), (0, .ref to), (1, .ref a), (2, .ref b), (3, .int 0), (4, .int m2)]) (st' := []) [(47, .istore 5)] (by decide +kernel) rfl ?_
      have hL49 : ∀ (mm49 : Nat) (wL49 : zM) (y5_49 : Int32), (zSI wL19 wL49) → (∀ x, (x < b + 2 ∨ b + 2 + 128 ≤ x) → wL49 x = wL19 x) → (0 ≤ y5_49.toInt) → ((zrw q : Int) ≤ y5_49.toInt) → (y5_49.toInt ≤ m2.toInt) → (∀ t, t < y5_49.toNatClampNeg → zU wL49 (b + 2 + 2 * t) 200 (q.1 t)) → (2147483647 - y5_49.toInt).toNat < mm49 → zP (d + 1) zq_X16_plus_ 49 [(0, .ref to), (1, .ref a), (2, .ref b), (3, .int 0), (4, .int m2), (5, .int y5_49)] [] wL49 sz 0 0 Post := by
        intro mm49
        induction mm49 with
        | zero => intros; omega
        | succ mm49 ih49 =>
        intro wL49 y5_49 hsiL49 heqL49 hi49_0 hi49_1 hi49_2 hB1 hmu49
        have ky5_49 := zrng y5_49
        refine zp_seg (pc' := 53) (lv' := [(0, .ref to), (1, .ref a), (2, .ref b), (3, .int 0), (4, .int m2), (5, .int y5_49)]) (st' := [.int m2, .int y5_49]) [(49, .iload 5), (51, .iload 4)] (by decide +kernel) rfl ?_
        refine zp_if (i := .if_icmp .ge 20) (c := m2 ≤ y5_49) (t := 73) (e := 56) (lv' := [(0, .ref to), (1, .ref a), (2, .ref b), (3, .int 0), (4, .int m2), (5, .int y5_49)]) (st' := []) (by decide +kernel) rfl (fun cc53 => ?_) (fun cc53 => ?_)
        ·
          have f9 := zleI cc53
          have hz10 : (y5_49.toNatClampNeg : Int) = y5_49.toInt := znat (by first | omega | decide)
          refine zp_seg (pc' := 76) (lv' := [(5, .int 0), (0, .ref to), (1, .ref a), (2, .ref b), (3, .int 0), (4, .int m2)]) (st' := []) [(73, .iconst 0), (74, .istore 5)] (by decide +kernel) rfl ?_
          have hL76 : ∀ (mm76 : Nat) (wL76 : zM) (y5_76 : Int32), (zSI wL49 wL76) → (∀ x, (x < to + 2 ∨ to + 2 + 128 ≤ x) → wL76 x = wL49 x) → (0 ≤ y5_76.toInt) → (y5_76.toInt ≤ m2.toInt) → (∀ t, t < y5_76.toNatClampNeg → zU wL76 (to + 2 + 2 * t) 200 (zaA (p.1 t) (q.1 t))) → (∀ t, y5_76.toNatClampNeg ≤ t → t < m2.toNatClampNeg → zU wL76 (a + 2 + 2 * t) 200 (p.1 t)) → (∀ t, y5_76.toNatClampNeg ≤ t → t < m2.toNatClampNeg → zU wL76 (b + 2 + 2 * t) 200 (q.1 t)) → (2147483647 - y5_76.toInt).toNat < mm76 → zP (d + 1) zq_X16_plus_ 76 [(0, .ref to), (1, .ref a), (2, .ref b), (3, .int 0), (4, .int m2), (5, .int y5_76)] [] wL76 sz 0 0 Post := by
            intro mm76
            induction mm76 with
            | zero => intros; omega
            | succ mm76 ih76 =>
            intro wL76 y5_76 hsiL76 heqL76 hi76_0 hi76_1 hT hA hB hmu76
            have ky5_76 := zrng y5_76
            refine zp_seg (pc' := 80) (lv' := [(0, .ref to), (1, .ref a), (2, .ref b), (3, .int 0), (4, .int m2), (5, .int y5_76)]) (st' := [.int m2, .int y5_76]) [(76, .iload 5), (78, .iload 4)] (by decide +kernel) rfl ?_
            refine zp_if (i := .if_icmp .ge 34) (c := m2 ≤ y5_76) (t := 114) (e := 83) (lv' := [(0, .ref to), (1, .ref a), (2, .ref b), (3, .int 0), (4, .int m2), (5, .int y5_76)]) (st' := []) (by decide +kernel) rfl (fun cc80 => ?_) (fun cc80 => ?_)
            ·
              have f11 := zleI cc80
              have hz12 : (y5_76.toNatClampNeg : Int) = y5_76.toInt := znat (by first | omega | decide)
              refine zp_seg (pc' := 117) (lv' := [(0, .ref to), (1, .ref a), (2, .ref b), (3, .int 0), (4, .int m2), (5, .int y5_76)]) (st' := [.int m2, .ref to]) [(114, .aload_n 0), (115, .iload 4)] (by decide +kernel) rfl ?_
              have hb18 := hBo_to.si ((hsiL19.tr hsiL49).tr hsiL76)
              obtain ⟨n13, hb14, hb15, -⟩ := id hb18
              have kn13 := zrng n13
              refine zr_put2 (idx := 93) (k := 1) (fs2 := [.ref (to + 1), .int m2]) (by decide +kernel) (by decide +kernel) hb14 (Nat.le_of_ble_eq_true rfl) rfl rfl rfl ?_
              show zP (d + 1) zq_X16_plus_ 120 [(0, .ref to), (1, .ref a), (2, .ref b), (3, .int 0), (4, .int m2), (5, .int y5_76)] [] (zup wL76 to (.inl (11, [.ref (to + 1), .int m2]))) sz 0 0 Post
              obtain ⟨w117, ew117⟩ : ∃ wz9, wz9 = zup wL76 to (.inl (11, [.ref (to + 1), .int m2])) := ⟨_, rfl⟩
              have hsi117 : zSI wL76 w117 := by rw [ew117]; exact zSI.setB hb14
              have heq117 : ∀ x, x ≠ to → w117 x = wL76 x := fun x hx => by rw [ew117]; exact zup_n hx
              have hc117 : w117 to = some (.inl (11, [.ref (to + 1), .int m2])) := by rw [ew117]; exact zup_s
              rw [← ew117]
              clear ew117
              have hb19 := hb18.si hsi117
              have hBn9 : zBw w117 to m2.toNatClampNeg (zbA p q) := zBw.mk hb19 hc117 (by omega) (by omega) (fun j hj => (hT j (by omega)).ag (fun x g1 g2 => heq117 x (by omega))) (fun j hj => by rw [zbA_c, zrw_dg p j (by omega), zrw_dg q j (by omega)]; exact zaA_Zr zaZ)
              refine zp_seg (pc' := 121) (lv' := [(0, .ref to), (1, .ref a), (2, .ref b), (3, .int 0), (4, .int m2), (5, .int y5_76)]) (st' := [.ref to]) [(120, .aload_n 0)] (by decide +kernel) rfl ?_
              refine zr_callV (idx := 105) (j := 244) (by decide +kernel) (by decide +kernel) (show zMe 244 = some zq_X12_trim from rfl) rfl rfl (Nat.le_of_ble_eq_true rfl) rfl rfl hc117 (Nat.le_of_ble_eq_true rfl) (Nat.le_of_ble_eq_true rfl) (c_X12_trim (w := w117) to hBn9) (by omega) (fun v121 w121 hp121 => ?_)
              obtain ⟨hsi121, heq121, hp121_0, rfl⟩ := hp121
              show zP _ _ _ _ [] _ _ _ _ _
              have hoffend : ∀ x, (x < a ∨ a + 130 ≤ x) ∧ (x < b ∨ b + 130 ≤ x) ∧ (x < to ∨ to + 130 ≤ x) → w121 x = w x := fun x hx => ((heq121 x (by omega)).trans ((heq117 x (by omega)).trans ((heqL76 x (by omega)).trans ((heqL49 x (by omega)).trans (heqL19 x (by omega))))))
              have hb20 := hBo_a.si ((((hsiL19.tr hsiL49).tr hsiL76).tr hsi117).tr hsi121)
              have hb21 : w121 a = some (.inl (11, [.ref (a + 1), .int na])) := ((heq121 a (by omega)).trans ((heq117 a (by omega)).trans ((heqL76 a (by omega)).trans ((heqL49 a (by omega)).trans (heqL19 a (by omega)))))).trans ha1
              have hb22 := hBo_b.si ((((hsiL19.tr hsiL49).tr hsiL76).tr hsi117).tr hsi121)
              have hb23 : w121 b = some (.inl (11, [.ref (b + 1), .int nb])) := ((heq121 b (by omega)).trans ((heq117 b (by omega)).trans ((heqL76 b (by omega)).trans (heqL49 b (by omega))))).trans hb8
              refine zr_retV (by decide +kernel) rfl ?_
              rw [← hPost]; exact ⟨rfl, _, rfl, ((((hsiL19.tr hsiL49).tr hsiL76).tr hsi117).tr hsi121), hoffend, (by first | exact hp121_0 | (have z9 := hp121_0; simpa using z9)), (by
                    exact zB.mk hb20 hb21 ha3 ha4 (fun j hj => (hA1 j (by omega)).ag (fun x g1 g2 => ((heq121 x (by omega)).trans ((heq117 x (by omega)).trans ((heqL76 x (by omega)).trans (heqL49 x (by omega)))))))), (by
                    exact zB.mk hb22 hb23 hb3 hb4 (fun j hj => (hB1 j (by omega)).ag (fun x g1 g2 => ((heq121 x (by omega)).trans ((heq117 x (by omega)).trans (heqL76 x (by omega))))))), rfl⟩
            ·
              have f24 := znleI cc80
              refine zp_seg (pc' := 84) (lv' := [(0, .ref to), (1, .ref a), (2, .ref b), (3, .int 0), (4, .int m2), (5, .int y5_76)]) (st' := [.ref to]) [(83, .aload_n 0)] (by decide +kernel) rfl ?_
              have hb30 := hBo_to.si ((hsiL19.tr hsiL49).tr hsiL76)
              obtain ⟨n25, hb26, hb27, -⟩ := id hb30
              have kn25 := zrng n25
              refine zr_get (idx := 98) (k := 0) (v := .ref (to + 1)) (by decide +kernel) (by decide +kernel) hb26 rfl ?_
              refine zp_seg (pc' := 89) (lv' := [(0, .ref to), (1, .ref a), (2, .ref b), (3, .int 0), (4, .int m2), (5, .int y5_76)]) (st' := [.int y5_76, .ref (to + 1)]) [(87, .iload 5)] (by decide +kernel) rfl ?_
              have hz31 : (y5_76.toNatClampNeg : Int) = y5_76.toInt := znat (by first | omega | decide)
              refine zr_aald (v := .ref (to + 2 + 2 * y5_76.toNatClampNeg)) (by decide +kernel) hb27 (by decide) (zin (by first | omega | decide) (by first | omega | decide)) (zbr_at (by omega)) ?_
              have hrow32 := hb30.rowo (y5_76.toNatClampNeg) (by omega)
              refine zp_seg (pc' := 91) (lv' := [(0, .ref to), (1, .ref a), (2, .ref b), (3, .int 0), (4, .int m2), (5, .int y5_76)]) (st' := [.ref a, .ref (to + 2 + 2 * y5_76.toNatClampNeg)]) [(90, .aload_n 1)] (by decide +kernel) rfl ?_
              have hb33 : wL76 a = some (.inl (11, [.ref (a + 1), .int na])) := ((heqL76 a (by omega)).trans ((heqL49 a (by omega)).trans (heqL19 a (by omega)))).trans ha1
              refine zr_get (idx := 98) (k := 0) (v := .ref (a + 1)) (by decide +kernel) (by decide +kernel) hb33 rfl ?_
              refine zp_seg (pc' := 96) (lv' := [(0, .ref to), (1, .ref a), (2, .ref b), (3, .int 0), (4, .int m2), (5, .int y5_76)]) (st' := [.int y5_76, .ref (a + 1), .ref (to + 2 + 2 * y5_76.toNatClampNeg)]) [(94, .iload 5)] (by decide +kernel) rfl ?_
              have hb34 : wL76 (a + 1) = some (.inr (4, 64, zbr a)) := ((heqL76 (a + 1) (by omega)).trans ((heqL49 (a + 1) (by omega)).trans (heqL19 (a + 1) (by omega)))).trans ha2
              refine zr_aald (v := .ref (a + 2 + 2 * y5_76.toNatClampNeg)) (by decide +kernel) hb34 (by decide) (zin (by first | omega | decide) (by first | omega | decide)) (zbr_at (by omega)) ?_
              refine zp_seg (pc' := 98) (lv' := [(0, .ref to), (1, .ref a), (2, .ref b), (3, .int 0), (4, .int m2), (5, .int y5_76)]) (st' := [.ref b, .ref (a + 2 + 2 * y5_76.toNatClampNeg), .ref (to + 2 + 2 * y5_76.toNatClampNeg)]) [(97, .aload_n 2)] (by decide +kernel) rfl ?_
              have hb35 : wL76 b = some (.inl (11, [.ref (b + 1), .int nb])) := ((heqL76 b (by omega)).trans (heqL49 b (by omega))).trans hb8
              refine zr_get (idx := 98) (k := 0) (v := .ref (b + 1)) (by decide +kernel) (by decide +kernel) hb35 rfl ?_
              refine zp_seg (pc' := 103) (lv' := [(0, .ref to), (1, .ref a), (2, .ref b), (3, .int 0), (4, .int m2), (5, .int y5_76)]) (st' := [.int y5_76, .ref (b + 1), .ref (a + 2 + 2 * y5_76.toNatClampNeg), .ref (to + 2 + 2 * y5_76.toNatClampNeg)]) [(101, .iload 5)] (by decide +kernel) rfl ?_
              have hb36 : wL76 (b + 1) = some (.inr (4, 64, zbr b)) := ((heqL76 (b + 1) (by omega)).trans ((heqL49 (b + 1) (by omega)).trans (heqL19 (b + 1) (by omega)))).trans hb2
              refine zr_aald (v := .ref (b + 2 + 2 * y5_76.toNatClampNeg)) (by decide +kernel) hb36 (by decide) (zin (by first | omega | decide) (by first | omega | decide)) (zbr_at (by omega)) ?_
              refine zp_seg (pc' := 105) (lv' := [(0, .ref to), (1, .ref a), (2, .ref b), (3, .int 0), (4, .int m2), (5, .int y5_76)]) (st' := [.int 0, .ref (b + 2 + 2 * y5_76.toNatClampNeg), .ref (a + 2 + 2 * y5_76.toNatClampNeg), .ref (to + 2 + 2 * y5_76.toNatClampNeg)]) [(104, .iload_n 3)] (by decide +kernel) rfl ?_
              have hUa := hA y5_76.toNatClampNeg (by omega) (by omega)
              have hUb := hB y5_76.toNatClampNeg (by omega) (by omega)
              have hca := hUa.cap
              have hcb := hUb.cap
              refine zr_callS (idx := 101) (j := 265) (by decide +kernel) (by decide +kernel) (by decide) (show zMe 265 = some zq_X16_plus from rfl) rfl rfl (Nat.le_of_ble_eq_true rfl) rfl rfl (Nat.le_of_ble_eq_true rfl) (Nat.le_of_ble_eq_true rfl) (c_X16_plusA (w := wL76) (to + 2 + 2 * y5_76.toNatClampNeg) (a + 2 + 2 * y5_76.toNatClampNeg) (b + 2 + 2 * y5_76.toNatClampNeg)  hrow32 hUa hUb (by first | omega | decide | assumption) (by first | omega | decide | assumption)) (by omega) (fun v105 w105 hp105 => ?_)
              obtain ⟨hsi105, heq105, hp105_0, rfl⟩ := hp105
              show zP _ _ _ _ [] _ _ _ _ _
              refine zp_seg (pc' := 111) (lv' := [(5, .int (y5_76 + 1)), (0, .ref to), (1, .ref a), (2, .ref b), (3, .int 0), (4, .int m2)]) (st' := []) [(108, .iinc 5 1)] (by decide +kernel) rfl ?_
              have k37 := zaddC y5_76 1 (n := 1) (by decide) (by omega) (by omega)
              generalize ev111 : (y5_76 + 1 : Int32) = v111 at k37 ⊢
              have kv111 := zrng v111
              refine zp_seg (pc' := 76) (lv' := [(5, .int v111), (0, .ref to), (1, .ref a), (2, .ref b), (3, .int 0), (4, .int m2)]) (st' := []) [(111, .goto (-35))] (by decide +kernel) rfl ?_
              have hz38 : (v111.toNatClampNeg : Int) = v111.toInt := znat (by first | omega | decide)
              exact (ih76 w105 v111 (hsiL76.tr hsi105) (fun x hx => ((heq105 x (by omega)).trans (heqL76 x (by omega)))) (by first | assumption | omega | decide) (by first | assumption | omega | decide) (by
                    intro t ht
                    by_cases e : t = y5_76.toNatClampNeg
                    · rw [e]; exact hp105_0
                    · exact (hT t (by omega)).ag (fun x g1 g2 => heq105 x (by omega))) (by
                    exact fun t h1 h2 => (hA t (by omega) h2).ag (fun x g1 g2 => heq105 x (by omega))) (by
                    exact fun t h1 h2 => (hB t (by omega) h2).ag (fun x g1 g2 => heq105 x (by omega))) (by omega)).more (zfa1 rfl (zfa1 rfl (zfa1 rfl (zfa1 rfl (zfa1 rfl (zfa1 rfl (zfa0)))))))
          have hl39 : (0 : Int32).toInt = 0 := by decide
          have hz40 : ((0 : Int32).toNatClampNeg : Int) = 0 := by decide
          exact (hL76 _ wL49 0 zSI.rf (fun _ _ => rfl) (by first | assumption | omega | decide) (by first | assumption | omega | decide) (by
                exact fun t ht => absurd ht (by omega)) (by
                exact fun t h1 h2 => (hA1 t (by omega)).ag (fun x g1 g2 => heqL49 x (by omega))) (by
                exact fun t h1 h2 => hB1 t (by omega)) (Nat.lt_succ_self _)).more (zfa1 rfl (zfa1 rfl (zfa1 rfl (zfa1 rfl (zfa1 rfl (zfa1 rfl (zfa0)))))))
        ·
          have f41 := znleI cc53
          have hz42 : (y5_49.toNatClampNeg : Int) = y5_49.toInt := znat (by first | omega | decide)
          refine zp_seg (pc' := 57) (lv' := [(0, .ref to), (1, .ref a), (2, .ref b), (3, .int 0), (4, .int m2), (5, .int y5_49)]) (st' := [.ref b]) [(56, .aload_n 2)] (by decide +kernel) rfl ?_
          have hb43 : wL49 b = some (.inl (11, [.ref (b + 1), .int nb])) := (heqL49 b (by omega)).trans hb8
          refine zr_get (idx := 98) (k := 0) (v := .ref (b + 1)) (by decide +kernel) (by decide +kernel) hb43 rfl ?_
          refine zp_seg (pc' := 62) (lv' := [(0, .ref to), (1, .ref a), (2, .ref b), (3, .int 0), (4, .int m2), (5, .int y5_49)]) (st' := [.int y5_49, .ref (b + 1)]) [(60, .iload 5)] (by decide +kernel) rfl ?_
          have hb44 : wL49 (b + 1) = some (.inr (4, 64, zbr b)) := ((heqL49 (b + 1) (by omega)).trans (heqL19 (b + 1) (by omega))).trans hb2
          refine zr_aald (v := .ref (b + 2 + 2 * y5_49.toNatClampNeg)) (by decide +kernel) hb44 (by decide) (zin (by first | omega | decide) (by first | omega | decide)) (zbr_at (by omega)) ?_
          have hb45 := hBo_b.si (hsiL19.tr hsiL49)
          have hrow46 := hb45.rowo (y5_49.toNatClampNeg) (by omega)
          refine zp_seg (pc' := 64) (lv' := [(0, .ref to), (1, .ref a), (2, .ref b), (3, .int 0), (4, .int m2), (5, .int y5_49)]) (st' := [.int 0, .ref (b + 2 + 2 * y5_49.toNatClampNeg)]) [(63, .iconst 0)] (by decide +kernel) rfl ?_
          obtain ⟨n47, f48, hu49, hu50⟩ := id hrow46
          have kn47 := zrng n47
          refine zr_put2 (idx := 25) (k := 1) (fs2 := [.ref (b + 2 + 2 * y5_49.toNatClampNeg + 1), .int 0]) (by decide +kernel) (by decide +kernel) hu49 (Nat.le_of_ble_eq_true rfl) rfl rfl rfl ?_
          show zP (d + 1) zq_X16_plus_ 67 [(0, .ref to), (1, .ref a), (2, .ref b), (3, .int 0), (4, .int m2), (5, .int y5_49)] [] (zup wL49 (b + 2 + 2 * y5_49.toNatClampNeg) (.inl (14, [.ref (b + 2 + 2 * y5_49.toNatClampNeg + 1), .int 0]))) sz 0 0 Post
          obtain ⟨w64, ew64⟩ : ∃ wz9, wz9 = zup wL49 (b + 2 + 2 * y5_49.toNatClampNeg) (.inl (14, [.ref (b + 2 + 2 * y5_49.toNatClampNeg + 1), .int 0])) := ⟨_, rfl⟩
          have hsi64 : zSI wL49 w64 := by rw [ew64]; exact zSI.setU hu49
          have heq64 : ∀ x, x ≠ b + 2 + 2 * y5_49.toNatClampNeg → w64 x = wL49 x := fun x hx => by rw [ew64]; exact zup_n hx
          have hc64 : w64 (b + 2 + 2 * y5_49.toNatClampNeg) = some (.inl (14, [.ref (b + 2 + 2 * y5_49.toNatClampNeg + 1), .int 0])) := by rw [ew64]; exact zup_s
          rw [← ew64]
          clear ew64
          refine zp_seg (pc' := 70) (lv' := [(5, .int (y5_49 + 1)), (0, .ref to), (1, .ref a), (2, .ref b), (3, .int 0), (4, .int m2)]) (st' := []) [(67, .iinc 5 1)] (by decide +kernel) rfl ?_
          have k51 := zaddC y5_49 1 (n := 1) (by decide) (by omega) (by omega)
          generalize ev70 : (y5_49 + 1 : Int32) = v70 at k51 ⊢
          have kv70 := zrng v70
          refine zp_seg (pc' := 49) (lv' := [(5, .int v70), (0, .ref to), (1, .ref a), (2, .ref b), (3, .int 0), (4, .int m2)]) (st' := []) [(70, .goto (-21))] (by decide +kernel) rfl ?_
          have hz52 : (v70.toNatClampNeg : Int) = v70.toInt := znat (by first | omega | decide)
          have hb53 : w64 (b + 2 + 2 * y5_49.toNatClampNeg + 1) = some (.inr (0, 200, .inl f48)) := (heq64 (b + 2 + 2 * y5_49.toNatClampNeg + 1) (by omega)).trans hu50
          exact (ih49 w64 v70 (hsiL49.tr hsi64) (fun x hx => ((heq64 x (by omega)).trans (heqL49 x (by omega)))) (by first | assumption | omega | decide) (by first | assumption | omega | decide) (by first | assumption | omega | decide) (by
                intro t ht
                by_cases e : t = y5_49.toNatClampNeg
                · rw [e, zrw_dg q y5_49.toNatClampNeg (by omega)]
                  exact zU.mk0 hc64 hb53
                · exact (hB1 t (by omega)).ag (fun x g1 g2 => heq64 x (by omega))) (by omega)).more (zfa1 rfl (zfa1 rfl (zfa1 rfl (zfa1 rfl (zfa1 rfl (zfa1 rfl (zfa0)))))))
      have hz54 : (nb.toNatClampNeg : Int) = nb.toInt := znat (by first | omega | decide)
      exact (hL49 _ wL19 nb zSI.rf (fun _ _ => rfl) (by first | assumption | omega | decide) (by first | assumption | omega | decide) (by first | assumption | omega | decide) (by
            exact fun t ht => (hb5 t (by omega)).ag (fun x g1 g2 => (heqL19 x (by omega)))) (Nat.lt_succ_self _)).more (zfa1 rfl (zfa1 rfl (zfa1 rfl (zfa1 rfl (zfa1 rfl (zfa1 rfl (zfa0)))))))
    ·
      have f55 := znleI cc23
      have hz56 : (y5_19.toNatClampNeg : Int) = y5_19.toInt := znat (by first | omega | decide)
      refine zp_seg (pc' := 27) (lv' := [(0, .ref to), (1, .ref a), (2, .ref b), (3, .int 0), (4, .int m2), (5, .int y5_19)]) (st' := [.ref a]) [(26, .aload_n 1)] (by decide +kernel) rfl ?_
      have hb57 : wL19 a = some (.inl (11, [.ref (a + 1), .int na])) := (heqL19 a (by omega)).trans ha1
      refine zr_get (idx := 98) (k := 0) (v := .ref (a + 1)) (by decide +kernel) (by decide +kernel) hb57 rfl ?_
      refine zp_seg (pc' := 32) (lv' := [(0, .ref to), (1, .ref a), (2, .ref b), (3, .int 0), (4, .int m2), (5, .int y5_19)]) (st' := [.int y5_19, .ref (a + 1)]) [(30, .iload 5)] (by decide +kernel) rfl ?_
      have hb58 : wL19 (a + 1) = some (.inr (4, 64, zbr a)) := (heqL19 (a + 1) (by omega)).trans ha2
      refine zr_aald (v := .ref (a + 2 + 2 * y5_19.toNatClampNeg)) (by decide +kernel) hb58 (by decide) (zin (by first | omega | decide) (by first | omega | decide)) (zbr_at (by omega)) ?_
      have hb59 := hBo_a.si hsiL19
      have hrow60 := hb59.rowo (y5_19.toNatClampNeg) (by omega)
      refine zp_seg (pc' := 34) (lv' := [(0, .ref to), (1, .ref a), (2, .ref b), (3, .int 0), (4, .int m2), (5, .int y5_19)]) (st' := [.int 0, .ref (a + 2 + 2 * y5_19.toNatClampNeg)]) [(33, .iconst 0)] (by decide +kernel) rfl ?_
      obtain ⟨n61, f62, hu63, hu64⟩ := id hrow60
      have kn61 := zrng n61
      refine zr_put2 (idx := 25) (k := 1) (fs2 := [.ref (a + 2 + 2 * y5_19.toNatClampNeg + 1), .int 0]) (by decide +kernel) (by decide +kernel) hu63 (Nat.le_of_ble_eq_true rfl) rfl rfl rfl ?_
      show zP (d + 1) zq_X16_plus_ 37 [(0, .ref to), (1, .ref a), (2, .ref b), (3, .int 0), (4, .int m2), (5, .int y5_19)] [] (zup wL19 (a + 2 + 2 * y5_19.toNatClampNeg) (.inl (14, [.ref (a + 2 + 2 * y5_19.toNatClampNeg + 1), .int 0]))) sz 0 0 Post
      obtain ⟨w34, ew34⟩ : ∃ wz9, wz9 = zup wL19 (a + 2 + 2 * y5_19.toNatClampNeg) (.inl (14, [.ref (a + 2 + 2 * y5_19.toNatClampNeg + 1), .int 0])) := ⟨_, rfl⟩
      have hsi34 : zSI wL19 w34 := by rw [ew34]; exact zSI.setU hu63
      have heq34 : ∀ x, x ≠ a + 2 + 2 * y5_19.toNatClampNeg → w34 x = wL19 x := fun x hx => by rw [ew34]; exact zup_n hx
      have hc34 : w34 (a + 2 + 2 * y5_19.toNatClampNeg) = some (.inl (14, [.ref (a + 2 + 2 * y5_19.toNatClampNeg + 1), .int 0])) := by rw [ew34]; exact zup_s
      rw [← ew34]
      clear ew34
      refine zp_seg (pc' := 40) (lv' := [(5, .int (y5_19 + 1)), (0, .ref to), (1, .ref a), (2, .ref b), (3, .int 0), (4, .int m2)]) (st' := []) [(37, .iinc 5 1)] (by decide +kernel) rfl ?_
      have k65 := zaddC y5_19 1 (n := 1) (by decide) (by omega) (by omega)
      generalize ev40 : (y5_19 + 1 : Int32) = v40 at k65 ⊢
      have kv40 := zrng v40
      refine zp_seg (pc' := 19) (lv' := [(5, .int v40), (0, .ref to), (1, .ref a), (2, .ref b), (3, .int 0), (4, .int m2)]) (st' := []) [(40, .goto (-21))] (by decide +kernel) rfl ?_
      have hz66 : (v40.toNatClampNeg : Int) = v40.toInt := znat (by first | omega | decide)
      have hb67 : w34 (a + 2 + 2 * y5_19.toNatClampNeg + 1) = some (.inr (0, 200, .inl f62)) := (heq34 (a + 2 + 2 * y5_19.toNatClampNeg + 1) (by omega)).trans hu64
      exact (ih19 w34 v40 (hsiL19.tr hsi34) (fun x hx => ((heq34 x (by omega)).trans (heqL19 x (by omega)))) (by first | assumption | omega | decide) (by first | assumption | omega | decide) (by first | assumption | omega | decide) (by
            intro t ht
            by_cases e : t = y5_19.toNatClampNeg
            · rw [e, zrw_dg p y5_19.toNatClampNeg (by omega)]
              exact zU.mk0 hc34 hb67
            · exact (hA1 t (by omega)).ag (fun x g1 g2 => heq34 x (by omega))) (by omega)).more (zfa1 rfl (zfa1 rfl (zfa1 rfl (zfa1 rfl (zfa1 rfl (zfa1 rfl (zfa0)))))))
  have hz68 : (na.toNatClampNeg : Int) = na.toInt := znat (by first | omega | decide)
  exact (hL19 _ w na zSI.rf (fun _ _ => rfl) (by first | assumption | omega | decide) (by first | assumption | omega | decide) (by first | assumption | omega | decide) (by
        exact fun t ht => ha5 t (by omega)) (Nat.lt_succ_self _)).more (zfa1 rfl (zfa1 rfl (zfa1 rfl (zfa1 rfl (zfa1 rfl (zfa1 rfl (zfa0)))))))

set_option maxHeartbeats 8000000 in
set_option maxRecDepth 100000 in
theorem c_X16_plus_Aa {w : zM} {p q : zA2} (a : Nat) (b : Nat) (hB_a : zB w a p) (hB_b : zB w b q) (hab : a + 130 ≤ b ∨ b + 130 ≤ a) : zCon 3 zq_X16_plus_ [.ref a, .ref a, .ref b, .int 0] w (fun v9 w9' => zSI w w9' ∧ (∀ x, (x < a ∨ a + 130 ≤ x) ∧ (x < b ∨ b + 130 ≤ x) → w9' x = w x) ∧ zB w9' a (zbA p q) ∧ zB w9' b q ∧ v9 = none) := by
  intro d sz hd
  obtain ⟨d, rfl⟩ : ∃ d9, d = d9 + 1 := ⟨d - 1, by omega⟩
  generalize hPost : (fun (r9' : Option (Option Value)) (w9' : zM) (z9 : Nat) => z9 = sz ∧ ∃ v9, r9' = some v9 ∧ (zSI w w9' ∧ (∀ x, (x < a ∨ a + 130 ≤ x) ∧ (x < b ∨ b + 130 ≤ x) → w9' x = w x) ∧ zB w9' a (zbA p q) ∧ zB w9' b q ∧ v9 = none)) = Post
  show zP (d + 1) zq_X16_plus_ 0 [(0, .ref a), (1, .ref a), (2, .ref b), (3, .int 0)] [] w sz 0 0 Post
  obtain ⟨na, ha1, ha2, ha3, ha4, ha5, ha6⟩ := id hB_a
  have kna := zrng na
  obtain ⟨nb, hb1, hb2, hb3, hb4, hb5, hb6⟩ := id hB_b
  have knb := zrng nb
  have hBo_a := hB_a.o
  have hBo_b := hB_b.o
  refine zp_seg (pc' := 1) (lv' := [(0, .ref a), (1, .ref a), (2, .ref b), (3, .int 0)]) (st' := [.ref a]) [(0, .aload_n 1)] (by decide +kernel) rfl ?_
  refine zr_get (idx := 93) (k := 1) (v := .int na) (by decide +kernel) (by decide +kernel) ha1 rfl ?_
  refine zp_seg (pc' := 5) (lv' := [(0, .ref a), (1, .ref a), (2, .ref b), (3, .int 0)]) (st' := [.ref b, .int na]) [(4, .aload_n 2)] (by decide +kernel) rfl ?_
  refine zr_get (idx := 93) (k := 1) (v := .int nb) (by decide +kernel) (by decide +kernel) hb1 rfl ?_
  refine zr_max (idx := 40) (by decide +kernel) (by decide +kernel) (by omega) (Nat.le_of_ble_eq_true rfl) ?_
  have k3 := zrng na
  have k4 := zrng nb
  obtain ⟨m2, em2, hm2⟩ := zmaxI na nb
  rw [← em2]
  have km2 := zrng m2
  refine zp_seg (pc' := 14) (lv' := [(4, .int m2), (0, .ref a), (1, .ref a), (2, .ref b), (3, .int 0)]) (st' := [.ref a]) [(11, .istore 4), (13, .aload_n 1)] (by decide +kernel) rfl ?_
  refine zr_get (idx := 93) (k := 1) (v := .int na) (by decide +kernel) (by decide +kernel) ha1 rfl ?_
  refine zp_seg (pc' := 19) (lv' := [(5, .int na), (4, .int m2), (0, .ref a), (1, .ref a), (2, .ref b), (3, .int 0)]) (st' := []) [(17, .istore 5)] (by decide +kernel) rfl ?_
  have hL19 : ∀ (mm19 : Nat) (wL19 : zM) (y5_19 : Int32), (zSI w wL19) → (∀ x, (x < a + 2 ∨ a + 2 + 128 ≤ x) → wL19 x = w x) → (0 ≤ y5_19.toInt) → ((zrw p : Int) ≤ y5_19.toInt) → (y5_19.toInt ≤ m2.toInt) → (∀ t, t < y5_19.toNatClampNeg → zU wL19 (a + 2 + 2 * t) 200 (p.1 t)) → (2147483647 - y5_19.toInt).toNat < mm19 → zP (d + 1) zq_X16_plus_ 19 [(0, .ref a), (1, .ref a), (2, .ref b), (3, .int 0), (4, .int m2), (5, .int y5_19)] [] wL19 sz 0 0 Post := by
    intro mm19
    induction mm19 with
    | zero => intros; omega
    | succ mm19 ih19 =>
    intro wL19 y5_19 hsiL19 heqL19 hi19_0 hi19_1 hi19_2 hA1 hmu19
    have ky5_19 := zrng y5_19
    refine zp_seg (pc' := 23) (lv' := [(0, .ref a), (1, .ref a), (2, .ref b), (3, .int 0), (4, .int m2), (5, .int y5_19)]) (st' := [.int m2, .int y5_19]) [(19, .iload 5), (21, .iload 4)] (by decide +kernel) rfl ?_
    refine zp_if (i := .if_icmp .ge 20) (c := m2 ≤ y5_19) (t := 43) (e := 26) (lv' := [(0, .ref a), (1, .ref a), (2, .ref b), (3, .int 0), (4, .int m2), (5, .int y5_19)]) (st' := []) (by decide +kernel) rfl (fun cc23 => ?_) (fun cc23 => ?_)
    ·
      have f5 := zleI cc23
      have hz6 : (m2.toNatClampNeg : Int) = m2.toInt := znat (by first | omega | decide)
      have hz7 : (y5_19.toNatClampNeg : Int) = y5_19.toInt := znat (by first | omega | decide)
      refine zp_seg (pc' := 44) (lv' := [(0, .ref a), (1, .ref a), (2, .ref b), (3, .int 0), (4, .int m2), (5, .int y5_19)]) (st' := [.ref b]) [(43, .aload_n 2)] (by decide +kernel) rfl ?_
      have hb8 : wL19 b = some (.inl (11, [.ref (b + 1), .int nb])) := (heqL19 b (by omega)).trans hb1
      refine zr_get (idx := 93) (k := 1) (v := .int nb) (by decide +kernel) (by decide +kernel) hb8 rfl ?_
      refine zp_seg (pc' := 49) (lv' := [(5, .int nb), (0, .ref a), (1, .ref a), (2, .ref b), (3, .int 0), (4, .int m2)]) (st' := []) [(47, .istore 5)] (by decide +kernel) rfl ?_
      have hL49 : ∀ (mm49 : Nat) (wL49 : zM) (y5_49 : Int32), (zSI wL19 wL49) → (∀ x, (x < b + 2 ∨ b + 2 + 128 ≤ x) → wL49 x = wL19 x) → (0 ≤ y5_49.toInt) → ((zrw q : Int) ≤ y5_49.toInt) → (y5_49.toInt ≤ m2.toInt) → (∀ t, t < y5_49.toNatClampNeg → zU wL49 (b + 2 + 2 * t) 200 (q.1 t)) → (2147483647 - y5_49.toInt).toNat < mm49 → zP (d + 1) zq_X16_plus_ 49 [(0, .ref a), (1, .ref a), (2, .ref b), (3, .int 0), (4, .int m2), (5, .int y5_49)] [] wL49 sz 0 0 Post := by
        intro mm49
        induction mm49 with
        | zero => intros; omega
        | succ mm49 ih49 =>
        intro wL49 y5_49 hsiL49 heqL49 hi49_0 hi49_1 hi49_2 hB1 hmu49
        have ky5_49 := zrng y5_49
        refine zp_seg (pc' := 53) (lv' := [(0, .ref a), (1, .ref a), (2, .ref b), (3, .int 0), (4, .int m2), (5, .int y5_49)]) (st' := [.int m2, .int y5_49]) [(49, .iload 5), (51, .iload 4)] (by decide +kernel) rfl ?_
        refine zp_if (i := .if_icmp .ge 20) (c := m2 ≤ y5_49) (t := 73) (e := 56) (lv' := [(0, .ref a), (1, .ref a), (2, .ref b), (3, .int 0), (4, .int m2), (5, .int y5_49)]) (st' := []) (by decide +kernel) rfl (fun cc53 => ?_) (fun cc53 => ?_)
        ·
          have f9 := zleI cc53
          have hz10 : (y5_49.toNatClampNeg : Int) = y5_49.toInt := znat (by first | omega | decide)
          refine zp_seg (pc' := 76) (lv' := [(5, .int 0), (0, .ref a), (1, .ref a), (2, .ref b), (3, .int 0), (4, .int m2)]) (st' := []) [(73, .iconst 0), (74, .istore 5)] (by decide +kernel) rfl ?_
          have hL76 : ∀ (mm76 : Nat) (wL76 : zM) (y5_76 : Int32), (zSI wL49 wL76) → (∀ x, (x < a + 2 ∨ a + 2 + 128 ≤ x) → wL76 x = wL49 x) → (0 ≤ y5_76.toInt) → (y5_76.toInt ≤ m2.toInt) → (∀ t, t < y5_76.toNatClampNeg → zU wL76 (a + 2 + 2 * t) 200 (zaA (p.1 t) (q.1 t))) → (∀ t, y5_76.toNatClampNeg ≤ t → t < m2.toNatClampNeg → zU wL76 (a + 2 + 2 * t) 200 (p.1 t)) → (∀ t, y5_76.toNatClampNeg ≤ t → t < m2.toNatClampNeg → zU wL76 (b + 2 + 2 * t) 200 (q.1 t)) → (2147483647 - y5_76.toInt).toNat < mm76 → zP (d + 1) zq_X16_plus_ 76 [(0, .ref a), (1, .ref a), (2, .ref b), (3, .int 0), (4, .int m2), (5, .int y5_76)] [] wL76 sz 0 0 Post := by
            intro mm76
            induction mm76 with
            | zero => intros; omega
            | succ mm76 ih76 =>
            intro wL76 y5_76 hsiL76 heqL76 hi76_0 hi76_1 hT hA hB hmu76
            have ky5_76 := zrng y5_76
            refine zp_seg (pc' := 80) (lv' := [(0, .ref a), (1, .ref a), (2, .ref b), (3, .int 0), (4, .int m2), (5, .int y5_76)]) (st' := [.int m2, .int y5_76]) [(76, .iload 5), (78, .iload 4)] (by decide +kernel) rfl ?_
            refine zp_if (i := .if_icmp .ge 34) (c := m2 ≤ y5_76) (t := 114) (e := 83) (lv' := [(0, .ref a), (1, .ref a), (2, .ref b), (3, .int 0), (4, .int m2), (5, .int y5_76)]) (st' := []) (by decide +kernel) rfl (fun cc80 => ?_) (fun cc80 => ?_)
            ·
              have f11 := zleI cc80
              have hz12 : (y5_76.toNatClampNeg : Int) = y5_76.toInt := znat (by first | omega | decide)
              refine zp_seg (pc' := 117) (lv' := [(0, .ref a), (1, .ref a), (2, .ref b), (3, .int 0), (4, .int m2), (5, .int y5_76)]) (st' := [.int m2, .ref a]) [(114, .aload_n 0), (115, .iload 4)] (by decide +kernel) rfl ?_
              have hb13 : wL76 a = some (.inl (11, [.ref (a + 1), .int na])) := ((heqL76 a (by omega)).trans ((heqL49 a (by omega)).trans (heqL19 a (by omega)))).trans ha1
              refine zr_put2 (idx := 93) (k := 1) (fs2 := [.ref (a + 1), .int m2]) (by decide +kernel) (by decide +kernel) hb13 (Nat.le_of_ble_eq_true rfl) rfl rfl rfl ?_
              show zP (d + 1) zq_X16_plus_ 120 [(0, .ref a), (1, .ref a), (2, .ref b), (3, .int 0), (4, .int m2), (5, .int y5_76)] [] (zup wL76 a (.inl (11, [.ref (a + 1), .int m2]))) sz 0 0 Post
              obtain ⟨w117, ew117⟩ : ∃ wz9, wz9 = zup wL76 a (.inl (11, [.ref (a + 1), .int m2])) := ⟨_, rfl⟩
              have hsi117 : zSI wL76 w117 := by rw [ew117]; exact zSI.setB hb13
              have heq117 : ∀ x, x ≠ a → w117 x = wL76 x := fun x hx => by rw [ew117]; exact zup_n hx
              have hc117 : w117 a = some (.inl (11, [.ref (a + 1), .int m2])) := by rw [ew117]; exact zup_s
              rw [← ew117]
              clear ew117
              have hb14 := hBo_a.si (((hsiL19.tr hsiL49).tr hsiL76).tr hsi117)
              have hBn9 : zBw w117 a m2.toNatClampNeg (zbA p q) := zBw.mk hb14 hc117 (by omega) (by omega) (fun j hj => (hT j (by omega)).ag (fun x g1 g2 => heq117 x (by omega))) (fun j hj => by rw [zbA_c, zrw_dg p j (by omega), zrw_dg q j (by omega)]; exact zaA_Zr zaZ)
              refine zp_seg (pc' := 121) (lv' := [(0, .ref a), (1, .ref a), (2, .ref b), (3, .int 0), (4, .int m2), (5, .int y5_76)]) (st' := [.ref a]) [(120, .aload_n 0)] (by decide +kernel) rfl ?_
              refine zr_callV (idx := 105) (j := 244) (by decide +kernel) (by decide +kernel) (show zMe 244 = some zq_X12_trim from rfl) rfl rfl (Nat.le_of_ble_eq_true rfl) rfl rfl hc117 (Nat.le_of_ble_eq_true rfl) (Nat.le_of_ble_eq_true rfl) (c_X12_trim (w := w117) a hBn9) (by omega) (fun v121 w121 hp121 => ?_)
              obtain ⟨hsi121, heq121, hp121_0, rfl⟩ := hp121
              show zP _ _ _ _ [] _ _ _ _ _
              have hoffend : ∀ x, (x < a ∨ a + 130 ≤ x) ∧ (x < b ∨ b + 130 ≤ x) → w121 x = w x := fun x hx => ((heq121 x (by omega)).trans ((heq117 x (by omega)).trans ((heqL76 x (by omega)).trans ((heqL49 x (by omega)).trans (heqL19 x (by omega))))))
              have hb15 := hBo_b.si ((((hsiL19.tr hsiL49).tr hsiL76).tr hsi117).tr hsi121)
              have hb16 : w121 b = some (.inl (11, [.ref (b + 1), .int nb])) := ((heq121 b (by omega)).trans ((heq117 b (by omega)).trans ((heqL76 b (by omega)).trans (heqL49 b (by omega))))).trans hb8
              refine zr_retV (by decide +kernel) rfl ?_
              rw [← hPost]; exact ⟨rfl, _, rfl, ((((hsiL19.tr hsiL49).tr hsiL76).tr hsi117).tr hsi121), hoffend, (by first | exact hp121_0 | (have z9 := hp121_0; simpa using z9)), (by
                    exact zB.mk hb15 hb16 hb3 hb4 (fun j hj => (hB1 j (by omega)).ag (fun x g1 g2 => ((heq121 x (by omega)).trans ((heq117 x (by omega)).trans (heqL76 x (by omega))))))), rfl⟩
            ·
              have f17 := znleI cc80
              refine zp_seg (pc' := 84) (lv' := [(0, .ref a), (1, .ref a), (2, .ref b), (3, .int 0), (4, .int m2), (5, .int y5_76)]) (st' := [.ref a]) [(83, .aload_n 0)] (by decide +kernel) rfl ?_
              have hb18 : wL76 a = some (.inl (11, [.ref (a + 1), .int na])) := ((heqL76 a (by omega)).trans ((heqL49 a (by omega)).trans (heqL19 a (by omega)))).trans ha1
              refine zr_get (idx := 98) (k := 0) (v := .ref (a + 1)) (by decide +kernel) (by decide +kernel) hb18 rfl ?_
              refine zp_seg (pc' := 89) (lv' := [(0, .ref a), (1, .ref a), (2, .ref b), (3, .int 0), (4, .int m2), (5, .int y5_76)]) (st' := [.int y5_76, .ref (a + 1)]) [(87, .iload 5)] (by decide +kernel) rfl ?_
              have hb19 : wL76 (a + 1) = some (.inr (4, 64, zbr a)) := ((heqL76 (a + 1) (by omega)).trans ((heqL49 (a + 1) (by omega)).trans (heqL19 (a + 1) (by omega)))).trans ha2
              have hz20 : (y5_76.toNatClampNeg : Int) = y5_76.toInt := znat (by first | omega | decide)
              refine zr_aald (v := .ref (a + 2 + 2 * y5_76.toNatClampNeg)) (by decide +kernel) hb19 (by decide) (zin (by first | omega | decide) (by first | omega | decide)) (zbr_at (by omega)) ?_
              have hb21 := hBo_a.si ((hsiL19.tr hsiL49).tr hsiL76)
              have hrow22 := hb21.rowo (y5_76.toNatClampNeg) (by omega)
              refine zp_seg (pc' := 91) (lv' := [(0, .ref a), (1, .ref a), (2, .ref b), (3, .int 0), (4, .int m2), (5, .int y5_76)]) (st' := [.ref a, .ref (a + 2 + 2 * y5_76.toNatClampNeg)]) [(90, .aload_n 1)] (by decide +kernel) rfl ?_
              refine zr_get (idx := 98) (k := 0) (v := .ref (a + 1)) (by decide +kernel) (by decide +kernel) hb18 rfl ?_
              refine zp_seg (pc' := 96) (lv' := [(0, .ref a), (1, .ref a), (2, .ref b), (3, .int 0), (4, .int m2), (5, .int y5_76)]) (st' := [.int y5_76, .ref (a + 1), .ref (a + 2 + 2 * y5_76.toNatClampNeg)]) [(94, .iload 5)] (by decide +kernel) rfl ?_
              refine zr_aald (v := .ref (a + 2 + 2 * y5_76.toNatClampNeg)) (by decide +kernel) hb19 (by decide) (zin (by first | omega | decide) (by first | omega | decide)) (zbr_at (by omega)) ?_
              refine zp_seg (pc' := 98) (lv' := [(0, .ref a), (1, .ref a), (2, .ref b), (3, .int 0), (4, .int m2), (5, .int y5_76)]) (st' := [.ref b, .ref (a + 2 + 2 * y5_76.toNatClampNeg), .ref (a + 2 + 2 * y5_76.toNatClampNeg)]) [(97, .aload_n 2)] (by decide +kernel) rfl ?_
              have hb23 : wL76 b = some (.inl (11, [.ref (b + 1), .int nb])) := ((heqL76 b (by omega)).trans (heqL49 b (by omega))).trans hb8
              refine zr_get (idx := 98) (k := 0) (v := .ref (b + 1)) (by decide +kernel) (by decide +kernel) hb23 rfl ?_
              refine zp_seg (pc' := 103) (lv' := [(0, .ref a), (1, .ref a), (2, .ref b), (3, .int 0), (4, .int m2), (5, .int y5_76)]) (st' := [.int y5_76, .ref (b + 1), .ref (a + 2 + 2 * y5_76.toNatClampNeg), .ref (a + 2 + 2 * y5_76.toNatClampNeg)]) [(101, .iload 5)] (by decide +kernel) rfl ?_
              have hb24 : wL76 (b + 1) = some (.inr (4, 64, zbr b)) := ((heqL76 (b + 1) (by omega)).trans ((heqL49 (b + 1) (by omega)).trans (heqL19 (b + 1) (by omega)))).trans hb2
              refine zr_aald (v := .ref (b + 2 + 2 * y5_76.toNatClampNeg)) (by decide +kernel) hb24 (by decide) (zin (by first | omega | decide) (by first | omega | decide)) (zbr_at (by omega)) ?_
              refine zp_seg (pc' := 105) (lv' := [(0, .ref a), (1, .ref a), (2, .ref b), (3, .int 0), (4, .int m2), (5, .int y5_76)]) (st' := [.int 0, .ref (b + 2 + 2 * y5_76.toNatClampNeg), .ref (a + 2 + 2 * y5_76.toNatClampNeg), .ref (a + 2 + 2 * y5_76.toNatClampNeg)]) [(104, .iload_n 3)] (by decide +kernel) rfl ?_
              have hUa := hA y5_76.toNatClampNeg (by omega) (by omega)
              have hUb := hB y5_76.toNatClampNeg (by omega) (by omega)
              have hca := hUa.cap
              have hcb := hUb.cap
              have ho105_to := zU.o hUa
              refine zr_callS (idx := 101) (j := 265) (by decide +kernel) (by decide +kernel) (by decide) (show zMe 265 = some zq_X16_plus from rfl) rfl rfl (Nat.le_of_ble_eq_true rfl) rfl rfl (Nat.le_of_ble_eq_true rfl) (Nat.le_of_ble_eq_true rfl) (c_X16_plusA (w := wL76) (a + 2 + 2 * y5_76.toNatClampNeg) (a + 2 + 2 * y5_76.toNatClampNeg) (b + 2 + 2 * y5_76.toNatClampNeg)  ho105_to hUa hUb (by first | omega | decide | assumption) (by first | omega | decide | assumption)) (by omega) (fun v105 w105 hp105 => ?_)
              obtain ⟨hsi105, heq105, hp105_0, rfl⟩ := hp105
              show zP _ _ _ _ [] _ _ _ _ _
              refine zp_seg (pc' := 111) (lv' := [(5, .int (y5_76 + 1)), (0, .ref a), (1, .ref a), (2, .ref b), (3, .int 0), (4, .int m2)]) (st' := []) [(108, .iinc 5 1)] (by decide +kernel) rfl ?_
              have k25 := zaddC y5_76 1 (n := 1) (by decide) (by omega) (by omega)
              generalize ev111 : (y5_76 + 1 : Int32) = v111 at k25 ⊢
              have kv111 := zrng v111
              refine zp_seg (pc' := 76) (lv' := [(5, .int v111), (0, .ref a), (1, .ref a), (2, .ref b), (3, .int 0), (4, .int m2)]) (st' := []) [(111, .goto (-35))] (by decide +kernel) rfl ?_
              have hz26 : (v111.toNatClampNeg : Int) = v111.toInt := znat (by first | omega | decide)
              exact (ih76 w105 v111 (hsiL76.tr hsi105) (fun x hx => ((heq105 x (by omega)).trans (heqL76 x (by omega)))) (by first | assumption | omega | decide) (by first | assumption | omega | decide) (by
                    intro t ht
                    by_cases e : t = y5_76.toNatClampNeg
                    · rw [e]; exact hp105_0
                    · exact (hT t (by omega)).ag (fun x g1 g2 => heq105 x (by omega))) (by
                    exact fun t h1 h2 => (hA t (by omega) h2).ag (fun x g1 g2 => heq105 x (by omega))) (by
                    exact fun t h1 h2 => (hB t (by omega) h2).ag (fun x g1 g2 => heq105 x (by omega))) (by omega)).more (zfa1 rfl (zfa1 rfl (zfa1 rfl (zfa1 rfl (zfa1 rfl (zfa1 rfl (zfa0)))))))
          have hl27 : (0 : Int32).toInt = 0 := by decide
          have hz28 : ((0 : Int32).toNatClampNeg : Int) = 0 := by decide
          exact (hL76 _ wL49 0 zSI.rf (fun _ _ => rfl) (by first | assumption | omega | decide) (by first | assumption | omega | decide) (by
                exact fun t ht => absurd ht (by omega)) (by
                exact fun t h1 h2 => (hA1 t (by omega)).ag (fun x g1 g2 => heqL49 x (by omega))) (by
                exact fun t h1 h2 => hB1 t (by omega)) (Nat.lt_succ_self _)).more (zfa1 rfl (zfa1 rfl (zfa1 rfl (zfa1 rfl (zfa1 rfl (zfa1 rfl (zfa0)))))))
        ·
          have f29 := znleI cc53
          have hz30 : (y5_49.toNatClampNeg : Int) = y5_49.toInt := znat (by first | omega | decide)
          refine zp_seg (pc' := 57) (lv' := [(0, .ref a), (1, .ref a), (2, .ref b), (3, .int 0), (4, .int m2), (5, .int y5_49)]) (st' := [.ref b]) [(56, .aload_n 2)] (by decide +kernel) rfl ?_
          have hb31 : wL49 b = some (.inl (11, [.ref (b + 1), .int nb])) := (heqL49 b (by omega)).trans hb8
          refine zr_get (idx := 98) (k := 0) (v := .ref (b + 1)) (by decide +kernel) (by decide +kernel) hb31 rfl ?_
          refine zp_seg (pc' := 62) (lv' := [(0, .ref a), (1, .ref a), (2, .ref b), (3, .int 0), (4, .int m2), (5, .int y5_49)]) (st' := [.int y5_49, .ref (b + 1)]) [(60, .iload 5)] (by decide +kernel) rfl ?_
          have hb32 : wL49 (b + 1) = some (.inr (4, 64, zbr b)) := ((heqL49 (b + 1) (by omega)).trans (heqL19 (b + 1) (by omega))).trans hb2
          refine zr_aald (v := .ref (b + 2 + 2 * y5_49.toNatClampNeg)) (by decide +kernel) hb32 (by decide) (zin (by first | omega | decide) (by first | omega | decide)) (zbr_at (by omega)) ?_
          have hb33 := hBo_b.si (hsiL19.tr hsiL49)
          have hrow34 := hb33.rowo (y5_49.toNatClampNeg) (by omega)
          refine zp_seg (pc' := 64) (lv' := [(0, .ref a), (1, .ref a), (2, .ref b), (3, .int 0), (4, .int m2), (5, .int y5_49)]) (st' := [.int 0, .ref (b + 2 + 2 * y5_49.toNatClampNeg)]) [(63, .iconst 0)] (by decide +kernel) rfl ?_
          obtain ⟨n35, f36, hu37, hu38⟩ := id hrow34
          have kn35 := zrng n35
          refine zr_put2 (idx := 25) (k := 1) (fs2 := [.ref (b + 2 + 2 * y5_49.toNatClampNeg + 1), .int 0]) (by decide +kernel) (by decide +kernel) hu37 (Nat.le_of_ble_eq_true rfl) rfl rfl rfl ?_
          show zP (d + 1) zq_X16_plus_ 67 [(0, .ref a), (1, .ref a), (2, .ref b), (3, .int 0), (4, .int m2), (5, .int y5_49)] [] (zup wL49 (b + 2 + 2 * y5_49.toNatClampNeg) (.inl (14, [.ref (b + 2 + 2 * y5_49.toNatClampNeg + 1), .int 0]))) sz 0 0 Post
          obtain ⟨w64, ew64⟩ : ∃ wz9, wz9 = zup wL49 (b + 2 + 2 * y5_49.toNatClampNeg) (.inl (14, [.ref (b + 2 + 2 * y5_49.toNatClampNeg + 1), .int 0])) := ⟨_, rfl⟩
          have hsi64 : zSI wL49 w64 := by rw [ew64]; exact zSI.setU hu37
          have heq64 : ∀ x, x ≠ b + 2 + 2 * y5_49.toNatClampNeg → w64 x = wL49 x := fun x hx => by rw [ew64]; exact zup_n hx
          have hc64 : w64 (b + 2 + 2 * y5_49.toNatClampNeg) = some (.inl (14, [.ref (b + 2 + 2 * y5_49.toNatClampNeg + 1), .int 0])) := by rw [ew64]; exact zup_s
          rw [← ew64]
          clear ew64
          refine zp_seg (pc' := 70) (lv' := [(5, .int (y5_49 + 1)), (0, .ref a), (1, .ref a), (2, .ref b), (3, .int 0), (4, .int m2)]) (st' := []) [(67, .iinc 5 1)] (by decide +kernel) rfl ?_
          have k39 := zaddC y5_49 1 (n := 1) (by decide) (by omega) (by omega)
          generalize ev70 : (y5_49 + 1 : Int32) = v70 at k39 ⊢
          have kv70 := zrng v70
          refine zp_seg (pc' := 49) (lv' := [(5, .int v70), (0, .ref a), (1, .ref a), (2, .ref b), (3, .int 0), (4, .int m2)]) (st' := []) [(70, .goto (-21))] (by decide +kernel) rfl ?_
          have hz40 : (v70.toNatClampNeg : Int) = v70.toInt := znat (by first | omega | decide)
          have hb41 : w64 (b + 2 + 2 * y5_49.toNatClampNeg + 1) = some (.inr (0, 200, .inl f36)) := (heq64 (b + 2 + 2 * y5_49.toNatClampNeg + 1) (by omega)).trans hu38
          exact (ih49 w64 v70 (hsiL49.tr hsi64) (fun x hx => ((heq64 x (by omega)).trans (heqL49 x (by omega)))) (by first | assumption | omega | decide) (by first | assumption | omega | decide) (by first | assumption | omega | decide) (by
                intro t ht
                by_cases e : t = y5_49.toNatClampNeg
                · rw [e, zrw_dg q y5_49.toNatClampNeg (by omega)]
                  exact zU.mk0 hc64 hb41
                · exact (hB1 t (by omega)).ag (fun x g1 g2 => heq64 x (by omega))) (by omega)).more (zfa1 rfl (zfa1 rfl (zfa1 rfl (zfa1 rfl (zfa1 rfl (zfa1 rfl (zfa0)))))))
      have hz42 : (nb.toNatClampNeg : Int) = nb.toInt := znat (by first | omega | decide)
      exact (hL49 _ wL19 nb zSI.rf (fun _ _ => rfl) (by first | assumption | omega | decide) (by first | assumption | omega | decide) (by first | assumption | omega | decide) (by
            exact fun t ht => (hb5 t (by omega)).ag (fun x g1 g2 => (heqL19 x (by omega)))) (Nat.lt_succ_self _)).more (zfa1 rfl (zfa1 rfl (zfa1 rfl (zfa1 rfl (zfa1 rfl (zfa1 rfl (zfa0)))))))
    ·
      have f43 := znleI cc23
      have hz44 : (y5_19.toNatClampNeg : Int) = y5_19.toInt := znat (by first | omega | decide)
      refine zp_seg (pc' := 27) (lv' := [(0, .ref a), (1, .ref a), (2, .ref b), (3, .int 0), (4, .int m2), (5, .int y5_19)]) (st' := [.ref a]) [(26, .aload_n 1)] (by decide +kernel) rfl ?_
      have hb45 : wL19 a = some (.inl (11, [.ref (a + 1), .int na])) := (heqL19 a (by omega)).trans ha1
      refine zr_get (idx := 98) (k := 0) (v := .ref (a + 1)) (by decide +kernel) (by decide +kernel) hb45 rfl ?_
      refine zp_seg (pc' := 32) (lv' := [(0, .ref a), (1, .ref a), (2, .ref b), (3, .int 0), (4, .int m2), (5, .int y5_19)]) (st' := [.int y5_19, .ref (a + 1)]) [(30, .iload 5)] (by decide +kernel) rfl ?_
      have hb46 : wL19 (a + 1) = some (.inr (4, 64, zbr a)) := (heqL19 (a + 1) (by omega)).trans ha2
      refine zr_aald (v := .ref (a + 2 + 2 * y5_19.toNatClampNeg)) (by decide +kernel) hb46 (by decide) (zin (by first | omega | decide) (by first | omega | decide)) (zbr_at (by omega)) ?_
      have hb47 := hBo_a.si hsiL19
      have hrow48 := hb47.rowo (y5_19.toNatClampNeg) (by omega)
      refine zp_seg (pc' := 34) (lv' := [(0, .ref a), (1, .ref a), (2, .ref b), (3, .int 0), (4, .int m2), (5, .int y5_19)]) (st' := [.int 0, .ref (a + 2 + 2 * y5_19.toNatClampNeg)]) [(33, .iconst 0)] (by decide +kernel) rfl ?_
      obtain ⟨n49, f50, hu51, hu52⟩ := id hrow48
      have kn49 := zrng n49
      refine zr_put2 (idx := 25) (k := 1) (fs2 := [.ref (a + 2 + 2 * y5_19.toNatClampNeg + 1), .int 0]) (by decide +kernel) (by decide +kernel) hu51 (Nat.le_of_ble_eq_true rfl) rfl rfl rfl ?_
      show zP (d + 1) zq_X16_plus_ 37 [(0, .ref a), (1, .ref a), (2, .ref b), (3, .int 0), (4, .int m2), (5, .int y5_19)] [] (zup wL19 (a + 2 + 2 * y5_19.toNatClampNeg) (.inl (14, [.ref (a + 2 + 2 * y5_19.toNatClampNeg + 1), .int 0]))) sz 0 0 Post
      obtain ⟨w34, ew34⟩ : ∃ wz9, wz9 = zup wL19 (a + 2 + 2 * y5_19.toNatClampNeg) (.inl (14, [.ref (a + 2 + 2 * y5_19.toNatClampNeg + 1), .int 0])) := ⟨_, rfl⟩
      have hsi34 : zSI wL19 w34 := by rw [ew34]; exact zSI.setU hu51
      have heq34 : ∀ x, x ≠ a + 2 + 2 * y5_19.toNatClampNeg → w34 x = wL19 x := fun x hx => by rw [ew34]; exact zup_n hx
      have hc34 : w34 (a + 2 + 2 * y5_19.toNatClampNeg) = some (.inl (14, [.ref (a + 2 + 2 * y5_19.toNatClampNeg + 1), .int 0])) := by rw [ew34]; exact zup_s
      rw [← ew34]
      clear ew34
      refine zp_seg (pc' := 40) (lv' := [(5, .int (y5_19 + 1)), (0, .ref a), (1, .ref a), (2, .ref b), (3, .int 0), (4, .int m2)]) (st' := []) [(37, .iinc 5 1)] (by decide +kernel) rfl ?_
      have k53 := zaddC y5_19 1 (n := 1) (by decide) (by omega) (by omega)
      generalize ev40 : (y5_19 + 1 : Int32) = v40 at k53 ⊢
      have kv40 := zrng v40
      refine zp_seg (pc' := 19) (lv' := [(5, .int v40), (0, .ref a), (1, .ref a), (2, .ref b), (3, .int 0), (4, .int m2)]) (st' := []) [(40, .goto (-21))] (by decide +kernel) rfl ?_
      have hz54 : (v40.toNatClampNeg : Int) = v40.toInt := znat (by first | omega | decide)
      have hb55 : w34 (a + 2 + 2 * y5_19.toNatClampNeg + 1) = some (.inr (0, 200, .inl f50)) := (heq34 (a + 2 + 2 * y5_19.toNatClampNeg + 1) (by omega)).trans hu52
      exact (ih19 w34 v40 (hsiL19.tr hsi34) (fun x hx => ((heq34 x (by omega)).trans (heqL19 x (by omega)))) (by first | assumption | omega | decide) (by first | assumption | omega | decide) (by first | assumption | omega | decide) (by
            intro t ht
            by_cases e : t = y5_19.toNatClampNeg
            · rw [e, zrw_dg p y5_19.toNatClampNeg (by omega)]
              exact zU.mk0 hc34 hb55
            · exact (hA1 t (by omega)).ag (fun x g1 g2 => heq34 x (by omega))) (by omega)).more (zfa1 rfl (zfa1 rfl (zfa1 rfl (zfa1 rfl (zfa1 rfl (zfa1 rfl (zfa0)))))))
  have hz56 : (na.toNatClampNeg : Int) = na.toInt := znat (by first | omega | decide)
  exact (hL19 _ w na zSI.rf (fun _ _ => rfl) (by first | assumption | omega | decide) (by first | assumption | omega | decide) (by first | assumption | omega | decide) (by
        exact fun t ht => ha5 t (by omega)) (Nat.lt_succ_self _)).more (zfa1 rfl (zfa1 rfl (zfa1 rfl (zfa1 rfl (zfa1 rfl (zfa1 rfl (zfa0)))))))

set_option maxHeartbeats 8000000 in
set_option maxRecDepth 100000 in
theorem c_X16_plus_Ab {w : zM} {p q : zA2} (b : Nat) (a : Nat) (hB_a : zB w a p) (hB_b : zB w b q) (hab : a + 130 ≤ b ∨ b + 130 ≤ a) : zCon 3 zq_X16_plus_ [.ref b, .ref a, .ref b, .int 0] w (fun v9 w9' => zSI w w9' ∧ (∀ x, (x < a ∨ a + 130 ≤ x) ∧ (x < b ∨ b + 130 ≤ x) → w9' x = w x) ∧ zB w9' b (zbA p q) ∧ zB w9' a p ∧ v9 = none) := by
  intro d sz hd
  obtain ⟨d, rfl⟩ : ∃ d9, d = d9 + 1 := ⟨d - 1, by omega⟩
  generalize hPost : (fun (r9' : Option (Option Value)) (w9' : zM) (z9 : Nat) => z9 = sz ∧ ∃ v9, r9' = some v9 ∧ (zSI w w9' ∧ (∀ x, (x < a ∨ a + 130 ≤ x) ∧ (x < b ∨ b + 130 ≤ x) → w9' x = w x) ∧ zB w9' b (zbA p q) ∧ zB w9' a p ∧ v9 = none)) = Post
  show zP (d + 1) zq_X16_plus_ 0 [(0, .ref b), (1, .ref a), (2, .ref b), (3, .int 0)] [] w sz 0 0 Post
  obtain ⟨na, ha1, ha2, ha3, ha4, ha5, ha6⟩ := id hB_a
  have kna := zrng na
  obtain ⟨nb, hb1, hb2, hb3, hb4, hb5, hb6⟩ := id hB_b
  have knb := zrng nb
  have hBo_a := hB_a.o
  have hBo_b := hB_b.o
  refine zp_seg (pc' := 1) (lv' := [(0, .ref b), (1, .ref a), (2, .ref b), (3, .int 0)]) (st' := [.ref a]) [(0, .aload_n 1)] (by decide +kernel) rfl ?_
  refine zr_get (idx := 93) (k := 1) (v := .int na) (by decide +kernel) (by decide +kernel) ha1 rfl ?_
  refine zp_seg (pc' := 5) (lv' := [(0, .ref b), (1, .ref a), (2, .ref b), (3, .int 0)]) (st' := [.ref b, .int na]) [(4, .aload_n 2)] (by decide +kernel) rfl ?_
  refine zr_get (idx := 93) (k := 1) (v := .int nb) (by decide +kernel) (by decide +kernel) hb1 rfl ?_
  refine zr_max (idx := 40) (by decide +kernel) (by decide +kernel) (by omega) (Nat.le_of_ble_eq_true rfl) ?_
  have k3 := zrng na
  have k4 := zrng nb
  obtain ⟨m2, em2, hm2⟩ := zmaxI na nb
  rw [← em2]
  have km2 := zrng m2
  refine zp_seg (pc' := 14) (lv' := [(4, .int m2), (0, .ref b), (1, .ref a), (2, .ref b), (3, .int 0)]) (st' := [.ref a]) [(11, .istore 4), (13, .aload_n 1)] (by decide +kernel) rfl ?_
  refine zr_get (idx := 93) (k := 1) (v := .int na) (by decide +kernel) (by decide +kernel) ha1 rfl ?_
  refine zp_seg (pc' := 19) (lv' := [(5, .int na), (4, .int m2), (0, .ref b), (1, .ref a), (2, .ref b), (3, .int 0)]) (st' := []) [(17, .istore 5)] (by decide +kernel) rfl ?_
  have hL19 : ∀ (mm19 : Nat) (wL19 : zM) (y5_19 : Int32), (zSI w wL19) → (∀ x, (x < a + 2 ∨ a + 2 + 128 ≤ x) → wL19 x = w x) → (0 ≤ y5_19.toInt) → ((zrw p : Int) ≤ y5_19.toInt) → (y5_19.toInt ≤ m2.toInt) → (∀ t, t < y5_19.toNatClampNeg → zU wL19 (a + 2 + 2 * t) 200 (p.1 t)) → (2147483647 - y5_19.toInt).toNat < mm19 → zP (d + 1) zq_X16_plus_ 19 [(0, .ref b), (1, .ref a), (2, .ref b), (3, .int 0), (4, .int m2), (5, .int y5_19)] [] wL19 sz 0 0 Post := by
    intro mm19
    induction mm19 with
    | zero => intros; omega
    | succ mm19 ih19 =>
    intro wL19 y5_19 hsiL19 heqL19 hi19_0 hi19_1 hi19_2 hA1 hmu19
    have ky5_19 := zrng y5_19
    refine zp_seg (pc' := 23) (lv' := [(0, .ref b), (1, .ref a), (2, .ref b), (3, .int 0), (4, .int m2), (5, .int y5_19)]) (st' := [.int m2, .int y5_19]) [(19, .iload 5), (21, .iload 4)] (by decide +kernel) rfl ?_
    refine zp_if (i := .if_icmp .ge 20) (c := m2 ≤ y5_19) (t := 43) (e := 26) (lv' := [(0, .ref b), (1, .ref a), (2, .ref b), (3, .int 0), (4, .int m2), (5, .int y5_19)]) (st' := []) (by decide +kernel) rfl (fun cc23 => ?_) (fun cc23 => ?_)
    ·
      have f5 := zleI cc23
      have hz6 : (m2.toNatClampNeg : Int) = m2.toInt := znat (by first | omega | decide)
      have hz7 : (y5_19.toNatClampNeg : Int) = y5_19.toInt := znat (by first | omega | decide)
      refine zp_seg (pc' := 44) (lv' := [(0, .ref b), (1, .ref a), (2, .ref b), (3, .int 0), (4, .int m2), (5, .int y5_19)]) (st' := [.ref b]) [(43, .aload_n 2)] (by decide +kernel) rfl ?_
      have hb8 : wL19 b = some (.inl (11, [.ref (b + 1), .int nb])) := (heqL19 b (by omega)).trans hb1
      refine zr_get (idx := 93) (k := 1) (v := .int nb) (by decide +kernel) (by decide +kernel) hb8 rfl ?_
      refine zp_seg (pc' := 49) (lv' := [(5, .int nb), (0, .ref b), (1, .ref a), (2, .ref b), (3, .int 0), (4, .int m2)]) (st' := []) [(47, .istore 5)] (by decide +kernel) rfl ?_
      have hL49 : ∀ (mm49 : Nat) (wL49 : zM) (y5_49 : Int32), (zSI wL19 wL49) → (∀ x, (x < b + 2 ∨ b + 2 + 128 ≤ x) → wL49 x = wL19 x) → (0 ≤ y5_49.toInt) → ((zrw q : Int) ≤ y5_49.toInt) → (y5_49.toInt ≤ m2.toInt) → (∀ t, t < y5_49.toNatClampNeg → zU wL49 (b + 2 + 2 * t) 200 (q.1 t)) → (2147483647 - y5_49.toInt).toNat < mm49 → zP (d + 1) zq_X16_plus_ 49 [(0, .ref b), (1, .ref a), (2, .ref b), (3, .int 0), (4, .int m2), (5, .int y5_49)] [] wL49 sz 0 0 Post := by
        intro mm49
        induction mm49 with
        | zero => intros; omega
        | succ mm49 ih49 =>
        intro wL49 y5_49 hsiL49 heqL49 hi49_0 hi49_1 hi49_2 hB1 hmu49
        have ky5_49 := zrng y5_49
        refine zp_seg (pc' := 53) (lv' := [(0, .ref b), (1, .ref a), (2, .ref b), (3, .int 0), (4, .int m2), (5, .int y5_49)]) (st' := [.int m2, .int y5_49]) [(49, .iload 5), (51, .iload 4)] (by decide +kernel) rfl ?_
        refine zp_if (i := .if_icmp .ge 20) (c := m2 ≤ y5_49) (t := 73) (e := 56) (lv' := [(0, .ref b), (1, .ref a), (2, .ref b), (3, .int 0), (4, .int m2), (5, .int y5_49)]) (st' := []) (by decide +kernel) rfl (fun cc53 => ?_) (fun cc53 => ?_)
        ·
          have f9 := zleI cc53
          have hz10 : (y5_49.toNatClampNeg : Int) = y5_49.toInt := znat (by first | omega | decide)
          refine zp_seg (pc' := 76) (lv' := [(5, .int 0), (0, .ref b), (1, .ref a), (2, .ref b), (3, .int 0), (4, .int m2)]) (st' := []) [(73, .iconst 0), (74, .istore 5)] (by decide +kernel) rfl ?_
          have hL76 : ∀ (mm76 : Nat) (wL76 : zM) (y5_76 : Int32), (zSI wL49 wL76) → (∀ x, (x < b + 2 ∨ b + 2 + 128 ≤ x) → wL76 x = wL49 x) → (0 ≤ y5_76.toInt) → (y5_76.toInt ≤ m2.toInt) → (∀ t, t < y5_76.toNatClampNeg → zU wL76 (b + 2 + 2 * t) 200 (zaA (p.1 t) (q.1 t))) → (∀ t, y5_76.toNatClampNeg ≤ t → t < m2.toNatClampNeg → zU wL76 (a + 2 + 2 * t) 200 (p.1 t)) → (∀ t, y5_76.toNatClampNeg ≤ t → t < m2.toNatClampNeg → zU wL76 (b + 2 + 2 * t) 200 (q.1 t)) → (2147483647 - y5_76.toInt).toNat < mm76 → zP (d + 1) zq_X16_plus_ 76 [(0, .ref b), (1, .ref a), (2, .ref b), (3, .int 0), (4, .int m2), (5, .int y5_76)] [] wL76 sz 0 0 Post := by
            intro mm76
            induction mm76 with
            | zero => intros; omega
            | succ mm76 ih76 =>
            intro wL76 y5_76 hsiL76 heqL76 hi76_0 hi76_1 hT hA hB hmu76
            have ky5_76 := zrng y5_76
            refine zp_seg (pc' := 80) (lv' := [(0, .ref b), (1, .ref a), (2, .ref b), (3, .int 0), (4, .int m2), (5, .int y5_76)]) (st' := [.int m2, .int y5_76]) [(76, .iload 5), (78, .iload 4)] (by decide +kernel) rfl ?_
            refine zp_if (i := .if_icmp .ge 34) (c := m2 ≤ y5_76) (t := 114) (e := 83) (lv' := [(0, .ref b), (1, .ref a), (2, .ref b), (3, .int 0), (4, .int m2), (5, .int y5_76)]) (st' := []) (by decide +kernel) rfl (fun cc80 => ?_) (fun cc80 => ?_)
            ·
              have f11 := zleI cc80
              have hz12 : (y5_76.toNatClampNeg : Int) = y5_76.toInt := znat (by first | omega | decide)
              refine zp_seg (pc' := 117) (lv' := [(0, .ref b), (1, .ref a), (2, .ref b), (3, .int 0), (4, .int m2), (5, .int y5_76)]) (st' := [.int m2, .ref b]) [(114, .aload_n 0), (115, .iload 4)] (by decide +kernel) rfl ?_
              have hb13 : wL76 b = some (.inl (11, [.ref (b + 1), .int nb])) := ((heqL76 b (by omega)).trans (heqL49 b (by omega))).trans hb8
              refine zr_put2 (idx := 93) (k := 1) (fs2 := [.ref (b + 1), .int m2]) (by decide +kernel) (by decide +kernel) hb13 (Nat.le_of_ble_eq_true rfl) rfl rfl rfl ?_
              show zP (d + 1) zq_X16_plus_ 120 [(0, .ref b), (1, .ref a), (2, .ref b), (3, .int 0), (4, .int m2), (5, .int y5_76)] [] (zup wL76 b (.inl (11, [.ref (b + 1), .int m2]))) sz 0 0 Post
              obtain ⟨w117, ew117⟩ : ∃ wz9, wz9 = zup wL76 b (.inl (11, [.ref (b + 1), .int m2])) := ⟨_, rfl⟩
              have hsi117 : zSI wL76 w117 := by rw [ew117]; exact zSI.setB hb13
              have heq117 : ∀ x, x ≠ b → w117 x = wL76 x := fun x hx => by rw [ew117]; exact zup_n hx
              have hc117 : w117 b = some (.inl (11, [.ref (b + 1), .int m2])) := by rw [ew117]; exact zup_s
              rw [← ew117]
              clear ew117
              have hb14 := hBo_b.si (((hsiL19.tr hsiL49).tr hsiL76).tr hsi117)
              have hBn9 : zBw w117 b m2.toNatClampNeg (zbA p q) := zBw.mk hb14 hc117 (by omega) (by omega) (fun j hj => (hT j (by omega)).ag (fun x g1 g2 => heq117 x (by omega))) (fun j hj => by rw [zbA_c, zrw_dg p j (by omega), zrw_dg q j (by omega)]; exact zaA_Zr zaZ)
              refine zp_seg (pc' := 121) (lv' := [(0, .ref b), (1, .ref a), (2, .ref b), (3, .int 0), (4, .int m2), (5, .int y5_76)]) (st' := [.ref b]) [(120, .aload_n 0)] (by decide +kernel) rfl ?_
              refine zr_callV (idx := 105) (j := 244) (by decide +kernel) (by decide +kernel) (show zMe 244 = some zq_X12_trim from rfl) rfl rfl (Nat.le_of_ble_eq_true rfl) rfl rfl hc117 (Nat.le_of_ble_eq_true rfl) (Nat.le_of_ble_eq_true rfl) (c_X12_trim (w := w117) b hBn9) (by omega) (fun v121 w121 hp121 => ?_)
              obtain ⟨hsi121, heq121, hp121_0, rfl⟩ := hp121
              show zP _ _ _ _ [] _ _ _ _ _
              have hoffend : ∀ x, (x < a ∨ a + 130 ≤ x) ∧ (x < b ∨ b + 130 ≤ x) → w121 x = w x := fun x hx => ((heq121 x (by omega)).trans ((heq117 x (by omega)).trans ((heqL76 x (by omega)).trans ((heqL49 x (by omega)).trans (heqL19 x (by omega))))))
              have hb15 := hBo_a.si ((((hsiL19.tr hsiL49).tr hsiL76).tr hsi117).tr hsi121)
              have hb16 : w121 a = some (.inl (11, [.ref (a + 1), .int na])) := ((heq121 a (by omega)).trans ((heq117 a (by omega)).trans ((heqL76 a (by omega)).trans ((heqL49 a (by omega)).trans (heqL19 a (by omega)))))).trans ha1
              refine zr_retV (by decide +kernel) rfl ?_
              rw [← hPost]; exact ⟨rfl, _, rfl, ((((hsiL19.tr hsiL49).tr hsiL76).tr hsi117).tr hsi121), hoffend, (by first | exact hp121_0 | (have z9 := hp121_0; simpa using z9)), (by
                    exact zB.mk hb15 hb16 ha3 ha4 (fun j hj => (hA1 j (by omega)).ag (fun x g1 g2 => ((heq121 x (by omega)).trans ((heq117 x (by omega)).trans ((heqL76 x (by omega)).trans (heqL49 x (by omega)))))))), rfl⟩
            ·
              have f17 := znleI cc80
              refine zp_seg (pc' := 84) (lv' := [(0, .ref b), (1, .ref a), (2, .ref b), (3, .int 0), (4, .int m2), (5, .int y5_76)]) (st' := [.ref b]) [(83, .aload_n 0)] (by decide +kernel) rfl ?_
              have hb18 : wL76 b = some (.inl (11, [.ref (b + 1), .int nb])) := ((heqL76 b (by omega)).trans (heqL49 b (by omega))).trans hb8
              refine zr_get (idx := 98) (k := 0) (v := .ref (b + 1)) (by decide +kernel) (by decide +kernel) hb18 rfl ?_
              refine zp_seg (pc' := 89) (lv' := [(0, .ref b), (1, .ref a), (2, .ref b), (3, .int 0), (4, .int m2), (5, .int y5_76)]) (st' := [.int y5_76, .ref (b + 1)]) [(87, .iload 5)] (by decide +kernel) rfl ?_
              have hb19 : wL76 (b + 1) = some (.inr (4, 64, zbr b)) := ((heqL76 (b + 1) (by omega)).trans ((heqL49 (b + 1) (by omega)).trans (heqL19 (b + 1) (by omega)))).trans hb2
              have hz20 : (y5_76.toNatClampNeg : Int) = y5_76.toInt := znat (by first | omega | decide)
              refine zr_aald (v := .ref (b + 2 + 2 * y5_76.toNatClampNeg)) (by decide +kernel) hb19 (by decide) (zin (by first | omega | decide) (by first | omega | decide)) (zbr_at (by omega)) ?_
              have hb21 := hBo_b.si ((hsiL19.tr hsiL49).tr hsiL76)
              have hrow22 := hb21.rowo (y5_76.toNatClampNeg) (by omega)
              refine zp_seg (pc' := 91) (lv' := [(0, .ref b), (1, .ref a), (2, .ref b), (3, .int 0), (4, .int m2), (5, .int y5_76)]) (st' := [.ref a, .ref (b + 2 + 2 * y5_76.toNatClampNeg)]) [(90, .aload_n 1)] (by decide +kernel) rfl ?_
              have hb23 : wL76 a = some (.inl (11, [.ref (a + 1), .int na])) := ((heqL76 a (by omega)).trans ((heqL49 a (by omega)).trans (heqL19 a (by omega)))).trans ha1
              refine zr_get (idx := 98) (k := 0) (v := .ref (a + 1)) (by decide +kernel) (by decide +kernel) hb23 rfl ?_
              refine zp_seg (pc' := 96) (lv' := [(0, .ref b), (1, .ref a), (2, .ref b), (3, .int 0), (4, .int m2), (5, .int y5_76)]) (st' := [.int y5_76, .ref (a + 1), .ref (b + 2 + 2 * y5_76.toNatClampNeg)]) [(94, .iload 5)] (by decide +kernel) rfl ?_
              have hb24 : wL76 (a + 1) = some (.inr (4, 64, zbr a)) := ((heqL76 (a + 1) (by omega)).trans ((heqL49 (a + 1) (by omega)).trans (heqL19 (a + 1) (by omega)))).trans ha2
              refine zr_aald (v := .ref (a + 2 + 2 * y5_76.toNatClampNeg)) (by decide +kernel) hb24 (by decide) (zin (by first | omega | decide) (by first | omega | decide)) (zbr_at (by omega)) ?_
              refine zp_seg (pc' := 98) (lv' := [(0, .ref b), (1, .ref a), (2, .ref b), (3, .int 0), (4, .int m2), (5, .int y5_76)]) (st' := [.ref b, .ref (a + 2 + 2 * y5_76.toNatClampNeg), .ref (b + 2 + 2 * y5_76.toNatClampNeg)]) [(97, .aload_n 2)] (by decide +kernel) rfl ?_
              refine zr_get (idx := 98) (k := 0) (v := .ref (b + 1)) (by decide +kernel) (by decide +kernel) hb18 rfl ?_
              refine zp_seg (pc' := 103) (lv' := [(0, .ref b), (1, .ref a), (2, .ref b), (3, .int 0), (4, .int m2), (5, .int y5_76)]) (st' := [.int y5_76, .ref (b + 1), .ref (a + 2 + 2 * y5_76.toNatClampNeg), .ref (b + 2 + 2 * y5_76.toNatClampNeg)]) [(101, .iload 5)] (by decide +kernel) rfl ?_
              refine zr_aald (v := .ref (b + 2 + 2 * y5_76.toNatClampNeg)) (by decide +kernel) hb19 (by decide) (zin (by first | omega | decide) (by first | omega | decide)) (zbr_at (by omega)) ?_
              refine zp_seg (pc' := 105) (lv' := [(0, .ref b), (1, .ref a), (2, .ref b), (3, .int 0), (4, .int m2), (5, .int y5_76)]) (st' := [.int 0, .ref (b + 2 + 2 * y5_76.toNatClampNeg), .ref (a + 2 + 2 * y5_76.toNatClampNeg), .ref (b + 2 + 2 * y5_76.toNatClampNeg)]) [(104, .iload_n 3)] (by decide +kernel) rfl ?_
              have hUa := hA y5_76.toNatClampNeg (by omega) (by omega)
              have hUb := hB y5_76.toNatClampNeg (by omega) (by omega)
              have hca := hUa.cap
              have hcb := hUb.cap
              have ho105_to := zU.o hUb
              refine zr_callS (idx := 101) (j := 265) (by decide +kernel) (by decide +kernel) (by decide) (show zMe 265 = some zq_X16_plus from rfl) rfl rfl (Nat.le_of_ble_eq_true rfl) rfl rfl (Nat.le_of_ble_eq_true rfl) (Nat.le_of_ble_eq_true rfl) (c_X16_plusA (w := wL76) (b + 2 + 2 * y5_76.toNatClampNeg) (a + 2 + 2 * y5_76.toNatClampNeg) (b + 2 + 2 * y5_76.toNatClampNeg)  ho105_to hUa hUb (by first | omega | decide | assumption) (by first | omega | decide | assumption)) (by omega) (fun v105 w105 hp105 => ?_)
              obtain ⟨hsi105, heq105, hp105_0, rfl⟩ := hp105
              show zP _ _ _ _ [] _ _ _ _ _
              refine zp_seg (pc' := 111) (lv' := [(5, .int (y5_76 + 1)), (0, .ref b), (1, .ref a), (2, .ref b), (3, .int 0), (4, .int m2)]) (st' := []) [(108, .iinc 5 1)] (by decide +kernel) rfl ?_
              have k25 := zaddC y5_76 1 (n := 1) (by decide) (by omega) (by omega)
              generalize ev111 : (y5_76 + 1 : Int32) = v111 at k25 ⊢
              have kv111 := zrng v111
              refine zp_seg (pc' := 76) (lv' := [(5, .int v111), (0, .ref b), (1, .ref a), (2, .ref b), (3, .int 0), (4, .int m2)]) (st' := []) [(111, .goto (-35))] (by decide +kernel) rfl ?_
              have hz26 : (v111.toNatClampNeg : Int) = v111.toInt := znat (by first | omega | decide)
              exact (ih76 w105 v111 (hsiL76.tr hsi105) (fun x hx => ((heq105 x (by omega)).trans (heqL76 x (by omega)))) (by first | assumption | omega | decide) (by first | assumption | omega | decide) (by
                    intro t ht
                    by_cases e : t = y5_76.toNatClampNeg
                    · rw [e]; exact hp105_0
                    · exact (hT t (by omega)).ag (fun x g1 g2 => heq105 x (by omega))) (by
                    exact fun t h1 h2 => (hA t (by omega) h2).ag (fun x g1 g2 => heq105 x (by omega))) (by
                    exact fun t h1 h2 => (hB t (by omega) h2).ag (fun x g1 g2 => heq105 x (by omega))) (by omega)).more (zfa1 rfl (zfa1 rfl (zfa1 rfl (zfa1 rfl (zfa1 rfl (zfa1 rfl (zfa0)))))))
          have hl27 : (0 : Int32).toInt = 0 := by decide
          have hz28 : ((0 : Int32).toNatClampNeg : Int) = 0 := by decide
          exact (hL76 _ wL49 0 zSI.rf (fun _ _ => rfl) (by first | assumption | omega | decide) (by first | assumption | omega | decide) (by
                exact fun t ht => absurd ht (by omega)) (by
                exact fun t h1 h2 => (hA1 t (by omega)).ag (fun x g1 g2 => heqL49 x (by omega))) (by
                exact fun t h1 h2 => hB1 t (by omega)) (Nat.lt_succ_self _)).more (zfa1 rfl (zfa1 rfl (zfa1 rfl (zfa1 rfl (zfa1 rfl (zfa1 rfl (zfa0)))))))
        ·
          have f29 := znleI cc53
          have hz30 : (y5_49.toNatClampNeg : Int) = y5_49.toInt := znat (by first | omega | decide)
          refine zp_seg (pc' := 57) (lv' := [(0, .ref b), (1, .ref a), (2, .ref b), (3, .int 0), (4, .int m2), (5, .int y5_49)]) (st' := [.ref b]) [(56, .aload_n 2)] (by decide +kernel) rfl ?_
          have hb31 : wL49 b = some (.inl (11, [.ref (b + 1), .int nb])) := (heqL49 b (by omega)).trans hb8
          refine zr_get (idx := 98) (k := 0) (v := .ref (b + 1)) (by decide +kernel) (by decide +kernel) hb31 rfl ?_
          refine zp_seg (pc' := 62) (lv' := [(0, .ref b), (1, .ref a), (2, .ref b), (3, .int 0), (4, .int m2), (5, .int y5_49)]) (st' := [.int y5_49, .ref (b + 1)]) [(60, .iload 5)] (by decide +kernel) rfl ?_
          have hb32 : wL49 (b + 1) = some (.inr (4, 64, zbr b)) := ((heqL49 (b + 1) (by omega)).trans (heqL19 (b + 1) (by omega))).trans hb2
          refine zr_aald (v := .ref (b + 2 + 2 * y5_49.toNatClampNeg)) (by decide +kernel) hb32 (by decide) (zin (by first | omega | decide) (by first | omega | decide)) (zbr_at (by omega)) ?_
          have hb33 := hBo_b.si (hsiL19.tr hsiL49)
          have hrow34 := hb33.rowo (y5_49.toNatClampNeg) (by omega)
          refine zp_seg (pc' := 64) (lv' := [(0, .ref b), (1, .ref a), (2, .ref b), (3, .int 0), (4, .int m2), (5, .int y5_49)]) (st' := [.int 0, .ref (b + 2 + 2 * y5_49.toNatClampNeg)]) [(63, .iconst 0)] (by decide +kernel) rfl ?_
          obtain ⟨n35, f36, hu37, hu38⟩ := id hrow34
          have kn35 := zrng n35
          refine zr_put2 (idx := 25) (k := 1) (fs2 := [.ref (b + 2 + 2 * y5_49.toNatClampNeg + 1), .int 0]) (by decide +kernel) (by decide +kernel) hu37 (Nat.le_of_ble_eq_true rfl) rfl rfl rfl ?_
          show zP (d + 1) zq_X16_plus_ 67 [(0, .ref b), (1, .ref a), (2, .ref b), (3, .int 0), (4, .int m2), (5, .int y5_49)] [] (zup wL49 (b + 2 + 2 * y5_49.toNatClampNeg) (.inl (14, [.ref (b + 2 + 2 * y5_49.toNatClampNeg + 1), .int 0]))) sz 0 0 Post
          obtain ⟨w64, ew64⟩ : ∃ wz9, wz9 = zup wL49 (b + 2 + 2 * y5_49.toNatClampNeg) (.inl (14, [.ref (b + 2 + 2 * y5_49.toNatClampNeg + 1), .int 0])) := ⟨_, rfl⟩
          have hsi64 : zSI wL49 w64 := by rw [ew64]; exact zSI.setU hu37
          have heq64 : ∀ x, x ≠ b + 2 + 2 * y5_49.toNatClampNeg → w64 x = wL49 x := fun x hx => by rw [ew64]; exact zup_n hx
          have hc64 : w64 (b + 2 + 2 * y5_49.toNatClampNeg) = some (.inl (14, [.ref (b + 2 + 2 * y5_49.toNatClampNeg + 1), .int 0])) := by rw [ew64]; exact zup_s
          rw [← ew64]
          clear ew64
          refine zp_seg (pc' := 70) (lv' := [(5, .int (y5_49 + 1)), (0, .ref b), (1, .ref a), (2, .ref b), (3, .int 0), (4, .int m2)]) (st' := []) [(67, .iinc 5 1)] (by decide +kernel) rfl ?_
          have k39 := zaddC y5_49 1 (n := 1) (by decide) (by omega) (by omega)
          generalize ev70 : (y5_49 + 1 : Int32) = v70 at k39 ⊢
          have kv70 := zrng v70
          refine zp_seg (pc' := 49) (lv' := [(5, .int v70), (0, .ref b), (1, .ref a), (2, .ref b), (3, .int 0), (4, .int m2)]) (st' := []) [(70, .goto (-21))] (by decide +kernel) rfl ?_
          have hz40 : (v70.toNatClampNeg : Int) = v70.toInt := znat (by first | omega | decide)
          have hb41 : w64 (b + 2 + 2 * y5_49.toNatClampNeg + 1) = some (.inr (0, 200, .inl f36)) := (heq64 (b + 2 + 2 * y5_49.toNatClampNeg + 1) (by omega)).trans hu38
          exact (ih49 w64 v70 (hsiL49.tr hsi64) (fun x hx => ((heq64 x (by omega)).trans (heqL49 x (by omega)))) (by first | assumption | omega | decide) (by first | assumption | omega | decide) (by first | assumption | omega | decide) (by
                intro t ht
                by_cases e : t = y5_49.toNatClampNeg
                · rw [e, zrw_dg q y5_49.toNatClampNeg (by omega)]
                  exact zU.mk0 hc64 hb41
                · exact (hB1 t (by omega)).ag (fun x g1 g2 => heq64 x (by omega))) (by omega)).more (zfa1 rfl (zfa1 rfl (zfa1 rfl (zfa1 rfl (zfa1 rfl (zfa1 rfl (zfa0)))))))
      have hz42 : (nb.toNatClampNeg : Int) = nb.toInt := znat (by first | omega | decide)
      exact (hL49 _ wL19 nb zSI.rf (fun _ _ => rfl) (by first | assumption | omega | decide) (by first | assumption | omega | decide) (by first | assumption | omega | decide) (by
            exact fun t ht => (hb5 t (by omega)).ag (fun x g1 g2 => (heqL19 x (by omega)))) (Nat.lt_succ_self _)).more (zfa1 rfl (zfa1 rfl (zfa1 rfl (zfa1 rfl (zfa1 rfl (zfa1 rfl (zfa0)))))))
    ·
      have f43 := znleI cc23
      have hz44 : (y5_19.toNatClampNeg : Int) = y5_19.toInt := znat (by first | omega | decide)
      refine zp_seg (pc' := 27) (lv' := [(0, .ref b), (1, .ref a), (2, .ref b), (3, .int 0), (4, .int m2), (5, .int y5_19)]) (st' := [.ref a]) [(26, .aload_n 1)] (by decide +kernel) rfl ?_
      have hb45 : wL19 a = some (.inl (11, [.ref (a + 1), .int na])) := (heqL19 a (by omega)).trans ha1
      refine zr_get (idx := 98) (k := 0) (v := .ref (a + 1)) (by decide +kernel) (by decide +kernel) hb45 rfl ?_
      refine zp_seg (pc' := 32) (lv' := [(0, .ref b), (1, .ref a), (2, .ref b), (3, .int 0), (4, .int m2), (5, .int y5_19)]) (st' := [.int y5_19, .ref (a + 1)]) [(30, .iload 5)] (by decide +kernel) rfl ?_
      have hb46 : wL19 (a + 1) = some (.inr (4, 64, zbr a)) := (heqL19 (a + 1) (by omega)).trans ha2
      refine zr_aald (v := .ref (a + 2 + 2 * y5_19.toNatClampNeg)) (by decide +kernel) hb46 (by decide) (zin (by first | omega | decide) (by first | omega | decide)) (zbr_at (by omega)) ?_
      have hb47 := hBo_a.si hsiL19
      have hrow48 := hb47.rowo (y5_19.toNatClampNeg) (by omega)
      refine zp_seg (pc' := 34) (lv' := [(0, .ref b), (1, .ref a), (2, .ref b), (3, .int 0), (4, .int m2), (5, .int y5_19)]) (st' := [.int 0, .ref (a + 2 + 2 * y5_19.toNatClampNeg)]) [(33, .iconst 0)] (by decide +kernel) rfl ?_
      obtain ⟨n49, f50, hu51, hu52⟩ := id hrow48
      have kn49 := zrng n49
      refine zr_put2 (idx := 25) (k := 1) (fs2 := [.ref (a + 2 + 2 * y5_19.toNatClampNeg + 1), .int 0]) (by decide +kernel) (by decide +kernel) hu51 (Nat.le_of_ble_eq_true rfl) rfl rfl rfl ?_
      show zP (d + 1) zq_X16_plus_ 37 [(0, .ref b), (1, .ref a), (2, .ref b), (3, .int 0), (4, .int m2), (5, .int y5_19)] [] (zup wL19 (a + 2 + 2 * y5_19.toNatClampNeg) (.inl (14, [.ref (a + 2 + 2 * y5_19.toNatClampNeg + 1), .int 0]))) sz 0 0 Post
      obtain ⟨w34, ew34⟩ : ∃ wz9, wz9 = zup wL19 (a + 2 + 2 * y5_19.toNatClampNeg) (.inl (14, [.ref (a + 2 + 2 * y5_19.toNatClampNeg + 1), .int 0])) := ⟨_, rfl⟩
      have hsi34 : zSI wL19 w34 := by rw [ew34]; exact zSI.setU hu51
      have heq34 : ∀ x, x ≠ a + 2 + 2 * y5_19.toNatClampNeg → w34 x = wL19 x := fun x hx => by rw [ew34]; exact zup_n hx
      have hc34 : w34 (a + 2 + 2 * y5_19.toNatClampNeg) = some (.inl (14, [.ref (a + 2 + 2 * y5_19.toNatClampNeg + 1), .int 0])) := by rw [ew34]; exact zup_s
      rw [← ew34]
      clear ew34
      refine zp_seg (pc' := 40) (lv' := [(5, .int (y5_19 + 1)), (0, .ref b), (1, .ref a), (2, .ref b), (3, .int 0), (4, .int m2)]) (st' := []) [(37, .iinc 5 1)] (by decide +kernel) rfl ?_
      have k53 := zaddC y5_19 1 (n := 1) (by decide) (by omega) (by omega)
      generalize ev40 : (y5_19 + 1 : Int32) = v40 at k53 ⊢
      have kv40 := zrng v40
      refine zp_seg (pc' := 19) (lv' := [(5, .int v40), (0, .ref b), (1, .ref a), (2, .ref b), (3, .int 0), (4, .int m2)]) (st' := []) [(40, .goto (-21))] (by decide +kernel) rfl ?_
      have hz54 : (v40.toNatClampNeg : Int) = v40.toInt := znat (by first | omega | decide)
      have hb55 : w34 (a + 2 + 2 * y5_19.toNatClampNeg + 1) = some (.inr (0, 200, .inl f50)) := (heq34 (a + 2 + 2 * y5_19.toNatClampNeg + 1) (by omega)).trans hu52
      exact (ih19 w34 v40 (hsiL19.tr hsi34) (fun x hx => ((heq34 x (by omega)).trans (heqL19 x (by omega)))) (by first | assumption | omega | decide) (by first | assumption | omega | decide) (by first | assumption | omega | decide) (by
            intro t ht
            by_cases e : t = y5_19.toNatClampNeg
            · rw [e, zrw_dg p y5_19.toNatClampNeg (by omega)]
              exact zU.mk0 hc34 hb55
            · exact (hA1 t (by omega)).ag (fun x g1 g2 => heq34 x (by omega))) (by omega)).more (zfa1 rfl (zfa1 rfl (zfa1 rfl (zfa1 rfl (zfa1 rfl (zfa1 rfl (zfa0)))))))
  have hz56 : (na.toNatClampNeg : Int) = na.toInt := znat (by first | omega | decide)
  exact (hL19 _ w na zSI.rf (fun _ _ => rfl) (by first | assumption | omega | decide) (by first | assumption | omega | decide) (by first | assumption | omega | decide) (by
        exact fun t ht => ha5 t (by omega)) (Nat.lt_succ_self _)).more (zfa1 rfl (zfa1 rfl (zfa1 rfl (zfa1 rfl (zfa1 rfl (zfa1 rfl (zfa0)))))))

set_option maxHeartbeats 8000000 in
set_option maxRecDepth 100000 in
theorem c_X16_plus_SD {w : zM} {p q : zA2} (to : Nat) (a : Nat) (b : Nat) (hBo_to : zBo w to) (hB_a : zB w a p) (hB_b : zB w b q) (hab : a + 130 ≤ b ∨ b + 130 ≤ a) (hta : to + 130 ≤ a ∨ a + 130 ≤ to) (htb : to + 130 ≤ b ∨ b + 130 ≤ to) : zCon 3 zq_X16_plus_ [.ref to, .ref a, .ref b, .int 1] w (fun v9 w9' => zSI w w9' ∧ (∀ x, (x < a ∨ a + 130 ≤ x) ∧ (x < b ∨ b + 130 ≤ x) ∧ (x < to ∨ to + 130 ≤ x) → w9' x = w x) ∧ zB w9' to (zbS p q) ∧ zB w9' a p ∧ zB w9' b q ∧ v9 = none) := by
  intro d sz hd
  obtain ⟨d, rfl⟩ : ∃ d9, d = d9 + 1 := ⟨d - 1, by omega⟩
  generalize hPost : (fun (r9' : Option (Option Value)) (w9' : zM) (z9 : Nat) => z9 = sz ∧ ∃ v9, r9' = some v9 ∧ (zSI w w9' ∧ (∀ x, (x < a ∨ a + 130 ≤ x) ∧ (x < b ∨ b + 130 ≤ x) ∧ (x < to ∨ to + 130 ≤ x) → w9' x = w x) ∧ zB w9' to (zbS p q) ∧ zB w9' a p ∧ zB w9' b q ∧ v9 = none)) = Post
  show zP (d + 1) zq_X16_plus_ 0 [(0, .ref to), (1, .ref a), (2, .ref b), (3, .int 1)] [] w sz 0 0 Post
  obtain ⟨na, ha1, ha2, ha3, ha4, ha5, ha6⟩ := id hB_a
  have kna := zrng na
  obtain ⟨nb, hb1, hb2, hb3, hb4, hb5, hb6⟩ := id hB_b
  have knb := zrng nb
  have hBo_a := hB_a.o
  have hBo_b := hB_b.o
  refine zp_seg (pc' := 1) (lv' := [(0, .ref to), (1, .ref a), (2, .ref b), (3, .int 1)]) (st' := [.ref a]) [(0, .aload_n 1)] (by decide +kernel) rfl ?_
  refine zr_get (idx := 93) (k := 1) (v := .int na) (by decide +kernel) (by decide +kernel) ha1 rfl ?_
  refine zp_seg (pc' := 5) (lv' := [(0, .ref to), (1, .ref a), (2, .ref b), (3, .int 1)]) (st' := [.ref b, .int na]) [(4, .aload_n 2)] (by decide +kernel) rfl ?_
  refine zr_get (idx := 93) (k := 1) (v := .int nb) (by decide +kernel) (by decide +kernel) hb1 rfl ?_
  refine zr_max (idx := 40) (by decide +kernel) (by decide +kernel) (by omega) (Nat.le_of_ble_eq_true rfl) ?_
  have k3 := zrng na
  have k4 := zrng nb
  obtain ⟨m2, em2, hm2⟩ := zmaxI na nb
  rw [← em2]
  have km2 := zrng m2
  refine zp_seg (pc' := 14) (lv' := [(4, .int m2), (0, .ref to), (1, .ref a), (2, .ref b), (3, .int 1)]) (st' := [.ref a]) [(11, .istore 4), (13, .aload_n 1)] (by decide +kernel) rfl ?_
  refine zr_get (idx := 93) (k := 1) (v := .int na) (by decide +kernel) (by decide +kernel) ha1 rfl ?_
  refine zp_seg (pc' := 19) (lv' := [(5, .int na), (4, .int m2), (0, .ref to), (1, .ref a), (2, .ref b), (3, .int 1)]) (st' := []) [(17, .istore 5)] (by decide +kernel) rfl ?_
  have hL19 : ∀ (mm19 : Nat) (wL19 : zM) (y5_19 : Int32), (zSI w wL19) → (∀ x, (x < a + 2 ∨ a + 2 + 128 ≤ x) → wL19 x = w x) → (0 ≤ y5_19.toInt) → ((zrw p : Int) ≤ y5_19.toInt) → (y5_19.toInt ≤ m2.toInt) → (∀ t, t < y5_19.toNatClampNeg → zU wL19 (a + 2 + 2 * t) 200 (p.1 t)) → (2147483647 - y5_19.toInt).toNat < mm19 → zP (d + 1) zq_X16_plus_ 19 [(0, .ref to), (1, .ref a), (2, .ref b), (3, .int 1), (4, .int m2), (5, .int y5_19)] [] wL19 sz 0 0 Post := by
    intro mm19
    induction mm19 with
    | zero => intros; omega
    | succ mm19 ih19 =>
    intro wL19 y5_19 hsiL19 heqL19 hi19_0 hi19_1 hi19_2 hA1 hmu19
    have ky5_19 := zrng y5_19
    refine zp_seg (pc' := 23) (lv' := [(0, .ref to), (1, .ref a), (2, .ref b), (3, .int 1), (4, .int m2), (5, .int y5_19)]) (st' := [.int m2, .int y5_19]) [(19, .iload 5), (21, .iload 4)] (by decide +kernel) rfl ?_
    refine zp_if (i := .if_icmp .ge 20) (c := m2 ≤ y5_19) (t := 43) (e := 26) (lv' := [(0, .ref to), (1, .ref a), (2, .ref b), (3, .int 1), (4, .int m2), (5, .int y5_19)]) (st' := []) (by decide +kernel) rfl (fun cc23 => ?_) (fun cc23 => ?_)
    ·
      have f5 := zleI cc23
      have hz6 : (m2.toNatClampNeg : Int) = m2.toInt := znat (by first | omega | decide)
      have hz7 : (y5_19.toNatClampNeg : Int) = y5_19.toInt := znat (by first | omega | decide)
      refine zp_seg (pc' := 44) (lv' := [(0, .ref to), (1, .ref a), (2, .ref b), (3, .int 1), (4, .int m2), (5, .int y5_19)]) (st' := [.ref b]) [(43, .aload_n 2)] (by decide +kernel) rfl ?_
      have hb8 : wL19 b = some (.inl (11, [.ref (b + 1), .int nb])) := (heqL19 b (by omega)).trans hb1
      refine zr_get (idx := 93) (k := 1) (v := .int nb) (by decide +kernel) (by decide +kernel) hb8 rfl ?_
      refine zp_seg (pc' := 49) (lv' := [(5, .int nb), (0, .ref to), (1, .ref a), (2, .ref b), (3, .int 1), (4, .int m2)]) (st' := []) [(47, .istore 5)] (by decide +kernel) rfl ?_
      have hL49 : ∀ (mm49 : Nat) (wL49 : zM) (y5_49 : Int32), (zSI wL19 wL49) → (∀ x, (x < b + 2 ∨ b + 2 + 128 ≤ x) → wL49 x = wL19 x) → (0 ≤ y5_49.toInt) → ((zrw q : Int) ≤ y5_49.toInt) → (y5_49.toInt ≤ m2.toInt) → (∀ t, t < y5_49.toNatClampNeg → zU wL49 (b + 2 + 2 * t) 200 (q.1 t)) → (2147483647 - y5_49.toInt).toNat < mm49 → zP (d + 1) zq_X16_plus_ 49 [(0, .ref to), (1, .ref a), (2, .ref b), (3, .int 1), (4, .int m2), (5, .int y5_49)] [] wL49 sz 0 0 Post := by
        intro mm49
        induction mm49 with
        | zero => intros; omega
        | succ mm49 ih49 =>
        intro wL49 y5_49 hsiL49 heqL49 hi49_0 hi49_1 hi49_2 hB1 hmu49
        have ky5_49 := zrng y5_49
        refine zp_seg (pc' := 53) (lv' := [(0, .ref to), (1, .ref a), (2, .ref b), (3, .int 1), (4, .int m2), (5, .int y5_49)]) (st' := [.int m2, .int y5_49]) [(49, .iload 5), (51, .iload 4)] (by decide +kernel) rfl ?_
        refine zp_if (i := .if_icmp .ge 20) (c := m2 ≤ y5_49) (t := 73) (e := 56) (lv' := [(0, .ref to), (1, .ref a), (2, .ref b), (3, .int 1), (4, .int m2), (5, .int y5_49)]) (st' := []) (by decide +kernel) rfl (fun cc53 => ?_) (fun cc53 => ?_)
        ·
          have f9 := zleI cc53
          have hz10 : (y5_49.toNatClampNeg : Int) = y5_49.toInt := znat (by first | omega | decide)
          refine zp_seg (pc' := 76) (lv' := [(5, .int 0), (0, .ref to), (1, .ref a), (2, .ref b), (3, .int 1), (4, .int m2)]) (st' := []) [(73, .iconst 0), (74, .istore 5)] (by decide +kernel) rfl ?_
          have hL76 : ∀ (mm76 : Nat) (wL76 : zM) (y5_76 : Int32), (zSI wL49 wL76) → (∀ x, (x < to + 2 ∨ to + 2 + 128 ≤ x) → wL76 x = wL49 x) → (0 ≤ y5_76.toInt) → (y5_76.toInt ≤ m2.toInt) → (∀ t, t < y5_76.toNatClampNeg → zU wL76 (to + 2 + 2 * t) 200 (zaS (p.1 t) (q.1 t))) → (∀ t, y5_76.toNatClampNeg ≤ t → t < m2.toNatClampNeg → zU wL76 (a + 2 + 2 * t) 200 (p.1 t)) → (∀ t, y5_76.toNatClampNeg ≤ t → t < m2.toNatClampNeg → zU wL76 (b + 2 + 2 * t) 200 (q.1 t)) → (2147483647 - y5_76.toInt).toNat < mm76 → zP (d + 1) zq_X16_plus_ 76 [(0, .ref to), (1, .ref a), (2, .ref b), (3, .int 1), (4, .int m2), (5, .int y5_76)] [] wL76 sz 0 0 Post := by
            intro mm76
            induction mm76 with
            | zero => intros; omega
            | succ mm76 ih76 =>
            intro wL76 y5_76 hsiL76 heqL76 hi76_0 hi76_1 hT hA hB hmu76
            have ky5_76 := zrng y5_76
            refine zp_seg (pc' := 80) (lv' := [(0, .ref to), (1, .ref a), (2, .ref b), (3, .int 1), (4, .int m2), (5, .int y5_76)]) (st' := [.int m2, .int y5_76]) [(76, .iload 5), (78, .iload 4)] (by decide +kernel) rfl ?_
            refine zp_if (i := .if_icmp .ge 34) (c := m2 ≤ y5_76) (t := 114) (e := 83) (lv' := [(0, .ref to), (1, .ref a), (2, .ref b), (3, .int 1), (4, .int m2), (5, .int y5_76)]) (st' := []) (by decide +kernel) rfl (fun cc80 => ?_) (fun cc80 => ?_)
            ·
              have f11 := zleI cc80
              have hz12 : (y5_76.toNatClampNeg : Int) = y5_76.toInt := znat (by first | omega | decide)
              refine zp_seg (pc' := 117) (lv' := [(0, .ref to), (1, .ref a), (2, .ref b), (3, .int 1), (4, .int m2), (5, .int y5_76)]) (st' := [.int m2, .ref to]) [(114, .aload_n 0), (115, .iload 4)] (by decide +kernel) rfl ?_
              have hb18 := hBo_to.si ((hsiL19.tr hsiL49).tr hsiL76)
              obtain ⟨n13, hb14, hb15, -⟩ := id hb18
              have kn13 := zrng n13
              refine zr_put2 (idx := 93) (k := 1) (fs2 := [.ref (to + 1), .int m2]) (by decide +kernel) (by decide +kernel) hb14 (Nat.le_of_ble_eq_true rfl) rfl rfl rfl ?_
              show zP (d + 1) zq_X16_plus_ 120 [(0, .ref to), (1, .ref a), (2, .ref b), (3, .int 1), (4, .int m2), (5, .int y5_76)] [] (zup wL76 to (.inl (11, [.ref (to + 1), .int m2]))) sz 0 0 Post
              obtain ⟨w117, ew117⟩ : ∃ wz9, wz9 = zup wL76 to (.inl (11, [.ref (to + 1), .int m2])) := ⟨_, rfl⟩
              have hsi117 : zSI wL76 w117 := by rw [ew117]; exact zSI.setB hb14
              have heq117 : ∀ x, x ≠ to → w117 x = wL76 x := fun x hx => by rw [ew117]; exact zup_n hx
              have hc117 : w117 to = some (.inl (11, [.ref (to + 1), .int m2])) := by rw [ew117]; exact zup_s
              rw [← ew117]
              clear ew117
              have hb19 := hb18.si hsi117
              have hBn9 : zBw w117 to m2.toNatClampNeg (zbS p q) := zBw.mk hb19 hc117 (by omega) (by omega) (fun j hj => (hT j (by omega)).ag (fun x g1 g2 => heq117 x (by omega))) (fun j hj => by rw [zbS_c, zrw_dg p j (by omega), zrw_dg q j (by omega)]; exact zaS_Zr zaZ)
              refine zp_seg (pc' := 121) (lv' := [(0, .ref to), (1, .ref a), (2, .ref b), (3, .int 1), (4, .int m2), (5, .int y5_76)]) (st' := [.ref to]) [(120, .aload_n 0)] (by decide +kernel) rfl ?_
              refine zr_callV (idx := 105) (j := 244) (by decide +kernel) (by decide +kernel) (show zMe 244 = some zq_X12_trim from rfl) rfl rfl (Nat.le_of_ble_eq_true rfl) rfl rfl hc117 (Nat.le_of_ble_eq_true rfl) (Nat.le_of_ble_eq_true rfl) (c_X12_trim (w := w117) to hBn9) (by omega) (fun v121 w121 hp121 => ?_)
              obtain ⟨hsi121, heq121, hp121_0, rfl⟩ := hp121
              show zP _ _ _ _ [] _ _ _ _ _
              have hoffend : ∀ x, (x < a ∨ a + 130 ≤ x) ∧ (x < b ∨ b + 130 ≤ x) ∧ (x < to ∨ to + 130 ≤ x) → w121 x = w x := fun x hx => ((heq121 x (by omega)).trans ((heq117 x (by omega)).trans ((heqL76 x (by omega)).trans ((heqL49 x (by omega)).trans (heqL19 x (by omega))))))
              have hb20 := hBo_a.si ((((hsiL19.tr hsiL49).tr hsiL76).tr hsi117).tr hsi121)
              have hb21 : w121 a = some (.inl (11, [.ref (a + 1), .int na])) := ((heq121 a (by omega)).trans ((heq117 a (by omega)).trans ((heqL76 a (by omega)).trans ((heqL49 a (by omega)).trans (heqL19 a (by omega)))))).trans ha1
              have hb22 := hBo_b.si ((((hsiL19.tr hsiL49).tr hsiL76).tr hsi117).tr hsi121)
              have hb23 : w121 b = some (.inl (11, [.ref (b + 1), .int nb])) := ((heq121 b (by omega)).trans ((heq117 b (by omega)).trans ((heqL76 b (by omega)).trans (heqL49 b (by omega))))).trans hb8
              refine zr_retV (by decide +kernel) rfl ?_
              rw [← hPost]; exact ⟨rfl, _, rfl, ((((hsiL19.tr hsiL49).tr hsiL76).tr hsi117).tr hsi121), hoffend, (by first | exact hp121_0 | (have z9 := hp121_0; simpa using z9)), (by
                    exact zB.mk hb20 hb21 ha3 ha4 (fun j hj => (hA1 j (by omega)).ag (fun x g1 g2 => ((heq121 x (by omega)).trans ((heq117 x (by omega)).trans ((heqL76 x (by omega)).trans (heqL49 x (by omega)))))))), (by
                    exact zB.mk hb22 hb23 hb3 hb4 (fun j hj => (hB1 j (by omega)).ag (fun x g1 g2 => ((heq121 x (by omega)).trans ((heq117 x (by omega)).trans (heqL76 x (by omega))))))), rfl⟩
            ·
              have f24 := znleI cc80
              refine zp_seg (pc' := 84) (lv' := [(0, .ref to), (1, .ref a), (2, .ref b), (3, .int 1), (4, .int m2), (5, .int y5_76)]) (st' := [.ref to]) [(83, .aload_n 0)] (by decide +kernel) rfl ?_
              have hb30 := hBo_to.si ((hsiL19.tr hsiL49).tr hsiL76)
              obtain ⟨n25, hb26, hb27, -⟩ := id hb30
              have kn25 := zrng n25
              refine zr_get (idx := 98) (k := 0) (v := .ref (to + 1)) (by decide +kernel) (by decide +kernel) hb26 rfl ?_
              refine zp_seg (pc' := 89) (lv' := [(0, .ref to), (1, .ref a), (2, .ref b), (3, .int 1), (4, .int m2), (5, .int y5_76)]) (st' := [.int y5_76, .ref (to + 1)]) [(87, .iload 5)] (by decide +kernel) rfl ?_
              have hz31 : (y5_76.toNatClampNeg : Int) = y5_76.toInt := znat (by first | omega | decide)
              refine zr_aald (v := .ref (to + 2 + 2 * y5_76.toNatClampNeg)) (by decide +kernel) hb27 (by decide) (zin (by first | omega | decide) (by first | omega | decide)) (zbr_at (by omega)) ?_
              have hrow32 := hb30.rowo (y5_76.toNatClampNeg) (by omega)
              refine zp_seg (pc' := 91) (lv' := [(0, .ref to), (1, .ref a), (2, .ref b), (3, .int 1), (4, .int m2), (5, .int y5_76)]) (st' := [.ref a, .ref (to + 2 + 2 * y5_76.toNatClampNeg)]) [(90, .aload_n 1)] (by decide +kernel) rfl ?_
              have hb33 : wL76 a = some (.inl (11, [.ref (a + 1), .int na])) := ((heqL76 a (by omega)).trans ((heqL49 a (by omega)).trans (heqL19 a (by omega)))).trans ha1
              refine zr_get (idx := 98) (k := 0) (v := .ref (a + 1)) (by decide +kernel) (by decide +kernel) hb33 rfl ?_
              refine zp_seg (pc' := 96) (lv' := [(0, .ref to), (1, .ref a), (2, .ref b), (3, .int 1), (4, .int m2), (5, .int y5_76)]) (st' := [.int y5_76, .ref (a + 1), .ref (to + 2 + 2 * y5_76.toNatClampNeg)]) [(94, .iload 5)] (by decide +kernel) rfl ?_
              have hb34 : wL76 (a + 1) = some (.inr (4, 64, zbr a)) := ((heqL76 (a + 1) (by omega)).trans ((heqL49 (a + 1) (by omega)).trans (heqL19 (a + 1) (by omega)))).trans ha2
              refine zr_aald (v := .ref (a + 2 + 2 * y5_76.toNatClampNeg)) (by decide +kernel) hb34 (by decide) (zin (by first | omega | decide) (by first | omega | decide)) (zbr_at (by omega)) ?_
              refine zp_seg (pc' := 98) (lv' := [(0, .ref to), (1, .ref a), (2, .ref b), (3, .int 1), (4, .int m2), (5, .int y5_76)]) (st' := [.ref b, .ref (a + 2 + 2 * y5_76.toNatClampNeg), .ref (to + 2 + 2 * y5_76.toNatClampNeg)]) [(97, .aload_n 2)] (by decide +kernel) rfl ?_
              have hb35 : wL76 b = some (.inl (11, [.ref (b + 1), .int nb])) := ((heqL76 b (by omega)).trans (heqL49 b (by omega))).trans hb8
              refine zr_get (idx := 98) (k := 0) (v := .ref (b + 1)) (by decide +kernel) (by decide +kernel) hb35 rfl ?_
              refine zp_seg (pc' := 103) (lv' := [(0, .ref to), (1, .ref a), (2, .ref b), (3, .int 1), (4, .int m2), (5, .int y5_76)]) (st' := [.int y5_76, .ref (b + 1), .ref (a + 2 + 2 * y5_76.toNatClampNeg), .ref (to + 2 + 2 * y5_76.toNatClampNeg)]) [(101, .iload 5)] (by decide +kernel) rfl ?_
              have hb36 : wL76 (b + 1) = some (.inr (4, 64, zbr b)) := ((heqL76 (b + 1) (by omega)).trans ((heqL49 (b + 1) (by omega)).trans (heqL19 (b + 1) (by omega)))).trans hb2
              refine zr_aald (v := .ref (b + 2 + 2 * y5_76.toNatClampNeg)) (by decide +kernel) hb36 (by decide) (zin (by first | omega | decide) (by first | omega | decide)) (zbr_at (by omega)) ?_
              refine zp_seg (pc' := 105) (lv' := [(0, .ref to), (1, .ref a), (2, .ref b), (3, .int 1), (4, .int m2), (5, .int y5_76)]) (st' := [.int 1, .ref (b + 2 + 2 * y5_76.toNatClampNeg), .ref (a + 2 + 2 * y5_76.toNatClampNeg), .ref (to + 2 + 2 * y5_76.toNatClampNeg)]) [(104, .iload_n 3)] (by decide +kernel) rfl ?_
              have hUa := hA y5_76.toNatClampNeg (by omega) (by omega)
              have hUb := hB y5_76.toNatClampNeg (by omega) (by omega)
              have hca := hUa.cap
              have hcb := hUb.cap
              refine zr_callS (idx := 101) (j := 265) (by decide +kernel) (by decide +kernel) (by decide) (show zMe 265 = some zq_X16_plus from rfl) rfl rfl (Nat.le_of_ble_eq_true rfl) rfl rfl (Nat.le_of_ble_eq_true rfl) (Nat.le_of_ble_eq_true rfl) (c_X16_plusS (w := wL76) (to + 2 + 2 * y5_76.toNatClampNeg) (a + 2 + 2 * y5_76.toNatClampNeg) (b + 2 + 2 * y5_76.toNatClampNeg)  hrow32 hUa hUb (by first | omega | decide | assumption) (by first | omega | decide | assumption)) (by omega) (fun v105 w105 hp105 => ?_)
              obtain ⟨hsi105, heq105, hp105_0, rfl⟩ := hp105
              show zP _ _ _ _ [] _ _ _ _ _
              refine zp_seg (pc' := 111) (lv' := [(5, .int (y5_76 + 1)), (0, .ref to), (1, .ref a), (2, .ref b), (3, .int 1), (4, .int m2)]) (st' := []) [(108, .iinc 5 1)] (by decide +kernel) rfl ?_
              have k37 := zaddC y5_76 1 (n := 1) (by decide) (by omega) (by omega)
              generalize ev111 : (y5_76 + 1 : Int32) = v111 at k37 ⊢
              have kv111 := zrng v111
              refine zp_seg (pc' := 76) (lv' := [(5, .int v111), (0, .ref to), (1, .ref a), (2, .ref b), (3, .int 1), (4, .int m2)]) (st' := []) [(111, .goto (-35))] (by decide +kernel) rfl ?_
              have hz38 : (v111.toNatClampNeg : Int) = v111.toInt := znat (by first | omega | decide)
              exact (ih76 w105 v111 (hsiL76.tr hsi105) (fun x hx => ((heq105 x (by omega)).trans (heqL76 x (by omega)))) (by first | assumption | omega | decide) (by first | assumption | omega | decide) (by
                    intro t ht
                    by_cases e : t = y5_76.toNatClampNeg
                    · rw [e]; exact hp105_0
                    · exact (hT t (by omega)).ag (fun x g1 g2 => heq105 x (by omega))) (by
                    exact fun t h1 h2 => (hA t (by omega) h2).ag (fun x g1 g2 => heq105 x (by omega))) (by
                    exact fun t h1 h2 => (hB t (by omega) h2).ag (fun x g1 g2 => heq105 x (by omega))) (by omega)).more (zfa1 rfl (zfa1 rfl (zfa1 rfl (zfa1 rfl (zfa1 rfl (zfa1 rfl (zfa0)))))))
          have hl39 : (0 : Int32).toInt = 0 := by decide
          have hz40 : ((0 : Int32).toNatClampNeg : Int) = 0 := by decide
          exact (hL76 _ wL49 0 zSI.rf (fun _ _ => rfl) (by first | assumption | omega | decide) (by first | assumption | omega | decide) (by
                exact fun t ht => absurd ht (by omega)) (by
                exact fun t h1 h2 => (hA1 t (by omega)).ag (fun x g1 g2 => heqL49 x (by omega))) (by
                exact fun t h1 h2 => hB1 t (by omega)) (Nat.lt_succ_self _)).more (zfa1 rfl (zfa1 rfl (zfa1 rfl (zfa1 rfl (zfa1 rfl (zfa1 rfl (zfa0)))))))
        ·
          have f41 := znleI cc53
          have hz42 : (y5_49.toNatClampNeg : Int) = y5_49.toInt := znat (by first | omega | decide)
          refine zp_seg (pc' := 57) (lv' := [(0, .ref to), (1, .ref a), (2, .ref b), (3, .int 1), (4, .int m2), (5, .int y5_49)]) (st' := [.ref b]) [(56, .aload_n 2)] (by decide +kernel) rfl ?_
          have hb43 : wL49 b = some (.inl (11, [.ref (b + 1), .int nb])) := (heqL49 b (by omega)).trans hb8
          refine zr_get (idx := 98) (k := 0) (v := .ref (b + 1)) (by decide +kernel) (by decide +kernel) hb43 rfl ?_
          refine zp_seg (pc' := 62) (lv' := [(0, .ref to), (1, .ref a), (2, .ref b), (3, .int 1), (4, .int m2), (5, .int y5_49)]) (st' := [.int y5_49, .ref (b + 1)]) [(60, .iload 5)] (by decide +kernel) rfl ?_
          have hb44 : wL49 (b + 1) = some (.inr (4, 64, zbr b)) := ((heqL49 (b + 1) (by omega)).trans (heqL19 (b + 1) (by omega))).trans hb2
          refine zr_aald (v := .ref (b + 2 + 2 * y5_49.toNatClampNeg)) (by decide +kernel) hb44 (by decide) (zin (by first | omega | decide) (by first | omega | decide)) (zbr_at (by omega)) ?_
          have hb45 := hBo_b.si (hsiL19.tr hsiL49)
          have hrow46 := hb45.rowo (y5_49.toNatClampNeg) (by omega)
          refine zp_seg (pc' := 64) (lv' := [(0, .ref to), (1, .ref a), (2, .ref b), (3, .int 1), (4, .int m2), (5, .int y5_49)]) (st' := [.int 0, .ref (b + 2 + 2 * y5_49.toNatClampNeg)]) [(63, .iconst 0)] (by decide +kernel) rfl ?_
          obtain ⟨n47, f48, hu49, hu50⟩ := id hrow46
          have kn47 := zrng n47
          refine zr_put2 (idx := 25) (k := 1) (fs2 := [.ref (b + 2 + 2 * y5_49.toNatClampNeg + 1), .int 0]) (by decide +kernel) (by decide +kernel) hu49 (Nat.le_of_ble_eq_true rfl) rfl rfl rfl ?_
          show zP (d + 1) zq_X16_plus_ 67 [(0, .ref to), (1, .ref a), (2, .ref b), (3, .int 1), (4, .int m2), (5, .int y5_49)] [] (zup wL49 (b + 2 + 2 * y5_49.toNatClampNeg) (.inl (14, [.ref (b + 2 + 2 * y5_49.toNatClampNeg + 1), .int 0]))) sz 0 0 Post
          obtain ⟨w64, ew64⟩ : ∃ wz9, wz9 = zup wL49 (b + 2 + 2 * y5_49.toNatClampNeg) (.inl (14, [.ref (b + 2 + 2 * y5_49.toNatClampNeg + 1), .int 0])) := ⟨_, rfl⟩
          have hsi64 : zSI wL49 w64 := by rw [ew64]; exact zSI.setU hu49
          have heq64 : ∀ x, x ≠ b + 2 + 2 * y5_49.toNatClampNeg → w64 x = wL49 x := fun x hx => by rw [ew64]; exact zup_n hx
          have hc64 : w64 (b + 2 + 2 * y5_49.toNatClampNeg) = some (.inl (14, [.ref (b + 2 + 2 * y5_49.toNatClampNeg + 1), .int 0])) := by rw [ew64]; exact zup_s
          rw [← ew64]
          clear ew64
          refine zp_seg (pc' := 70) (lv' := [(5, .int (y5_49 + 1)), (0, .ref to), (1, .ref a), (2, .ref b), (3, .int 1), (4, .int m2)]) (st' := []) [(67, .iinc 5 1)] (by decide +kernel) rfl ?_
          have k51 := zaddC y5_49 1 (n := 1) (by decide) (by omega) (by omega)
          generalize ev70 : (y5_49 + 1 : Int32) = v70 at k51 ⊢
          have kv70 := zrng v70
          refine zp_seg (pc' := 49) (lv' := [(5, .int v70), (0, .ref to), (1, .ref a), (2, .ref b), (3, .int 1), (4, .int m2)]) (st' := []) [(70, .goto (-21))] (by decide +kernel) rfl ?_
          have hz52 : (v70.toNatClampNeg : Int) = v70.toInt := znat (by first | omega | decide)
          have hb53 : w64 (b + 2 + 2 * y5_49.toNatClampNeg + 1) = some (.inr (0, 200, .inl f48)) := (heq64 (b + 2 + 2 * y5_49.toNatClampNeg + 1) (by omega)).trans hu50
          exact (ih49 w64 v70 (hsiL49.tr hsi64) (fun x hx => ((heq64 x (by omega)).trans (heqL49 x (by omega)))) (by first | assumption | omega | decide) (by first | assumption | omega | decide) (by first | assumption | omega | decide) (by
                intro t ht
                by_cases e : t = y5_49.toNatClampNeg
                · rw [e, zrw_dg q y5_49.toNatClampNeg (by omega)]
                  exact zU.mk0 hc64 hb53
                · exact (hB1 t (by omega)).ag (fun x g1 g2 => heq64 x (by omega))) (by omega)).more (zfa1 rfl (zfa1 rfl (zfa1 rfl (zfa1 rfl (zfa1 rfl (zfa1 rfl (zfa0)))))))
      have hz54 : (nb.toNatClampNeg : Int) = nb.toInt := znat (by first | omega | decide)
      exact (hL49 _ wL19 nb zSI.rf (fun _ _ => rfl) (by first | assumption | omega | decide) (by first | assumption | omega | decide) (by first | assumption | omega | decide) (by
            exact fun t ht => (hb5 t (by omega)).ag (fun x g1 g2 => (heqL19 x (by omega)))) (Nat.lt_succ_self _)).more (zfa1 rfl (zfa1 rfl (zfa1 rfl (zfa1 rfl (zfa1 rfl (zfa1 rfl (zfa0)))))))
    ·
      have f55 := znleI cc23
      have hz56 : (y5_19.toNatClampNeg : Int) = y5_19.toInt := znat (by first | omega | decide)
      refine zp_seg (pc' := 27) (lv' := [(0, .ref to), (1, .ref a), (2, .ref b), (3, .int 1), (4, .int m2), (5, .int y5_19)]) (st' := [.ref a]) [(26, .aload_n 1)] (by decide +kernel) rfl ?_
      have hb57 : wL19 a = some (.inl (11, [.ref (a + 1), .int na])) := (heqL19 a (by omega)).trans ha1
      refine zr_get (idx := 98) (k := 0) (v := .ref (a + 1)) (by decide +kernel) (by decide +kernel) hb57 rfl ?_
      refine zp_seg (pc' := 32) (lv' := [(0, .ref to), (1, .ref a), (2, .ref b), (3, .int 1), (4, .int m2), (5, .int y5_19)]) (st' := [.int y5_19, .ref (a + 1)]) [(30, .iload 5)] (by decide +kernel) rfl ?_
      have hb58 : wL19 (a + 1) = some (.inr (4, 64, zbr a)) := (heqL19 (a + 1) (by omega)).trans ha2
      refine zr_aald (v := .ref (a + 2 + 2 * y5_19.toNatClampNeg)) (by decide +kernel) hb58 (by decide) (zin (by first | omega | decide) (by first | omega | decide)) (zbr_at (by omega)) ?_
      have hb59 := hBo_a.si hsiL19
      have hrow60 := hb59.rowo (y5_19.toNatClampNeg) (by omega)
      refine zp_seg (pc' := 34) (lv' := [(0, .ref to), (1, .ref a), (2, .ref b), (3, .int 1), (4, .int m2), (5, .int y5_19)]) (st' := [.int 0, .ref (a + 2 + 2 * y5_19.toNatClampNeg)]) [(33, .iconst 0)] (by decide +kernel) rfl ?_
      obtain ⟨n61, f62, hu63, hu64⟩ := id hrow60
      have kn61 := zrng n61
      refine zr_put2 (idx := 25) (k := 1) (fs2 := [.ref (a + 2 + 2 * y5_19.toNatClampNeg + 1), .int 0]) (by decide +kernel) (by decide +kernel) hu63 (Nat.le_of_ble_eq_true rfl) rfl rfl rfl ?_
      show zP (d + 1) zq_X16_plus_ 37 [(0, .ref to), (1, .ref a), (2, .ref b), (3, .int 1), (4, .int m2), (5, .int y5_19)] [] (zup wL19 (a + 2 + 2 * y5_19.toNatClampNeg) (.inl (14, [.ref (a + 2 + 2 * y5_19.toNatClampNeg + 1), .int 0]))) sz 0 0 Post
      obtain ⟨w34, ew34⟩ : ∃ wz9, wz9 = zup wL19 (a + 2 + 2 * y5_19.toNatClampNeg) (.inl (14, [.ref (a + 2 + 2 * y5_19.toNatClampNeg + 1), .int 0])) := ⟨_, rfl⟩
      have hsi34 : zSI wL19 w34 := by rw [ew34]; exact zSI.setU hu63
      have heq34 : ∀ x, x ≠ a + 2 + 2 * y5_19.toNatClampNeg → w34 x = wL19 x := fun x hx => by rw [ew34]; exact zup_n hx
      have hc34 : w34 (a + 2 + 2 * y5_19.toNatClampNeg) = some (.inl (14, [.ref (a + 2 + 2 * y5_19.toNatClampNeg + 1), .int 0])) := by rw [ew34]; exact zup_s
      rw [← ew34]
      clear ew34
      refine zp_seg (pc' := 40) (lv' := [(5, .int (y5_19 + 1)), (0, .ref to), (1, .ref a), (2, .ref b), (3, .int 1), (4, .int m2)]) (st' := []) [(37, .iinc 5 1)] (by decide +kernel) rfl ?_
      have k65 := zaddC y5_19 1 (n := 1) (by decide) (by omega) (by omega)
      generalize ev40 : (y5_19 + 1 : Int32) = v40 at k65 ⊢
      have kv40 := zrng v40
      refine zp_seg (pc' := 19) (lv' := [(5, .int v40), (0, .ref to), (1, .ref a), (2, .ref b), (3, .int 1), (4, .int m2)]) (st' := []) [(40, .goto (-21))] (by decide +kernel) rfl ?_
      have hz66 : (v40.toNatClampNeg : Int) = v40.toInt := znat (by first | omega | decide)
      have hb67 : w34 (a + 2 + 2 * y5_19.toNatClampNeg + 1) = some (.inr (0, 200, .inl f62)) := (heq34 (a + 2 + 2 * y5_19.toNatClampNeg + 1) (by omega)).trans hu64
      exact (ih19 w34 v40 (hsiL19.tr hsi34) (fun x hx => ((heq34 x (by omega)).trans (heqL19 x (by omega)))) (by first | assumption | omega | decide) (by first | assumption | omega | decide) (by first | assumption | omega | decide) (by
            intro t ht
            by_cases e : t = y5_19.toNatClampNeg
            · rw [e, zrw_dg p y5_19.toNatClampNeg (by omega)]
              exact zU.mk0 hc34 hb67
            · exact (hA1 t (by omega)).ag (fun x g1 g2 => heq34 x (by omega))) (by omega)).more (zfa1 rfl (zfa1 rfl (zfa1 rfl (zfa1 rfl (zfa1 rfl (zfa1 rfl (zfa0)))))))
  have hz68 : (na.toNatClampNeg : Int) = na.toInt := znat (by first | omega | decide)
  exact (hL19 _ w na zSI.rf (fun _ _ => rfl) (by first | assumption | omega | decide) (by first | assumption | omega | decide) (by first | assumption | omega | decide) (by
        exact fun t ht => ha5 t (by omega)) (Nat.lt_succ_self _)).more (zfa1 rfl (zfa1 rfl (zfa1 rfl (zfa1 rfl (zfa1 rfl (zfa1 rfl (zfa0)))))))

set_option maxHeartbeats 8000000 in
set_option maxRecDepth 100000 in
theorem c_X16_plus_Sa {w : zM} {p q : zA2} (a : Nat) (b : Nat) (hB_a : zB w a p) (hB_b : zB w b q) (hab : a + 130 ≤ b ∨ b + 130 ≤ a) : zCon 3 zq_X16_plus_ [.ref a, .ref a, .ref b, .int 1] w (fun v9 w9' => zSI w w9' ∧ (∀ x, (x < a ∨ a + 130 ≤ x) ∧ (x < b ∨ b + 130 ≤ x) → w9' x = w x) ∧ zB w9' a (zbS p q) ∧ zB w9' b q ∧ v9 = none) := by
  intro d sz hd
  obtain ⟨d, rfl⟩ : ∃ d9, d = d9 + 1 := ⟨d - 1, by omega⟩
  generalize hPost : (fun (r9' : Option (Option Value)) (w9' : zM) (z9 : Nat) => z9 = sz ∧ ∃ v9, r9' = some v9 ∧ (zSI w w9' ∧ (∀ x, (x < a ∨ a + 130 ≤ x) ∧ (x < b ∨ b + 130 ≤ x) → w9' x = w x) ∧ zB w9' a (zbS p q) ∧ zB w9' b q ∧ v9 = none)) = Post
  show zP (d + 1) zq_X16_plus_ 0 [(0, .ref a), (1, .ref a), (2, .ref b), (3, .int 1)] [] w sz 0 0 Post
  obtain ⟨na, ha1, ha2, ha3, ha4, ha5, ha6⟩ := id hB_a
  have kna := zrng na
  obtain ⟨nb, hb1, hb2, hb3, hb4, hb5, hb6⟩ := id hB_b
  have knb := zrng nb
  have hBo_a := hB_a.o
  have hBo_b := hB_b.o
  refine zp_seg (pc' := 1) (lv' := [(0, .ref a), (1, .ref a), (2, .ref b), (3, .int 1)]) (st' := [.ref a]) [(0, .aload_n 1)] (by decide +kernel) rfl ?_
  refine zr_get (idx := 93) (k := 1) (v := .int na) (by decide +kernel) (by decide +kernel) ha1 rfl ?_
  refine zp_seg (pc' := 5) (lv' := [(0, .ref a), (1, .ref a), (2, .ref b), (3, .int 1)]) (st' := [.ref b, .int na]) [(4, .aload_n 2)] (by decide +kernel) rfl ?_
  refine zr_get (idx := 93) (k := 1) (v := .int nb) (by decide +kernel) (by decide +kernel) hb1 rfl ?_
  refine zr_max (idx := 40) (by decide +kernel) (by decide +kernel) (by omega) (Nat.le_of_ble_eq_true rfl) ?_
  have k3 := zrng na
  have k4 := zrng nb
  obtain ⟨m2, em2, hm2⟩ := zmaxI na nb
  rw [← em2]
  have km2 := zrng m2
  refine zp_seg (pc' := 14) (lv' := [(4, .int m2), (0, .ref a), (1, .ref a), (2, .ref b), (3, .int 1)]) (st' := [.ref a]) [(11, .istore 4), (13, .aload_n 1)] (by decide +kernel) rfl ?_
  refine zr_get (idx := 93) (k := 1) (v := .int na) (by decide +kernel) (by decide +kernel) ha1 rfl ?_
  refine zp_seg (pc' := 19) (lv' := [(5, .int na), (4, .int m2), (0, .ref a), (1, .ref a), (2, .ref b), (3, .int 1)]) (st' := []) [(17, .istore 5)] (by decide +kernel) rfl ?_
  have hL19 : ∀ (mm19 : Nat) (wL19 : zM) (y5_19 : Int32), (zSI w wL19) → (∀ x, (x < a + 2 ∨ a + 2 + 128 ≤ x) → wL19 x = w x) → (0 ≤ y5_19.toInt) → ((zrw p : Int) ≤ y5_19.toInt) → (y5_19.toInt ≤ m2.toInt) → (∀ t, t < y5_19.toNatClampNeg → zU wL19 (a + 2 + 2 * t) 200 (p.1 t)) → (2147483647 - y5_19.toInt).toNat < mm19 → zP (d + 1) zq_X16_plus_ 19 [(0, .ref a), (1, .ref a), (2, .ref b), (3, .int 1), (4, .int m2), (5, .int y5_19)] [] wL19 sz 0 0 Post := by
    intro mm19
    induction mm19 with
    | zero => intros; omega
    | succ mm19 ih19 =>
    intro wL19 y5_19 hsiL19 heqL19 hi19_0 hi19_1 hi19_2 hA1 hmu19
    have ky5_19 := zrng y5_19
    refine zp_seg (pc' := 23) (lv' := [(0, .ref a), (1, .ref a), (2, .ref b), (3, .int 1), (4, .int m2), (5, .int y5_19)]) (st' := [.int m2, .int y5_19]) [(19, .iload 5), (21, .iload 4)] (by decide +kernel) rfl ?_
    refine zp_if (i := .if_icmp .ge 20) (c := m2 ≤ y5_19) (t := 43) (e := 26) (lv' := [(0, .ref a), (1, .ref a), (2, .ref b), (3, .int 1), (4, .int m2), (5, .int y5_19)]) (st' := []) (by decide +kernel) rfl (fun cc23 => ?_) (fun cc23 => ?_)
    ·
      have f5 := zleI cc23
      have hz6 : (m2.toNatClampNeg : Int) = m2.toInt := znat (by first | omega | decide)
      have hz7 : (y5_19.toNatClampNeg : Int) = y5_19.toInt := znat (by first | omega | decide)
      refine zp_seg (pc' := 44) (lv' := [(0, .ref a), (1, .ref a), (2, .ref b), (3, .int 1), (4, .int m2), (5, .int y5_19)]) (st' := [.ref b]) [(43, .aload_n 2)] (by decide +kernel) rfl ?_
      have hb8 : wL19 b = some (.inl (11, [.ref (b + 1), .int nb])) := (heqL19 b (by omega)).trans hb1
      refine zr_get (idx := 93) (k := 1) (v := .int nb) (by decide +kernel) (by decide +kernel) hb8 rfl ?_
      refine zp_seg (pc' := 49) (lv' := [(5, .int nb), (0, .ref a), (1, .ref a), (2, .ref b), (3, .int 1), (4, .int m2)]) (st' := []) [(47, .istore 5)] (by decide +kernel) rfl ?_
      have hL49 : ∀ (mm49 : Nat) (wL49 : zM) (y5_49 : Int32), (zSI wL19 wL49) → (∀ x, (x < b + 2 ∨ b + 2 + 128 ≤ x) → wL49 x = wL19 x) → (0 ≤ y5_49.toInt) → ((zrw q : Int) ≤ y5_49.toInt) → (y5_49.toInt ≤ m2.toInt) → (∀ t, t < y5_49.toNatClampNeg → zU wL49 (b + 2 + 2 * t) 200 (q.1 t)) → (2147483647 - y5_49.toInt).toNat < mm49 → zP (d + 1) zq_X16_plus_ 49 [(0, .ref a), (1, .ref a), (2, .ref b), (3, .int 1), (4, .int m2), (5, .int y5_49)] [] wL49 sz 0 0 Post := by
        intro mm49
        induction mm49 with
        | zero => intros; omega
        | succ mm49 ih49 =>
        intro wL49 y5_49 hsiL49 heqL49 hi49_0 hi49_1 hi49_2 hB1 hmu49
        have ky5_49 := zrng y5_49
        refine zp_seg (pc' := 53) (lv' := [(0, .ref a), (1, .ref a), (2, .ref b), (3, .int 1), (4, .int m2), (5, .int y5_49)]) (st' := [.int m2, .int y5_49]) [(49, .iload 5), (51, .iload 4)] (by decide +kernel) rfl ?_
        refine zp_if (i := .if_icmp .ge 20) (c := m2 ≤ y5_49) (t := 73) (e := 56) (lv' := [(0, .ref a), (1, .ref a), (2, .ref b), (3, .int 1), (4, .int m2), (5, .int y5_49)]) (st' := []) (by decide +kernel) rfl (fun cc53 => ?_) (fun cc53 => ?_)
        ·
          have f9 := zleI cc53
          have hz10 : (y5_49.toNatClampNeg : Int) = y5_49.toInt := znat (by first | omega | decide)
          refine zp_seg (pc' := 76) (lv' := [(5, .int 0), (0, .ref a), (1, .ref a), (2, .ref b), (3, .int 1), (4, .int m2)]) (st' := []) [(73, .iconst 0), (74, .istore 5)] (by decide +kernel) rfl ?_
          have hL76 : ∀ (mm76 : Nat) (wL76 : zM) (y5_76 : Int32), (zSI wL49 wL76) → (∀ x, (x < a + 2 ∨ a + 2 + 128 ≤ x) → wL76 x = wL49 x) → (0 ≤ y5_76.toInt) → (y5_76.toInt ≤ m2.toInt) → (∀ t, t < y5_76.toNatClampNeg → zU wL76 (a + 2 + 2 * t) 200 (zaS (p.1 t) (q.1 t))) → (∀ t, y5_76.toNatClampNeg ≤ t → t < m2.toNatClampNeg → zU wL76 (a + 2 + 2 * t) 200 (p.1 t)) → (∀ t, y5_76.toNatClampNeg ≤ t → t < m2.toNatClampNeg → zU wL76 (b + 2 + 2 * t) 200 (q.1 t)) → (2147483647 - y5_76.toInt).toNat < mm76 → zP (d + 1) zq_X16_plus_ 76 [(0, .ref a), (1, .ref a), (2, .ref b), (3, .int 1), (4, .int m2), (5, .int y5_76)] [] wL76 sz 0 0 Post := by
            intro mm76
            induction mm76 with
            | zero => intros; omega
            | succ mm76 ih76 =>
            intro wL76 y5_76 hsiL76 heqL76 hi76_0 hi76_1 hT hA hB hmu76
            have ky5_76 := zrng y5_76
            refine zp_seg (pc' := 80) (lv' := [(0, .ref a), (1, .ref a), (2, .ref b), (3, .int 1), (4, .int m2), (5, .int y5_76)]) (st' := [.int m2, .int y5_76]) [(76, .iload 5), (78, .iload 4)] (by decide +kernel) rfl ?_
            refine zp_if (i := .if_icmp .ge 34) (c := m2 ≤ y5_76) (t := 114) (e := 83) (lv' := [(0, .ref a), (1, .ref a), (2, .ref b), (3, .int 1), (4, .int m2), (5, .int y5_76)]) (st' := []) (by decide +kernel) rfl (fun cc80 => ?_) (fun cc80 => ?_)
            ·
              have f11 := zleI cc80
              have hz12 : (y5_76.toNatClampNeg : Int) = y5_76.toInt := znat (by first | omega | decide)
              refine zp_seg (pc' := 117) (lv' := [(0, .ref a), (1, .ref a), (2, .ref b), (3, .int 1), (4, .int m2), (5, .int y5_76)]) (st' := [.int m2, .ref a]) [(114, .aload_n 0), (115, .iload 4)] (by decide +kernel) rfl ?_
              have hb13 : wL76 a = some (.inl (11, [.ref (a + 1), .int na])) := ((heqL76 a (by omega)).trans ((heqL49 a (by omega)).trans (heqL19 a (by omega)))).trans ha1
              refine zr_put2 (idx := 93) (k := 1) (fs2 := [.ref (a + 1), .int m2]) (by decide +kernel) (by decide +kernel) hb13 (Nat.le_of_ble_eq_true rfl) rfl rfl rfl ?_
              show zP (d + 1) zq_X16_plus_ 120 [(0, .ref a), (1, .ref a), (2, .ref b), (3, .int 1), (4, .int m2), (5, .int y5_76)] [] (zup wL76 a (.inl (11, [.ref (a + 1), .int m2]))) sz 0 0 Post
              obtain ⟨w117, ew117⟩ : ∃ wz9, wz9 = zup wL76 a (.inl (11, [.ref (a + 1), .int m2])) := ⟨_, rfl⟩
              have hsi117 : zSI wL76 w117 := by rw [ew117]; exact zSI.setB hb13
              have heq117 : ∀ x, x ≠ a → w117 x = wL76 x := fun x hx => by rw [ew117]; exact zup_n hx
              have hc117 : w117 a = some (.inl (11, [.ref (a + 1), .int m2])) := by rw [ew117]; exact zup_s
              rw [← ew117]
              clear ew117
              have hb14 := hBo_a.si (((hsiL19.tr hsiL49).tr hsiL76).tr hsi117)
              have hBn9 : zBw w117 a m2.toNatClampNeg (zbS p q) := zBw.mk hb14 hc117 (by omega) (by omega) (fun j hj => (hT j (by omega)).ag (fun x g1 g2 => heq117 x (by omega))) (fun j hj => by rw [zbS_c, zrw_dg p j (by omega), zrw_dg q j (by omega)]; exact zaS_Zr zaZ)
              refine zp_seg (pc' := 121) (lv' := [(0, .ref a), (1, .ref a), (2, .ref b), (3, .int 1), (4, .int m2), (5, .int y5_76)]) (st' := [.ref a]) [(120, .aload_n 0)] (by decide +kernel) rfl ?_
              refine zr_callV (idx := 105) (j := 244) (by decide +kernel) (by decide +kernel) (show zMe 244 = some zq_X12_trim from rfl) rfl rfl (Nat.le_of_ble_eq_true rfl) rfl rfl hc117 (Nat.le_of_ble_eq_true rfl) (Nat.le_of_ble_eq_true rfl) (c_X12_trim (w := w117) a hBn9) (by omega) (fun v121 w121 hp121 => ?_)
              obtain ⟨hsi121, heq121, hp121_0, rfl⟩ := hp121
              show zP _ _ _ _ [] _ _ _ _ _
              have hoffend : ∀ x, (x < a ∨ a + 130 ≤ x) ∧ (x < b ∨ b + 130 ≤ x) → w121 x = w x := fun x hx => ((heq121 x (by omega)).trans ((heq117 x (by omega)).trans ((heqL76 x (by omega)).trans ((heqL49 x (by omega)).trans (heqL19 x (by omega))))))
              have hb15 := hBo_b.si ((((hsiL19.tr hsiL49).tr hsiL76).tr hsi117).tr hsi121)
              have hb16 : w121 b = some (.inl (11, [.ref (b + 1), .int nb])) := ((heq121 b (by omega)).trans ((heq117 b (by omega)).trans ((heqL76 b (by omega)).trans (heqL49 b (by omega))))).trans hb8
              refine zr_retV (by decide +kernel) rfl ?_
              rw [← hPost]; exact ⟨rfl, _, rfl, ((((hsiL19.tr hsiL49).tr hsiL76).tr hsi117).tr hsi121), hoffend, (by first | exact hp121_0 | (have z9 := hp121_0; simpa using z9)), (by
                    exact zB.mk hb15 hb16 hb3 hb4 (fun j hj => (hB1 j (by omega)).ag (fun x g1 g2 => ((heq121 x (by omega)).trans ((heq117 x (by omega)).trans (heqL76 x (by omega))))))), rfl⟩
            ·
              have f17 := znleI cc80
              refine zp_seg (pc' := 84) (lv' := [(0, .ref a), (1, .ref a), (2, .ref b), (3, .int 1), (4, .int m2), (5, .int y5_76)]) (st' := [.ref a]) [(83, .aload_n 0)] (by decide +kernel) rfl ?_
              have hb18 : wL76 a = some (.inl (11, [.ref (a + 1), .int na])) := ((heqL76 a (by omega)).trans ((heqL49 a (by omega)).trans (heqL19 a (by omega)))).trans ha1
              refine zr_get (idx := 98) (k := 0) (v := .ref (a + 1)) (by decide +kernel) (by decide +kernel) hb18 rfl ?_
              refine zp_seg (pc' := 89) (lv' := [(0, .ref a), (1, .ref a), (2, .ref b), (3, .int 1), (4, .int m2), (5, .int y5_76)]) (st' := [.int y5_76, .ref (a + 1)]) [(87, .iload 5)] (by decide +kernel) rfl ?_
              have hb19 : wL76 (a + 1) = some (.inr (4, 64, zbr a)) := ((heqL76 (a + 1) (by omega)).trans ((heqL49 (a + 1) (by omega)).trans (heqL19 (a + 1) (by omega)))).trans ha2
              have hz20 : (y5_76.toNatClampNeg : Int) = y5_76.toInt := znat (by first | omega | decide)
              refine zr_aald (v := .ref (a + 2 + 2 * y5_76.toNatClampNeg)) (by decide +kernel) hb19 (by decide) (zin (by first | omega | decide) (by first | omega | decide)) (zbr_at (by omega)) ?_
              have hb21 := hBo_a.si ((hsiL19.tr hsiL49).tr hsiL76)
              have hrow22 := hb21.rowo (y5_76.toNatClampNeg) (by omega)
              refine zp_seg (pc' := 91) (lv' := [(0, .ref a), (1, .ref a), (2, .ref b), (3, .int 1), (4, .int m2), (5, .int y5_76)]) (st' := [.ref a, .ref (a + 2 + 2 * y5_76.toNatClampNeg)]) [(90, .aload_n 1)] (by decide +kernel) rfl ?_
              refine zr_get (idx := 98) (k := 0) (v := .ref (a + 1)) (by decide +kernel) (by decide +kernel) hb18 rfl ?_
              refine zp_seg (pc' := 96) (lv' := [(0, .ref a), (1, .ref a), (2, .ref b), (3, .int 1), (4, .int m2), (5, .int y5_76)]) (st' := [.int y5_76, .ref (a + 1), .ref (a + 2 + 2 * y5_76.toNatClampNeg)]) [(94, .iload 5)] (by decide +kernel) rfl ?_
              refine zr_aald (v := .ref (a + 2 + 2 * y5_76.toNatClampNeg)) (by decide +kernel) hb19 (by decide) (zin (by first | omega | decide) (by first | omega | decide)) (zbr_at (by omega)) ?_
              refine zp_seg (pc' := 98) (lv' := [(0, .ref a), (1, .ref a), (2, .ref b), (3, .int 1), (4, .int m2), (5, .int y5_76)]) (st' := [.ref b, .ref (a + 2 + 2 * y5_76.toNatClampNeg), .ref (a + 2 + 2 * y5_76.toNatClampNeg)]) [(97, .aload_n 2)] (by decide +kernel) rfl ?_
              have hb23 : wL76 b = some (.inl (11, [.ref (b + 1), .int nb])) := ((heqL76 b (by omega)).trans (heqL49 b (by omega))).trans hb8
              refine zr_get (idx := 98) (k := 0) (v := .ref (b + 1)) (by decide +kernel) (by decide +kernel) hb23 rfl ?_
              refine zp_seg (pc' := 103) (lv' := [(0, .ref a), (1, .ref a), (2, .ref b), (3, .int 1), (4, .int m2), (5, .int y5_76)]) (st' := [.int y5_76, .ref (b + 1), .ref (a + 2 + 2 * y5_76.toNatClampNeg), .ref (a + 2 + 2 * y5_76.toNatClampNeg)]) [(101, .iload 5)] (by decide +kernel) rfl ?_
              have hb24 : wL76 (b + 1) = some (.inr (4, 64, zbr b)) := ((heqL76 (b + 1) (by omega)).trans ((heqL49 (b + 1) (by omega)).trans (heqL19 (b + 1) (by omega)))).trans hb2
              refine zr_aald (v := .ref (b + 2 + 2 * y5_76.toNatClampNeg)) (by decide +kernel) hb24 (by decide) (zin (by first | omega | decide) (by first | omega | decide)) (zbr_at (by omega)) ?_
              refine zp_seg (pc' := 105) (lv' := [(0, .ref a), (1, .ref a), (2, .ref b), (3, .int 1), (4, .int m2), (5, .int y5_76)]) (st' := [.int 1, .ref (b + 2 + 2 * y5_76.toNatClampNeg), .ref (a + 2 + 2 * y5_76.toNatClampNeg), .ref (a + 2 + 2 * y5_76.toNatClampNeg)]) [(104, .iload_n 3)] (by decide +kernel) rfl ?_
              have hUa := hA y5_76.toNatClampNeg (by omega) (by omega)
              have hUb := hB y5_76.toNatClampNeg (by omega) (by omega)
              have hca := hUa.cap
              have hcb := hUb.cap
              have ho105_to := zU.o hUa
              refine zr_callS (idx := 101) (j := 265) (by decide +kernel) (by decide +kernel) (by decide) (show zMe 265 = some zq_X16_plus from rfl) rfl rfl (Nat.le_of_ble_eq_true rfl) rfl rfl (Nat.le_of_ble_eq_true rfl) (Nat.le_of_ble_eq_true rfl) (c_X16_plusS (w := wL76) (a + 2 + 2 * y5_76.toNatClampNeg) (a + 2 + 2 * y5_76.toNatClampNeg) (b + 2 + 2 * y5_76.toNatClampNeg)  ho105_to hUa hUb (by first | omega | decide | assumption) (by first | omega | decide | assumption)) (by omega) (fun v105 w105 hp105 => ?_)
              obtain ⟨hsi105, heq105, hp105_0, rfl⟩ := hp105
              show zP _ _ _ _ [] _ _ _ _ _
              refine zp_seg (pc' := 111) (lv' := [(5, .int (y5_76 + 1)), (0, .ref a), (1, .ref a), (2, .ref b), (3, .int 1), (4, .int m2)]) (st' := []) [(108, .iinc 5 1)] (by decide +kernel) rfl ?_
              have k25 := zaddC y5_76 1 (n := 1) (by decide) (by omega) (by omega)
              generalize ev111 : (y5_76 + 1 : Int32) = v111 at k25 ⊢
              have kv111 := zrng v111
              refine zp_seg (pc' := 76) (lv' := [(5, .int v111), (0, .ref a), (1, .ref a), (2, .ref b), (3, .int 1), (4, .int m2)]) (st' := []) [(111, .goto (-35))] (by decide +kernel) rfl ?_
              have hz26 : (v111.toNatClampNeg : Int) = v111.toInt := znat (by first | omega | decide)
              exact (ih76 w105 v111 (hsiL76.tr hsi105) (fun x hx => ((heq105 x (by omega)).trans (heqL76 x (by omega)))) (by first | assumption | omega | decide) (by first | assumption | omega | decide) (by
                    intro t ht
                    by_cases e : t = y5_76.toNatClampNeg
                    · rw [e]; exact hp105_0
                    · exact (hT t (by omega)).ag (fun x g1 g2 => heq105 x (by omega))) (by
                    exact fun t h1 h2 => (hA t (by omega) h2).ag (fun x g1 g2 => heq105 x (by omega))) (by
                    exact fun t h1 h2 => (hB t (by omega) h2).ag (fun x g1 g2 => heq105 x (by omega))) (by omega)).more (zfa1 rfl (zfa1 rfl (zfa1 rfl (zfa1 rfl (zfa1 rfl (zfa1 rfl (zfa0)))))))
          have hl27 : (0 : Int32).toInt = 0 := by decide
          have hz28 : ((0 : Int32).toNatClampNeg : Int) = 0 := by decide
          exact (hL76 _ wL49 0 zSI.rf (fun _ _ => rfl) (by first | assumption | omega | decide) (by first | assumption | omega | decide) (by
                exact fun t ht => absurd ht (by omega)) (by
                exact fun t h1 h2 => (hA1 t (by omega)).ag (fun x g1 g2 => heqL49 x (by omega))) (by
                exact fun t h1 h2 => hB1 t (by omega)) (Nat.lt_succ_self _)).more (zfa1 rfl (zfa1 rfl (zfa1 rfl (zfa1 rfl (zfa1 rfl (zfa1 rfl (zfa0)))))))
        ·
          have f29 := znleI cc53
          have hz30 : (y5_49.toNatClampNeg : Int) = y5_49.toInt := znat (by first | omega | decide)
          refine zp_seg (pc' := 57) (lv' := [(0, .ref a), (1, .ref a), (2, .ref b), (3, .int 1), (4, .int m2), (5, .int y5_49)]) (st' := [.ref b]) [(56, .aload_n 2)] (by decide +kernel) rfl ?_
          have hb31 : wL49 b = some (.inl (11, [.ref (b + 1), .int nb])) := (heqL49 b (by omega)).trans hb8
          refine zr_get (idx := 98) (k := 0) (v := .ref (b + 1)) (by decide +kernel) (by decide +kernel) hb31 rfl ?_
          refine zp_seg (pc' := 62) (lv' := [(0, .ref a), (1, .ref a), (2, .ref b), (3, .int 1), (4, .int m2), (5, .int y5_49)]) (st' := [.int y5_49, .ref (b + 1)]) [(60, .iload 5)] (by decide +kernel) rfl ?_
          have hb32 : wL49 (b + 1) = some (.inr (4, 64, zbr b)) := ((heqL49 (b + 1) (by omega)).trans (heqL19 (b + 1) (by omega))).trans hb2
          refine zr_aald (v := .ref (b + 2 + 2 * y5_49.toNatClampNeg)) (by decide +kernel) hb32 (by decide) (zin (by first | omega | decide) (by first | omega | decide)) (zbr_at (by omega)) ?_
          have hb33 := hBo_b.si (hsiL19.tr hsiL49)
          have hrow34 := hb33.rowo (y5_49.toNatClampNeg) (by omega)
          refine zp_seg (pc' := 64) (lv' := [(0, .ref a), (1, .ref a), (2, .ref b), (3, .int 1), (4, .int m2), (5, .int y5_49)]) (st' := [.int 0, .ref (b + 2 + 2 * y5_49.toNatClampNeg)]) [(63, .iconst 0)] (by decide +kernel) rfl ?_
          obtain ⟨n35, f36, hu37, hu38⟩ := id hrow34
          have kn35 := zrng n35
          refine zr_put2 (idx := 25) (k := 1) (fs2 := [.ref (b + 2 + 2 * y5_49.toNatClampNeg + 1), .int 0]) (by decide +kernel) (by decide +kernel) hu37 (Nat.le_of_ble_eq_true rfl) rfl rfl rfl ?_
          show zP (d + 1) zq_X16_plus_ 67 [(0, .ref a), (1, .ref a), (2, .ref b), (3, .int 1), (4, .int m2), (5, .int y5_49)] [] (zup wL49 (b + 2 + 2 * y5_49.toNatClampNeg) (.inl (14, [.ref (b + 2 + 2 * y5_49.toNatClampNeg + 1), .int 0]))) sz 0 0 Post
          obtain ⟨w64, ew64⟩ : ∃ wz9, wz9 = zup wL49 (b + 2 + 2 * y5_49.toNatClampNeg) (.inl (14, [.ref (b + 2 + 2 * y5_49.toNatClampNeg + 1), .int 0])) := ⟨_, rfl⟩
          have hsi64 : zSI wL49 w64 := by rw [ew64]; exact zSI.setU hu37
          have heq64 : ∀ x, x ≠ b + 2 + 2 * y5_49.toNatClampNeg → w64 x = wL49 x := fun x hx => by rw [ew64]; exact zup_n hx
          have hc64 : w64 (b + 2 + 2 * y5_49.toNatClampNeg) = some (.inl (14, [.ref (b + 2 + 2 * y5_49.toNatClampNeg + 1), .int 0])) := by rw [ew64]; exact zup_s
          rw [← ew64]
          clear ew64
          refine zp_seg (pc' := 70) (lv' := [(5, .int (y5_49 + 1)), (0, .ref a), (1, .ref a), (2, .ref b), (3, .int 1), (4, .int m2)]) (st' := []) [(67, .iinc 5 1)] (by decide +kernel) rfl ?_
          have k39 := zaddC y5_49 1 (n := 1) (by decide) (by omega) (by omega)
          generalize ev70 : (y5_49 + 1 : Int32) = v70 at k39 ⊢
          have kv70 := zrng v70
          refine zp_seg (pc' := 49) (lv' := [(5, .int v70), (0, .ref a), (1, .ref a), (2, .ref b), (3, .int 1), (4, .int m2)]) (st' := []) [(70, .goto (-21))] (by decide +kernel) rfl ?_
          have hz40 : (v70.toNatClampNeg : Int) = v70.toInt := znat (by first | omega | decide)
          have hb41 : w64 (b + 2 + 2 * y5_49.toNatClampNeg + 1) = some (.inr (0, 200, .inl f36)) := (heq64 (b + 2 + 2 * y5_49.toNatClampNeg + 1) (by omega)).trans hu38
          exact (ih49 w64 v70 (hsiL49.tr hsi64) (fun x hx => ((heq64 x (by omega)).trans (heqL49 x (by omega)))) (by first | assumption | omega | decide) (by first | assumption | omega | decide) (by first | assumption | omega | decide) (by
                intro t ht
                by_cases e : t = y5_49.toNatClampNeg
                · rw [e, zrw_dg q y5_49.toNatClampNeg (by omega)]
                  exact zU.mk0 hc64 hb41
                · exact (hB1 t (by omega)).ag (fun x g1 g2 => heq64 x (by omega))) (by omega)).more (zfa1 rfl (zfa1 rfl (zfa1 rfl (zfa1 rfl (zfa1 rfl (zfa1 rfl (zfa0)))))))
      have hz42 : (nb.toNatClampNeg : Int) = nb.toInt := znat (by first | omega | decide)
      exact (hL49 _ wL19 nb zSI.rf (fun _ _ => rfl) (by first | assumption | omega | decide) (by first | assumption | omega | decide) (by first | assumption | omega | decide) (by
            exact fun t ht => (hb5 t (by omega)).ag (fun x g1 g2 => (heqL19 x (by omega)))) (Nat.lt_succ_self _)).more (zfa1 rfl (zfa1 rfl (zfa1 rfl (zfa1 rfl (zfa1 rfl (zfa1 rfl (zfa0)))))))
    ·
      have f43 := znleI cc23
      have hz44 : (y5_19.toNatClampNeg : Int) = y5_19.toInt := znat (by first | omega | decide)
      refine zp_seg (pc' := 27) (lv' := [(0, .ref a), (1, .ref a), (2, .ref b), (3, .int 1), (4, .int m2), (5, .int y5_19)]) (st' := [.ref a]) [(26, .aload_n 1)] (by decide +kernel) rfl ?_
      have hb45 : wL19 a = some (.inl (11, [.ref (a + 1), .int na])) := (heqL19 a (by omega)).trans ha1
      refine zr_get (idx := 98) (k := 0) (v := .ref (a + 1)) (by decide +kernel) (by decide +kernel) hb45 rfl ?_
      refine zp_seg (pc' := 32) (lv' := [(0, .ref a), (1, .ref a), (2, .ref b), (3, .int 1), (4, .int m2), (5, .int y5_19)]) (st' := [.int y5_19, .ref (a + 1)]) [(30, .iload 5)] (by decide +kernel) rfl ?_
      have hb46 : wL19 (a + 1) = some (.inr (4, 64, zbr a)) := (heqL19 (a + 1) (by omega)).trans ha2
      refine zr_aald (v := .ref (a + 2 + 2 * y5_19.toNatClampNeg)) (by decide +kernel) hb46 (by decide) (zin (by first | omega | decide) (by first | omega | decide)) (zbr_at (by omega)) ?_
      have hb47 := hBo_a.si hsiL19
      have hrow48 := hb47.rowo (y5_19.toNatClampNeg) (by omega)
      refine zp_seg (pc' := 34) (lv' := [(0, .ref a), (1, .ref a), (2, .ref b), (3, .int 1), (4, .int m2), (5, .int y5_19)]) (st' := [.int 0, .ref (a + 2 + 2 * y5_19.toNatClampNeg)]) [(33, .iconst 0)] (by decide +kernel) rfl ?_
      obtain ⟨n49, f50, hu51, hu52⟩ := id hrow48
      have kn49 := zrng n49
      refine zr_put2 (idx := 25) (k := 1) (fs2 := [.ref (a + 2 + 2 * y5_19.toNatClampNeg + 1), .int 0]) (by decide +kernel) (by decide +kernel) hu51 (Nat.le_of_ble_eq_true rfl) rfl rfl rfl ?_
      show zP (d + 1) zq_X16_plus_ 37 [(0, .ref a), (1, .ref a), (2, .ref b), (3, .int 1), (4, .int m2), (5, .int y5_19)] [] (zup wL19 (a + 2 + 2 * y5_19.toNatClampNeg) (.inl (14, [.ref (a + 2 + 2 * y5_19.toNatClampNeg + 1), .int 0]))) sz 0 0 Post
      obtain ⟨w34, ew34⟩ : ∃ wz9, wz9 = zup wL19 (a + 2 + 2 * y5_19.toNatClampNeg) (.inl (14, [.ref (a + 2 + 2 * y5_19.toNatClampNeg + 1), .int 0])) := ⟨_, rfl⟩
      have hsi34 : zSI wL19 w34 := by rw [ew34]; exact zSI.setU hu51
      have heq34 : ∀ x, x ≠ a + 2 + 2 * y5_19.toNatClampNeg → w34 x = wL19 x := fun x hx => by rw [ew34]; exact zup_n hx
      have hc34 : w34 (a + 2 + 2 * y5_19.toNatClampNeg) = some (.inl (14, [.ref (a + 2 + 2 * y5_19.toNatClampNeg + 1), .int 0])) := by rw [ew34]; exact zup_s
      rw [← ew34]
      clear ew34
      refine zp_seg (pc' := 40) (lv' := [(5, .int (y5_19 + 1)), (0, .ref a), (1, .ref a), (2, .ref b), (3, .int 1), (4, .int m2)]) (st' := []) [(37, .iinc 5 1)] (by decide +kernel) rfl ?_
      have k53 := zaddC y5_19 1 (n := 1) (by decide) (by omega) (by omega)
      generalize ev40 : (y5_19 + 1 : Int32) = v40 at k53 ⊢
      have kv40 := zrng v40
      refine zp_seg (pc' := 19) (lv' := [(5, .int v40), (0, .ref a), (1, .ref a), (2, .ref b), (3, .int 1), (4, .int m2)]) (st' := []) [(40, .goto (-21))] (by decide +kernel) rfl ?_
      have hz54 : (v40.toNatClampNeg : Int) = v40.toInt := znat (by first | omega | decide)
      have hb55 : w34 (a + 2 + 2 * y5_19.toNatClampNeg + 1) = some (.inr (0, 200, .inl f50)) := (heq34 (a + 2 + 2 * y5_19.toNatClampNeg + 1) (by omega)).trans hu52
      exact (ih19 w34 v40 (hsiL19.tr hsi34) (fun x hx => ((heq34 x (by omega)).trans (heqL19 x (by omega)))) (by first | assumption | omega | decide) (by first | assumption | omega | decide) (by first | assumption | omega | decide) (by
            intro t ht
            by_cases e : t = y5_19.toNatClampNeg
            · rw [e, zrw_dg p y5_19.toNatClampNeg (by omega)]
              exact zU.mk0 hc34 hb55
            · exact (hA1 t (by omega)).ag (fun x g1 g2 => heq34 x (by omega))) (by omega)).more (zfa1 rfl (zfa1 rfl (zfa1 rfl (zfa1 rfl (zfa1 rfl (zfa1 rfl (zfa0)))))))
  have hz56 : (na.toNatClampNeg : Int) = na.toInt := znat (by first | omega | decide)
  exact (hL19 _ w na zSI.rf (fun _ _ => rfl) (by first | assumption | omega | decide) (by first | assumption | omega | decide) (by first | assumption | omega | decide) (by
        exact fun t ht => ha5 t (by omega)) (Nat.lt_succ_self _)).more (zfa1 rfl (zfa1 rfl (zfa1 rfl (zfa1 rfl (zfa1 rfl (zfa1 rfl (zfa0)))))))

set_option maxHeartbeats 8000000 in
set_option maxRecDepth 100000 in
theorem c_X16_plus_Sb {w : zM} {p q : zA2} (b : Nat) (a : Nat) (hB_a : zB w a p) (hB_b : zB w b q) (hab : a + 130 ≤ b ∨ b + 130 ≤ a) : zCon 3 zq_X16_plus_ [.ref b, .ref a, .ref b, .int 1] w (fun v9 w9' => zSI w w9' ∧ (∀ x, (x < a ∨ a + 130 ≤ x) ∧ (x < b ∨ b + 130 ≤ x) → w9' x = w x) ∧ zB w9' b (zbS p q) ∧ zB w9' a p ∧ v9 = none) := by
  intro d sz hd
  obtain ⟨d, rfl⟩ : ∃ d9, d = d9 + 1 := ⟨d - 1, by omega⟩
  generalize hPost : (fun (r9' : Option (Option Value)) (w9' : zM) (z9 : Nat) => z9 = sz ∧ ∃ v9, r9' = some v9 ∧ (zSI w w9' ∧ (∀ x, (x < a ∨ a + 130 ≤ x) ∧ (x < b ∨ b + 130 ≤ x) → w9' x = w x) ∧ zB w9' b (zbS p q) ∧ zB w9' a p ∧ v9 = none)) = Post
  show zP (d + 1) zq_X16_plus_ 0 [(0, .ref b), (1, .ref a), (2, .ref b), (3, .int 1)] [] w sz 0 0 Post
  obtain ⟨na, ha1, ha2, ha3, ha4, ha5, ha6⟩ := id hB_a
  have kna := zrng na
  obtain ⟨nb, hb1, hb2, hb3, hb4, hb5, hb6⟩ := id hB_b
  have knb := zrng nb
  have hBo_a := hB_a.o
  have hBo_b := hB_b.o
  refine zp_seg (pc' := 1) (lv' := [(0, .ref b), (1, .ref a), (2, .ref b), (3, .int 1)]) (st' := [.ref a]) [(0, .aload_n 1)] (by decide +kernel) rfl ?_
  refine zr_get (idx := 93) (k := 1) (v := .int na) (by decide +kernel) (by decide +kernel) ha1 rfl ?_
  refine zp_seg (pc' := 5) (lv' := [(0, .ref b), (1, .ref a), (2, .ref b), (3, .int 1)]) (st' := [.ref b, .int na]) [(4, .aload_n 2)] (by decide +kernel) rfl ?_
  refine zr_get (idx := 93) (k := 1) (v := .int nb) (by decide +kernel) (by decide +kernel) hb1 rfl ?_
  refine zr_max (idx := 40) (by decide +kernel) (by decide +kernel) (by omega) (Nat.le_of_ble_eq_true rfl) ?_
  have k3 := zrng na
  have k4 := zrng nb
  obtain ⟨m2, em2, hm2⟩ := zmaxI na nb
  rw [← em2]
  have km2 := zrng m2
  refine zp_seg (pc' := 14) (lv' := [(4, .int m2), (0, .ref b), (1, .ref a), (2, .ref b), (3, .int 1)]) (st' := [.ref a]) [(11, .istore 4), (13, .aload_n 1)] (by decide +kernel) rfl ?_
  refine zr_get (idx := 93) (k := 1) (v := .int na) (by decide +kernel) (by decide +kernel) ha1 rfl ?_
  refine zp_seg (pc' := 19) (lv' := [(5, .int na), (4, .int m2), (0, .ref b), (1, .ref a), (2, .ref b), (3, .int 1)]) (st' := []) [(17, .istore 5)] (by decide +kernel) rfl ?_
  have hL19 : ∀ (mm19 : Nat) (wL19 : zM) (y5_19 : Int32), (zSI w wL19) → (∀ x, (x < a + 2 ∨ a + 2 + 128 ≤ x) → wL19 x = w x) → (0 ≤ y5_19.toInt) → ((zrw p : Int) ≤ y5_19.toInt) → (y5_19.toInt ≤ m2.toInt) → (∀ t, t < y5_19.toNatClampNeg → zU wL19 (a + 2 + 2 * t) 200 (p.1 t)) → (2147483647 - y5_19.toInt).toNat < mm19 → zP (d + 1) zq_X16_plus_ 19 [(0, .ref b), (1, .ref a), (2, .ref b), (3, .int 1), (4, .int m2), (5, .int y5_19)] [] wL19 sz 0 0 Post := by
    intro mm19
    induction mm19 with
    | zero => intros; omega
    | succ mm19 ih19 =>
    intro wL19 y5_19 hsiL19 heqL19 hi19_0 hi19_1 hi19_2 hA1 hmu19
    have ky5_19 := zrng y5_19
    refine zp_seg (pc' := 23) (lv' := [(0, .ref b), (1, .ref a), (2, .ref b), (3, .int 1), (4, .int m2), (5, .int y5_19)]) (st' := [.int m2, .int y5_19]) [(19, .iload 5), (21, .iload 4)] (by decide +kernel) rfl ?_
    refine zp_if (i := .if_icmp .ge 20) (c := m2 ≤ y5_19) (t := 43) (e := 26) (lv' := [(0, .ref b), (1, .ref a), (2, .ref b), (3, .int 1), (4, .int m2), (5, .int y5_19)]) (st' := []) (by decide +kernel) rfl (fun cc23 => ?_) (fun cc23 => ?_)
    ·
      have f5 := zleI cc23
      have hz6 : (m2.toNatClampNeg : Int) = m2.toInt := znat (by first | omega | decide)
      have hz7 : (y5_19.toNatClampNeg : Int) = y5_19.toInt := znat (by first | omega | decide)
      refine zp_seg (pc' := 44) (lv' := [(0, .ref b), (1, .ref a), (2, .ref b), (3, .int 1), (4, .int m2), (5, .int y5_19)]) (st' := [.ref b]) [(43, .aload_n 2)] (by decide +kernel) rfl ?_
      have hb8 : wL19 b = some (.inl (11, [.ref (b + 1), .int nb])) := (heqL19 b (by omega)).trans hb1
      refine zr_get (idx := 93) (k := 1) (v := .int nb) (by decide +kernel) (by decide +kernel) hb8 rfl ?_
      refine zp_seg (pc' := 49) (lv' := [(5, .int nb), (0, .ref b), (1, .ref a), (2, .ref b), (3, .int 1), (4, .int m2)]) (st' := []) [(47, .istore 5)] (by decide +kernel) rfl ?_
      have hL49 : ∀ (mm49 : Nat) (wL49 : zM) (y5_49 : Int32), (zSI wL19 wL49) → (∀ x, (x < b + 2 ∨ b + 2 + 128 ≤ x) → wL49 x = wL19 x) → (0 ≤ y5_49.toInt) → ((zrw q : Int) ≤ y5_49.toInt) → (y5_49.toInt ≤ m2.toInt) → (∀ t, t < y5_49.toNatClampNeg → zU wL49 (b + 2 + 2 * t) 200 (q.1 t)) → (2147483647 - y5_49.toInt).toNat < mm49 → zP (d + 1) zq_X16_plus_ 49 [(0, .ref b), (1, .ref a), (2, .ref b), (3, .int 1), (4, .int m2), (5, .int y5_49)] [] wL49 sz 0 0 Post := by
        intro mm49
        induction mm49 with
        | zero => intros; omega
        | succ mm49 ih49 =>
        intro wL49 y5_49 hsiL49 heqL49 hi49_0 hi49_1 hi49_2 hB1 hmu49
        have ky5_49 := zrng y5_49
        refine zp_seg (pc' := 53) (lv' := [(0, .ref b), (1, .ref a), (2, .ref b), (3, .int 1), (4, .int m2), (5, .int y5_49)]) (st' := [.int m2, .int y5_49]) [(49, .iload 5), (51, .iload 4)] (by decide +kernel) rfl ?_
        refine zp_if (i := .if_icmp .ge 20) (c := m2 ≤ y5_49) (t := 73) (e := 56) (lv' := [(0, .ref b), (1, .ref a), (2, .ref b), (3, .int 1), (4, .int m2), (5, .int y5_49)]) (st' := []) (by decide +kernel) rfl (fun cc53 => ?_) (fun cc53 => ?_)
        ·
          have f9 := zleI cc53
          have hz10 : (y5_49.toNatClampNeg : Int) = y5_49.toInt := znat (by first | omega | decide)
          refine zp_seg (pc' := 76) (lv' := [(5, .int 0), (0, .ref b), (1, .ref a), (2, .ref b), (3, .int 1), (4, .int m2)]) (st' := []) [(73, .iconst 0), (74, .istore 5)] (by decide +kernel) rfl ?_
          have hL76 : ∀ (mm76 : Nat) (wL76 : zM) (y5_76 : Int32), (zSI wL49 wL76) → (∀ x, (x < b + 2 ∨ b + 2 + 128 ≤ x) → wL76 x = wL49 x) → (0 ≤ y5_76.toInt) → (y5_76.toInt ≤ m2.toInt) → (∀ t, t < y5_76.toNatClampNeg → zU wL76 (b + 2 + 2 * t) 200 (zaS (p.1 t) (q.1 t))) → (∀ t, y5_76.toNatClampNeg ≤ t → t < m2.toNatClampNeg → zU wL76 (a + 2 + 2 * t) 200 (p.1 t)) → (∀ t, y5_76.toNatClampNeg ≤ t → t < m2.toNatClampNeg → zU wL76 (b + 2 + 2 * t) 200 (q.1 t)) → (2147483647 - y5_76.toInt).toNat < mm76 → zP (d + 1) zq_X16_plus_ 76 [(0, .ref b), (1, .ref a), (2, .ref b), (3, .int 1), (4, .int m2), (5, .int y5_76)] [] wL76 sz 0 0 Post := by
            intro mm76
            induction mm76 with
            | zero => intros; omega
            | succ mm76 ih76 =>
            intro wL76 y5_76 hsiL76 heqL76 hi76_0 hi76_1 hT hA hB hmu76
            have ky5_76 := zrng y5_76
            refine zp_seg (pc' := 80) (lv' := [(0, .ref b), (1, .ref a), (2, .ref b), (3, .int 1), (4, .int m2), (5, .int y5_76)]) (st' := [.int m2, .int y5_76]) [(76, .iload 5), (78, .iload 4)] (by decide +kernel) rfl ?_
            refine zp_if (i := .if_icmp .ge 34) (c := m2 ≤ y5_76) (t := 114) (e := 83) (lv' := [(0, .ref b), (1, .ref a), (2, .ref b), (3, .int 1), (4, .int m2), (5, .int y5_76)]) (st' := []) (by decide +kernel) rfl (fun cc80 => ?_) (fun cc80 => ?_)
            ·
              have f11 := zleI cc80
              have hz12 : (y5_76.toNatClampNeg : Int) = y5_76.toInt := znat (by first | omega | decide)
              refine zp_seg (pc' := 117) (lv' := [(0, .ref b), (1, .ref a), (2, .ref b), (3, .int 1), (4, .int m2), (5, .int y5_76)]) (st' := [.int m2, .ref b]) [(114, .aload_n 0), (115, .iload 4)] (by decide +kernel) rfl ?_
              have hb13 : wL76 b = some (.inl (11, [.ref (b + 1), .int nb])) := ((heqL76 b (by omega)).trans (heqL49 b (by omega))).trans hb8
              refine zr_put2 (idx := 93) (k := 1) (fs2 := [.ref (b + 1), .int m2]) (by decide +kernel) (by decide +kernel) hb13 (Nat.le_of_ble_eq_true rfl) rfl rfl rfl ?_
              show zP (d + 1) zq_X16_plus_ 120 [(0, .ref b), (1, .ref a), (2, .ref b), (3, .int 1), (4, .int m2), (5, .int y5_76)] [] (zup wL76 b (.inl (11, [.ref (b + 1), .int m2]))) sz 0 0 Post
              obtain ⟨w117, ew117⟩ : ∃ wz9, wz9 = zup wL76 b (.inl (11, [.ref (b + 1), .int m2])) := ⟨_, rfl⟩
              have hsi117 : zSI wL76 w117 := by rw [ew117]; exact zSI.setB hb13
              have heq117 : ∀ x, x ≠ b → w117 x = wL76 x := fun x hx => by rw [ew117]; exact zup_n hx
              have hc117 : w117 b = some (.inl (11, [.ref (b + 1), .int m2])) := by rw [ew117]; exact zup_s
              rw [← ew117]
              clear ew117
              have hb14 := hBo_b.si (((hsiL19.tr hsiL49).tr hsiL76).tr hsi117)
              have hBn9 : zBw w117 b m2.toNatClampNeg (zbS p q) := zBw.mk hb14 hc117 (by omega) (by omega) (fun j hj => (hT j (by omega)).ag (fun x g1 g2 => heq117 x (by omega))) (fun j hj => by rw [zbS_c, zrw_dg p j (by omega), zrw_dg q j (by omega)]; exact zaS_Zr zaZ)
              refine zp_seg (pc' := 121) (lv' := [(0, .ref b), (1, .ref a), (2, .ref b), (3, .int 1), (4, .int m2), (5, .int y5_76)]) (st' := [.ref b]) [(120, .aload_n 0)] (by decide +kernel) rfl ?_
              refine zr_callV (idx := 105) (j := 244) (by decide +kernel) (by decide +kernel) (show zMe 244 = some zq_X12_trim from rfl) rfl rfl (Nat.le_of_ble_eq_true rfl) rfl rfl hc117 (Nat.le_of_ble_eq_true rfl) (Nat.le_of_ble_eq_true rfl) (c_X12_trim (w := w117) b hBn9) (by omega) (fun v121 w121 hp121 => ?_)
              obtain ⟨hsi121, heq121, hp121_0, rfl⟩ := hp121
              show zP _ _ _ _ [] _ _ _ _ _
              have hoffend : ∀ x, (x < a ∨ a + 130 ≤ x) ∧ (x < b ∨ b + 130 ≤ x) → w121 x = w x := fun x hx => ((heq121 x (by omega)).trans ((heq117 x (by omega)).trans ((heqL76 x (by omega)).trans ((heqL49 x (by omega)).trans (heqL19 x (by omega))))))
              have hb15 := hBo_a.si ((((hsiL19.tr hsiL49).tr hsiL76).tr hsi117).tr hsi121)
              have hb16 : w121 a = some (.inl (11, [.ref (a + 1), .int na])) := ((heq121 a (by omega)).trans ((heq117 a (by omega)).trans ((heqL76 a (by omega)).trans ((heqL49 a (by omega)).trans (heqL19 a (by omega)))))).trans ha1
              refine zr_retV (by decide +kernel) rfl ?_
              rw [← hPost]; exact ⟨rfl, _, rfl, ((((hsiL19.tr hsiL49).tr hsiL76).tr hsi117).tr hsi121), hoffend, (by first | exact hp121_0 | (have z9 := hp121_0; simpa using z9)), (by
                    exact zB.mk hb15 hb16 ha3 ha4 (fun j hj => (hA1 j (by omega)).ag (fun x g1 g2 => ((heq121 x (by omega)).trans ((heq117 x (by omega)).trans ((heqL76 x (by omega)).trans (heqL49 x (by omega)))))))), rfl⟩
            ·
              have f17 := znleI cc80
              refine zp_seg (pc' := 84) (lv' := [(0, .ref b), (1, .ref a), (2, .ref b), (3, .int 1), (4, .int m2), (5, .int y5_76)]) (st' := [.ref b]) [(83, .aload_n 0)] (by decide +kernel) rfl ?_
              have hb18 : wL76 b = some (.inl (11, [.ref (b + 1), .int nb])) := ((heqL76 b (by omega)).trans (heqL49 b (by omega))).trans hb8
              refine zr_get (idx := 98) (k := 0) (v := .ref (b + 1)) (by decide +kernel) (by decide +kernel) hb18 rfl ?_
              refine zp_seg (pc' := 89) (lv' := [(0, .ref b), (1, .ref a), (2, .ref b), (3, .int 1), (4, .int m2), (5, .int y5_76)]) (st' := [.int y5_76, .ref (b + 1)]) [(87, .iload 5)] (by decide +kernel) rfl ?_
              have hb19 : wL76 (b + 1) = some (.inr (4, 64, zbr b)) := ((heqL76 (b + 1) (by omega)).trans ((heqL49 (b + 1) (by omega)).trans (heqL19 (b + 1) (by omega)))).trans hb2
              have hz20 : (y5_76.toNatClampNeg : Int) = y5_76.toInt := znat (by first | omega | decide)
              refine zr_aald (v := .ref (b + 2 + 2 * y5_76.toNatClampNeg)) (by decide +kernel) hb19 (by decide) (zin (by first | omega | decide) (by first | omega | decide)) (zbr_at (by omega)) ?_
              have hb21 := hBo_b.si ((hsiL19.tr hsiL49).tr hsiL76)
              have hrow22 := hb21.rowo (y5_76.toNatClampNeg) (by omega)
              refine zp_seg (pc' := 91) (lv' := [(0, .ref b), (1, .ref a), (2, .ref b), (3, .int 1), (4, .int m2), (5, .int y5_76)]) (st' := [.ref a, .ref (b + 2 + 2 * y5_76.toNatClampNeg)]) [(90, .aload_n 1)] (by decide +kernel) rfl ?_
              have hb23 : wL76 a = some (.inl (11, [.ref (a + 1), .int na])) := ((heqL76 a (by omega)).trans ((heqL49 a (by omega)).trans (heqL19 a (by omega)))).trans ha1
              refine zr_get (idx := 98) (k := 0) (v := .ref (a + 1)) (by decide +kernel) (by decide +kernel) hb23 rfl ?_
              refine zp_seg (pc' := 96) (lv' := [(0, .ref b), (1, .ref a), (2, .ref b), (3, .int 1), (4, .int m2), (5, .int y5_76)]) (st' := [.int y5_76, .ref (a + 1), .ref (b + 2 + 2 * y5_76.toNatClampNeg)]) [(94, .iload 5)] (by decide +kernel) rfl ?_
              have hb24 : wL76 (a + 1) = some (.inr (4, 64, zbr a)) := ((heqL76 (a + 1) (by omega)).trans ((heqL49 (a + 1) (by omega)).trans (heqL19 (a + 1) (by omega)))).trans ha2
              refine zr_aald (v := .ref (a + 2 + 2 * y5_76.toNatClampNeg)) (by decide +kernel) hb24 (by decide) (zin (by first | omega | decide) (by first | omega | decide)) (zbr_at (by omega)) ?_
              refine zp_seg (pc' := 98) (lv' := [(0, .ref b), (1, .ref a), (2, .ref b), (3, .int 1), (4, .int m2), (5, .int y5_76)]) (st' := [.ref b, .ref (a + 2 + 2 * y5_76.toNatClampNeg), .ref (b + 2 + 2 * y5_76.toNatClampNeg)]) [(97, .aload_n 2)] (by decide +kernel) rfl ?_
              refine zr_get (idx := 98) (k := 0) (v := .ref (b + 1)) (by decide +kernel) (by decide +kernel) hb18 rfl ?_
              refine zp_seg (pc' := 103) (lv' := [(0, .ref b), (1, .ref a), (2, .ref b), (3, .int 1), (4, .int m2), (5, .int y5_76)]) (st' := [.int y5_76, .ref (b + 1), .ref (a + 2 + 2 * y5_76.toNatClampNeg), .ref (b + 2 + 2 * y5_76.toNatClampNeg)]) [(101, .iload 5)] (by decide +kernel) rfl ?_
              refine zr_aald (v := .ref (b + 2 + 2 * y5_76.toNatClampNeg)) (by decide +kernel) hb19 (by decide) (zin (by first | omega | decide) (by first | omega | decide)) (zbr_at (by omega)) ?_
              refine zp_seg (pc' := 105) (lv' := [(0, .ref b), (1, .ref a), (2, .ref b), (3, .int 1), (4, .int m2), (5, .int y5_76)]) (st' := [.int 1, .ref (b + 2 + 2 * y5_76.toNatClampNeg), .ref (a + 2 + 2 * y5_76.toNatClampNeg), .ref (b + 2 + 2 * y5_76.toNatClampNeg)]) [(104, .iload_n 3)] (by decide +kernel) rfl ?_
              have hUa := hA y5_76.toNatClampNeg (by omega) (by omega)
              have hUb := hB y5_76.toNatClampNeg (by omega) (by omega)
              have hca := hUa.cap
              have hcb := hUb.cap
              have ho105_to := zU.o hUb
              refine zr_callS (idx := 101) (j := 265) (by decide +kernel) (by decide +kernel) (by decide) (show zMe 265 = some zq_X16_plus from rfl) rfl rfl (Nat.le_of_ble_eq_true rfl) rfl rfl (Nat.le_of_ble_eq_true rfl) (Nat.le_of_ble_eq_true rfl) (c_X16_plusS (w := wL76) (b + 2 + 2 * y5_76.toNatClampNeg) (a + 2 + 2 * y5_76.toNatClampNeg) (b + 2 + 2 * y5_76.toNatClampNeg)  ho105_to hUa hUb (by first | omega | decide | assumption) (by first | omega | decide | assumption)) (by omega) (fun v105 w105 hp105 => ?_)
              obtain ⟨hsi105, heq105, hp105_0, rfl⟩ := hp105
              show zP _ _ _ _ [] _ _ _ _ _
              refine zp_seg (pc' := 111) (lv' := [(5, .int (y5_76 + 1)), (0, .ref b), (1, .ref a), (2, .ref b), (3, .int 1), (4, .int m2)]) (st' := []) [(108, .iinc 5 1)] (by decide +kernel) rfl ?_
              have k25 := zaddC y5_76 1 (n := 1) (by decide) (by omega) (by omega)
              generalize ev111 : (y5_76 + 1 : Int32) = v111 at k25 ⊢
              have kv111 := zrng v111
              refine zp_seg (pc' := 76) (lv' := [(5, .int v111), (0, .ref b), (1, .ref a), (2, .ref b), (3, .int 1), (4, .int m2)]) (st' := []) [(111, .goto (-35))] (by decide +kernel) rfl ?_
              have hz26 : (v111.toNatClampNeg : Int) = v111.toInt := znat (by first | omega | decide)
              exact (ih76 w105 v111 (hsiL76.tr hsi105) (fun x hx => ((heq105 x (by omega)).trans (heqL76 x (by omega)))) (by first | assumption | omega | decide) (by first | assumption | omega | decide) (by
                    intro t ht
                    by_cases e : t = y5_76.toNatClampNeg
                    · rw [e]; exact hp105_0
                    · exact (hT t (by omega)).ag (fun x g1 g2 => heq105 x (by omega))) (by
                    exact fun t h1 h2 => (hA t (by omega) h2).ag (fun x g1 g2 => heq105 x (by omega))) (by
                    exact fun t h1 h2 => (hB t (by omega) h2).ag (fun x g1 g2 => heq105 x (by omega))) (by omega)).more (zfa1 rfl (zfa1 rfl (zfa1 rfl (zfa1 rfl (zfa1 rfl (zfa1 rfl (zfa0)))))))
          have hl27 : (0 : Int32).toInt = 0 := by decide
          have hz28 : ((0 : Int32).toNatClampNeg : Int) = 0 := by decide
          exact (hL76 _ wL49 0 zSI.rf (fun _ _ => rfl) (by first | assumption | omega | decide) (by first | assumption | omega | decide) (by
                exact fun t ht => absurd ht (by omega)) (by
                exact fun t h1 h2 => (hA1 t (by omega)).ag (fun x g1 g2 => heqL49 x (by omega))) (by
                exact fun t h1 h2 => hB1 t (by omega)) (Nat.lt_succ_self _)).more (zfa1 rfl (zfa1 rfl (zfa1 rfl (zfa1 rfl (zfa1 rfl (zfa1 rfl (zfa0)))))))
        ·
          have f29 := znleI cc53
          have hz30 : (y5_49.toNatClampNeg : Int) = y5_49.toInt := znat (by first | omega | decide)
          refine zp_seg (pc' := 57) (lv' := [(0, .ref b), (1, .ref a), (2, .ref b), (3, .int 1), (4, .int m2), (5, .int y5_49)]) (st' := [.ref b]) [(56, .aload_n 2)] (by decide +kernel) rfl ?_
          have hb31 : wL49 b = some (.inl (11, [.ref (b + 1), .int nb])) := (heqL49 b (by omega)).trans hb8
          refine zr_get (idx := 98) (k := 0) (v := .ref (b + 1)) (by decide +kernel) (by decide +kernel) hb31 rfl ?_
          refine zp_seg (pc' := 62) (lv' := [(0, .ref b), (1, .ref a), (2, .ref b), (3, .int 1), (4, .int m2), (5, .int y5_49)]) (st' := [.int y5_49, .ref (b + 1)]) [(60, .iload 5)] (by decide +kernel) rfl ?_
          have hb32 : wL49 (b + 1) = some (.inr (4, 64, zbr b)) := ((heqL49 (b + 1) (by omega)).trans (heqL19 (b + 1) (by omega))).trans hb2
          refine zr_aald (v := .ref (b + 2 + 2 * y5_49.toNatClampNeg)) (by decide +kernel) hb32 (by decide) (zin (by first | omega | decide) (by first | omega | decide)) (zbr_at (by omega)) ?_
          have hb33 := hBo_b.si (hsiL19.tr hsiL49)
          have hrow34 := hb33.rowo (y5_49.toNatClampNeg) (by omega)
          refine zp_seg (pc' := 64) (lv' := [(0, .ref b), (1, .ref a), (2, .ref b), (3, .int 1), (4, .int m2), (5, .int y5_49)]) (st' := [.int 0, .ref (b + 2 + 2 * y5_49.toNatClampNeg)]) [(63, .iconst 0)] (by decide +kernel) rfl ?_
          obtain ⟨n35, f36, hu37, hu38⟩ := id hrow34
          have kn35 := zrng n35
          refine zr_put2 (idx := 25) (k := 1) (fs2 := [.ref (b + 2 + 2 * y5_49.toNatClampNeg + 1), .int 0]) (by decide +kernel) (by decide +kernel) hu37 (Nat.le_of_ble_eq_true rfl) rfl rfl rfl ?_
          show zP (d + 1) zq_X16_plus_ 67 [(0, .ref b), (1, .ref a), (2, .ref b), (3, .int 1), (4, .int m2), (5, .int y5_49)] [] (zup wL49 (b + 2 + 2 * y5_49.toNatClampNeg) (.inl (14, [.ref (b + 2 + 2 * y5_49.toNatClampNeg + 1), .int 0]))) sz 0 0 Post
          obtain ⟨w64, ew64⟩ : ∃ wz9, wz9 = zup wL49 (b + 2 + 2 * y5_49.toNatClampNeg) (.inl (14, [.ref (b + 2 + 2 * y5_49.toNatClampNeg + 1), .int 0])) := ⟨_, rfl⟩
          have hsi64 : zSI wL49 w64 := by rw [ew64]; exact zSI.setU hu37
          have heq64 : ∀ x, x ≠ b + 2 + 2 * y5_49.toNatClampNeg → w64 x = wL49 x := fun x hx => by rw [ew64]; exact zup_n hx
          have hc64 : w64 (b + 2 + 2 * y5_49.toNatClampNeg) = some (.inl (14, [.ref (b + 2 + 2 * y5_49.toNatClampNeg + 1), .int 0])) := by rw [ew64]; exact zup_s
          rw [← ew64]
          clear ew64
          refine zp_seg (pc' := 70) (lv' := [(5, .int (y5_49 + 1)), (0, .ref b), (1, .ref a), (2, .ref b), (3, .int 1), (4, .int m2)]) (st' := []) [(67, .iinc 5 1)] (by decide +kernel) rfl ?_
          have k39 := zaddC y5_49 1 (n := 1) (by decide) (by omega) (by omega)
          generalize ev70 : (y5_49 + 1 : Int32) = v70 at k39 ⊢
          have kv70 := zrng v70
          refine zp_seg (pc' := 49) (lv' := [(5, .int v70), (0, .ref b), (1, .ref a), (2, .ref b), (3, .int 1), (4, .int m2)]) (st' := []) [(70, .goto (-21))] (by decide +kernel) rfl ?_
          have hz40 : (v70.toNatClampNeg : Int) = v70.toInt := znat (by first | omega | decide)
          have hb41 : w64 (b + 2 + 2 * y5_49.toNatClampNeg + 1) = some (.inr (0, 200, .inl f36)) := (heq64 (b + 2 + 2 * y5_49.toNatClampNeg + 1) (by omega)).trans hu38
          exact (ih49 w64 v70 (hsiL49.tr hsi64) (fun x hx => ((heq64 x (by omega)).trans (heqL49 x (by omega)))) (by first | assumption | omega | decide) (by first | assumption | omega | decide) (by first | assumption | omega | decide) (by
                intro t ht
                by_cases e : t = y5_49.toNatClampNeg
                · rw [e, zrw_dg q y5_49.toNatClampNeg (by omega)]
                  exact zU.mk0 hc64 hb41
                · exact (hB1 t (by omega)).ag (fun x g1 g2 => heq64 x (by omega))) (by omega)).more (zfa1 rfl (zfa1 rfl (zfa1 rfl (zfa1 rfl (zfa1 rfl (zfa1 rfl (zfa0)))))))
      have hz42 : (nb.toNatClampNeg : Int) = nb.toInt := znat (by first | omega | decide)
      exact (hL49 _ wL19 nb zSI.rf (fun _ _ => rfl) (by first | assumption | omega | decide) (by first | assumption | omega | decide) (by first | assumption | omega | decide) (by
            exact fun t ht => (hb5 t (by omega)).ag (fun x g1 g2 => (heqL19 x (by omega)))) (Nat.lt_succ_self _)).more (zfa1 rfl (zfa1 rfl (zfa1 rfl (zfa1 rfl (zfa1 rfl (zfa1 rfl (zfa0)))))))
    ·
      have f43 := znleI cc23
      have hz44 : (y5_19.toNatClampNeg : Int) = y5_19.toInt := znat (by first | omega | decide)
      refine zp_seg (pc' := 27) (lv' := [(0, .ref b), (1, .ref a), (2, .ref b), (3, .int 1), (4, .int m2), (5, .int y5_19)]) (st' := [.ref a]) [(26, .aload_n 1)] (by decide +kernel) rfl ?_
      have hb45 : wL19 a = some (.inl (11, [.ref (a + 1), .int na])) := (heqL19 a (by omega)).trans ha1
      refine zr_get (idx := 98) (k := 0) (v := .ref (a + 1)) (by decide +kernel) (by decide +kernel) hb45 rfl ?_
      refine zp_seg (pc' := 32) (lv' := [(0, .ref b), (1, .ref a), (2, .ref b), (3, .int 1), (4, .int m2), (5, .int y5_19)]) (st' := [.int y5_19, .ref (a + 1)]) [(30, .iload 5)] (by decide +kernel) rfl ?_
      have hb46 : wL19 (a + 1) = some (.inr (4, 64, zbr a)) := (heqL19 (a + 1) (by omega)).trans ha2
      refine zr_aald (v := .ref (a + 2 + 2 * y5_19.toNatClampNeg)) (by decide +kernel) hb46 (by decide) (zin (by first | omega | decide) (by first | omega | decide)) (zbr_at (by omega)) ?_
      have hb47 := hBo_a.si hsiL19
      have hrow48 := hb47.rowo (y5_19.toNatClampNeg) (by omega)
      refine zp_seg (pc' := 34) (lv' := [(0, .ref b), (1, .ref a), (2, .ref b), (3, .int 1), (4, .int m2), (5, .int y5_19)]) (st' := [.int 0, .ref (a + 2 + 2 * y5_19.toNatClampNeg)]) [(33, .iconst 0)] (by decide +kernel) rfl ?_
      obtain ⟨n49, f50, hu51, hu52⟩ := id hrow48
      have kn49 := zrng n49
      refine zr_put2 (idx := 25) (k := 1) (fs2 := [.ref (a + 2 + 2 * y5_19.toNatClampNeg + 1), .int 0]) (by decide +kernel) (by decide +kernel) hu51 (Nat.le_of_ble_eq_true rfl) rfl rfl rfl ?_
      show zP (d + 1) zq_X16_plus_ 37 [(0, .ref b), (1, .ref a), (2, .ref b), (3, .int 1), (4, .int m2), (5, .int y5_19)] [] (zup wL19 (a + 2 + 2 * y5_19.toNatClampNeg) (.inl (14, [.ref (a + 2 + 2 * y5_19.toNatClampNeg + 1), .int 0]))) sz 0 0 Post
      obtain ⟨w34, ew34⟩ : ∃ wz9, wz9 = zup wL19 (a + 2 + 2 * y5_19.toNatClampNeg) (.inl (14, [.ref (a + 2 + 2 * y5_19.toNatClampNeg + 1), .int 0])) := ⟨_, rfl⟩
      have hsi34 : zSI wL19 w34 := by rw [ew34]; exact zSI.setU hu51
      have heq34 : ∀ x, x ≠ a + 2 + 2 * y5_19.toNatClampNeg → w34 x = wL19 x := fun x hx => by rw [ew34]; exact zup_n hx
      have hc34 : w34 (a + 2 + 2 * y5_19.toNatClampNeg) = some (.inl (14, [.ref (a + 2 + 2 * y5_19.toNatClampNeg + 1), .int 0])) := by rw [ew34]; exact zup_s
      rw [← ew34]
      clear ew34
      refine zp_seg (pc' := 40) (lv' := [(5, .int (y5_19 + 1)), (0, .ref b), (1, .ref a), (2, .ref b), (3, .int 1), (4, .int m2)]) (st' := []) [(37, .iinc 5 1)] (by decide +kernel) rfl ?_
      have k53 := zaddC y5_19 1 (n := 1) (by decide) (by omega) (by omega)
      generalize ev40 : (y5_19 + 1 : Int32) = v40 at k53 ⊢
      have kv40 := zrng v40
      refine zp_seg (pc' := 19) (lv' := [(5, .int v40), (0, .ref b), (1, .ref a), (2, .ref b), (3, .int 1), (4, .int m2)]) (st' := []) [(40, .goto (-21))] (by decide +kernel) rfl ?_
      have hz54 : (v40.toNatClampNeg : Int) = v40.toInt := znat (by first | omega | decide)
      have hb55 : w34 (a + 2 + 2 * y5_19.toNatClampNeg + 1) = some (.inr (0, 200, .inl f50)) := (heq34 (a + 2 + 2 * y5_19.toNatClampNeg + 1) (by omega)).trans hu52
      exact (ih19 w34 v40 (hsiL19.tr hsi34) (fun x hx => ((heq34 x (by omega)).trans (heqL19 x (by omega)))) (by first | assumption | omega | decide) (by first | assumption | omega | decide) (by first | assumption | omega | decide) (by
            intro t ht
            by_cases e : t = y5_19.toNatClampNeg
            · rw [e, zrw_dg p y5_19.toNatClampNeg (by omega)]
              exact zU.mk0 hc34 hb55
            · exact (hA1 t (by omega)).ag (fun x g1 g2 => heq34 x (by omega))) (by omega)).more (zfa1 rfl (zfa1 rfl (zfa1 rfl (zfa1 rfl (zfa1 rfl (zfa1 rfl (zfa0)))))))
  have hz56 : (na.toNatClampNeg : Int) = na.toInt := znat (by first | omega | decide)
  exact (hL19 _ w na zSI.rf (fun _ _ => rfl) (by first | assumption | omega | decide) (by first | assumption | omega | decide) (by first | assumption | omega | decide) (by
        exact fun t ht => ha5 t (by omega)) (Nat.lt_succ_self _)).more (zfa1 rfl (zfa1 rfl (zfa1 rfl (zfa1 rfl (zfa1 rfl (zfa1 rfl (zfa0)))))))

set_option maxHeartbeats 8000000 in
set_option maxRecDepth 100000 in
theorem c_X16_scale_ {w : zM} {q : zA2} (to : Nat) (a : Nat) (v : Int32) (hBo_to : zBo w to) (hB_a : zB w a q) (hal : to = a ∨ to + 130 ≤ a ∨ a + 130 ≤ to) (h_v : zr1 v) : zCon 3 zq_X16_scale_ [.ref to, .ref a, .int v] w (fun v9 w9' => zSI w w9' ∧ (∀ x, (x < to ∨ to + 130 ≤ x) → w9' x = w x) ∧ zB w9' to (zbM (zbC (zaC (zf v))) q) ∧ v9 = none) := by
  intro d sz hd
  obtain ⟨d, rfl⟩ : ∃ d9, d = d9 + 1 := ⟨d - 1, by omega⟩
  generalize hPost : (fun (r9' : Option (Option Value)) (w9' : zM) (z9 : Nat) => z9 = sz ∧ ∃ v9, r9' = some v9 ∧ (zSI w w9' ∧ (∀ x, (x < to ∨ to + 130 ≤ x) → w9' x = w x) ∧ zB w9' to (zbM (zbC (zaC (zf v))) q) ∧ v9 = none)) = Post
  show zP (d + 1) zq_X16_scale_ 0 [(0, .ref to), (1, .ref a), (2, .int v)] [] w sz 0 0 Post
  have k1 := zrng v
  obtain ⟨na, ha1, ha2, ha3, ha4, ha5, ha6⟩ := id hB_a
  have kna := zrng na
  refine zp_seg (pc' := 2) (lv' := [(3, .int 0), (0, .ref to), (1, .ref a), (2, .int v)]) (st' := []) [(0, .iconst 0), (1, .istore_n 3)] (by decide +kernel) rfl ?_
  have hL2 : ∀ (mm2 : Nat) (wL2 : zM) (y3_2 : Int32), (zSI w wL2) → (∀ x, (x < to + 2 ∨ to + 2 + 128 ≤ x) → wL2 x = w x) → (0 ≤ y3_2.toInt) → (y3_2.toInt ≤ (zrw q : Int)) → (∀ t, t < y3_2.toNatClampNeg → zU wL2 (to + 2 + 2 * t) 200 (zaM (zaC (zf v)) (q.1 t))) → (∀ t, y3_2.toNatClampNeg ≤ t → t < zrw q → zU wL2 (a + 2 + 2 * t) 200 (q.1 t)) → (2147483647 - y3_2.toInt).toNat < mm2 → zP (d + 1) zq_X16_scale_ 2 [(0, .ref to), (1, .ref a), (2, .int v), (3, .int y3_2)] [] wL2 sz 0 0 Post := by
    intro mm2
    induction mm2 with
    | zero => intros; omega
    | succ mm2 ih2 =>
    intro wL2 y3_2 hsiL2 heqL2 hi2_0 hi2_1 hT hA hmu2
    have ky3_2 := zrng y3_2
    refine zp_seg (pc' := 4) (lv' := [(0, .ref to), (1, .ref a), (2, .int v), (3, .int y3_2)]) (st' := [.ref a, .int y3_2]) [(2, .iload_n 3), (3, .aload_n 1)] (by decide +kernel) rfl ?_
    have hb2 : wL2 a = some (.inl (11, [.ref (a + 1), .int na])) := (heqL2 a (by omega)).trans ha1
    refine zr_get (idx := 93) (k := 1) (v := .int na) (by decide +kernel) (by decide +kernel) hb2 rfl ?_
    refine zp_if (i := .if_icmp .ge 25) (c := na ≤ y3_2) (t := 32) (e := 10) (lv' := [(0, .ref to), (1, .ref a), (2, .int v), (3, .int y3_2)]) (st' := []) (by decide +kernel) rfl (fun cc7 => ?_) (fun cc7 => ?_)
    ·
      have k3 := zrng na
      have f4 := zleI cc7
      have hz5 : (y3_2.toNatClampNeg : Int) = y3_2.toInt := znat (by first | omega | decide)
      refine zp_seg (pc' := 34) (lv' := [(0, .ref to), (1, .ref a), (2, .int v), (3, .int y3_2)]) (st' := [.ref a, .ref to]) [(32, .aload_n 0), (33, .aload_n 1)] (by decide +kernel) rfl ?_
      refine zr_get (idx := 93) (k := 1) (v := .int na) (by decide +kernel) (by decide +kernel) hb2 rfl ?_
      have hb11 := hBo_to.si hsiL2
      obtain ⟨n6, hb7, hb8, -⟩ := id hb11
      have kn6 := zrng n6
      refine zr_put2 (idx := 93) (k := 1) (fs2 := [.ref (to + 1), .int na]) (by decide +kernel) (by decide +kernel) hb7 (Nat.le_of_ble_eq_true rfl) rfl rfl rfl ?_
      show zP (d + 1) zq_X16_scale_ 40 [(0, .ref to), (1, .ref a), (2, .int v), (3, .int y3_2)] [] (zup wL2 to (.inl (11, [.ref (to + 1), .int na]))) sz 0 0 Post
      obtain ⟨w37, ew37⟩ : ∃ wz9, wz9 = zup wL2 to (.inl (11, [.ref (to + 1), .int na])) := ⟨_, rfl⟩
      have hsi37 : zSI wL2 w37 := by rw [ew37]; exact zSI.setB hb7
      have heq37 : ∀ x, x ≠ to → w37 x = wL2 x := fun x hx => by rw [ew37]; exact zup_n hx
      have hc37 : w37 to = some (.inl (11, [.ref (to + 1), .int na])) := by rw [ew37]; exact zup_s
      rw [← ew37]
      clear ew37
      have hb12 := hb11.si hsi37
      have hBn9 : zBw w37 to (zrw q) (zbM (zbC (zaC (zf v))) q) := zBw.mk hb12 hc37 (by omega) ha4 (fun j hj => by rw [zbCM_c]; exact (hT j (by omega)).ag (fun x g1 g2 => heq37 x (by omega))) (fun j hj => by rw [zbCM_c, zrw_dg q j (by omega)]; exact zaM_Zr _)
      refine zp_seg (pc' := 41) (lv' := [(0, .ref to), (1, .ref a), (2, .int v), (3, .int y3_2)]) (st' := [.ref to]) [(40, .aload_n 0)] (by decide +kernel) rfl ?_
      refine zr_callV (idx := 105) (j := 244) (by decide +kernel) (by decide +kernel) (show zMe 244 = some zq_X12_trim from rfl) rfl rfl (Nat.le_of_ble_eq_true rfl) rfl rfl hc37 (Nat.le_of_ble_eq_true rfl) (Nat.le_of_ble_eq_true rfl) (c_X12_trim (w := w37) to hBn9) (by omega) (fun v41 w41 hp41 => ?_)
      obtain ⟨hsi41, heq41, hp41_0, rfl⟩ := hp41
      show zP _ _ _ _ [] _ _ _ _ _
      have hoffend : ∀ x, (x < to ∨ to + 130 ≤ x) → w41 x = w x := fun x hx => ((heq41 x (by omega)).trans ((heq37 x (by omega)).trans (heqL2 x (by omega))))
      refine zr_retV (by decide +kernel) rfl ?_
      rw [← hPost]; exact ⟨rfl, _, rfl, ((hsiL2.tr hsi37).tr hsi41), hoffend, (by first | exact hp41_0 | (have z9 := hp41_0; simpa using z9)), rfl⟩
    ·
      have k13 := zrng na
      have f14 := znleI cc7
      refine zp_seg (pc' := 11) (lv' := [(0, .ref to), (1, .ref a), (2, .int v), (3, .int y3_2)]) (st' := [.ref to]) [(10, .aload_n 0)] (by decide +kernel) rfl ?_
      have hb20 := hBo_to.si hsiL2
      obtain ⟨n15, hb16, hb17, -⟩ := id hb20
      have kn15 := zrng n15
      refine zr_get (idx := 98) (k := 0) (v := .ref (to + 1)) (by decide +kernel) (by decide +kernel) hb16 rfl ?_
      refine zp_seg (pc' := 15) (lv' := [(0, .ref to), (1, .ref a), (2, .int v), (3, .int y3_2)]) (st' := [.int y3_2, .ref (to + 1)]) [(14, .iload_n 3)] (by decide +kernel) rfl ?_
      have hz21 : (y3_2.toNatClampNeg : Int) = y3_2.toInt := znat (by first | omega | decide)
      refine zr_aald (v := .ref (to + 2 + 2 * y3_2.toNatClampNeg)) (by decide +kernel) hb17 (by decide) (zin (by first | omega | decide) (by first | omega | decide)) (zbr_at (by omega)) ?_
      have hrow22 := hb20.rowo (y3_2.toNatClampNeg) (by omega)
      refine zp_seg (pc' := 17) (lv' := [(0, .ref to), (1, .ref a), (2, .int v), (3, .int y3_2)]) (st' := [.ref a, .ref (to + 2 + 2 * y3_2.toNatClampNeg)]) [(16, .aload_n 1)] (by decide +kernel) rfl ?_
      refine zr_get (idx := 98) (k := 0) (v := .ref (a + 1)) (by decide +kernel) (by decide +kernel) hb2 rfl ?_
      refine zp_seg (pc' := 21) (lv' := [(0, .ref to), (1, .ref a), (2, .int v), (3, .int y3_2)]) (st' := [.int y3_2, .ref (a + 1), .ref (to + 2 + 2 * y3_2.toNatClampNeg)]) [(20, .iload_n 3)] (by decide +kernel) rfl ?_
      have hb23 : wL2 (a + 1) = some (.inr (4, 64, zbr a)) := (heqL2 (a + 1) (by omega)).trans ha2
      refine zr_aald (v := .ref (a + 2 + 2 * y3_2.toNatClampNeg)) (by decide +kernel) hb23 (by decide) (zin (by first | omega | decide) (by first | omega | decide)) (zbr_at (by omega)) ?_
      refine zp_seg (pc' := 23) (lv' := [(0, .ref to), (1, .ref a), (2, .int v), (3, .int y3_2)]) (st' := [.int v, .ref (a + 2 + 2 * y3_2.toNatClampNeg), .ref (to + 2 + 2 * y3_2.toNatClampNeg)]) [(22, .iload_n 2)] (by decide +kernel) rfl ?_
      have hUa := hA y3_2.toNatClampNeg (by omega) (by omega)
      have hca := hUa.cap
      refine zr_callS (idx := 70) (j := 266) (by decide +kernel) (by decide +kernel) (by decide) (show zMe 266 = some zq_X16_scale from rfl) rfl rfl (Nat.le_of_ble_eq_true rfl) rfl rfl (Nat.le_of_ble_eq_true rfl) (Nat.le_of_ble_eq_true rfl) (c_X16_scale (w := wL2) (to + 2 + 2 * y3_2.toNatClampNeg) (a + 2 + 2 * y3_2.toNatClampNeg) v hrow22 hUa (by first | omega | decide | assumption) (by first | omega | decide | assumption)) (by omega) (fun v23 w23 hp23 => ?_)
      obtain ⟨hsi23, heq23, hp23_0, rfl⟩ := hp23
      show zP _ _ _ _ [] _ _ _ _ _
      refine zp_seg (pc' := 29) (lv' := [(3, .int (y3_2 + 1)), (0, .ref to), (1, .ref a), (2, .int v)]) (st' := []) [(26, .iinc 3 1)] (by decide +kernel) rfl ?_
      have k24 := zaddC y3_2 1 (n := 1) (by decide) (by omega) (by omega)
      generalize ev29 : (y3_2 + 1 : Int32) = v29 at k24 ⊢
      have kv29 := zrng v29
      refine zp_seg (pc' := 2) (lv' := [(3, .int v29), (0, .ref to), (1, .ref a), (2, .int v)]) (st' := []) [(29, .goto (-27))] (by decide +kernel) rfl ?_
      have hz25 : (v29.toNatClampNeg : Int) = v29.toInt := znat (by first | omega | decide)
      exact (ih2 w23 v29 (hsiL2.tr hsi23) (fun x hx => ((heq23 x (by omega)).trans (heqL2 x (by omega)))) (by first | assumption | omega | decide) (by first | assumption | omega | decide) (by
            intro t ht
            by_cases e : t = y3_2.toNatClampNeg
            · rw [e]; exact hp23_0
            · exact (hT t (by omega)).ag (fun x g1 g2 => heq23 x (by omega))) (by
            exact fun t h1 h2 => (hA t (by omega) h2).ag (fun x g1 g2 => heq23 x (by omega))) (by omega)).more (zfa1 rfl (zfa1 rfl (zfa1 rfl (zfa1 rfl (zfa0)))))
  have hl26 : (0 : Int32).toInt = 0 := by decide
  have hz27 : ((0 : Int32).toNatClampNeg : Int) = 0 := by decide
  exact (hL2 _ w 0 zSI.rf (fun _ _ => rfl) (by first | assumption | omega | decide) (by first | assumption | omega | decide) (by
        exact fun t ht => absurd ht (by omega)) (by
        exact fun t _ ht => ha5 t ht) (Nat.lt_succ_self _)).more (zfa1 rfl (zfa1 rfl (zfa1 rfl (zfa1 rfl (zfa0)))))
