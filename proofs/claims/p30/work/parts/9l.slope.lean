theorem zx_X16_slope_0 {a to : Nat} (h0 : to + 130 ≤ a ∨ a + 130 ≤ to) : a < to + 2 ∨ to + 2 + 128 ≤ a := by omega
theorem zx_X16_slope_1 {to x : Nat} (h0 : x < to ∨ to + 130 ≤ x) : x < to + 2 ∨ to + 2 + 128 ≤ x := by omega
theorem zx_X16_slope_2 {to x : Nat} (h0 : x < to ∨ to + 130 ≤ x) : x ≠ to := by omega
theorem zx_X16_slope_3 {to x : Nat} (h0 : x < to ∨ to + 130 ≤ x) : x < to ∨ to + 1 ≤ x := by omega
theorem zx_X16_slope_4 {a to : Nat} (h0 : to + 130 ≤ a ∨ a + 130 ≤ to) : (a + 1) < to + 2 ∨ to + 2 + 128 ≤ (a + 1) := by omega
theorem zx_X16_slope_5 {a to x : Nat} (h0 : a ≤ x) (h1 : x < a + 130) (h2 : to + 130 ≤ a ∨ a + 130 ≤ to) : x < to + 2 ∨ to + 2 + 128 ≤ x := by omega
set_option maxHeartbeats 8000000 in
set_option maxRecDepth 100000 in
theorem c_X16_slope {w : zM} {q : zA2} (to : Nat) (a : Nat) (way : Int32) (hBo_to : zBo w to) (hB_a : zB w a q) (hdj : to + 130 ≤ a ∨ a + 130 ≤ to) (hz_way : way = 0 ∨ way = 1) : zCon 3 zq_X16_slope [.ref to, .ref a, .int way] w (fun v9 w9' => ∃ P9 : zA2, zSI w w9' ∧ (∀ x, (x < to ∨ to + 130 ≤ x) → w9' x = w x) ∧ zB w9' to P9 ∧ (zrw P9 ≤ zrw q ∧ zdn P9 ≤ zdn q) ∧ v9 = none) := by
  intro d sz hd
  obtain ⟨d, rfl⟩ : ∃ d9, d = d9 + 1 := ⟨d - 1, by omega⟩
  generalize hPost : (fun (r9' : Option (Option Value)) (w9' : zM) (z9 : Nat) => z9 = sz ∧ ∃ v9, r9' = some v9 ∧ (∃ P9 : zA2, zSI w w9' ∧ (∀ x, (x < to ∨ to + 130 ≤ x) → w9' x = w x) ∧ zB w9' to P9 ∧ (zrw P9 ≤ zrw q ∧ zdn P9 ≤ zdn q) ∧ v9 = none)) = Post
  show zP (d + 1) zq_X16_slope 0 [(0, .ref to), (1, .ref a), (2, .int way)] [] w sz 0 0 Post
  have k1 := zrng way
  obtain ⟨n9, hQ91, hQ92, hQ93, hQ94, hQ95, hQ96⟩ := id hB_a
  have kn9 := zrng n9
  refine zp_seg (pc' := 1) (lv' := [(0, .ref to), (1, .ref a), (2, .int way)]) (st' := [.int way]) [(0, .iload_n 2)] (by decide +kernel) rfl ?_
  refine zp_if (i := .ifCond .eq 117) (c := way = 0) (t := 118) (e := 4) (lv' := [(0, .ref to), (1, .ref a), (2, .int way)]) (st' := []) (by decide +kernel) rfl (fun cc1 => ?_) (fun cc1 => ?_)
  ·
    have f3 := zeqI cc1
    rw [show (0 : Int32).toInt = 0 from by decide] at f3
    refine zp_seg (pc' := 120) (lv' := [(3, .int 1), (0, .ref to), (1, .ref a), (2, .int way)]) (st' := []) [(118, .iconst 1), (119, .istore_n 3)] (by decide +kernel) rfl ?_
    have hL120 : ∀ (mm120 : Nat) (wL120 : zM) (y3_120 : Int32) (T : Nat → zA1), (zSI w wL120) → (∀ x, (x < to + 2 ∨ to + 2 + 128 ≤ x) → wL120 x = w x) → (1 ≤ y3_120.toInt) → (y3_120.toInt ≤ (zrw q : Int) ∨ y3_120.toInt = 1) → (∀ t, t + 1 < y3_120.toNatClampNeg → zU wL120 (to + 2 + 2 * t) 200 (T t) ∧ zln (T t) ≤ zdn q + 1) → (300 - y3_120.toInt).toNat < mm120 → zP (d + 1) zq_X16_slope 120 [(0, .ref to), (1, .ref a), (3, .int y3_120)] [] wL120 sz 0 0 Post := by
      intro mm120
      induction mm120 with
      | zero => intros; omega
      | succ mm120 ih120 =>
      intro wL120 y3_120 T hsiL120 heqL120 hi120_0 hi120_1 hT hmu120
      have ky3_120 := zrng y3_120
      have hz4 : (y3_120.toNatClampNeg : Int) = y3_120.toInt := znat (by first | omega | decide)
      refine zp_seg (pc' := 122) (lv' := [(0, .ref to), (1, .ref a), (3, .int y3_120)]) (st' := [.ref a, .int y3_120]) [(120, .iload_n 3), (121, .aload_n 1)] (by decide +kernel) rfl ?_
      have hb5 : wL120 a = some (.inl (11, [.ref (a + 1), .int n9])) := (heqL120 a (zx_X16_slope_0 hdj)).trans hQ91
      refine zr_get (idx := 93) (k := 1) (v := .int n9) (by decide +kernel) (by decide +kernel) hb5 rfl ?_
      refine zp_if (i := .if_icmp .ge 27) (c := n9 ≤ y3_120) (t := 152) (e := 128) (lv' := [(0, .ref to), (1, .ref a), (3, .int y3_120)]) (st' := []) (by decide +kernel) rfl (fun cc125 => ?_) (fun cc125 => ?_)
      ·
        have k6 := zrng n9
        have f7 := zleI cc125
        refine zp_seg (pc' := 155) (lv' := [(0, .ref to), (1, .ref a), (3, .int y3_120)]) (st' := [.ref a, .int 0, .ref to]) [(152, .aload_n 0), (153, .iconst 0), (154, .aload_n 1)] (by decide +kernel) rfl ?_
        refine zr_get (idx := 93) (k := 1) (v := .int n9) (by decide +kernel) (by decide +kernel) hb5 rfl ?_
        refine zp_seg (pc' := 160) (lv' := [(0, .ref to), (1, .ref a), (3, .int y3_120)]) (st' := [.int (n9 - 1), .int 0, .ref to]) [(158, .iconst 1), (159, .isub)] (by decide +kernel) rfl ?_
        have k8 := zsubC n9 1 (n := 1) (by decide) (by omega) (by omega)
        generalize ev160 : (n9 - 1 : Int32) = v160 at k8 ⊢
        have kv160 := zrng v160
        have hl9 : (0 : Int32).toInt = 0 := by decide
        refine zr_max (idx := 40) (by decide +kernel) (by decide +kernel) (by omega) (Nat.le_of_ble_eq_true rfl) ?_
        obtain ⟨m10, em10, hm10⟩ := zmaxI 0 v160
        rw [← em10]
        have km10 := zrng m10
        have hb16 := hBo_to.si hsiL120
        obtain ⟨n11, hb12, hb13, -⟩ := id hb16
        have kn11 := zrng n11
        refine zr_put2 (idx := 93) (k := 1) (fs2 := [.ref (to + 1), .int m10]) (by decide +kernel) (by decide +kernel) hb12 (Nat.le_of_ble_eq_true rfl) rfl rfl rfl ?_
        show zP (d + 1) zq_X16_slope 166 [(0, .ref to), (1, .ref a), (3, .int y3_120)] [] (zup wL120 to (.inl (11, [.ref (to + 1), .int m10]))) sz 0 0 Post
        obtain ⟨w163, ew163⟩ : ∃ wz9, wz9 = zup wL120 to (.inl (11, [.ref (to + 1), .int m10])) := ⟨_, rfl⟩
        have hsi163 : zSI wL120 w163 := by rw [ew163]; exact zSI.setB hb12
        have heq163 : ∀ x, x ≠ to → w163 x = wL120 x := fun x hx => by rw [ew163]; exact zup_n hx
        have hc163 : w163 to = some (.inl (11, [.ref (to + 1), .int m10])) := by rw [ew163]; exact zup_s
        rw [← ew163]
        clear ew163
        have hb17 := hb16.si hsi163
        have hBn9 := (show ∃ (N : Nat) (T9 : Nat → zA1), zBw w163 to N (zbOf T9 N) ∧ N ≤ zrw q ∧ zdn (zbOf T9 N) ≤ zdn q from by
          first
          | exact ⟨zrw q, T, zBw.mk hb17 hc163 (by omega) (by omega) (fun j hj => by rw [zbOf_y hj]; exact (hT j (by omega)).1.ag (fun x g1 g2 => none9)) (fun j hj => zbOf_n hj), Nat.le_refl _, zbOf_dn fun j hj => (hT j (by omega)).2⟩
          | exact ⟨zrw q - 1, T, zBw.mk hb17 hc163 (by omega) (by omega) (fun j hj => by rw [zbOf_y hj]; exact (hT j (by omega)).1.ag (fun x g1 g2 => (heq163 x (by omega)))) (fun j hj => zbOf_n hj), by omega, zbOf_dn fun j hj => (hT j (by omega)).2⟩)
        obtain ⟨N9, T9, hBw9, hNq9, hdq9⟩ := hBn9
        have hrw9 : zrw (zbOf T9 N9) ≤ N9 := zrw_le fun i hi => zbOf_n hi
        refine zp_seg (pc' := 167) (lv' := [(0, .ref to), (1, .ref a), (3, .int y3_120)]) (st' := [.ref to]) [(166, .aload_n 0)] (by decide +kernel) rfl ?_
        refine zr_callV (idx := 105) (j := 244) (by decide +kernel) (by decide +kernel) (show zMe 244 = some zq_X12_trim from rfl) rfl rfl (Nat.le_of_ble_eq_true rfl) rfl rfl hc163 (Nat.le_of_ble_eq_true rfl) (Nat.le_of_ble_eq_true rfl) (c_X12_trim (w := w163) to hBw9) (by omega) (fun v167 w167 hp167 => ?_)
        obtain ⟨hsi167, heq167, hp167_0, rfl⟩ := hp167
        show zP _ _ _ _ [] _ _ _ _ _
        have hoffend : ∀ x, (x < to ∨ to + 130 ≤ x) → w167 x = w x := fun x hx => ((heq167 x (zx_X16_slope_3 hx)).trans ((heq163 x (zx_X16_slope_2 hx)).trans (heqL120 x (zx_X16_slope_1 hx))))
        refine zr_retV (by decide +kernel) rfl ?_
        rw [← hPost]; exact ⟨rfl, _, rfl, ((zbOf T9 N9)), ((hsiL120.tr hsi163).tr hsi167), hoffend, (by first | exact hp167_0 | (have z9 := hp167_0; simpa using z9)), (by
              exact ⟨by omega, hdq9⟩), rfl⟩
      ·
        have k18 := zrng n9
        have f19 := znleI cc125
        refine zp_seg (pc' := 129) (lv' := [(0, .ref to), (1, .ref a), (3, .int y3_120)]) (st' := [.ref to]) [(128, .aload_n 0)] (by decide +kernel) rfl ?_
        have hb25 := hBo_to.si hsiL120
        obtain ⟨n20, hb21, hb22, -⟩ := id hb25
        have kn20 := zrng n20
        refine zr_get (idx := 98) (k := 0) (v := .ref (to + 1)) (by decide +kernel) (by decide +kernel) hb21 rfl ?_
        refine zp_seg (pc' := 135) (lv' := [(0, .ref to), (1, .ref a), (3, .int y3_120)]) (st' := [.int (y3_120 - 1), .ref (to + 1)]) [(132, .iload_n 3), (133, .iconst 1), (134, .isub)] (by decide +kernel) rfl ?_
        have k26 := zsubC y3_120 1 (n := 1) (by decide) (by omega) (by omega)
        generalize ev135 : (y3_120 - 1 : Int32) = v135 at k26 ⊢
        have kv135 := zrng v135
        have hz27 : (v135.toNatClampNeg : Int) = v135.toInt := znat (by first | omega | decide)
        refine zr_aald (v := .ref (to + 2 + 2 * v135.toNatClampNeg)) (by decide +kernel) hb22 (by decide) (zin (by first | omega | decide) (by first | omega | decide)) (zbr_at (by omega)) ?_
        have hrow28 := hb25.rowo (v135.toNatClampNeg) (by omega)
        refine zp_seg (pc' := 137) (lv' := [(0, .ref to), (1, .ref a), (3, .int y3_120)]) (st' := [.ref a, .ref (to + 2 + 2 * v135.toNatClampNeg)]) [(136, .aload_n 1)] (by decide +kernel) rfl ?_
        refine zr_get (idx := 98) (k := 0) (v := .ref (a + 1)) (by decide +kernel) (by decide +kernel) hb5 rfl ?_
        refine zp_seg (pc' := 141) (lv' := [(0, .ref to), (1, .ref a), (3, .int y3_120)]) (st' := [.int y3_120, .ref (a + 1), .ref (to + 2 + 2 * v135.toNatClampNeg)]) [(140, .iload_n 3)] (by decide +kernel) rfl ?_
        have hb29 : wL120 (a + 1) = some (.inr (4, 64, zbr a)) := (heqL120 (a + 1) (zx_X16_slope_4 hdj)).trans hQ92
        refine zr_aald (v := .ref (a + 2 + 2 * y3_120.toNatClampNeg)) (by decide +kernel) hb29 (by decide) (zin (by first | omega | decide) (by first | omega | decide)) (zbr_at (by omega)) ?_
        have hb30 : zB wL120 a q := hB_a.ag (fun x hx1 hx2 => (heqL120 x (zx_X16_slope_5 hx1 hx2 hdj)))
        have hrow31 := hb30.row (y3_120.toNatClampNeg) (by omega)
        refine zp_seg (pc' := 143) (lv' := [(0, .ref to), (1, .ref a), (3, .int y3_120)]) (st' := [.int y3_120, .ref (a + 2 + 2 * y3_120.toNatClampNeg), .ref (to + 2 + 2 * v135.toNatClampNeg)]) [(142, .iload_n 3)] (by decide +kernel) rfl ?_
        refine zr_callS (idx := 70) (j := 266) (by decide +kernel) (by decide +kernel) (by decide) (show zMe 266 = some zq_X16_scale from rfl) rfl rfl (Nat.le_of_ble_eq_true rfl) rfl rfl (Nat.le_of_ble_eq_true rfl) (Nat.le_of_ble_eq_true rfl) (c_X16_scale (w := wL120) (to + 2 + 2 * v135.toNatClampNeg) (a + 2 + 2 * y3_120.toNatClampNeg) y3_120 hrow28 hrow31 (by exact ⟨by omega, by omega⟩) (by exact (hQ95 _ (by omega)).cap)) (by omega) (fun v143 w143 hp143 => ?_)
        obtain ⟨hsi143, heq143, hp143_0, rfl⟩ := hp143
        show zP _ _ _ _ [] _ _ _ _ _
        refine zp_seg (pc' := 149) (lv' := [(3, .int (y3_120 + 1)), (0, .ref to), (1, .ref a)]) (st' := []) [(146, .iinc 3 1)] (by decide +kernel) rfl ?_
        have k32 := zaddC y3_120 1 (n := 1) (by decide) (by omega) (by omega)
        generalize ev149 : (y3_120 + 1 : Int32) = v149 at k32 ⊢
        have kv149 := zrng v149
        refine zp_seg (pc' := 120) (lv' := [(3, .int v149), (0, .ref to), (1, .ref a)]) (st' := []) [(149, .goto (-29))] (by decide +kernel) rfl ?_
        have hz33 : (v149.toNatClampNeg : Int) = v149.toInt := znat (by first | omega | decide)
        exact (ih120 w143 v149 (fun j => if j + 1 = y3_120.toNatClampNeg then zaM (zaC (zf y3_120)) (q.1 y3_120.toNatClampNeg) else T j) (hsiL120.tr hsi143) (fun x hx => ((heq143 x (by omega)).trans (heqL120 x hx))) (by first | assumption | omega | decide) (by first | assumption | omega | decide) (by
              intro t ht
              show zU w143 (to + 2 + 2 * t) 200 (if t + 1 = y3_120.toNatClampNeg then zaM (zaC (zf y3_120)) (q.1 y3_120.toNatClampNeg) else T t) ∧ zln (if t + 1 = y3_120.toNatClampNeg then zaM (zaC (zf y3_120)) (q.1 y3_120.toNatClampNeg) else T t) ≤ _
              by_cases e : t + 1 = y3_120.toNatClampNeg
              · rw [if_pos e, show t = v135.toNatClampNeg by omega]
                have h9 := zln_CMle (zf y3_120) (q.1 y3_120.toNatClampNeg)
                have h8 := zdn_le q y3_120.toNatClampNeg
                exact ⟨hp143_0, by omega⟩
              · rw [if_neg e]; exact ⟨(hT t (by omega)).1.ag (fun x g1 g2 => (heq143 x (by omega))), (hT t (by omega)).2⟩) (by omega)).more (zfa1 rfl (zfa1 rfl (zfa1 rfl (zfa0))))
    have hl34 : (1 : Int32).toInt = 1 := by decide
    have hz35 : ((1 : Int32).toNatClampNeg : Int) = 1 := by decide
    exact (hL120 _ w 1 (fun _ => zaZ) zSI.rf (fun _ _ => rfl) (by first | assumption | omega | decide) (by first | assumption | omega | decide) (by
          exact fun t ht => absurd ht (by omega)) (Nat.lt_succ_self _)).more (zfa1 rfl (zfa1 rfl (zfa1 rfl (zfa0))))
  ·
    have f37 := zneI cc1
    rw [show (0 : Int32).toInt = 0 from by decide] at f37
    refine zp_seg (pc' := 6) (lv' := [(3, .int 0), (0, .ref to), (1, .ref a), (2, .int way)]) (st' := []) [(4, .iconst 0), (5, .istore_n 3)] (by decide +kernel) rfl ?_
    have hL6 : ∀ (mm6 : Nat) (wL6 : zM) (y3_6 : Int32) (T : Nat → zA1), (zSI w wL6) → (∀ x, (x < to + 2 ∨ to + 2 + 128 ≤ x) → wL6 x = w x) → (0 ≤ y3_6.toInt) → (y3_6.toInt ≤ (zrw q : Int)) → (∀ t, t < y3_6.toNatClampNeg → zU wL6 (to + 2 + 2 * t) 200 (T t) ∧ zln (T t) ≤ zdn q + 1) → (300 - y3_6.toInt).toNat < mm6 → zP (d + 1) zq_X16_slope 6 [(0, .ref to), (1, .ref a), (3, .int y3_6)] [] wL6 sz 0 0 Post := by
      intro mm6
      induction mm6 with
      | zero => intros; omega
      | succ mm6 ih6 =>
      intro wL6 y3_6 T hsiL6 heqL6 hi6_0 hi6_1 hT hmu6
      have ky3_6 := zrng y3_6
      have hz38 : (y3_6.toNatClampNeg : Int) = y3_6.toInt := znat (by first | omega | decide)
      refine zp_seg (pc' := 8) (lv' := [(0, .ref to), (1, .ref a), (3, .int y3_6)]) (st' := [.ref a, .int y3_6]) [(6, .iload_n 3), (7, .aload_n 1)] (by decide +kernel) rfl ?_
      have hb39 : wL6 a = some (.inl (11, [.ref (a + 1), .int n9])) := (heqL6 a (zx_X16_slope_0 hdj)).trans hQ91
      refine zr_get (idx := 93) (k := 1) (v := .int n9) (by decide +kernel) (by decide +kernel) hb39 rfl ?_
      refine zp_if (i := .if_icmp .ge 96) (c := n9 ≤ y3_6) (t := 107) (e := 14) (lv' := [(0, .ref to), (1, .ref a), (3, .int y3_6)]) (st' := []) (by decide +kernel) rfl (fun cc11 => ?_) (fun cc11 => ?_)
      ·
        have k40 := zrng n9
        have f41 := zleI cc11
        refine zp_seg (pc' := 109) (lv' := [(0, .ref to), (1, .ref a), (3, .int y3_6)]) (st' := [.ref a, .ref to]) [(107, .aload_n 0), (108, .aload_n 1)] (by decide +kernel) rfl ?_
        refine zr_get (idx := 93) (k := 1) (v := .int n9) (by decide +kernel) (by decide +kernel) hb39 rfl ?_
        have hb47 := hBo_to.si hsiL6
        obtain ⟨n42, hb43, hb44, -⟩ := id hb47
        have kn42 := zrng n42
        refine zr_put2 (idx := 93) (k := 1) (fs2 := [.ref (to + 1), .int n9]) (by decide +kernel) (by decide +kernel) hb43 (Nat.le_of_ble_eq_true rfl) rfl rfl rfl ?_
        show zP (d + 1) zq_X16_slope 115 [(0, .ref to), (1, .ref a), (3, .int y3_6)] [] (zup wL6 to (.inl (11, [.ref (to + 1), .int n9]))) sz 0 0 Post
        obtain ⟨w112, ew112⟩ : ∃ wz9, wz9 = zup wL6 to (.inl (11, [.ref (to + 1), .int n9])) := ⟨_, rfl⟩
        have hsi112 : zSI wL6 w112 := by rw [ew112]; exact zSI.setB hb43
        have heq112 : ∀ x, x ≠ to → w112 x = wL6 x := fun x hx => by rw [ew112]; exact zup_n hx
        have hc112 : w112 to = some (.inl (11, [.ref (to + 1), .int n9])) := by rw [ew112]; exact zup_s
        rw [← ew112]
        clear ew112
        refine zp_seg (pc' := 166) (lv' := [(0, .ref to), (1, .ref a), (3, .int y3_6)]) (st' := []) [(115, .goto 51)] (by decide +kernel) rfl ?_
        have hb48 := hb47.si hsi112
        have hBn9 := (show ∃ (N : Nat) (T9 : Nat → zA1), zBw w112 to N (zbOf T9 N) ∧ N ≤ zrw q ∧ zdn (zbOf T9 N) ≤ zdn q from by
          first
          | exact ⟨zrw q, T, zBw.mk hb48 hc112 (by omega) (by omega) (fun j hj => by rw [zbOf_y hj]; exact (hT j (by omega)).1.ag (fun x g1 g2 => (heq112 x (by omega)))) (fun j hj => zbOf_n hj), Nat.le_refl _, zbOf_dn fun j hj => (hT j (by omega)).2⟩
          | exact ⟨zrw q - 1, T, zBw.mk hb48 hc112 (by omega) (by omega) (fun j hj => by rw [zbOf_y hj]; exact (hT j (by omega)).1.ag (fun x g1 g2 => none9)) (fun j hj => zbOf_n hj), by omega, zbOf_dn fun j hj => (hT j (by omega)).2⟩)
        obtain ⟨N9, T9, hBw9, hNq9, hdq9⟩ := hBn9
        have hrw9 : zrw (zbOf T9 N9) ≤ N9 := zrw_le fun i hi => zbOf_n hi
        refine zp_seg (pc' := 167) (lv' := [(0, .ref to), (1, .ref a), (3, .int y3_6)]) (st' := [.ref to]) [(166, .aload_n 0)] (by decide +kernel) rfl ?_
        refine zr_callV (idx := 105) (j := 244) (by decide +kernel) (by decide +kernel) (show zMe 244 = some zq_X12_trim from rfl) rfl rfl (Nat.le_of_ble_eq_true rfl) rfl rfl hc112 (Nat.le_of_ble_eq_true rfl) (Nat.le_of_ble_eq_true rfl) (c_X12_trim (w := w112) to hBw9) (by omega) (fun v167 w167 hp167 => ?_)
        obtain ⟨hsi167, heq167, hp167_0, rfl⟩ := hp167
        show zP _ _ _ _ [] _ _ _ _ _
        have hoffend : ∀ x, (x < to ∨ to + 130 ≤ x) → w167 x = w x := fun x hx => ((heq167 x (zx_X16_slope_3 hx)).trans ((heq112 x (zx_X16_slope_2 hx)).trans (heqL6 x (zx_X16_slope_1 hx))))
        refine zr_retV (by decide +kernel) rfl ?_
        rw [← hPost]; exact ⟨rfl, _, rfl, ((zbOf T9 N9)), ((hsiL6.tr hsi112).tr hsi167), hoffend, (by first | exact hp167_0 | (have z9 := hp167_0; simpa using z9)), (by
              exact ⟨by omega, hdq9⟩), rfl⟩
      ·
        have k49 := zrng n9
        have f50 := znleI cc11
        have hb51 := hBo_to.si hsiL6
        obtain ⟨nr9, fr9, hr91, hr92⟩ := (hb51).rowo y3_6.toNatClampNeg (by omega)
        have hUa := (hQ95 y3_6.toNatClampNeg (by omega)).ag (w' := wL6) (fun x g1 g2 => (heqL6 x (by omega)))
        have hca := hUa.cap
        have hdq := zdn_le q y3_6.toNatClampNeg
        refine zp_seg (pc' := 15) (lv' := [(0, .ref to), (1, .ref a), (3, .int y3_6)]) (st' := [.ref to]) [(14, .aload_n 0)] (by decide +kernel) rfl ?_
        obtain ⟨n52, hb53, hb54, -⟩ := id hb51
        have kn52 := zrng n52
        refine zr_get (idx := 98) (k := 0) (v := .ref (to + 1)) (by decide +kernel) (by decide +kernel) hb53 rfl ?_
        refine zp_seg (pc' := 19) (lv' := [(0, .ref to), (1, .ref a), (3, .int y3_6)]) (st' := [.int y3_6, .ref (to + 1)]) [(18, .iload_n 3)] (by decide +kernel) rfl ?_
        refine zr_aald (v := .ref (to + 2 + 2 * y3_6.toNatClampNeg)) (by decide +kernel) hb54 (by decide) (zin (by first | omega | decide) (by first | omega | decide)) (zbr_at (by omega)) ?_
        refine zp_seg (pc' := 22) (lv' := [(0, .ref to), (1, .ref a), (3, .int y3_6)]) (st' := [.ref a, .int 0, .ref (to + 2 + 2 * y3_6.toNatClampNeg)]) [(20, .iconst 0), (21, .aload_n 1)] (by decide +kernel) rfl ?_
        refine zr_get (idx := 98) (k := 0) (v := .ref (a + 1)) (by decide +kernel) (by decide +kernel) hb39 rfl ?_
        refine zp_seg (pc' := 26) (lv' := [(0, .ref to), (1, .ref a), (3, .int y3_6)]) (st' := [.int y3_6, .ref (a + 1), .int 0, .ref (to + 2 + 2 * y3_6.toNatClampNeg)]) [(25, .iload_n 3)] (by decide +kernel) rfl ?_
        have hb57 : wL6 (a + 1) = some (.inr (4, 64, zbr a)) := (heqL6 (a + 1) (zx_X16_slope_4 hdj)).trans hQ92
        refine zr_aald (v := .ref (a + 2 + 2 * y3_6.toNatClampNeg)) (by decide +kernel) hb57 (by decide) (zin (by first | omega | decide) (by first | omega | decide)) (zbr_at (by omega)) ?_
        obtain ⟨n58, f59, hu60, hu61, hu62, hu63, hu64⟩ := id hUa
        have kn58 := zrng n58
        refine zr_get (idx := 25) (k := 1) (v := .int n58) (by decide +kernel) (by decide +kernel) hu60 rfl ?_
        refine zp_seg (pc' := 32) (lv' := [(0, .ref to), (1, .ref a), (3, .int y3_6)]) (st' := [.int (n58 - 1), .int 0, .ref (to + 2 + 2 * y3_6.toNatClampNeg)]) [(30, .iconst 1), (31, .isub)] (by decide +kernel) rfl ?_
        have k65 := zsubC n58 1 (n := 1) (by decide) (by omega) (by omega)
        generalize ev32 : (n58 - 1 : Int32) = v32 at k65 ⊢
        have kv32 := zrng v32
        have hl66 : (0 : Int32).toInt = 0 := by decide
        refine zr_max (idx := 40) (by decide +kernel) (by decide +kernel) (by omega) (Nat.le_of_ble_eq_true rfl) ?_
        obtain ⟨m67, em67, hm67⟩ := zmaxI 0 v32
        rw [← em67]
        have km67 := zrng m67
        obtain ⟨MM, hMM⟩ : ∃ x : Int32, x = m67 := ⟨_, rfl⟩
        have hMM9 : MM.toInt = m67.toInt := by rw [hMM]
        clear hMM
        have hzM9 := znat (x := MM) (by omega)
        refine zr_put2 (idx := 25) (k := 1) (fs2 := [.ref (to + 2 + 2 * y3_6.toNatClampNeg + 1), .int m67]) (by decide +kernel) (by decide +kernel) hr91 (Nat.le_of_ble_eq_true rfl) rfl rfl rfl ?_
        show zP (d + 1) zq_X16_slope 38 [(0, .ref to), (1, .ref a), (3, .int y3_6)] [] (zup wL6 (to + 2 + 2 * y3_6.toNatClampNeg) (.inl (14, [.ref (to + 2 + 2 * y3_6.toNatClampNeg + 1), .int m67]))) sz 0 0 Post
        obtain ⟨w35, ew35⟩ : ∃ wz9, wz9 = zup wL6 (to + 2 + 2 * y3_6.toNatClampNeg) (.inl (14, [.ref (to + 2 + 2 * y3_6.toNatClampNeg + 1), .int m67])) := ⟨_, rfl⟩
        have hsi35 : zSI wL6 w35 := by rw [ew35]; exact zSI.setU hr91
        have heq35 : ∀ x, x ≠ to + 2 + 2 * y3_6.toNatClampNeg → w35 x = wL6 x := fun x hx => by rw [ew35]; exact zup_n hx
        have hc35 : w35 (to + 2 + 2 * y3_6.toNatClampNeg) = some (.inl (14, [.ref (to + 2 + 2 * y3_6.toNatClampNeg + 1), .int m67])) := by rw [ew35]; exact zup_s
        rw [← ew35]
        clear ew35
        refine zp_seg (pc' := 41) (lv' := [(4, .int 1), (0, .ref to), (1, .ref a), (3, .int y3_6)]) (st' := []) [(38, .iconst 1), (39, .istore 4)] (by decide +kernel) rfl ?_
        have hL41 : ∀ (mm41 : Nat) (wL41 : zM) (y4_41 : Int32) (fz : Nat → Int32), (zSI w35 wL41) → (∀ x, (x < to + 2 + 2 * y3_6.toNatClampNeg + 1 ∨ to + 2 + 2 * y3_6.toNatClampNeg + 1 + 1 ≤ x) → wL41 x = w35 x) → (1 ≤ y4_41.toInt) → (y4_41.toInt ≤ MM.toInt + 1) → (wL41 (to + 2 + 2 * y3_6.toNatClampNeg + 1) = some (.inr (0, 200, .inl fz))) → (∀ t, t + 1 < y4_41.toNatClampNeg → zr1 (fz t)) → (300 - y4_41.toInt).toNat < mm41 → zP (d + 1) zq_X16_slope 41 [(0, .ref to), (1, .ref a), (3, .int y3_6), (4, .int y4_41)] [] wL41 sz 0 0 Post := by
          intro mm41
          induction mm41 with
          | zero => intros; omega
          | succ mm41 ih41 =>
          intro wL41 y4_41 fz hsiL41 heqL41 hi41_0 hi41_1 hAz hZ hmu41
          have ky4_41 := zrng y4_41
          have hz68 : (y4_41.toNatClampNeg : Int) = y4_41.toInt := znat (by first | omega | decide)
          refine zp_seg (pc' := 44) (lv' := [(0, .ref to), (1, .ref a), (3, .int y3_6), (4, .int y4_41)]) (st' := [.ref a, .int y4_41]) [(41, .iload 4), (43, .aload_n 1)] (by decide +kernel) rfl ?_
          have hb69 : wL41 a = some (.inl (11, [.ref (a + 1), .int n9])) := ((heqL41 a (by omega)).trans (heq35 a (by omega))).trans hb39
          refine zr_get (idx := 98) (k := 0) (v := .ref (a + 1)) (by decide +kernel) (by decide +kernel) hb69 rfl ?_
          refine zp_seg (pc' := 48) (lv' := [(0, .ref to), (1, .ref a), (3, .int y3_6), (4, .int y4_41)]) (st' := [.int y3_6, .ref (a + 1), .int y4_41]) [(47, .iload_n 3)] (by decide +kernel) rfl ?_
          have hb70 : wL41 (a + 1) = some (.inr (4, 64, zbr a)) := ((heqL41 (a + 1) (by omega)).trans (heq35 (a + 1) (by omega))).trans hb57
          refine zr_aald (v := .ref (a + 2 + 2 * y3_6.toNatClampNeg)) (by decide +kernel) hb70 (by decide) (zin (by first | omega | decide) (by first | omega | decide)) (zbr_at (by omega)) ?_
          have hb71 : wL41 (a + 2 + 2 * y3_6.toNatClampNeg) = some (.inl (14, [.ref (a + 2 + 2 * y3_6.toNatClampNeg + 1), .int n58])) := ((heqL41 (a + 2 + 2 * y3_6.toNatClampNeg) (by omega)).trans (heq35 (a + 2 + 2 * y3_6.toNatClampNeg) (by omega))).trans hu60
          refine zr_get (idx := 25) (k := 1) (v := .int n58) (by decide +kernel) (by decide +kernel) hb71 rfl ?_
          refine zp_if (i := .if_icmp .ge 40) (c := n58 ≤ y4_41) (t := 92) (e := 55) (lv' := [(0, .ref to), (1, .ref a), (3, .int y3_6), (4, .int y4_41)]) (st' := []) (by decide +kernel) rfl (fun cc52 => ?_) (fun cc52 => ?_)
          ·
            have f72 := zleI cc52
            refine zp_seg (pc' := 93) (lv' := [(0, .ref to), (1, .ref a), (3, .int y3_6), (4, .int y4_41)]) (st' := [.ref to]) [(92, .aload_n 0)] (by decide +kernel) rfl ?_
            have hb73 : wL41 to = some (.inl (11, [.ref (to + 1), .int n52])) := ((heqL41 to (by omega)).trans (heq35 to (by omega))).trans hb53
            refine zr_get (idx := 98) (k := 0) (v := .ref (to + 1)) (by decide +kernel) (by decide +kernel) hb73 rfl ?_
            refine zp_seg (pc' := 97) (lv' := [(0, .ref to), (1, .ref a), (3, .int y3_6), (4, .int y4_41)]) (st' := [.int y3_6, .ref (to + 1)]) [(96, .iload_n 3)] (by decide +kernel) rfl ?_
            have hb74 : wL41 (to + 1) = some (.inr (4, 64, zbr to)) := ((heqL41 (to + 1) (by omega)).trans (heq35 (to + 1) (by omega))).trans hb54
            refine zr_aald (v := .ref (to + 2 + 2 * y3_6.toNatClampNeg)) (by decide +kernel) hb74 (by decide) (zin (by first | omega | decide) (by first | omega | decide)) (zbr_at (by omega)) ?_
            have hb75 : wL41 (to + 2 + 2 * y3_6.toNatClampNeg) = some (.inl (14, [.ref (to + 2 + 2 * y3_6.toNatClampNeg + 1), .int m67])) := (heqL41 (to + 2 + 2 * y3_6.toNatClampNeg) (by omega)).trans hc35
            have hUn9 : zUw wL41 (to + 2 + 2 * y3_6.toNatClampNeg) 200 MM.toNatClampNeg (zaOf (fun i => zf (fz i)) MM.toNatClampNeg) := by
              refine ⟨_, fz, hb75, hAz, by omega, by omega, fun t ht => ?_, fun t ht => ?_⟩
              · rw [zaOf_c, if_pos ht]; exact ⟨hZ t (by omega), rfl⟩
              · rw [zaOf_c, if_neg (by omega)]
            have hln9 := zaOf_ln (fun i => zf (fz i)) MM.toNatClampNeg
            refine zr_callV (idx := 52) (j := 251) (by decide +kernel) (by decide +kernel) (show zMe 251 = some zq_X15_trim from rfl) rfl rfl (Nat.le_of_ble_eq_true rfl) rfl rfl hb75 (Nat.le_of_ble_eq_true rfl) (Nat.le_of_ble_eq_true rfl) (c_X15_trim (w := wL41) (to + 2 + 2 * y3_6.toNatClampNeg) hUn9) (by omega) (fun v98 w98 hp98 => ?_)
            obtain ⟨hsi98, heq98, hp98_0, rfl⟩ := hp98
            show zP _ _ _ _ [] _ _ _ _ _
            refine zp_seg (pc' := 104) (lv' := [(3, .int (y3_6 + 1)), (0, .ref to), (1, .ref a), (4, .int y4_41)]) (st' := []) [(101, .iinc 3 1)] (by decide +kernel) rfl ?_
            have k76 := zaddC y3_6 1 (n := 1) (by decide) (by omega) (by omega)
            generalize ev104 : (y3_6 + 1 : Int32) = v104 at k76 ⊢
            have kv104 := zrng v104
            refine zp_seg (pc' := 6) (lv' := [(3, .int v104), (0, .ref to), (1, .ref a), (4, .int y4_41)]) (st' := []) [(104, .goto (-98))] (by decide +kernel) rfl ?_
            have hz77 : (v104.toNatClampNeg : Int) = v104.toInt := znat (by first | omega | decide)
            exact (ih6 w98 v104 (fun j => if j = y3_6.toNatClampNeg then zaOf (fun i => zf (fz i)) MM.toNatClampNeg else T j) (((hsiL6.tr hsi35).tr hsiL41).tr hsi98) (fun x hx => ((heq98 x (by omega)).trans ((heqL41 x (by omega)).trans ((heq35 x (by omega)).trans (heqL6 x hx))))) (by first | assumption | omega | decide) (by first | assumption | omega | decide) (by
                  intro t ht
                  show zU w98 (to + 2 + 2 * t) 200 (if t = y3_6.toNatClampNeg then zaOf (fun i => zf (fz i)) MM.toNatClampNeg else T t) ∧ zln (if t = y3_6.toNatClampNeg then zaOf (fun i => zf (fz i)) MM.toNatClampNeg else T t) ≤ _
                  by_cases e : t = y3_6.toNatClampNeg
                  · rw [if_pos e, e]; exact ⟨hp98_0, by omega⟩
                  · rw [if_neg e]; exact ⟨(hT t (by omega)).1.ag (fun x g1 g2 => ((heq98 x (by omega)).trans ((heqL41 x (by omega)).trans (heq35 x (by omega))))), (hT t (by omega)).2⟩) (by omega)).more (zfa1 rfl (zfa1 rfl (zfa1 rfl (zfa0))))
          ·
            have f78 := znleI cc52
            refine zp_seg (pc' := 56) (lv' := [(0, .ref to), (1, .ref a), (3, .int y3_6), (4, .int y4_41)]) (st' := [.ref to]) [(55, .aload_n 0)] (by decide +kernel) rfl ?_
            have hb79 : wL41 to = some (.inl (11, [.ref (to + 1), .int n52])) := ((heqL41 to (by omega)).trans (heq35 to (by omega))).trans hb53
            refine zr_get (idx := 98) (k := 0) (v := .ref (to + 1)) (by decide +kernel) (by decide +kernel) hb79 rfl ?_
            refine zp_seg (pc' := 60) (lv' := [(0, .ref to), (1, .ref a), (3, .int y3_6), (4, .int y4_41)]) (st' := [.int y3_6, .ref (to + 1)]) [(59, .iload_n 3)] (by decide +kernel) rfl ?_
            have hb80 : wL41 (to + 1) = some (.inr (4, 64, zbr to)) := ((heqL41 (to + 1) (by omega)).trans (heq35 (to + 1) (by omega))).trans hb54
            refine zr_aald (v := .ref (to + 2 + 2 * y3_6.toNatClampNeg)) (by decide +kernel) hb80 (by decide) (zin (by first | omega | decide) (by first | omega | decide)) (zbr_at (by omega)) ?_
            have hb81 : wL41 (to + 2 + 2 * y3_6.toNatClampNeg) = some (.inl (14, [.ref (to + 2 + 2 * y3_6.toNatClampNeg + 1), .int m67])) := (heqL41 (to + 2 + 2 * y3_6.toNatClampNeg) (by omega)).trans hc35
            refine zr_get (idx := 30) (k := 0) (v := .ref (to + 2 + 2 * y3_6.toNatClampNeg + 1)) (by decide +kernel) (by decide +kernel) hb81 rfl ?_
            refine zp_seg (pc' := 68) (lv' := [(0, .ref to), (1, .ref a), (3, .int y3_6), (4, .int y4_41)]) (st' := [.int (y4_41 - 1), .ref (to + 2 + 2 * y3_6.toNatClampNeg + 1)]) [(64, .iload 4), (66, .iconst 1), (67, .isub)] (by decide +kernel) rfl ?_
            have k82 := zsubC y4_41 1 (n := 1) (by decide) (by omega) (by omega)
            generalize ev68 : (y4_41 - 1 : Int32) = v68 at k82 ⊢
            have kv68 := zrng v68
            refine zp_seg (pc' := 71) (lv' := [(0, .ref to), (1, .ref a), (3, .int y3_6), (4, .int y4_41)]) (st' := [.ref a, .int y4_41, .int v68, .ref (to + 2 + 2 * y3_6.toNatClampNeg + 1)]) [(68, .iload 4), (70, .aload_n 1)] (by decide +kernel) rfl ?_
            refine zr_get (idx := 98) (k := 0) (v := .ref (a + 1)) (by decide +kernel) (by decide +kernel) hb69 rfl ?_
            refine zp_seg (pc' := 75) (lv' := [(0, .ref to), (1, .ref a), (3, .int y3_6), (4, .int y4_41)]) (st' := [.int y3_6, .ref (a + 1), .int y4_41, .int v68, .ref (to + 2 + 2 * y3_6.toNatClampNeg + 1)]) [(74, .iload_n 3)] (by decide +kernel) rfl ?_
            refine zr_aald (v := .ref (a + 2 + 2 * y3_6.toNatClampNeg)) (by decide +kernel) hb70 (by decide) (zin (by first | omega | decide) (by first | omega | decide)) (zbr_at (by omega)) ?_
            refine zr_get (idx := 30) (k := 0) (v := .ref (a + 2 + 2 * y3_6.toNatClampNeg + 1)) (by decide +kernel) (by decide +kernel) hb71 rfl ?_
            refine zp_seg (pc' := 81) (lv' := [(0, .ref to), (1, .ref a), (3, .int y3_6), (4, .int y4_41)]) (st' := [.int y4_41, .ref (a + 2 + 2 * y3_6.toNatClampNeg + 1), .int y4_41, .int v68, .ref (to + 2 + 2 * y3_6.toNatClampNeg + 1)]) [(79, .iload 4)] (by decide +kernel) rfl ?_
            have hb83 : wL41 (a + 2 + 2 * y3_6.toNatClampNeg + 1) = some (.inr (0, 200, .inl f59)) := ((heqL41 (a + 2 + 2 * y3_6.toNatClampNeg + 1) (by omega)).trans (heq35 (a + 2 + 2 * y3_6.toNatClampNeg + 1) (by omega))).trans hu61
            refine zr_iald (by decide +kernel) hb83 (zin (by first | omega | decide) (by first | omega | decide)) ?_
            obtain ⟨x81, ex81⟩ : ∃ x9, x9 = f59 (y4_41.toNatClampNeg) := ⟨_, rfl⟩
            rw [← ex81]
            have kx81 := zrng x81
            have hvx81 := hu64 (y4_41.toNatClampNeg) (by omega)
            rw [← ex81] at hvx81
            have hwx81 : 0 ≤ x81.toInt ∧ x81.toInt < 2147483647 := hvx81.1
            refine zr_callS (idx := 56) (j := 257) (by decide +kernel) (by decide +kernel) (by decide) (show zMe 257 = some zq_X16_mul from rfl) rfl rfl (Nat.le_of_ble_eq_true rfl) rfl rfl (Nat.le_of_ble_eq_true rfl) (Nat.le_of_ble_eq_true rfl) (c_X16_mul (w := wL41) y4_41 x81 (by exact ⟨by omega, by omega⟩) (by first | exact hvx81.1 | omega | decide | assumption | exact zr1_1 | exact zr1_0 | fail "num")) (by omega) (fun v82 w82 hp82 => ?_)
            obtain ⟨hpw82, r82, rfl, hr82⟩ := hp82
            replace hpw82 := hpw82.symm
            subst hpw82
            have kr82 := zrng r82
            show zP _ _ _ _ [.int r82, .int v68, .ref (to + 2 + 2 * y3_6.toNatClampNeg + 1)] _ _ _ _ _
            have hz84 : (v68.toNatClampNeg : Int) = v68.toInt := znat (by first | omega | decide)
            refine zr_iast (by decide +kernel) hAz (zin (by first | omega | decide) (by first | omega | decide)) ?_
            show zP (d + 1) zq_X16_slope 86 [(0, .ref to), (1, .ref a), (3, .int y3_6), (4, .int y4_41)] [] (zup wL41 (to + 2 + 2 * y3_6.toNatClampNeg + 1) (.inr (0, 200, .inl (upd fz (v68.toNatClampNeg) r82)))) sz 0 0 Post
            obtain ⟨w85, ew85⟩ : ∃ wz9, wz9 = zup wL41 (to + 2 + 2 * y3_6.toNatClampNeg + 1) (.inr (0, 200, .inl (upd fz (v68.toNatClampNeg) r82))) := ⟨_, rfl⟩
            have hsi85 : zSI wL41 w85 := by rw [ew85]; exact zSI.arr _ hAz
            have heq85 : ∀ x, x ≠ to + 2 + 2 * y3_6.toNatClampNeg + 1 → w85 x = wL41 x := fun x hx => by rw [ew85]; exact zup_n hx
            have hc85 : w85 (to + 2 + 2 * y3_6.toNatClampNeg + 1) = some (.inr (0, 200, .inl (upd fz (v68.toNatClampNeg) r82))) := by rw [ew85]; exact zup_s
            rw [← ew85]
            clear ew85
            refine zp_seg (pc' := 89) (lv' := [(4, .int (y4_41 + 1)), (0, .ref to), (1, .ref a), (3, .int y3_6)]) (st' := []) [(86, .iinc 4 1)] (by decide +kernel) rfl ?_
            have k85 := zaddC y4_41 1 (n := 1) (by decide) (by omega) (by omega)
            generalize ev89 : (y4_41 + 1 : Int32) = v89 at k85 ⊢
            have kv89 := zrng v89
            refine zp_seg (pc' := 41) (lv' := [(4, .int v89), (0, .ref to), (1, .ref a), (3, .int y3_6)]) (st' := []) [(89, .goto (-48))] (by decide +kernel) rfl ?_
            have hz86 : (v89.toNatClampNeg : Int) = v89.toInt := znat (by first | omega | decide)
            exact (ih41 w85 v89 ((upd fz (v68.toNatClampNeg) r82)) (hsiL41.tr hsi85) (fun x hx => ((heq85 x (by omega)).trans (heqL41 x hx))) (by first | assumption | omega | decide) (by first | assumption | omega | decide) hc85 (by
                  intro t ht
                  by_cases e : t + 1 = y4_41.toNatClampNeg
                  · rw [show t = v68.toNatClampNeg by omega, zupd_s]; exact hr82.1
                  · rw [zupd_n _ _ (by omega)]; exact hZ t (by omega)) (by omega)).more (zfa1 rfl (zfa1 rfl (zfa1 rfl (zfa1 rfl (zfa0)))))
        have hl87 : (1 : Int32).toInt = 1 := by decide
        have hz88 : ((1 : Int32).toNatClampNeg : Int) = 1 := by decide
        have hb89 : w35 (to + 2 + 2 * y3_6.toNatClampNeg + 1) = some (.inr (0, 200, .inl fr9)) := (heq35 (to + 2 + 2 * y3_6.toNatClampNeg + 1) (by omega)).trans hr92
        exact (hL41 _ w35 1 (fr9) zSI.rf (fun _ _ => rfl) (by first | assumption | omega | decide) (by first | assumption | omega | decide) hb89 (by
              exact fun t ht => absurd ht (by omega)) (Nat.lt_succ_self _)).more (zfa1 rfl (zfa1 rfl (zfa1 rfl (zfa1 rfl (zfa0)))))
    have hl90 : (0 : Int32).toInt = 0 := by decide
    have hz91 : ((0 : Int32).toNatClampNeg : Int) = 0 := by decide
    exact (hL6 _ w 0 (fun _ => zaZ) zSI.rf (fun _ _ => rfl) (by first | assumption | omega | decide) (by first | assumption | omega | decide) (by
          exact fun t ht => absurd ht (by omega)) (Nat.lt_succ_self _)).more (zfa1 rfl (zfa1 rfl (zfa1 rfl (zfa0))))
