theorem zx_X16_columnA_0 {m x : Nat} (h0 : m + 149 ≤ x) (h1 : x < m + 149 + 27) : x < m + 7594 ∨ m + 7594 + 728 ≤ x := by omega
theorem zx_X16_columnA_1 {m x : Nat} (h0 : m + 149 ≤ x) (h1 : x < m + 149 + 27) : x ≠ m := by omega
theorem zx_X16_columnA_2 {m s18 t20 : Nat} (h0 : s18 < 26) (h1 : t20 < 14) : (m + 7594 + 28 * s18 + 2 * t20 + 1) ≠ m + 7594 + 28 * s18 + 2 * t20 := by omega
theorem zx_X16_columnA_3 {a m : Nat} (h0 : m + 596 ≤ a ∧ a + 130 ≤ m + 6316) : a < m + 7594 ∨ m + 7594 + 728 ≤ a := by omega
theorem zx_X16_columnA_4 {a m : Nat} (h0 : m + 596 ≤ a ∧ a + 130 ≤ m + 6316) : a ≠ m := by omega
theorem zx_X16_columnA_5 {a m s18 t20 : Nat} (h0 : m + 596 ≤ a ∧ a + 130 ≤ m + 6316) (h1 : s18 < 26) (h2 : t20 < 14) : a ≠ m + 7594 + 28 * s18 + 2 * t20 := by omega
theorem zx_X16_columnA_6 {m s18 t20 x : Nat} (h0 : m + 149 ≤ x) (h1 : x < m + 149 + 27) (h2 : s18 < 26) (h3 : t20 < 14) : x ≠ m + 7594 + 28 * s18 + 2 * t20 := by omega
theorem zx_X16_columnA_7 {m s18 t20 x : Nat} (h0 : x < m + 7594 ∨ m + 7594 + 728 ≤ x) (h1 : s18 < 26) (h2 : t20 < 14) : x ≠ m + 7594 + 28 * s18 + 2 * t20 := by omega
theorem zx_X16_columnA_8 {m s18 t20 : Nat} (h0 : s18 < 26) (h1 : t20 < 14) : m ≠ m + 7594 + 28 * s18 + 2 * t20 := by omega
theorem zx_X16_columnA_9 {a m : Nat} (h0 : m + 596 ≤ a ∧ a + 130 ≤ m + 6316) : (a + 1) < m + 7594 ∨ m + 7594 + 728 ≤ (a + 1) := by omega
theorem zx_X16_columnA_10 {a m : Nat} (h0 : m + 596 ≤ a ∧ a + 130 ≤ m + 6316) : (a + 1) ≠ m := by omega
theorem zx_X16_columnA_11 {a m s18 t20 : Nat} (h0 : m + 596 ≤ a ∧ a + 130 ≤ m + 6316) (h1 : s18 < 26) (h2 : t20 < 14) : (a + 1) ≠ m + 7594 + 28 * s18 + 2 * t20 := by omega
theorem zx_X16_columnA_12 {a m x : Nat} (h0 : a ≤ x) (h1 : x < a + 130) (h2 : m + 596 ≤ a ∧ a + 130 ≤ m + 6316) : x < m + 7594 ∨ m + 7594 + 728 ≤ x := by omega
theorem zx_X16_columnA_13 {a m x : Nat} (h0 : a ≤ x) (h1 : x < a + 130) (h2 : m + 596 ≤ a ∧ a + 130 ≤ m + 6316) : x ≠ m := by omega
theorem zx_X16_columnA_14 {a m s18 t20 x : Nat} (h0 : a ≤ x) (h1 : x < a + 130) (h2 : m + 596 ≤ a ∧ a + 130 ≤ m + 6316) (h3 : s18 < 26) (h4 : t20 < 14) : x ≠ m + 7594 + 28 * s18 + 2 * t20 := by omega
theorem zx_X16_columnA_15 {m s18 t20 x : Nat} (h0 : m + 149 ≤ x) (h1 : x < m + 149 + 27) (h2 : s18 < 26) (h3 : t20 < 14) : x < m + 7594 + 28 * s18 + 2 * t20 ∨ m + 7594 + 28 * s18 + 2 * t20 + 2 ≤ x := by omega
theorem zx_X16_columnA_16 {m s18 t20 x : Nat} (h0 : x < m + 7594 ∨ m + 7594 + 728 ≤ x) (h1 : s18 < 26) (h2 : t20 < 14) : x < m + 7594 + 28 * s18 + 2 * t20 ∨ m + 7594 + 28 * s18 + 2 * t20 + 2 ≤ x := by omega
theorem zx_X16_columnA_17 {m s18 t20 : Nat} (h0 : s18 < 26) (h1 : t20 < 14) : m < m + 7594 + 28 * s18 + 2 * t20 ∨ m + 7594 + 28 * s18 + 2 * t20 + 2 ≤ m := by omega
set_option maxHeartbeats 8000000 in
set_option maxRecDepth 100000 in
theorem c_X16_columnA {w : zM} {g : Nat → Int32} {r : Nat → Value} {sg : Nat → Nat} {B0 : Nat → Nat → zA1} {P : zA2} {g48 : Int32} (m : Nat) (c9 : Int32) (a : Nat) (hm : w m = some (.inl (15, zMo m g r))) (hR_m : zR m w) (hBq_m_149 : zBq w m sg) (hB_a : zB w a P) (hn : 0 ≤ g48.toInt ∧ g48.toInt ≤ 26) (hc9 : 0 ≤ c9.toInt ∧ c9.toInt < 14) (hB0 : zBc w m sg g48.toNatClampNeg c9.toNatClampNeg B0) (hma : m + 596 ≤ a ∧ a + 130 ≤ m + 6316) (hg48 : g 48 = g48) : zCon 2 zq_X16_column [.ref m, .int c9, .ref a, .int 0] w (fun v9 w9' => zSI w w9' ∧ (∀ x, (x < m + 7594 ∨ m + 7594 + 728 ≤ x) → w9' x = w x) ∧ zBq w9' m sg ∧ zBc w9' m sg g48.toNatClampNeg (c9.toNatClampNeg + 1) (fun i k => if k = c9.toNatClampNeg then P.1 i else B0 i k) ∧ v9 = none) := by
  subst hg48
  intro d sz hd
  obtain ⟨d, rfl⟩ : ∃ d9, d = d9 + 1 := ⟨d - 1, by omega⟩
  generalize hPost : (fun (r9' : Option (Option Value)) (w9' : zM) (z9 : Nat) => z9 = sz ∧ ∃ v9, r9' = some v9 ∧ (zSI w w9' ∧ (∀ x, (x < m + 7594 ∨ m + 7594 + 728 ≤ x) → w9' x = w x) ∧ zBq w9' m sg ∧ zBc w9' m sg (g 48).toNatClampNeg (c9.toNatClampNeg + 1) (fun i k => if k = c9.toNatClampNeg then P.1 i else B0 i k) ∧ v9 = none)) = Post
  show zP (d + 1) zq_X16_column 0 [(0, .ref m), (1, .int c9), (2, .ref a), (3, .int 0)] [] w sz 0 0 Post
  have k1 := zrng c9
  have k3 := zrng (g 48)
  have hz4 : ((g 48).toNatClampNeg : Int) = (g 48).toInt := znat (by first | omega | decide)
  have hz5 : (c9.toNatClampNeg : Int) = c9.toInt := znat (by first | omega | decide)
  refine zp_seg (pc' := 3) (lv' := [(4, .int 0), (0, .ref m), (1, .int c9), (2, .ref a), (3, .int 0)]) (st' := []) [(0, .iconst 0), (1, .istore 4)] (by decide +kernel) rfl ?_
  have hL3 : ∀ (mm3 : Nat) (wL3 : zM) (y4_3 : Int32), (zSI w wL3) → (∀ x, ((x < m + 7594 ∨ m + 7594 + 728 ≤ x)) ∧ x ≠ m → wL3 x = w x) → (0 ≤ y4_3.toInt) → (y4_3.toInt ≤ (g 48).toInt) → (wL3 m = some (.inl (15, zMo m g r))) → (∀ j, j < y4_3.toNatClampNeg → zU wL3 (m + 7594 + 28 * sg j + 2 * c9.toNatClampNeg) 1000 (P.1 j)) → (zBc wL3 m sg (g 48).toNatClampNeg c9.toNatClampNeg B0) → (zBq wL3 m sg) → (40 - y4_3.toInt).toNat < mm3 → zP (d + 1) zq_X16_column 3 [(0, .ref m), (1, .int c9), (2, .ref a), (3, .int 0), (4, .int y4_3)] [] wL3 sz 0 0 Post := by
    intro mm3
    induction mm3 with
    | zero => intros; omega
    | succ mm3 ih3 =>
    intro wL3 y4_3 hsiL3 heqL3 hi3_0 hi3_1 hmL3 hBj9 hBo9 hBq3 hmu3
    have ky4_3 := zrng y4_3
    have hz6 : (y4_3.toNatClampNeg : Int) = y4_3.toInt := znat (by first | omega | decide)
    refine zp_seg (pc' := 6) (lv' := [(0, .ref m), (1, .int c9), (2, .ref a), (3, .int 0), (4, .int y4_3)]) (st' := [.ref m, .int y4_3]) [(3, .iload 4), (5, .aload_n 0)] (by decide +kernel) rfl ?_
    refine zr_get (idx := 721) (k := 48) (v := .int (g 48)) (by decide +kernel) (by decide +kernel) hmL3 rfl ?_
    refine zp_if (i := .if_icmp .ge 69) (c := (g 48) ≤ y4_3) (t := 78) (e := 12) (lv' := [(0, .ref m), (1, .int c9), (2, .ref a), (3, .int 0), (4, .int y4_3)]) (st' := []) (by decide +kernel) rfl (fun cc9 => ?_) (fun cc9 => ?_)
    ·
      have f7 := zleI cc9
      have hmend : wL3 m = w m := by rw [hmL3, hm]
      have hoffend : ∀ x, (x < m + 7594 ∨ m + 7594 + 728 ≤ x) → wL3 x = w x := fun x hx => by
          by_cases ex : x = m
          · rw [ex]; exact hmend
          · exact (heqL3 x ⟨hx, ex⟩)
      have hb8 : zBq wL3 m sg := hBq_m_149.ag (fun x hx1 hx2 => (heqL3 x ⟨(zx_X16_columnA_0 hx1 hx2), (zx_X16_columnA_1 hx1 hx2)⟩))
      refine zr_retV (by decide +kernel) rfl ?_
      rw [← hPost]; exact ⟨rfl, _, rfl, hsiL3, hoffend, hb8, (by
            exact zBc.col hBo9 (by omega) (by omega) hBq3 (fun j hj => hBj9 j (by omega)) (fun i k hi hk x g1 g2 => rfl)), rfl⟩
    ·
      have f9 := znleI cc9
      refine zp_seg (pc' := 13) (lv' := [(0, .ref m), (1, .int c9), (2, .ref a), (3, .int 0), (4, .int y4_3)]) (st' := [.ref m]) [(12, .aload_n 0)] (by decide +kernel) rfl ?_
      refine zr_get (idx := 487) (k := 44) (v := .ref (m + 149)) (by decide +kernel) (by decide +kernel) hmL3 rfl ?_
      refine zp_seg (pc' := 18) (lv' := [(0, .ref m), (1, .int c9), (2, .ref a), (3, .int 0), (4, .int y4_3)]) (st' := [.int y4_3, .ref (m + 149)]) [(16, .iload 4)] (by decide +kernel) rfl ?_
      have hb10 : zBq wL3 m sg := hBq_m_149.ag (fun x hx1 hx2 => (heqL3 x ⟨(zx_X16_columnA_0 hx1 hx2), (zx_X16_columnA_1 hx1 hx2)⟩))
      obtain ⟨⟨f11, hg12, hg13⟩, -⟩ := id hb10
      obtain ⟨s18, hs18⟩ : ∃ s9, s9 = sg (y4_3.toNatClampNeg) := ⟨_, rfl⟩
      have hls18 : s18 < 26 := by rw [hs18]; exact hb10.lt _ (by omega)
      refine zr_aald (v := .ref (m + 150 + s18)) (by decide +kernel) hg12 (by decide) (zin (by first | omega | decide) (by first | omega | decide)) (by rw [hg13 _ (by omega), hs18]; rfl) ?_
      have hrw14 := hb10.row s18 hls18
      refine zp_seg (pc' := 20) (lv' := [(0, .ref m), (1, .int c9), (2, .ref a), (3, .int 0), (4, .int y4_3)]) (st' := [.int c9, .ref (m + 150 + s18)]) [(19, .iload_n 1)] (by decide +kernel) rfl ?_
      obtain ⟨t20, ht20⟩ : ∃ t9, t9 = (c9.toNatClampNeg) := ⟨_, rfl⟩
      have hlt20 : t20 < 14 := by rw [ht20]; omega
      refine zr_aald (v := .ref (m + 7594 + 28 * s18 + 2 * t20)) (by decide +kernel) hrw14 (by decide) (zin (by first | omega | decide) (by first | omega | decide)) (by rw [ht20]; exact zbq_at ⟨by omega, by omega⟩) ?_
      refine zp_seg (pc' := 23) (lv' := [(5, .ref (m + 7594 + 28 * s18 + 2 * t20)), (0, .ref m), (1, .int c9), (2, .ref a), (3, .int 0), (4, .int y4_3)]) (st' := []) [(21, .astore 5)] (by decide +kernel) rfl ?_
      have hb15 := hR_m.si hsiL3
      have hUo20 := (hb15).bdU s18 t20 hls18 hlt20
      refine zp_seg (pc' := 26) (lv' := [(5, .ref (m + 7594 + 28 * s18 + 2 * t20)), (0, .ref m), (1, .int c9), (2, .ref a), (3, .int 0), (4, .int y4_3)]) (st' := [.int 0, .ref (m + 7594 + 28 * s18 + 2 * t20)]) [(23, .aload 5), (25, .iconst 0)] (by decide +kernel) rfl ?_
      obtain ⟨n16, f17, hu18, hu19⟩ := id hUo20
      have kn16 := zrng n16
      refine zr_put2 (idx := 25) (k := 1) (fs2 := [.ref (m + 7594 + 28 * s18 + 2 * t20 + 1), .int 0]) (by decide +kernel) (by decide +kernel) hu18 (Nat.le_of_ble_eq_true rfl) rfl rfl rfl ?_
      show zP (d + 1) zq_X16_column 29 [(5, .ref (m + 7594 + 28 * s18 + 2 * t20)), (0, .ref m), (1, .int c9), (2, .ref a), (3, .int 0), (4, .int y4_3)] [] (zup wL3 (m + 7594 + 28 * s18 + 2 * t20) (.inl (14, [.ref (m + 7594 + 28 * s18 + 2 * t20 + 1), .int 0]))) sz 0 0 Post
      obtain ⟨w26, ew26⟩ : ∃ wz9, wz9 = zup wL3 (m + 7594 + 28 * s18 + 2 * t20) (.inl (14, [.ref (m + 7594 + 28 * s18 + 2 * t20 + 1), .int 0])) := ⟨_, rfl⟩
      have hsi26 : zSI wL3 w26 := by rw [ew26]; exact zSI.setU hu18
      have heq26 : ∀ x, x ≠ m + 7594 + 28 * s18 + 2 * t20 → w26 x = wL3 x := fun x hx => by rw [ew26]; exact zup_n hx
      have hc26 : w26 (m + 7594 + 28 * s18 + 2 * t20) = some (.inl (14, [.ref (m + 7594 + 28 * s18 + 2 * t20 + 1), .int 0])) := by rw [ew26]; exact zup_s
      rw [← ew26]
      clear ew26
      have hb20 : w26 (m + 7594 + 28 * s18 + 2 * t20 + 1) = some (.inr (0, 1000, .inl f17)) := (heq26 (m + 7594 + 28 * s18 + 2 * t20 + 1) (zx_X16_columnA_2 hls18 hlt20)).trans hu19
      have hU29 := zU.mk0 hc26 hb20
      refine zp_seg (pc' := 32) (lv' := [(5, .ref (m + 7594 + 28 * s18 + 2 * t20)), (0, .ref m), (1, .int c9), (2, .ref a), (3, .int 0), (4, .int y4_3)]) (st' := [.ref a, .int y4_3]) [(29, .iload 4), (31, .aload_n 2)] (by decide +kernel) rfl ?_
      obtain ⟨n21, hb22, hb23, hb24, hb25, -⟩ := id hB_a
      have kn21 := zrng n21
      have hb26 : w26 a = some (.inl (11, [.ref (a + 1), .int n21])) := ((heq26 a (zx_X16_columnA_5 hma hls18 hlt20)).trans (heqL3 a ⟨(zx_X16_columnA_3 hma), (zx_X16_columnA_4 hma)⟩)).trans hb22
      refine zr_get (idx := 93) (k := 1) (v := .int n21) (by decide +kernel) (by decide +kernel) hb26 rfl ?_
      refine zp_if (i := .if_icmp .ge 37) (c := n21 ≤ y4_3) (t := 72) (e := 38) (lv' := [(5, .ref (m + 7594 + 28 * s18 + 2 * t20)), (0, .ref m), (1, .int c9), (2, .ref a), (3, .int 0), (4, .int y4_3)]) (st' := []) (by decide +kernel) rfl (fun cc35 => ?_) (fun cc35 => ?_)
      ·
        have f27 := zleI cc35
        have hb28 : zBq w26 m sg := hb10.ag (fun x hx1 hx2 => (heq26 x (zx_X16_columnA_6 hx1 hx2 hls18 hlt20)))
        have hz72 : ¬ y4_3.toInt < (zrw P : Int) → P.1 y4_3.toNatClampNeg = zaZ := fun h9 => zrw_dg P _ (by omega)
        have hUq9 : zU w26 (m + 7594 + 28 * s18 + 2 * t20) 1000 (P.1 y4_3.toNatClampNeg) := by
          first
          | exact hU29
          | (have h9 := hz72 (by omega)
             rw [h9]
             first
             | exact hU29
             | (rw [zaM_Zr]; exact hU29))
        have hqi9 : ∀ j, j < (g 48).toNatClampNeg → j ≠ y4_3.toNatClampNeg → sg j ≠ s18 := fun j hj e e9 => e ((hb28).inj (by omega) (by omega) (e9.trans hs18))
        have hql9 : ∀ j, j < (g 48).toNatClampNeg → sg j < 26 := fun j hj => (hb28).lt j (by omega)
        refine zp_seg (pc' := 75) (lv' := [(4, .int (y4_3 + 1)), (5, .ref (m + 7594 + 28 * s18 + 2 * t20)), (0, .ref m), (1, .int c9), (2, .ref a), (3, .int 0)]) (st' := []) [(72, .iinc 4 1)] (by decide +kernel) rfl ?_
        have k29 := zaddC y4_3 1 (n := 1) (by decide) (by omega) (by omega)
        generalize ev75 : (y4_3 + 1 : Int32) = v75 at k29 ⊢
        have kv75 := zrng v75
        refine zp_seg (pc' := 3) (lv' := [(4, .int v75), (5, .ref (m + 7594 + 28 * s18 + 2 * t20)), (0, .ref m), (1, .int c9), (2, .ref a), (3, .int 0)]) (st' := []) [(75, .goto (-72))] (by decide +kernel) rfl ?_
        have hz30 : (v75.toNatClampNeg : Int) = v75.toInt := znat (by first | omega | decide)
        have hb31 : w26 m = some (.inl (15, zMo m g r)) := (heq26 m (zx_X16_columnA_8 hls18 hlt20)).trans hmL3
        exact (ih3 w26 v75 (hsiL3.tr hsi26) (fun x hx => ((heq26 x (zx_X16_columnA_7 hx.1 hls18 hlt20)).trans (heqL3 x ⟨hx.1, hx.2⟩))) (by first | assumption | omega | decide) (by first | assumption | omega | decide) hb31 (by
              intro j hj
              by_cases e : j = y4_3.toNatClampNeg
              · rw [e, ← hs18, ← ht20]; exact hUq9
              · have h8 := hqi9 j (by omega) e
                have h7 := hql9 j (by omega)
                exact (hBj9 j (by omega)).ag (fun x g1 g2 => (heq26 x (by omega)))) (by
              intro i k hi hk
              have h7 := hql9 i hi
              exact (hBo9 i k hi hk).ag (fun x g1 g2 => (heq26 x (by omega)))) (by
              exact hb28) (by omega)).more (zfa1 rfl (zfa1 rfl (zfa1 rfl (zfa1 rfl (zfa1 rfl (zfa0))))))
      ·
        have f32 := znleI cc35
        refine zp_seg (pc' := 39) (lv' := [(5, .ref (m + 7594 + 28 * s18 + 2 * t20)), (0, .ref m), (1, .int c9), (2, .ref a), (3, .int 0), (4, .int y4_3)]) (st' := [.int 0]) [(38, .iload_n 3)] (by decide +kernel) rfl ?_
        refine zp_pure (pc' := 60) (lv' := [(5, .ref (m + 7594 + 28 * s18 + 2 * t20)), (0, .ref m), (1, .int c9), (2, .ref a), (3, .int 0), (4, .int y4_3)]) (st' := []) (i := .ifCond .eq 21) (by decide +kernel) rfl ?_
        refine zp_seg (pc' := 63) (lv' := [(5, .ref (m + 7594 + 28 * s18 + 2 * t20)), (0, .ref m), (1, .int c9), (2, .ref a), (3, .int 0), (4, .int y4_3)]) (st' := [.ref a, .ref (m + 7594 + 28 * s18 + 2 * t20)]) [(60, .aload 5), (62, .aload_n 2)] (by decide +kernel) rfl ?_
        refine zr_get (idx := 98) (k := 0) (v := .ref (a + 1)) (by decide +kernel) (by decide +kernel) hb26 rfl ?_
        refine zp_seg (pc' := 68) (lv' := [(5, .ref (m + 7594 + 28 * s18 + 2 * t20)), (0, .ref m), (1, .int c9), (2, .ref a), (3, .int 0), (4, .int y4_3)]) (st' := [.int y4_3, .ref (a + 1), .ref (m + 7594 + 28 * s18 + 2 * t20)]) [(66, .iload 4)] (by decide +kernel) rfl ?_
        have hb33 : w26 (a + 1) = some (.inr (4, 64, zbr a)) := ((heq26 (a + 1) (zx_X16_columnA_11 hma hls18 hlt20)).trans (heqL3 (a + 1) ⟨(zx_X16_columnA_9 hma), (zx_X16_columnA_10 hma)⟩)).trans hb23
        refine zr_aald (v := .ref (a + 2 + 2 * y4_3.toNatClampNeg)) (by decide +kernel) hb33 (by decide) (zin (by first | omega | decide) (by first | omega | decide)) (zbr_at (by omega)) ?_
        have hb34 : zB w26 a P := hB_a.ag (fun x hx1 hx2 => ((heq26 x (zx_X16_columnA_14 hx1 hx2 hma hls18 hlt20)).trans (heqL3 x ⟨(zx_X16_columnA_12 hx1 hx2 hma), (zx_X16_columnA_13 hx1 hx2 hma)⟩)))
        have hrow35 := hb34.row (y4_3.toNatClampNeg) (by omega)
        have ho69_to := zU.o hU29
        refine zr_callS (idx := 62) (j := 264) (by decide +kernel) (by decide +kernel) (by decide) (show zMe 264 = some zq_X16_set from rfl) rfl rfl (Nat.le_of_ble_eq_true rfl) rfl rfl (Nat.le_of_ble_eq_true rfl) (Nat.le_of_ble_eq_true rfl) (c_X16_set (w := w26) (m + 7594 + 28 * s18 + 2 * t20) (a + 2 + 2 * y4_3.toNatClampNeg) ho69_to hrow35 (by first | omega | decide | assumption | exact zr1_1 | exact zr1_0 | fail "num") (by exact Nat.le_trans (hb34.row _ (by omega)).cap (by omega))) (by omega) (fun v69 w69 hp69 => ?_)
        obtain ⟨hsi69, heq69, hp69_0, rfl⟩ := hp69
        show zP _ _ _ _ [] _ _ _ _ _
        have hb36 : zBq w69 m sg := hb10.ag (fun x hx1 hx2 => ((heq69 x (zx_X16_columnA_15 hx1 hx2 hls18 hlt20)).trans (heq26 x (zx_X16_columnA_6 hx1 hx2 hls18 hlt20))))
        have hz72 : ¬ y4_3.toInt < (zrw P : Int) → P.1 y4_3.toNatClampNeg = zaZ := fun h9 => zrw_dg P _ (by omega)
        have hUq9 : zU w69 (m + 7594 + 28 * s18 + 2 * t20) 1000 (P.1 y4_3.toNatClampNeg) := by
          first
          | exact hp69_0
          | (have h9 := hz72 (by omega)
             rw [h9]
             first
             | exact hp69_0
             | (rw [zaM_Zr]; exact hp69_0))
        have hqi9 : ∀ j, j < (g 48).toNatClampNeg → j ≠ y4_3.toNatClampNeg → sg j ≠ s18 := fun j hj e e9 => e ((hb36).inj (by omega) (by omega) (e9.trans hs18))
        have hql9 : ∀ j, j < (g 48).toNatClampNeg → sg j < 26 := fun j hj => (hb36).lt j (by omega)
        refine zp_seg (pc' := 75) (lv' := [(4, .int (y4_3 + 1)), (5, .ref (m + 7594 + 28 * s18 + 2 * t20)), (0, .ref m), (1, .int c9), (2, .ref a), (3, .int 0)]) (st' := []) [(72, .iinc 4 1)] (by decide +kernel) rfl ?_
        have k37 := zaddC y4_3 1 (n := 1) (by decide) (by omega) (by omega)
        generalize ev75 : (y4_3 + 1 : Int32) = v75 at k37 ⊢
        have kv75 := zrng v75
        refine zp_seg (pc' := 3) (lv' := [(4, .int v75), (5, .ref (m + 7594 + 28 * s18 + 2 * t20)), (0, .ref m), (1, .int c9), (2, .ref a), (3, .int 0)]) (st' := []) [(75, .goto (-72))] (by decide +kernel) rfl ?_
        have hz38 : (v75.toNatClampNeg : Int) = v75.toInt := znat (by first | omega | decide)
        have hb39 : w69 m = some (.inl (15, zMo m g r)) := ((heq69 m (zx_X16_columnA_17 hls18 hlt20)).trans (heq26 m (zx_X16_columnA_8 hls18 hlt20))).trans hmL3
        exact (ih3 w69 v75 ((hsiL3.tr hsi26).tr hsi69) (fun x hx => ((heq69 x (zx_X16_columnA_16 hx.1 hls18 hlt20)).trans ((heq26 x (zx_X16_columnA_7 hx.1 hls18 hlt20)).trans (heqL3 x ⟨hx.1, hx.2⟩)))) (by first | assumption | omega | decide) (by first | assumption | omega | decide) hb39 (by
              intro j hj
              by_cases e : j = y4_3.toNatClampNeg
              · rw [e, ← hs18, ← ht20]; exact hUq9
              · have h8 := hqi9 j (by omega) e
                have h7 := hql9 j (by omega)
                exact (hBj9 j (by omega)).ag (fun x g1 g2 => ((heq69 x (by omega)).trans (heq26 x (by omega))))) (by
              intro i k hi hk
              have h7 := hql9 i hi
              exact (hBo9 i k hi hk).ag (fun x g1 g2 => ((heq69 x (by omega)).trans (heq26 x (by omega))))) (by
              exact hb36) (by omega)).more (zfa1 rfl (zfa1 rfl (zfa1 rfl (zfa1 rfl (zfa1 rfl (zfa0))))))
  have hl40 : (0 : Int32).toInt = 0 := by decide
  have hz41 : ((0 : Int32).toNatClampNeg : Int) = 0 := by decide
  exact (hL3 _ w 0 zSI.rf (fun _ _ => rfl) (by first | assumption | omega | decide) (by first | assumption | omega | decide) hm (by
        exact fun j hj => absurd hj (by omega)) (by
        exact hB0) (by
        exact hBq_m_149) (Nat.lt_succ_self _)).more (zfa1 rfl (zfa1 rfl (zfa1 rfl (zfa1 rfl (zfa1 rfl (zfa0))))))

theorem zx_X16_columnS_0 {m x : Nat} (h0 : m + 149 ≤ x) (h1 : x < m + 149 + 27) : x < m + 7594 ∨ m + 7594 + 728 ≤ x := by omega
theorem zx_X16_columnS_1 {m x : Nat} (h0 : m + 149 ≤ x) (h1 : x < m + 149 + 27) : x ≠ m := by omega
theorem zx_X16_columnS_2 {m s18 t20 : Nat} (h0 : s18 < 26) (h1 : t20 < 14) : (m + 7594 + 28 * s18 + 2 * t20 + 1) ≠ m + 7594 + 28 * s18 + 2 * t20 := by omega
theorem zx_X16_columnS_3 {a m : Nat} (h0 : m + 596 ≤ a ∧ a + 130 ≤ m + 6316) : a < m + 7594 ∨ m + 7594 + 728 ≤ a := by omega
theorem zx_X16_columnS_4 {a m : Nat} (h0 : m + 596 ≤ a ∧ a + 130 ≤ m + 6316) : a ≠ m := by omega
theorem zx_X16_columnS_5 {a m s18 t20 : Nat} (h0 : m + 596 ≤ a ∧ a + 130 ≤ m + 6316) (h1 : s18 < 26) (h2 : t20 < 14) : a ≠ m + 7594 + 28 * s18 + 2 * t20 := by omega
theorem zx_X16_columnS_6 {m s18 t20 x : Nat} (h0 : m + 149 ≤ x) (h1 : x < m + 149 + 27) (h2 : s18 < 26) (h3 : t20 < 14) : x ≠ m + 7594 + 28 * s18 + 2 * t20 := by omega
theorem zx_X16_columnS_7 {m s18 t20 x : Nat} (h0 : x < m + 7594 ∨ m + 7594 + 728 ≤ x) (h1 : s18 < 26) (h2 : t20 < 14) : x ≠ m + 7594 + 28 * s18 + 2 * t20 := by omega
theorem zx_X16_columnS_8 {m s18 t20 : Nat} (h0 : s18 < 26) (h1 : t20 < 14) : m ≠ m + 7594 + 28 * s18 + 2 * t20 := by omega
theorem zx_X16_columnS_9 {a m : Nat} (h0 : m + 596 ≤ a ∧ a + 130 ≤ m + 6316) : (a + 1) < m + 7594 ∨ m + 7594 + 728 ≤ (a + 1) := by omega
theorem zx_X16_columnS_10 {a m : Nat} (h0 : m + 596 ≤ a ∧ a + 130 ≤ m + 6316) : (a + 1) ≠ m := by omega
theorem zx_X16_columnS_11 {a m s18 t20 : Nat} (h0 : m + 596 ≤ a ∧ a + 130 ≤ m + 6316) (h1 : s18 < 26) (h2 : t20 < 14) : (a + 1) ≠ m + 7594 + 28 * s18 + 2 * t20 := by omega
theorem zx_X16_columnS_12 {a m x : Nat} (h0 : a ≤ x) (h1 : x < a + 130) (h2 : m + 596 ≤ a ∧ a + 130 ≤ m + 6316) : x < m + 7594 ∨ m + 7594 + 728 ≤ x := by omega
theorem zx_X16_columnS_13 {a m x : Nat} (h0 : a ≤ x) (h1 : x < a + 130) (h2 : m + 596 ≤ a ∧ a + 130 ≤ m + 6316) : x ≠ m := by omega
theorem zx_X16_columnS_14 {a m s18 t20 x : Nat} (h0 : a ≤ x) (h1 : x < a + 130) (h2 : m + 596 ≤ a ∧ a + 130 ≤ m + 6316) (h3 : s18 < 26) (h4 : t20 < 14) : x ≠ m + 7594 + 28 * s18 + 2 * t20 := by omega
theorem zx_X16_columnS_15 {m s18 t20 x : Nat} (h0 : m + 149 ≤ x) (h1 : x < m + 149 + 27) (h2 : s18 < 26) (h3 : t20 < 14) : x < m + 7594 + 28 * s18 + 2 * t20 ∨ m + 7594 + 28 * s18 + 2 * t20 + 2 ≤ x := by omega
theorem zx_X16_columnS_16 {m s18 t20 x : Nat} (h0 : x < m + 7594 ∨ m + 7594 + 728 ≤ x) (h1 : s18 < 26) (h2 : t20 < 14) : x < m + 7594 + 28 * s18 + 2 * t20 ∨ m + 7594 + 28 * s18 + 2 * t20 + 2 ≤ x := by omega
theorem zx_X16_columnS_17 {m s18 t20 : Nat} (h0 : s18 < 26) (h1 : t20 < 14) : m < m + 7594 + 28 * s18 + 2 * t20 ∨ m + 7594 + 28 * s18 + 2 * t20 + 2 ≤ m := by omega
set_option maxHeartbeats 8000000 in
set_option maxRecDepth 100000 in
theorem c_X16_columnS {w : zM} {g : Nat → Int32} {r : Nat → Value} {sg : Nat → Nat} {B0 : Nat → Nat → zA1} {P : zA2} {g48 : Int32} (m : Nat) (c9 : Int32) (a : Nat) (hm : w m = some (.inl (15, zMo m g r))) (hR_m : zR m w) (hBq_m_149 : zBq w m sg) (hB_a : zB w a P) (hn : 0 ≤ g48.toInt ∧ g48.toInt ≤ 26) (hc9 : 0 ≤ c9.toInt ∧ c9.toInt < 14) (hB0 : zBc w m sg g48.toNatClampNeg c9.toNatClampNeg B0) (hma : m + 596 ≤ a ∧ a + 130 ≤ m + 6316) (hg48 : g 48 = g48) : zCon 3 zq_X16_column [.ref m, .int c9, .ref a, .int 1] w (fun v9 w9' => zSI w w9' ∧ (∀ x, (x < m + 7594 ∨ m + 7594 + 728 ≤ x) → w9' x = w x) ∧ zBq w9' m sg ∧ zBc w9' m sg g48.toNatClampNeg (c9.toNatClampNeg + 1) (fun i k => if k = c9.toNatClampNeg then zaM (zaC (zf 2147483646)) (P.1 i) else B0 i k) ∧ v9 = none) := by
  subst hg48
  intro d sz hd
  obtain ⟨d, rfl⟩ : ∃ d9, d = d9 + 1 := ⟨d - 1, by omega⟩
  generalize hPost : (fun (r9' : Option (Option Value)) (w9' : zM) (z9 : Nat) => z9 = sz ∧ ∃ v9, r9' = some v9 ∧ (zSI w w9' ∧ (∀ x, (x < m + 7594 ∨ m + 7594 + 728 ≤ x) → w9' x = w x) ∧ zBq w9' m sg ∧ zBc w9' m sg (g 48).toNatClampNeg (c9.toNatClampNeg + 1) (fun i k => if k = c9.toNatClampNeg then zaM (zaC (zf 2147483646)) (P.1 i) else B0 i k) ∧ v9 = none)) = Post
  show zP (d + 1) zq_X16_column 0 [(0, .ref m), (1, .int c9), (2, .ref a), (3, .int 1)] [] w sz 0 0 Post
  have k1 := zrng c9
  have k3 := zrng (g 48)
  have hz4 : ((g 48).toNatClampNeg : Int) = (g 48).toInt := znat (by first | omega | decide)
  have hz5 : (c9.toNatClampNeg : Int) = c9.toInt := znat (by first | omega | decide)
  refine zp_seg (pc' := 3) (lv' := [(4, .int 0), (0, .ref m), (1, .int c9), (2, .ref a), (3, .int 1)]) (st' := []) [(0, .iconst 0), (1, .istore 4)] (by decide +kernel) rfl ?_
  have hL3 : ∀ (mm3 : Nat) (wL3 : zM) (y4_3 : Int32), (zSI w wL3) → (∀ x, ((x < m + 7594 ∨ m + 7594 + 728 ≤ x)) ∧ x ≠ m → wL3 x = w x) → (0 ≤ y4_3.toInt) → (y4_3.toInt ≤ (g 48).toInt) → (wL3 m = some (.inl (15, zMo m g r))) → (∀ j, j < y4_3.toNatClampNeg → zU wL3 (m + 7594 + 28 * sg j + 2 * c9.toNatClampNeg) 1000 (zaM (zaC (zf 2147483646)) (P.1 j))) → (zBc wL3 m sg (g 48).toNatClampNeg c9.toNatClampNeg B0) → (zBq wL3 m sg) → (40 - y4_3.toInt).toNat < mm3 → zP (d + 1) zq_X16_column 3 [(0, .ref m), (1, .int c9), (2, .ref a), (3, .int 1), (4, .int y4_3)] [] wL3 sz 0 0 Post := by
    intro mm3
    induction mm3 with
    | zero => intros; omega
    | succ mm3 ih3 =>
    intro wL3 y4_3 hsiL3 heqL3 hi3_0 hi3_1 hmL3 hBj9 hBo9 hBq3 hmu3
    have ky4_3 := zrng y4_3
    have hz6 : (y4_3.toNatClampNeg : Int) = y4_3.toInt := znat (by first | omega | decide)
    refine zp_seg (pc' := 6) (lv' := [(0, .ref m), (1, .int c9), (2, .ref a), (3, .int 1), (4, .int y4_3)]) (st' := [.ref m, .int y4_3]) [(3, .iload 4), (5, .aload_n 0)] (by decide +kernel) rfl ?_
    refine zr_get (idx := 721) (k := 48) (v := .int (g 48)) (by decide +kernel) (by decide +kernel) hmL3 rfl ?_
    refine zp_if (i := .if_icmp .ge 69) (c := (g 48) ≤ y4_3) (t := 78) (e := 12) (lv' := [(0, .ref m), (1, .int c9), (2, .ref a), (3, .int 1), (4, .int y4_3)]) (st' := []) (by decide +kernel) rfl (fun cc9 => ?_) (fun cc9 => ?_)
    ·
      have f7 := zleI cc9
      have hmend : wL3 m = w m := by rw [hmL3, hm]
      have hoffend : ∀ x, (x < m + 7594 ∨ m + 7594 + 728 ≤ x) → wL3 x = w x := fun x hx => by
          by_cases ex : x = m
          · rw [ex]; exact hmend
          · exact (heqL3 x ⟨hx, ex⟩)
      have hb8 : zBq wL3 m sg := hBq_m_149.ag (fun x hx1 hx2 => (heqL3 x ⟨(zx_X16_columnS_0 hx1 hx2), (zx_X16_columnS_1 hx1 hx2)⟩))
      refine zr_retV (by decide +kernel) rfl ?_
      rw [← hPost]; exact ⟨rfl, _, rfl, hsiL3, hoffend, hb8, (by
            exact zBc.col hBo9 (by omega) (by omega) hBq3 (fun j hj => hBj9 j (by omega)) (fun i k hi hk x g1 g2 => rfl)), rfl⟩
    ·
      have f9 := znleI cc9
      refine zp_seg (pc' := 13) (lv' := [(0, .ref m), (1, .int c9), (2, .ref a), (3, .int 1), (4, .int y4_3)]) (st' := [.ref m]) [(12, .aload_n 0)] (by decide +kernel) rfl ?_
      refine zr_get (idx := 487) (k := 44) (v := .ref (m + 149)) (by decide +kernel) (by decide +kernel) hmL3 rfl ?_
      refine zp_seg (pc' := 18) (lv' := [(0, .ref m), (1, .int c9), (2, .ref a), (3, .int 1), (4, .int y4_3)]) (st' := [.int y4_3, .ref (m + 149)]) [(16, .iload 4)] (by decide +kernel) rfl ?_
      have hb10 : zBq wL3 m sg := hBq_m_149.ag (fun x hx1 hx2 => (heqL3 x ⟨(zx_X16_columnS_0 hx1 hx2), (zx_X16_columnS_1 hx1 hx2)⟩))
      obtain ⟨⟨f11, hg12, hg13⟩, -⟩ := id hb10
      obtain ⟨s18, hs18⟩ : ∃ s9, s9 = sg (y4_3.toNatClampNeg) := ⟨_, rfl⟩
      have hls18 : s18 < 26 := by rw [hs18]; exact hb10.lt _ (by omega)
      refine zr_aald (v := .ref (m + 150 + s18)) (by decide +kernel) hg12 (by decide) (zin (by first | omega | decide) (by first | omega | decide)) (by rw [hg13 _ (by omega), hs18]; rfl) ?_
      have hrw14 := hb10.row s18 hls18
      refine zp_seg (pc' := 20) (lv' := [(0, .ref m), (1, .int c9), (2, .ref a), (3, .int 1), (4, .int y4_3)]) (st' := [.int c9, .ref (m + 150 + s18)]) [(19, .iload_n 1)] (by decide +kernel) rfl ?_
      obtain ⟨t20, ht20⟩ : ∃ t9, t9 = (c9.toNatClampNeg) := ⟨_, rfl⟩
      have hlt20 : t20 < 14 := by rw [ht20]; omega
      refine zr_aald (v := .ref (m + 7594 + 28 * s18 + 2 * t20)) (by decide +kernel) hrw14 (by decide) (zin (by first | omega | decide) (by first | omega | decide)) (by rw [ht20]; exact zbq_at ⟨by omega, by omega⟩) ?_
      refine zp_seg (pc' := 23) (lv' := [(5, .ref (m + 7594 + 28 * s18 + 2 * t20)), (0, .ref m), (1, .int c9), (2, .ref a), (3, .int 1), (4, .int y4_3)]) (st' := []) [(21, .astore 5)] (by decide +kernel) rfl ?_
      have hb15 := hR_m.si hsiL3
      have hUo20 := (hb15).bdU s18 t20 hls18 hlt20
      refine zp_seg (pc' := 26) (lv' := [(5, .ref (m + 7594 + 28 * s18 + 2 * t20)), (0, .ref m), (1, .int c9), (2, .ref a), (3, .int 1), (4, .int y4_3)]) (st' := [.int 0, .ref (m + 7594 + 28 * s18 + 2 * t20)]) [(23, .aload 5), (25, .iconst 0)] (by decide +kernel) rfl ?_
      obtain ⟨n16, f17, hu18, hu19⟩ := id hUo20
      have kn16 := zrng n16
      refine zr_put2 (idx := 25) (k := 1) (fs2 := [.ref (m + 7594 + 28 * s18 + 2 * t20 + 1), .int 0]) (by decide +kernel) (by decide +kernel) hu18 (Nat.le_of_ble_eq_true rfl) rfl rfl rfl ?_
      show zP (d + 1) zq_X16_column 29 [(5, .ref (m + 7594 + 28 * s18 + 2 * t20)), (0, .ref m), (1, .int c9), (2, .ref a), (3, .int 1), (4, .int y4_3)] [] (zup wL3 (m + 7594 + 28 * s18 + 2 * t20) (.inl (14, [.ref (m + 7594 + 28 * s18 + 2 * t20 + 1), .int 0]))) sz 0 0 Post
      obtain ⟨w26, ew26⟩ : ∃ wz9, wz9 = zup wL3 (m + 7594 + 28 * s18 + 2 * t20) (.inl (14, [.ref (m + 7594 + 28 * s18 + 2 * t20 + 1), .int 0])) := ⟨_, rfl⟩
      have hsi26 : zSI wL3 w26 := by rw [ew26]; exact zSI.setU hu18
      have heq26 : ∀ x, x ≠ m + 7594 + 28 * s18 + 2 * t20 → w26 x = wL3 x := fun x hx => by rw [ew26]; exact zup_n hx
      have hc26 : w26 (m + 7594 + 28 * s18 + 2 * t20) = some (.inl (14, [.ref (m + 7594 + 28 * s18 + 2 * t20 + 1), .int 0])) := by rw [ew26]; exact zup_s
      rw [← ew26]
      clear ew26
      have hb20 : w26 (m + 7594 + 28 * s18 + 2 * t20 + 1) = some (.inr (0, 1000, .inl f17)) := (heq26 (m + 7594 + 28 * s18 + 2 * t20 + 1) (zx_X16_columnS_2 hls18 hlt20)).trans hu19
      have hU29 := zU.mk0 hc26 hb20
      refine zp_seg (pc' := 32) (lv' := [(5, .ref (m + 7594 + 28 * s18 + 2 * t20)), (0, .ref m), (1, .int c9), (2, .ref a), (3, .int 1), (4, .int y4_3)]) (st' := [.ref a, .int y4_3]) [(29, .iload 4), (31, .aload_n 2)] (by decide +kernel) rfl ?_
      obtain ⟨n21, hb22, hb23, hb24, hb25, -⟩ := id hB_a
      have kn21 := zrng n21
      have hb26 : w26 a = some (.inl (11, [.ref (a + 1), .int n21])) := ((heq26 a (zx_X16_columnS_5 hma hls18 hlt20)).trans (heqL3 a ⟨(zx_X16_columnS_3 hma), (zx_X16_columnS_4 hma)⟩)).trans hb22
      refine zr_get (idx := 93) (k := 1) (v := .int n21) (by decide +kernel) (by decide +kernel) hb26 rfl ?_
      refine zp_if (i := .if_icmp .ge 37) (c := n21 ≤ y4_3) (t := 72) (e := 38) (lv' := [(5, .ref (m + 7594 + 28 * s18 + 2 * t20)), (0, .ref m), (1, .int c9), (2, .ref a), (3, .int 1), (4, .int y4_3)]) (st' := []) (by decide +kernel) rfl (fun cc35 => ?_) (fun cc35 => ?_)
      ·
        have f27 := zleI cc35
        have hb28 : zBq w26 m sg := hb10.ag (fun x hx1 hx2 => (heq26 x (zx_X16_columnS_6 hx1 hx2 hls18 hlt20)))
        have hz72 : ¬ y4_3.toInt < (zrw P : Int) → P.1 y4_3.toNatClampNeg = zaZ := fun h9 => zrw_dg P _ (by omega)
        have hUq9 : zU w26 (m + 7594 + 28 * s18 + 2 * t20) 1000 (zaM (zaC (zf 2147483646)) (P.1 y4_3.toNatClampNeg)) := by
          first
          | exact hU29
          | (have h9 := hz72 (by omega)
             rw [h9]
             first
             | exact hU29
             | (rw [zaM_Zr]; exact hU29))
        have hqi9 : ∀ j, j < (g 48).toNatClampNeg → j ≠ y4_3.toNatClampNeg → sg j ≠ s18 := fun j hj e e9 => e ((hb28).inj (by omega) (by omega) (e9.trans hs18))
        have hql9 : ∀ j, j < (g 48).toNatClampNeg → sg j < 26 := fun j hj => (hb28).lt j (by omega)
        refine zp_seg (pc' := 75) (lv' := [(4, .int (y4_3 + 1)), (5, .ref (m + 7594 + 28 * s18 + 2 * t20)), (0, .ref m), (1, .int c9), (2, .ref a), (3, .int 1)]) (st' := []) [(72, .iinc 4 1)] (by decide +kernel) rfl ?_
        have k29 := zaddC y4_3 1 (n := 1) (by decide) (by omega) (by omega)
        generalize ev75 : (y4_3 + 1 : Int32) = v75 at k29 ⊢
        have kv75 := zrng v75
        refine zp_seg (pc' := 3) (lv' := [(4, .int v75), (5, .ref (m + 7594 + 28 * s18 + 2 * t20)), (0, .ref m), (1, .int c9), (2, .ref a), (3, .int 1)]) (st' := []) [(75, .goto (-72))] (by decide +kernel) rfl ?_
        have hz30 : (v75.toNatClampNeg : Int) = v75.toInt := znat (by first | omega | decide)
        have hb31 : w26 m = some (.inl (15, zMo m g r)) := (heq26 m (zx_X16_columnS_8 hls18 hlt20)).trans hmL3
        exact (ih3 w26 v75 (hsiL3.tr hsi26) (fun x hx => ((heq26 x (zx_X16_columnS_7 hx.1 hls18 hlt20)).trans (heqL3 x ⟨hx.1, hx.2⟩))) (by first | assumption | omega | decide) (by first | assumption | omega | decide) hb31 (by
              intro j hj
              by_cases e : j = y4_3.toNatClampNeg
              · rw [e, ← hs18, ← ht20]; exact hUq9
              · have h8 := hqi9 j (by omega) e
                have h7 := hql9 j (by omega)
                exact (hBj9 j (by omega)).ag (fun x g1 g2 => (heq26 x (by omega)))) (by
              intro i k hi hk
              have h7 := hql9 i hi
              exact (hBo9 i k hi hk).ag (fun x g1 g2 => (heq26 x (by omega)))) (by
              exact hb28) (by omega)).more (zfa1 rfl (zfa1 rfl (zfa1 rfl (zfa1 rfl (zfa1 rfl (zfa0))))))
      ·
        have f32 := znleI cc35
        refine zp_seg (pc' := 39) (lv' := [(5, .ref (m + 7594 + 28 * s18 + 2 * t20)), (0, .ref m), (1, .int c9), (2, .ref a), (3, .int 1), (4, .int y4_3)]) (st' := [.int 1]) [(38, .iload_n 3)] (by decide +kernel) rfl ?_
        refine zp_pure (pc' := 42) (lv' := [(5, .ref (m + 7594 + 28 * s18 + 2 * t20)), (0, .ref m), (1, .int c9), (2, .ref a), (3, .int 1), (4, .int y4_3)]) (st' := []) (i := .ifCond .eq 21) (by decide +kernel) rfl ?_
        refine zp_seg (pc' := 45) (lv' := [(5, .ref (m + 7594 + 28 * s18 + 2 * t20)), (0, .ref m), (1, .int c9), (2, .ref a), (3, .int 1), (4, .int y4_3)]) (st' := [.ref a, .ref (m + 7594 + 28 * s18 + 2 * t20)]) [(42, .aload 5), (44, .aload_n 2)] (by decide +kernel) rfl ?_
        refine zr_get (idx := 98) (k := 0) (v := .ref (a + 1)) (by decide +kernel) (by decide +kernel) hb26 rfl ?_
        refine zp_seg (pc' := 50) (lv' := [(5, .ref (m + 7594 + 28 * s18 + 2 * t20)), (0, .ref m), (1, .int c9), (2, .ref a), (3, .int 1), (4, .int y4_3)]) (st' := [.int y4_3, .ref (a + 1), .ref (m + 7594 + 28 * s18 + 2 * t20)]) [(48, .iload 4)] (by decide +kernel) rfl ?_
        have hb33 : w26 (a + 1) = some (.inr (4, 64, zbr a)) := ((heq26 (a + 1) (zx_X16_columnS_11 hma hls18 hlt20)).trans (heqL3 (a + 1) ⟨(zx_X16_columnS_9 hma), (zx_X16_columnS_10 hma)⟩)).trans hb23
        refine zr_aald (v := .ref (a + 2 + 2 * y4_3.toNatClampNeg)) (by decide +kernel) hb33 (by decide) (zin (by first | omega | decide) (by first | omega | decide)) (zbr_at (by omega)) ?_
        have hb34 : zB w26 a P := hB_a.ag (fun x hx1 hx2 => ((heq26 x (zx_X16_columnS_14 hx1 hx2 hma hls18 hlt20)).trans (heqL3 x ⟨(zx_X16_columnS_12 hx1 hx2 hma), (zx_X16_columnS_13 hx1 hx2 hma)⟩)))
        have hrow35 := hb34.row (y4_3.toNatClampNeg) (by omega)
        refine zr_ldcw (idx := 720) (v := 2147483646) (by decide +kernel) (by decide +kernel) ?_
        have ho54_to := zU.o hU29
        refine zr_callS (idx := 70) (j := 266) (by decide +kernel) (by decide +kernel) (by decide) (show zMe 266 = some zq_X16_scale from rfl) rfl rfl (Nat.le_of_ble_eq_true rfl) rfl rfl (Nat.le_of_ble_eq_true rfl) (Nat.le_of_ble_eq_true rfl) (c_X16_scale (w := w26) (m + 7594 + 28 * s18 + 2 * t20) (a + 2 + 2 * y4_3.toNatClampNeg) 2147483646 ho54_to hrow35 (by exact zr1_m1) (by exact Nat.le_trans (hb34.row _ (by omega)).cap (by omega))) (by omega) (fun v54 w54 hp54 => ?_)
        obtain ⟨hsi54, heq54, hp54_0, rfl⟩ := hp54
        show zP _ _ _ _ [] _ _ _ _ _
        refine zp_seg (pc' := 72) (lv' := [(5, .ref (m + 7594 + 28 * s18 + 2 * t20)), (0, .ref m), (1, .int c9), (2, .ref a), (3, .int 1), (4, .int y4_3)]) (st' := []) [(57, .goto 15)] (by decide +kernel) rfl ?_
        have hb36 : zBq w54 m sg := hb10.ag (fun x hx1 hx2 => ((heq54 x (zx_X16_columnS_15 hx1 hx2 hls18 hlt20)).trans (heq26 x (zx_X16_columnS_6 hx1 hx2 hls18 hlt20))))
        have hz72 : ¬ y4_3.toInt < (zrw P : Int) → P.1 y4_3.toNatClampNeg = zaZ := fun h9 => zrw_dg P _ (by omega)
        have hUq9 : zU w54 (m + 7594 + 28 * s18 + 2 * t20) 1000 (zaM (zaC (zf 2147483646)) (P.1 y4_3.toNatClampNeg)) := by
          first
          | exact hp54_0
          | (have h9 := hz72 (by omega)
             rw [h9]
             first
             | exact hp54_0
             | (rw [zaM_Zr]; exact hp54_0))
        have hqi9 : ∀ j, j < (g 48).toNatClampNeg → j ≠ y4_3.toNatClampNeg → sg j ≠ s18 := fun j hj e e9 => e ((hb36).inj (by omega) (by omega) (e9.trans hs18))
        have hql9 : ∀ j, j < (g 48).toNatClampNeg → sg j < 26 := fun j hj => (hb36).lt j (by omega)
        refine zp_seg (pc' := 75) (lv' := [(4, .int (y4_3 + 1)), (5, .ref (m + 7594 + 28 * s18 + 2 * t20)), (0, .ref m), (1, .int c9), (2, .ref a), (3, .int 1)]) (st' := []) [(72, .iinc 4 1)] (by decide +kernel) rfl ?_
        have k37 := zaddC y4_3 1 (n := 1) (by decide) (by omega) (by omega)
        generalize ev75 : (y4_3 + 1 : Int32) = v75 at k37 ⊢
        have kv75 := zrng v75
        refine zp_seg (pc' := 3) (lv' := [(4, .int v75), (5, .ref (m + 7594 + 28 * s18 + 2 * t20)), (0, .ref m), (1, .int c9), (2, .ref a), (3, .int 1)]) (st' := []) [(75, .goto (-72))] (by decide +kernel) rfl ?_
        have hz38 : (v75.toNatClampNeg : Int) = v75.toInt := znat (by first | omega | decide)
        have hb39 : w54 m = some (.inl (15, zMo m g r)) := ((heq54 m (zx_X16_columnS_17 hls18 hlt20)).trans (heq26 m (zx_X16_columnS_8 hls18 hlt20))).trans hmL3
        exact (ih3 w54 v75 ((hsiL3.tr hsi26).tr hsi54) (fun x hx => ((heq54 x (zx_X16_columnS_16 hx.1 hls18 hlt20)).trans ((heq26 x (zx_X16_columnS_7 hx.1 hls18 hlt20)).trans (heqL3 x ⟨hx.1, hx.2⟩)))) (by first | assumption | omega | decide) (by first | assumption | omega | decide) hb39 (by
              intro j hj
              by_cases e : j = y4_3.toNatClampNeg
              · rw [e, ← hs18, ← ht20]; exact hUq9
              · have h8 := hqi9 j (by omega) e
                have h7 := hql9 j (by omega)
                exact (hBj9 j (by omega)).ag (fun x g1 g2 => ((heq54 x (by omega)).trans (heq26 x (by omega))))) (by
              intro i k hi hk
              have h7 := hql9 i hi
              exact (hBo9 i k hi hk).ag (fun x g1 g2 => ((heq54 x (by omega)).trans (heq26 x (by omega))))) (by
              exact hb36) (by omega)).more (zfa1 rfl (zfa1 rfl (zfa1 rfl (zfa1 rfl (zfa1 rfl (zfa0))))))
  have hl40 : (0 : Int32).toInt = 0 := by decide
  have hz41 : ((0 : Int32).toNatClampNeg : Int) = 0 := by decide
  exact (hL3 _ w 0 zSI.rf (fun _ _ => rfl) (by first | assumption | omega | decide) (by first | assumption | omega | decide) hm (by
        exact fun j hj => absurd hj (by omega)) (by
        exact hB0) (by
        exact hBq_m_149) (Nat.lt_succ_self _)).more (zfa1 rfl (zfa1 rfl (zfa1 rfl (zfa1 rfl (zfa1 rfl (zfa0))))))
