theorem zx_X16_turn_0 {to x : Nat} (h0 : x < to ∨ to + 130 ≤ x) : x < to + 2 ∨ to + 2 + 128 ≤ x := by omega
theorem zx_X16_turn_1 {to x : Nat} (h0 : x < to ∨ to + 130 ≤ x) : x ≠ to := by omega
theorem zx_X16_turn_2 {to x : Nat} (h0 : x < to ∨ to + 130 ≤ x) : x < to ∨ to + 1 ≤ x := by omega
theorem zx_X16_turn_3 {a to : Nat} (h0 : to + 130 ≤ a ∨ a + 130 ≤ to) : a < to + 2 ∨ to + 2 + 128 ≤ a := by omega
theorem zx_X16_turn_4 {a to : Nat} (h0 : to + 130 ≤ a ∨ a + 130 ≤ to) : (a + 1) < to + 2 ∨ to + 2 + 128 ≤ (a + 1) := by omega
theorem zx_X16_turn_5 {a to x : Nat} (h0 : a ≤ x) (h1 : x < a + 130) (h2 : to + 130 ≤ a ∨ a + 130 ≤ to) : x < to + 2 ∨ to + 2 + 128 ≤ x := by omega
set_option maxHeartbeats 8000000 in
set_option maxRecDepth 100000 in
theorem c_X16_turn {w : zM} {q : zA2} (to : Nat) (a : Nat) (hBo_to : zBo w to) (hB_a : zB w a q) (hdj : to + 130 ≤ a ∨ a + 130 ≤ to) (hqn : zdn q ≤ 63) : zCon 2 zq_X16_turn [.ref to, .ref a] w (fun v9 w9' => zSI w w9' ∧ (∀ x, (x < to ∨ to + 130 ≤ x) → w9' x = w x) ∧ zB w9' to (zbTn q) ∧ v9 = none) := by
  intro d sz hd
  obtain ⟨d, rfl⟩ : ∃ d9, d = d9 + 1 := ⟨d - 1, by omega⟩
  generalize hPost : (fun (r9' : Option (Option Value)) (w9' : zM) (z9 : Nat) => z9 = sz ∧ ∃ v9, r9' = some v9 ∧ (zSI w w9' ∧ (∀ x, (x < to ∨ to + 130 ≤ x) → w9' x = w x) ∧ zB w9' to (zbTn q) ∧ v9 = none)) = Post
  show zP (d + 1) zq_X16_turn 0 [(0, .ref to), (1, .ref a)] [] w sz 0 0 Post
  obtain ⟨n9, hQ91, hQ92, hQ93, hQ94, hQ95, hQ96⟩ := id hB_a
  have kn9 := zrng n9
  refine zp_seg (pc' := 1) (lv' := [(0, .ref to), (1, .ref a)]) (st' := [.ref a]) [(0, .aload_n 1)] (by decide +kernel) rfl ?_
  refine zr_get (idx := 93) (k := 1) (v := .int n9) (by decide +kernel) (by decide +kernel) hQ91 rfl ?_
  refine zp_if (i := .ifCond .ne 7) (c := ¬ n9 = 0) (t := 11) (e := 7) (lv' := [(0, .ref to), (1, .ref a)]) (st' := []) (by decide +kernel) rfl (fun cc4 => ?_) (fun cc4 => ?_)
  ·
    have k1 := zrng n9
    have f3 := zneI cc4
    rw [show (0 : Int32).toInt = 0 from by decide] at f3
    refine zp_seg (pc' := 12) (lv' := [(0, .ref to), (1, .ref a)]) (st' := [.ref a]) [(11, .aload_n 1)] (by decide +kernel) rfl ?_
    refine zr_callV (idx := 119) (j := 248) (by decide +kernel) (by decide +kernel) (show zMe 248 = some zq_X12_degreeN from rfl) rfl rfl (Nat.le_of_ble_eq_true rfl) rfl rfl hQ91 (Nat.le_of_ble_eq_true rfl) (Nat.le_of_ble_eq_true rfl) (c_X12_degreeN (w := w) a hB_a) (by omega) (fun v12 w12 hp12 => ?_)
    obtain ⟨hpw12, r12, rfl, hr12⟩ := hp12
    replace hpw12 := hpw12.symm
    subst hpw12
    have kr12 := zrng r12
    show zP _ _ _ _ [.int r12] _ _ _ _ _
    refine zp_seg (pc' := 17) (lv' := [(0, .ref to), (1, .ref a)]) (st' := [.int (r12 + 1)]) [(15, .iconst 1), (16, .iadd)] (by decide +kernel) rfl ?_
    have k4 := zaddC r12 1 (n := 1) (by decide) (by omega) (by omega)
    generalize ev17 : (r12 + 1 : Int32) = v17 at k4 ⊢
    have kv17 := zrng v17
    refine zp_seg (pc' := 18) (lv' := [(2, .int v17), (0, .ref to), (1, .ref a)]) (st' := []) [(17, .istore_n 2)] (by decide +kernel) rfl ?_
    have hz5 : (v17.toNatClampNeg : Int) = v17.toInt := znat (by first | omega | decide)
    refine zp_seg (pc' := 20) (lv' := [(3, .int 0), (2, .int v17), (0, .ref to), (1, .ref a)]) (st' := []) [(18, .iconst 0), (19, .istore_n 3)] (by decide +kernel) rfl ?_
    have hL20 : ∀ (mm20 : Nat) (wL20 : zM) (y3_20 : Int32), (zSI w wL20) → (∀ x, (x < to + 2 ∨ to + 2 + 128 ≤ x) → wL20 x = w x) → (0 ≤ y3_20.toInt) → (y3_20.toInt ≤ v17.toInt) → (∀ t, t < y3_20.toNatClampNeg → zU wL20 (to + 2 + 2 * t) 200 ((zbTn q).1 t)) → (300 - y3_20.toInt).toNat < mm20 → zP (d + 1) zq_X16_turn 20 [(0, .ref to), (1, .ref a), (2, .int v17), (3, .int y3_20)] [] wL20 sz 0 0 Post := by
      intro mm20
      induction mm20 with
      | zero => intros; omega
      | succ mm20 ih20 =>
      intro wL20 y3_20 hsiL20 heqL20 hi20_0 hi20_1 hT hmu20
      have ky3_20 := zrng y3_20
      have hz6 : (y3_20.toNatClampNeg : Int) = y3_20.toInt := znat (by first | omega | decide)
      refine zp_seg (pc' := 22) (lv' := [(0, .ref to), (1, .ref a), (2, .int v17), (3, .int y3_20)]) (st' := [.int v17, .int y3_20]) [(20, .iload_n 3), (21, .iload_n 2)] (by decide +kernel) rfl ?_
      refine zp_if (i := .if_icmp .ge 72) (c := v17 ≤ y3_20) (t := 94) (e := 25) (lv' := [(0, .ref to), (1, .ref a), (2, .int v17), (3, .int y3_20)]) (st' := []) (by decide +kernel) rfl (fun cc22 => ?_) (fun cc22 => ?_)
      ·
        have f7 := zleI cc22
        refine zp_seg (pc' := 96) (lv' := [(0, .ref to), (1, .ref a), (2, .int v17), (3, .int y3_20)]) (st' := [.int v17, .ref to]) [(94, .aload_n 0), (95, .iload_n 2)] (by decide +kernel) rfl ?_
        have hb13 := hBo_to.si hsiL20
        obtain ⟨n8, hb9, hb10, -⟩ := id hb13
        have kn8 := zrng n8
        refine zr_put2 (idx := 93) (k := 1) (fs2 := [.ref (to + 1), .int v17]) (by decide +kernel) (by decide +kernel) hb9 (Nat.le_of_ble_eq_true rfl) rfl rfl rfl ?_
        show zP (d + 1) zq_X16_turn 99 [(0, .ref to), (1, .ref a), (2, .int v17), (3, .int y3_20)] [] (zup wL20 to (.inl (11, [.ref (to + 1), .int v17]))) sz 0 0 Post
        obtain ⟨w96, ew96⟩ : ∃ wz9, wz9 = zup wL20 to (.inl (11, [.ref (to + 1), .int v17])) := ⟨_, rfl⟩
        have hsi96 : zSI wL20 w96 := by rw [ew96]; exact zSI.setB hb9
        have heq96 : ∀ x, x ≠ to → w96 x = wL20 x := fun x hx => by rw [ew96]; exact zup_n hx
        have hc96 : w96 to = some (.inl (11, [.ref (to + 1), .int v17])) := by rw [ew96]; exact zup_s
        rw [← ew96]
        clear ew96
        have hb14 := hb13.si hsi96
        have hBn9 : zBw w96 to v17.toNatClampNeg (zbTn q) := zBw.mk hb14 hc96 (by omega) (by omega) (fun j hj => (hT j (by omega)).ag (fun x g1 g2 => (heq96 x (by omega)))) (fun j hj => zbTn_end j (by omega))
        refine zp_seg (pc' := 100) (lv' := [(0, .ref to), (1, .ref a), (2, .int v17), (3, .int y3_20)]) (st' := [.ref to]) [(99, .aload_n 0)] (by decide +kernel) rfl ?_
        refine zr_callV (idx := 105) (j := 244) (by decide +kernel) (by decide +kernel) (show zMe 244 = some zq_X12_trim from rfl) rfl rfl (Nat.le_of_ble_eq_true rfl) rfl rfl hc96 (Nat.le_of_ble_eq_true rfl) (Nat.le_of_ble_eq_true rfl) (c_X12_trim (w := w96) to hBn9) (by omega) (fun v100 w100 hp100 => ?_)
        obtain ⟨hsi100, heq100, hp100_0, rfl⟩ := hp100
        show zP _ _ _ _ [] _ _ _ _ _
        have hoffend : ∀ x, (x < to ∨ to + 130 ≤ x) → w100 x = w x := fun x hx => ((heq100 x (zx_X16_turn_2 hx)).trans ((heq96 x (zx_X16_turn_1 hx)).trans (heqL20 x (zx_X16_turn_0 hx))))
        refine zr_retV (by decide +kernel) rfl ?_
        rw [← hPost]; exact ⟨rfl, _, rfl, ((hsiL20.tr hsi96).tr hsi100), hoffend, (by first | exact hp100_0 | (have z9 := hp100_0; simpa using z9)), rfl⟩
      ·
        have f15 := znleI cc22
        have hb16 := hBo_to.si hsiL20
        obtain ⟨nr9, fr9, hr91, hr92⟩ := (hb16).rowo y3_20.toNatClampNeg (by omega)
        refine zp_seg (pc' := 28) (lv' := [(4, .int 0), (0, .ref to), (1, .ref a), (2, .int v17), (3, .int y3_20)]) (st' := []) [(25, .iconst 0), (26, .istore 4)] (by decide +kernel) rfl ?_
        have hL28 : ∀ (mm28 : Nat) (wL28 : zM) (y4_28 : Int32) (fz : Nat → Int32), (zSI wL20 wL28) → (∀ x, (x < to + 2 + 2 * y3_20.toNatClampNeg + 1 ∨ to + 2 + 2 * y3_20.toNatClampNeg + 1 + 1 ≤ x) → wL28 x = wL20 x) → (0 ≤ y4_28.toInt) → (y4_28.toInt ≤ (zrw q : Int)) → (wL28 (to + 2 + 2 * y3_20.toNatClampNeg + 1) = some (.inr (0, 200, .inl fz))) → (∀ t, t < y4_28.toNatClampNeg → zr1 (fz t) ∧ zf (fz t) = (q.1 t).1 y3_20.toNatClampNeg) → (300 - y4_28.toInt).toNat < mm28 → zP (d + 1) zq_X16_turn 28 [(0, .ref to), (1, .ref a), (2, .int v17), (3, .int y3_20), (4, .int y4_28)] [] wL28 sz 0 0 Post := by
          intro mm28
          induction mm28 with
          | zero => intros; omega
          | succ mm28 ih28 =>
          intro wL28 y4_28 fz hsiL28 heqL28 hi28_0 hi28_1 hAz hZ hmu28
          have ky4_28 := zrng y4_28
          have hz17 : (y4_28.toNatClampNeg : Int) = y4_28.toInt := znat (by first | omega | decide)
          refine zp_seg (pc' := 31) (lv' := [(0, .ref to), (1, .ref a), (2, .int v17), (3, .int y3_20), (4, .int y4_28)]) (st' := [.ref a, .int y4_28]) [(28, .iload 4), (30, .aload_n 1)] (by decide +kernel) rfl ?_
          have hb18 : wL28 a = some (.inl (11, [.ref (a + 1), .int n9])) := ((heqL28 a (by omega)).trans (heqL20 a (zx_X16_turn_3 hdj))).trans hQ91
          refine zr_get (idx := 93) (k := 1) (v := .int n9) (by decide +kernel) (by decide +kernel) hb18 rfl ?_
          refine zp_if (i := .if_icmp .ge 32) (c := n9 ≤ y4_28) (t := 66) (e := 37) (lv' := [(0, .ref to), (1, .ref a), (2, .int v17), (3, .int y3_20), (4, .int y4_28)]) (st' := []) (by decide +kernel) rfl (fun cc34 => ?_) (fun cc34 => ?_)
          ·
            have f19 := zleI cc34
            refine zp_seg (pc' := 67) (lv' := [(0, .ref to), (1, .ref a), (2, .int v17), (3, .int y3_20), (4, .int y4_28)]) (st' := [.ref to]) [(66, .aload_n 0)] (by decide +kernel) rfl ?_
            have hb25 := hb16.si hsiL28
            obtain ⟨n20, hb21, hb22, -⟩ := id hb25
            have kn20 := zrng n20
            refine zr_get (idx := 98) (k := 0) (v := .ref (to + 1)) (by decide +kernel) (by decide +kernel) hb21 rfl ?_
            refine zp_seg (pc' := 71) (lv' := [(0, .ref to), (1, .ref a), (2, .int v17), (3, .int y3_20), (4, .int y4_28)]) (st' := [.int y3_20, .ref (to + 1)]) [(70, .iload_n 3)] (by decide +kernel) rfl ?_
            refine zr_aald (v := .ref (to + 2 + 2 * y3_20.toNatClampNeg)) (by decide +kernel) hb22 (by decide) (zin (by first | omega | decide) (by first | omega | decide)) (zbr_at (by omega)) ?_
            refine zp_seg (pc' := 73) (lv' := [(0, .ref to), (1, .ref a), (2, .int v17), (3, .int y3_20), (4, .int y4_28)]) (st' := [.ref a, .ref (to + 2 + 2 * y3_20.toNatClampNeg)]) [(72, .aload_n 1)] (by decide +kernel) rfl ?_
            refine zr_get (idx := 93) (k := 1) (v := .int n9) (by decide +kernel) (by decide +kernel) hb18 rfl ?_
            have hb26 : wL28 (to + 2 + 2 * y3_20.toNatClampNeg) = some (.inl (14, [.ref (to + 2 + 2 * y3_20.toNatClampNeg + 1), .int nr9])) := (heqL28 (to + 2 + 2 * y3_20.toNatClampNeg) (by omega)).trans hr91
            refine zr_put2 (idx := 25) (k := 1) (fs2 := [.ref (to + 2 + 2 * y3_20.toNatClampNeg + 1), .int n9]) (by decide +kernel) (by decide +kernel) hb26 (Nat.le_of_ble_eq_true rfl) rfl rfl rfl ?_
            show zP (d + 1) zq_X16_turn 79 [(0, .ref to), (1, .ref a), (2, .int v17), (3, .int y3_20), (4, .int y4_28)] [] (zup wL28 (to + 2 + 2 * y3_20.toNatClampNeg) (.inl (14, [.ref (to + 2 + 2 * y3_20.toNatClampNeg + 1), .int n9]))) sz 0 0 Post
            obtain ⟨w76, ew76⟩ : ∃ wz9, wz9 = zup wL28 (to + 2 + 2 * y3_20.toNatClampNeg) (.inl (14, [.ref (to + 2 + 2 * y3_20.toNatClampNeg + 1), .int n9])) := ⟨_, rfl⟩
            have hsi76 : zSI wL28 w76 := by rw [ew76]; exact zSI.setU hb26
            have heq76 : ∀ x, x ≠ to + 2 + 2 * y3_20.toNatClampNeg → w76 x = wL28 x := fun x hx => by rw [ew76]; exact zup_n hx
            have hc76 : w76 (to + 2 + 2 * y3_20.toNatClampNeg) = some (.inl (14, [.ref (to + 2 + 2 * y3_20.toNatClampNeg + 1), .int n9])) := by rw [ew76]; exact zup_s
            rw [← ew76]
            clear ew76
            refine zp_seg (pc' := 80) (lv' := [(0, .ref to), (1, .ref a), (2, .int v17), (3, .int y3_20), (4, .int y4_28)]) (st' := [.ref to]) [(79, .aload_n 0)] (by decide +kernel) rfl ?_
            have hb27 : w76 to = some (.inl (11, [.ref (to + 1), .int n20])) := (heq76 to (by omega)).trans hb21
            refine zr_get (idx := 98) (k := 0) (v := .ref (to + 1)) (by decide +kernel) (by decide +kernel) hb27 rfl ?_
            refine zp_seg (pc' := 84) (lv' := [(0, .ref to), (1, .ref a), (2, .int v17), (3, .int y3_20), (4, .int y4_28)]) (st' := [.int y3_20, .ref (to + 1)]) [(83, .iload_n 3)] (by decide +kernel) rfl ?_
            have hb28 : w76 (to + 1) = some (.inr (4, 64, zbr to)) := (heq76 (to + 1) (by omega)).trans hb22
            refine zr_aald (v := .ref (to + 2 + 2 * y3_20.toNatClampNeg)) (by decide +kernel) hb28 (by decide) (zin (by first | omega | decide) (by first | omega | decide)) (zbr_at (by omega)) ?_
            have hb29 : w76 (to + 2 + 2 * y3_20.toNatClampNeg + 1) = some (.inr (0, 200, .inl fz)) := (heq76 (to + 2 + 2 * y3_20.toNatClampNeg + 1) (by omega)).trans hAz
            have hUn9 : zUw w76 (to + 2 + 2 * y3_20.toNatClampNeg) 200 (zrw q) ((zbTn q).1 y3_20.toNatClampNeg) := by
              refine ⟨_, fz, hc76, hb29, by omega, by omega, fun t ht => ?_, fun t ht => ?_⟩
              · rw [zbTn_c]; exact hZ t (by omega)
              · rw [zbTn_c, zrw_dg q t (by omega), zaZ_c]
            refine zr_callV (idx := 52) (j := 251) (by decide +kernel) (by decide +kernel) (show zMe 251 = some zq_X15_trim from rfl) rfl rfl (Nat.le_of_ble_eq_true rfl) rfl rfl hc76 (Nat.le_of_ble_eq_true rfl) (Nat.le_of_ble_eq_true rfl) (c_X15_trim (w := w76) (to + 2 + 2 * y3_20.toNatClampNeg) hUn9) (by omega) (fun v85 w85 hp85 => ?_)
            obtain ⟨hsi85, heq85, hp85_0, rfl⟩ := hp85
            show zP _ _ _ _ [] _ _ _ _ _
            refine zp_seg (pc' := 91) (lv' := [(3, .int (y3_20 + 1)), (0, .ref to), (1, .ref a), (2, .int v17), (4, .int y4_28)]) (st' := []) [(88, .iinc 3 1)] (by decide +kernel) rfl ?_
            have k30 := zaddC y3_20 1 (n := 1) (by decide) (by omega) (by omega)
            generalize ev91 : (y3_20 + 1 : Int32) = v91 at k30 ⊢
            have kv91 := zrng v91
            refine zp_seg (pc' := 20) (lv' := [(3, .int v91), (0, .ref to), (1, .ref a), (2, .int v17), (4, .int y4_28)]) (st' := []) [(91, .goto (-71))] (by decide +kernel) rfl ?_
            have hz31 : (v91.toNatClampNeg : Int) = v91.toInt := znat (by first | omega | decide)
            exact (ih20 w85 v91 (((hsiL20.tr hsiL28).tr hsi76).tr hsi85) (fun x hx => ((heq85 x (by omega)).trans ((heq76 x (by omega)).trans ((heqL28 x (by omega)).trans (heqL20 x hx))))) (by first | assumption | omega | decide) (by first | assumption | omega | decide) (by
                  intro t ht
                  by_cases e : t = y3_20.toNatClampNeg
                  · rw [e]; exact hp85_0
                  · exact (hT t (by omega)).ag (fun x g1 g2 => ((heq85 x (by omega)).trans ((heq76 x (by omega)).trans (heqL28 x (by omega)))))) (by omega)).more (zfa1 rfl (zfa1 rfl (zfa1 rfl (zfa1 rfl (zfa0)))))
          ·
            have f32 := znleI cc34
            refine zp_seg (pc' := 38) (lv' := [(0, .ref to), (1, .ref a), (2, .int v17), (3, .int y3_20), (4, .int y4_28)]) (st' := [.ref to]) [(37, .aload_n 0)] (by decide +kernel) rfl ?_
            have hb38 := hb16.si hsiL28
            obtain ⟨n33, hb34, hb35, -⟩ := id hb38
            have kn33 := zrng n33
            refine zr_get (idx := 98) (k := 0) (v := .ref (to + 1)) (by decide +kernel) (by decide +kernel) hb34 rfl ?_
            refine zp_seg (pc' := 42) (lv' := [(0, .ref to), (1, .ref a), (2, .int v17), (3, .int y3_20), (4, .int y4_28)]) (st' := [.int y3_20, .ref (to + 1)]) [(41, .iload_n 3)] (by decide +kernel) rfl ?_
            refine zr_aald (v := .ref (to + 2 + 2 * y3_20.toNatClampNeg)) (by decide +kernel) hb35 (by decide) (zin (by first | omega | decide) (by first | omega | decide)) (zbr_at (by omega)) ?_
            have hb39 : wL28 (to + 2 + 2 * y3_20.toNatClampNeg) = some (.inl (14, [.ref (to + 2 + 2 * y3_20.toNatClampNeg + 1), .int nr9])) := (heqL28 (to + 2 + 2 * y3_20.toNatClampNeg) (by omega)).trans hr91
            refine zr_get (idx := 30) (k := 0) (v := .ref (to + 2 + 2 * y3_20.toNatClampNeg + 1)) (by decide +kernel) (by decide +kernel) hb39 rfl ?_
            refine zp_seg (pc' := 49) (lv' := [(0, .ref to), (1, .ref a), (2, .int v17), (3, .int y3_20), (4, .int y4_28)]) (st' := [.ref a, .int y4_28, .ref (to + 2 + 2 * y3_20.toNatClampNeg + 1)]) [(46, .iload 4), (48, .aload_n 1)] (by decide +kernel) rfl ?_
            refine zr_get (idx := 98) (k := 0) (v := .ref (a + 1)) (by decide +kernel) (by decide +kernel) hb18 rfl ?_
            refine zp_seg (pc' := 54) (lv' := [(0, .ref to), (1, .ref a), (2, .int v17), (3, .int y3_20), (4, .int y4_28)]) (st' := [.int y4_28, .ref (a + 1), .int y4_28, .ref (to + 2 + 2 * y3_20.toNatClampNeg + 1)]) [(52, .iload 4)] (by decide +kernel) rfl ?_
            have hb40 : wL28 (a + 1) = some (.inr (4, 64, zbr a)) := ((heqL28 (a + 1) (by omega)).trans (heqL20 (a + 1) (zx_X16_turn_4 hdj))).trans hQ92
            refine zr_aald (v := .ref (a + 2 + 2 * y4_28.toNatClampNeg)) (by decide +kernel) hb40 (by decide) (zin (by first | omega | decide) (by first | omega | decide)) (zbr_at (by omega)) ?_
            have hb41 : zB wL28 a q := hB_a.ag (fun x hx1 hx2 => ((heqL28 x (by omega)).trans (heqL20 x (zx_X16_turn_5 hx1 hx2 hdj))))
            have hrow42 := hb41.row (y4_28.toNatClampNeg) (by omega)
            refine zp_seg (pc' := 56) (lv' := [(0, .ref to), (1, .ref a), (2, .int v17), (3, .int y3_20), (4, .int y4_28)]) (st' := [.int y3_20, .ref (a + 2 + 2 * y4_28.toNatClampNeg), .int y4_28, .ref (to + 2 + 2 * y3_20.toNatClampNeg + 1)]) [(55, .iload_n 3)] (by decide +kernel) rfl ?_
            obtain ⟨n43, f44, hu45, hu46, hu47, hu48, hu49⟩ := id hrow42
            have kn43 := zrng n43
            refine zr_callV (idx := 122) (j := 254) (by decide +kernel) (by decide +kernel) (show zMe 254 = some zq_X15_at from rfl) rfl rfl (Nat.le_of_ble_eq_true rfl) rfl rfl hu45 (Nat.le_of_ble_eq_true rfl) (Nat.le_of_ble_eq_true rfl) (c_X15_at (w := wL28) (a + 2 + 2 * y4_28.toNatClampNeg) y3_20 hrow42) (by omega) (fun v56 w56 hp56 => ?_)
            obtain ⟨hpw56, r56, rfl, hr56⟩ := hp56
            replace hpw56 := hpw56.symm
            subst hpw56
            have kr56 := zrng r56
            show zP _ _ _ _ [.int r56, .int y4_28, .ref (to + 2 + 2 * y3_20.toNatClampNeg + 1)] _ _ _ _ _
            refine zr_iast (by decide +kernel) hAz (zin (by first | omega | decide) (by first | omega | decide)) ?_
            show zP (d + 1) zq_X16_turn 60 [(0, .ref to), (1, .ref a), (2, .int v17), (3, .int y3_20), (4, .int y4_28)] [] (zup wL28 (to + 2 + 2 * y3_20.toNatClampNeg + 1) (.inr (0, 200, .inl (upd fz (y4_28.toNatClampNeg) r56)))) sz 0 0 Post
            obtain ⟨w59, ew59⟩ : ∃ wz9, wz9 = zup wL28 (to + 2 + 2 * y3_20.toNatClampNeg + 1) (.inr (0, 200, .inl (upd fz (y4_28.toNatClampNeg) r56))) := ⟨_, rfl⟩
            have hsi59 : zSI wL28 w59 := by rw [ew59]; exact zSI.arr _ hAz
            have heq59 : ∀ x, x ≠ to + 2 + 2 * y3_20.toNatClampNeg + 1 → w59 x = wL28 x := fun x hx => by rw [ew59]; exact zup_n hx
            have hc59 : w59 (to + 2 + 2 * y3_20.toNatClampNeg + 1) = some (.inr (0, 200, .inl (upd fz (y4_28.toNatClampNeg) r56))) := by rw [ew59]; exact zup_s
            rw [← ew59]
            clear ew59
            refine zp_seg (pc' := 63) (lv' := [(4, .int (y4_28 + 1)), (0, .ref to), (1, .ref a), (2, .int v17), (3, .int y3_20)]) (st' := []) [(60, .iinc 4 1)] (by decide +kernel) rfl ?_
            have k50 := zaddC y4_28 1 (n := 1) (by decide) (by omega) (by omega)
            generalize ev63 : (y4_28 + 1 : Int32) = v63 at k50 ⊢
            have kv63 := zrng v63
            refine zp_seg (pc' := 28) (lv' := [(4, .int v63), (0, .ref to), (1, .ref a), (2, .int v17), (3, .int y3_20)]) (st' := []) [(63, .goto (-35))] (by decide +kernel) rfl ?_
            have hz51 : (v63.toNatClampNeg : Int) = v63.toInt := znat (by first | omega | decide)
            exact (ih28 w59 v63 ((upd fz (y4_28.toNatClampNeg) r56)) (hsiL28.tr hsi59) (fun x hx => ((heq59 x (by omega)).trans (heqL28 x hx))) (by first | assumption | omega | decide) (by first | assumption | omega | decide) hc59 (by
                  intro t ht
                  by_cases e : t = y4_28.toNatClampNeg
                  · rw [e, zupd_s]
                    exact ⟨hr56.1, hr56.2 (by omega)⟩
                  · rw [zupd_n _ _ e]
                    exact hZ t (by omega)) (by omega)).more (zfa1 rfl (zfa1 rfl (zfa1 rfl (zfa1 rfl (zfa1 rfl (zfa0))))))
        have hl52 : (0 : Int32).toInt = 0 := by decide
        have hz53 : ((0 : Int32).toNatClampNeg : Int) = 0 := by decide
        exact (hL28 _ wL20 0 (fr9) zSI.rf (fun _ _ => rfl) (by first | assumption | omega | decide) (by first | assumption | omega | decide) hr92 (by
              exact fun t ht => absurd ht (by omega)) (Nat.lt_succ_self _)).more (zfa1 rfl (zfa1 rfl (zfa1 rfl (zfa1 rfl (zfa1 rfl (zfa0))))))
    have hl54 : (0 : Int32).toInt = 0 := by decide
    have hz55 : ((0 : Int32).toNatClampNeg : Int) = 0 := by decide
    exact (hL20 _ w 0 zSI.rf (fun _ _ => rfl) (by first | assumption | omega | decide) (by first | assumption | omega | decide) (by
          exact fun t ht => absurd ht (by omega)) (Nat.lt_succ_self _)).more (zfa1 rfl (zfa1 rfl (zfa1 rfl (zfa1 rfl (zfa0)))))
  ·
    replace cc4 := Classical.not_not.mp cc4
    have k56 := zrng n9
    have f58 := zeqI cc4
    rw [show (0 : Int32).toInt = 0 from by decide] at f58
    refine zp_seg (pc' := 18) (lv' := [(2, .int 0), (0, .ref to), (1, .ref a)]) (st' := []) [(7, .iconst 0), (8, .goto 9), (17, .istore_n 2)] (by decide +kernel) rfl ?_
    have hz59 : ((0 : Int32).toNatClampNeg : Int) = 0 := by decide
    have hl60 : (0 : Int32).toInt = 0 := by decide
    refine zp_seg (pc' := 20) (lv' := [(3, .int 0), (2, .int 0), (0, .ref to), (1, .ref a)]) (st' := []) [(18, .iconst 0), (19, .istore_n 3)] (by decide +kernel) rfl ?_
    have hL20 : ∀ (mm20 : Nat) (wL20 : zM) (y3_20 : Int32), (zSI w wL20) → (∀ x, (x < to + 2 ∨ to + 2 + 128 ≤ x) → wL20 x = w x) → (0 ≤ y3_20.toInt) → (y3_20.toInt ≤ (0 : Int32).toInt) → (∀ t, t < y3_20.toNatClampNeg → zU wL20 (to + 2 + 2 * t) 200 ((zbTn q).1 t)) → (300 - y3_20.toInt).toNat < mm20 → zP (d + 1) zq_X16_turn 20 [(0, .ref to), (1, .ref a), (2, .int 0), (3, .int y3_20)] [] wL20 sz 0 0 Post := by
      intro mm20
      induction mm20 with
      | zero => intros; omega
      | succ mm20 ih20 =>
      intro wL20 y3_20 hsiL20 heqL20 hi20_0 hi20_1 hT hmu20
      have ky3_20 := zrng y3_20
      have hz61 : (y3_20.toNatClampNeg : Int) = y3_20.toInt := znat (by first | omega | decide)
      refine zp_seg (pc' := 22) (lv' := [(0, .ref to), (1, .ref a), (2, .int 0), (3, .int y3_20)]) (st' := [.int 0, .int y3_20]) [(20, .iload_n 3), (21, .iload_n 2)] (by decide +kernel) rfl ?_
      refine zp_if (i := .if_icmp .ge 72) (c := 0 ≤ y3_20) (t := 94) (e := 25) (lv' := [(0, .ref to), (1, .ref a), (2, .int 0), (3, .int y3_20)]) (st' := []) (by decide +kernel) rfl (fun cc22 => ?_) (fun cc22 => ?_)
      ·
        have f62 := zleI cc22
        rw [show (0 : Int32).toInt = 0 from by decide] at f62
        refine zp_seg (pc' := 96) (lv' := [(0, .ref to), (1, .ref a), (2, .int 0), (3, .int y3_20)]) (st' := [.int 0, .ref to]) [(94, .aload_n 0), (95, .iload_n 2)] (by decide +kernel) rfl ?_
        have hb68 := hBo_to.si hsiL20
        obtain ⟨n63, hb64, hb65, -⟩ := id hb68
        have kn63 := zrng n63
        refine zr_put2 (idx := 93) (k := 1) (fs2 := [.ref (to + 1), .int 0]) (by decide +kernel) (by decide +kernel) hb64 (Nat.le_of_ble_eq_true rfl) rfl rfl rfl ?_
        show zP (d + 1) zq_X16_turn 99 [(0, .ref to), (1, .ref a), (2, .int 0), (3, .int y3_20)] [] (zup wL20 to (.inl (11, [.ref (to + 1), .int 0]))) sz 0 0 Post
        obtain ⟨w96, ew96⟩ : ∃ wz9, wz9 = zup wL20 to (.inl (11, [.ref (to + 1), .int 0])) := ⟨_, rfl⟩
        have hsi96 : zSI wL20 w96 := by rw [ew96]; exact zSI.setB hb64
        have heq96 : ∀ x, x ≠ to → w96 x = wL20 x := fun x hx => by rw [ew96]; exact zup_n hx
        have hc96 : w96 to = some (.inl (11, [.ref (to + 1), .int 0])) := by rw [ew96]; exact zup_s
        rw [← ew96]
        clear ew96
        have hb69 := hb68.si hsi96
        have hBn9 : zBw w96 to (0 : Int32).toNatClampNeg (zbTn q) := zBw.mk hb69 hc96 (by omega) (by omega) (fun j hj => (hT j (by omega)).ag (fun x g1 g2 => (heq96 x (by omega)))) (fun j hj => zbTn_end j (by omega))
        refine zp_seg (pc' := 100) (lv' := [(0, .ref to), (1, .ref a), (2, .int 0), (3, .int y3_20)]) (st' := [.ref to]) [(99, .aload_n 0)] (by decide +kernel) rfl ?_
        refine zr_callV (idx := 105) (j := 244) (by decide +kernel) (by decide +kernel) (show zMe 244 = some zq_X12_trim from rfl) rfl rfl (Nat.le_of_ble_eq_true rfl) rfl rfl hc96 (Nat.le_of_ble_eq_true rfl) (Nat.le_of_ble_eq_true rfl) (c_X12_trim (w := w96) to hBn9) (by omega) (fun v100 w100 hp100 => ?_)
        obtain ⟨hsi100, heq100, hp100_0, rfl⟩ := hp100
        show zP _ _ _ _ [] _ _ _ _ _
        have hoffend : ∀ x, (x < to ∨ to + 130 ≤ x) → w100 x = w x := fun x hx => ((heq100 x (zx_X16_turn_2 hx)).trans ((heq96 x (zx_X16_turn_1 hx)).trans (heqL20 x (zx_X16_turn_0 hx))))
        refine zr_retV (by decide +kernel) rfl ?_
        rw [← hPost]; exact ⟨rfl, _, rfl, ((hsiL20.tr hsi96).tr hsi100), hoffend, (by first | exact hp100_0 | (have z9 := hp100_0; simpa using z9)), rfl⟩
      ·
        have f70 := znleI cc22
        rw [show (0 : Int32).toInt = 0 from by decide] at f70
        have hb71 := hBo_to.si hsiL20
        obtain ⟨nr9, fr9, hr91, hr92⟩ := (hb71).rowo y3_20.toNatClampNeg (by omega)
        refine zp_seg (pc' := 28) (lv' := [(4, .int 0), (0, .ref to), (1, .ref a), (2, .int 0), (3, .int y3_20)]) (st' := []) [(25, .iconst 0), (26, .istore 4)] (by decide +kernel) rfl ?_
        have hL28 : ∀ (mm28 : Nat) (wL28 : zM) (y4_28 : Int32) (fz : Nat → Int32), (zSI wL20 wL28) → (∀ x, (x < to + 2 + 2 * y3_20.toNatClampNeg + 1 ∨ to + 2 + 2 * y3_20.toNatClampNeg + 1 + 1 ≤ x) → wL28 x = wL20 x) → (0 ≤ y4_28.toInt) → (y4_28.toInt ≤ (zrw q : Int)) → (wL28 (to + 2 + 2 * y3_20.toNatClampNeg + 1) = some (.inr (0, 200, .inl fz))) → (∀ t, t < y4_28.toNatClampNeg → zr1 (fz t) ∧ zf (fz t) = (q.1 t).1 y3_20.toNatClampNeg) → (300 - y4_28.toInt).toNat < mm28 → zP (d + 1) zq_X16_turn 28 [(0, .ref to), (1, .ref a), (2, .int 0), (3, .int y3_20), (4, .int y4_28)] [] wL28 sz 0 0 Post := by
          intro mm28
          induction mm28 with
          | zero => intros; omega
          | succ mm28 ih28 =>
          intro wL28 y4_28 fz hsiL28 heqL28 hi28_0 hi28_1 hAz hZ hmu28
          have ky4_28 := zrng y4_28
          have hz72 : (y4_28.toNatClampNeg : Int) = y4_28.toInt := znat (by first | omega | decide)
          refine zp_seg (pc' := 31) (lv' := [(0, .ref to), (1, .ref a), (2, .int 0), (3, .int y3_20), (4, .int y4_28)]) (st' := [.ref a, .int y4_28]) [(28, .iload 4), (30, .aload_n 1)] (by decide +kernel) rfl ?_
          have hb73 : wL28 a = some (.inl (11, [.ref (a + 1), .int n9])) := ((heqL28 a (by omega)).trans (heqL20 a (zx_X16_turn_3 hdj))).trans hQ91
          refine zr_get (idx := 93) (k := 1) (v := .int n9) (by decide +kernel) (by decide +kernel) hb73 rfl ?_
          refine zp_if (i := .if_icmp .ge 32) (c := n9 ≤ y4_28) (t := 66) (e := 37) (lv' := [(0, .ref to), (1, .ref a), (2, .int 0), (3, .int y3_20), (4, .int y4_28)]) (st' := []) (by decide +kernel) rfl (fun cc34 => ?_) (fun cc34 => ?_)
          ·
            have f74 := zleI cc34
            refine zp_seg (pc' := 67) (lv' := [(0, .ref to), (1, .ref a), (2, .int 0), (3, .int y3_20), (4, .int y4_28)]) (st' := [.ref to]) [(66, .aload_n 0)] (by decide +kernel) rfl ?_
            have hb80 := hb71.si hsiL28
            obtain ⟨n75, hb76, hb77, -⟩ := id hb80
            have kn75 := zrng n75
            refine zr_get (idx := 98) (k := 0) (v := .ref (to + 1)) (by decide +kernel) (by decide +kernel) hb76 rfl ?_
            refine zp_seg (pc' := 71) (lv' := [(0, .ref to), (1, .ref a), (2, .int 0), (3, .int y3_20), (4, .int y4_28)]) (st' := [.int y3_20, .ref (to + 1)]) [(70, .iload_n 3)] (by decide +kernel) rfl ?_
            refine zr_aald (v := .ref (to + 2 + 2 * y3_20.toNatClampNeg)) (by decide +kernel) hb77 (by decide) (zin (by first | omega | decide) (by first | omega | decide)) (zbr_at (by omega)) ?_
            refine zp_seg (pc' := 73) (lv' := [(0, .ref to), (1, .ref a), (2, .int 0), (3, .int y3_20), (4, .int y4_28)]) (st' := [.ref a, .ref (to + 2 + 2 * y3_20.toNatClampNeg)]) [(72, .aload_n 1)] (by decide +kernel) rfl ?_
            refine zr_get (idx := 93) (k := 1) (v := .int n9) (by decide +kernel) (by decide +kernel) hb73 rfl ?_
            have hb81 : wL28 (to + 2 + 2 * y3_20.toNatClampNeg) = some (.inl (14, [.ref (to + 2 + 2 * y3_20.toNatClampNeg + 1), .int nr9])) := (heqL28 (to + 2 + 2 * y3_20.toNatClampNeg) (by omega)).trans hr91
            refine zr_put2 (idx := 25) (k := 1) (fs2 := [.ref (to + 2 + 2 * y3_20.toNatClampNeg + 1), .int n9]) (by decide +kernel) (by decide +kernel) hb81 (Nat.le_of_ble_eq_true rfl) rfl rfl rfl ?_
            show zP (d + 1) zq_X16_turn 79 [(0, .ref to), (1, .ref a), (2, .int 0), (3, .int y3_20), (4, .int y4_28)] [] (zup wL28 (to + 2 + 2 * y3_20.toNatClampNeg) (.inl (14, [.ref (to + 2 + 2 * y3_20.toNatClampNeg + 1), .int n9]))) sz 0 0 Post
            obtain ⟨w76, ew76⟩ : ∃ wz9, wz9 = zup wL28 (to + 2 + 2 * y3_20.toNatClampNeg) (.inl (14, [.ref (to + 2 + 2 * y3_20.toNatClampNeg + 1), .int n9])) := ⟨_, rfl⟩
            have hsi76 : zSI wL28 w76 := by rw [ew76]; exact zSI.setU hb81
            have heq76 : ∀ x, x ≠ to + 2 + 2 * y3_20.toNatClampNeg → w76 x = wL28 x := fun x hx => by rw [ew76]; exact zup_n hx
            have hc76 : w76 (to + 2 + 2 * y3_20.toNatClampNeg) = some (.inl (14, [.ref (to + 2 + 2 * y3_20.toNatClampNeg + 1), .int n9])) := by rw [ew76]; exact zup_s
            rw [← ew76]
            clear ew76
            refine zp_seg (pc' := 80) (lv' := [(0, .ref to), (1, .ref a), (2, .int 0), (3, .int y3_20), (4, .int y4_28)]) (st' := [.ref to]) [(79, .aload_n 0)] (by decide +kernel) rfl ?_
            have hb82 : w76 to = some (.inl (11, [.ref (to + 1), .int n75])) := (heq76 to (by omega)).trans hb76
            refine zr_get (idx := 98) (k := 0) (v := .ref (to + 1)) (by decide +kernel) (by decide +kernel) hb82 rfl ?_
            refine zp_seg (pc' := 84) (lv' := [(0, .ref to), (1, .ref a), (2, .int 0), (3, .int y3_20), (4, .int y4_28)]) (st' := [.int y3_20, .ref (to + 1)]) [(83, .iload_n 3)] (by decide +kernel) rfl ?_
            have hb83 : w76 (to + 1) = some (.inr (4, 64, zbr to)) := (heq76 (to + 1) (by omega)).trans hb77
            refine zr_aald (v := .ref (to + 2 + 2 * y3_20.toNatClampNeg)) (by decide +kernel) hb83 (by decide) (zin (by first | omega | decide) (by first | omega | decide)) (zbr_at (by omega)) ?_
            have hb84 : w76 (to + 2 + 2 * y3_20.toNatClampNeg + 1) = some (.inr (0, 200, .inl fz)) := (heq76 (to + 2 + 2 * y3_20.toNatClampNeg + 1) (by omega)).trans hAz
            have hUn9 : zUw w76 (to + 2 + 2 * y3_20.toNatClampNeg) 200 (zrw q) ((zbTn q).1 y3_20.toNatClampNeg) := by
              refine ⟨_, fz, hc76, hb84, by omega, by omega, fun t ht => ?_, fun t ht => ?_⟩
              · rw [zbTn_c]; exact hZ t (by omega)
              · rw [zbTn_c, zrw_dg q t (by omega), zaZ_c]
            refine zr_callV (idx := 52) (j := 251) (by decide +kernel) (by decide +kernel) (show zMe 251 = some zq_X15_trim from rfl) rfl rfl (Nat.le_of_ble_eq_true rfl) rfl rfl hc76 (Nat.le_of_ble_eq_true rfl) (Nat.le_of_ble_eq_true rfl) (c_X15_trim (w := w76) (to + 2 + 2 * y3_20.toNatClampNeg) hUn9) (by omega) (fun v85 w85 hp85 => ?_)
            obtain ⟨hsi85, heq85, hp85_0, rfl⟩ := hp85
            show zP _ _ _ _ [] _ _ _ _ _
            refine zp_seg (pc' := 91) (lv' := [(3, .int (y3_20 + 1)), (0, .ref to), (1, .ref a), (2, .int 0), (4, .int y4_28)]) (st' := []) [(88, .iinc 3 1)] (by decide +kernel) rfl ?_
            have k85 := zaddC y3_20 1 (n := 1) (by decide) (by omega) (by omega)
            generalize ev91 : (y3_20 + 1 : Int32) = v91 at k85 ⊢
            have kv91 := zrng v91
            refine zp_seg (pc' := 20) (lv' := [(3, .int v91), (0, .ref to), (1, .ref a), (2, .int 0), (4, .int y4_28)]) (st' := []) [(91, .goto (-71))] (by decide +kernel) rfl ?_
            have hz86 : (v91.toNatClampNeg : Int) = v91.toInt := znat (by first | omega | decide)
            exact (ih20 w85 v91 (((hsiL20.tr hsiL28).tr hsi76).tr hsi85) (fun x hx => ((heq85 x (by omega)).trans ((heq76 x (by omega)).trans ((heqL28 x (by omega)).trans (heqL20 x hx))))) (by first | assumption | omega | decide) (by first | assumption | omega | decide) (by
                  intro t ht
                  by_cases e : t = y3_20.toNatClampNeg
                  · rw [e]; exact hp85_0
                  · exact (hT t (by omega)).ag (fun x g1 g2 => ((heq85 x (by omega)).trans ((heq76 x (by omega)).trans (heqL28 x (by omega)))))) (by omega)).more (zfa1 rfl (zfa1 rfl (zfa1 rfl (zfa1 rfl (zfa0)))))
          ·
            have f87 := znleI cc34
            refine zp_seg (pc' := 38) (lv' := [(0, .ref to), (1, .ref a), (2, .int 0), (3, .int y3_20), (4, .int y4_28)]) (st' := [.ref to]) [(37, .aload_n 0)] (by decide +kernel) rfl ?_
            have hb93 := hb71.si hsiL28
            obtain ⟨n88, hb89, hb90, -⟩ := id hb93
            have kn88 := zrng n88
            refine zr_get (idx := 98) (k := 0) (v := .ref (to + 1)) (by decide +kernel) (by decide +kernel) hb89 rfl ?_
            refine zp_seg (pc' := 42) (lv' := [(0, .ref to), (1, .ref a), (2, .int 0), (3, .int y3_20), (4, .int y4_28)]) (st' := [.int y3_20, .ref (to + 1)]) [(41, .iload_n 3)] (by decide +kernel) rfl ?_
            refine zr_aald (v := .ref (to + 2 + 2 * y3_20.toNatClampNeg)) (by decide +kernel) hb90 (by decide) (zin (by first | omega | decide) (by first | omega | decide)) (zbr_at (by omega)) ?_
            have hb94 : wL28 (to + 2 + 2 * y3_20.toNatClampNeg) = some (.inl (14, [.ref (to + 2 + 2 * y3_20.toNatClampNeg + 1), .int nr9])) := (heqL28 (to + 2 + 2 * y3_20.toNatClampNeg) (by omega)).trans hr91
            refine zr_get (idx := 30) (k := 0) (v := .ref (to + 2 + 2 * y3_20.toNatClampNeg + 1)) (by decide +kernel) (by decide +kernel) hb94 rfl ?_
            refine zp_seg (pc' := 49) (lv' := [(0, .ref to), (1, .ref a), (2, .int 0), (3, .int y3_20), (4, .int y4_28)]) (st' := [.ref a, .int y4_28, .ref (to + 2 + 2 * y3_20.toNatClampNeg + 1)]) [(46, .iload 4), (48, .aload_n 1)] (by decide +kernel) rfl ?_
            refine zr_get (idx := 98) (k := 0) (v := .ref (a + 1)) (by decide +kernel) (by decide +kernel) hb73 rfl ?_
            refine zp_seg (pc' := 54) (lv' := [(0, .ref to), (1, .ref a), (2, .int 0), (3, .int y3_20), (4, .int y4_28)]) (st' := [.int y4_28, .ref (a + 1), .int y4_28, .ref (to + 2 + 2 * y3_20.toNatClampNeg + 1)]) [(52, .iload 4)] (by decide +kernel) rfl ?_
            have hb95 : wL28 (a + 1) = some (.inr (4, 64, zbr a)) := ((heqL28 (a + 1) (by omega)).trans (heqL20 (a + 1) (zx_X16_turn_4 hdj))).trans hQ92
            refine zr_aald (v := .ref (a + 2 + 2 * y4_28.toNatClampNeg)) (by decide +kernel) hb95 (by decide) (zin (by first | omega | decide) (by first | omega | decide)) (zbr_at (by omega)) ?_
            have hb96 : zB wL28 a q := hB_a.ag (fun x hx1 hx2 => ((heqL28 x (by omega)).trans (heqL20 x (zx_X16_turn_5 hx1 hx2 hdj))))
            have hrow97 := hb96.row (y4_28.toNatClampNeg) (by omega)
            refine zp_seg (pc' := 56) (lv' := [(0, .ref to), (1, .ref a), (2, .int 0), (3, .int y3_20), (4, .int y4_28)]) (st' := [.int y3_20, .ref (a + 2 + 2 * y4_28.toNatClampNeg), .int y4_28, .ref (to + 2 + 2 * y3_20.toNatClampNeg + 1)]) [(55, .iload_n 3)] (by decide +kernel) rfl ?_
            obtain ⟨n98, f99, hu100, hu101, hu102, hu103, hu104⟩ := id hrow97
            have kn98 := zrng n98
            refine zr_callV (idx := 122) (j := 254) (by decide +kernel) (by decide +kernel) (show zMe 254 = some zq_X15_at from rfl) rfl rfl (Nat.le_of_ble_eq_true rfl) rfl rfl hu100 (Nat.le_of_ble_eq_true rfl) (Nat.le_of_ble_eq_true rfl) (c_X15_at (w := wL28) (a + 2 + 2 * y4_28.toNatClampNeg) y3_20 hrow97) (by omega) (fun v56 w56 hp56 => ?_)
            obtain ⟨hpw56, r56, rfl, hr56⟩ := hp56
            replace hpw56 := hpw56.symm
            subst hpw56
            have kr56 := zrng r56
            show zP _ _ _ _ [.int r56, .int y4_28, .ref (to + 2 + 2 * y3_20.toNatClampNeg + 1)] _ _ _ _ _
            refine zr_iast (by decide +kernel) hAz (zin (by first | omega | decide) (by first | omega | decide)) ?_
            show zP (d + 1) zq_X16_turn 60 [(0, .ref to), (1, .ref a), (2, .int 0), (3, .int y3_20), (4, .int y4_28)] [] (zup wL28 (to + 2 + 2 * y3_20.toNatClampNeg + 1) (.inr (0, 200, .inl (upd fz (y4_28.toNatClampNeg) r56)))) sz 0 0 Post
            obtain ⟨w59, ew59⟩ : ∃ wz9, wz9 = zup wL28 (to + 2 + 2 * y3_20.toNatClampNeg + 1) (.inr (0, 200, .inl (upd fz (y4_28.toNatClampNeg) r56))) := ⟨_, rfl⟩
            have hsi59 : zSI wL28 w59 := by rw [ew59]; exact zSI.arr _ hAz
            have heq59 : ∀ x, x ≠ to + 2 + 2 * y3_20.toNatClampNeg + 1 → w59 x = wL28 x := fun x hx => by rw [ew59]; exact zup_n hx
            have hc59 : w59 (to + 2 + 2 * y3_20.toNatClampNeg + 1) = some (.inr (0, 200, .inl (upd fz (y4_28.toNatClampNeg) r56))) := by rw [ew59]; exact zup_s
            rw [← ew59]
            clear ew59
            refine zp_seg (pc' := 63) (lv' := [(4, .int (y4_28 + 1)), (0, .ref to), (1, .ref a), (2, .int 0), (3, .int y3_20)]) (st' := []) [(60, .iinc 4 1)] (by decide +kernel) rfl ?_
            have k105 := zaddC y4_28 1 (n := 1) (by decide) (by omega) (by omega)
            generalize ev63 : (y4_28 + 1 : Int32) = v63 at k105 ⊢
            have kv63 := zrng v63
            refine zp_seg (pc' := 28) (lv' := [(4, .int v63), (0, .ref to), (1, .ref a), (2, .int 0), (3, .int y3_20)]) (st' := []) [(63, .goto (-35))] (by decide +kernel) rfl ?_
            have hz106 : (v63.toNatClampNeg : Int) = v63.toInt := znat (by first | omega | decide)
            exact (ih28 w59 v63 ((upd fz (y4_28.toNatClampNeg) r56)) (hsiL28.tr hsi59) (fun x hx => ((heq59 x (by omega)).trans (heqL28 x hx))) (by first | assumption | omega | decide) (by first | assumption | omega | decide) hc59 (by
                  intro t ht
                  by_cases e : t = y4_28.toNatClampNeg
                  · rw [e, zupd_s]
                    exact ⟨hr56.1, hr56.2 (by omega)⟩
                  · rw [zupd_n _ _ e]
                    exact hZ t (by omega)) (by omega)).more (zfa1 rfl (zfa1 rfl (zfa1 rfl (zfa1 rfl (zfa1 rfl (zfa0))))))
        exact (hL28 _ wL20 0 (fr9) zSI.rf (fun _ _ => rfl) (by first | assumption | omega | decide) (by first | assumption | omega | decide) hr92 (by
              exact fun t ht => absurd ht (by omega)) (Nat.lt_succ_self _)).more (zfa1 rfl (zfa1 rfl (zfa1 rfl (zfa1 rfl (zfa1 rfl (zfa0))))))
    exact (hL20 _ w 0 zSI.rf (fun _ _ => rfl) (by first | assumption | omega | decide) (by first | assumption | omega | decide) (by
          exact fun t ht => absurd ht (by omega)) (Nat.lt_succ_self _)).more (zfa1 rfl (zfa1 rfl (zfa1 rfl (zfa1 rfl (zfa0)))))

set_option maxHeartbeats 8000000 in
set_option maxRecDepth 100000 in
theorem c_X16_areSame {w : zM} {ca cb : Nat} {p q : zA1} (a : Nat) (b : Nat) (hU_a : zU w a ca p) (hU_b : zU w b cb q) : zCon 1 zq_X16_areSame [.ref a, .ref b] w (fun v9 w9' => w9' = w ∧ ∃ r9 : Int32, v9 = some (.int r9) ∧ (r9 = 0 ∨ r9 = 1) ∧ True) := by
  intro d sz hd
  obtain ⟨d, rfl⟩ : ∃ d9, d = d9 + 1 := ⟨d - 1, by omega⟩
  generalize hPost : (fun (r9' : Option (Option Value)) (w9' : zM) (z9 : Nat) => z9 = sz ∧ ∃ v9, r9' = some v9 ∧ (w9' = w ∧ ∃ r9 : Int32, v9 = some (.int r9) ∧ (r9 = 0 ∨ r9 = 1) ∧ True)) = Post
  show zP (d + 1) zq_X16_areSame 0 [(0, .ref a), (1, .ref b)] [] w sz 0 0 Post
  refine zp_seg (pc' := 1) (lv' := [(0, .ref a), (1, .ref b)]) (st' := [.ref a]) [(0, .aload_n 0)] (by decide +kernel) rfl ?_
  obtain ⟨n1, f2, hu3, hu4, hu5, hu6, hu7⟩ := id hU_a
  have kn1 := zrng n1
  refine zr_get (idx := 25) (k := 1) (v := .int n1) (by decide +kernel) (by decide +kernel) hu3 rfl ?_
  refine zp_seg (pc' := 5) (lv' := [(0, .ref a), (1, .ref b)]) (st' := [.ref b, .int n1]) [(4, .aload_n 1)] (by decide +kernel) rfl ?_
  obtain ⟨n8, f9, hu10, hu11, hu12, hu13, hu14⟩ := id hU_b
  have kn8 := zrng n8
  refine zr_get (idx := 25) (k := 1) (v := .int n8) (by decide +kernel) (by decide +kernel) hu10 rfl ?_
  refine zp_if (i := .if_icmp .ne 7) (c := ¬ n1 = n8) (t := 15) (e := 11) (lv' := [(0, .ref a), (1, .ref b)]) (st' := []) (by decide +kernel) rfl (fun cc8 => ?_) (fun cc8 => ?_)
  ·
    have f15 := zneI cc8
    refine zp_seg (pc' := 19) (lv' := [(3, .int 0), (2, .int 0), (0, .ref a), (1, .ref b)]) (st' := []) [(15, .iconst 0), (16, .istore_n 2), (17, .iconst 0), (18, .istore_n 3)] (by decide +kernel) rfl ?_
    have hL19 : ∀ (mm19 : Nat) (y2_19 : Int32) (y3_19 : Int32), ((y2_19 = 0 ∨ y2_19 = 1)) → (0 ≤ y3_19.toInt) → (y3_19.toInt ≤ (zln p : Int)) → (y2_19 = 1 → zln p = zln q) → (2147483647 - y3_19.toInt).toNat < mm19 → zP (d + 1) zq_X16_areSame 19 [(0, .ref a), (1, .ref b), (2, .int y2_19), (3, .int y3_19)] [] w sz 0 0 Post := by
      intro mm19
      induction mm19 with
      | zero => intros; omega
      | succ mm19 ih19 =>
      intro y2_19 y3_19 hi19_0 hi19_1 hi19_2 hE hmu19
      have ky2_19 := zrng y2_19
      have ky3_19 := zrng y3_19
      have hz16 : (y3_19.toNatClampNeg : Int) = y3_19.toInt := znat (by first | omega | decide)
      refine zp_seg (pc' := 21) (lv' := [(0, .ref a), (1, .ref b), (2, .int y2_19), (3, .int y3_19)]) (st' := [.ref a, .int y3_19]) [(19, .iload_n 3), (20, .aload_n 0)] (by decide +kernel) rfl ?_
      refine zr_get (idx := 25) (k := 1) (v := .int n1) (by decide +kernel) (by decide +kernel) hu3 rfl ?_
      refine zp_if (i := .if_icmp .ge 34) (c := n1 ≤ y3_19) (t := 58) (e := 27) (lv' := [(0, .ref a), (1, .ref b), (2, .int y2_19), (3, .int y3_19)]) (st' := []) (by decide +kernel) rfl (fun cc24 => ?_) (fun cc24 => ?_)
      ·
        have f17 := zleI cc24
        refine zp_seg (pc' := 59) (lv' := [(0, .ref a), (1, .ref b), (2, .int y2_19), (3, .int y3_19)]) (st' := [.int y2_19]) [(58, .iload_n 2)] (by decide +kernel) rfl ?_
        refine zr_retB (by decide +kernel) rfl hi19_0 ?_
        rw [← hPost]; exact ⟨rfl, _, rfl, rfl, _, rfl, hi19_0, trivial⟩
      ·
        have f18 := znleI cc24
        refine zp_seg (pc' := 28) (lv' := [(0, .ref a), (1, .ref b), (2, .int y2_19), (3, .int y3_19)]) (st' := [.int y2_19]) [(27, .iload_n 2)] (by decide +kernel) rfl ?_
        refine zp_if (i := .ifCond .eq 30) (c := y2_19 = 0) (t := 58) (e := 31) (lv' := [(0, .ref a), (1, .ref b), (2, .int y2_19), (3, .int y3_19)]) (st' := []) (by decide +kernel) rfl (fun cc28 => ?_) (fun cc28 => ?_)
        ·
          have f20 := zeqI cc28
          rw [show (0 : Int32).toInt = 0 from by decide] at f20
          refine zp_seg (pc' := 59) (lv' := [(0, .ref a), (1, .ref b), (2, .int y2_19), (3, .int y3_19)]) (st' := [.int y2_19]) [(58, .iload_n 2)] (by decide +kernel) rfl ?_
          refine zr_retB (by decide +kernel) rfl hi19_0 ?_
          rw [← hPost]; exact ⟨rfl, _, rfl, rfl, _, rfl, hi19_0, trivial⟩
        ·
          have f22 := zneI cc28
          rw [show (0 : Int32).toInt = 0 from by decide] at f22
          have hE9 := hE (hi19_0.resolve_left cc28)
          refine zp_seg (pc' := 32) (lv' := [(0, .ref a), (1, .ref b), (2, .int y2_19), (3, .int y3_19)]) (st' := [.ref a]) [(31, .aload_n 0)] (by decide +kernel) rfl ?_
          refine zr_get (idx := 30) (k := 0) (v := .ref (a + 1)) (by decide +kernel) (by decide +kernel) hu3 rfl ?_
          refine zp_seg (pc' := 36) (lv' := [(0, .ref a), (1, .ref b), (2, .int y2_19), (3, .int y3_19)]) (st' := [.int y3_19, .ref (a + 1)]) [(35, .iload_n 3)] (by decide +kernel) rfl ?_
          refine zr_iald (by decide +kernel) hu4 (zin (by first | omega | decide) (by first | omega | decide)) ?_
          obtain ⟨x36, ex36⟩ : ∃ x9, x9 = f2 (y3_19.toNatClampNeg) := ⟨_, rfl⟩
          rw [← ex36]
          have kx36 := zrng x36
          have hvx36 := hu7 (y3_19.toNatClampNeg) (by omega)
          rw [← ex36] at hvx36
          have hwx36 : 0 ≤ x36.toInt ∧ x36.toInt < 2147483647 := hvx36.1
          refine zp_seg (pc' := 38) (lv' := [(0, .ref a), (1, .ref b), (2, .int y2_19), (3, .int y3_19)]) (st' := [.ref b, .int x36]) [(37, .aload_n 1)] (by decide +kernel) rfl ?_
          refine zr_get (idx := 30) (k := 0) (v := .ref (b + 1)) (by decide +kernel) (by decide +kernel) hu10 rfl ?_
          refine zp_seg (pc' := 42) (lv' := [(0, .ref a), (1, .ref b), (2, .int y2_19), (3, .int y3_19)]) (st' := [.int y3_19, .ref (b + 1), .int x36]) [(41, .iload_n 3)] (by decide +kernel) rfl ?_
          refine zr_iald (by decide +kernel) hu11 (zin (by first | omega | decide) (by first | omega | decide)) ?_
          obtain ⟨x42, ex42⟩ : ∃ x9, x9 = f9 (y3_19.toNatClampNeg) := ⟨_, rfl⟩
          rw [← ex42]
          have kx42 := zrng x42
          have hvx42 := hu14 (y3_19.toNatClampNeg) (by omega)
          rw [← ex42] at hvx42
          have hwx42 : 0 ≤ x42.toInt ∧ x42.toInt < 2147483647 := hvx42.1
          refine zp_if (i := .if_icmp .ne 7) (c := ¬ x36 = x42) (t := 50) (e := 46) (lv' := [(0, .ref a), (1, .ref b), (2, .int y2_19), (3, .int y3_19)]) (st' := []) (by decide +kernel) rfl (fun cc43 => ?_) (fun cc43 => ?_)
          ·
            have f23 := zneI cc43
            refine zp_seg (pc' := 55) (lv' := [(3, .int (y3_19 + 1)), (2, .int 0), (0, .ref a), (1, .ref b)]) (st' := []) [(50, .iconst 0), (51, .istore_n 2), (52, .iinc 3 1)] (by decide +kernel) rfl ?_
            have k24 := zaddC y3_19 1 (n := 1) (by decide) (by omega) (by omega)
            generalize ev55 : (y3_19 + 1 : Int32) = v55 at k24 ⊢
            have kv55 := zrng v55
            refine zp_seg (pc' := 19) (lv' := [(3, .int v55), (2, .int 0), (0, .ref a), (1, .ref b)]) (st' := []) [(55, .goto (-36))] (by decide +kernel) rfl ?_
            have hl25 : (0 : Int32).toInt = 0 := by decide
            have hz26 : (v55.toNatClampNeg : Int) = v55.toInt := znat (by first | omega | decide)
            exact (ih19 0 v55 (by first | assumption | omega | decide) (by first | assumption | omega | decide) (by first | assumption | omega | decide) (by
                  first | exact fun e => absurd e (by decide) | exact fun _ => hE (hi19_0.resolve_left cc28)) (by omega)).more (zfa1 rfl (zfa1 rfl (zfa1 rfl (zfa1 rfl (zfa0)))))
          ·
            replace cc43 := Classical.not_not.mp cc43
            have f27 := zeqI cc43
            refine zp_seg (pc' := 55) (lv' := [(3, .int (y3_19 + 1)), (2, .int 1), (0, .ref a), (1, .ref b)]) (st' := []) [(46, .iconst 1), (47, .goto 4), (51, .istore_n 2), (52, .iinc 3 1)] (by decide +kernel) rfl ?_
            have k28 := zaddC y3_19 1 (n := 1) (by decide) (by omega) (by omega)
            generalize ev55 : (y3_19 + 1 : Int32) = v55 at k28 ⊢
            have kv55 := zrng v55
            refine zp_seg (pc' := 19) (lv' := [(3, .int v55), (2, .int 1), (0, .ref a), (1, .ref b)]) (st' := []) [(55, .goto (-36))] (by decide +kernel) rfl ?_
            have hl29 : (1 : Int32).toInt = 1 := by decide
            have hz30 : (v55.toNatClampNeg : Int) = v55.toInt := znat (by first | omega | decide)
            exact (ih19 1 v55 (by first | assumption | omega | decide) (by first | assumption | omega | decide) (by first | assumption | omega | decide) (by
                  first | exact fun e => absurd e (by decide) | exact fun _ => hE (hi19_0.resolve_left cc28)) (by omega)).more (zfa1 rfl (zfa1 rfl (zfa1 rfl (zfa1 rfl (zfa0)))))
    have hl31 : (0 : Int32).toInt = 0 := by decide
    have hz32 : ((0 : Int32).toNatClampNeg : Int) = 0 := by decide
    exact (hL19 _ 0 0 (by first | assumption | omega | decide) (by first | assumption | omega | decide) (by first | assumption | omega | decide) (by
          first | exact fun e => absurd e (by decide) | exact fun _ => by omega) (Nat.lt_succ_self _)).more (zfa1 rfl (zfa1 rfl (zfa1 rfl (zfa1 rfl (zfa0)))))
  ·
    replace cc8 := Classical.not_not.mp cc8
    have f33 := zeqI cc8
    refine zp_seg (pc' := 19) (lv' := [(3, .int 0), (2, .int 1), (0, .ref a), (1, .ref b)]) (st' := []) [(11, .iconst 1), (12, .goto 4), (16, .istore_n 2), (17, .iconst 0), (18, .istore_n 3)] (by decide +kernel) rfl ?_
    have hL19 : ∀ (mm19 : Nat) (y2_19 : Int32) (y3_19 : Int32), ((y2_19 = 0 ∨ y2_19 = 1)) → (0 ≤ y3_19.toInt) → (y3_19.toInt ≤ (zln p : Int)) → (y2_19 = 1 → zln p = zln q) → (2147483647 - y3_19.toInt).toNat < mm19 → zP (d + 1) zq_X16_areSame 19 [(0, .ref a), (1, .ref b), (2, .int y2_19), (3, .int y3_19)] [] w sz 0 0 Post := by
      intro mm19
      induction mm19 with
      | zero => intros; omega
      | succ mm19 ih19 =>
      intro y2_19 y3_19 hi19_0 hi19_1 hi19_2 hE hmu19
      have ky2_19 := zrng y2_19
      have ky3_19 := zrng y3_19
      have hz34 : (y3_19.toNatClampNeg : Int) = y3_19.toInt := znat (by first | omega | decide)
      refine zp_seg (pc' := 21) (lv' := [(0, .ref a), (1, .ref b), (2, .int y2_19), (3, .int y3_19)]) (st' := [.ref a, .int y3_19]) [(19, .iload_n 3), (20, .aload_n 0)] (by decide +kernel) rfl ?_
      refine zr_get (idx := 25) (k := 1) (v := .int n1) (by decide +kernel) (by decide +kernel) hu3 rfl ?_
      refine zp_if (i := .if_icmp .ge 34) (c := n1 ≤ y3_19) (t := 58) (e := 27) (lv' := [(0, .ref a), (1, .ref b), (2, .int y2_19), (3, .int y3_19)]) (st' := []) (by decide +kernel) rfl (fun cc24 => ?_) (fun cc24 => ?_)
      ·
        have f35 := zleI cc24
        refine zp_seg (pc' := 59) (lv' := [(0, .ref a), (1, .ref b), (2, .int y2_19), (3, .int y3_19)]) (st' := [.int y2_19]) [(58, .iload_n 2)] (by decide +kernel) rfl ?_
        refine zr_retB (by decide +kernel) rfl hi19_0 ?_
        rw [← hPost]; exact ⟨rfl, _, rfl, rfl, _, rfl, hi19_0, trivial⟩
      ·
        have f36 := znleI cc24
        refine zp_seg (pc' := 28) (lv' := [(0, .ref a), (1, .ref b), (2, .int y2_19), (3, .int y3_19)]) (st' := [.int y2_19]) [(27, .iload_n 2)] (by decide +kernel) rfl ?_
        refine zp_if (i := .ifCond .eq 30) (c := y2_19 = 0) (t := 58) (e := 31) (lv' := [(0, .ref a), (1, .ref b), (2, .int y2_19), (3, .int y3_19)]) (st' := []) (by decide +kernel) rfl (fun cc28 => ?_) (fun cc28 => ?_)
        ·
          have f38 := zeqI cc28
          rw [show (0 : Int32).toInt = 0 from by decide] at f38
          refine zp_seg (pc' := 59) (lv' := [(0, .ref a), (1, .ref b), (2, .int y2_19), (3, .int y3_19)]) (st' := [.int y2_19]) [(58, .iload_n 2)] (by decide +kernel) rfl ?_
          refine zr_retB (by decide +kernel) rfl hi19_0 ?_
          rw [← hPost]; exact ⟨rfl, _, rfl, rfl, _, rfl, hi19_0, trivial⟩
        ·
          have f40 := zneI cc28
          rw [show (0 : Int32).toInt = 0 from by decide] at f40
          have hE9 := hE (hi19_0.resolve_left cc28)
          refine zp_seg (pc' := 32) (lv' := [(0, .ref a), (1, .ref b), (2, .int y2_19), (3, .int y3_19)]) (st' := [.ref a]) [(31, .aload_n 0)] (by decide +kernel) rfl ?_
          refine zr_get (idx := 30) (k := 0) (v := .ref (a + 1)) (by decide +kernel) (by decide +kernel) hu3 rfl ?_
          refine zp_seg (pc' := 36) (lv' := [(0, .ref a), (1, .ref b), (2, .int y2_19), (3, .int y3_19)]) (st' := [.int y3_19, .ref (a + 1)]) [(35, .iload_n 3)] (by decide +kernel) rfl ?_
          refine zr_iald (by decide +kernel) hu4 (zin (by first | omega | decide) (by first | omega | decide)) ?_
          obtain ⟨x36, ex36⟩ : ∃ x9, x9 = f2 (y3_19.toNatClampNeg) := ⟨_, rfl⟩
          rw [← ex36]
          have kx36 := zrng x36
          have hvx36 := hu7 (y3_19.toNatClampNeg) (by omega)
          rw [← ex36] at hvx36
          have hwx36 : 0 ≤ x36.toInt ∧ x36.toInt < 2147483647 := hvx36.1
          refine zp_seg (pc' := 38) (lv' := [(0, .ref a), (1, .ref b), (2, .int y2_19), (3, .int y3_19)]) (st' := [.ref b, .int x36]) [(37, .aload_n 1)] (by decide +kernel) rfl ?_
          refine zr_get (idx := 30) (k := 0) (v := .ref (b + 1)) (by decide +kernel) (by decide +kernel) hu10 rfl ?_
          refine zp_seg (pc' := 42) (lv' := [(0, .ref a), (1, .ref b), (2, .int y2_19), (3, .int y3_19)]) (st' := [.int y3_19, .ref (b + 1), .int x36]) [(41, .iload_n 3)] (by decide +kernel) rfl ?_
          refine zr_iald (by decide +kernel) hu11 (zin (by first | omega | decide) (by first | omega | decide)) ?_
          obtain ⟨x42, ex42⟩ : ∃ x9, x9 = f9 (y3_19.toNatClampNeg) := ⟨_, rfl⟩
          rw [← ex42]
          have kx42 := zrng x42
          have hvx42 := hu14 (y3_19.toNatClampNeg) (by omega)
          rw [← ex42] at hvx42
          have hwx42 : 0 ≤ x42.toInt ∧ x42.toInt < 2147483647 := hvx42.1
          refine zp_if (i := .if_icmp .ne 7) (c := ¬ x36 = x42) (t := 50) (e := 46) (lv' := [(0, .ref a), (1, .ref b), (2, .int y2_19), (3, .int y3_19)]) (st' := []) (by decide +kernel) rfl (fun cc43 => ?_) (fun cc43 => ?_)
          ·
            have f41 := zneI cc43
            refine zp_seg (pc' := 55) (lv' := [(3, .int (y3_19 + 1)), (2, .int 0), (0, .ref a), (1, .ref b)]) (st' := []) [(50, .iconst 0), (51, .istore_n 2), (52, .iinc 3 1)] (by decide +kernel) rfl ?_
            have k42 := zaddC y3_19 1 (n := 1) (by decide) (by omega) (by omega)
            generalize ev55 : (y3_19 + 1 : Int32) = v55 at k42 ⊢
            have kv55 := zrng v55
            refine zp_seg (pc' := 19) (lv' := [(3, .int v55), (2, .int 0), (0, .ref a), (1, .ref b)]) (st' := []) [(55, .goto (-36))] (by decide +kernel) rfl ?_
            have hl43 : (0 : Int32).toInt = 0 := by decide
            have hz44 : (v55.toNatClampNeg : Int) = v55.toInt := znat (by first | omega | decide)
            exact (ih19 0 v55 (by first | assumption | omega | decide) (by first | assumption | omega | decide) (by first | assumption | omega | decide) (by
                  first | exact fun e => absurd e (by decide) | exact fun _ => hE (hi19_0.resolve_left cc28)) (by omega)).more (zfa1 rfl (zfa1 rfl (zfa1 rfl (zfa1 rfl (zfa0)))))
          ·
            replace cc43 := Classical.not_not.mp cc43
            have f45 := zeqI cc43
            refine zp_seg (pc' := 55) (lv' := [(3, .int (y3_19 + 1)), (2, .int 1), (0, .ref a), (1, .ref b)]) (st' := []) [(46, .iconst 1), (47, .goto 4), (51, .istore_n 2), (52, .iinc 3 1)] (by decide +kernel) rfl ?_
            have k46 := zaddC y3_19 1 (n := 1) (by decide) (by omega) (by omega)
            generalize ev55 : (y3_19 + 1 : Int32) = v55 at k46 ⊢
            have kv55 := zrng v55
            refine zp_seg (pc' := 19) (lv' := [(3, .int v55), (2, .int 1), (0, .ref a), (1, .ref b)]) (st' := []) [(55, .goto (-36))] (by decide +kernel) rfl ?_
            have hl47 : (1 : Int32).toInt = 1 := by decide
            have hz48 : (v55.toNatClampNeg : Int) = v55.toInt := znat (by first | omega | decide)
            exact (ih19 1 v55 (by first | assumption | omega | decide) (by first | assumption | omega | decide) (by first | assumption | omega | decide) (by
                  first | exact fun e => absurd e (by decide) | exact fun _ => hE (hi19_0.resolve_left cc28)) (by omega)).more (zfa1 rfl (zfa1 rfl (zfa1 rfl (zfa1 rfl (zfa0)))))
    have hl49 : (1 : Int32).toInt = 1 := by decide
    have hl50 : (0 : Int32).toInt = 0 := by decide
    have hz51 : ((0 : Int32).toNatClampNeg : Int) = 0 := by decide
    exact (hL19 _ 1 0 (by first | assumption | omega | decide) (by first | assumption | omega | decide) (by first | assumption | omega | decide) (by
          first | exact fun e => absurd e (by decide) | exact fun _ => by omega) (Nat.lt_succ_self _)).more (zfa1 rfl (zfa1 rfl (zfa1 rfl (zfa1 rfl (zfa0)))))
