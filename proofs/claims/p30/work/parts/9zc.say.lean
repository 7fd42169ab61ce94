theorem zx_X16_sayCells_0 {m x : Nat} (h0 : x < m ∨ m + 1 ≤ x) : x ≠ m := by omega
theorem zx_X16_sayCells_1 {cells m : Nat} (h0 : cells ≠ m ∧ cells ≠ m + 93) : cells ≠ m := by omega
theorem zx_X16_sayCells_2 {cells m : Nat} (h0 : cells ≠ m ∧ cells ≠ m + 93) : cells < m ∨ m + 1 ≤ cells := by omega
theorem zx_X16_sayCells_3 {cells m : Nat} (h0 : cells ≠ m ∧ cells ≠ m + 93) : cells < m + 93 ∨ m + 93 + 1 ≤ cells := by omega
theorem zx_X16_sayCells_4 {m x : Nat} (h0 : m + 93 ≤ x) (h1 : x < m + 93 + 1) : x ≠ m := by omega
set_option maxHeartbeats 8000000 in
set_option maxRecDepth 100000 in
theorem c_X16_sayCells {w : zM} {g : Nat → Int32} {r : Nat → Value} {fc : Nat → Int32} {g25 : Int32} (m : Nat) (cells : Nat) (hm : w m = some (.inl (15, zMo m g r))) (hR_m : zR m w) (hBy_m_93 : zBya w (m + 93) 4000) (hA_cells : w cells = some (.inr (0, 325, .inl fc))) (hcr : zCr fc) (how : 0 ≤ g25.toInt ∧ g25.toInt ≤ 600000000) (hcm : cells ≠ m ∧ cells ≠ m + 93) (hg25 : g 25 = g25) : zCon 5 zq_X16_sayCells [.ref m, .ref cells] w (fun v9 w9' => ∃ C9 : Int32, ∃ F9 : Int32, zSI w w9' ∧ (∀ x, (x < m ∨ m + 1 ≤ x) ∧ (x < m + 93 ∨ m + 93 + 1 ≤ x) → w9' x = w x) ∧ w9' m = some (.inl (15, zMo m (zs (zs g 25 C9) 27 F9) r)) ∧ zBya w9' (m + 93) 4000 ∧ (g25.toInt ≤ C9.toInt ∧ C9.toInt ≤ g25.toInt + 12100) ∧ v9 = none) := by
  subst hg25
  intro d sz hd
  obtain ⟨d, rfl⟩ : ∃ d9, d = d9 + 1 := ⟨d - 1, by omega⟩
  generalize hPost : (fun (r9' : Option (Option Value)) (w9' : zM) (z9 : Nat) => z9 = sz ∧ ∃ v9, r9' = some v9 ∧ (∃ C9 : Int32, ∃ F9 : Int32, zSI w w9' ∧ (∀ x, (x < m ∨ m + 1 ≤ x) ∧ (x < m + 93 ∨ m + 93 + 1 ≤ x) → w9' x = w x) ∧ w9' m = some (.inl (15, zMo m (zs (zs g 25 C9) 27 F9) r)) ∧ zBya w9' (m + 93) 4000 ∧ ((g 25).toInt ≤ C9.toInt ∧ C9.toInt ≤ (g 25).toInt + 12100) ∧ v9 = none)) = Post
  show zP (d + 1) zq_X16_sayCells 0 [(0, .ref m), (1, .ref cells)] [] w sz 0 0 Post
  refine zp_seg (pc' := 2) (lv' := [(0, .ref m), (1, .ref cells)]) (st' := [.int 1, .ref m]) [(0, .aload_n 0), (1, .iconst 1)] (by decide +kernel) rfl ?_
  refine zr_put2 (idx := 567) (k := 27) (fs2 := zMo m (zs g 27 1) r) (by decide +kernel) (by decide +kernel) hm (Nat.le_of_ble_eq_true rfl) rfl rfl rfl ?_
  show zP (d + 1) zq_X16_sayCells 5 [(0, .ref m), (1, .ref cells)] [] (zup w m (.inl (15, zMo m (zs g 27 1) r))) sz 0 0 Post
  obtain ⟨w2, ew2⟩ : ∃ wz9, wz9 = zup w m (.inl (15, zMo m (zs g 27 1) r)) := ⟨_, rfl⟩
  have hsi2 : zSI w w2 := by rw [ew2]; exact zSI.setG hm _ _
  have heq2 : ∀ x, x ≠ m → w2 x = w x := fun x hx => by rw [ew2]; exact zup_n hx
  have hc2 : w2 m = some (.inl (15, zMo m (zs g 27 1) r)) := by rw [ew2]; exact zup_s
  rw [← ew2]
  clear ew2
  refine zp_seg (pc' := 8) (lv' := [(2, .int 12), (0, .ref m), (1, .ref cells)]) (st' := []) [(5, .bipush 12), (7, .istore_n 2)] (by decide +kernel) rfl ?_
  have hL8 : ∀ (mm8 : Nat) (wL8 : zM) (y2_8 : Int32) (pC : Int32) (pF : Int32), (zSI w2 wL8) → (∀ x, ((x < m ∨ m + 1 ≤ x) ∧ (x < m + 93 ∨ m + 93 + 1 ≤ x)) ∧ x ≠ m → wL8 x = w2 x) → (-1 ≤ y2_8.toInt) → (y2_8.toInt ≤ 12) → (wL8 m = some (.inl (15, zMo m (zs (zs g 25 pC) 27 pF) r))) → (zBya wL8 (m + 93) 4000) → ((g 25).toInt ≤ pC.toInt ∧ pC.toInt ≤ (g 25).toInt + 925 * (12 - y2_8.toInt)) → (y2_8.toInt + 1).toNat < mm8 → zP (d + 1) zq_X16_sayCells 8 [(0, .ref m), (1, .ref cells), (2, .int y2_8)] [] wL8 sz 0 0 Post := by
    intro mm8
    induction mm8 with
    | zero => intros; omega
    | succ mm8 ih8 =>
    intro wL8 y2_8 pC pF hsiL8 heqL8 hi8_0 hi8_1 hpM hBYl hpC hmu8
    have ky2_8 := zrng y2_8
    refine zp_seg (pc' := 9) (lv' := [(0, .ref m), (1, .ref cells), (2, .int y2_8)]) (st' := [.int y2_8]) [(8, .iload_n 2)] (by decide +kernel) rfl ?_
    refine zp_if (i := .ifCond .lt 47) (c := y2_8 < 0) (t := 56) (e := 12) (lv' := [(0, .ref m), (1, .ref cells), (2, .int y2_8)]) (st' := []) (by decide +kernel) rfl (fun cc9 => ?_) (fun cc9 => ?_)
    ·
      have f2 := zltI cc9
      rw [show (0 : Int32).toInt = 0 from by decide] at f2
      refine zp_seg (pc' := 57) (lv' := [(0, .ref m), (1, .ref cells), (2, .int y2_8)]) (st' := [.ref m]) [(56, .aload_n 0)] (by decide +kernel) rfl ?_
      refine zr_get (idx := 567) (k := 27) (v := .int pF) (by decide +kernel) (by decide +kernel) hpM rfl ?_
      refine zp_if (i := .ifCond .eq 9) (c := pF = 0) (t := 69) (e := 63) (lv' := [(0, .ref m), (1, .ref cells), (2, .int y2_8)]) (st' := []) (by decide +kernel) rfl (fun cc60 => ?_) (fun cc60 => ?_)
      ·
        have k3 := zrng pF
        have f4 := zeqI cc60
        rw [show (0 : Int32).toInt = 0 from by decide] at f4
        have hoffend : ∀ x, (x < m ∨ m + 1 ≤ x) ∧ (x < m + 93 ∨ m + 93 + 1 ≤ x) → wL8 x = w x := fun x hx => ((heqL8 x ⟨⟨hx.1, hx.2⟩, (zx_X16_sayCells_0 hx.1)⟩).trans (heq2 x (zx_X16_sayCells_0 hx.1)))
        refine zr_retV (by decide +kernel) rfl ?_
        rw [← hPost]; exact ⟨rfl, _, rfl, pC, pF, (hsi2.tr hsiL8), hoffend, hpM, hBYl, (by first | omega | assumption | decide), rfl⟩
      ·
        have k5 := zrng pF
        have f6 := zneI cc60
        rw [show (0 : Int32).toInt = 0 from by decide] at f6
        refine zp_seg (pc' := 66) (lv' := [(0, .ref m), (1, .ref cells), (2, .int y2_8)]) (st' := [.int 48, .ref m]) [(63, .aload_n 0), (64, .bipush 48)] (by decide +kernel) rfl ?_
        have k7 := zrng pC
        have hb8 := hR_m.si (hsi2.tr hsiL8)
        refine zr_callV (idx := 564) (j := 341) (by decide +kernel) (by decide +kernel) (show zMe 341 = some zq_X16_say from rfl) rfl rfl (Nat.le_of_ble_eq_true rfl) rfl rfl hpM (Nat.le_of_ble_eq_true rfl) (Nat.le_of_ble_eq_true rfl) (c_X16_say (w := wL8) (g25 := pC) m 48 hpM hb8 hBYl (by first | omega | decide | assumption | exact zr1_1 | exact zr1_0 | fail "num") rfl) (by omega) (fun v66 w66 hp66 => ?_)
        obtain ⟨C9_66, hsi66, heq66, hp66_0, hp66_1, hp66_2, rfl⟩ := hp66
        have hM66 : w66 m = some (.inl (15, zMo m (zs (zs g 25 C9_66) 27 pF) r)) := hp66_0
        show zP _ _ _ _ [] _ _ _ _ _
        have hoffend : ∀ x, (x < m ∨ m + 1 ≤ x) ∧ (x < m + 93 ∨ m + 93 + 1 ≤ x) → w66 x = w x := fun x hx => ((heq66 x ⟨hx.1, hx.2⟩).trans ((heqL8 x ⟨⟨hx.1, hx.2⟩, (zx_X16_sayCells_0 hx.1)⟩).trans (heq2 x (zx_X16_sayCells_0 hx.1))))
        refine zr_retV (by decide +kernel) rfl ?_
        rw [← hPost]; exact ⟨rfl, _, rfl, C9_66, pF, ((hsi2.tr hsiL8).tr hsi66), hoffend, hM66, hp66_1, (by first | omega | assumption | decide), rfl⟩
    ·
      have f10 := znltI cc9
      rw [show (0 : Int32).toInt = 0 from by decide] at f10
      refine zp_seg (pc' := 15) (lv' := [(3, .int 24), (0, .ref m), (1, .ref cells), (2, .int y2_8)]) (st' := []) [(12, .bipush 24), (14, .istore_n 3)] (by decide +kernel) rfl ?_
      have hL15 : ∀ (mm15 : Nat) (wL15 : zM) (y3_15 : Int32) (qC : Int32) (qF : Int32), (zSI wL8 wL15) → (∀ x, ((x < m ∨ m + 1 ≤ x) ∧ (x < m + 93 ∨ m + 93 + 1 ≤ x)) ∧ x ≠ m → wL15 x = wL8 x) → (-1 ≤ y3_15.toInt) → (y3_15.toInt ≤ 24) → (wL15 m = some (.inl (15, zMo m (zs (zs g 25 qC) 27 qF) r))) → (zBya wL15 (m + 93) 4000) → ((g 25).toInt ≤ qC.toInt ∧ qC.toInt ≤ (g 25).toInt + 925 * (12 - y2_8.toInt) + 37 * (24 - y3_15.toInt)) → (y3_15.toInt + 1).toNat < mm15 → zP (d + 1) zq_X16_sayCells 15 [(0, .ref m), (1, .ref cells), (2, .int y2_8), (3, .int y3_15)] [] wL15 sz 0 0 Post := by
        intro mm15
        induction mm15 with
        | zero => intros; omega
        | succ mm15 ih15 =>
        intro wL15 y3_15 qC qF hsiL15 heqL15 hi15_0 hi15_1 hqM hBYl hqC hmu15
        have ky3_15 := zrng y3_15
        refine zp_seg (pc' := 16) (lv' := [(0, .ref m), (1, .ref cells), (2, .int y2_8), (3, .int y3_15)]) (st' := [.int y3_15]) [(15, .iload_n 3)] (by decide +kernel) rfl ?_
        refine zp_if (i := .ifCond .lt 34) (c := y3_15 < 0) (t := 50) (e := 19) (lv' := [(0, .ref m), (1, .ref cells), (2, .int y2_8), (3, .int y3_15)]) (st' := []) (by decide +kernel) rfl (fun cc16 => ?_) (fun cc16 => ?_)
        ·
          have f11 := zltI cc16
          rw [show (0 : Int32).toInt = 0 from by decide] at f11
          refine zp_seg (pc' := 53) (lv' := [(2, .int (y2_8 + (Int32.ofInt (-1)))), (0, .ref m), (1, .ref cells), (3, .int y3_15)]) (st' := []) [(50, .iinc 2 (-1))] (by decide +kernel) rfl ?_
          have k12 := zaddC y2_8 ((Int32.ofInt (-1))) (n := (-1)) (by decide) (by omega) (by omega)
          generalize ev53 : (y2_8 + (Int32.ofInt (-1)) : Int32) = v53 at k12 ⊢
          have kv53 := zrng v53
          refine zp_seg (pc' := 8) (lv' := [(2, .int v53), (0, .ref m), (1, .ref cells), (3, .int y3_15)]) (st' := []) [(53, .goto (-45))] (by decide +kernel) rfl ?_
          exact (ih8 wL15 v53 (qC) (qF) (hsiL8.tr hsiL15) (fun x hx => ((heqL15 x ⟨⟨hx.1.1, hx.1.2⟩, hx.2⟩).trans (heqL8 x ⟨⟨hx.1.1, hx.1.2⟩, hx.2⟩))) (by first | assumption | omega | decide) (by first | assumption | omega | decide) (by
                exact hqM) hBYl (by
                omega) (by omega)).more (zfa1 rfl (zfa1 rfl (zfa1 rfl (zfa0))))
        ·
          have f13 := znltI cc16
          rw [show (0 : Int32).toInt = 0 from by decide] at f13
          refine zp_seg (pc' := 24) (lv' := [(0, .ref m), (1, .ref cells), (2, .int y2_8), (3, .int y3_15)]) (st' := [.int (25 * y2_8), .ref cells]) [(19, .aload_n 1), (20, .bipush 25), (22, .iload_n 2), (23, .imul)] (by decide +kernel) rfl ?_
          have k14 := zmulCl 25 y2_8 (n := 25) (by decide) (by omega) (by omega)
          generalize ev24 : (25 * y2_8 : Int32) = v24 at k14 ⊢
          have kv24 := zrng v24
          refine zp_seg (pc' := 26) (lv' := [(0, .ref m), (1, .ref cells), (2, .int y2_8), (3, .int y3_15)]) (st' := [.int (v24 + y3_15), .ref cells]) [(24, .iload_n 3), (25, .iadd)] (by decide +kernel) rfl ?_
          have k15 := zadd v24 y3_15 (by omega) (by omega)
          generalize ev26 : (v24 + y3_15 : Int32) = v26 at k15 ⊢
          have kv26 := zrng v26
          have hb16 : wL15 cells = some (.inr (0, 325, .inl fc)) := ((heqL15 cells ⟨⟨(zx_X16_sayCells_2 hcm), (zx_X16_sayCells_3 hcm)⟩, (zx_X16_sayCells_1 hcm)⟩).trans ((heqL8 cells ⟨⟨(zx_X16_sayCells_2 hcm), (zx_X16_sayCells_3 hcm)⟩, (zx_X16_sayCells_1 hcm)⟩).trans (heq2 cells (zx_X16_sayCells_1 hcm)))).trans hA_cells
          refine zr_iald (by decide +kernel) hb16 (zin (by first | omega | decide) (by first | omega | decide)) ?_
          have hz17 : (v26.toNatClampNeg : Int) = v26.toInt := znat (by first | omega | decide)
          obtain ⟨x26, ex26⟩ : ∃ x9, x9 = fc (v26.toNatClampNeg) := ⟨_, rfl⟩
          rw [← ex26]
          have kx26 := zrng x26
          refine zp_if (i := .ifCond .eq 17) (c := x26 = 0) (t := 44) (e := 30) (lv' := [(0, .ref m), (1, .ref cells), (2, .int y2_8), (3, .int y3_15)]) (st' := []) (by decide +kernel) rfl (fun cc27 => ?_) (fun cc27 => ?_)
          ·
            have f18 := zeqI cc27
            rw [show (0 : Int32).toInt = 0 from by decide] at f18
            refine zp_seg (pc' := 47) (lv' := [(3, .int (y3_15 + (Int32.ofInt (-1)))), (0, .ref m), (1, .ref cells), (2, .int y2_8)]) (st' := []) [(44, .iinc 3 (-1))] (by decide +kernel) rfl ?_
            have k19 := zaddC y3_15 ((Int32.ofInt (-1))) (n := (-1)) (by decide) (by omega) (by omega)
            generalize ev47 : (y3_15 + (Int32.ofInt (-1)) : Int32) = v47 at k19 ⊢
            have kv47 := zrng v47
            refine zp_seg (pc' := 15) (lv' := [(3, .int v47), (0, .ref m), (1, .ref cells), (2, .int y2_8)]) (st' := []) [(47, .goto (-32))] (by decide +kernel) rfl ?_
            exact (ih15 wL15 v47 (qC) (qF) hsiL15 (fun x hx => (heqL15 x ⟨⟨hx.1.1, hx.1.2⟩, hx.2⟩)) (by first | assumption | omega | decide) (by first | assumption | omega | decide) (by
                  exact hqM) hBYl (by
                  omega) (by omega)).more (zfa1 rfl (zfa1 rfl (zfa1 rfl (zfa1 rfl (zfa0)))))
          ·
            have f20 := zneI cc27
            rw [show (0 : Int32).toInt = 0 from by decide] at f20
            refine zp_seg (pc' := 36) (lv' := [(0, .ref m), (1, .ref cells), (2, .int y2_8), (3, .int y3_15)]) (st' := [.int (25 * y2_8), .ref cells, .ref m]) [(30, .aload_n 0), (31, .aload_n 1), (32, .bipush 25), (34, .iload_n 2), (35, .imul)] (by decide +kernel) rfl ?_
            have k21 := zmulCl 25 y2_8 (n := 25) (by decide) (by omega) (by omega)
            generalize ev36 : (25 * y2_8 : Int32) = v36 at k21 ⊢
            have kv36 := zrng v36
            refine zp_seg (pc' := 38) (lv' := [(0, .ref m), (1, .ref cells), (2, .int y2_8), (3, .int y3_15)]) (st' := [.int (v36 + y3_15), .ref cells, .ref m]) [(36, .iload_n 3), (37, .iadd)] (by decide +kernel) rfl ?_
            have k22 := zadd v36 y3_15 (by omega) (by omega)
            generalize ev38 : (v36 + y3_15 : Int32) = v38 at k22 ⊢
            have kv38 := zrng v38
            refine zr_iald (by decide +kernel) hb16 (zin (by first | omega | decide) (by first | omega | decide)) ?_
            have hz23 : (v38.toNatClampNeg : Int) = v38.toInt := znat (by first | omega | decide)
            obtain ⟨x38, ex38⟩ : ∃ x9, x9 = fc (v38.toNatClampNeg) := ⟨_, rfl⟩
            rw [← ex38]
            have kx38 := zrng x38
            refine zp_seg (pc' := 41) (lv' := [(0, .ref m), (1, .ref cells), (2, .int y2_8), (3, .int y3_15)]) (st' := [.int y2_8, .int y3_15, .int x38, .ref m]) [(39, .iload_n 3), (40, .iload_n 2)] (by decide +kernel) rfl ?_
            have k24 := zrng qC
            have hb25 := hR_m.si ((hsi2.tr hsiL8).tr hsiL15)
            refine zr_callV (idx := 579) (j := 343) (by decide +kernel) (by decide +kernel) (show zMe 343 = some zq_X16_sayPart from rfl) rfl rfl (Nat.le_of_ble_eq_true rfl) rfl rfl hqM (Nat.le_of_ble_eq_true rfl) (Nat.le_of_ble_eq_true rfl) (c_X16_sayPart (w := wL15) (g25 := qC) m x38 y3_15 y2_8 hqM hb25 hBYl (by rw [ex38]; exact hcr _ (by omega)) (by first | omega | decide | assumption | exact zr1_1 | exact zr1_0 | fail "num") (by first | omega | decide | assumption | exact zr1_1 | exact zr1_0 | fail "num") rfl) (by omega) (fun v41 w41 hp41 => ?_)
            obtain ⟨C9_41, hsi41, heq41, hp41_0, hp41_1, hp41_2, rfl⟩ := hp41
            have hM41 : w41 m = some (.inl (15, zMo m (zs (zs g 25 C9_41) 27 0) r)) := hp41_0
            show zP _ _ _ _ [] _ _ _ _ _
            refine zp_seg (pc' := 47) (lv' := [(3, .int (y3_15 + (Int32.ofInt (-1)))), (0, .ref m), (1, .ref cells), (2, .int y2_8)]) (st' := []) [(44, .iinc 3 (-1))] (by decide +kernel) rfl ?_
            have k26 := zaddC y3_15 ((Int32.ofInt (-1))) (n := (-1)) (by decide) (by omega) (by omega)
            generalize ev47 : (y3_15 + (Int32.ofInt (-1)) : Int32) = v47 at k26 ⊢
            have kv47 := zrng v47
            refine zp_seg (pc' := 15) (lv' := [(3, .int v47), (0, .ref m), (1, .ref cells), (2, .int y2_8)]) (st' := []) [(47, .goto (-32))] (by decide +kernel) rfl ?_
            exact (ih15 w41 v47 (C9_41) (0) (hsiL15.tr hsi41) (fun x hx => ((heq41 x ⟨hx.1.1, hx.1.2⟩).trans (heqL15 x ⟨⟨hx.1.1, hx.1.2⟩, hx.2⟩))) (by first | assumption | omega | decide) (by first | assumption | omega | decide) (by
                  exact hM41) hp41_1 (by
                  omega) (by omega)).more (zfa1 rfl (zfa1 rfl (zfa1 rfl (zfa1 rfl (zfa0)))))
      have hl27 : (24 : Int32).toInt = 24 := by decide
      exact (hL15 _ wL8 24 (pC) (pF) zSI.rf (fun _ _ => rfl) (by first | assumption | omega | decide) (by first | assumption | omega | decide) (by
            exact hpM) hBYl (by
            omega) (Nat.lt_succ_self _)).more (zfa1 rfl (zfa1 rfl (zfa1 rfl (zfa1 rfl (zfa0)))))
  have hl28 : (12 : Int32).toInt = 12 := by decide
  have hb29 : zBya w2 (m + 93) 4000 := hBy_m_93.ag (fun x hx1 hx2 => (heq2 x (zx_X16_sayCells_4 hx1 hx2)))
  exact (hL8 _ w2 12 ((g 25)) (1) zSI.rf (fun _ _ => rfl) (by first | assumption | omega | decide) (by first | assumption | omega | decide) (by
        exact hc2) hb29 (by
        omega) (Nat.lt_succ_self _)).more (zfa1 rfl (zfa1 rfl (zfa1 rfl (zfa0))))

theorem zx_X16_sayRatio_0 {m t : Nat} (h0 : (m + 83 ≤ t ∧ t + 9 ≤ m + 92) ∨ (m + 6316 ≤ t ∧ t + 9 ≤ m + 7594)) : t < m ∨ m + 1 ≤ t := by omega
theorem zx_X16_sayRatio_1 {m t : Nat} (h0 : (m + 83 ≤ t ∧ t + 9 ≤ m + 92) ∨ (m + 6316 ≤ t ∧ t + 9 ≤ m + 7594)) : t < m + 93 ∨ m + 93 + 1 ≤ t := by omega
theorem zx_X16_sayRatio_2 {m t : Nat} (h0 : (m + 83 ≤ t ∧ t + 9 ≤ m + 92) ∨ (m + 6316 ≤ t ∧ t + 9 ≤ m + 7594)) : t ≠ m := by omega
theorem zx_X16_sayRatio_3 {m t : Nat} (h0 : (m + 83 ≤ t ∧ t + 9 ≤ m + 92) ∨ (m + 6316 ≤ t ∧ t + 9 ≤ m + 7594)) : (t + 1) < m ∨ m + 1 ≤ (t + 1) := by omega
theorem zx_X16_sayRatio_4 {m t : Nat} (h0 : (m + 83 ≤ t ∧ t + 9 ≤ m + 92) ∨ (m + 6316 ≤ t ∧ t + 9 ≤ m + 7594)) : (t + 1) < m + 93 ∨ m + 93 + 1 ≤ (t + 1) := by omega
theorem zx_X16_sayRatio_5 {m t : Nat} (h0 : (m + 83 ≤ t ∧ t + 9 ≤ m + 92) ∨ (m + 6316 ≤ t ∧ t + 9 ≤ m + 7594)) : (t + 1) ≠ m := by omega
theorem zx_X16_sayRatio_6 {m x : Nat} (h0 : x < m ∨ m + 1 ≤ x) : x ≠ m := by omega
theorem zx_X16_sayRatio_7 {m t : Nat} (h0 : (m + 83 ≤ t ∧ t + 9 ≤ m + 92) ∨ (m + 6316 ≤ t ∧ t + 9 ≤ m + 7594)) : (t + 2) < m ∨ m + 1 ≤ (t + 2) := by omega
theorem zx_X16_sayRatio_8 {m t : Nat} (h0 : (m + 83 ≤ t ∧ t + 9 ≤ m + 92) ∨ (m + 6316 ≤ t ∧ t + 9 ≤ m + 7594)) : (t + 2) < m + 93 ∨ m + 93 + 1 ≤ (t + 2) := by omega
theorem zx_X16_sayRatio_9 {m t : Nat} (h0 : (m + 83 ≤ t ∧ t + 9 ≤ m + 92) ∨ (m + 6316 ≤ t ∧ t + 9 ≤ m + 7594)) : (t + 2) ≠ m := by omega
set_option maxHeartbeats 8000000 in
set_option maxRecDepth 100000 in
theorem c_X16_sayRatio {w : zM} {g : Nat → Int32} {r : Nat → Value} {gt fn fd : Nat → Int32} {g25 : Int32} (m : Nat) (t : Nat) (hm : w m = some (.inl (15, zMo m g r))) (hR_m : zR m w) (hBy_m_93 : zBya w (m + 93) 4000) (hT_t : w t = some (.inl (13, zTo t gt))) (hA_t_1 : w (t + 1) = some (.inr (0, 325, .inl fn))) (hA_t_2 : w (t + 2) = some (.inr (0, 325, .inl fd))) (hcn : zCr fn) (hcd : zCr fd) (how : 0 ≤ g25.toInt ∧ g25.toInt ≤ 500000000) (hot : (m + 83 ≤ t ∧ t + 9 ≤ m + 92) ∨ (m + 6316 ≤ t ∧ t + 9 ≤ m + 7594)) (hg25 : g 25 = g25) : zCon 6 zq_X16_sayRatio [.ref m, .ref t] w (fun v9 w9' => ∃ C9 : Int32, ∃ F9 : Int32, zSI w w9' ∧ (∀ x, (x < m ∨ m + 1 ≤ x) ∧ (x < m + 93 ∨ m + 93 + 1 ≤ x) → w9' x = w x) ∧ w9' m = some (.inl (15, zMo m (zs (zs g 25 C9) 27 F9) r)) ∧ zBya w9' (m + 93) 4000 ∧ (g25.toInt ≤ C9.toInt ∧ C9.toInt ≤ g25.toInt + 30000) ∧ v9 = none) := by
  subst hg25
  intro d sz hd
  obtain ⟨d, rfl⟩ : ∃ d9, d = d9 + 1 := ⟨d - 1, by omega⟩
  generalize hPost : (fun (r9' : Option (Option Value)) (w9' : zM) (z9 : Nat) => z9 = sz ∧ ∃ v9, r9' = some v9 ∧ (∃ C9 : Int32, ∃ F9 : Int32, zSI w w9' ∧ (∀ x, (x < m ∨ m + 1 ≤ x) ∧ (x < m + 93 ∨ m + 93 + 1 ≤ x) → w9' x = w x) ∧ w9' m = some (.inl (15, zMo m (zs (zs g 25 C9) 27 F9) r)) ∧ zBya w9' (m + 93) 4000 ∧ ((g 25).toInt ≤ C9.toInt ∧ C9.toInt ≤ (g 25).toInt + 30000) ∧ v9 = none)) = Post
  show zP (d + 1) zq_X16_sayRatio 0 [(0, .ref m), (1, .ref t)] [] w sz 0 0 Post
  refine zp_seg (pc' := 1) (lv' := [(0, .ref m), (1, .ref t)]) (st' := [.ref t]) [(0, .aload_n 1)] (by decide +kernel) rfl ?_
  refine zr_get (idx := 210) (k := 2) (v := .ref (t + 2)) (by decide +kernel) (by decide +kernel) hT_t rfl ?_
  refine zr_callS (idx := 265) (j := 307) (by decide +kernel) (by decide +kernel) (by decide) (show zMe 307 = some zq_X16_isOne from rfl) rfl rfl (Nat.le_of_ble_eq_true rfl) rfl rfl (Nat.le_of_ble_eq_true rfl) (Nat.le_of_ble_eq_true rfl) (c_X16_isOne (w := w) (t + 2) hA_t_2) (by omega) (fun v4 w4 hp4 => ?_)
  obtain ⟨hpw4, r4, rfl, hrb4, hr4⟩ := hp4
  replace hpw4 := hpw4.symm
  subst hpw4
  have kr4 := zrng r4
  show zP _ _ _ _ [.int r4] _ _ _ _ _
  refine zp_seg (pc' := 9) (lv' := [(2, .int r4), (0, .ref m), (1, .ref t)]) (st' := [.int r4]) [(7, .istore_n 2), (8, .iload_n 2)] (by decide +kernel) rfl ?_
  have hJ18 : ∀ (wL18 : zM) (xC : Int32), (zSI w wL18) → (∀ x, ((x < m ∨ m + 1 ≤ x) ∧ (x < m + 93 ∨ m + 93 + 1 ≤ x)) ∧ x ≠ m → wL18 x = w x) → (wL18 m = some (.inl (15, zMo m (zs g 25 xC) r))) → (zBya wL18 (m + 93) 4000) → ((g 25).toInt ≤ xC.toInt ∧ xC.toInt ≤ (g 25).toInt + 1) → zP (d + 1) zq_X16_sayRatio 18 [(0, .ref m), (1, .ref t), (2, .int r4)] [] wL18 sz 0 0 Post := by
    intro wL18 xC hsiL18 heqL18 hxM hBYl hxC
    refine zp_seg (pc' := 20) (lv' := [(0, .ref m), (1, .ref t), (2, .int r4)]) (st' := [.ref t, .ref m]) [(18, .aload_n 0), (19, .aload_n 1)] (by decide +kernel) rfl ?_
    have hb1 : wL18 t = some (.inl (13, zTo t gt)) := (heqL18 t ⟨⟨(zx_X16_sayRatio_0 hot), (zx_X16_sayRatio_1 hot)⟩, (zx_X16_sayRatio_2 hot)⟩).trans hT_t
    refine zr_get (idx := 207) (k := 1) (v := .ref (t + 1)) (by decide +kernel) (by decide +kernel) hb1 rfl ?_
    have k2 := zrng xC
    have hb3 := hR_m.si hsiL18
    have hb4 : wL18 (t + 1) = some (.inr (0, 325, .inl fn)) := (heqL18 (t + 1) ⟨⟨(zx_X16_sayRatio_3 hot), (zx_X16_sayRatio_4 hot)⟩, (zx_X16_sayRatio_5 hot)⟩).trans hA_t_1
    refine zr_callV (idx := 583) (j := 345) (by decide +kernel) (by decide +kernel) (show zMe 345 = some zq_X16_sayCells from rfl) rfl rfl (Nat.le_of_ble_eq_true rfl) rfl rfl hxM (Nat.le_of_ble_eq_true rfl) (Nat.le_of_ble_eq_true rfl) (c_X16_sayCells (w := wL18) (g25 := xC) m (t + 1) hxM hb3 hBYl hb4 (by exact hcn) (by first | omega | decide | assumption | exact zr1_1 | exact zr1_0 | fail "num") (by first | omega | decide | assumption | exact zr1_1 | exact zr1_0 | fail "num") rfl) (by omega) (fun v23 w23 hp23 => ?_)
    obtain ⟨C9_23, F9_23, hsi23, heq23, hp23_0, hp23_1, hp23_2, rfl⟩ := hp23
    have hM23 : w23 m = some (.inl (15, zMo m (zs (zs g 25 C9_23) 27 F9_23) r)) := hp23_0
    show zP _ _ _ _ [] _ _ _ _ _
    refine zp_seg (pc' := 27) (lv' := [(0, .ref m), (1, .ref t), (2, .int r4)]) (st' := [.int r4]) [(26, .iload_n 2)] (by decide +kernel) rfl ?_
    refine zp_if (i := .ifCond .ne 35) (c := ¬ r4 = 0) (t := 62) (e := 30) (lv' := [(0, .ref m), (1, .ref t), (2, .int r4)]) (st' := []) (by decide +kernel) rfl (fun cc27 => ?_) (fun cc27 => ?_)
    ·
      have f6 := zneI cc27
      rw [show (0 : Int32).toInt = 0 from by decide] at f6
      have hoffend : ∀ x, (x < m ∨ m + 1 ≤ x) ∧ (x < m + 93 ∨ m + 93 + 1 ≤ x) → w23 x = w x := fun x hx => ((heq23 x ⟨hx.1, hx.2⟩).trans (heqL18 x ⟨⟨hx.1, hx.2⟩, (zx_X16_sayRatio_6 hx.1)⟩))
      refine zr_retV (by decide +kernel) rfl ?_
      rw [← hPost]; exact ⟨rfl, _, rfl, C9_23, F9_23, (hsiL18.tr hsi23), hoffend, hM23, hp23_1, (by first | omega | assumption | decide), rfl⟩
    ·
      replace cc27 := Classical.not_not.mp cc27
      have f8 := zeqI cc27
      rw [show (0 : Int32).toInt = 0 from by decide] at f8
      refine zp_seg (pc' := 33) (lv' := [(0, .ref m), (1, .ref t), (2, .int r4)]) (st' := [.int 41, .ref m]) [(30, .aload_n 0), (31, .bipush 41)] (by decide +kernel) rfl ?_
      have k9 := zrng C9_23
      have hb10 := hb3.si hsi23
      refine zr_callV (idx := 564) (j := 341) (by decide +kernel) (by decide +kernel) (show zMe 341 = some zq_X16_say from rfl) rfl rfl (Nat.le_of_ble_eq_true rfl) rfl rfl hM23 (Nat.le_of_ble_eq_true rfl) (Nat.le_of_ble_eq_true rfl) (c_X16_say (w := w23) (g25 := C9_23) m 41 hM23 hb10 hp23_1 (by first | omega | decide | assumption | exact zr1_1 | exact zr1_0 | fail "num") rfl) (by omega) (fun v33 w33 hp33 => ?_)
      obtain ⟨C9_33, hsi33, heq33, hp33_0, hp33_1, hp33_2, rfl⟩ := hp33
      have hM33 : w33 m = some (.inl (15, zMo m (zs (zs g 25 C9_33) 27 F9_23) r)) := hp33_0
      show zP _ _ _ _ [] _ _ _ _ _
      refine zp_seg (pc' := 39) (lv' := [(0, .ref m), (1, .ref t), (2, .int r4)]) (st' := [.int 47, .ref m]) [(36, .aload_n 0), (37, .bipush 47)] (by decide +kernel) rfl ?_
      have k11 := zrng C9_33
      have hb12 := hb10.si hsi33
      refine zr_callV (idx := 564) (j := 341) (by decide +kernel) (by decide +kernel) (show zMe 341 = some zq_X16_say from rfl) rfl rfl (Nat.le_of_ble_eq_true rfl) rfl rfl hM33 (Nat.le_of_ble_eq_true rfl) (Nat.le_of_ble_eq_true rfl) (c_X16_say (w := w33) (g25 := C9_33) m 47 hM33 hb12 hp33_1 (by first | omega | decide | assumption | exact zr1_1 | exact zr1_0 | fail "num") rfl) (by omega) (fun v39 w39 hp39 => ?_)
      obtain ⟨C9_39, hsi39, heq39, hp39_0, hp39_1, hp39_2, rfl⟩ := hp39
      have hM39 : w39 m = some (.inl (15, zMo m (zs (zs g 25 C9_39) 27 F9_23) r)) := hp39_0
      show zP _ _ _ _ [] _ _ _ _ _
      refine zp_seg (pc' := 45) (lv' := [(0, .ref m), (1, .ref t), (2, .int r4)]) (st' := [.int 40, .ref m]) [(42, .aload_n 0), (43, .bipush 40)] (by decide +kernel) rfl ?_
      have k13 := zrng C9_39
      have hb14 := hb12.si hsi39
      refine zr_callV (idx := 564) (j := 341) (by decide +kernel) (by decide +kernel) (show zMe 341 = some zq_X16_say from rfl) rfl rfl (Nat.le_of_ble_eq_true rfl) rfl rfl hM39 (Nat.le_of_ble_eq_true rfl) (Nat.le_of_ble_eq_true rfl) (c_X16_say (w := w39) (g25 := C9_39) m 40 hM39 hb14 hp39_1 (by first | omega | decide | assumption | exact zr1_1 | exact zr1_0 | fail "num") rfl) (by omega) (fun v45 w45 hp45 => ?_)
      obtain ⟨C9_45, hsi45, heq45, hp45_0, hp45_1, hp45_2, rfl⟩ := hp45
      have hM45 : w45 m = some (.inl (15, zMo m (zs (zs g 25 C9_45) 27 F9_23) r)) := hp45_0
      show zP _ _ _ _ [] _ _ _ _ _
      refine zp_seg (pc' := 50) (lv' := [(0, .ref m), (1, .ref t), (2, .int r4)]) (st' := [.ref t, .ref m]) [(48, .aload_n 0), (49, .aload_n 1)] (by decide +kernel) rfl ?_
      have hb15 : w45 t = some (.inl (13, zTo t gt)) := ((heq45 t ⟨(zx_X16_sayRatio_0 hot), (zx_X16_sayRatio_1 hot)⟩).trans ((heq39 t ⟨(zx_X16_sayRatio_0 hot), (zx_X16_sayRatio_1 hot)⟩).trans ((heq33 t ⟨(zx_X16_sayRatio_0 hot), (zx_X16_sayRatio_1 hot)⟩).trans (heq23 t ⟨(zx_X16_sayRatio_0 hot), (zx_X16_sayRatio_1 hot)⟩)))).trans hb1
      refine zr_get (idx := 210) (k := 2) (v := .ref (t + 2)) (by decide +kernel) (by decide +kernel) hb15 rfl ?_
      have k16 := zrng C9_45
      have hb17 := hb14.si hsi45
      have hb18 : w45 (t + 2) = some (.inr (0, 325, .inl fd)) := ((heq45 (t + 2) ⟨(zx_X16_sayRatio_7 hot), (zx_X16_sayRatio_8 hot)⟩).trans ((heq39 (t + 2) ⟨(zx_X16_sayRatio_7 hot), (zx_X16_sayRatio_8 hot)⟩).trans ((heq33 (t + 2) ⟨(zx_X16_sayRatio_7 hot), (zx_X16_sayRatio_8 hot)⟩).trans ((heq23 (t + 2) ⟨(zx_X16_sayRatio_7 hot), (zx_X16_sayRatio_8 hot)⟩).trans (heqL18 (t + 2) ⟨⟨(zx_X16_sayRatio_7 hot), (zx_X16_sayRatio_8 hot)⟩, (zx_X16_sayRatio_9 hot)⟩))))).trans hA_t_2
      refine zr_callV (idx := 583) (j := 345) (by decide +kernel) (by decide +kernel) (show zMe 345 = some zq_X16_sayCells from rfl) rfl rfl (Nat.le_of_ble_eq_true rfl) rfl rfl hM45 (Nat.le_of_ble_eq_true rfl) (Nat.le_of_ble_eq_true rfl) (c_X16_sayCells (w := w45) (g25 := C9_45) m (t + 2) hM45 hb17 hp45_1 hb18 (by exact hcd) (by first | omega | decide | assumption | exact zr1_1 | exact zr1_0 | fail "num") (by first | omega | decide | assumption | exact zr1_1 | exact zr1_0 | fail "num") rfl) (by omega) (fun v53 w53 hp53 => ?_)
      obtain ⟨C9_53, F9_53, hsi53, heq53, hp53_0, hp53_1, hp53_2, rfl⟩ := hp53
      have hM53 : w53 m = some (.inl (15, zMo m (zs (zs g 25 C9_53) 27 F9_53) r)) := hp53_0
      show zP _ _ _ _ [] _ _ _ _ _
      refine zp_seg (pc' := 59) (lv' := [(0, .ref m), (1, .ref t), (2, .int r4)]) (st' := [.int 41, .ref m]) [(56, .aload_n 0), (57, .bipush 41)] (by decide +kernel) rfl ?_
      have k19 := zrng C9_53
      have hb20 := hb17.si hsi53
      refine zr_callV (idx := 564) (j := 341) (by decide +kernel) (by decide +kernel) (show zMe 341 = some zq_X16_say from rfl) rfl rfl (Nat.le_of_ble_eq_true rfl) rfl rfl hM53 (Nat.le_of_ble_eq_true rfl) (Nat.le_of_ble_eq_true rfl) (c_X16_say (w := w53) (g25 := C9_53) m 41 hM53 hb20 hp53_1 (by first | omega | decide | assumption | exact zr1_1 | exact zr1_0 | fail "num") rfl) (by omega) (fun v59 w59 hp59 => ?_)
      obtain ⟨C9_59, hsi59, heq59, hp59_0, hp59_1, hp59_2, rfl⟩ := hp59
      have hM59 : w59 m = some (.inl (15, zMo m (zs (zs g 25 C9_59) 27 F9_53) r)) := hp59_0
      show zP _ _ _ _ [] _ _ _ _ _
      have hoffend : ∀ x, (x < m ∨ m + 1 ≤ x) ∧ (x < m + 93 ∨ m + 93 + 1 ≤ x) → w59 x = w x := fun x hx => ((heq59 x ⟨hx.1, hx.2⟩).trans ((heq53 x ⟨hx.1, hx.2⟩).trans ((heq45 x ⟨hx.1, hx.2⟩).trans ((heq39 x ⟨hx.1, hx.2⟩).trans ((heq33 x ⟨hx.1, hx.2⟩).trans ((heq23 x ⟨hx.1, hx.2⟩).trans (heqL18 x ⟨⟨hx.1, hx.2⟩, (zx_X16_sayRatio_6 hx.1)⟩)))))))
      refine zr_retV (by decide +kernel) rfl ?_
      rw [← hPost]; exact ⟨rfl, _, rfl, C9_59, F9_53, ((((((hsiL18.tr hsi23).tr hsi33).tr hsi39).tr hsi45).tr hsi53).tr hsi59), hoffend, hM59, hp59_1, (by first | omega | assumption | decide), rfl⟩
  refine zp_if (i := .ifCond .ne 9) (c := ¬ r4 = 0) (t := 18) (e := 12) (lv' := [(2, .int r4), (0, .ref m), (1, .ref t)]) (st' := []) (by decide +kernel) rfl (fun cc9 => ?_) (fun cc9 => ?_)
  ·
    have f22 := zneI cc9
    rw [show (0 : Int32).toInt = 0 from by decide] at f22
    exact (hJ18 w ((g 25)) zSI.rf (fun _ _ => rfl) (by
          exact hm) hBy_m_93 (by
          omega)).more (zfa1 rfl (zfa1 rfl (zfa1 rfl (zfa0))))
  ·
    replace cc9 := Classical.not_not.mp cc9
    have f24 := zeqI cc9
    rw [show (0 : Int32).toInt = 0 from by decide] at f24
    refine zp_seg (pc' := 15) (lv' := [(2, .int r4), (0, .ref m), (1, .ref t)]) (st' := [.int 40, .ref m]) [(12, .aload_n 0), (13, .bipush 40)] (by decide +kernel) rfl ?_
    have k25 := zrng (g 25)
    refine zr_callV (idx := 564) (j := 341) (by decide +kernel) (by decide +kernel) (show zMe 341 = some zq_X16_say from rfl) rfl rfl (Nat.le_of_ble_eq_true rfl) rfl rfl hm (Nat.le_of_ble_eq_true rfl) (Nat.le_of_ble_eq_true rfl) (c_X16_say (w := w) (g25 := (g 25)) m 40 hm hR_m hBy_m_93 (by first | omega | decide | assumption | exact zr1_1 | exact zr1_0 | fail "num") rfl) (by omega) (fun v15 w15 hp15 => ?_)
    obtain ⟨C9_15, hsi15, heq15, hp15_0, hp15_1, hp15_2, rfl⟩ := hp15
    have hM15 : w15 m = some (.inl (15, zMo m (zs g 25 C9_15) r)) := hp15_0
    show zP _ _ _ _ [] _ _ _ _ _
    exact (hJ18 w15 (C9_15) hsi15 (fun x hx => (heq15 x ⟨hx.1.1, hx.1.2⟩)) (by
          exact hM15) hp15_1 (by
          omega)).more (zfa1 rfl (zfa1 rfl (zfa1 rfl (zfa0))))
