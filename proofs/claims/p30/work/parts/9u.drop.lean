set_option maxHeartbeats 8000000 in
set_option maxRecDepth 100000 in
theorem c_X16_drop {w : zM} {g : Nat → Int32} {r : Nat → Value}  (m : Nat) (s9 : Int32) (hm : w m = some (.inl (15, zMo m g r))) (hR_m : zR m w) (hsl : ∀ i, i < 12 → ∃ k, zTi w (m + 7486 + 9 * i) k) : zCon 2 zq_X16_drop [.ref m, .int s9] w (fun v9 w9' => zSI w w9' ∧ (∀ x, (x < m + 7486 + 9 * s9.toNatClampNeg ∨ m + 7486 + 9 * s9.toNatClampNeg + 1 ≤ x) → w9' x = w x) ∧ (∀ i, i < 12 → ∃ k, zTi w9' (m + 7486 + 9 * i) k) ∧ ∃ r9 : Int32, v9 = some (.int r9) ∧ True) := by
  intro d sz hd
  obtain ⟨d, rfl⟩ : ∃ d9, d = d9 + 1 := ⟨d - 1, by omega⟩
  generalize hPost : (fun (r9' : Option (Option Value)) (w9' : zM) (z9 : Nat) => z9 = sz ∧ ∃ v9, r9' = some v9 ∧ (zSI w w9' ∧ (∀ x, (x < m + 7486 + 9 * s9.toNatClampNeg ∨ m + 7486 + 9 * s9.toNatClampNeg + 1 ≤ x) → w9' x = w x) ∧ (∀ i, i < 12 → ∃ k, zTi w9' (m + 7486 + 9 * i) k) ∧ ∃ r9 : Int32, v9 = some (.int r9) ∧ True)) = Post
  show zP (d + 1) zq_X16_drop 0 [(0, .ref m), (1, .int s9)] [] w sz 0 0 Post
  have k1 := zrng s9
  refine zp_seg (pc' := 1) (lv' := [(0, .ref m), (1, .int s9)]) (st' := [.int s9]) [(0, .iload_n 1)] (by decide +kernel) rfl ?_
  refine zr_callS (idx := 551) (j := 336) (by decide +kernel) (by decide +kernel) (by decide) (show zMe 336 = some zq_X16_isSlot from rfl) rfl rfl (Nat.le_of_ble_eq_true rfl) rfl rfl (Nat.le_of_ble_eq_true rfl) (Nat.le_of_ble_eq_true rfl) (c_X16_isSlot (w := w) s9 ) (by omega) (fun v1 w1 hp1 => ?_)
  obtain ⟨hpw1, r1, rfl, hrb1, hr1⟩ := hp1
  replace hpw1 := hpw1.symm
  subst hpw1
  have kr1 := zrng r1
  show zP _ _ _ _ [.int r1] _ _ _ _ _
  refine zp_if (i := .ifCond .ne 5) (c := ¬ r1 = 0) (t := 9) (e := 7) (lv' := [(0, .ref m), (1, .int s9)]) (st' := []) (by decide +kernel) rfl (fun cc4 => ?_) (fun cc4 => ?_)
  ·
    have f3 := zneI cc4
    rw [show (0 : Int32).toInt = 0 from by decide] at f3
    have his9 := hr1 (hrb1.resolve_left cc4)
    refine zp_seg (pc' := 10) (lv' := [(0, .ref m), (1, .int s9)]) (st' := [.ref m]) [(9, .aload_n 0)] (by decide +kernel) rfl ?_
    refine zr_get (idx := 450) (k := 20) (v := .ref (m + 82)) (by decide +kernel) (by decide +kernel) hm rfl ?_
    refine zp_seg (pc' := 14) (lv' := [(0, .ref m), (1, .int s9)]) (st' := [.int s9, .ref (m + 82)]) [(13, .iload_n 1)] (by decide +kernel) rfl ?_
    have hb5 := hR_m.slots
    have hz6 : (s9.toNatClampNeg : Int) = s9.toInt := znat (by first | omega | decide)
    refine zr_aald (v := .ref (m + 7486 + 9 * s9.toNatClampNeg)) (by decide +kernel) hb5 (by decide) (zin (by first | omega | decide) (by first | omega | decide)) (zsl_at (by omega)) ?_
    obtain ⟨kS1, hkS1⟩ := hsl s9.toNatClampNeg (by omega)
    obtain ⟨g1, fn1, fd1, fa1, fb1, fc1, fe1, fr1, fu1, hT1, hAn1, hAd1, hAa1, hAb1, hAc1, hAe1, hAr1, hAu1, hK1⟩ := id hkS1
    obtain ⟨hK10, hKn1, hKd1, hKx1, hKm1, hKl1, hKr1, hKu1, hKk1⟩ := id hK1
    refine zr_get (idx := 202) (k := 0) (v := .int (g1 0)) (by decide +kernel) (by decide +kernel) hT1 rfl ?_
    refine zp_seg (pc' := 20) (lv' := [(2, .int (g1 0)), (0, .ref m), (1, .int s9)]) (st' := [.ref m]) [(18, .istore_n 2), (19, .aload_n 0)] (by decide +kernel) rfl ?_
    refine zr_get (idx := 450) (k := 20) (v := .ref (m + 82)) (by decide +kernel) (by decide +kernel) hm rfl ?_
    refine zp_seg (pc' := 24) (lv' := [(2, .int (g1 0)), (0, .ref m), (1, .int s9)]) (st' := [.int s9, .ref (m + 82)]) [(23, .iload_n 1)] (by decide +kernel) rfl ?_
    refine zr_aald (v := .ref (m + 7486 + 9 * s9.toNatClampNeg)) (by decide +kernel) hb5 (by decide) (zin (by first | omega | decide) (by first | omega | decide)) (zsl_at (by omega)) ?_
    refine zp_seg (pc' := 26) (lv' := [(2, .int (g1 0)), (0, .ref m), (1, .int s9)]) (st' := [.int 0, .ref (m + 7486 + 9 * s9.toNatClampNeg)]) [(25, .iconst 0)] (by decide +kernel) rfl ?_
    refine zr_put2 (idx := 202) (k := 0) (fs2 := zTo (m + 7486 + 9 * s9.toNatClampNeg) (zs g1 0 0)) (by decide +kernel) (by decide +kernel) hT1 (Nat.le_of_ble_eq_true rfl) rfl rfl rfl ?_
    show zP (d + 1) zq_X16_drop 29 [(2, .int (g1 0)), (0, .ref m), (1, .int s9)] [] (zup w (m + 7486 + 9 * s9.toNatClampNeg) (.inl (13, zTo (m + 7486 + 9 * s9.toNatClampNeg) (zs g1 0 0)))) sz 0 0 Post
    obtain ⟨w26, ew26⟩ : ∃ wz9, wz9 = zup w (m + 7486 + 9 * s9.toNatClampNeg) (.inl (13, zTo (m + 7486 + 9 * s9.toNatClampNeg) (zs g1 0 0))) := ⟨_, rfl⟩
    have hsi26 : zSI w w26 := by rw [ew26]; exact zSI.setT hT1 _
    have heq26 : ∀ x, x ≠ m + 7486 + 9 * s9.toNatClampNeg → w26 x = w x := fun x hx => by rw [ew26]; exact zup_n hx
    have hc26 : w26 (m + 7486 + 9 * s9.toNatClampNeg) = some (.inl (13, zTo (m + 7486 + 9 * s9.toNatClampNeg) (zs g1 0 0))) := by rw [ew26]; exact zup_s
    rw [← ew26]
    clear ew26
    have hb7 : w26 (m + 7486 + 9 * s9.toNatClampNeg + 1) = some (.inr (0, 325, .inl fn1)) := (heq26 (m + 7486 + 9 * s9.toNatClampNeg + 1) (by omega)).trans hAn1
    have hb8 : w26 (m + 7486 + 9 * s9.toNatClampNeg + 2) = some (.inr (0, 325, .inl fd1)) := (heq26 (m + 7486 + 9 * s9.toNatClampNeg + 2) (by omega)).trans hAd1
    have hb9 : w26 (m + 7486 + 9 * s9.toNatClampNeg + 3) = some (.inr (0, 13, .inl fa1)) := (heq26 (m + 7486 + 9 * s9.toNatClampNeg + 3) (by omega)).trans hAa1
    have hb10 : w26 (m + 7486 + 9 * s9.toNatClampNeg + 4) = some (.inr (0, 13, .inl fb1)) := (heq26 (m + 7486 + 9 * s9.toNatClampNeg + 4) (by omega)).trans hAb1
    have hb11 : w26 (m + 7486 + 9 * s9.toNatClampNeg + 5) = some (.inr (0, 13, .inl fc1)) := (heq26 (m + 7486 + 9 * s9.toNatClampNeg + 5) (by omega)).trans hAc1
    have hb12 : w26 (m + 7486 + 9 * s9.toNatClampNeg + 6) = some (.inr (0, 13, .inl fe1)) := (heq26 (m + 7486 + 9 * s9.toNatClampNeg + 6) (by omega)).trans hAe1
    have hb13 : w26 (m + 7486 + 9 * s9.toNatClampNeg + 7) = some (.inr (0, 175, .inl fr1)) := (heq26 (m + 7486 + 9 * s9.toNatClampNeg + 7) (by omega)).trans hAr1
    have hb14 : w26 (m + 7486 + 9 * s9.toNatClampNeg + 8) = some (.inr (0, 361, .inl fu1)) := (heq26 (m + 7486 + 9 * s9.toNatClampNeg + 8) (by omega)).trans hAu1
    have hTi9 : zTi w26 (m + 7486 + 9 * s9.toNatClampNeg) 0 := ⟨_, _, _, _, _, _, _, _, _, hc26, hb7, hb8, hb9, hb10, hb11, hb12, hb13, hb14, ⟨rfl, hKn1, hKd1, hKx1, hKm1, hKl1, hKr1, hKu1, zKk_0 _ _ _ _⟩⟩
    refine zp_seg (pc' := 30) (lv' := [(2, .int (g1 0)), (0, .ref m), (1, .int s9)]) (st' := [.int (g1 0)]) [(29, .iload_n 2)] (by decide +kernel) rfl ?_
    have hoffend : ∀ x, (x < m + 7486 + 9 * s9.toNatClampNeg ∨ m + 7486 + 9 * s9.toNatClampNeg + 1 ≤ x) → w26 x = w x := fun x hx => (heq26 x (by omega))
    have k15 := zrng (g1 0)
    refine zr_retI (by decide +kernel) rfl ?_
    rw [← hPost]; exact ⟨rfl, _, rfl, hsi26, hoffend, (by
          first
          | exact hsl
          | (intro i hi
             by_cases e : i = s9.toNatClampNeg
             · rw [e]; exact ⟨0, hTi9⟩
             · obtain ⟨k, hk⟩ := hsl i hi
               exact ⟨k, hk.ag (fun x g1 g2 => heq26 x (by omega))⟩)), _, rfl, trivial⟩
  ·
    replace cc4 := Classical.not_not.mp cc4
    have f17 := zeqI cc4
    rw [show (0 : Int32).toInt = 0 from by decide] at f17
    refine zp_seg (pc' := 8) (lv' := [(0, .ref m), (1, .int s9)]) (st' := [.int (Int32.ofInt (-1))]) [(7, .iconst (-1))] (by decide +kernel) rfl ?_
    have hoffend : ∀ x, (x < m + 7486 + 9 * s9.toNatClampNeg ∨ m + 7486 + 9 * s9.toNatClampNeg + 1 ≤ x) → w x = w x := fun x hx => rfl
    refine zr_retI (by decide +kernel) rfl ?_
    rw [← hPost]; exact ⟨rfl, _, rfl, zSI.rf, hoffend, (by
          first
          | exact hsl
          | (intro i hi
             by_cases e : i = s9.toNatClampNeg
             · rw [e]; exact ⟨0, hTi9⟩
             · obtain ⟨k, hk⟩ := hsl i hi
               exact ⟨k, hk.ag (fun x g1 g2 => heq26 x (by omega))⟩)), _, rfl, trivial⟩
