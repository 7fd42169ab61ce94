set_option maxHeartbeats 8000000 in
set_option maxRecDepth 100000 in
theorem c_X16_keepRecord {w : zM} {g : Nat → Int32} {r : Nat → Value} {k k9 : Int32} (m : Nat) (s9 : Int32) (hm : w m = some (.inl (15, zMo m g r))) (hR_m : zR m w) (hTi_m_83 : zTi w (m + 83) k) (hTi_m_7486_9_s9_toNatClampNeg : zTi w (m + 7486 + 9 * s9.toNatClampNeg) k9) (hs : 0 ≤ s9.toInt ∧ s9.toInt < 12) : zCon 2 zq_X16_keepRecord [.ref m, .int s9] w (fun v9 w9' => zSI w w9' ∧ (∀ x, (x < m + 7486 + 9 * s9.toNatClampNeg ∨ m + 7486 + 9 * s9.toNatClampNeg + 9 ≤ x) → w9' x = w x) ∧ zTi w9' (m + 7486 + 9 * s9.toNatClampNeg) k ∧ ∃ r9 : Int32, v9 = some (.int r9) ∧ True) := by
  intro d sz hd
  obtain ⟨d, rfl⟩ : ∃ d9, d = d9 + 1 := ⟨d - 1, by omega⟩
  generalize hPost : (fun (r9' : Option (Option Value)) (w9' : zM) (z9 : Nat) => z9 = sz ∧ ∃ v9, r9' = some v9 ∧ (zSI w w9' ∧ (∀ x, (x < m + 7486 + 9 * s9.toNatClampNeg ∨ m + 7486 + 9 * s9.toNatClampNeg + 9 ≤ x) → w9' x = w x) ∧ zTi w9' (m + 7486 + 9 * s9.toNatClampNeg) k ∧ ∃ r9 : Int32, v9 = some (.int r9) ∧ True)) = Post
  show zP (d + 1) zq_X16_keepRecord 0 [(0, .ref m), (1, .int s9)] [] w sz 0 0 Post
  have k1 := zrng s9
  have hz2 : (s9.toNatClampNeg : Int) = s9.toInt := znat (by first | omega | decide)
  refine zp_seg (pc' := 1) (lv' := [(0, .ref m), (1, .int s9)]) (st' := [.ref m]) [(0, .aload_n 0)] (by decide +kernel) rfl ?_
  refine zr_get (idx := 450) (k := 20) (v := .ref (m + 82)) (by decide +kernel) (by decide +kernel) hm rfl ?_
  refine zp_seg (pc' := 5) (lv' := [(0, .ref m), (1, .int s9)]) (st' := [.int s9, .ref (m + 82)]) [(4, .iload_n 1)] (by decide +kernel) rfl ?_
  have hb4 := hR_m.slots
  refine zr_aald (v := .ref (m + 7486 + 9 * s9.toNatClampNeg)) (by decide +kernel) hb4 (by decide) (zin (by first | omega | decide) (by first | omega | decide)) (zsl_at (by omega)) ?_
  refine zp_seg (pc' := 7) (lv' := [(0, .ref m), (1, .int s9)]) (st' := [.ref m, .ref (m + 7486 + 9 * s9.toNatClampNeg)]) [(6, .aload_n 0)] (by decide +kernel) rfl ?_
  refine zr_get (idx := 453) (k := 21) (v := .ref (m + 83)) (by decide +kernel) (by decide +kernel) hm rfl ?_
  refine zr_callS (idx := 547) (j := 298) (by decide +kernel) (by decide +kernel) (by decide) (show zMe 298 = some zq_X16_copy from rfl) rfl rfl (Nat.le_of_ble_eq_true rfl) rfl rfl (Nat.le_of_ble_eq_true rfl) (Nat.le_of_ble_eq_true rfl) (c_X16_copy (w := w) (m + 7486 + 9 * s9.toNatClampNeg) (m + 83) hTi_m_7486_9_s9_toNatClampNeg hTi_m_83 (by first | omega | decide | assumption | exact zr1_1 | exact zr1_0 | fail "num")) (by omega) (fun v10 w10 hp10 => ?_)
  obtain ⟨hsi10, heq10, hp10_0, rfl⟩ := hp10
  show zP _ _ _ _ [] _ _ _ _ _
  have hb5 : zTi w10 (m + 83) k := hTi_m_83.ag (fun x hx1 hx2 => (heq10 x (by omega)))
  obtain ⟨g1, fn1, fd1, fa1, fb1, fc1, fe1, fr1, fu1, hT1, hAn1, hAd1, hAa1, hAb1, hAc1, hAe1, hAr1, hAu1, hK1⟩ := id hb5
  obtain ⟨hK10, hKn1, hKd1, hKx1, hKm1, hKl1, hKr1, hKu1, hKk1⟩ := id hK1
  refine zp_seg (pc' := 14) (lv' := [(0, .ref m), (1, .int s9)]) (st' := [.ref m]) [(13, .aload_n 0)] (by decide +kernel) rfl ?_
  have hb6 : w10 m = some (.inl (15, zMo m g r)) := (heq10 m (by omega)).trans hm
  refine zr_get (idx := 453) (k := 21) (v := .ref (m + 83)) (by decide +kernel) (by decide +kernel) hb6 rfl ?_
  refine zr_get (idx := 234) (k := 10) (v := .int (g1 10)) (by decide +kernel) (by decide +kernel) hT1 rfl ?_
  have hoffend : ∀ x, (x < m + 7486 + 9 * s9.toNatClampNeg ∨ m + 7486 + 9 * s9.toNatClampNeg + 9 ≤ x) → w10 x = w x := fun x hx => (heq10 x hx)
  have k7 := zrng (g1 10)
  refine zr_retI (by decide +kernel) rfl ?_
  rw [← hPost]; exact ⟨rfl, _, rfl, hsi10, hoffend, hp10_0, _, rfl, (by
        exact trivial)⟩
