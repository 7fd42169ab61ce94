set_option maxHeartbeats 8000000 in
set_option maxRecDepth 100000 in
theorem c_X16_newB {w : zM} {g : Nat → Int32} {r : Nat → Value} {g3 : Int32} (m : Nat) (hm : w m = some (.inl (15, zMo m g r))) (hR_m : zR m w) (hbt : 0 ≤ g3.toInt ∧ g3.toInt < 44) (hg3 : g 3 = g3) : zCon 1 zq_X16_newB [.ref m] w (fun v9 w9' => zSI w w9' ∧ (∀ x, (x < m ∨ m + 1 ≤ x) ∧ (x < m + 596 + 130 * g3.toNatClampNeg ∨ m + 596 + 130 * g3.toNatClampNeg + 130 ≤ x) → w9' x = w x) ∧ w9' m = some (.inl (15, zMo m (zs g 3 (g3 + 1)) r)) ∧ zB w9' (m + 596 + 130 * g3.toNatClampNeg) zbZ ∧ v9 = some (.ref (m + 596 + 130 * g3.toNatClampNeg))) := by
  subst hg3
  intro d sz hd
  obtain ⟨d, rfl⟩ : ∃ d9, d = d9 + 1 := ⟨d - 1, by omega⟩
  generalize hPost : (fun (r9' : Option (Option Value)) (w9' : zM) (z9 : Nat) => z9 = sz ∧ ∃ v9, r9' = some v9 ∧ (zSI w w9' ∧ (∀ x, (x < m ∨ m + 1 ≤ x) ∧ (x < m + 596 + 130 * (g 3).toNatClampNeg ∨ m + 596 + 130 * (g 3).toNatClampNeg + 130 ≤ x) → w9' x = w x) ∧ w9' m = some (.inl (15, zMo m (zs g 3 ((g 3) + 1)) r)) ∧ zB w9' (m + 596 + 130 * (g 3).toNatClampNeg) zbZ ∧ v9 = some (.ref (m + 596 + 130 * (g 3).toNatClampNeg)))) = Post
  show zP (d + 1) zq_X16_newB 0 [(0, .ref m)] [] w sz 0 0 Post
  refine zp_seg (pc' := 1) (lv' := [(0, .ref m)]) (st' := [.ref m]) [(0, .aload_n 0)] (by decide +kernel) rfl ?_
  refine zr_get (idx := 86) (k := 2) (v := .ref (m + 2)) (by decide +kernel) (by decide +kernel) hm rfl ?_
  refine zp_seg (pc' := 6) (lv' := [(0, .ref m)]) (st' := [.ref m, .ref m, .ref (m + 2)]) [(4, .aload_n 0), (5, .dup)] (by decide +kernel) rfl ?_
  refine zr_get (idx := 90) (k := 3) (v := .int (g 3)) (by decide +kernel) (by decide +kernel) hm rfl ?_
  refine zp_seg (pc' := 12) (lv' := [(0, .ref m)]) (st' := [.int ((g 3) + 1), .ref m, .int (g 3), .ref (m + 2)]) [(9, .dup_x1), (10, .iconst 1), (11, .iadd)] (by decide +kernel) rfl ?_
  have k1 := zrng (g 3)
  have k2 := zaddC ((g 3)) 1 (n := 1) (by decide) (by omega) (by omega)
  generalize ev12 : ((g 3) + 1 : Int32) = v12 at k2 ⊢
  have kv12 := zrng v12
  refine zr_put2 (idx := 90) (k := 3) (fs2 := zMo m (zs g 3 v12) r) (by decide +kernel) (by decide +kernel) hm (Nat.le_of_ble_eq_true rfl) rfl rfl rfl ?_
  show zP (d + 1) zq_X16_newB 15 [(0, .ref m)] [.int (g 3), .ref (m + 2)] (zup w m (.inl (15, zMo m (zs g 3 v12) r))) sz 0 0 Post
  obtain ⟨w12, ew12⟩ : ∃ wz9, wz9 = zup w m (.inl (15, zMo m (zs g 3 v12) r)) := ⟨_, rfl⟩
  have hsi12 : zSI w w12 := by rw [ew12]; exact zSI.setG hm _ _
  have heq12 : ∀ x, x ≠ m → w12 x = w x := fun x hx => by rw [ew12]; exact zup_n hx
  have hc12 : w12 m = some (.inl (15, zMo m (zs g 3 v12) r)) := by rw [ew12]; exact zup_s
  rw [← ew12]
  clear ew12
  have hb3 := hR_m.si hsi12
  have hb5 := hb3.bs
  have hz6 : ((g 3).toNatClampNeg : Int) = (g 3).toInt := znat (by first | omega | decide)
  refine zr_aald (v := .ref (m + 596 + 130 * (g 3).toNatClampNeg)) (by decide +kernel) hb5 (by decide) (zin (by first | omega | decide) (by first | omega | decide)) (zbs_at (by omega)) ?_
  refine zp_seg (pc' := 17) (lv' := [(1, .ref (m + 596 + 130 * (g 3).toNatClampNeg)), (0, .ref m)]) (st' := []) [(16, .astore_n 1)] (by decide +kernel) rfl ?_
  have hz := znat (x := g 3) hbt.1
  have hBn := hR_m.bsB (g 3).toNatClampNeg (by omega)
  refine zp_seg (pc' := 19) (lv' := [(1, .ref (m + 596 + 130 * (g 3).toNatClampNeg)), (0, .ref m)]) (st' := [.int 0, .ref (m + 596 + 130 * (g 3).toNatClampNeg)]) [(17, .aload_n 1), (18, .iconst 0)] (by decide +kernel) rfl ?_
  have hb12 := hBn.si hsi12
  obtain ⟨n7, hb8, hb9, -⟩ := id hb12
  have kn7 := zrng n7
  refine zr_put2 (idx := 93) (k := 1) (fs2 := [.ref (m + 596 + 130 * (g 3).toNatClampNeg + 1), .int 0]) (by decide +kernel) (by decide +kernel) hb8 (Nat.le_of_ble_eq_true rfl) rfl rfl rfl ?_
  show zP (d + 1) zq_X16_newB 22 [(1, .ref (m + 596 + 130 * (g 3).toNatClampNeg)), (0, .ref m)] [] (zup w12 (m + 596 + 130 * (g 3).toNatClampNeg) (.inl (11, [.ref (m + 596 + 130 * (g 3).toNatClampNeg + 1), .int 0]))) sz 0 0 Post
  obtain ⟨w19, ew19⟩ : ∃ wz9, wz9 = zup w12 (m + 596 + 130 * (g 3).toNatClampNeg) (.inl (11, [.ref (m + 596 + 130 * (g 3).toNatClampNeg + 1), .int 0])) := ⟨_, rfl⟩
  have hsi19 : zSI w12 w19 := by rw [ew19]; exact zSI.setB hb8
  have heq19 : ∀ x, x ≠ m + 596 + 130 * (g 3).toNatClampNeg → w19 x = w12 x := fun x hx => by rw [ew19]; exact zup_n hx
  have hc19 : w19 (m + 596 + 130 * (g 3).toNatClampNeg) = some (.inl (11, [.ref (m + 596 + 130 * (g 3).toNatClampNeg + 1), .int 0])) := by rw [ew19]; exact zup_s
  rw [← ew19]
  clear ew19
  refine zp_seg (pc' := 23) (lv' := [(1, .ref (m + 596 + 130 * (g 3).toNatClampNeg)), (0, .ref m)]) (st' := [.ref (m + 596 + 130 * (g 3).toNatClampNeg)]) [(22, .aload_n 1)] (by decide +kernel) rfl ?_
  have hoffend : ∀ x, (x < m ∨ m + 1 ≤ x) ∧ (x < m + 596 + 130 * (g 3).toNatClampNeg ∨ m + 596 + 130 * (g 3).toNatClampNeg + 130 ≤ x) → w19 x = w x := fun x hx => ((heq19 x (by omega)).trans (heq12 x (by omega)))
  have hb13 : w19 m = some (.inl (15, zMo m (zs g 3 v12) r)) := (heq19 m (by omega)).trans hc12
  have hb14 := hb12.si hsi19
  refine zr_retA (by decide +kernel) rfl ?_
  rw [← hPost]; exact ⟨rfl, _, rfl, (hsi12.tr hsi19), hoffend, (by
        rw [ev12]; exact hb13), (by
        exact zB.mk hb14 hc19 (by rw [zrw_Z]; decide) (by rw [zrw_Z]; decide) (fun j hj => by rw [zrw_Z] at hj; omega)), rfl⟩
