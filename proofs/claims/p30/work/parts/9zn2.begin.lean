theorem zx_X16_beginZ_0 {m x : Nat} (h0 : x < m ∨ m + 1 ≤ x) : x ≠ m := by omega
set_option maxHeartbeats 8000000 in
set_option maxRecDepth 100000 in
theorem c_X16_beginZ {w : zM} {g : Nat → Int32} {r : Nat → Value}  (m : Nat) (hm : w m = some (.inl (15, zMo m g r))) (hR_m : zR m w) : zCon 1 zq_X16_begin [.ref m] w (fun v9 w9' => ∃ Z9 : Int32, zSI w w9' ∧ (∀ x, (x < m ∨ m + 1 ≤ x) → w9' x = w x) ∧ w9' m = some (.inl (15, zMo m (zs (zs (zs g 1 Z9) 3 Z9) 16 Z9) r)) ∧ Z9.toInt = 0 ∧ v9 = none) := by
  intro d sz hd
  obtain ⟨d, rfl⟩ : ∃ d9, d = d9 + 1 := ⟨d - 1, by omega⟩
  generalize hPost : (fun (r9' : Option (Option Value)) (w9' : zM) (z9 : Nat) => z9 = sz ∧ ∃ v9, r9' = some v9 ∧ (∃ Z9 : Int32, zSI w w9' ∧ (∀ x, (x < m ∨ m + 1 ≤ x) → w9' x = w x) ∧ w9' m = some (.inl (15, zMo m (zs (zs (zs g 1 Z9) 3 Z9) 16 Z9) r)) ∧ Z9.toInt = 0 ∧ v9 = none)) = Post
  show zP (d + 1) zq_X16_begin 0 [(0, .ref m)] [] w sz 0 0 Post
  refine zp_seg (pc' := 2) (lv' := [(0, .ref m)]) (st' := [.int 0, .ref m]) [(0, .aload_n 0), (1, .iconst 0)] (by decide +kernel) rfl ?_
  refine zr_put2 (idx := 21) (k := 1) (fs2 := zMo m (zs g 1 0) r) (by decide +kernel) (by decide +kernel) hm (Nat.le_of_ble_eq_true rfl) rfl rfl rfl ?_
  show zP (d + 1) zq_X16_begin 5 [(0, .ref m)] [] (zup w m (.inl (15, zMo m (zs g 1 0) r))) sz 0 0 Post
  obtain ⟨w2, ew2⟩ : ∃ wz9, wz9 = zup w m (.inl (15, zMo m (zs g 1 0) r)) := ⟨_, rfl⟩
  have hsi2 : zSI w w2 := by rw [ew2]; exact zSI.setG hm _ _
  have heq2 : ∀ x, x ≠ m → w2 x = w x := fun x hx => by rw [ew2]; exact zup_n hx
  have hc2 : w2 m = some (.inl (15, zMo m (zs g 1 0) r)) := by rw [ew2]; exact zup_s
  rw [← ew2]
  clear ew2
  refine zp_seg (pc' := 7) (lv' := [(0, .ref m)]) (st' := [.int 0, .ref m]) [(5, .aload_n 0), (6, .iconst 0)] (by decide +kernel) rfl ?_
  refine zr_put2 (idx := 90) (k := 3) (fs2 := zMo m (zs (zs g 1 0) 3 0) r) (by decide +kernel) (by decide +kernel) hc2 (Nat.le_of_ble_eq_true rfl) rfl rfl rfl ?_
  show zP (d + 1) zq_X16_begin 10 [(0, .ref m)] [] (zup w2 m (.inl (15, zMo m (zs (zs g 1 0) 3 0) r))) sz 0 0 Post
  obtain ⟨w7, ew7⟩ : ∃ wz9, wz9 = zup w2 m (.inl (15, zMo m (zs (zs g 1 0) 3 0) r)) := ⟨_, rfl⟩
  have hsi7 : zSI w2 w7 := by rw [ew7]; exact zSI.setG hc2 _ _
  have heq7 : ∀ x, x ≠ m → w7 x = w2 x := fun x hx => by rw [ew7]; exact zup_n hx
  have hc7 : w7 m = some (.inl (15, zMo m (zs (zs g 1 0) 3 0) r)) := by rw [ew7]; exact zup_s
  rw [← ew7]
  clear ew7
  refine zp_seg (pc' := 12) (lv' := [(0, .ref m)]) (st' := [.int 0, .ref m]) [(10, .aload_n 0), (11, .iconst 0)] (by decide +kernel) rfl ?_
  refine zr_put2 (idx := 375) (k := 16) (fs2 := zMo m (zs (zs (zs g 1 0) 3 0) 16 0) r) (by decide +kernel) (by decide +kernel) hc7 (Nat.le_of_ble_eq_true rfl) rfl rfl rfl ?_
  show zP (d + 1) zq_X16_begin 15 [(0, .ref m)] [] (zup w7 m (.inl (15, zMo m (zs (zs (zs g 1 0) 3 0) 16 0) r))) sz 0 0 Post
  obtain ⟨w12, ew12⟩ : ∃ wz9, wz9 = zup w7 m (.inl (15, zMo m (zs (zs (zs g 1 0) 3 0) 16 0) r)) := ⟨_, rfl⟩
  have hsi12 : zSI w7 w12 := by rw [ew12]; exact zSI.setG hc7 _ _
  have heq12 : ∀ x, x ≠ m → w12 x = w7 x := fun x hx => by rw [ew12]; exact zup_n hx
  have hc12 : w12 m = some (.inl (15, zMo m (zs (zs (zs g 1 0) 3 0) 16 0) r)) := by rw [ew12]; exact zup_s
  rw [← ew12]
  clear ew12
  have hoffend : ∀ x, (x < m ∨ m + 1 ≤ x) → w12 x = w x := fun x hx => ((heq12 x (zx_X16_beginZ_0 hx)).trans ((heq7 x (zx_X16_beginZ_0 hx)).trans (heq2 x (zx_X16_beginZ_0 hx))))
  refine zr_retV (by decide +kernel) rfl ?_
  rw [← hPost]; exact ⟨rfl, _, rfl, (0 : Int32), ((hsi2.tr hsi7).tr hsi12), hoffend, hc12, (by
        decide), rfl⟩
