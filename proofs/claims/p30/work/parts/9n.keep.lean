theorem zx_X16_begin_0 {m x : Nat} (h0 : x < m ∨ m + 1 ≤ x) : x ≠ m := by omega
set_option maxHeartbeats 8000000 in
set_option maxRecDepth 100000 in
theorem c_X16_begin {w : zM} {g : Nat → Int32} {r : Nat → Value}  (m : Nat) (hm : w m = some (.inl (15, zMo m g r))) (hR_m : zR m w) : zCon 1 zq_X16_begin [.ref m] w (fun v9 w9' => zSI w w9' ∧ (∀ x, (x < m ∨ m + 1 ≤ x) → w9' x = w x) ∧ w9' m = some (.inl (15, zMo m (zs (zs (zs g 1 0) 3 0) 16 0) r)) ∧ v9 = none) := by
  intro d sz hd
  obtain ⟨d, rfl⟩ : ∃ d9, d = d9 + 1 := ⟨d - 1, by omega⟩
  generalize hPost : (fun (r9' : Option (Option Value)) (w9' : zM) (z9 : Nat) => z9 = sz ∧ ∃ v9, r9' = some v9 ∧ (zSI w w9' ∧ (∀ x, (x < m ∨ m + 1 ≤ x) → w9' x = w x) ∧ w9' m = some (.inl (15, zMo m (zs (zs (zs g 1 0) 3 0) 16 0) r)) ∧ v9 = none)) = Post
  show zP (d + 1) zq_X16_begin 0 [(0, .ref m)] [] w sz 0 0 Post
  refine zp_seg (pc' := 2) (lv' := [(0, .ref m)]) (st' := [.int 0, .ref m]) [(0, .aload_n 0), (1, .iconst 0)] (by decide +kernel) rfl ?_
  refine zr_put2 (idx := 21) (k := 1) (fs2 := zMo m (zs g 1 0) r) (by decide +kernel) (by decide +kernel) hm (Nat.le_of_ble_eq_true rfl) rfl rfl rfl ?_
  show zP (d + 1) zq_X16_begin 5 [(0, .ref m)] [] (zup w m (.inl (15, zMo m (zs g 1 0) r))) sz 0 0 Post
  obtain ⟨w2, ew2⟩ : ∃ wz9, wz9 = zup w m (.inl (15, zMo m (zs g 1 0) r)) := ⟨_, rfl⟩
  have hsi2 : zSI w w2 := by rw [ew2]; exact zSI.setG hm _ _
  have heq2 : ∀ x, x ≠ m → w2 x = w x := fun x hx => by rw [ew2]; exact zup_n hx
  have hc2 : w2 m = some (.inl (15, zMo m (zs g 1 0) r)) := by rw [ew2]; exact zup_s
  rw [← ew2]
  clear ew2
  refine zp_seg (pc' := 7) (lv' := [(0, .ref m)]) (st' := [.int 0, .ref m]) [(5, .aload_n 0), (6, .iconst 0)] (by decide +kernel) rfl ?_
  refine zr_put2 (idx := 90) (k := 3) (fs2 := zMo m (zs (zs g 1 0) 3 0) r) (by decide +kernel) (by decide +kernel) hc2 (Nat.le_of_ble_eq_true rfl) rfl rfl rfl ?_
  show zP (d + 1) zq_X16_begin 10 [(0, .ref m)] [] (zup w2 m (.inl (15, zMo m (zs (zs g 1 0) 3 0) r))) sz 0 0 Post
  obtain ⟨w7, ew7⟩ : ∃ wz9, wz9 = zup w2 m (.inl (15, zMo m (zs (zs g 1 0) 3 0) r)) := ⟨_, rfl⟩
  have hsi7 : zSI w2 w7 := by rw [ew7]; exact zSI.setG hc2 _ _
  have heq7 : ∀ x, x ≠ m → w7 x = w2 x := fun x hx => by rw [ew7]; exact zup_n hx
  have hc7 : w7 m = some (.inl (15, zMo m (zs (zs g 1 0) 3 0) r)) := by rw [ew7]; exact zup_s
  rw [← ew7]
  clear ew7
  refine zp_seg (pc' := 12) (lv' := [(0, .ref m)]) (st' := [.int 0, .ref m]) [(10, .aload_n 0), (11, .iconst 0)] (by decide +kernel) rfl ?_
  refine zr_put2 (idx := 375) (k := 16) (fs2 := zMo m (zs (zs (zs g 1 0) 3 0) 16 0) r) (by decide +kernel) (by decide +kernel) hc7 (Nat.le_of_ble_eq_true rfl) rfl rfl rfl ?_
  show zP (d + 1) zq_X16_begin 15 [(0, .ref m)] [] (zup w7 m (.inl (15, zMo m (zs (zs (zs g 1 0) 3 0) 16 0) r))) sz 0 0 Post
  obtain ⟨w12, ew12⟩ : ∃ wz9, wz9 = zup w7 m (.inl (15, zMo m (zs (zs (zs g 1 0) 3 0) 16 0) r)) := ⟨_, rfl⟩
  have hsi12 : zSI w7 w12 := by rw [ew12]; exact zSI.setG hc7 _ _
  have heq12 : ∀ x, x ≠ m → w12 x = w7 x := fun x hx => by rw [ew12]; exact zup_n hx
  have hc12 : w12 m = some (.inl (15, zMo m (zs (zs (zs g 1 0) 3 0) 16 0) r)) := by rw [ew12]; exact zup_s
  rw [← ew12]
  clear ew12
  have hoffend : ∀ x, (x < m ∨ m + 1 ≤ x) → w12 x = w x := fun x hx => ((heq12 x (zx_X16_begin_0 hx)).trans ((heq7 x (zx_X16_begin_0 hx)).trans (heq2 x (zx_X16_begin_0 hx))))
  refine zr_retV (by decide +kernel) rfl ?_
  rw [← hPost]; exact ⟨rfl, _, rfl, ((hsi2.tr hsi7).tr hsi12), hoffend, hc12, rfl⟩

set_option maxHeartbeats 8000000 in
set_option maxRecDepth 100000 in
theorem c_X16_keep {w : zM} {g : Nat → Int32} {r : Nat → Value} {k k9 : Int32} (m : Nat) (s9 : Int32) (hm : w m = some (.inl (15, zMo m g r))) (hR_m : zR m w) (hTi_m_83 : zTi w (m + 83) k) (hTi_m_7486_9_s9_toNatClampNeg : zTi w (m + 7486 + 9 * s9.toNatClampNeg) k9) (hs : 0 ≤ s9.toInt ∧ s9.toInt < 12) : zCon 2 zq_X16_keep [.ref m, .int s9] w (fun v9 w9' => zSI w w9' ∧ (∀ x, (x < m + 7486 + 9 * s9.toNatClampNeg ∨ m + 7486 + 9 * s9.toNatClampNeg + 9 ≤ x) → w9' x = w x) ∧ zTi w9' (m + 7486 + 9 * s9.toNatClampNeg) k ∧ ∃ r9 : Int32, v9 = some (.int r9) ∧ (r9 = k)) := by
  intro d sz hd
  obtain ⟨d, rfl⟩ : ∃ d9, d = d9 + 1 := ⟨d - 1, by omega⟩
  generalize hPost : (fun (r9' : Option (Option Value)) (w9' : zM) (z9 : Nat) => z9 = sz ∧ ∃ v9, r9' = some v9 ∧ (zSI w w9' ∧ (∀ x, (x < m + 7486 + 9 * s9.toNatClampNeg ∨ m + 7486 + 9 * s9.toNatClampNeg + 9 ≤ x) → w9' x = w x) ∧ zTi w9' (m + 7486 + 9 * s9.toNatClampNeg) k ∧ ∃ r9 : Int32, v9 = some (.int r9) ∧ (r9 = k))) = Post
  show zP (d + 1) zq_X16_keep 0 [(0, .ref m), (1, .int s9)] [] w sz 0 0 Post
  have k1 := zrng s9
  have hz2 : (s9.toNatClampNeg : Int) = s9.toInt := znat (by first | omega | decide)
  refine zp_seg (pc' := 1) (lv' := [(0, .ref m), (1, .int s9)]) (st' := [.ref m]) [(0, .aload_n 0)] (by decide +kernel) rfl ?_
  refine zr_get (idx := 450) (k := 20) (v := .ref (m + 82)) (by decide +kernel) (by decide +kernel) hm rfl ?_
  refine zp_seg (pc' := 5) (lv' := [(0, .ref m), (1, .int s9)]) (st' := [.int s9, .ref (m + 82)]) [(4, .iload_n 1)] (by decide +kernel) rfl ?_
  have hb4 := hR_m.slots
  refine zr_aald (v := .ref (m + 7486 + 9 * s9.toNatClampNeg)) (by decide +kernel) hb4 (by decide) (zin (by first | omega | decide) (by first | omega | decide)) (zsl_at (by omega)) ?_
  refine zp_seg (pc' := 7) (lv' := [(0, .ref m), (1, .int s9)]) (st' := [.ref m, .ref (m + 7486 + 9 * s9.toNatClampNeg)]) [(6, .aload_n 0)] (by decide +kernel) rfl ?_
  refine zr_get (idx := 453) (k := 21) (v := .ref (m + 83)) (by decide +kernel) (by decide +kernel) hm rfl ?_
  refine zr_callS (idx := 547) (j := 298) (by decide +kernel) (by decide +kernel) (by decide) (show zMe 298 = some zq_X16_copy from rfl) rfl rfl (Nat.le_of_ble_eq_true rfl) rfl rfl (Nat.le_of_ble_eq_true rfl) (Nat.le_of_ble_eq_true rfl) (c_X16_copy (w := w) (m + 7486 + 9 * s9.toNatClampNeg) (m + 83) hTi_m_7486_9_s9_toNatClampNeg hTi_m_83 (by first | omega | decide | assumption | exact zr1_1 | exact zr1_0 | fail "num")) (by omega) (fun v10 w10 hp10 => ?_)
  obtain ⟨hsi10, heq10, hp10_0, rfl⟩ := hp10
  show zP _ _ _ _ [] _ _ _ _ _
  have hb5 : zTi w10 (m + 83) k := hTi_m_83.ag (fun x hx1 hx2 => (heq10 x (by omega)))
  obtain ⟨g1, fn1, fd1, fa1, fb1, fc1, fe1, fr1, fu1, hT1, hAn1, hAd1, hAa1, hAb1, hAc1, hAe1, hAr1, hAu1, hK1⟩ := id hb5
  obtain ⟨hK10, hKn1, hKd1, hKx1, hKm1, hKl1, hKr1, hKu1, hKk1⟩ := id hK1
  refine zp_seg (pc' := 14) (lv' := [(0, .ref m), (1, .int s9)]) (st' := [.ref m]) [(13, .aload_n 0)] (by decide +kernel) rfl ?_
  have hb6 : w10 m = some (.inl (15, zMo m g r)) := (heq10 m (by omega)).trans hm
  refine zr_get (idx := 453) (k := 21) (v := .ref (m + 83)) (by decide +kernel) (by decide +kernel) hb6 rfl ?_
  refine zr_get (idx := 202) (k := 0) (v := .int (g1 0)) (by decide +kernel) (by decide +kernel) hT1 rfl ?_
  have hoffend : ∀ x, (x < m + 7486 + 9 * s9.toNatClampNeg ∨ m + 7486 + 9 * s9.toNatClampNeg + 9 ≤ x) → w10 x = w x := fun x hx => (heq10 x hx)
  have k7 := zrng (g1 0)
  refine zr_retI (by decide +kernel) rfl ?_
  rw [← hPost]; exact ⟨rfl, _, rfl, hsi10, hoffend, hp10_0, _, rfl, (by
        exact hK10)⟩

theorem zx_X16_say_0 {m x : Nat} (h0 : x < m ∨ m + 1 ≤ x) : x ≠ m := by omega
theorem zx_X16_say_1 {m x : Nat} (h0 : m + 93 ≤ x) (h1 : x < m + 93 + 1) : x ≠ m := by omega
theorem zx_X16_say_2 {m : Nat}  : m ≠ m + 93 := by omega
theorem zx_X16_say_3 {m x : Nat} (h0 : x < m + 93 ∨ m + 93 + 1 ≤ x) : x ≠ m + 93 := by omega
set_option maxHeartbeats 8000000 in
set_option maxRecDepth 100000 in
theorem c_X16_say {w : zM} {g : Nat → Int32} {r : Nat → Value}  {g25 : Int32} (m : Nat) (c : Int32) (hm : w m = some (.inl (15, zMo m g r))) (hR_m : zR m w) (hBy_m_93 : zBya w (m + 93) 4000) (how : 0 ≤ g25.toInt ∧ g25.toInt ≤ 1000000000) (hg25 : g 25 = g25) : zCon 1 zq_X16_say [.ref m, .int c] w (fun v9 w9' => ∃ C9 : Int32, zSI w w9' ∧ (∀ x, (x < m ∨ m + 1 ≤ x) ∧ (x < m + 93 ∨ m + 93 + 1 ≤ x) → w9' x = w x) ∧ w9' m = some (.inl (15, zMo m (zs g 25 C9) r)) ∧ zBya w9' (m + 93) 4000 ∧ C9.toInt = g25.toInt + 1 ∧ v9 = none) := by
  subst hg25
  intro d sz hd
  obtain ⟨d, rfl⟩ : ∃ d9, d = d9 + 1 := ⟨d - 1, by omega⟩
  generalize hPost : (fun (r9' : Option (Option Value)) (w9' : zM) (z9 : Nat) => z9 = sz ∧ ∃ v9, r9' = some v9 ∧ (∃ C9 : Int32, zSI w w9' ∧ (∀ x, (x < m ∨ m + 1 ≤ x) ∧ (x < m + 93 ∨ m + 93 + 1 ≤ x) → w9' x = w x) ∧ w9' m = some (.inl (15, zMo m (zs g 25 C9) r)) ∧ zBya w9' (m + 93) 4000 ∧ C9.toInt = (g 25).toInt + 1 ∧ v9 = none)) = Post
  show zP (d + 1) zq_X16_say 0 [(0, .ref m), (1, .int c)] [] w sz 0 0 Post
  have k1 := zrng c
  have k2 := zrng (g 25)
  have hz3 : ((g 25).toNatClampNeg : Int) = (g 25).toInt := znat (by first | omega | decide)
  refine zp_seg (pc' := 1) (lv' := [(0, .ref m), (1, .int c)]) (st' := [.ref m]) [(0, .aload_n 0)] (by decide +kernel) rfl ?_
  refine zr_get (idx := 561) (k := 25) (v := .int (g 25)) (by decide +kernel) (by decide +kernel) hm rfl ?_
  refine zp_seg (pc' := 7) (lv' := [(0, .ref m), (1, .int c)]) (st' := [.int 4000, .int (g 25)]) [(4, .sipush 4000)] (by decide +kernel) rfl ?_
  refine zp_if (i := .if_icmp .ge 14) (c := 4000 ≤ (g 25)) (t := 21) (e := 10) (lv' := [(0, .ref m), (1, .int c)]) (st' := []) (by decide +kernel) rfl (fun cc7 => ?_) (fun cc7 => ?_)
  ·
    have f5 := zleI cc7
    rw [show (4000 : Int32).toInt = 4000 from by decide] at f5
    refine zp_seg (pc' := 23) (lv' := [(0, .ref m), (1, .int c)]) (st' := [.ref m, .ref m]) [(21, .aload_n 0), (22, .dup)] (by decide +kernel) rfl ?_
    refine zr_get (idx := 561) (k := 25) (v := .int (g 25)) (by decide +kernel) (by decide +kernel) hm rfl ?_
    refine zp_seg (pc' := 28) (lv' := [(0, .ref m), (1, .int c)]) (st' := [.int ((g 25) + 1), .ref m]) [(26, .iconst 1), (27, .iadd)] (by decide +kernel) rfl ?_
    have k6 := zaddC ((g 25)) 1 (n := 1) (by decide) (by omega) (by omega)
    generalize ev28 : ((g 25) + 1 : Int32) = v28 at k6 ⊢
    have kv28 := zrng v28
    refine zr_put2 (idx := 561) (k := 25) (fs2 := zMo m (zs g 25 v28) r) (by decide +kernel) (by decide +kernel) hm (Nat.le_of_ble_eq_true rfl) rfl rfl rfl ?_
    show zP (d + 1) zq_X16_say 31 [(0, .ref m), (1, .int c)] [] (zup w m (.inl (15, zMo m (zs g 25 v28) r))) sz 0 0 Post
    obtain ⟨w28, ew28⟩ : ∃ wz9, wz9 = zup w m (.inl (15, zMo m (zs g 25 v28) r)) := ⟨_, rfl⟩
    have hsi28 : zSI w w28 := by rw [ew28]; exact zSI.setG hm _ _
    have heq28 : ∀ x, x ≠ m → w28 x = w x := fun x hx => by rw [ew28]; exact zup_n hx
    have hc28 : w28 m = some (.inl (15, zMo m (zs g 25 v28) r)) := by rw [ew28]; exact zup_s
    rw [← ew28]
    clear ew28
    have hoffend : ∀ x, (x < m ∨ m + 1 ≤ x) ∧ (x < m + 93 ∨ m + 93 + 1 ≤ x) → w28 x = w x := fun x hx => (heq28 x (zx_X16_say_0 hx.1))
    have hb7 : zBya w28 (m + 93) 4000 := hBy_m_93.ag (fun x hx1 hx2 => (heq28 x (zx_X16_say_1 hx1 hx2)))
    refine zr_retV (by decide +kernel) rfl ?_
    rw [← hPost]; exact ⟨rfl, _, rfl, v28, hsi28, hoffend, hc28, hb7, (by first | omega | assumption | decide), rfl⟩
  ·
    have f9 := znleI cc7
    rw [show (4000 : Int32).toInt = 4000 from by decide] at f9
    refine zp_seg (pc' := 11) (lv' := [(0, .ref m), (1, .int c)]) (st' := [.ref m]) [(10, .aload_n 0)] (by decide +kernel) rfl ?_
    refine zr_get (idx := 462) (k := 26) (v := .ref (m + 93)) (by decide +kernel) (by decide +kernel) hm rfl ?_
    refine zp_seg (pc' := 15) (lv' := [(0, .ref m), (1, .int c)]) (st' := [.ref m, .ref (m + 93)]) [(14, .aload_n 0)] (by decide +kernel) rfl ?_
    refine zr_get (idx := 561) (k := 25) (v := .int (g 25)) (by decide +kernel) (by decide +kernel) hm rfl ?_
    refine zp_seg (pc' := 20) (lv' := [(0, .ref m), (1, .int c)]) (st' := [.int (c.toInt8.toInt32), .int (g 25), .ref (m + 93)]) [(18, .iload_n 1), (19, .i2b)] (by decide +kernel) rfl ?_
    generalize ev20 : (c.toInt8.toInt32 : Int32) = v20
    have kv20 := zrng v20
    obtain ⟨f10, hb11, hby12⟩ := id hBy_m_93
    refine zr_bast (by decide +kernel) hb11 (zin (by first | omega | decide) (by first | omega | decide)) ?_
    show zP (d + 1) zq_X16_say 21 [(0, .ref m), (1, .int c)] [] (zup w (m + 93) (.inr (1, 4000, .inl (upd f10 ((g 25).toNatClampNeg) (vp_nar .byte v20))))) sz 0 0 Post
    obtain ⟨w20, ew20⟩ : ∃ wz9, wz9 = zup w (m + 93) (.inr (1, 4000, .inl (upd f10 ((g 25).toNatClampNeg) (vp_nar .byte v20)))) := ⟨_, rfl⟩
    have hsi20 : zSI w w20 := by rw [ew20]; exact zSI.arr _ hb11
    have heq20 : ∀ x, x ≠ m + 93 → w20 x = w x := fun x hx => by rw [ew20]; exact zup_n hx
    have hc20 : w20 (m + 93) = some (.inr (1, 4000, .inl (upd f10 ((g 25).toNatClampNeg) (vp_nar .byte v20)))) := by rw [ew20]; exact zup_s
    rw [← ew20]
    clear ew20
    have hBy13 : zBya w20 (m + 93) 4000 := ⟨_, hc20, zFit_up hby12 _ _⟩
    refine zp_seg (pc' := 23) (lv' := [(0, .ref m), (1, .int c)]) (st' := [.ref m, .ref m]) [(21, .aload_n 0), (22, .dup)] (by decide +kernel) rfl ?_
    have hb14 : w20 m = some (.inl (15, zMo m g r)) := (heq20 m (zx_X16_say_2)).trans hm
    refine zr_get (idx := 561) (k := 25) (v := .int (g 25)) (by decide +kernel) (by decide +kernel) hb14 rfl ?_
    refine zp_seg (pc' := 28) (lv' := [(0, .ref m), (1, .int c)]) (st' := [.int ((g 25) + 1), .ref m]) [(26, .iconst 1), (27, .iadd)] (by decide +kernel) rfl ?_
    have k15 := zaddC ((g 25)) 1 (n := 1) (by decide) (by omega) (by omega)
    generalize ev28 : ((g 25) + 1 : Int32) = v28 at k15 ⊢
    have kv28 := zrng v28
    refine zr_put2 (idx := 561) (k := 25) (fs2 := zMo m (zs g 25 v28) r) (by decide +kernel) (by decide +kernel) hb14 (Nat.le_of_ble_eq_true rfl) rfl rfl rfl ?_
    show zP (d + 1) zq_X16_say 31 [(0, .ref m), (1, .int c)] [] (zup w20 m (.inl (15, zMo m (zs g 25 v28) r))) sz 0 0 Post
    obtain ⟨w28, ew28⟩ : ∃ wz9, wz9 = zup w20 m (.inl (15, zMo m (zs g 25 v28) r)) := ⟨_, rfl⟩
    have hsi28 : zSI w20 w28 := by rw [ew28]; exact zSI.setG hb14 _ _
    have heq28 : ∀ x, x ≠ m → w28 x = w20 x := fun x hx => by rw [ew28]; exact zup_n hx
    have hc28 : w28 m = some (.inl (15, zMo m (zs g 25 v28) r)) := by rw [ew28]; exact zup_s
    rw [← ew28]
    clear ew28
    have hoffend : ∀ x, (x < m ∨ m + 1 ≤ x) ∧ (x < m + 93 ∨ m + 93 + 1 ≤ x) → w28 x = w x := fun x hx => ((heq28 x (zx_X16_say_0 hx.1)).trans (heq20 x (zx_X16_say_3 hx.2)))
    have hb16 : zBya w28 (m + 93) 4000 := hBy13.ag (fun x hx1 hx2 => (heq28 x (zx_X16_say_1 hx1 hx2)))
    refine zr_retV (by decide +kernel) rfl ?_
    rw [← hPost]; exact ⟨rfl, _, rfl, v28, (hsi20.tr hsi28), hoffend, hc28, hb16, (by first | omega | assumption | decide), rfl⟩
