theorem zx_X16_solveBy_0 {m x : Nat} (h0 : x < m ∨ m + 1 ≤ x) : x ≠ m := by omega
theorem zx_X16_solveBy_1 {m : Nat}  : (m + 176) < m ∨ m + 1 ≤ (m + 176) := by omega
theorem zx_X16_solveBy_2 {m : Nat}  : m ≠ m + 176 := by omega
theorem zx_X16_solveBy_3 {m : Nat}  : (m + 177) < m ∨ m + 1 ≤ (m + 177) := by omega
theorem zx_X16_solveBy_4 {m : Nat}  : (m + 177) < m + 176 ∨ m + 176 + 1 ≤ (m + 177) := by omega
theorem zx_X16_solveBy_5 {G1_0 m : Nat} (h0 : G1_0 + 14 ≤ 160) : (m + 177) < m + 276 + 2 * G1_0 ∨ m + 276 + 2 * G1_0 + (320 - 2 * G1_0) ≤ (m + 177) := by omega
theorem zx_X16_solveBy_6 {m : Nat}  : (m + 177) ≠ m := by omega
theorem zx_X16_solveBy_7 {m : Nat}  : (m + 177) ≠ m + 176 := by omega
theorem zx_X16_solveBy_8 {m x : Nat} (h0 : x < m + 176 ∨ m + 176 + 1 ≤ x) : x ≠ m + 176 := by omega
theorem zx_X16_solveBy_9 {m : Nat}  : (m + 178) < m ∨ m + 1 ≤ (m + 178) := by omega
theorem zx_X16_solveBy_10 {m : Nat}  : (m + 178) < m + 176 ∨ m + 176 + 1 ≤ (m + 178) := by omega
theorem zx_X16_solveBy_11 {G1_0 m : Nat} (h0 : G1_0 + 14 ≤ 160) : (m + 178) < m + 276 + 2 * G1_0 ∨ m + 276 + 2 * G1_0 + (320 - 2 * G1_0) ≤ (m + 178) := by omega
theorem zx_X16_solveBy_12 {m : Nat}  : (m + 178) ≠ m := by omega
theorem zx_X16_solveBy_13 {m : Nat}  : (m + 178) ≠ m + 176 := by omega
theorem zx_X16_solveBy_14 {m x : Nat} (h0 : m + 149 ≤ x) (h1 : x < m + 149 + 27) : x < m ∨ m + 1 ≤ x := by omega
theorem zx_X16_solveBy_15 {m x : Nat} (h0 : m + 149 ≤ x) (h1 : x < m + 149 + 27) : x < m + 176 ∨ m + 176 + 1 ≤ x := by omega
theorem zx_X16_solveBy_16 {G1_0 m x : Nat} (h0 : m + 149 ≤ x) (h1 : x < m + 149 + 27) (h2 : G1_0 + 14 ≤ 160) : x < m + 276 + 2 * G1_0 ∨ m + 276 + 2 * G1_0 + (320 - 2 * G1_0) ≤ x := by omega
theorem zx_X16_solveBy_17 {m x : Nat} (h0 : m + 149 ≤ x) (h1 : x < m + 149 + 27) : x ≠ m := by omega
theorem zx_X16_solveBy_18 {m x : Nat} (h0 : m + 149 ≤ x) (h1 : x < m + 149 + 27) : x ≠ m + 176 := by omega
theorem zx_X16_solveBy_19 {m s74 t76 x : Nat} (h0 : m + 7594 + 28 * s74 + 2 * t76 ≤ x) (h1 : x < m + 7594 + 28 * s74 + 2 * t76 + 2) (h2 : s74 < 26) (h3 : t76 < 14) : x < m ∨ m + 1 ≤ x := by omega
theorem zx_X16_solveBy_20 {m s74 t76 x : Nat} (h0 : m + 7594 + 28 * s74 + 2 * t76 ≤ x) (h1 : x < m + 7594 + 28 * s74 + 2 * t76 + 2) (h2 : s74 < 26) (h3 : t76 < 14) : x < m + 176 ∨ m + 176 + 1 ≤ x := by omega
theorem zx_X16_solveBy_21 {G1_0 m s74 t76 x : Nat} (h0 : m + 7594 + 28 * s74 + 2 * t76 ≤ x) (h1 : x < m + 7594 + 28 * s74 + 2 * t76 + 2) (h2 : s74 < 26) (h3 : t76 < 14) (h4 : G1_0 + 14 ≤ 160) : x < m + 276 + 2 * G1_0 ∨ m + 276 + 2 * G1_0 + (320 - 2 * G1_0) ≤ x := by omega
theorem zx_X16_solveBy_22 {m s74 t76 x : Nat} (h0 : m + 7594 + 28 * s74 + 2 * t76 ≤ x) (h1 : x < m + 7594 + 28 * s74 + 2 * t76 + 2) (h2 : s74 < 26) (h3 : t76 < 14) : x ≠ m := by omega
theorem zx_X16_solveBy_23 {m s74 t76 x : Nat} (h0 : m + 7594 + 28 * s74 + 2 * t76 ≤ x) (h1 : x < m + 7594 + 28 * s74 + 2 * t76 + 2) (h2 : s74 < 26) (h3 : t76 < 14) : x ≠ m + 176 := by omega
theorem zx_X16_solveBy_24 {G1_0 last m x : Nat} (h0 : last ≤ x) (h1 : x < last + 2) (h2 : (m + 276 ≤ last ∧ last + 2 ≤ m + 276 + 2 * G1_0) ∨ m + 596 ≤ last) (h3 : G1_0 + 14 ≤ 160) : x < m ∨ m + 1 ≤ x := by omega
theorem zx_X16_solveBy_25 {G1_0 last m x : Nat} (h0 : last ≤ x) (h1 : x < last + 2) (h2 : (m + 276 ≤ last ∧ last + 2 ≤ m + 276 + 2 * G1_0) ∨ m + 596 ≤ last) (h3 : G1_0 + 14 ≤ 160) : x < m + 176 ∨ m + 176 + 1 ≤ x := by omega
theorem zx_X16_solveBy_26 {G1_0 last m x : Nat} (h0 : last ≤ x) (h1 : x < last + 2) (h2 : (m + 276 ≤ last ∧ last + 2 ≤ m + 276 + 2 * G1_0) ∨ m + 596 ≤ last) (h3 : G1_0 + 14 ≤ 160) : x < m + 276 + 2 * G1_0 ∨ m + 276 + 2 * G1_0 + (320 - 2 * G1_0) ≤ x := by omega
theorem zx_X16_solveBy_27 {G1_0 last m x : Nat} (h0 : last ≤ x) (h1 : x < last + 2) (h2 : (m + 276 ≤ last ∧ last + 2 ≤ m + 276 + 2 * G1_0) ∨ m + 596 ≤ last) (h3 : G1_0 + 14 ≤ 160) : x ≠ m := by omega
theorem zx_X16_solveBy_28 {G1_0 last m x : Nat} (h0 : last ≤ x) (h1 : x < last + 2) (h2 : (m + 276 ≤ last ∧ last + 2 ≤ m + 276 + 2 * G1_0) ∨ m + 596 ≤ last) (h3 : G1_0 + 14 ≤ 160) : x ≠ m + 176 := by omega
set_option maxHeartbeats 8000000 in
set_option maxRecDepth 100000 in
theorem c_X16_solveBy {w : zM} {g : Nat → Int32} {r : Nat → Value} {sg : Nat → Nat} {B2 : Nat → Nat → zA1} {ip pv : Nat → Int32} {rk cl : Nat} {Lp : zA1} {g1 : Int32} {g48 : Int32} (m : Nat) (col : Int32) (cols : Int32) (last : Nat) (hm : w m = some (.inl (15, zMo m g r))) (hR_m : zR m w) (hBq_m_149 : zBq w m sg) (hU_last : zU w last cl Lp) (hA_m_177 : w (m + 177) = some (.inr (2, 14, .inl ip))) (hA_m_178 : w (m + 178) = some (.inr (0, 14, .inl pv))) (hut : 0 ≤ g1.toInt ∧ g1.toInt + 14 ≤ 160) (hcl : 0 ≤ cols.toInt ∧ cols.toInt ≤ 14) (hco : 0 ≤ col.toInt ∧ col.toInt < cols.toInt) (hn : 0 ≤ g48.toInt ∧ g48.toInt ≤ 26) (hb : zBc w m sg g48.toNatClampNeg cols.toNatClampNeg B2) (hl : zln Lp ≤ 499 ∧ ∀ i k, i < rk → k < cols.toNatClampNeg → zln (B2 i k) ≤ 499) (hp : rk ≤ g48.toNatClampNeg ∧ ∀ k, k < cols.toNatClampNeg → ip k = 0 ∨ ip k = 1 ∧ 0 ≤ (pv k).toInt ∧ (pv k).toInt < (rk : Int)) (hml : (m + 276 ≤ last ∧ last + 2 ≤ m + 276 + 2 * g1.toNatClampNeg) ∨ m + 596 ≤ last) (hg1 : g 1 = g1) (hg48 : g 48 = g48) : zCon 3 zq_X16_solveBy [.ref m, .int col, .int cols, .ref last] w (fun v9 w9' => ∃ X9 : Int32, ∃ fw : Nat → Option Nat, ∃ Pg : Nat → zA1, zSI w w9' ∧ (∀ x, (x < m ∨ m + 1 ≤ x) ∧ (x < m + 176 ∨ m + 176 + 1 ≤ x) ∧ (x < m + 276 + 2 * g1.toNatClampNeg ∨ m + 276 + 2 * g1.toNatClampNeg + (320 - 2 * g1.toNatClampNeg) ≤ x) → w9' x = w x) ∧ w9' m = some (.inl (15, zMo m (zs g 1 X9) r)) ∧ w9' (m + 176) = some (.inr (4, 14, .inr fw)) ∧ X9.toInt = g1.toInt + cols.toInt ∧ (∀ t, t < cols.toNatClampNeg → fw t = some (m + 276 + 2 * g1.toNatClampNeg + 2 * t) ∧ zU w9' (m + 276 + 2 * g1.toNatClampNeg + 2 * t) 1000 (Pg t) ∧ zln (Pg t) ≤ 499) ∧ Pg col.toNatClampNeg = Lp ∧ v9 = none) := by
  subst hg1
  subst hg48
  intro d sz hd
  obtain ⟨d, rfl⟩ : ∃ d9, d = d9 + 1 := ⟨d - 1, by omega⟩
  generalize hPost : (fun (r9' : Option (Option Value)) (w9' : zM) (z9 : Nat) => z9 = sz ∧ ∃ v9, r9' = some v9 ∧ (∃ X9 : Int32, ∃ fw : Nat → Option Nat, ∃ Pg : Nat → zA1, zSI w w9' ∧ (∀ x, (x < m ∨ m + 1 ≤ x) ∧ (x < m + 176 ∨ m + 176 + 1 ≤ x) ∧ (x < m + 276 + 2 * (g 1).toNatClampNeg ∨ m + 276 + 2 * (g 1).toNatClampNeg + (320 - 2 * (g 1).toNatClampNeg) ≤ x) → w9' x = w x) ∧ w9' m = some (.inl (15, zMo m (zs g 1 X9) r)) ∧ w9' (m + 176) = some (.inr (4, 14, .inr fw)) ∧ X9.toInt = (g 1).toInt + cols.toInt ∧ (∀ t, t < cols.toNatClampNeg → fw t = some (m + 276 + 2 * (g 1).toNatClampNeg + 2 * t) ∧ zU w9' (m + 276 + 2 * (g 1).toNatClampNeg + 2 * t) 1000 (Pg t) ∧ zln (Pg t) ≤ 499) ∧ Pg col.toNatClampNeg = Lp ∧ v9 = none)) = Post
  show zP (d + 1) zq_X16_solveBy 0 [(0, .ref m), (1, .int col), (2, .int cols), (3, .ref last)] [] w sz 0 0 Post
  have k1 := zrng col
  have k2 := zrng cols
  have k3 := zrng (g 1)
  have hz4 : ((g 1).toNatClampNeg : Int) = (g 1).toInt := znat (by first | omega | decide)
  have hgb1 : (g 1).toNatClampNeg + 14 ≤ 160 := by omega
  have k5 := zrng (g 48)
  have hz6 : ((g 48).toNatClampNeg : Int) = (g 48).toInt := znat (by first | omega | decide)
  have hz7 : (cols.toNatClampNeg : Int) = cols.toInt := znat (by first | omega | decide)
  have hz8 : (col.toNatClampNeg : Int) = col.toInt := znat (by first | omega | decide)
  refine zp_seg (pc' := 3) (lv' := [(4, .int 0), (0, .ref m), (1, .int col), (2, .int cols), (3, .ref last)]) (st' := []) [(0, .iconst 0), (1, .istore 4)] (by decide +kernel) rfl ?_
  have hL3 : ∀ (mm3 : Nat) (wL3 : zM) (y4_3 : Int32) (xT : Int32) (fw : Nat → Option Nat) (Pg : Nat → zA1), (zSI w wL3) → (∀ x, ((x < m ∨ m + 1 ≤ x) ∧ (x < m + 176 ∨ m + 176 + 1 ≤ x) ∧ (x < m + 276 + 2 * (g 1).toNatClampNeg ∨ m + 276 + 2 * (g 1).toNatClampNeg + (320 - 2 * (g 1).toNatClampNeg) ≤ x)) ∧ x ≠ m → wL3 x = w x) → (0 ≤ y4_3.toInt) → (y4_3.toInt ≤ cols.toInt) → (wL3 m = some (.inl (15, zMo m (zs g 1 xT) r))) → (wL3 (m + 176) = some (.inr (4, 14, .inr fw))) → (xT.toInt = (g 1).toInt + y4_3.toInt) → (∀ t, t < y4_3.toNatClampNeg → fw t = some (m + 276 + 2 * (g 1).toNatClampNeg + 2 * t)) → (∀ t, t < y4_3.toNatClampNeg → zU wL3 (m + 276 + 2 * (g 1).toNatClampNeg + 2 * t) 1000 (Pg t) ∧ zln (Pg t) ≤ 499) → (col.toNatClampNeg < y4_3.toNatClampNeg → Pg col.toNatClampNeg = Lp) → (20 - y4_3.toInt).toNat < mm3 → zP (d + 1) zq_X16_solveBy 3 [(0, .ref m), (1, .int col), (2, .int cols), (3, .ref last), (4, .int y4_3)] [] wL3 sz 0 0 Post := by
    intro mm3
    induction mm3 with
    | zero => intros; omega
    | succ mm3 ih3 =>
    intro wL3 y4_3 xT fw Pg hsiL3 heqL3 hi3_0 hi3_1 hxM hV9 hxT hfw hPg hcL9 hmu3
    have ky4_3 := zrng y4_3
    have hz9 : (y4_3.toNatClampNeg : Int) = y4_3.toInt := znat (by first | omega | decide)
    refine zp_seg (pc' := 6) (lv' := [(0, .ref m), (1, .int col), (2, .int cols), (3, .ref last), (4, .int y4_3)]) (st' := [.int cols, .int y4_3]) [(3, .iload 4), (5, .iload_n 2)] (by decide +kernel) rfl ?_
    refine zp_if (i := .if_icmp .ge 83) (c := cols ≤ y4_3) (t := 89) (e := 9) (lv' := [(0, .ref m), (1, .int col), (2, .int cols), (3, .ref last), (4, .int y4_3)]) (st' := []) (by decide +kernel) rfl (fun cc6 => ?_) (fun cc6 => ?_)
    ·
      have f10 := zleI cc6
      have hoffend : ∀ x, (x < m ∨ m + 1 ≤ x) ∧ (x < m + 176 ∨ m + 176 + 1 ≤ x) ∧ (x < m + 276 + 2 * (g 1).toNatClampNeg ∨ m + 276 + 2 * (g 1).toNatClampNeg + (320 - 2 * (g 1).toNatClampNeg) ≤ x) → wL3 x = w x := fun x hx => (heqL3 x ⟨⟨hx.1, hx.2.1, hx.2.2⟩, (zx_X16_solveBy_0 hx.1)⟩)
      refine zr_retV (by decide +kernel) rfl ?_
      rw [← hPost]; exact ⟨rfl, _, rfl, xT, fw, Pg, hsiL3, hoffend, hxM, hV9, (by
            omega), (by
            exact fun t ht => ⟨hfw t (by omega), hPg t (by omega)⟩), (by
            exact hcL9 (by omega)), rfl⟩
    ·
      have f11 := znleI cc6
      refine zp_seg (pc' := 10) (lv' := [(0, .ref m), (1, .int col), (2, .int cols), (3, .ref last), (4, .int y4_3)]) (st' := [.ref m]) [(9, .aload_n 0)] (by decide +kernel) rfl ?_
      refine zr_get (idx := 490) (k := 45) (v := .ref (m + 176)) (by decide +kernel) (by decide +kernel) hxM rfl ?_
      refine zp_seg (pc' := 16) (lv' := [(0, .ref m), (1, .int col), (2, .int cols), (3, .ref last), (4, .int y4_3)]) (st' := [.ref m, .int y4_3, .ref (m + 176)]) [(13, .iload 4), (15, .aload_n 0)] (by decide +kernel) rfl ?_
      have k12 := zrng xT
      have hz13 : (xT.toNatClampNeg : Int) = xT.toInt := znat (by first | omega | decide)
      have hb14 := hR_m.si hsiL3
      refine zr_callV (idx := 74) (j := 263) (by decide +kernel) (by decide +kernel) (show zMe 263 = some zq_X16_newU from rfl) rfl rfl (Nat.le_of_ble_eq_true rfl) rfl rfl hxM (Nat.le_of_ble_eq_true rfl) (Nat.le_of_ble_eq_true rfl) (c_X16_newU (w := wL3) (g1 := xT) m hxM hb14 (by first | omega | decide | assumption | exact zr1_1 | exact zr1_0 | fail "num") rfl) (by omega) (fun v16 w16 hp16 => ?_)
      obtain ⟨hsi16, heq16, hp16_0, hp16_1, rfl⟩ := hp16
      have hM16 : w16 m = some (.inl (15, zMo m (zs g 1 (xT + 1)) r)) := hp16_0
      show zP _ _ _ _ [.ref (m + 276 + 2 * xT.toNatClampNeg), .int y4_3, .ref (m + 176)] _ _ _ _ _
      have hb15 : w16 (m + 176) = some (.inr (4, 14, .inr fw)) := (heq16 (m + 176) (by omega)).trans hV9
      obtain ⟨n16, f17, hu18, hu19, hu20, hu21, hu22⟩ := id hp16_1
      have kn16 := zrng n16
      refine zr_aast (by decide +kernel) hb15 hu18 (by decide) (zin (by first | omega | decide) (by first | omega | decide)) ?_
      show zP (d + 1) zq_X16_solveBy 20 [(0, .ref m), (1, .int col), (2, .int cols), (3, .ref last), (4, .int y4_3)] [] (zup w16 (m + 176) (.inr (4, 14, .inr (va_up fw (y4_3.toNatClampNeg) (some (m + 276 + 2 * xT.toNatClampNeg)))))) sz 0 0 Post
      obtain ⟨w19, ew19⟩ : ∃ wz9, wz9 = zup w16 (m + 176) (.inr (4, 14, .inr (va_up fw (y4_3.toNatClampNeg) (some (m + 276 + 2 * xT.toNatClampNeg))))) := ⟨_, rfl⟩
      have hsi19 : zSI w16 w19 := by rw [ew19]; exact zSI.refs _ hb15 (by decide)
      have heq19 : ∀ x, x ≠ m + 176 → w19 x = w16 x := fun x hx => by rw [ew19]; exact zup_n hx
      have hc19 : w19 (m + 176) = some (.inr (4, 14, .inr (va_up fw (y4_3.toNatClampNeg) (some (m + 276 + 2 * xT.toNatClampNeg))))) := by rw [ew19]; exact zup_s
      rw [← ew19]
      clear ew19
      refine zp_seg (pc' := 23) (lv' := [(0, .ref m), (1, .int col), (2, .int cols), (3, .ref last), (4, .int y4_3)]) (st' := [.int col, .int y4_3]) [(20, .iload 4), (22, .iload_n 1)] (by decide +kernel) rfl ?_
      refine zp_if (i := .if_icmp .ne 17) (c := ¬ y4_3 = col) (t := 40) (e := 26) (lv' := [(0, .ref m), (1, .int col), (2, .int cols), (3, .ref last), (4, .int y4_3)]) (st' := []) (by decide +kernel) rfl (fun cc23 => ?_) (fun cc23 => ?_)
      ·
        have f23 := zneI cc23
        refine zp_seg (pc' := 41) (lv' := [(0, .ref m), (1, .int col), (2, .int cols), (3, .ref last), (4, .int y4_3)]) (st' := [.ref m]) [(40, .aload_n 0)] (by decide +kernel) rfl ?_
        have hb24 : w19 m = some (.inl (15, zMo m (zs g 1 (xT + 1)) r)) := (heq19 m (zx_X16_solveBy_2)).trans hM16
        refine zr_get (idx := 493) (k := 46) (v := .ref (m + 177)) (by decide +kernel) (by decide +kernel) hb24 rfl ?_
        refine zp_seg (pc' := 46) (lv' := [(0, .ref m), (1, .int col), (2, .int cols), (3, .ref last), (4, .int y4_3)]) (st' := [.int y4_3, .ref (m + 177)]) [(44, .iload 4)] (by decide +kernel) rfl ?_
        have hb25 : w19 (m + 177) = some (.inr (2, 14, .inl ip)) := ((heq19 (m + 177) (zx_X16_solveBy_7)).trans ((heq16 (m + 177) (by omega)).trans (heqL3 (m + 177) ⟨⟨(zx_X16_solveBy_3), (zx_X16_solveBy_4), (zx_X16_solveBy_5 hgb1)⟩, (zx_X16_solveBy_6)⟩))).trans hA_m_177
        refine zr_bald (by decide +kernel) hb25 (by decide) (zin (by first | omega | decide) (by first | omega | decide)) ?_
        obtain ⟨x46, ex46⟩ : ∃ x9, x9 = ip (y4_3.toNatClampNeg) := ⟨_, rfl⟩
        rw [← ex46]
        have kx46 := zrng x46
        refine zp_if (i := .ifCond .eq 36) (c := x46 = 0) (t := 83) (e := 50) (lv' := [(0, .ref m), (1, .int col), (2, .int cols), (3, .ref last), (4, .int y4_3)]) (st' := []) (by decide +kernel) rfl (fun cc47 => ?_) (fun cc47 => ?_)
        ·
          have f27 := zeqI cc47
          rw [show (0 : Int32).toInt = 0 from by decide] at f27
          have hb28 : zU w19 (m + 276 + 2 * xT.toNatClampNeg) 1000 zaZ := hp16_1.ag (fun x hx1 hx2 => (heq19 x (by omega)))
          obtain ⟨PX, hUX, hPX, hPL⟩ : ∃ P, zU w19 (m + 276 + 2 * xT.toNatClampNeg) 1000 P ∧ zln P ≤ 499 ∧ (y4_3.toNatClampNeg = col.toNatClampNeg → P = Lp) := by
            first
            | exact ⟨_, hb28, hl.1, fun _ => rfl⟩
            | exact ⟨_, hb28, Nat.le_trans (zln_CMle _ _) hl77, fun e => absurd (by apply Int32.toInt_inj.mp; omega) cc23⟩
            | exact ⟨_, hb28, by rw [zln_Z]; omega, fun e => absurd (by apply Int32.toInt_inj.mp; omega) cc23⟩
          refine zp_seg (pc' := 86) (lv' := [(4, .int (y4_3 + 1)), (0, .ref m), (1, .int col), (2, .int cols), (3, .ref last)]) (st' := []) [(83, .iinc 4 1)] (by decide +kernel) rfl ?_
          have k29 := zaddC y4_3 1 (n := 1) (by decide) (by omega) (by omega)
          generalize ev86 : (y4_3 + 1 : Int32) = v86 at k29 ⊢
          have kv86 := zrng v86
          refine zp_seg (pc' := 3) (lv' := [(4, .int v86), (0, .ref m), (1, .int col), (2, .int cols), (3, .ref last)]) (st' := []) [(86, .goto (-83))] (by decide +kernel) rfl ?_
          have hz30 : (v86.toNatClampNeg : Int) = v86.toInt := znat (by first | omega | decide)
          exact (ih3 w19 v86 (((xT + 1))) ((va_up fw (y4_3.toNatClampNeg) (some (m + 276 + 2 * xT.toNatClampNeg)))) (fun t => if t = y4_3.toNatClampNeg then PX else Pg t) ((hsiL3.tr hsi16).tr hsi19) (fun x hx => ((heq19 x (zx_X16_solveBy_8 hx.1.2.1)).trans ((heq16 x (by omega)).trans (heqL3 x ⟨⟨hx.1.1, hx.1.2.1, hx.1.2.2⟩, hx.2⟩)))) (by first | assumption | omega | decide) (by first | assumption | omega | decide) (by
                exact hb24) hc19 (by
                have z9 := zaddC xT 1 (n := 1) (by decide) (by omega) (by omega)
                omega) (by
                intro t ht
                have hzT := znat (x := xT) (by omega)
                by_cases e : t = y4_3.toNatClampNeg
                · rw [e, va_up_self, show m + 276 + 2 * xT.toNatClampNeg = m + 276 + 2 * (g 1).toNatClampNeg + 2 * y4_3.toNatClampNeg by omega]
                · rw [va_up_ne _ _ e]; exact hfw t (by omega)) (by
                intro t ht
                have hzT := znat (x := xT) (by omega)
                show zU w19 (m + 276 + 2 * (g 1).toNatClampNeg + 2 * t) 1000 (if t = y4_3.toNatClampNeg then PX else Pg t) ∧ zln (if t = y4_3.toNatClampNeg then PX else Pg t) ≤ 499
                by_cases e : t = y4_3.toNatClampNeg
                · rw [if_pos e, e, ← show m + 276 + 2 * xT.toNatClampNeg = m + 276 + 2 * (g 1).toNatClampNeg + 2 * y4_3.toNatClampNeg by omega]; exact ⟨hUX, hPX⟩
                · rw [if_neg e]; exact ⟨(hPg t (by omega)).1.ag (fun x g1 g2 => ((heq19 x (by omega)).trans (heq16 x (by omega)))), (hPg t (by omega)).2⟩) (by
                intro h9
                show (if col.toNatClampNeg = y4_3.toNatClampNeg then PX else Pg col.toNatClampNeg) = Lp
                by_cases e : col.toNatClampNeg = y4_3.toNatClampNeg
                · rw [if_pos e]; exact hPL e.symm
                · rw [if_neg e]; exact hcL9 (by omega)) (by omega)).more (zfa1 rfl (zfa1 rfl (zfa1 rfl (zfa1 rfl (zfa1 rfl (zfa0))))))
        ·
          have f32 := zneI cc47
          rw [show (0 : Int32).toInt = 0 from by decide] at f32
          refine zp_seg (pc' := 53) (lv' := [(0, .ref m), (1, .int col), (2, .int cols), (3, .ref last), (4, .int y4_3)]) (st' := [.int col, .int y4_3]) [(50, .iload 4), (52, .iload_n 1)] (by decide +kernel) rfl ?_
          refine zp_if (i := .if_icmp .ge 30) (c := col ≤ y4_3) (t := 83) (e := 56) (lv' := [(0, .ref m), (1, .int col), (2, .int cols), (3, .ref last), (4, .int y4_3)]) (st' := []) (by decide +kernel) rfl (fun cc53 => ?_) (fun cc53 => ?_)
          ·
            have f33 := zleI cc53
            have hb34 : zU w19 (m + 276 + 2 * xT.toNatClampNeg) 1000 zaZ := hp16_1.ag (fun x hx1 hx2 => (heq19 x (by omega)))
            obtain ⟨PX, hUX, hPX, hPL⟩ : ∃ P, zU w19 (m + 276 + 2 * xT.toNatClampNeg) 1000 P ∧ zln P ≤ 499 ∧ (y4_3.toNatClampNeg = col.toNatClampNeg → P = Lp) := by
              first
              | exact ⟨_, hb34, hl.1, fun _ => rfl⟩
              | exact ⟨_, hb34, Nat.le_trans (zln_CMle _ _) hl77, fun e => absurd (by apply Int32.toInt_inj.mp; omega) cc23⟩
              | exact ⟨_, hb34, by rw [zln_Z]; omega, fun e => absurd (by apply Int32.toInt_inj.mp; omega) cc23⟩
            refine zp_seg (pc' := 86) (lv' := [(4, .int (y4_3 + 1)), (0, .ref m), (1, .int col), (2, .int cols), (3, .ref last)]) (st' := []) [(83, .iinc 4 1)] (by decide +kernel) rfl ?_
            have k35 := zaddC y4_3 1 (n := 1) (by decide) (by omega) (by omega)
            generalize ev86 : (y4_3 + 1 : Int32) = v86 at k35 ⊢
            have kv86 := zrng v86
            refine zp_seg (pc' := 3) (lv' := [(4, .int v86), (0, .ref m), (1, .int col), (2, .int cols), (3, .ref last)]) (st' := []) [(86, .goto (-83))] (by decide +kernel) rfl ?_
            have hz36 : (v86.toNatClampNeg : Int) = v86.toInt := znat (by first | omega | decide)
            exact (ih3 w19 v86 (((xT + 1))) ((va_up fw (y4_3.toNatClampNeg) (some (m + 276 + 2 * xT.toNatClampNeg)))) (fun t => if t = y4_3.toNatClampNeg then PX else Pg t) ((hsiL3.tr hsi16).tr hsi19) (fun x hx => ((heq19 x (zx_X16_solveBy_8 hx.1.2.1)).trans ((heq16 x (by omega)).trans (heqL3 x ⟨⟨hx.1.1, hx.1.2.1, hx.1.2.2⟩, hx.2⟩)))) (by first | assumption | omega | decide) (by first | assumption | omega | decide) (by
                  exact hb24) hc19 (by
                  have z9 := zaddC xT 1 (n := 1) (by decide) (by omega) (by omega)
                  omega) (by
                  intro t ht
                  have hzT := znat (x := xT) (by omega)
                  by_cases e : t = y4_3.toNatClampNeg
                  · rw [e, va_up_self, show m + 276 + 2 * xT.toNatClampNeg = m + 276 + 2 * (g 1).toNatClampNeg + 2 * y4_3.toNatClampNeg by omega]
                  · rw [va_up_ne _ _ e]; exact hfw t (by omega)) (by
                  intro t ht
                  have hzT := znat (x := xT) (by omega)
                  show zU w19 (m + 276 + 2 * (g 1).toNatClampNeg + 2 * t) 1000 (if t = y4_3.toNatClampNeg then PX else Pg t) ∧ zln (if t = y4_3.toNatClampNeg then PX else Pg t) ≤ 499
                  by_cases e : t = y4_3.toNatClampNeg
                  · rw [if_pos e, e, ← show m + 276 + 2 * xT.toNatClampNeg = m + 276 + 2 * (g 1).toNatClampNeg + 2 * y4_3.toNatClampNeg by omega]; exact ⟨hUX, hPX⟩
                  · rw [if_neg e]; exact ⟨(hPg t (by omega)).1.ag (fun x g1 g2 => ((heq19 x (by omega)).trans (heq16 x (by omega)))), (hPg t (by omega)).2⟩) (by
                  intro h9
                  show (if col.toNatClampNeg = y4_3.toNatClampNeg then PX else Pg col.toNatClampNeg) = Lp
                  by_cases e : col.toNatClampNeg = y4_3.toNatClampNeg
                  · rw [if_pos e]; exact hPL e.symm
                  · rw [if_neg e]; exact hcL9 (by omega)) (by omega)).more (zfa1 rfl (zfa1 rfl (zfa1 rfl (zfa1 rfl (zfa1 rfl (zfa0))))))
          ·
            have f37 := znleI cc53
            refine zp_seg (pc' := 57) (lv' := [(0, .ref m), (1, .int col), (2, .int cols), (3, .ref last), (4, .int y4_3)]) (st' := [.ref m]) [(56, .aload_n 0)] (by decide +kernel) rfl ?_
            refine zr_get (idx := 490) (k := 45) (v := .ref (m + 176)) (by decide +kernel) (by decide +kernel) hb24 rfl ?_
            refine zp_seg (pc' := 62) (lv' := [(0, .ref m), (1, .int col), (2, .int cols), (3, .ref last), (4, .int y4_3)]) (st' := [.int y4_3, .ref (m + 176)]) [(60, .iload 4)] (by decide +kernel) rfl ?_
            refine zr_aald (v := .ref (m + 276 + 2 * xT.toNatClampNeg)) (by decide +kernel) hc19 (by decide) (zin (by first | omega | decide) (by first | omega | decide)) (by rw [va_up_self]; rfl) ?_
            refine zp_seg (pc' := 64) (lv' := [(0, .ref m), (1, .int col), (2, .int cols), (3, .ref last), (4, .int y4_3)]) (st' := [.ref m, .ref (m + 276 + 2 * xT.toNatClampNeg)]) [(63, .aload_n 0)] (by decide +kernel) rfl ?_
            refine zr_get (idx := 487) (k := 44) (v := .ref (m + 149)) (by decide +kernel) (by decide +kernel) hb24 rfl ?_
            refine zp_seg (pc' := 68) (lv' := [(0, .ref m), (1, .int col), (2, .int cols), (3, .ref last), (4, .int y4_3)]) (st' := [.ref m, .ref (m + 149), .ref (m + 276 + 2 * xT.toNatClampNeg)]) [(67, .aload_n 0)] (by decide +kernel) rfl ?_
            refine zr_get (idx := 496) (k := 47) (v := .ref (m + 178)) (by decide +kernel) (by decide +kernel) hb24 rfl ?_
            refine zp_seg (pc' := 73) (lv' := [(0, .ref m), (1, .int col), (2, .int cols), (3, .ref last), (4, .int y4_3)]) (st' := [.int y4_3, .ref (m + 178), .ref (m + 149), .ref (m + 276 + 2 * xT.toNatClampNeg)]) [(71, .iload 4)] (by decide +kernel) rfl ?_
            have hb38 : w19 (m + 178) = some (.inr (0, 14, .inl pv)) := ((heq19 (m + 178) (zx_X16_solveBy_13)).trans ((heq16 (m + 178) (by omega)).trans (heqL3 (m + 178) ⟨⟨(zx_X16_solveBy_9), (zx_X16_solveBy_10), (zx_X16_solveBy_11 hgb1)⟩, (zx_X16_solveBy_12)⟩))).trans hA_m_178
            refine zr_iald (by decide +kernel) hb38 (zin (by first | omega | decide) (by first | omega | decide)) ?_
            obtain ⟨x73, ex73⟩ : ∃ x9, x9 = pv (y4_3.toNatClampNeg) := ⟨_, rfl⟩
            rw [← ex73]
            have kx73 := zrng x73
            have hpv9 := (hp.2 y4_3.toNatClampNeg (by omega)).resolve_left (fun e => cc47 (ex46.trans e))
            rw [← ex73] at hpv9
            have hb39 : zBq w19 m sg := hBq_m_149.ag (fun x hx1 hx2 => ((heq19 x (zx_X16_solveBy_18 hx1 hx2)).trans ((heq16 x (by omega)).trans (heqL3 x ⟨⟨(zx_X16_solveBy_14 hx1 hx2), (zx_X16_solveBy_15 hx1 hx2), (zx_X16_solveBy_16 hx1 hx2 hgb1)⟩, (zx_X16_solveBy_17 hx1 hx2)⟩))))
            have hz40 : (x73.toNatClampNeg : Int) = x73.toInt := znat (by first | omega | decide)
            obtain ⟨⟨f41, hg42, hg43⟩, -⟩ := id hb39
            obtain ⟨s74, hs74⟩ : ∃ s9, s9 = sg (x73.toNatClampNeg) := ⟨_, rfl⟩
            have hls74 : s74 < 26 := by rw [hs74]; exact hb39.lt _ (by omega)
            refine zr_aald (v := .ref (m + 150 + s74)) (by decide +kernel) hg42 (by decide) (zin (by first | omega | decide) (by first | omega | decide)) (by rw [hg43 _ (by omega), hs74]; rfl) ?_
            have hrw44 := hb39.row s74 hls74
            refine zp_seg (pc' := 76) (lv' := [(0, .ref m), (1, .int col), (2, .int cols), (3, .ref last), (4, .int y4_3)]) (st' := [.int col, .ref (m + 150 + s74), .ref (m + 276 + 2 * xT.toNatClampNeg)]) [(75, .iload_n 1)] (by decide +kernel) rfl ?_
            obtain ⟨t76, ht76⟩ : ∃ t9, t9 = (col.toNatClampNeg) := ⟨_, rfl⟩
            have hlt76 : t76 < 14 := by rw [ht76]; omega
            refine zr_aald (v := .ref (m + 7594 + 28 * s74 + 2 * t76)) (by decide +kernel) hrw44 (by decide) (zin (by first | omega | decide) (by first | omega | decide)) (by rw [ht76]; exact zbq_at ⟨by omega, by omega⟩) ?_
            have hu77 : zU w (m + 7594 + 28 * s74 + 2 * t76) 1000 (B2 x73.toNatClampNeg col.toNatClampNeg) := by rw [hs74, ht76]; exact hb x73.toNatClampNeg col.toNatClampNeg (by omega) (by omega)
            replace hu77 := hu77.ag (w' := w19) (fun x g1 g2 => ((heq19 x (zx_X16_solveBy_23 g1 g2 hls74 hlt76)).trans ((heq16 x (by omega)).trans (heqL3 x ⟨⟨(zx_X16_solveBy_19 g1 g2 hls74 hlt76), (zx_X16_solveBy_20 g1 g2 hls74 hlt76), (zx_X16_solveBy_21 g1 g2 hls74 hlt76 hgb1)⟩, (zx_X16_solveBy_22 g1 g2 hls74 hlt76)⟩))))
            have hl77 := hl.2 x73.toNatClampNeg col.toNatClampNeg (by have h9 := znat (x := x73) (by omega); omega) (by omega)
            refine zr_ldcw (idx := 720) (v := 2147483646) (by decide +kernel) (by decide +kernel) ?_
            have hb45 : zU w19 (m + 276 + 2 * xT.toNatClampNeg) 1000 zaZ := hp16_1.ag (fun x hx1 hx2 => (heq19 x (by omega)))
            have ho80_to := zU.o hb45
            refine zr_callS (idx := 70) (j := 266) (by decide +kernel) (by decide +kernel) (by decide) (show zMe 266 = some zq_X16_scale from rfl) rfl rfl (Nat.le_of_ble_eq_true rfl) rfl rfl (Nat.le_of_ble_eq_true rfl) (Nat.le_of_ble_eq_true rfl) (c_X16_scale (w := w19) (m + 276 + 2 * xT.toNatClampNeg) (m + 7594 + 28 * s74 + 2 * t76) 2147483646 ho80_to hu77 (by exact zr1_m1) (by omega)) (by omega) (fun v80 w80 hp80 => ?_)
            obtain ⟨hsi80, heq80, hp80_0, rfl⟩ := hp80
            show zP _ _ _ _ [] _ _ _ _ _
            obtain ⟨PX, hUX, hPX, hPL⟩ : ∃ P, zU w80 (m + 276 + 2 * xT.toNatClampNeg) 1000 P ∧ zln P ≤ 499 ∧ (y4_3.toNatClampNeg = col.toNatClampNeg → P = Lp) := by
              first
              | exact ⟨_, hp80_0, hl.1, fun _ => rfl⟩
              | exact ⟨_, hp80_0, Nat.le_trans (zln_CMle _ _) hl77, fun e => absurd (by apply Int32.toInt_inj.mp; omega) cc23⟩
              | exact ⟨_, hp80_0, by rw [zln_Z]; omega, fun e => absurd (by apply Int32.toInt_inj.mp; omega) cc23⟩
            refine zp_seg (pc' := 86) (lv' := [(4, .int (y4_3 + 1)), (0, .ref m), (1, .int col), (2, .int cols), (3, .ref last)]) (st' := []) [(83, .iinc 4 1)] (by decide +kernel) rfl ?_
            have k46 := zaddC y4_3 1 (n := 1) (by decide) (by omega) (by omega)
            generalize ev86 : (y4_3 + 1 : Int32) = v86 at k46 ⊢
            have kv86 := zrng v86
            refine zp_seg (pc' := 3) (lv' := [(4, .int v86), (0, .ref m), (1, .int col), (2, .int cols), (3, .ref last)]) (st' := []) [(86, .goto (-83))] (by decide +kernel) rfl ?_
            have hz47 : (v86.toNatClampNeg : Int) = v86.toInt := znat (by first | omega | decide)
            have hb48 : w80 m = some (.inl (15, zMo m (zs g 1 (xT + 1)) r)) := (heq80 m (by omega)).trans hb24
            have hb49 : w80 (m + 176) = some (.inr (4, 14, .inr (va_up fw (y4_3.toNatClampNeg) (some (m + 276 + 2 * xT.toNatClampNeg))))) := (heq80 (m + 176) (by omega)).trans hc19
            exact (ih3 w80 v86 (((xT + 1))) ((va_up fw (y4_3.toNatClampNeg) (some (m + 276 + 2 * xT.toNatClampNeg)))) (fun t => if t = y4_3.toNatClampNeg then PX else Pg t) (((hsiL3.tr hsi16).tr hsi19).tr hsi80) (fun x hx => ((heq80 x (by omega)).trans ((heq19 x (zx_X16_solveBy_8 hx.1.2.1)).trans ((heq16 x (by omega)).trans (heqL3 x ⟨⟨hx.1.1, hx.1.2.1, hx.1.2.2⟩, hx.2⟩))))) (by first | assumption | omega | decide) (by first | assumption | omega | decide) (by
                  exact hb48) hb49 (by
                  have z9 := zaddC xT 1 (n := 1) (by decide) (by omega) (by omega)
                  omega) (by
                  intro t ht
                  have hzT := znat (x := xT) (by omega)
                  by_cases e : t = y4_3.toNatClampNeg
                  · rw [e, va_up_self, show m + 276 + 2 * xT.toNatClampNeg = m + 276 + 2 * (g 1).toNatClampNeg + 2 * y4_3.toNatClampNeg by omega]
                  · rw [va_up_ne _ _ e]; exact hfw t (by omega)) (by
                  intro t ht
                  have hzT := znat (x := xT) (by omega)
                  show zU w80 (m + 276 + 2 * (g 1).toNatClampNeg + 2 * t) 1000 (if t = y4_3.toNatClampNeg then PX else Pg t) ∧ zln (if t = y4_3.toNatClampNeg then PX else Pg t) ≤ 499
                  by_cases e : t = y4_3.toNatClampNeg
                  · rw [if_pos e, e, ← show m + 276 + 2 * xT.toNatClampNeg = m + 276 + 2 * (g 1).toNatClampNeg + 2 * y4_3.toNatClampNeg by omega]; exact ⟨hUX, hPX⟩
                  · rw [if_neg e]; exact ⟨(hPg t (by omega)).1.ag (fun x g1 g2 => ((heq80 x (by omega)).trans ((heq19 x (by omega)).trans (heq16 x (by omega))))), (hPg t (by omega)).2⟩) (by
                  intro h9
                  show (if col.toNatClampNeg = y4_3.toNatClampNeg then PX else Pg col.toNatClampNeg) = Lp
                  by_cases e : col.toNatClampNeg = y4_3.toNatClampNeg
                  · rw [if_pos e]; exact hPL e.symm
                  · rw [if_neg e]; exact hcL9 (by omega)) (by omega)).more (zfa1 rfl (zfa1 rfl (zfa1 rfl (zfa1 rfl (zfa1 rfl (zfa0))))))
      ·
        replace cc23 := Classical.not_not.mp cc23
        have f50 := zeqI cc23
        refine zp_seg (pc' := 27) (lv' := [(0, .ref m), (1, .int col), (2, .int cols), (3, .ref last), (4, .int y4_3)]) (st' := [.ref m]) [(26, .aload_n 0)] (by decide +kernel) rfl ?_
        have hb51 : w19 m = some (.inl (15, zMo m (zs g 1 (xT + 1)) r)) := (heq19 m (zx_X16_solveBy_2)).trans hM16
        refine zr_get (idx := 490) (k := 45) (v := .ref (m + 176)) (by decide +kernel) (by decide +kernel) hb51 rfl ?_
        refine zp_seg (pc' := 32) (lv' := [(0, .ref m), (1, .int col), (2, .int cols), (3, .ref last), (4, .int y4_3)]) (st' := [.int y4_3, .ref (m + 176)]) [(30, .iload 4)] (by decide +kernel) rfl ?_
        refine zr_aald (v := .ref (m + 276 + 2 * xT.toNatClampNeg)) (by decide +kernel) hc19 (by decide) (zin (by first | omega | decide) (by first | omega | decide)) (by rw [va_up_self]; rfl) ?_
        refine zp_seg (pc' := 34) (lv' := [(0, .ref m), (1, .int col), (2, .int cols), (3, .ref last), (4, .int y4_3)]) (st' := [.ref last, .ref (m + 276 + 2 * xT.toNatClampNeg)]) [(33, .aload_n 3)] (by decide +kernel) rfl ?_
        have hb52 : zU w19 (m + 276 + 2 * xT.toNatClampNeg) 1000 zaZ := hp16_1.ag (fun x hx1 hx2 => (heq19 x (by omega)))
        have ho34_to := zU.o hb52
        have hb53 : zU w19 last cl Lp := hU_last.ag (fun x hx1 hx2 => ((heq19 x (zx_X16_solveBy_28 hx1 hx2 hml hgb1)).trans ((heq16 x (by omega)).trans (heqL3 x ⟨⟨(zx_X16_solveBy_24 hx1 hx2 hml hgb1), (zx_X16_solveBy_25 hx1 hx2 hml hgb1), (zx_X16_solveBy_26 hx1 hx2 hml hgb1)⟩, (zx_X16_solveBy_27 hx1 hx2 hml hgb1)⟩))))
        refine zr_callS (idx := 62) (j := 264) (by decide +kernel) (by decide +kernel) (by decide) (show zMe 264 = some zq_X16_set from rfl) rfl rfl (Nat.le_of_ble_eq_true rfl) rfl rfl (Nat.le_of_ble_eq_true rfl) (Nat.le_of_ble_eq_true rfl) (c_X16_set (w := w19) (m + 276 + 2 * xT.toNatClampNeg) last ho34_to hb53 (by first | omega | decide | assumption | exact zr1_1 | exact zr1_0 | fail "num") (by omega)) (by omega) (fun v34 w34 hp34 => ?_)
        obtain ⟨hsi34, heq34, hp34_0, rfl⟩ := hp34
        show zP _ _ _ _ [] _ _ _ _ _
        refine zp_seg (pc' := 83) (lv' := [(0, .ref m), (1, .int col), (2, .int cols), (3, .ref last), (4, .int y4_3)]) (st' := []) [(37, .goto 46)] (by decide +kernel) rfl ?_
        obtain ⟨PX, hUX, hPX, hPL⟩ : ∃ P, zU w34 (m + 276 + 2 * xT.toNatClampNeg) 1000 P ∧ zln P ≤ 499 ∧ (y4_3.toNatClampNeg = col.toNatClampNeg → P = Lp) := by
          first
          | exact ⟨_, hp34_0, hl.1, fun _ => rfl⟩
          | exact ⟨_, hp34_0, Nat.le_trans (zln_CMle _ _) hl77, fun e => absurd (by apply Int32.toInt_inj.mp; omega) cc23⟩
          | exact ⟨_, hp34_0, by rw [zln_Z]; omega, fun e => absurd (by apply Int32.toInt_inj.mp; omega) cc23⟩
        refine zp_seg (pc' := 86) (lv' := [(4, .int (y4_3 + 1)), (0, .ref m), (1, .int col), (2, .int cols), (3, .ref last)]) (st' := []) [(83, .iinc 4 1)] (by decide +kernel) rfl ?_
        have k54 := zaddC y4_3 1 (n := 1) (by decide) (by omega) (by omega)
        generalize ev86 : (y4_3 + 1 : Int32) = v86 at k54 ⊢
        have kv86 := zrng v86
        refine zp_seg (pc' := 3) (lv' := [(4, .int v86), (0, .ref m), (1, .int col), (2, .int cols), (3, .ref last)]) (st' := []) [(86, .goto (-83))] (by decide +kernel) rfl ?_
        have hz55 : (v86.toNatClampNeg : Int) = v86.toInt := znat (by first | omega | decide)
        have hb56 : w34 m = some (.inl (15, zMo m (zs g 1 (xT + 1)) r)) := (heq34 m (by omega)).trans hb51
        have hb57 : w34 (m + 176) = some (.inr (4, 14, .inr (va_up fw (y4_3.toNatClampNeg) (some (m + 276 + 2 * xT.toNatClampNeg))))) := (heq34 (m + 176) (by omega)).trans hc19
        exact (ih3 w34 v86 (((xT + 1))) ((va_up fw (y4_3.toNatClampNeg) (some (m + 276 + 2 * xT.toNatClampNeg)))) (fun t => if t = y4_3.toNatClampNeg then PX else Pg t) (((hsiL3.tr hsi16).tr hsi19).tr hsi34) (fun x hx => ((heq34 x (by omega)).trans ((heq19 x (zx_X16_solveBy_8 hx.1.2.1)).trans ((heq16 x (by omega)).trans (heqL3 x ⟨⟨hx.1.1, hx.1.2.1, hx.1.2.2⟩, hx.2⟩))))) (by first | assumption | omega | decide) (by first | assumption | omega | decide) (by
              exact hb56) hb57 (by
              have z9 := zaddC xT 1 (n := 1) (by decide) (by omega) (by omega)
              omega) (by
              intro t ht
              have hzT := znat (x := xT) (by omega)
              by_cases e : t = y4_3.toNatClampNeg
              · rw [e, va_up_self, show m + 276 + 2 * xT.toNatClampNeg = m + 276 + 2 * (g 1).toNatClampNeg + 2 * y4_3.toNatClampNeg by omega]
              · rw [va_up_ne _ _ e]; exact hfw t (by omega)) (by
              intro t ht
              have hzT := znat (x := xT) (by omega)
              show zU w34 (m + 276 + 2 * (g 1).toNatClampNeg + 2 * t) 1000 (if t = y4_3.toNatClampNeg then PX else Pg t) ∧ zln (if t = y4_3.toNatClampNeg then PX else Pg t) ≤ 499
              by_cases e : t = y4_3.toNatClampNeg
              · rw [if_pos e, e, ← show m + 276 + 2 * xT.toNatClampNeg = m + 276 + 2 * (g 1).toNatClampNeg + 2 * y4_3.toNatClampNeg by omega]; exact ⟨hUX, hPX⟩
              · rw [if_neg e]; exact ⟨(hPg t (by omega)).1.ag (fun x g1 g2 => ((heq34 x (by omega)).trans ((heq19 x (by omega)).trans (heq16 x (by omega))))), (hPg t (by omega)).2⟩) (by
              intro h9
              show (if col.toNatClampNeg = y4_3.toNatClampNeg then PX else Pg col.toNatClampNeg) = Lp
              by_cases e : col.toNatClampNeg = y4_3.toNatClampNeg
              · rw [if_pos e]; exact hPL e.symm
              · rw [if_neg e]; exact hcL9 (by omega)) (by omega)).more (zfa1 rfl (zfa1 rfl (zfa1 rfl (zfa1 rfl (zfa1 rfl (zfa0))))))
  have hl58 : (0 : Int32).toInt = 0 := by decide
  have hz59 : ((0 : Int32).toNatClampNeg : Int) = 0 := by decide
  obtain ⟨f60, hb61⟩ := zR_va hR_m (j := 176) (t := 4) (n := 14) (by decide) rfl
  exact (hL3 _ w 0 ((g 1)) (f60) (fun _ => zaZ) zSI.rf (fun _ _ => rfl) (by first | assumption | omega | decide) (by first | assumption | omega | decide) (by
        exact hm) hb61 (by
        omega) (by
        exact fun t ht => absurd ht (by omega)) (by
        exact fun t ht => absurd ht (by omega)) (by
        exact fun h9 => absurd h9 (by omega)) (Nat.lt_succ_self _)).more (zfa1 rfl (zfa1 rfl (zfa1 rfl (zfa1 rfl (zfa1 rfl (zfa0))))))
