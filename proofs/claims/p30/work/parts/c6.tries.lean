theorem zx_X16_triesG_0 {m x : Nat} (h0 : m + 212 ≤ x) (h1 : x < m + 212 + 61) : x < m + 273 ∨ m + 273 + 1 ≤ x := by omega
theorem zx_X16_triesG_1 {m x : Nat} (h0 : m + 212 ≤ x) (h1 : x < m + 212 + 61) : x ≠ m := by omega
theorem zx_X16_triesG_2 {m x : Nat} (h0 : x < m + 273 ∨ m + 273 + 1 ≤ x) : x ≠ m + 273 := by omega
theorem zx_X16_triesG_3 {m : Nat}  : m ≠ m + 273 := by omega
theorem zx_X16_triesG_4 {m : Nat}  : (m + 273) < m + 212 ∨ m + 212 + 61 ≤ (m + 273) := by omega
theorem zx_X16_triesG_5 {m : Nat}  : (m + 273) ≠ m := by omega
theorem zx_X16_triesG_6 {m : Nat}  : m ≠ m + 212 := by omega
theorem zx_X16_triesG_7 {m x : Nat} (h0 : x < m + 212 ∨ m + 212 + 61 ≤ x) : x ≠ m + 212 := by omega
theorem zx_X16_triesG_8 {m : Nat}  : (m + 94) < m + 212 ∨ m + 212 + 61 ≤ (m + 94) := by omega
theorem zx_X16_triesG_9 {m : Nat}  : (m + 94) ≠ m := by omega
set_option maxHeartbeats 8000000 in
set_option maxRecDepth 100000 in
theorem c_X16_triesG {w : zM} {g : Nat → Int32} {r : Nat → Value} {ff fu : Nat → Int32} {g29 : Int32} (m : Nat) (o9 : Int32) (d9 : Int32) (hm : w m = some (.inl (15, zMo m g r))) (hR_m : zR m w) (hGr_m_212 : zGr w (m + 212) 60 46) (hA_m_94 : w (m + 94) = some (.inr (0, 60, .inl ff))) (hA_m_273 : w (m + 273) = some (.inr (0, 46, .inl fu))) (hff : ∀ i, i < 60 → zr1 (ff i)) (hrd : 1 ≤ o9.toInt ∧ o9.toInt ≤ 4 ∧ 0 ≤ d9.toInt ∧ d9.toInt ≤ 8) (hco : (o9.toInt + 1) * (d9.toInt + 1) + 4 ≤ g29.toInt - o9.toInt ∧ g29.toInt ≤ 60 ∧ 0 ≤ g29.toInt) (hg29 : g 29 = g29) : zCon 3 zq_X16_tries [.ref m, .int o9, .int d9] w (fun v9 w9' => ∃ F9 : Nat → Int32, zSI w w9' ∧ (∀ x, (x < m + 212 ∨ m + 212 + 61 ≤ x) ∧ (x < m + 273 ∨ m + 273 + 1 ≤ x) → w9' x = w x) ∧ zGr w9' (m + 212) 60 46 ∧ w9' (m + 273) = some (.inr (0, 46, .inl F9)) ∧ ∃ r9 : Int32, v9 = some (.int r9) ∧ (r9 = 0 ∨ r9 = 1) ∧ (r9 = 1 → ∀ i, i < ((o9.toInt + 1) * (d9.toInt + 1)).toNat → zr1 (F9 i))) := by
  subst hg29
  intro d sz hd
  obtain ⟨d, rfl⟩ : ∃ d9, d = d9 + 1 := ⟨d - 1, by omega⟩
  generalize hPost : (fun (r9' : Option (Option Value)) (w9' : zM) (z9 : Nat) => z9 = sz ∧ ∃ v9, r9' = some v9 ∧ (∃ F9 : Nat → Int32, zSI w w9' ∧ (∀ x, (x < m + 212 ∨ m + 212 + 61 ≤ x) ∧ (x < m + 273 ∨ m + 273 + 1 ≤ x) → w9' x = w x) ∧ zGr w9' (m + 212) 60 46 ∧ w9' (m + 273) = some (.inr (0, 46, .inl F9)) ∧ ∃ r9 : Int32, v9 = some (.int r9) ∧ (r9 = 0 ∨ r9 = 1) ∧ (r9 = 1 → ∀ i, i < ((o9.toInt + 1) * (d9.toInt + 1)).toNat → zr1 (F9 i)))) = Post
  show zP (d + 1) zq_X16_tries 0 [(0, .ref m), (1, .int o9), (2, .int d9)] [] w sz 0 0 Post
  have k1 := zrng o9
  have k2 := zrng d9
  have k3 := zrng (g 29)
  have hz4 : ((g 29).toNatClampNeg : Int) = (g 29).toInt := znat (by first | omega | decide)
  refine zp_seg (pc' := 3) (lv' := [(0, .ref m), (1, .int o9), (2, .int d9)]) (st' := [.int (o9 + 1)]) [(0, .iload_n 1), (1, .iconst 1), (2, .iadd)] (by decide +kernel) rfl ?_
  have k5 := zaddC o9 1 (n := 1) (by decide) (by omega) (by omega)
  generalize ev3 : (o9 + 1 : Int32) = v3 at k5 ⊢
  have kv3 := zrng v3
  refine zp_seg (pc' := 6) (lv' := [(0, .ref m), (1, .int o9), (2, .int d9)]) (st' := [.int (d9 + 1), .int v3]) [(3, .iload_n 2), (4, .iconst 1), (5, .iadd)] (by decide +kernel) rfl ?_
  have k6 := zaddC d9 1 (n := 1) (by decide) (by omega) (by omega)
  generalize ev6 : (d9 + 1 : Int32) = v6 at k6 ⊢
  have kv6 := zrng v6
  refine zp_seg (pc' := 7) (lv' := [(0, .ref m), (1, .int o9), (2, .int d9)]) (st' := [.int (v3 * v6)]) [(6, .imul)] (by decide +kernel) rfl ?_
  have k7 := zmulM v3 v6
  generalize ev7 : (v3 * v6 : Int32) = v7 at k7 ⊢
  have kv7 := zrng v7
  have hpr9 : v3.toInt * v6.toInt = (o9.toInt + 1) * (d9.toInt + 1) := by rw [show v3.toInt = o9.toInt + 1 by omega, show v6.toInt = d9.toInt + 1 by omega]
  have hcm9 := zmul_le (x := o9.toInt + 1) (y := d9.toInt + 1) (a := 5) (b := 9) ⟨by omega, by omega⟩ ⟨by omega, by omega⟩
  refine zp_seg (pc' := 9) (lv' := [(3, .int v7), (0, .ref m), (1, .int o9), (2, .int d9)]) (st' := [.ref m]) [(7, .istore_n 3), (8, .aload_n 0)] (by decide +kernel) rfl ?_
  refine zr_get (idx := 607) (k := 29) (v := .int (g 29)) (by decide +kernel) (by decide +kernel) hm rfl ?_
  refine zp_seg (pc' := 14) (lv' := [(3, .int v7), (0, .ref m), (1, .int o9), (2, .int d9)]) (st' := [.int ((g 29) - o9)]) [(12, .iload_n 1), (13, .isub)] (by decide +kernel) rfl ?_
  have k8 := zsub ((g 29)) o9 (by omega) (by omega)
  generalize ev14 : ((g 29) - o9 : Int32) = v14 at k8 ⊢
  have kv14 := zrng v14
  have hmy9 : v14.toInt = (g 29).toInt - o9.toInt := by omega
  have hc39 : v7.toInt = (o9.toInt + 1) * (d9.toInt + 1) := by omega
  refine zp_seg (pc' := 19) (lv' := [(5, .int 0), (4, .int v14), (3, .int v7), (0, .ref m), (1, .int o9), (2, .int d9)]) (st' := []) [(14, .istore 4), (16, .iconst 0), (17, .istore 5)] (by decide +kernel) rfl ?_
  have hL19 : ∀ (mm19 : Nat) (wL19 : zM) (y5_19 : Int32), (zSI w wL19) → (∀ x, ((x < m + 212 ∨ m + 212 + 61 ≤ x)) ∧ x ≠ m → wL19 x = w x) → (0 ≤ y5_19.toInt) → (y5_19.toInt ≤ 60) → (zGr wL19 (m + 212) 60 46) → (wL19 m = some (.inl (15, zMo m g r))) → (70 - y5_19.toInt).toNat < mm19 → zP (d + 1) zq_X16_tries 19 [(0, .ref m), (1, .int o9), (2, .int d9), (3, .int v7), (4, .int v14), (5, .int y5_19)] [] wL19 sz 0 0 Post := by
    intro mm19
    induction mm19 with
    | zero => intros; omega
    | succ mm19 ih19 =>
    intro wL19 y5_19 hsiL19 heqL19 hi19_0 hi19_1 hGq hmL19 hmu19
    have ky5_19 := zrng y5_19
    have hz9 : (y5_19.toNatClampNeg : Int) = y5_19.toInt := znat (by first | omega | decide)
    refine zp_seg (pc' := 23) (lv' := [(0, .ref m), (1, .int o9), (2, .int d9), (3, .int v7), (4, .int v14), (5, .int y5_19)]) (st' := [.int v14, .int y5_19]) [(19, .iload 5), (21, .iload 4)] (by decide +kernel) rfl ?_
    refine zp_if (i := .if_icmp .ge 83) (c := v14 ≤ y5_19) (t := 106) (e := 26) (lv' := [(0, .ref m), (1, .int o9), (2, .int d9), (3, .int v7), (4, .int v14), (5, .int y5_19)]) (st' := []) (by decide +kernel) rfl (fun cc23 => ?_) (fun cc23 => ?_)
    ·
      have f10 := zleI cc23
      refine zp_seg (pc' := 115) (lv' := [(7, .int 0), (6, .int (Int32.ofInt (-1))), (5, .int 0), (0, .ref m), (1, .int o9), (2, .int d9), (3, .int v7), (4, .int v14)]) (st' := []) [(106, .iconst 0), (107, .istore 5), (109, .iconst (-1)), (110, .istore 6), (112, .iconst 0), (113, .istore 7)] (by decide +kernel) rfl ?_
      have hL115 : ∀ (mm115 : Nat) (wL115 : zM) (y5_115 : Int32) (y6_115 : Int32) (y7_115 : Int32), (zSI wL19 wL115) → (∀ x, ((x < m + 212 ∨ m + 212 + 61 ≤ x)) ∧ x ≠ m → wL115 x = wL19 x) → (0 ≤ y7_115.toInt) → (y7_115.toInt ≤ v7.toInt) → (0 ≤ y5_115.toInt) → (y5_115.toInt ≤ y7_115.toInt) → (y5_115.toInt ≤ v14.toInt) → (-1 ≤ y6_115.toInt) → (y6_115.toInt ≤ 45) → (zGr wL115 (m + 212) 60 46) → (wL115 m = some (.inl (15, zMo m g r))) → (70 - y7_115.toInt).toNat < mm115 → zP (d + 1) zq_X16_tries 115 [(0, .ref m), (3, .int v7), (4, .int v14), (5, .int y5_115), (6, .int y6_115), (7, .int y7_115)] [] wL115 sz 0 0 Post := by
        intro mm115
        induction mm115 with
        | zero => intros; omega
        | succ mm115 ih115 =>
        intro wL115 y5_115 y6_115 y7_115 hsiL115 heqL115 hi115_0 hi115_1 hi115_2 hi115_3 hi115_4 hi115_5 hi115_6 hGq hmL115 hmu115
        have ky5_115 := zrng y5_115
        have ky6_115 := zrng y6_115
        have ky7_115 := zrng y7_115
        have hz11 : (y7_115.toNatClampNeg : Int) = y7_115.toInt := znat (by first | omega | decide)
        refine zp_seg (pc' := 118) (lv' := [(0, .ref m), (3, .int v7), (4, .int v14), (5, .int y5_115), (6, .int y6_115), (7, .int y7_115)]) (st' := [.int v7, .int y7_115]) [(115, .iload 7), (117, .iload_n 3)] (by decide +kernel) rfl ?_
        refine zp_if (i := .if_icmp .ge 221) (c := v7 ≤ y7_115) (t := 339) (e := 121) (lv' := [(0, .ref m), (3, .int v7), (4, .int v14), (5, .int y5_115), (6, .int y6_115), (7, .int y7_115)]) (st' := []) (by decide +kernel) rfl (fun cc118 => ?_) (fun cc118 => ?_)
        ·
          have f12 := zleI cc118
          refine zp_seg (pc' := 342) (lv' := [(7, .int 0), (0, .ref m), (3, .int v7), (4, .int v14), (5, .int y5_115), (6, .int y6_115)]) (st' := []) [(339, .iconst 0), (340, .istore 7)] (by decide +kernel) rfl ?_
          have hL342 : ∀ (mm342 : Nat) (wL342 : zM) (y7_342 : Int32) (uf : Nat → Int32), (zSI wL115 wL342) → (∀ x, ((x < m + 273 ∨ m + 273 + 1 ≤ x)) ∧ x ≠ m → wL342 x = wL115 x) → (0 ≤ y7_342.toInt) → (y7_342.toInt ≤ v7.toInt) → (wL342 (m + 273) = some (.inr (0, 46, .inl uf))) → (wL342 m = some (.inl (15, zMo m g r))) → (∀ i, i < y7_342.toNatClampNeg → zr1 (uf i)) → (70 - y7_342.toInt).toNat < mm342 → zP (d + 1) zq_X16_tries 342 [(0, .ref m), (3, .int v7), (6, .int y6_115), (7, .int y7_342)] [] wL342 sz 0 0 Post := by
            intro mm342
            induction mm342 with
            | zero => intros; omega
            | succ mm342 ih342 =>
            intro wL342 y7_342 uf hsiL342 heqL342 hi342_0 hi342_1 hAu hmL342 hU9 hmu342
            have ky7_342 := zrng y7_342
            have hz13 : (y7_342.toNatClampNeg : Int) = y7_342.toInt := znat (by first | omega | decide)
            refine zp_seg (pc' := 345) (lv' := [(0, .ref m), (3, .int v7), (6, .int y6_115), (7, .int y7_342)]) (st' := [.int v7, .int y7_342]) [(342, .iload 7), (344, .iload_n 3)] (by decide +kernel) rfl ?_
            refine zp_if (i := .if_icmp .ge 57) (c := v7 ≤ y7_342) (t := 402) (e := 348) (lv' := [(0, .ref m), (3, .int v7), (6, .int y6_115), (7, .int y7_342)]) (st' := []) (by decide +kernel) rfl (fun cc345 => ?_) (fun cc345 => ?_)
            ·
              have f14 := zleI cc345
              refine zp_seg (pc' := 404) (lv' := [(0, .ref m), (3, .int v7), (6, .int y6_115), (7, .int y7_342)]) (st' := [.int y6_115]) [(402, .iload 6)] (by decide +kernel) rfl ?_
              refine zp_if (i := .ifCond .lt 7) (c := y6_115 < 0) (t := 411) (e := 407) (lv' := [(0, .ref m), (3, .int v7), (6, .int y6_115), (7, .int y7_342)]) (st' := []) (by decide +kernel) rfl (fun cc404 => ?_) (fun cc404 => ?_)
              ·
                have f16 := zltI cc404
                rw [show (0 : Int32).toInt = 0 from by decide] at f16
                refine zp_seg (pc' := 412) (lv' := [(0, .ref m), (3, .int v7), (6, .int y6_115), (7, .int y7_342)]) (st' := [.int 0]) [(411, .iconst 0)] (by decide +kernel) rfl ?_
                have hmend : wL342 m = w m := by rw [hmL342, hm]
                have hoffend : ∀ x, (x < m + 212 ∨ m + 212 + 61 ≤ x) ∧ (x < m + 273 ∨ m + 273 + 1 ≤ x) → wL342 x = w x := fun x hx => by
                    by_cases ex : x = m
                    · rw [ex]; exact hmend
                    · exact ((heqL342 x ⟨hx.2, ex⟩).trans ((heqL115 x ⟨hx.1, ex⟩).trans (heqL19 x ⟨hx.1, ex⟩)))
                have hb17 : zGr wL342 (m + 212) 60 46 := hGq.ag (fun x hx1 hx2 => (heqL342 x ⟨(zx_X16_triesG_0 hx1 hx2), (zx_X16_triesG_1 hx1 hx2)⟩))
                refine zr_retB (by decide +kernel) rfl (by decide) ?_
                rw [← hPost]; exact ⟨rfl, _, rfl, uf, ((hsiL19.tr hsiL115).tr hsiL342), hoffend, hb17, hAu, _, rfl, (by decide), (by
                      first | exact fun e => absurd e (by decide) | exact fun _ i hi => hU9 i (by omega))⟩
              ·
                have f19 := znltI cc404
                rw [show (0 : Int32).toInt = 0 from by decide] at f19
                refine zp_seg (pc' := 412) (lv' := [(0, .ref m), (3, .int v7), (6, .int y6_115), (7, .int y7_342)]) (st' := [.int 1]) [(407, .iconst 1), (408, .goto 4)] (by decide +kernel) rfl ?_
                have hmend : wL342 m = w m := by rw [hmL342, hm]
                have hoffend : ∀ x, (x < m + 212 ∨ m + 212 + 61 ≤ x) ∧ (x < m + 273 ∨ m + 273 + 1 ≤ x) → wL342 x = w x := fun x hx => by
                    by_cases ex : x = m
                    · rw [ex]; exact hmend
                    · exact ((heqL342 x ⟨hx.2, ex⟩).trans ((heqL115 x ⟨hx.1, ex⟩).trans (heqL19 x ⟨hx.1, ex⟩)))
                have hb20 : zGr wL342 (m + 212) 60 46 := hGq.ag (fun x hx1 hx2 => (heqL342 x ⟨(zx_X16_triesG_0 hx1 hx2), (zx_X16_triesG_1 hx1 hx2)⟩))
                refine zr_retB (by decide +kernel) rfl (by decide) ?_
                rw [← hPost]; exact ⟨rfl, _, rfl, uf, ((hsiL19.tr hsiL115).tr hsiL342), hoffend, hb20, hAu, _, rfl, (by decide), (by
                      first | exact fun e => absurd e (by decide) | exact fun _ i hi => hU9 i (by omega))⟩
            ·
              have f21 := znleI cc345
              refine zp_seg (pc' := 350) (lv' := [(0, .ref m), (3, .int v7), (6, .int y6_115), (7, .int y7_342)]) (st' := [.int y6_115]) [(348, .iload 6)] (by decide +kernel) rfl ?_
              refine zp_if (i := .ifCond .lt 52) (c := y6_115 < 0) (t := 402) (e := 353) (lv' := [(0, .ref m), (3, .int v7), (6, .int y6_115), (7, .int y7_342)]) (st' := []) (by decide +kernel) rfl (fun cc350 => ?_) (fun cc350 => ?_)
              ·
                have f23 := zltI cc350
                rw [show (0 : Int32).toInt = 0 from by decide] at f23
                refine zp_seg (pc' := 404) (lv' := [(0, .ref m), (3, .int v7), (6, .int y6_115), (7, .int y7_342)]) (st' := [.int y6_115]) [(402, .iload 6)] (by decide +kernel) rfl ?_
                refine zp_if (i := .ifCond .lt 7) (c := y6_115 < 0) (t := 411) (e := 407) (lv' := [(0, .ref m), (3, .int v7), (6, .int y6_115), (7, .int y7_342)]) (st' := []) (by decide +kernel) rfl (fun cc404 => ?_) (fun cc404 => ?_)
                ·
                  have f24 := zltI cc404
                  rw [show (0 : Int32).toInt = 0 from by decide] at f24
                  refine zp_seg (pc' := 412) (lv' := [(0, .ref m), (3, .int v7), (6, .int y6_115), (7, .int y7_342)]) (st' := [.int 0]) [(411, .iconst 0)] (by decide +kernel) rfl ?_
                  have hmend : wL342 m = w m := by rw [hmL342, hm]
                  have hoffend : ∀ x, (x < m + 212 ∨ m + 212 + 61 ≤ x) ∧ (x < m + 273 ∨ m + 273 + 1 ≤ x) → wL342 x = w x := fun x hx => by
                      by_cases ex : x = m
                      · rw [ex]; exact hmend
                      · exact ((heqL342 x ⟨hx.2, ex⟩).trans ((heqL115 x ⟨hx.1, ex⟩).trans (heqL19 x ⟨hx.1, ex⟩)))
                  have hb25 : zGr wL342 (m + 212) 60 46 := hGq.ag (fun x hx1 hx2 => (heqL342 x ⟨(zx_X16_triesG_0 hx1 hx2), (zx_X16_triesG_1 hx1 hx2)⟩))
                  refine zr_retB (by decide +kernel) rfl (by decide) ?_
                  rw [← hPost]; exact ⟨rfl, _, rfl, uf, ((hsiL19.tr hsiL115).tr hsiL342), hoffend, hb25, hAu, _, rfl, (by decide), (by
                        first | exact fun e => absurd e (by decide) | exact fun _ i hi => hU9 i (by omega))⟩
                ·
                  exact absurd cc350 cc404
              ·
                have f27 := znltI cc350
                rw [show (0 : Int32).toInt = 0 from by decide] at f27
                refine zp_seg (pc' := 354) (lv' := [(0, .ref m), (3, .int v7), (6, .int y6_115), (7, .int y7_342)]) (st' := [.ref m]) [(353, .aload_n 0)] (by decide +kernel) rfl ?_
                refine zr_get (idx := 535) (k := 61) (v := .ref (m + 273)) (by decide +kernel) (by decide +kernel) hmL342 rfl ?_
                refine zp_seg (pc' := 363) (lv' := [(0, .ref m), (3, .int v7), (6, .int y6_115), (7, .int y7_342)]) (st' := [.int y6_115, .int y7_342, .int y7_342, .ref (m + 273)]) [(357, .iload 7), (359, .iload 7), (361, .iload 6)] (by decide +kernel) rfl ?_
                have hJ395 : ∀ (z0_395 : Int32), (zr1 z0_395) → zP (d + 1) zq_X16_tries 395 [(0, .ref m), (3, .int v7), (6, .int y6_115), (7, .int y7_342)] [.int z0_395, .int y7_342, .ref (m + 273)] wL342 sz 0 0 Post := by
                  intro z0_395 hv9
                  have kz0_395 := zrng z0_395
                  refine zr_iast (by decide +kernel) hAu (zin (by first | omega | decide) (by first | omega | decide)) ?_
                  show zP (d + 1) zq_X16_tries 396 [(0, .ref m), (3, .int v7), (6, .int y6_115), (7, .int y7_342)] [] (zup wL342 (m + 273) (.inr (0, 46, .inl (upd uf (y7_342.toNatClampNeg) z0_395)))) sz 0 0 Post
                  obtain ⟨w395, ew395⟩ : ∃ wz9, wz9 = zup wL342 (m + 273) (.inr (0, 46, .inl (upd uf (y7_342.toNatClampNeg) z0_395))) := ⟨_, rfl⟩
                  have hsi395 : zSI wL342 w395 := by rw [ew395]; exact zSI.arr _ hAu
                  have heq395 : ∀ x, x ≠ m + 273 → w395 x = wL342 x := fun x hx => by rw [ew395]; exact zup_n hx
                  have hc395 : w395 (m + 273) = some (.inr (0, 46, .inl (upd uf (y7_342.toNatClampNeg) z0_395))) := by rw [ew395]; exact zup_s
                  rw [← ew395]
                  clear ew395
                  refine zp_seg (pc' := 399) (lv' := [(7, .int (y7_342 + 1)), (0, .ref m), (3, .int v7), (6, .int y6_115)]) (st' := []) [(396, .iinc 7 1)] (by decide +kernel) rfl ?_
                  have k28 := zaddC y7_342 1 (n := 1) (by decide) (by omega) (by omega)
                  generalize ev399 : (y7_342 + 1 : Int32) = v399 at k28 ⊢
                  have kv399 := zrng v399
                  refine zp_seg (pc' := 342) (lv' := [(7, .int v399), (0, .ref m), (3, .int v7), (6, .int y6_115)]) (st' := []) [(399, .goto (-57))] (by decide +kernel) rfl ?_
                  have hz29 : (v399.toNatClampNeg : Int) = v399.toInt := znat (by first | omega | decide)
                  have hb30 : w395 m = some (.inl (15, zMo m g r)) := (heq395 m (zx_X16_triesG_3)).trans hmL342
                  exact (ih342 w395 v399 ((upd uf (y7_342.toNatClampNeg) z0_395)) (hsiL342.tr hsi395) (fun x hx => ((heq395 x (zx_X16_triesG_2 hx.1)).trans (heqL342 x ⟨hx.1, hx.2⟩))) (by first | assumption | omega | decide) (by first | assumption | omega | decide) hc395 hb30 (by
                        intro i hi
                        by_cases e : i = y7_342.toNatClampNeg
                        · rw [e, zupd_s]; exact hv9
                        · rw [zupd_n _ _ e]; exact hU9 i (by omega)) (by omega)).more (zfa1 rfl (zfa1 rfl (zfa1 rfl (zfa1 rfl (zfa0)))))
                refine zp_if (i := .if_icmp .ge 20) (c := y6_115 ≤ y7_342) (t := 383) (e := 366) (lv' := [(0, .ref m), (3, .int v7), (6, .int y6_115), (7, .int y7_342)]) (st' := [.int y7_342, .ref (m + 273)]) (by decide +kernel) rfl (fun cc363 => ?_) (fun cc363 => ?_)
                ·
                  have f31 := zleI cc363
                  refine zp_seg (pc' := 387) (lv' := [(0, .ref m), (3, .int v7), (6, .int y6_115), (7, .int y7_342)]) (st' := [.int y6_115, .int y7_342, .int y7_342, .ref (m + 273)]) [(383, .iload 7), (385, .iload 6)] (by decide +kernel) rfl ?_
                  refine zp_if (i := .if_icmp .ne 7) (c := ¬ y7_342 = y6_115) (t := 394) (e := 390) (lv' := [(0, .ref m), (3, .int v7), (6, .int y6_115), (7, .int y7_342)]) (st' := [.int y7_342, .ref (m + 273)]) (by decide +kernel) rfl (fun cc387 => ?_) (fun cc387 => ?_)
                  ·
                    have f32 := zneI cc387
                    refine zp_seg (pc' := 395) (lv' := [(0, .ref m), (3, .int v7), (6, .int y6_115), (7, .int y7_342)]) (st' := [.int 0, .int y7_342, .ref (m + 273)]) [(394, .iconst 0)] (by decide +kernel) rfl ?_
                    have hl33 : (0 : Int32).toInt = 0 := by decide
                    exact (hJ395 0 (by
                          first | exact zr1_0 | exact zr1_1 | exact hr377.1)).more (zfa1 rfl (zfa1 rfl (zfa1 rfl (zfa1 rfl (zfa0)))))
                  ·
                    replace cc387 := Classical.not_not.mp cc387
                    have f34 := zeqI cc387
                    refine zp_seg (pc' := 395) (lv' := [(0, .ref m), (3, .int v7), (6, .int y6_115), (7, .int y7_342)]) (st' := [.int 1, .int y7_342, .ref (m + 273)]) [(390, .iconst 1), (391, .goto 4)] (by decide +kernel) rfl ?_
                    have hl35 : (1 : Int32).toInt = 1 := by decide
                    exact (hJ395 1 (by
                          first | exact zr1_0 | exact zr1_1 | exact hr377.1)).more (zfa1 rfl (zfa1 rfl (zfa1 rfl (zfa1 rfl (zfa0)))))
                ·
                  have f36 := znleI cc363
                  refine zp_seg (pc' := 368) (lv' := [(0, .ref m), (3, .int v7), (6, .int y6_115), (7, .int y7_342)]) (st' := [.ref m, .int 0, .int y7_342, .ref (m + 273)]) [(366, .iconst 0), (367, .aload_n 0)] (by decide +kernel) rfl ?_
                  refine zr_get (idx := 532) (k := 60) (v := .ref (m + 212)) (by decide +kernel) (by decide +kernel) hmL342 rfl ?_
                  refine zp_seg (pc' := 373) (lv' := [(0, .ref m), (3, .int v7), (6, .int y6_115), (7, .int y7_342)]) (st' := [.int y7_342, .ref (m + 212), .int 0, .int y7_342, .ref (m + 273)]) [(371, .iload 7)] (by decide +kernel) rfl ?_
                  have hb37 : zGr wL342 (m + 212) 60 46 := hGq.ag (fun x hx1 hx2 => (heqL342 x ⟨(zx_X16_triesG_0 hx1 hx2), (zx_X16_triesG_1 hx1 hx2)⟩))
                  obtain ⟨f38, hg39, hg40⟩ := id hb37
                  obtain ⟨b941, F42, hg43, hg44, hg45, hg46⟩ := hg40 (y7_342.toNatClampNeg) (by omega)
                  refine zr_aald (v := .ref b941) (by decide +kernel) hg39 (by decide) (zin (by first | omega | decide) (by first | omega | decide)) (by rw [hg43]; rfl) ?_
                  refine zp_seg (pc' := 376) (lv' := [(0, .ref m), (3, .int v7), (6, .int y6_115), (7, .int y7_342)]) (st' := [.int y6_115, .ref b941, .int 0, .int y7_342, .ref (m + 273)]) [(374, .iload 6)] (by decide +kernel) rfl ?_
                  refine zr_iald (by decide +kernel) hg45 (zin (by first | omega | decide) (by first | omega | decide)) ?_
                  have hz47 : (y6_115.toNatClampNeg : Int) = y6_115.toInt := znat (by first | omega | decide)
                  obtain ⟨x376, ex376⟩ : ∃ x9, x9 = F42 (y6_115.toNatClampNeg) := ⟨_, rfl⟩
                  rw [← ex376]
                  have kx376 := zrng x376
                  have hvx376 := (fun i hi => (⟨hg46 i hi, trivial⟩ : zr1 (F42 i) ∧ True)) (y6_115.toNatClampNeg) (by omega)
                  rw [← ex376] at hvx376
                  have hwx376 : 0 ≤ x376.toInt ∧ x376.toInt < 2147483647 := hvx376.1
                  refine zr_callS (idx := 46) (j := 256) (by decide +kernel) (by decide +kernel) (by decide) (show zMe 256 = some zq_X16_sub from rfl) rfl rfl (Nat.le_of_ble_eq_true rfl) rfl rfl (Nat.le_of_ble_eq_true rfl) (Nat.le_of_ble_eq_true rfl) (c_X16_sub (w := wL342) 0 x376 (by exact zr1_0) (by first | exact hvx376.1 | omega | decide | assumption | exact zr1_1 | exact zr1_0 | fail "num")) (by omega) (fun v377 w377 hp377 => ?_)
                  obtain ⟨hpw377, r377, rfl, hr377⟩ := hp377
                  replace hpw377 := hpw377.symm
                  subst hpw377
                  have kr377 := zrng r377
                  show zP _ _ _ _ [.int r377, .int y7_342, .ref (m + 273)] _ _ _ _ _
                  refine zp_seg (pc' := 395) (lv' := [(0, .ref m), (3, .int v7), (6, .int y6_115), (7, .int y7_342)]) (st' := [.int r377, .int y7_342, .ref (m + 273)]) [(380, .goto 15)] (by decide +kernel) rfl ?_
                  exact (hJ395 r377 (by
                        first | exact zr1_0 | exact zr1_1 | exact hr377.1)).more (zfa1 rfl (zfa1 rfl (zfa1 rfl (zfa1 rfl (zfa0)))))
          have hl48 : (0 : Int32).toInt = 0 := by decide
          have hz49 : ((0 : Int32).toNatClampNeg : Int) = 0 := by decide
          have hb50 : wL115 (m + 273) = some (.inr (0, 46, .inl fu)) := ((heqL115 (m + 273) ⟨(zx_X16_triesG_4), (zx_X16_triesG_5)⟩).trans (heqL19 (m + 273) ⟨(zx_X16_triesG_4), (zx_X16_triesG_5)⟩)).trans hA_m_273
          exact (hL342 _ wL115 0 (fu) zSI.rf (fun _ _ => rfl) (by first | assumption | omega | decide) (by first | assumption | omega | decide) hb50 hmL115 (by
                exact fun i hi => absurd hi (by omega)) (Nat.lt_succ_self _)).more (zfa1 rfl (zfa1 rfl (zfa1 rfl (zfa1 rfl (zfa0)))))
        ·
          have f51 := znleI cc118
          refine zp_seg (pc' := 123) (lv' := [(0, .ref m), (3, .int v7), (4, .int v14), (5, .int y5_115), (6, .int y6_115), (7, .int y7_115)]) (st' := [.int y6_115]) [(121, .iload 6)] (by decide +kernel) rfl ?_
          refine zp_if (i := .ifCond .ge 216) (c := 0 ≤ y6_115) (t := 339) (e := 126) (lv' := [(0, .ref m), (3, .int v7), (4, .int v14), (5, .int y5_115), (6, .int y6_115), (7, .int y7_115)]) (st' := []) (by decide +kernel) rfl (fun cc123 => ?_) (fun cc123 => ?_)
          ·
            have f53 := zleI cc123
            rw [show (0 : Int32).toInt = 0 from by decide] at f53
            refine zp_seg (pc' := 342) (lv' := [(7, .int 0), (0, .ref m), (3, .int v7), (4, .int v14), (5, .int y5_115), (6, .int y6_115)]) (st' := []) [(339, .iconst 0), (340, .istore 7)] (by decide +kernel) rfl ?_
            have hL342 : ∀ (mm342 : Nat) (wL342 : zM) (y7_342 : Int32) (uf : Nat → Int32), (zSI wL115 wL342) → (∀ x, ((x < m + 273 ∨ m + 273 + 1 ≤ x)) ∧ x ≠ m → wL342 x = wL115 x) → (0 ≤ y7_342.toInt) → (y7_342.toInt ≤ v7.toInt) → (wL342 (m + 273) = some (.inr (0, 46, .inl uf))) → (wL342 m = some (.inl (15, zMo m g r))) → (∀ i, i < y7_342.toNatClampNeg → zr1 (uf i)) → (70 - y7_342.toInt).toNat < mm342 → zP (d + 1) zq_X16_tries 342 [(0, .ref m), (3, .int v7), (6, .int y6_115), (7, .int y7_342)] [] wL342 sz 0 0 Post := by
              intro mm342
              induction mm342 with
              | zero => intros; omega
              | succ mm342 ih342 =>
              intro wL342 y7_342 uf hsiL342 heqL342 hi342_0 hi342_1 hAu hmL342 hU9 hmu342
              have ky7_342 := zrng y7_342
              have hz54 : (y7_342.toNatClampNeg : Int) = y7_342.toInt := znat (by first | omega | decide)
              refine zp_seg (pc' := 345) (lv' := [(0, .ref m), (3, .int v7), (6, .int y6_115), (7, .int y7_342)]) (st' := [.int v7, .int y7_342]) [(342, .iload 7), (344, .iload_n 3)] (by decide +kernel) rfl ?_
              refine zp_if (i := .if_icmp .ge 57) (c := v7 ≤ y7_342) (t := 402) (e := 348) (lv' := [(0, .ref m), (3, .int v7), (6, .int y6_115), (7, .int y7_342)]) (st' := []) (by decide +kernel) rfl (fun cc345 => ?_) (fun cc345 => ?_)
              ·
                have f55 := zleI cc345
                refine zp_seg (pc' := 404) (lv' := [(0, .ref m), (3, .int v7), (6, .int y6_115), (7, .int y7_342)]) (st' := [.int y6_115]) [(402, .iload 6)] (by decide +kernel) rfl ?_
                refine zp_if (i := .ifCond .lt 7) (c := y6_115 < 0) (t := 411) (e := 407) (lv' := [(0, .ref m), (3, .int v7), (6, .int y6_115), (7, .int y7_342)]) (st' := []) (by decide +kernel) rfl (fun cc404 => ?_) (fun cc404 => ?_)
                ·
                  have f56 := zltI cc404
                  rw [show (0 : Int32).toInt = 0 from by decide] at f56
                  refine zp_seg (pc' := 412) (lv' := [(0, .ref m), (3, .int v7), (6, .int y6_115), (7, .int y7_342)]) (st' := [.int 0]) [(411, .iconst 0)] (by decide +kernel) rfl ?_
                  have hmend : wL342 m = w m := by rw [hmL342, hm]
                  have hoffend : ∀ x, (x < m + 212 ∨ m + 212 + 61 ≤ x) ∧ (x < m + 273 ∨ m + 273 + 1 ≤ x) → wL342 x = w x := fun x hx => by
                      by_cases ex : x = m
                      · rw [ex]; exact hmend
                      · exact ((heqL342 x ⟨hx.2, ex⟩).trans ((heqL115 x ⟨hx.1, ex⟩).trans (heqL19 x ⟨hx.1, ex⟩)))
                  have hb57 : zGr wL342 (m + 212) 60 46 := hGq.ag (fun x hx1 hx2 => (heqL342 x ⟨(zx_X16_triesG_0 hx1 hx2), (zx_X16_triesG_1 hx1 hx2)⟩))
                  refine zr_retB (by decide +kernel) rfl (by decide) ?_
                  rw [← hPost]; exact ⟨rfl, _, rfl, uf, ((hsiL19.tr hsiL115).tr hsiL342), hoffend, hb57, hAu, _, rfl, (by decide), (by
                        first | exact fun e => absurd e (by decide) | exact fun _ i hi => hU9 i (by omega))⟩
                ·
                  have f58 := znltI cc404
                  rw [show (0 : Int32).toInt = 0 from by decide] at f58
                  refine zp_seg (pc' := 412) (lv' := [(0, .ref m), (3, .int v7), (6, .int y6_115), (7, .int y7_342)]) (st' := [.int 1]) [(407, .iconst 1), (408, .goto 4)] (by decide +kernel) rfl ?_
                  have hmend : wL342 m = w m := by rw [hmL342, hm]
                  have hoffend : ∀ x, (x < m + 212 ∨ m + 212 + 61 ≤ x) ∧ (x < m + 273 ∨ m + 273 + 1 ≤ x) → wL342 x = w x := fun x hx => by
                      by_cases ex : x = m
                      · rw [ex]; exact hmend
                      · exact ((heqL342 x ⟨hx.2, ex⟩).trans ((heqL115 x ⟨hx.1, ex⟩).trans (heqL19 x ⟨hx.1, ex⟩)))
                  have hb59 : zGr wL342 (m + 212) 60 46 := hGq.ag (fun x hx1 hx2 => (heqL342 x ⟨(zx_X16_triesG_0 hx1 hx2), (zx_X16_triesG_1 hx1 hx2)⟩))
                  refine zr_retB (by decide +kernel) rfl (by decide) ?_
                  rw [← hPost]; exact ⟨rfl, _, rfl, uf, ((hsiL19.tr hsiL115).tr hsiL342), hoffend, hb59, hAu, _, rfl, (by decide), (by
                        first | exact fun e => absurd e (by decide) | exact fun _ i hi => hU9 i (by omega))⟩
              ·
                have f60 := znleI cc345
                refine zp_seg (pc' := 350) (lv' := [(0, .ref m), (3, .int v7), (6, .int y6_115), (7, .int y7_342)]) (st' := [.int y6_115]) [(348, .iload 6)] (by decide +kernel) rfl ?_
                refine zp_if (i := .ifCond .lt 52) (c := y6_115 < 0) (t := 402) (e := 353) (lv' := [(0, .ref m), (3, .int v7), (6, .int y6_115), (7, .int y7_342)]) (st' := []) (by decide +kernel) rfl (fun cc350 => ?_) (fun cc350 => ?_)
                ·
                  have f61 := zltI cc350
                  rw [show (0 : Int32).toInt = 0 from by decide] at f61
                  refine zp_seg (pc' := 404) (lv' := [(0, .ref m), (3, .int v7), (6, .int y6_115), (7, .int y7_342)]) (st' := [.int y6_115]) [(402, .iload 6)] (by decide +kernel) rfl ?_
                  refine zp_if (i := .ifCond .lt 7) (c := y6_115 < 0) (t := 411) (e := 407) (lv' := [(0, .ref m), (3, .int v7), (6, .int y6_115), (7, .int y7_342)]) (st' := []) (by decide +kernel) rfl (fun cc404 => ?_) (fun cc404 => ?_)
                  ·
                    have f62 := zltI cc404
                    rw [show (0 : Int32).toInt = 0 from by decide] at f62
                    refine zp_seg (pc' := 412) (lv' := [(0, .ref m), (3, .int v7), (6, .int y6_115), (7, .int y7_342)]) (st' := [.int 0]) [(411, .iconst 0)] (by decide +kernel) rfl ?_
                    have hmend : wL342 m = w m := by rw [hmL342, hm]
                    have hoffend : ∀ x, (x < m + 212 ∨ m + 212 + 61 ≤ x) ∧ (x < m + 273 ∨ m + 273 + 1 ≤ x) → wL342 x = w x := fun x hx => by
                        by_cases ex : x = m
                        · rw [ex]; exact hmend
                        · exact ((heqL342 x ⟨hx.2, ex⟩).trans ((heqL115 x ⟨hx.1, ex⟩).trans (heqL19 x ⟨hx.1, ex⟩)))
                    have hb63 : zGr wL342 (m + 212) 60 46 := hGq.ag (fun x hx1 hx2 => (heqL342 x ⟨(zx_X16_triesG_0 hx1 hx2), (zx_X16_triesG_1 hx1 hx2)⟩))
                    refine zr_retB (by decide +kernel) rfl (by decide) ?_
                    rw [← hPost]; exact ⟨rfl, _, rfl, uf, ((hsiL19.tr hsiL115).tr hsiL342), hoffend, hb63, hAu, _, rfl, (by decide), (by
                          first | exact fun e => absurd e (by decide) | exact fun _ i hi => hU9 i (by omega))⟩
                  ·
                    exact absurd cc350 cc404
                ·
                  have f64 := znltI cc350
                  rw [show (0 : Int32).toInt = 0 from by decide] at f64
                  refine zp_seg (pc' := 354) (lv' := [(0, .ref m), (3, .int v7), (6, .int y6_115), (7, .int y7_342)]) (st' := [.ref m]) [(353, .aload_n 0)] (by decide +kernel) rfl ?_
                  refine zr_get (idx := 535) (k := 61) (v := .ref (m + 273)) (by decide +kernel) (by decide +kernel) hmL342 rfl ?_
                  refine zp_seg (pc' := 363) (lv' := [(0, .ref m), (3, .int v7), (6, .int y6_115), (7, .int y7_342)]) (st' := [.int y6_115, .int y7_342, .int y7_342, .ref (m + 273)]) [(357, .iload 7), (359, .iload 7), (361, .iload 6)] (by decide +kernel) rfl ?_
                  have hJ395 : ∀ (z0_395 : Int32), (zr1 z0_395) → zP (d + 1) zq_X16_tries 395 [(0, .ref m), (3, .int v7), (6, .int y6_115), (7, .int y7_342)] [.int z0_395, .int y7_342, .ref (m + 273)] wL342 sz 0 0 Post := by
                    intro z0_395 hv9
                    have kz0_395 := zrng z0_395
                    refine zr_iast (by decide +kernel) hAu (zin (by first | omega | decide) (by first | omega | decide)) ?_
                    show zP (d + 1) zq_X16_tries 396 [(0, .ref m), (3, .int v7), (6, .int y6_115), (7, .int y7_342)] [] (zup wL342 (m + 273) (.inr (0, 46, .inl (upd uf (y7_342.toNatClampNeg) z0_395)))) sz 0 0 Post
                    obtain ⟨w395, ew395⟩ : ∃ wz9, wz9 = zup wL342 (m + 273) (.inr (0, 46, .inl (upd uf (y7_342.toNatClampNeg) z0_395))) := ⟨_, rfl⟩
                    have hsi395 : zSI wL342 w395 := by rw [ew395]; exact zSI.arr _ hAu
                    have heq395 : ∀ x, x ≠ m + 273 → w395 x = wL342 x := fun x hx => by rw [ew395]; exact zup_n hx
                    have hc395 : w395 (m + 273) = some (.inr (0, 46, .inl (upd uf (y7_342.toNatClampNeg) z0_395))) := by rw [ew395]; exact zup_s
                    rw [← ew395]
                    clear ew395
                    refine zp_seg (pc' := 399) (lv' := [(7, .int (y7_342 + 1)), (0, .ref m), (3, .int v7), (6, .int y6_115)]) (st' := []) [(396, .iinc 7 1)] (by decide +kernel) rfl ?_
                    have k65 := zaddC y7_342 1 (n := 1) (by decide) (by omega) (by omega)
                    generalize ev399 : (y7_342 + 1 : Int32) = v399 at k65 ⊢
                    have kv399 := zrng v399
                    refine zp_seg (pc' := 342) (lv' := [(7, .int v399), (0, .ref m), (3, .int v7), (6, .int y6_115)]) (st' := []) [(399, .goto (-57))] (by decide +kernel) rfl ?_
                    have hz66 : (v399.toNatClampNeg : Int) = v399.toInt := znat (by first | omega | decide)
                    have hb67 : w395 m = some (.inl (15, zMo m g r)) := (heq395 m (zx_X16_triesG_3)).trans hmL342
                    exact (ih342 w395 v399 ((upd uf (y7_342.toNatClampNeg) z0_395)) (hsiL342.tr hsi395) (fun x hx => ((heq395 x (zx_X16_triesG_2 hx.1)).trans (heqL342 x ⟨hx.1, hx.2⟩))) (by first | assumption | omega | decide) (by first | assumption | omega | decide) hc395 hb67 (by
                          intro i hi
                          by_cases e : i = y7_342.toNatClampNeg
                          · rw [e, zupd_s]; exact hv9
                          · rw [zupd_n _ _ e]; exact hU9 i (by omega)) (by omega)).more (zfa1 rfl (zfa1 rfl (zfa1 rfl (zfa1 rfl (zfa0)))))
                  refine zp_if (i := .if_icmp .ge 20) (c := y6_115 ≤ y7_342) (t := 383) (e := 366) (lv' := [(0, .ref m), (3, .int v7), (6, .int y6_115), (7, .int y7_342)]) (st' := [.int y7_342, .ref (m + 273)]) (by decide +kernel) rfl (fun cc363 => ?_) (fun cc363 => ?_)
                  ·
                    have f68 := zleI cc363
                    refine zp_seg (pc' := 387) (lv' := [(0, .ref m), (3, .int v7), (6, .int y6_115), (7, .int y7_342)]) (st' := [.int y6_115, .int y7_342, .int y7_342, .ref (m + 273)]) [(383, .iload 7), (385, .iload 6)] (by decide +kernel) rfl ?_
                    refine zp_if (i := .if_icmp .ne 7) (c := ¬ y7_342 = y6_115) (t := 394) (e := 390) (lv' := [(0, .ref m), (3, .int v7), (6, .int y6_115), (7, .int y7_342)]) (st' := [.int y7_342, .ref (m + 273)]) (by decide +kernel) rfl (fun cc387 => ?_) (fun cc387 => ?_)
                    ·
                      have f69 := zneI cc387
                      refine zp_seg (pc' := 395) (lv' := [(0, .ref m), (3, .int v7), (6, .int y6_115), (7, .int y7_342)]) (st' := [.int 0, .int y7_342, .ref (m + 273)]) [(394, .iconst 0)] (by decide +kernel) rfl ?_
                      have hl70 : (0 : Int32).toInt = 0 := by decide
                      exact (hJ395 0 (by
                            first | exact zr1_0 | exact zr1_1 | exact hr377.1)).more (zfa1 rfl (zfa1 rfl (zfa1 rfl (zfa1 rfl (zfa0)))))
                    ·
                      replace cc387 := Classical.not_not.mp cc387
                      have f71 := zeqI cc387
                      refine zp_seg (pc' := 395) (lv' := [(0, .ref m), (3, .int v7), (6, .int y6_115), (7, .int y7_342)]) (st' := [.int 1, .int y7_342, .ref (m + 273)]) [(390, .iconst 1), (391, .goto 4)] (by decide +kernel) rfl ?_
                      have hl72 : (1 : Int32).toInt = 1 := by decide
                      exact (hJ395 1 (by
                            first | exact zr1_0 | exact zr1_1 | exact hr377.1)).more (zfa1 rfl (zfa1 rfl (zfa1 rfl (zfa1 rfl (zfa0)))))
                  ·
                    have f73 := znleI cc363
                    refine zp_seg (pc' := 368) (lv' := [(0, .ref m), (3, .int v7), (6, .int y6_115), (7, .int y7_342)]) (st' := [.ref m, .int 0, .int y7_342, .ref (m + 273)]) [(366, .iconst 0), (367, .aload_n 0)] (by decide +kernel) rfl ?_
                    refine zr_get (idx := 532) (k := 60) (v := .ref (m + 212)) (by decide +kernel) (by decide +kernel) hmL342 rfl ?_
                    refine zp_seg (pc' := 373) (lv' := [(0, .ref m), (3, .int v7), (6, .int y6_115), (7, .int y7_342)]) (st' := [.int y7_342, .ref (m + 212), .int 0, .int y7_342, .ref (m + 273)]) [(371, .iload 7)] (by decide +kernel) rfl ?_
                    have hb74 : zGr wL342 (m + 212) 60 46 := hGq.ag (fun x hx1 hx2 => (heqL342 x ⟨(zx_X16_triesG_0 hx1 hx2), (zx_X16_triesG_1 hx1 hx2)⟩))
                    obtain ⟨f75, hg76, hg77⟩ := id hb74
                    obtain ⟨b978, F79, hg80, hg81, hg82, hg83⟩ := hg77 (y7_342.toNatClampNeg) (by omega)
                    refine zr_aald (v := .ref b978) (by decide +kernel) hg76 (by decide) (zin (by first | omega | decide) (by first | omega | decide)) (by rw [hg80]; rfl) ?_
                    refine zp_seg (pc' := 376) (lv' := [(0, .ref m), (3, .int v7), (6, .int y6_115), (7, .int y7_342)]) (st' := [.int y6_115, .ref b978, .int 0, .int y7_342, .ref (m + 273)]) [(374, .iload 6)] (by decide +kernel) rfl ?_
                    refine zr_iald (by decide +kernel) hg82 (zin (by first | omega | decide) (by first | omega | decide)) ?_
                    have hz84 : (y6_115.toNatClampNeg : Int) = y6_115.toInt := znat (by first | omega | decide)
                    obtain ⟨x376, ex376⟩ : ∃ x9, x9 = F79 (y6_115.toNatClampNeg) := ⟨_, rfl⟩
                    rw [← ex376]
                    have kx376 := zrng x376
                    have hvx376 := (fun i hi => (⟨hg83 i hi, trivial⟩ : zr1 (F79 i) ∧ True)) (y6_115.toNatClampNeg) (by omega)
                    rw [← ex376] at hvx376
                    have hwx376 : 0 ≤ x376.toInt ∧ x376.toInt < 2147483647 := hvx376.1
                    refine zr_callS (idx := 46) (j := 256) (by decide +kernel) (by decide +kernel) (by decide) (show zMe 256 = some zq_X16_sub from rfl) rfl rfl (Nat.le_of_ble_eq_true rfl) rfl rfl (Nat.le_of_ble_eq_true rfl) (Nat.le_of_ble_eq_true rfl) (c_X16_sub (w := wL342) 0 x376 (by exact zr1_0) (by first | exact hvx376.1 | omega | decide | assumption | exact zr1_1 | exact zr1_0 | fail "num")) (by omega) (fun v377 w377 hp377 => ?_)
                    obtain ⟨hpw377, r377, rfl, hr377⟩ := hp377
                    replace hpw377 := hpw377.symm
                    subst hpw377
                    have kr377 := zrng r377
                    show zP _ _ _ _ [.int r377, .int y7_342, .ref (m + 273)] _ _ _ _ _
                    refine zp_seg (pc' := 395) (lv' := [(0, .ref m), (3, .int v7), (6, .int y6_115), (7, .int y7_342)]) (st' := [.int r377, .int y7_342, .ref (m + 273)]) [(380, .goto 15)] (by decide +kernel) rfl ?_
                    exact (hJ395 r377 (by
                          first | exact zr1_0 | exact zr1_1 | exact hr377.1)).more (zfa1 rfl (zfa1 rfl (zfa1 rfl (zfa1 rfl (zfa0)))))
            have hl85 : (0 : Int32).toInt = 0 := by decide
            have hz86 : ((0 : Int32).toNatClampNeg : Int) = 0 := by decide
            have hb87 : wL115 (m + 273) = some (.inr (0, 46, .inl fu)) := ((heqL115 (m + 273) ⟨(zx_X16_triesG_4), (zx_X16_triesG_5)⟩).trans (heqL19 (m + 273) ⟨(zx_X16_triesG_4), (zx_X16_triesG_5)⟩)).trans hA_m_273
            exact (hL342 _ wL115 0 (fu) zSI.rf (fun _ _ => rfl) (by first | assumption | omega | decide) (by first | assumption | omega | decide) hb87 hmL115 (by
                  exact fun i hi => absurd hi (by omega)) (Nat.lt_succ_self _)).more (zfa1 rfl (zfa1 rfl (zfa1 rfl (zfa1 rfl (zfa0)))))
          ·
            have f89 := znleI cc123
            rw [show (0 : Int32).toInt = 0 from by decide] at f89
            refine zp_seg (pc' := 130) (lv' := [(8, .int y5_115), (0, .ref m), (3, .int v7), (4, .int v14), (5, .int y5_115), (6, .int y6_115), (7, .int y7_115)]) (st' := []) [(126, .iload 5), (128, .istore 8)] (by decide +kernel) rfl ?_
            have hL130 : ∀ (mm130 : Nat) (y8_130 : Int32), (y5_115.toInt ≤ y8_130.toInt) → (y8_130.toInt ≤ v14.toInt) → (70 - y8_130.toInt).toNat < mm130 → zP (d + 1) zq_X16_tries 130 [(0, .ref m), (3, .int v7), (4, .int v14), (5, .int y5_115), (6, .int y6_115), (7, .int y7_115), (8, .int y8_130)] [] wL115 sz 0 0 Post := by
              intro mm130
              induction mm130 with
              | zero => intros; omega
              | succ mm130 ih130 =>
              intro y8_130 hi130_0 hi130_1 hmu130
              have ky8_130 := zrng y8_130
              have hz90 : (y8_130.toNatClampNeg : Int) = y8_130.toInt := znat (by first | omega | decide)
              refine zp_seg (pc' := 134) (lv' := [(0, .ref m), (3, .int v7), (4, .int v14), (5, .int y5_115), (6, .int y6_115), (7, .int y7_115), (8, .int y8_130)]) (st' := [.int v14, .int y8_130]) [(130, .iload 8), (132, .iload 4)] (by decide +kernel) rfl ?_
              refine zp_if (i := .if_icmp .ge 22) (c := v14 ≤ y8_130) (t := 156) (e := 137) (lv' := [(0, .ref m), (3, .int v7), (4, .int v14), (5, .int y5_115), (6, .int y6_115), (7, .int y7_115), (8, .int y8_130)]) (st' := []) (by decide +kernel) rfl (fun cc134 => ?_) (fun cc134 => ?_)
              ·
                have f91 := zleI cc134
                refine zp_seg (pc' := 160) (lv' := [(0, .ref m), (3, .int v7), (4, .int v14), (5, .int y5_115), (6, .int y6_115), (7, .int y7_115), (8, .int y8_130)]) (st' := [.int v14, .int y8_130]) [(156, .iload 8), (158, .iload 4)] (by decide +kernel) rfl ?_
                refine zp_if (i := .if_icmp .ne 10) (c := ¬ y8_130 = v14) (t := 170) (e := 163) (lv' := [(0, .ref m), (3, .int v7), (4, .int v14), (5, .int y5_115), (6, .int y6_115), (7, .int y7_115), (8, .int y8_130)]) (st' := []) (by decide +kernel) rfl (fun cc160 => ?_) (fun cc160 => ?_)
                ·
                  have f92 := zneI cc160
                  refine zp_seg (pc' := 171) (lv' := [(0, .ref m), (3, .int v7), (4, .int v14), (5, .int y5_115), (6, .int y6_115), (7, .int y7_115), (8, .int y8_130)]) (st' := [.ref m]) [(170, .aload_n 0)] (by decide +kernel) rfl ?_
                  refine zr_get (idx := 532) (k := 60) (v := .ref (m + 212)) (by decide +kernel) (by decide +kernel) hmL115 rfl ?_
                  refine zp_seg (pc' := 176) (lv' := [(0, .ref m), (3, .int v7), (4, .int v14), (5, .int y5_115), (6, .int y6_115), (7, .int y7_115), (8, .int y8_130)]) (st' := [.int y8_130, .ref (m + 212)]) [(174, .iload 8)] (by decide +kernel) rfl ?_
                  obtain ⟨f93, hg94, hg95⟩ := id hGq
                  obtain ⟨b996, F97, hg98, hg99, hg100, hg101⟩ := hg95 (y8_130.toNatClampNeg) (by omega)
                  refine zr_aald (v := .ref b996) (by decide +kernel) hg94 (by decide) (zin (by first | omega | decide) (by first | omega | decide)) (by rw [hg98]; rfl) ?_
                  have hRo102 : zRo wL115 b996 46 := ⟨_, hg100, hg101⟩
                  refine zp_seg (pc' := 180) (lv' := [(9, .ref b996), (0, .ref m), (3, .int v7), (4, .int v14), (5, .int y5_115), (6, .int y6_115), (7, .int y7_115), (8, .int y8_130)]) (st' := [.ref m]) [(177, .astore 9), (179, .aload_n 0)] (by decide +kernel) rfl ?_
                  refine zr_get (idx := 532) (k := 60) (v := .ref (m + 212)) (by decide +kernel) (by decide +kernel) hmL115 rfl ?_
                  refine zp_seg (pc' := 186) (lv' := [(9, .ref b996), (0, .ref m), (3, .int v7), (4, .int v14), (5, .int y5_115), (6, .int y6_115), (7, .int y7_115), (8, .int y8_130)]) (st' := [.ref m, .int y8_130, .ref (m + 212)]) [(183, .iload 8), (185, .aload_n 0)] (by decide +kernel) rfl ?_
                  refine zr_get (idx := 532) (k := 60) (v := .ref (m + 212)) (by decide +kernel) (by decide +kernel) hmL115 rfl ?_
                  refine zp_seg (pc' := 191) (lv' := [(9, .ref b996), (0, .ref m), (3, .int v7), (4, .int v14), (5, .int y5_115), (6, .int y6_115), (7, .int y7_115), (8, .int y8_130)]) (st' := [.int y5_115, .ref (m + 212), .int y8_130, .ref (m + 212)]) [(189, .iload 5)] (by decide +kernel) rfl ?_
                  have hz103 : (y5_115.toNatClampNeg : Int) = y5_115.toInt := znat (by first | omega | decide)
                  obtain ⟨f104, hg105, hg106⟩ := id hGq
                  obtain ⟨b9107, F108, hg109, hg110, hg111, hg112⟩ := hg106 (y5_115.toNatClampNeg) (by omega)
                  refine zr_aald (v := .ref b9107) (by decide +kernel) hg105 (by decide) (zin (by first | omega | decide) (by first | omega | decide)) (by rw [hg109]; rfl) ?_
                  obtain ⟨f113, hg114, hg115⟩ := id hGq
                  refine zr_aastA (by decide +kernel) hg114 hg111 (Or.inl ⟨rfl, rfl⟩) (zin (by first | omega | decide) (by first | omega | decide)) ?_
                  show zP (d + 1) zq_X16_tries 193 [(9, .ref b996), (0, .ref m), (3, .int v7), (4, .int v14), (5, .int y5_115), (6, .int y6_115), (7, .int y7_115), (8, .int y8_130)] [] (zup wL115 (m + 212) (.inr (7, 60, .inr (va_up f113 (y8_130.toNatClampNeg) (some b9107))))) sz 0 0 Post
                  obtain ⟨w192, ew192⟩ : ∃ wz9, wz9 = zup wL115 (m + 212) (.inr (7, 60, .inr (va_up f113 (y8_130.toNatClampNeg) (some b9107)))) := ⟨_, rfl⟩
                  have hsi192 : zSI wL115 w192 := by rw [ew192]; exact zSI.refs _ hg114 (by decide)
                  have heq192 : ∀ x, x ≠ m + 212 → w192 x = wL115 x := fun x hx => by rw [ew192]; exact zup_n hx
                  have hc192 : w192 (m + 212) = some (.inr (7, 60, .inr (va_up f113 (y8_130.toNatClampNeg) (some b9107)))) := by rw [ew192]; exact zup_s
                  rw [← ew192]
                  clear ew192
                  have hG116 : zGr w192 (m + 212) 60 46 := zGr.sw hg115 hg114 heq192 hc192 hg110 hg111 hg112
                  refine zp_seg (pc' := 194) (lv' := [(9, .ref b996), (0, .ref m), (3, .int v7), (4, .int v14), (5, .int y5_115), (6, .int y6_115), (7, .int y7_115), (8, .int y8_130)]) (st' := [.ref m]) [(193, .aload_n 0)] (by decide +kernel) rfl ?_
                  have hb117 : w192 m = some (.inl (15, zMo m g r)) := (heq192 m (zx_X16_triesG_6)).trans hmL115
                  refine zr_get (idx := 532) (k := 60) (v := .ref (m + 212)) (by decide +kernel) (by decide +kernel) hb117 rfl ?_
                  refine zp_seg (pc' := 201) (lv' := [(9, .ref b996), (0, .ref m), (3, .int v7), (4, .int v14), (5, .int y5_115), (6, .int y6_115), (7, .int y7_115), (8, .int y8_130)]) (st' := [.ref b996, .int y5_115, .ref (m + 212)]) [(197, .iload 5), (199, .aload 9)] (by decide +kernel) rfl ?_
                  have hb118 : w192 b996 = some (.inr (0, 46, .inl F97)) := (heq192 b996 (by omega)).trans hg100
                  obtain ⟨f119, hg120, hg121⟩ := id hG116
                  refine zr_aastA (by decide +kernel) hg120 hb118 (Or.inl ⟨rfl, rfl⟩) (zin (by first | omega | decide) (by first | omega | decide)) ?_
                  show zP (d + 1) zq_X16_tries 202 [(9, .ref b996), (0, .ref m), (3, .int v7), (4, .int v14), (5, .int y5_115), (6, .int y6_115), (7, .int y7_115), (8, .int y8_130)] [] (zup w192 (m + 212) (.inr (7, 60, .inr (va_up f119 (y5_115.toNatClampNeg) (some b996))))) sz 0 0 Post
                  obtain ⟨w201, ew201⟩ : ∃ wz9, wz9 = zup w192 (m + 212) (.inr (7, 60, .inr (va_up f119 (y5_115.toNatClampNeg) (some b996)))) := ⟨_, rfl⟩
                  have hsi201 : zSI w192 w201 := by rw [ew201]; exact zSI.refs _ hg120 (by decide)
                  have heq201 : ∀ x, x ≠ m + 212 → w201 x = w192 x := fun x hx => by rw [ew201]; exact zup_n hx
                  have hc201 : w201 (m + 212) = some (.inr (7, 60, .inr (va_up f119 (y5_115.toNatClampNeg) (some b996)))) := by rw [ew201]; exact zup_s
                  rw [← ew201]
                  clear ew201
                  have hG122 : zGr w201 (m + 212) 60 46 := zGr.sw hg121 hg120 heq201 hc201 hg99 hb118 hg101
                  refine zp_seg (pc' := 206) (lv' := [(9, .ref b996), (0, .ref m), (3, .int v7), (4, .int v14), (5, .int y5_115), (6, .int y6_115), (7, .int y7_115), (8, .int y8_130)]) (st' := [.int y7_115, .ref b996]) [(202, .aload 9), (204, .iload 7)] (by decide +kernel) rfl ?_
                  have hb123 : w201 b996 = some (.inr (0, 46, .inl F97)) := (heq201 b996 (by omega)).trans hb118
                  refine zr_iald (by decide +kernel) hb123 (zin (by first | omega | decide) (by first | omega | decide)) ?_
                  obtain ⟨x206, ex206⟩ : ∃ x9, x9 = F97 (y7_115.toNatClampNeg) := ⟨_, rfl⟩
                  rw [← ex206]
                  have kx206 := zrng x206
                  have hvx206 := (fun i hi => (⟨hg101 i hi, trivial⟩ : zr1 (F97 i) ∧ True)) (y7_115.toNatClampNeg) (by omega)
                  rw [← ex206] at hvx206
                  have hwx206 : 0 ≤ x206.toInt ∧ x206.toInt < 2147483647 := hvx206.1
                  refine zr_callS (idx := 13) (j := 259) (by decide +kernel) (by decide +kernel) (by decide) (show zMe 259 = some zq_X16_inv from rfl) rfl rfl (Nat.le_of_ble_eq_true rfl) rfl rfl (Nat.le_of_ble_eq_true rfl) (Nat.le_of_ble_eq_true rfl) (c_X16_inv (w := w201) x206 (by first | exact hvx206.1 | omega | decide | assumption | exact zr1_1 | exact zr1_0 | fail "num")) (by omega) (fun v207 w207 hp207 => ?_)
                  obtain ⟨hpw207, r207, rfl, hr207⟩ := hp207
                  replace hpw207 := hpw207.symm
                  subst hpw207
                  have kr207 := zrng r207
                  show zP _ _ _ _ [.int r207] _ _ _ _ _
                  refine zp_seg (pc' := 215) (lv' := [(11, .int 0), (10, .int r207), (9, .ref b996), (0, .ref m), (3, .int v7), (4, .int v14), (5, .int y5_115), (6, .int y6_115), (7, .int y7_115), (8, .int y8_130)]) (st' := []) [(210, .istore 10), (212, .iconst 0), (213, .istore 11)] (by decide +kernel) rfl ?_
                  have hb124 : w201 m = some (.inl (15, zMo m g r)) := (heq201 m (zx_X16_triesG_6)).trans hb117
                  have hL215 : ∀ (mm215 : Nat) (wL215 : zM) (y11_215 : Int32), (zSI w201 wL215) → (∀ x, ((x < m + 212 ∨ m + 212 + 61 ≤ x)) ∧ x ≠ m → wL215 x = w201 x) → (0 ≤ y11_215.toInt) → (y11_215.toInt ≤ v7.toInt) → (zGr wL215 (m + 212) 60 46) → (zRo wL215 b996 46) → (wL215 m = some (.inl (15, zMo m g r))) → (70 - y11_215.toInt).toNat < mm215 → zP (d + 1) zq_X16_tries 215 [(0, .ref m), (3, .int v7), (4, .int v14), (5, .int y5_115), (6, .int y6_115), (7, .int y7_115), (9, .ref b996), (10, .int r207), (11, .int y11_215)] [] wL215 sz 0 0 Post := by
                    intro mm215
                    induction mm215 with
                    | zero => intros; omega
                    | succ mm215 ih215 =>
                    intro wL215 y11_215 hsiL215 heqL215 hi215_0 hi215_1 hGq hRq hmL215 hmu215
                    have ky11_215 := zrng y11_215
                    have hz125 : (y11_215.toNatClampNeg : Int) = y11_215.toInt := znat (by first | omega | decide)
                    refine zp_seg (pc' := 218) (lv' := [(0, .ref m), (3, .int v7), (4, .int v14), (5, .int y5_115), (6, .int y6_115), (7, .int y7_115), (9, .ref b996), (10, .int r207), (11, .int y11_215)]) (st' := [.int v7, .int y11_215]) [(215, .iload 11), (217, .iload_n 3)] (by decide +kernel) rfl ?_
                    refine zp_if (i := .if_icmp .ge 24) (c := v7 ≤ y11_215) (t := 242) (e := 221) (lv' := [(0, .ref m), (3, .int v7), (4, .int v14), (5, .int y5_115), (6, .int y6_115), (7, .int y7_115), (9, .ref b996), (10, .int r207), (11, .int y11_215)]) (st' := []) (by decide +kernel) rfl (fun cc218 => ?_) (fun cc218 => ?_)
                    ·
                      have f126 := zleI cc218
                      refine zp_seg (pc' := 245) (lv' := [(11, .int 0), (0, .ref m), (3, .int v7), (4, .int v14), (5, .int y5_115), (6, .int y6_115), (7, .int y7_115), (9, .ref b996), (10, .int r207)]) (st' := []) [(242, .iconst 0), (243, .istore 11)] (by decide +kernel) rfl ?_
                      have hL245 : ∀ (mm245 : Nat) (wL245 : zM) (y11_245 : Int32), (zSI wL215 wL245) → (∀ x, ((x < m + 212 ∨ m + 212 + 61 ≤ x)) ∧ x ≠ m → wL245 x = wL215 x) → (0 ≤ y11_245.toInt) → (y11_245.toInt ≤ v14.toInt) → (zGr wL245 (m + 212) 60 46) → (zRo wL245 b996 46) → (wL245 m = some (.inl (15, zMo m g r))) → (70 - y11_245.toInt).toNat < mm245 → zP (d + 1) zq_X16_tries 245 [(0, .ref m), (3, .int v7), (4, .int v14), (5, .int y5_115), (6, .int y6_115), (7, .int y7_115), (9, .ref b996), (11, .int y11_245)] [] wL245 sz 0 0 Post := by
                        intro mm245
                        induction mm245 with
                        | zero => intros; omega
                        | succ mm245 ih245 =>
                        intro wL245 y11_245 hsiL245 heqL245 hi245_0 hi245_1 hGq hRq hmL245 hmu245
                        have ky11_245 := zrng y11_245
                        have hz127 : (y11_245.toNatClampNeg : Int) = y11_245.toInt := znat (by first | omega | decide)
                        refine zp_seg (pc' := 249) (lv' := [(0, .ref m), (3, .int v7), (4, .int v14), (5, .int y5_115), (6, .int y6_115), (7, .int y7_115), (9, .ref b996), (11, .int y11_245)]) (st' := [.int v14, .int y11_245]) [(245, .iload 11), (247, .iload 4)] (by decide +kernel) rfl ?_
                        refine zp_if (i := .if_icmp .ge 81) (c := v14 ≤ y11_245) (t := 330) (e := 252) (lv' := [(0, .ref m), (3, .int v7), (4, .int v14), (5, .int y5_115), (6, .int y6_115), (7, .int y7_115), (9, .ref b996), (11, .int y11_245)]) (st' := []) (by decide +kernel) rfl (fun cc249 => ?_) (fun cc249 => ?_)
                        ·
                          have f128 := zleI cc249
                          refine zp_seg (pc' := 333) (lv' := [(5, .int (y5_115 + 1)), (0, .ref m), (3, .int v7), (4, .int v14), (6, .int y6_115), (7, .int y7_115), (9, .ref b996), (11, .int y11_245)]) (st' := []) [(330, .iinc 5 1)] (by decide +kernel) rfl ?_
                          have k129 := zaddC y5_115 1 (n := 1) (by decide) (by omega) (by omega)
                          generalize ev333 : (y5_115 + 1 : Int32) = v333 at k129 ⊢
                          have kv333 := zrng v333
                          refine zp_seg (pc' := 336) (lv' := [(7, .int (y7_115 + 1)), (5, .int v333), (0, .ref m), (3, .int v7), (4, .int v14), (6, .int y6_115), (9, .ref b996), (11, .int y11_245)]) (st' := []) [(333, .iinc 7 1)] (by decide +kernel) rfl ?_
                          have k130 := zaddC y7_115 1 (n := 1) (by decide) (by omega) (by omega)
                          generalize ev336 : (y7_115 + 1 : Int32) = v336 at k130 ⊢
                          have kv336 := zrng v336
                          refine zp_seg (pc' := 115) (lv' := [(7, .int v336), (5, .int v333), (0, .ref m), (3, .int v7), (4, .int v14), (6, .int y6_115), (9, .ref b996), (11, .int y11_245)]) (st' := []) [(336, .goto (-221))] (by decide +kernel) rfl ?_
                          have hz131 : (v336.toNatClampNeg : Int) = v336.toInt := znat (by first | omega | decide)
                          exact (ih115 wL245 v333 y6_115 v336 ((((hsiL115.tr hsi192).tr hsi201).tr hsiL215).tr hsiL245) (fun x hx => ((heqL245 x ⟨hx.1, hx.2⟩).trans ((heqL215 x ⟨hx.1, hx.2⟩).trans ((heq201 x (zx_X16_triesG_7 hx.1)).trans ((heq192 x (zx_X16_triesG_7 hx.1)).trans (heqL115 x ⟨hx.1, hx.2⟩)))))) (by first | assumption | omega | decide) (by first | assumption | omega | decide) (by first | assumption | omega | decide) (by first | assumption | omega | decide) (by first | assumption | omega | decide) (by first | assumption | omega | decide) (by first | assumption | omega | decide) hGq hmL245 (by omega)).more (zfa1 rfl (zfa1 rfl (zfa1 rfl (zfa1 rfl (zfa1 rfl (zfa1 rfl (zfa0)))))))
                        ·
                          have f132 := znleI cc249
                          refine zp_seg (pc' := 253) (lv' := [(0, .ref m), (3, .int v7), (4, .int v14), (5, .int y5_115), (6, .int y6_115), (7, .int y7_115), (9, .ref b996), (11, .int y11_245)]) (st' := [.ref m]) [(252, .aload_n 0)] (by decide +kernel) rfl ?_
                          refine zr_get (idx := 532) (k := 60) (v := .ref (m + 212)) (by decide +kernel) (by decide +kernel) hmL245 rfl ?_
                          refine zp_seg (pc' := 258) (lv' := [(0, .ref m), (3, .int v7), (4, .int v14), (5, .int y5_115), (6, .int y6_115), (7, .int y7_115), (9, .ref b996), (11, .int y11_245)]) (st' := [.int y11_245, .ref (m + 212)]) [(256, .iload 11)] (by decide +kernel) rfl ?_
                          obtain ⟨f133, hg134, hg135⟩ := id hGq
                          obtain ⟨b9136, F137, hg138, hg139, hg140, hg141⟩ := hg135 (y11_245.toNatClampNeg) (by omega)
                          refine zr_aald (v := .ref b9136) (by decide +kernel) hg134 (by decide) (zin (by first | omega | decide) (by first | omega | decide)) (by rw [hg138]; rfl) ?_
                          refine zp_seg (pc' := 261) (lv' := [(0, .ref m), (3, .int v7), (4, .int v14), (5, .int y5_115), (6, .int y6_115), (7, .int y7_115), (9, .ref b996), (11, .int y11_245)]) (st' := [.int y7_115, .ref b9136]) [(259, .iload 7)] (by decide +kernel) rfl ?_
                          refine zr_iald (by decide +kernel) hg140 (zin (by first | omega | decide) (by first | omega | decide)) ?_
                          obtain ⟨x261, ex261⟩ : ∃ x9, x9 = F137 (y7_115.toNatClampNeg) := ⟨_, rfl⟩
                          rw [← ex261]
                          have kx261 := zrng x261
                          have hvx261 := (fun i hi => (⟨hg141 i hi, trivial⟩ : zr1 (F137 i) ∧ True)) (y7_115.toNatClampNeg) (by omega)
                          rw [← ex261] at hvx261
                          have hwx261 : 0 ≤ x261.toInt ∧ x261.toInt < 2147483647 := hvx261.1
                          refine zp_seg (pc' := 267) (lv' := [(13, .int 0), (12, .int x261), (0, .ref m), (3, .int v7), (4, .int v14), (5, .int y5_115), (6, .int y6_115), (7, .int y7_115), (9, .ref b996), (11, .int y11_245)]) (st' := []) [(262, .istore 12), (264, .iconst 0), (265, .istore 13)] (by decide +kernel) rfl ?_
                          have hL267 : ∀ (mm267 : Nat) (wL267 : zM) (y13_267 : Int32), (zSI wL245 wL267) → (∀ x, ((x < m + 212 ∨ m + 212 + 61 ≤ x)) ∧ x ≠ m → wL267 x = wL245 x) → (0 ≤ y13_267.toInt) → (y13_267.toInt ≤ v7.toInt) → (zGr wL267 (m + 212) 60 46) → (zRo wL267 b996 46) → (wL267 m = some (.inl (15, zMo m g r))) → (70 - y13_267.toInt).toNat < mm267 → zP (d + 1) zq_X16_tries 267 [(0, .ref m), (3, .int v7), (4, .int v14), (5, .int y5_115), (6, .int y6_115), (7, .int y7_115), (9, .ref b996), (11, .int y11_245), (12, .int x261), (13, .int y13_267)] [] wL267 sz 0 0 Post := by
                            intro mm267
                            induction mm267 with
                            | zero => intros; omega
                            | succ mm267 ih267 =>
                            intro wL267 y13_267 hsiL267 heqL267 hi267_0 hi267_1 hGq hRq hmL267 hmu267
                            have ky13_267 := zrng y13_267
                            have hz142 : (y13_267.toNatClampNeg : Int) = y13_267.toInt := znat (by first | omega | decide)
                            refine zp_seg (pc' := 270) (lv' := [(0, .ref m), (3, .int v7), (4, .int v14), (5, .int y5_115), (6, .int y6_115), (7, .int y7_115), (9, .ref b996), (11, .int y11_245), (12, .int x261), (13, .int y13_267)]) (st' := [.int v7, .int y13_267]) [(267, .iload 13), (269, .iload_n 3)] (by decide +kernel) rfl ?_
                            refine zp_if (i := .if_icmp .ge 54) (c := v7 ≤ y13_267) (t := 324) (e := 273) (lv' := [(0, .ref m), (3, .int v7), (4, .int v14), (5, .int y5_115), (6, .int y6_115), (7, .int y7_115), (9, .ref b996), (11, .int y11_245), (12, .int x261), (13, .int y13_267)]) (st' := []) (by decide +kernel) rfl (fun cc270 => ?_) (fun cc270 => ?_)
                            ·
                              have f143 := zleI cc270
                              refine zp_seg (pc' := 327) (lv' := [(11, .int (y11_245 + 1)), (0, .ref m), (3, .int v7), (4, .int v14), (5, .int y5_115), (6, .int y6_115), (7, .int y7_115), (9, .ref b996), (12, .int x261), (13, .int y13_267)]) (st' := []) [(324, .iinc 11 1)] (by decide +kernel) rfl ?_
                              have k144 := zaddC y11_245 1 (n := 1) (by decide) (by omega) (by omega)
                              generalize ev327 : (y11_245 + 1 : Int32) = v327 at k144 ⊢
                              have kv327 := zrng v327
                              refine zp_seg (pc' := 245) (lv' := [(11, .int v327), (0, .ref m), (3, .int v7), (4, .int v14), (5, .int y5_115), (6, .int y6_115), (7, .int y7_115), (9, .ref b996), (12, .int x261), (13, .int y13_267)]) (st' := []) [(327, .goto (-82))] (by decide +kernel) rfl ?_
                              have hz145 : (v327.toNatClampNeg : Int) = v327.toInt := znat (by first | omega | decide)
                              exact (ih245 wL267 v327 (hsiL245.tr hsiL267) (fun x hx => ((heqL267 x ⟨hx.1, hx.2⟩).trans (heqL245 x ⟨hx.1, hx.2⟩))) (by first | assumption | omega | decide) (by first | assumption | omega | decide) hGq hRq hmL267 (by omega)).more (zfa1 rfl (zfa1 rfl (zfa1 rfl (zfa1 rfl (zfa1 rfl (zfa1 rfl (zfa1 rfl (zfa1 rfl (zfa0)))))))))
                            ·
                              have f146 := znleI cc270
                              refine zp_seg (pc' := 277) (lv' := [(0, .ref m), (3, .int v7), (4, .int v14), (5, .int y5_115), (6, .int y6_115), (7, .int y7_115), (9, .ref b996), (11, .int y11_245), (12, .int x261), (13, .int y13_267)]) (st' := [.int y5_115, .int y11_245]) [(273, .iload 11), (275, .iload 5)] (by decide +kernel) rfl ?_
                              refine zp_if (i := .if_icmp .eq 47) (c := y11_245 = y5_115) (t := 324) (e := 280) (lv' := [(0, .ref m), (3, .int v7), (4, .int v14), (5, .int y5_115), (6, .int y6_115), (7, .int y7_115), (9, .ref b996), (11, .int y11_245), (12, .int x261), (13, .int y13_267)]) (st' := []) (by decide +kernel) rfl (fun cc277 => ?_) (fun cc277 => ?_)
                              ·
                                have f147 := zeqI cc277
                                refine zp_seg (pc' := 327) (lv' := [(11, .int (y11_245 + 1)), (0, .ref m), (3, .int v7), (4, .int v14), (5, .int y5_115), (6, .int y6_115), (7, .int y7_115), (9, .ref b996), (12, .int x261), (13, .int y13_267)]) (st' := []) [(324, .iinc 11 1)] (by decide +kernel) rfl ?_
                                have k148 := zaddC y11_245 1 (n := 1) (by decide) (by omega) (by omega)
                                generalize ev327 : (y11_245 + 1 : Int32) = v327 at k148 ⊢
                                have kv327 := zrng v327
                                refine zp_seg (pc' := 245) (lv' := [(11, .int v327), (0, .ref m), (3, .int v7), (4, .int v14), (5, .int y5_115), (6, .int y6_115), (7, .int y7_115), (9, .ref b996), (12, .int x261), (13, .int y13_267)]) (st' := []) [(327, .goto (-82))] (by decide +kernel) rfl ?_
                                have hz149 : (v327.toNatClampNeg : Int) = v327.toInt := znat (by first | omega | decide)
                                exact (ih245 wL267 v327 (hsiL245.tr hsiL267) (fun x hx => ((heqL267 x ⟨hx.1, hx.2⟩).trans (heqL245 x ⟨hx.1, hx.2⟩))) (by first | assumption | omega | decide) (by first | assumption | omega | decide) hGq hRq hmL267 (by omega)).more (zfa1 rfl (zfa1 rfl (zfa1 rfl (zfa1 rfl (zfa1 rfl (zfa1 rfl (zfa1 rfl (zfa1 rfl (zfa0)))))))))
                              ·
                                have f150 := zneI cc277
                                refine zp_seg (pc' := 282) (lv' := [(0, .ref m), (3, .int v7), (4, .int v14), (5, .int y5_115), (6, .int y6_115), (7, .int y7_115), (9, .ref b996), (11, .int y11_245), (12, .int x261), (13, .int y13_267)]) (st' := [.int x261]) [(280, .iload 12)] (by decide +kernel) rfl ?_
                                refine zp_if (i := .ifCond .eq 42) (c := x261 = 0) (t := 324) (e := 285) (lv' := [(0, .ref m), (3, .int v7), (4, .int v14), (5, .int y5_115), (6, .int y6_115), (7, .int y7_115), (9, .ref b996), (11, .int y11_245), (12, .int x261), (13, .int y13_267)]) (st' := []) (by decide +kernel) rfl (fun cc282 => ?_) (fun cc282 => ?_)
                                ·
                                  have f151 := zeqI cc282
                                  rw [show (0 : Int32).toInt = 0 from by decide] at f151
                                  refine zp_seg (pc' := 327) (lv' := [(11, .int (y11_245 + 1)), (0, .ref m), (3, .int v7), (4, .int v14), (5, .int y5_115), (6, .int y6_115), (7, .int y7_115), (9, .ref b996), (12, .int x261), (13, .int y13_267)]) (st' := []) [(324, .iinc 11 1)] (by decide +kernel) rfl ?_
                                  have k152 := zaddC y11_245 1 (n := 1) (by decide) (by omega) (by omega)
                                  generalize ev327 : (y11_245 + 1 : Int32) = v327 at k152 ⊢
                                  have kv327 := zrng v327
                                  refine zp_seg (pc' := 245) (lv' := [(11, .int v327), (0, .ref m), (3, .int v7), (4, .int v14), (5, .int y5_115), (6, .int y6_115), (7, .int y7_115), (9, .ref b996), (12, .int x261), (13, .int y13_267)]) (st' := []) [(327, .goto (-82))] (by decide +kernel) rfl ?_
                                  have hz153 : (v327.toNatClampNeg : Int) = v327.toInt := znat (by first | omega | decide)
                                  exact (ih245 wL267 v327 (hsiL245.tr hsiL267) (fun x hx => ((heqL267 x ⟨hx.1, hx.2⟩).trans (heqL245 x ⟨hx.1, hx.2⟩))) (by first | assumption | omega | decide) (by first | assumption | omega | decide) hGq hRq hmL267 (by omega)).more (zfa1 rfl (zfa1 rfl (zfa1 rfl (zfa1 rfl (zfa1 rfl (zfa1 rfl (zfa1 rfl (zfa1 rfl (zfa0)))))))))
                                ·
                                  have f154 := zneI cc282
                                  rw [show (0 : Int32).toInt = 0 from by decide] at f154
                                  refine zp_seg (pc' := 286) (lv' := [(0, .ref m), (3, .int v7), (4, .int v14), (5, .int y5_115), (6, .int y6_115), (7, .int y7_115), (9, .ref b996), (11, .int y11_245), (12, .int x261), (13, .int y13_267)]) (st' := [.ref m]) [(285, .aload_n 0)] (by decide +kernel) rfl ?_
                                  refine zr_get (idx := 532) (k := 60) (v := .ref (m + 212)) (by decide +kernel) (by decide +kernel) hmL267 rfl ?_
                                  refine zp_seg (pc' := 291) (lv' := [(0, .ref m), (3, .int v7), (4, .int v14), (5, .int y5_115), (6, .int y6_115), (7, .int y7_115), (9, .ref b996), (11, .int y11_245), (12, .int x261), (13, .int y13_267)]) (st' := [.int y11_245, .ref (m + 212)]) [(289, .iload 11)] (by decide +kernel) rfl ?_
                                  obtain ⟨f155, hg156, hg157⟩ := id hGq
                                  obtain ⟨b9158, F159, hg160, hg161, hg162, hg163⟩ := hg157 (y11_245.toNatClampNeg) (by omega)
                                  refine zr_aald (v := .ref b9158) (by decide +kernel) hg156 (by decide) (zin (by first | omega | decide) (by first | omega | decide)) (by rw [hg160]; rfl) ?_
                                  refine zp_seg (pc' := 295) (lv' := [(0, .ref m), (3, .int v7), (4, .int v14), (5, .int y5_115), (6, .int y6_115), (7, .int y7_115), (9, .ref b996), (11, .int y11_245), (12, .int x261), (13, .int y13_267)]) (st' := [.ref m, .int y13_267, .ref b9158]) [(292, .iload 13), (294, .aload_n 0)] (by decide +kernel) rfl ?_
                                  refine zr_get (idx := 532) (k := 60) (v := .ref (m + 212)) (by decide +kernel) (by decide +kernel) hmL267 rfl ?_
                                  refine zp_seg (pc' := 300) (lv' := [(0, .ref m), (3, .int v7), (4, .int v14), (5, .int y5_115), (6, .int y6_115), (7, .int y7_115), (9, .ref b996), (11, .int y11_245), (12, .int x261), (13, .int y13_267)]) (st' := [.int y11_245, .ref (m + 212), .int y13_267, .ref b9158]) [(298, .iload 11)] (by decide +kernel) rfl ?_
                                  obtain ⟨f164, hg165, hg166⟩ := id hGq
                                  obtain ⟨b9167, F168, hg169, hg170, hg171, hg172⟩ := hg166 (y11_245.toNatClampNeg) (by omega)
                                  refine zr_aald (v := .ref b9167) (by decide +kernel) hg165 (by decide) (zin (by first | omega | decide) (by first | omega | decide)) (by rw [hg169]; rfl) ?_
                                  refine zp_seg (pc' := 303) (lv' := [(0, .ref m), (3, .int v7), (4, .int v14), (5, .int y5_115), (6, .int y6_115), (7, .int y7_115), (9, .ref b996), (11, .int y11_245), (12, .int x261), (13, .int y13_267)]) (st' := [.int y13_267, .ref b9167, .int y13_267, .ref b9158]) [(301, .iload 13)] (by decide +kernel) rfl ?_
                                  refine zr_iald (by decide +kernel) hg171 (zin (by first | omega | decide) (by first | omega | decide)) ?_
                                  obtain ⟨x303, ex303⟩ : ∃ x9, x9 = F168 (y13_267.toNatClampNeg) := ⟨_, rfl⟩
                                  rw [← ex303]
                                  have kx303 := zrng x303
                                  have hvx303 := (fun i hi => (⟨hg172 i hi, trivial⟩ : zr1 (F168 i) ∧ True)) (y13_267.toNatClampNeg) (by omega)
                                  rw [← ex303] at hvx303
                                  have hwx303 : 0 ≤ x303.toInt ∧ x303.toInt < 2147483647 := hvx303.1
                                  refine zp_seg (pc' := 310) (lv' := [(0, .ref m), (3, .int v7), (4, .int v14), (5, .int y5_115), (6, .int y6_115), (7, .int y7_115), (9, .ref b996), (11, .int y11_245), (12, .int x261), (13, .int y13_267)]) (st' := [.int y13_267, .ref b996, .int x261, .int x303, .int y13_267, .ref b9158]) [(304, .iload 12), (306, .aload 9), (308, .iload 13)] (by decide +kernel) rfl ?_
                                  obtain ⟨F173, hb174, hro175⟩ := id hRq
                                  refine zr_iald (by decide +kernel) hb174 (zin (by first | omega | decide) (by first | omega | decide)) ?_
                                  obtain ⟨x310, ex310⟩ : ∃ x9, x9 = F173 (y13_267.toNatClampNeg) := ⟨_, rfl⟩
                                  rw [← ex310]
                                  have kx310 := zrng x310
                                  have hvx310 := (fun i hi => (⟨hro175 i hi, trivial⟩ : zr1 (F173 i) ∧ True)) (y13_267.toNatClampNeg) (by omega)
                                  rw [← ex310] at hvx310
                                  have hwx310 : 0 ≤ x310.toInt ∧ x310.toInt < 2147483647 := hvx310.1
                                  refine zr_callS (idx := 56) (j := 257) (by decide +kernel) (by decide +kernel) (by decide) (show zMe 257 = some zq_X16_mul from rfl) rfl rfl (Nat.le_of_ble_eq_true rfl) rfl rfl (Nat.le_of_ble_eq_true rfl) (Nat.le_of_ble_eq_true rfl) (c_X16_mul (w := wL267) x261 x310 (by exact hvx261.1) (by first | exact hvx310.1 | omega | decide | assumption | exact zr1_1 | exact zr1_0 | fail "num")) (by omega) (fun v311 w311 hp311 => ?_)
                                  obtain ⟨hpw311, r311, rfl, hr311⟩ := hp311
                                  replace hpw311 := hpw311.symm
                                  subst hpw311
                                  have kr311 := zrng r311
                                  show zP _ _ _ _ [.int r311, .int x303, .int y13_267, .ref b9158] _ _ _ _ _
                                  refine zr_callS (idx := 46) (j := 256) (by decide +kernel) (by decide +kernel) (by decide) (show zMe 256 = some zq_X16_sub from rfl) rfl rfl (Nat.le_of_ble_eq_true rfl) rfl rfl (Nat.le_of_ble_eq_true rfl) (Nat.le_of_ble_eq_true rfl) (c_X16_sub (w := wL267) x303 r311 (by first | exact hvx303.1 | omega | decide | assumption | exact zr1_1 | exact zr1_0 | fail "num") (by exact hr311.1)) (by omega) (fun v314 w314 hp314 => ?_)
                                  obtain ⟨hpw314, r314, rfl, hr314⟩ := hp314
                                  replace hpw314 := hpw314.symm
                                  subst hpw314
                                  have kr314 := zrng r314
                                  show zP _ _ _ _ [.int r314, .int y13_267, .ref b9158] _ _ _ _ _
                                  refine zr_iast (by decide +kernel) hg162 (zin (by first | omega | decide) (by first | omega | decide)) ?_
                                  show zP (d + 1) zq_X16_tries 318 [(0, .ref m), (3, .int v7), (4, .int v14), (5, .int y5_115), (6, .int y6_115), (7, .int y7_115), (9, .ref b996), (11, .int y11_245), (12, .int x261), (13, .int y13_267)] [] (zup wL267 b9158 (.inr (0, 46, .inl (upd F159 (y13_267.toNatClampNeg) r314)))) sz 0 0 Post
                                  obtain ⟨w317, ew317⟩ : ∃ wz9, wz9 = zup wL267 b9158 (.inr (0, 46, .inl (upd F159 (y13_267.toNatClampNeg) r314))) := ⟨_, rfl⟩
                                  have hsi317 : zSI wL267 w317 := by rw [ew317]; exact zSI.arr _ hg162
                                  have heq317 : ∀ x, x ≠ b9158 → w317 x = wL267 x := fun x hx => by rw [ew317]; exact zup_n hx
                                  have hc317 : w317 b9158 = some (.inr (0, 46, .inl (upd F159 (y13_267.toNatClampNeg) r314))) := by rw [ew317]; exact zup_s
                                  rw [← ew317]
                                  clear ew317
                                  have hG176 : zGr w317 (m + 212) 60 46 := hGq.st hg161 heq317 hc317 (zall_up hg163 (by exact hr314.1))
                                  have hRo177 : zRo w317 b996 46 := hRq.st heq317 hc317 (zall_up hg163 (by exact hr314.1))
                                  refine zp_seg (pc' := 321) (lv' := [(13, .int (y13_267 + 1)), (0, .ref m), (3, .int v7), (4, .int v14), (5, .int y5_115), (6, .int y6_115), (7, .int y7_115), (9, .ref b996), (11, .int y11_245), (12, .int x261)]) (st' := []) [(318, .iinc 13 1)] (by decide +kernel) rfl ?_
                                  have k178 := zaddC y13_267 1 (n := 1) (by decide) (by omega) (by omega)
                                  generalize ev321 : (y13_267 + 1 : Int32) = v321 at k178 ⊢
                                  have kv321 := zrng v321
                                  refine zp_seg (pc' := 267) (lv' := [(13, .int v321), (0, .ref m), (3, .int v7), (4, .int v14), (5, .int y5_115), (6, .int y6_115), (7, .int y7_115), (9, .ref b996), (11, .int y11_245), (12, .int x261)]) (st' := []) [(321, .goto (-54))] (by decide +kernel) rfl ?_
                                  have hz179 : (v321.toNatClampNeg : Int) = v321.toInt := znat (by first | omega | decide)
                                  have hb180 : w317 m = some (.inl (15, zMo m g r)) := (heq317 m (by omega)).trans hmL267
                                  exact (ih267 w317 v321 (hsiL267.tr hsi317) (fun x hx => ((heq317 x (by omega)).trans (heqL267 x ⟨hx.1, hx.2⟩))) (by first | assumption | omega | decide) (by first | assumption | omega | decide) hG176 hRo177 hb180 (by omega)).more (zfa1 rfl (zfa1 rfl (zfa1 rfl (zfa1 rfl (zfa1 rfl (zfa1 rfl (zfa1 rfl (zfa1 rfl (zfa1 rfl (zfa1 rfl (zfa0)))))))))))
                          have hl181 : (0 : Int32).toInt = 0 := by decide
                          have hz182 : ((0 : Int32).toNatClampNeg : Int) = 0 := by decide
                          exact (hL267 _ wL245 0 zSI.rf (fun _ _ => rfl) (by first | assumption | omega | decide) (by first | assumption | omega | decide) hGq hRq hmL245 (Nat.lt_succ_self _)).more (zfa1 rfl (zfa1 rfl (zfa1 rfl (zfa1 rfl (zfa1 rfl (zfa1 rfl (zfa1 rfl (zfa1 rfl (zfa1 rfl (zfa1 rfl (zfa0)))))))))))
                      have hl183 : (0 : Int32).toInt = 0 := by decide
                      have hz184 : ((0 : Int32).toNatClampNeg : Int) = 0 := by decide
                      exact (hL245 _ wL215 0 zSI.rf (fun _ _ => rfl) (by first | assumption | omega | decide) (by first | assumption | omega | decide) hGq hRq hmL215 (Nat.lt_succ_self _)).more (zfa1 rfl (zfa1 rfl (zfa1 rfl (zfa1 rfl (zfa1 rfl (zfa1 rfl (zfa1 rfl (zfa1 rfl (zfa0)))))))))
                    ·
                      have f185 := znleI cc218
                      refine zp_seg (pc' := 229) (lv' := [(0, .ref m), (3, .int v7), (4, .int v14), (5, .int y5_115), (6, .int y6_115), (7, .int y7_115), (9, .ref b996), (10, .int r207), (11, .int y11_215)]) (st' := [.int y11_215, .ref b996, .int y11_215, .ref b996]) [(221, .aload 9), (223, .iload 11), (225, .aload 9), (227, .iload 11)] (by decide +kernel) rfl ?_
                      obtain ⟨F186, hb187, hro188⟩ := id hRq
                      refine zr_iald (by decide +kernel) hb187 (zin (by first | omega | decide) (by first | omega | decide)) ?_
                      obtain ⟨x229, ex229⟩ : ∃ x9, x9 = F186 (y11_215.toNatClampNeg) := ⟨_, rfl⟩
                      rw [← ex229]
                      have kx229 := zrng x229
                      have hvx229 := (fun i hi => (⟨hro188 i hi, trivial⟩ : zr1 (F186 i) ∧ True)) (y11_215.toNatClampNeg) (by omega)
                      rw [← ex229] at hvx229
                      have hwx229 : 0 ≤ x229.toInt ∧ x229.toInt < 2147483647 := hvx229.1
                      refine zp_seg (pc' := 232) (lv' := [(0, .ref m), (3, .int v7), (4, .int v14), (5, .int y5_115), (6, .int y6_115), (7, .int y7_115), (9, .ref b996), (10, .int r207), (11, .int y11_215)]) (st' := [.int r207, .int x229, .int y11_215, .ref b996]) [(230, .iload 10)] (by decide +kernel) rfl ?_
                      refine zr_callS (idx := 56) (j := 257) (by decide +kernel) (by decide +kernel) (by decide) (show zMe 257 = some zq_X16_mul from rfl) rfl rfl (Nat.le_of_ble_eq_true rfl) rfl rfl (Nat.le_of_ble_eq_true rfl) (Nat.le_of_ble_eq_true rfl) (c_X16_mul (w := wL215) x229 r207 (by first | exact hvx229.1 | omega | decide | assumption | exact zr1_1 | exact zr1_0 | fail "num") (by first | exact hr207.1 | omega | decide | assumption | exact zr1_1 | exact zr1_0 | fail "num")) (by omega) (fun v232 w232 hp232 => ?_)
                      obtain ⟨hpw232, r232, rfl, hr232⟩ := hp232
                      replace hpw232 := hpw232.symm
                      subst hpw232
                      have kr232 := zrng r232
                      show zP _ _ _ _ [.int r232, .int y11_215, .ref b996] _ _ _ _ _
                      refine zr_iast (by decide +kernel) hb187 (zin (by first | omega | decide) (by first | omega | decide)) ?_
                      show zP (d + 1) zq_X16_tries 236 [(0, .ref m), (3, .int v7), (4, .int v14), (5, .int y5_115), (6, .int y6_115), (7, .int y7_115), (9, .ref b996), (10, .int r207), (11, .int y11_215)] [] (zup wL215 b996 (.inr (0, 46, .inl (upd F186 (y11_215.toNatClampNeg) r232)))) sz 0 0 Post
                      obtain ⟨w235, ew235⟩ : ∃ wz9, wz9 = zup wL215 b996 (.inr (0, 46, .inl (upd F186 (y11_215.toNatClampNeg) r232))) := ⟨_, rfl⟩
                      have hsi235 : zSI wL215 w235 := by rw [ew235]; exact zSI.arr _ hb187
                      have heq235 : ∀ x, x ≠ b996 → w235 x = wL215 x := fun x hx => by rw [ew235]; exact zup_n hx
                      have hc235 : w235 b996 = some (.inr (0, 46, .inl (upd F186 (y11_215.toNatClampNeg) r232))) := by rw [ew235]; exact zup_s
                      rw [← ew235]
                      clear ew235
                      have hG189 : zGr w235 (m + 212) 60 46 := hGq.st hg99 heq235 hc235 (zall_up hro188 (by exact hr232.1))
                      have hRo190 : zRo w235 b996 46 := hRq.st heq235 hc235 (zall_up hro188 (by exact hr232.1))
                      refine zp_seg (pc' := 239) (lv' := [(11, .int (y11_215 + 1)), (0, .ref m), (3, .int v7), (4, .int v14), (5, .int y5_115), (6, .int y6_115), (7, .int y7_115), (9, .ref b996), (10, .int r207)]) (st' := []) [(236, .iinc 11 1)] (by decide +kernel) rfl ?_
                      have k191 := zaddC y11_215 1 (n := 1) (by decide) (by omega) (by omega)
                      generalize ev239 : (y11_215 + 1 : Int32) = v239 at k191 ⊢
                      have kv239 := zrng v239
                      refine zp_seg (pc' := 215) (lv' := [(11, .int v239), (0, .ref m), (3, .int v7), (4, .int v14), (5, .int y5_115), (6, .int y6_115), (7, .int y7_115), (9, .ref b996), (10, .int r207)]) (st' := []) [(239, .goto (-24))] (by decide +kernel) rfl ?_
                      have hz192 : (v239.toNatClampNeg : Int) = v239.toInt := znat (by first | omega | decide)
                      have hb193 : w235 m = some (.inl (15, zMo m g r)) := (heq235 m (by omega)).trans hmL215
                      exact (ih215 w235 v239 (hsiL215.tr hsi235) (fun x hx => ((heq235 x (by omega)).trans (heqL215 x ⟨hx.1, hx.2⟩))) (by first | assumption | omega | decide) (by first | assumption | omega | decide) hG189 hRo190 hb193 (by omega)).more (zfa1 rfl (zfa1 rfl (zfa1 rfl (zfa1 rfl (zfa1 rfl (zfa1 rfl (zfa1 rfl (zfa1 rfl (zfa1 rfl (zfa0))))))))))
                  have hl194 : (0 : Int32).toInt = 0 := by decide
                  have hz195 : ((0 : Int32).toNatClampNeg : Int) = 0 := by decide
                  have hb196 : zRo w201 b996 46 := hRo102.ag (fun x hx1 hx2 => ((heq201 x (by omega)).trans (heq192 x (by omega))))
                  exact (hL215 _ w201 0 zSI.rf (fun _ _ => rfl) (by first | assumption | omega | decide) (by first | assumption | omega | decide) hG122 hb196 hb124 (Nat.lt_succ_self _)).more (zfa1 rfl (zfa1 rfl (zfa1 rfl (zfa1 rfl (zfa1 rfl (zfa1 rfl (zfa1 rfl (zfa1 rfl (zfa1 rfl (zfa0))))))))))
                ·
                  replace cc160 := Classical.not_not.mp cc160
                  have f197 := zeqI cc160
                  refine zp_seg (pc' := 336) (lv' := [(7, .int (y7_115 + 1)), (6, .int y7_115), (0, .ref m), (3, .int v7), (4, .int v14), (5, .int y5_115), (8, .int y8_130)]) (st' := []) [(163, .iload 7), (165, .istore 6), (167, .goto 166), (333, .iinc 7 1)] (by decide +kernel) rfl ?_
                  have k198 := zaddC y7_115 1 (n := 1) (by decide) (by omega) (by omega)
                  generalize ev336 : (y7_115 + 1 : Int32) = v336 at k198 ⊢
                  have kv336 := zrng v336
                  refine zp_seg (pc' := 115) (lv' := [(7, .int v336), (6, .int y7_115), (0, .ref m), (3, .int v7), (4, .int v14), (5, .int y5_115), (8, .int y8_130)]) (st' := []) [(336, .goto (-221))] (by decide +kernel) rfl ?_
                  have hz199 : (v336.toNatClampNeg : Int) = v336.toInt := znat (by first | omega | decide)
                  exact (ih115 wL115 y5_115 y7_115 v336 hsiL115 (fun x hx => (heqL115 x ⟨hx.1, hx.2⟩)) (by first | assumption | omega | decide) (by first | assumption | omega | decide) (by first | assumption | omega | decide) (by first | assumption | omega | decide) (by first | assumption | omega | decide) (by first | assumption | omega | decide) (by first | assumption | omega | decide) hGq hmL115 (by omega)).more (zfa1 rfl (zfa1 rfl (zfa1 rfl (zfa1 rfl (zfa1 rfl (zfa1 rfl (zfa0)))))))
              ·
                have f200 := znleI cc134
                refine zp_seg (pc' := 138) (lv' := [(0, .ref m), (3, .int v7), (4, .int v14), (5, .int y5_115), (6, .int y6_115), (7, .int y7_115), (8, .int y8_130)]) (st' := [.ref m]) [(137, .aload_n 0)] (by decide +kernel) rfl ?_
                refine zr_get (idx := 532) (k := 60) (v := .ref (m + 212)) (by decide +kernel) (by decide +kernel) hmL115 rfl ?_
                refine zp_seg (pc' := 143) (lv' := [(0, .ref m), (3, .int v7), (4, .int v14), (5, .int y5_115), (6, .int y6_115), (7, .int y7_115), (8, .int y8_130)]) (st' := [.int y8_130, .ref (m + 212)]) [(141, .iload 8)] (by decide +kernel) rfl ?_
                obtain ⟨f201, hg202, hg203⟩ := id hGq
                obtain ⟨b9204, F205, hg206, hg207, hg208, hg209⟩ := hg203 (y8_130.toNatClampNeg) (by omega)
                refine zr_aald (v := .ref b9204) (by decide +kernel) hg202 (by decide) (zin (by first | omega | decide) (by first | omega | decide)) (by rw [hg206]; rfl) ?_
                refine zp_seg (pc' := 146) (lv' := [(0, .ref m), (3, .int v7), (4, .int v14), (5, .int y5_115), (6, .int y6_115), (7, .int y7_115), (8, .int y8_130)]) (st' := [.int y7_115, .ref b9204]) [(144, .iload 7)] (by decide +kernel) rfl ?_
                refine zr_iald (by decide +kernel) hg208 (zin (by first | omega | decide) (by first | omega | decide)) ?_
                obtain ⟨x146, ex146⟩ : ∃ x9, x9 = F205 (y7_115.toNatClampNeg) := ⟨_, rfl⟩
                rw [← ex146]
                have kx146 := zrng x146
                have hvx146 := (fun i hi => (⟨hg209 i hi, trivial⟩ : zr1 (F205 i) ∧ True)) (y7_115.toNatClampNeg) (by omega)
                rw [← ex146] at hvx146
                have hwx146 : 0 ≤ x146.toInt ∧ x146.toInt < 2147483647 := hvx146.1
                refine zp_if (i := .ifCond .ne 9) (c := ¬ x146 = 0) (t := 156) (e := 150) (lv' := [(0, .ref m), (3, .int v7), (4, .int v14), (5, .int y5_115), (6, .int y6_115), (7, .int y7_115), (8, .int y8_130)]) (st' := []) (by decide +kernel) rfl (fun cc147 => ?_) (fun cc147 => ?_)
                ·
                  have f210 := zneI cc147
                  rw [show (0 : Int32).toInt = 0 from by decide] at f210
                  refine zp_seg (pc' := 160) (lv' := [(0, .ref m), (3, .int v7), (4, .int v14), (5, .int y5_115), (6, .int y6_115), (7, .int y7_115), (8, .int y8_130)]) (st' := [.int v14, .int y8_130]) [(156, .iload 8), (158, .iload 4)] (by decide +kernel) rfl ?_
                  refine zp_if (i := .if_icmp .ne 10) (c := ¬ y8_130 = v14) (t := 170) (e := 163) (lv' := [(0, .ref m), (3, .int v7), (4, .int v14), (5, .int y5_115), (6, .int y6_115), (7, .int y7_115), (8, .int y8_130)]) (st' := []) (by decide +kernel) rfl (fun cc160 => ?_) (fun cc160 => ?_)
                  ·
                    have f211 := zneI cc160
                    refine zp_seg (pc' := 171) (lv' := [(0, .ref m), (3, .int v7), (4, .int v14), (5, .int y5_115), (6, .int y6_115), (7, .int y7_115), (8, .int y8_130)]) (st' := [.ref m]) [(170, .aload_n 0)] (by decide +kernel) rfl ?_
                    refine zr_get (idx := 532) (k := 60) (v := .ref (m + 212)) (by decide +kernel) (by decide +kernel) hmL115 rfl ?_
                    refine zp_seg (pc' := 176) (lv' := [(0, .ref m), (3, .int v7), (4, .int v14), (5, .int y5_115), (6, .int y6_115), (7, .int y7_115), (8, .int y8_130)]) (st' := [.int y8_130, .ref (m + 212)]) [(174, .iload 8)] (by decide +kernel) rfl ?_
                    obtain ⟨f212, hg213, hg214⟩ := id hGq
                    obtain ⟨b9215, F216, hg217, hg218, hg219, hg220⟩ := hg214 (y8_130.toNatClampNeg) (by omega)
                    refine zr_aald (v := .ref b9215) (by decide +kernel) hg213 (by decide) (zin (by first | omega | decide) (by first | omega | decide)) (by rw [hg217]; rfl) ?_
                    have hRo221 : zRo wL115 b9215 46 := ⟨_, hg219, hg220⟩
                    refine zp_seg (pc' := 180) (lv' := [(9, .ref b9215), (0, .ref m), (3, .int v7), (4, .int v14), (5, .int y5_115), (6, .int y6_115), (7, .int y7_115), (8, .int y8_130)]) (st' := [.ref m]) [(177, .astore 9), (179, .aload_n 0)] (by decide +kernel) rfl ?_
                    refine zr_get (idx := 532) (k := 60) (v := .ref (m + 212)) (by decide +kernel) (by decide +kernel) hmL115 rfl ?_
                    refine zp_seg (pc' := 186) (lv' := [(9, .ref b9215), (0, .ref m), (3, .int v7), (4, .int v14), (5, .int y5_115), (6, .int y6_115), (7, .int y7_115), (8, .int y8_130)]) (st' := [.ref m, .int y8_130, .ref (m + 212)]) [(183, .iload 8), (185, .aload_n 0)] (by decide +kernel) rfl ?_
                    refine zr_get (idx := 532) (k := 60) (v := .ref (m + 212)) (by decide +kernel) (by decide +kernel) hmL115 rfl ?_
                    refine zp_seg (pc' := 191) (lv' := [(9, .ref b9215), (0, .ref m), (3, .int v7), (4, .int v14), (5, .int y5_115), (6, .int y6_115), (7, .int y7_115), (8, .int y8_130)]) (st' := [.int y5_115, .ref (m + 212), .int y8_130, .ref (m + 212)]) [(189, .iload 5)] (by decide +kernel) rfl ?_
                    have hz222 : (y5_115.toNatClampNeg : Int) = y5_115.toInt := znat (by first | omega | decide)
                    obtain ⟨f223, hg224, hg225⟩ := id hGq
                    obtain ⟨b9226, F227, hg228, hg229, hg230, hg231⟩ := hg225 (y5_115.toNatClampNeg) (by omega)
                    refine zr_aald (v := .ref b9226) (by decide +kernel) hg224 (by decide) (zin (by first | omega | decide) (by first | omega | decide)) (by rw [hg228]; rfl) ?_
                    obtain ⟨f232, hg233, hg234⟩ := id hGq
                    refine zr_aastA (by decide +kernel) hg233 hg230 (Or.inl ⟨rfl, rfl⟩) (zin (by first | omega | decide) (by first | omega | decide)) ?_
                    show zP (d + 1) zq_X16_tries 193 [(9, .ref b9215), (0, .ref m), (3, .int v7), (4, .int v14), (5, .int y5_115), (6, .int y6_115), (7, .int y7_115), (8, .int y8_130)] [] (zup wL115 (m + 212) (.inr (7, 60, .inr (va_up f232 (y8_130.toNatClampNeg) (some b9226))))) sz 0 0 Post
                    obtain ⟨w192, ew192⟩ : ∃ wz9, wz9 = zup wL115 (m + 212) (.inr (7, 60, .inr (va_up f232 (y8_130.toNatClampNeg) (some b9226)))) := ⟨_, rfl⟩
                    have hsi192 : zSI wL115 w192 := by rw [ew192]; exact zSI.refs _ hg233 (by decide)
                    have heq192 : ∀ x, x ≠ m + 212 → w192 x = wL115 x := fun x hx => by rw [ew192]; exact zup_n hx
                    have hc192 : w192 (m + 212) = some (.inr (7, 60, .inr (va_up f232 (y8_130.toNatClampNeg) (some b9226)))) := by rw [ew192]; exact zup_s
                    rw [← ew192]
                    clear ew192
                    have hG235 : zGr w192 (m + 212) 60 46 := zGr.sw hg234 hg233 heq192 hc192 hg229 hg230 hg231
                    refine zp_seg (pc' := 194) (lv' := [(9, .ref b9215), (0, .ref m), (3, .int v7), (4, .int v14), (5, .int y5_115), (6, .int y6_115), (7, .int y7_115), (8, .int y8_130)]) (st' := [.ref m]) [(193, .aload_n 0)] (by decide +kernel) rfl ?_
                    have hb236 : w192 m = some (.inl (15, zMo m g r)) := (heq192 m (zx_X16_triesG_6)).trans hmL115
                    refine zr_get (idx := 532) (k := 60) (v := .ref (m + 212)) (by decide +kernel) (by decide +kernel) hb236 rfl ?_
                    refine zp_seg (pc' := 201) (lv' := [(9, .ref b9215), (0, .ref m), (3, .int v7), (4, .int v14), (5, .int y5_115), (6, .int y6_115), (7, .int y7_115), (8, .int y8_130)]) (st' := [.ref b9215, .int y5_115, .ref (m + 212)]) [(197, .iload 5), (199, .aload 9)] (by decide +kernel) rfl ?_
                    have hb237 : w192 b9215 = some (.inr (0, 46, .inl F216)) := (heq192 b9215 (by omega)).trans hg219
                    obtain ⟨f238, hg239, hg240⟩ := id hG235
                    refine zr_aastA (by decide +kernel) hg239 hb237 (Or.inl ⟨rfl, rfl⟩) (zin (by first | omega | decide) (by first | omega | decide)) ?_
                    show zP (d + 1) zq_X16_tries 202 [(9, .ref b9215), (0, .ref m), (3, .int v7), (4, .int v14), (5, .int y5_115), (6, .int y6_115), (7, .int y7_115), (8, .int y8_130)] [] (zup w192 (m + 212) (.inr (7, 60, .inr (va_up f238 (y5_115.toNatClampNeg) (some b9215))))) sz 0 0 Post
                    obtain ⟨w201, ew201⟩ : ∃ wz9, wz9 = zup w192 (m + 212) (.inr (7, 60, .inr (va_up f238 (y5_115.toNatClampNeg) (some b9215)))) := ⟨_, rfl⟩
                    have hsi201 : zSI w192 w201 := by rw [ew201]; exact zSI.refs _ hg239 (by decide)
                    have heq201 : ∀ x, x ≠ m + 212 → w201 x = w192 x := fun x hx => by rw [ew201]; exact zup_n hx
                    have hc201 : w201 (m + 212) = some (.inr (7, 60, .inr (va_up f238 (y5_115.toNatClampNeg) (some b9215)))) := by rw [ew201]; exact zup_s
                    rw [← ew201]
                    clear ew201
                    have hG241 : zGr w201 (m + 212) 60 46 := zGr.sw hg240 hg239 heq201 hc201 hg218 hb237 hg220
                    refine zp_seg (pc' := 206) (lv' := [(9, .ref b9215), (0, .ref m), (3, .int v7), (4, .int v14), (5, .int y5_115), (6, .int y6_115), (7, .int y7_115), (8, .int y8_130)]) (st' := [.int y7_115, .ref b9215]) [(202, .aload 9), (204, .iload 7)] (by decide +kernel) rfl ?_
                    have hb242 : w201 b9215 = some (.inr (0, 46, .inl F216)) := (heq201 b9215 (by omega)).trans hb237
                    refine zr_iald (by decide +kernel) hb242 (zin (by first | omega | decide) (by first | omega | decide)) ?_
                    obtain ⟨x206, ex206⟩ : ∃ x9, x9 = F216 (y7_115.toNatClampNeg) := ⟨_, rfl⟩
                    rw [← ex206]
                    have kx206 := zrng x206
                    have hvx206 := (fun i hi => (⟨hg220 i hi, trivial⟩ : zr1 (F216 i) ∧ True)) (y7_115.toNatClampNeg) (by omega)
                    rw [← ex206] at hvx206
                    have hwx206 : 0 ≤ x206.toInt ∧ x206.toInt < 2147483647 := hvx206.1
                    refine zr_callS (idx := 13) (j := 259) (by decide +kernel) (by decide +kernel) (by decide) (show zMe 259 = some zq_X16_inv from rfl) rfl rfl (Nat.le_of_ble_eq_true rfl) rfl rfl (Nat.le_of_ble_eq_true rfl) (Nat.le_of_ble_eq_true rfl) (c_X16_inv (w := w201) x206 (by first | exact hvx206.1 | omega | decide | assumption | exact zr1_1 | exact zr1_0 | fail "num")) (by omega) (fun v207 w207 hp207 => ?_)
                    obtain ⟨hpw207, r207, rfl, hr207⟩ := hp207
                    replace hpw207 := hpw207.symm
                    subst hpw207
                    have kr207 := zrng r207
                    show zP _ _ _ _ [.int r207] _ _ _ _ _
                    refine zp_seg (pc' := 215) (lv' := [(11, .int 0), (10, .int r207), (9, .ref b9215), (0, .ref m), (3, .int v7), (4, .int v14), (5, .int y5_115), (6, .int y6_115), (7, .int y7_115), (8, .int y8_130)]) (st' := []) [(210, .istore 10), (212, .iconst 0), (213, .istore 11)] (by decide +kernel) rfl ?_
                    have hb243 : w201 m = some (.inl (15, zMo m g r)) := (heq201 m (zx_X16_triesG_6)).trans hb236
                    have hL215 : ∀ (mm215 : Nat) (wL215 : zM) (y11_215 : Int32), (zSI w201 wL215) → (∀ x, ((x < m + 212 ∨ m + 212 + 61 ≤ x)) ∧ x ≠ m → wL215 x = w201 x) → (0 ≤ y11_215.toInt) → (y11_215.toInt ≤ v7.toInt) → (zGr wL215 (m + 212) 60 46) → (zRo wL215 b9215 46) → (wL215 m = some (.inl (15, zMo m g r))) → (70 - y11_215.toInt).toNat < mm215 → zP (d + 1) zq_X16_tries 215 [(0, .ref m), (3, .int v7), (4, .int v14), (5, .int y5_115), (6, .int y6_115), (7, .int y7_115), (9, .ref b9215), (10, .int r207), (11, .int y11_215)] [] wL215 sz 0 0 Post := by
                      intro mm215
                      induction mm215 with
                      | zero => intros; omega
                      | succ mm215 ih215 =>
                      intro wL215 y11_215 hsiL215 heqL215 hi215_0 hi215_1 hGq hRq hmL215 hmu215
                      have ky11_215 := zrng y11_215
                      have hz244 : (y11_215.toNatClampNeg : Int) = y11_215.toInt := znat (by first | omega | decide)
                      refine zp_seg (pc' := 218) (lv' := [(0, .ref m), (3, .int v7), (4, .int v14), (5, .int y5_115), (6, .int y6_115), (7, .int y7_115), (9, .ref b9215), (10, .int r207), (11, .int y11_215)]) (st' := [.int v7, .int y11_215]) [(215, .iload 11), (217, .iload_n 3)] (by decide +kernel) rfl ?_
                      refine zp_if (i := .if_icmp .ge 24) (c := v7 ≤ y11_215) (t := 242) (e := 221) (lv' := [(0, .ref m), (3, .int v7), (4, .int v14), (5, .int y5_115), (6, .int y6_115), (7, .int y7_115), (9, .ref b9215), (10, .int r207), (11, .int y11_215)]) (st' := []) (by decide +kernel) rfl (fun cc218 => ?_) (fun cc218 => ?_)
                      ·
                        have f245 := zleI cc218
                        refine zp_seg (pc' := 245) (lv' := [(11, .int 0), (0, .ref m), (3, .int v7), (4, .int v14), (5, .int y5_115), (6, .int y6_115), (7, .int y7_115), (9, .ref b9215), (10, .int r207)]) (st' := []) [(242, .iconst 0), (243, .istore 11)] (by decide +kernel) rfl ?_
                        have hL245 : ∀ (mm245 : Nat) (wL245 : zM) (y11_245 : Int32), (zSI wL215 wL245) → (∀ x, ((x < m + 212 ∨ m + 212 + 61 ≤ x)) ∧ x ≠ m → wL245 x = wL215 x) → (0 ≤ y11_245.toInt) → (y11_245.toInt ≤ v14.toInt) → (zGr wL245 (m + 212) 60 46) → (zRo wL245 b9215 46) → (wL245 m = some (.inl (15, zMo m g r))) → (70 - y11_245.toInt).toNat < mm245 → zP (d + 1) zq_X16_tries 245 [(0, .ref m), (3, .int v7), (4, .int v14), (5, .int y5_115), (6, .int y6_115), (7, .int y7_115), (9, .ref b9215), (11, .int y11_245)] [] wL245 sz 0 0 Post := by
                          intro mm245
                          induction mm245 with
                          | zero => intros; omega
                          | succ mm245 ih245 =>
                          intro wL245 y11_245 hsiL245 heqL245 hi245_0 hi245_1 hGq hRq hmL245 hmu245
                          have ky11_245 := zrng y11_245
                          have hz246 : (y11_245.toNatClampNeg : Int) = y11_245.toInt := znat (by first | omega | decide)
                          refine zp_seg (pc' := 249) (lv' := [(0, .ref m), (3, .int v7), (4, .int v14), (5, .int y5_115), (6, .int y6_115), (7, .int y7_115), (9, .ref b9215), (11, .int y11_245)]) (st' := [.int v14, .int y11_245]) [(245, .iload 11), (247, .iload 4)] (by decide +kernel) rfl ?_
                          refine zp_if (i := .if_icmp .ge 81) (c := v14 ≤ y11_245) (t := 330) (e := 252) (lv' := [(0, .ref m), (3, .int v7), (4, .int v14), (5, .int y5_115), (6, .int y6_115), (7, .int y7_115), (9, .ref b9215), (11, .int y11_245)]) (st' := []) (by decide +kernel) rfl (fun cc249 => ?_) (fun cc249 => ?_)
                          ·
                            have f247 := zleI cc249
                            refine zp_seg (pc' := 333) (lv' := [(5, .int (y5_115 + 1)), (0, .ref m), (3, .int v7), (4, .int v14), (6, .int y6_115), (7, .int y7_115), (9, .ref b9215), (11, .int y11_245)]) (st' := []) [(330, .iinc 5 1)] (by decide +kernel) rfl ?_
                            have k248 := zaddC y5_115 1 (n := 1) (by decide) (by omega) (by omega)
                            generalize ev333 : (y5_115 + 1 : Int32) = v333 at k248 ⊢
                            have kv333 := zrng v333
                            refine zp_seg (pc' := 336) (lv' := [(7, .int (y7_115 + 1)), (5, .int v333), (0, .ref m), (3, .int v7), (4, .int v14), (6, .int y6_115), (9, .ref b9215), (11, .int y11_245)]) (st' := []) [(333, .iinc 7 1)] (by decide +kernel) rfl ?_
                            have k249 := zaddC y7_115 1 (n := 1) (by decide) (by omega) (by omega)
                            generalize ev336 : (y7_115 + 1 : Int32) = v336 at k249 ⊢
                            have kv336 := zrng v336
                            refine zp_seg (pc' := 115) (lv' := [(7, .int v336), (5, .int v333), (0, .ref m), (3, .int v7), (4, .int v14), (6, .int y6_115), (9, .ref b9215), (11, .int y11_245)]) (st' := []) [(336, .goto (-221))] (by decide +kernel) rfl ?_
                            have hz250 : (v336.toNatClampNeg : Int) = v336.toInt := znat (by first | omega | decide)
                            exact (ih115 wL245 v333 y6_115 v336 ((((hsiL115.tr hsi192).tr hsi201).tr hsiL215).tr hsiL245) (fun x hx => ((heqL245 x ⟨hx.1, hx.2⟩).trans ((heqL215 x ⟨hx.1, hx.2⟩).trans ((heq201 x (zx_X16_triesG_7 hx.1)).trans ((heq192 x (zx_X16_triesG_7 hx.1)).trans (heqL115 x ⟨hx.1, hx.2⟩)))))) (by first | assumption | omega | decide) (by first | assumption | omega | decide) (by first | assumption | omega | decide) (by first | assumption | omega | decide) (by first | assumption | omega | decide) (by first | assumption | omega | decide) (by first | assumption | omega | decide) hGq hmL245 (by omega)).more (zfa1 rfl (zfa1 rfl (zfa1 rfl (zfa1 rfl (zfa1 rfl (zfa1 rfl (zfa0)))))))
                          ·
                            have f251 := znleI cc249
                            refine zp_seg (pc' := 253) (lv' := [(0, .ref m), (3, .int v7), (4, .int v14), (5, .int y5_115), (6, .int y6_115), (7, .int y7_115), (9, .ref b9215), (11, .int y11_245)]) (st' := [.ref m]) [(252, .aload_n 0)] (by decide +kernel) rfl ?_
                            refine zr_get (idx := 532) (k := 60) (v := .ref (m + 212)) (by decide +kernel) (by decide +kernel) hmL245 rfl ?_
                            refine zp_seg (pc' := 258) (lv' := [(0, .ref m), (3, .int v7), (4, .int v14), (5, .int y5_115), (6, .int y6_115), (7, .int y7_115), (9, .ref b9215), (11, .int y11_245)]) (st' := [.int y11_245, .ref (m + 212)]) [(256, .iload 11)] (by decide +kernel) rfl ?_
                            obtain ⟨f252, hg253, hg254⟩ := id hGq
                            obtain ⟨b9255, F256, hg257, hg258, hg259, hg260⟩ := hg254 (y11_245.toNatClampNeg) (by omega)
                            refine zr_aald (v := .ref b9255) (by decide +kernel) hg253 (by decide) (zin (by first | omega | decide) (by first | omega | decide)) (by rw [hg257]; rfl) ?_
                            refine zp_seg (pc' := 261) (lv' := [(0, .ref m), (3, .int v7), (4, .int v14), (5, .int y5_115), (6, .int y6_115), (7, .int y7_115), (9, .ref b9215), (11, .int y11_245)]) (st' := [.int y7_115, .ref b9255]) [(259, .iload 7)] (by decide +kernel) rfl ?_
                            refine zr_iald (by decide +kernel) hg259 (zin (by first | omega | decide) (by first | omega | decide)) ?_
                            obtain ⟨x261, ex261⟩ : ∃ x9, x9 = F256 (y7_115.toNatClampNeg) := ⟨_, rfl⟩
                            rw [← ex261]
                            have kx261 := zrng x261
                            have hvx261 := (fun i hi => (⟨hg260 i hi, trivial⟩ : zr1 (F256 i) ∧ True)) (y7_115.toNatClampNeg) (by omega)
                            rw [← ex261] at hvx261
                            have hwx261 : 0 ≤ x261.toInt ∧ x261.toInt < 2147483647 := hvx261.1
                            refine zp_seg (pc' := 267) (lv' := [(13, .int 0), (12, .int x261), (0, .ref m), (3, .int v7), (4, .int v14), (5, .int y5_115), (6, .int y6_115), (7, .int y7_115), (9, .ref b9215), (11, .int y11_245)]) (st' := []) [(262, .istore 12), (264, .iconst 0), (265, .istore 13)] (by decide +kernel) rfl ?_
                            have hL267 : ∀ (mm267 : Nat) (wL267 : zM) (y13_267 : Int32), (zSI wL245 wL267) → (∀ x, ((x < m + 212 ∨ m + 212 + 61 ≤ x)) ∧ x ≠ m → wL267 x = wL245 x) → (0 ≤ y13_267.toInt) → (y13_267.toInt ≤ v7.toInt) → (zGr wL267 (m + 212) 60 46) → (zRo wL267 b9215 46) → (wL267 m = some (.inl (15, zMo m g r))) → (70 - y13_267.toInt).toNat < mm267 → zP (d + 1) zq_X16_tries 267 [(0, .ref m), (3, .int v7), (4, .int v14), (5, .int y5_115), (6, .int y6_115), (7, .int y7_115), (9, .ref b9215), (11, .int y11_245), (12, .int x261), (13, .int y13_267)] [] wL267 sz 0 0 Post := by
                              intro mm267
                              induction mm267 with
                              | zero => intros; omega
                              | succ mm267 ih267 =>
                              intro wL267 y13_267 hsiL267 heqL267 hi267_0 hi267_1 hGq hRq hmL267 hmu267
                              have ky13_267 := zrng y13_267
                              have hz261 : (y13_267.toNatClampNeg : Int) = y13_267.toInt := znat (by first | omega | decide)
                              refine zp_seg (pc' := 270) (lv' := [(0, .ref m), (3, .int v7), (4, .int v14), (5, .int y5_115), (6, .int y6_115), (7, .int y7_115), (9, .ref b9215), (11, .int y11_245), (12, .int x261), (13, .int y13_267)]) (st' := [.int v7, .int y13_267]) [(267, .iload 13), (269, .iload_n 3)] (by decide +kernel) rfl ?_
                              refine zp_if (i := .if_icmp .ge 54) (c := v7 ≤ y13_267) (t := 324) (e := 273) (lv' := [(0, .ref m), (3, .int v7), (4, .int v14), (5, .int y5_115), (6, .int y6_115), (7, .int y7_115), (9, .ref b9215), (11, .int y11_245), (12, .int x261), (13, .int y13_267)]) (st' := []) (by decide +kernel) rfl (fun cc270 => ?_) (fun cc270 => ?_)
                              ·
                                have f262 := zleI cc270
                                refine zp_seg (pc' := 327) (lv' := [(11, .int (y11_245 + 1)), (0, .ref m), (3, .int v7), (4, .int v14), (5, .int y5_115), (6, .int y6_115), (7, .int y7_115), (9, .ref b9215), (12, .int x261), (13, .int y13_267)]) (st' := []) [(324, .iinc 11 1)] (by decide +kernel) rfl ?_
                                have k263 := zaddC y11_245 1 (n := 1) (by decide) (by omega) (by omega)
                                generalize ev327 : (y11_245 + 1 : Int32) = v327 at k263 ⊢
                                have kv327 := zrng v327
                                refine zp_seg (pc' := 245) (lv' := [(11, .int v327), (0, .ref m), (3, .int v7), (4, .int v14), (5, .int y5_115), (6, .int y6_115), (7, .int y7_115), (9, .ref b9215), (12, .int x261), (13, .int y13_267)]) (st' := []) [(327, .goto (-82))] (by decide +kernel) rfl ?_
                                have hz264 : (v327.toNatClampNeg : Int) = v327.toInt := znat (by first | omega | decide)
                                exact (ih245 wL267 v327 (hsiL245.tr hsiL267) (fun x hx => ((heqL267 x ⟨hx.1, hx.2⟩).trans (heqL245 x ⟨hx.1, hx.2⟩))) (by first | assumption | omega | decide) (by first | assumption | omega | decide) hGq hRq hmL267 (by omega)).more (zfa1 rfl (zfa1 rfl (zfa1 rfl (zfa1 rfl (zfa1 rfl (zfa1 rfl (zfa1 rfl (zfa1 rfl (zfa0)))))))))
                              ·
                                have f265 := znleI cc270
                                refine zp_seg (pc' := 277) (lv' := [(0, .ref m), (3, .int v7), (4, .int v14), (5, .int y5_115), (6, .int y6_115), (7, .int y7_115), (9, .ref b9215), (11, .int y11_245), (12, .int x261), (13, .int y13_267)]) (st' := [.int y5_115, .int y11_245]) [(273, .iload 11), (275, .iload 5)] (by decide +kernel) rfl ?_
                                refine zp_if (i := .if_icmp .eq 47) (c := y11_245 = y5_115) (t := 324) (e := 280) (lv' := [(0, .ref m), (3, .int v7), (4, .int v14), (5, .int y5_115), (6, .int y6_115), (7, .int y7_115), (9, .ref b9215), (11, .int y11_245), (12, .int x261), (13, .int y13_267)]) (st' := []) (by decide +kernel) rfl (fun cc277 => ?_) (fun cc277 => ?_)
                                ·
                                  have f266 := zeqI cc277
                                  refine zp_seg (pc' := 327) (lv' := [(11, .int (y11_245 + 1)), (0, .ref m), (3, .int v7), (4, .int v14), (5, .int y5_115), (6, .int y6_115), (7, .int y7_115), (9, .ref b9215), (12, .int x261), (13, .int y13_267)]) (st' := []) [(324, .iinc 11 1)] (by decide +kernel) rfl ?_
                                  have k267 := zaddC y11_245 1 (n := 1) (by decide) (by omega) (by omega)
                                  generalize ev327 : (y11_245 + 1 : Int32) = v327 at k267 ⊢
                                  have kv327 := zrng v327
                                  refine zp_seg (pc' := 245) (lv' := [(11, .int v327), (0, .ref m), (3, .int v7), (4, .int v14), (5, .int y5_115), (6, .int y6_115), (7, .int y7_115), (9, .ref b9215), (12, .int x261), (13, .int y13_267)]) (st' := []) [(327, .goto (-82))] (by decide +kernel) rfl ?_
                                  have hz268 : (v327.toNatClampNeg : Int) = v327.toInt := znat (by first | omega | decide)
                                  exact (ih245 wL267 v327 (hsiL245.tr hsiL267) (fun x hx => ((heqL267 x ⟨hx.1, hx.2⟩).trans (heqL245 x ⟨hx.1, hx.2⟩))) (by first | assumption | omega | decide) (by first | assumption | omega | decide) hGq hRq hmL267 (by omega)).more (zfa1 rfl (zfa1 rfl (zfa1 rfl (zfa1 rfl (zfa1 rfl (zfa1 rfl (zfa1 rfl (zfa1 rfl (zfa0)))))))))
                                ·
                                  have f269 := zneI cc277
                                  refine zp_seg (pc' := 282) (lv' := [(0, .ref m), (3, .int v7), (4, .int v14), (5, .int y5_115), (6, .int y6_115), (7, .int y7_115), (9, .ref b9215), (11, .int y11_245), (12, .int x261), (13, .int y13_267)]) (st' := [.int x261]) [(280, .iload 12)] (by decide +kernel) rfl ?_
                                  refine zp_if (i := .ifCond .eq 42) (c := x261 = 0) (t := 324) (e := 285) (lv' := [(0, .ref m), (3, .int v7), (4, .int v14), (5, .int y5_115), (6, .int y6_115), (7, .int y7_115), (9, .ref b9215), (11, .int y11_245), (12, .int x261), (13, .int y13_267)]) (st' := []) (by decide +kernel) rfl (fun cc282 => ?_) (fun cc282 => ?_)
                                  ·
                                    have f270 := zeqI cc282
                                    rw [show (0 : Int32).toInt = 0 from by decide] at f270
                                    refine zp_seg (pc' := 327) (lv' := [(11, .int (y11_245 + 1)), (0, .ref m), (3, .int v7), (4, .int v14), (5, .int y5_115), (6, .int y6_115), (7, .int y7_115), (9, .ref b9215), (12, .int x261), (13, .int y13_267)]) (st' := []) [(324, .iinc 11 1)] (by decide +kernel) rfl ?_
                                    have k271 := zaddC y11_245 1 (n := 1) (by decide) (by omega) (by omega)
                                    generalize ev327 : (y11_245 + 1 : Int32) = v327 at k271 ⊢
                                    have kv327 := zrng v327
                                    refine zp_seg (pc' := 245) (lv' := [(11, .int v327), (0, .ref m), (3, .int v7), (4, .int v14), (5, .int y5_115), (6, .int y6_115), (7, .int y7_115), (9, .ref b9215), (12, .int x261), (13, .int y13_267)]) (st' := []) [(327, .goto (-82))] (by decide +kernel) rfl ?_
                                    have hz272 : (v327.toNatClampNeg : Int) = v327.toInt := znat (by first | omega | decide)
                                    exact (ih245 wL267 v327 (hsiL245.tr hsiL267) (fun x hx => ((heqL267 x ⟨hx.1, hx.2⟩).trans (heqL245 x ⟨hx.1, hx.2⟩))) (by first | assumption | omega | decide) (by first | assumption | omega | decide) hGq hRq hmL267 (by omega)).more (zfa1 rfl (zfa1 rfl (zfa1 rfl (zfa1 rfl (zfa1 rfl (zfa1 rfl (zfa1 rfl (zfa1 rfl (zfa0)))))))))
                                  ·
                                    have f273 := zneI cc282
                                    rw [show (0 : Int32).toInt = 0 from by decide] at f273
                                    refine zp_seg (pc' := 286) (lv' := [(0, .ref m), (3, .int v7), (4, .int v14), (5, .int y5_115), (6, .int y6_115), (7, .int y7_115), (9, .ref b9215), (11, .int y11_245), (12, .int x261), (13, .int y13_267)]) (st' := [.ref m]) [(285, .aload_n 0)] (by decide +kernel) rfl ?_
                                    refine zr_get (idx := 532) (k := 60) (v := .ref (m + 212)) (by decide +kernel) (by decide +kernel) hmL267 rfl ?_
                                    refine zp_seg (pc' := 291) (lv' := [(0, .ref m), (3, .int v7), (4, .int v14), (5, .int y5_115), (6, .int y6_115), (7, .int y7_115), (9, .ref b9215), (11, .int y11_245), (12, .int x261), (13, .int y13_267)]) (st' := [.int y11_245, .ref (m + 212)]) [(289, .iload 11)] (by decide +kernel) rfl ?_
                                    obtain ⟨f274, hg275, hg276⟩ := id hGq
                                    obtain ⟨b9277, F278, hg279, hg280, hg281, hg282⟩ := hg276 (y11_245.toNatClampNeg) (by omega)
                                    refine zr_aald (v := .ref b9277) (by decide +kernel) hg275 (by decide) (zin (by first | omega | decide) (by first | omega | decide)) (by rw [hg279]; rfl) ?_
                                    refine zp_seg (pc' := 295) (lv' := [(0, .ref m), (3, .int v7), (4, .int v14), (5, .int y5_115), (6, .int y6_115), (7, .int y7_115), (9, .ref b9215), (11, .int y11_245), (12, .int x261), (13, .int y13_267)]) (st' := [.ref m, .int y13_267, .ref b9277]) [(292, .iload 13), (294, .aload_n 0)] (by decide +kernel) rfl ?_
                                    refine zr_get (idx := 532) (k := 60) (v := .ref (m + 212)) (by decide +kernel) (by decide +kernel) hmL267 rfl ?_
                                    refine zp_seg (pc' := 300) (lv' := [(0, .ref m), (3, .int v7), (4, .int v14), (5, .int y5_115), (6, .int y6_115), (7, .int y7_115), (9, .ref b9215), (11, .int y11_245), (12, .int x261), (13, .int y13_267)]) (st' := [.int y11_245, .ref (m + 212), .int y13_267, .ref b9277]) [(298, .iload 11)] (by decide +kernel) rfl ?_
                                    obtain ⟨f283, hg284, hg285⟩ := id hGq
                                    obtain ⟨b9286, F287, hg288, hg289, hg290, hg291⟩ := hg285 (y11_245.toNatClampNeg) (by omega)
                                    refine zr_aald (v := .ref b9286) (by decide +kernel) hg284 (by decide) (zin (by first | omega | decide) (by first | omega | decide)) (by rw [hg288]; rfl) ?_
                                    refine zp_seg (pc' := 303) (lv' := [(0, .ref m), (3, .int v7), (4, .int v14), (5, .int y5_115), (6, .int y6_115), (7, .int y7_115), (9, .ref b9215), (11, .int y11_245), (12, .int x261), (13, .int y13_267)]) (st' := [.int y13_267, .ref b9286, .int y13_267, .ref b9277]) [(301, .iload 13)] (by decide +kernel) rfl ?_
                                    refine zr_iald (by decide +kernel) hg290 (zin (by first | omega | decide) (by first | omega | decide)) ?_
                                    obtain ⟨x303, ex303⟩ : ∃ x9, x9 = F287 (y13_267.toNatClampNeg) := ⟨_, rfl⟩
                                    rw [← ex303]
                                    have kx303 := zrng x303
                                    have hvx303 := (fun i hi => (⟨hg291 i hi, trivial⟩ : zr1 (F287 i) ∧ True)) (y13_267.toNatClampNeg) (by omega)
                                    rw [← ex303] at hvx303
                                    have hwx303 : 0 ≤ x303.toInt ∧ x303.toInt < 2147483647 := hvx303.1
                                    refine zp_seg (pc' := 310) (lv' := [(0, .ref m), (3, .int v7), (4, .int v14), (5, .int y5_115), (6, .int y6_115), (7, .int y7_115), (9, .ref b9215), (11, .int y11_245), (12, .int x261), (13, .int y13_267)]) (st' := [.int y13_267, .ref b9215, .int x261, .int x303, .int y13_267, .ref b9277]) [(304, .iload 12), (306, .aload 9), (308, .iload 13)] (by decide +kernel) rfl ?_
                                    obtain ⟨F292, hb293, hro294⟩ := id hRq
                                    refine zr_iald (by decide +kernel) hb293 (zin (by first | omega | decide) (by first | omega | decide)) ?_
                                    obtain ⟨x310, ex310⟩ : ∃ x9, x9 = F292 (y13_267.toNatClampNeg) := ⟨_, rfl⟩
                                    rw [← ex310]
                                    have kx310 := zrng x310
                                    have hvx310 := (fun i hi => (⟨hro294 i hi, trivial⟩ : zr1 (F292 i) ∧ True)) (y13_267.toNatClampNeg) (by omega)
                                    rw [← ex310] at hvx310
                                    have hwx310 : 0 ≤ x310.toInt ∧ x310.toInt < 2147483647 := hvx310.1
                                    refine zr_callS (idx := 56) (j := 257) (by decide +kernel) (by decide +kernel) (by decide) (show zMe 257 = some zq_X16_mul from rfl) rfl rfl (Nat.le_of_ble_eq_true rfl) rfl rfl (Nat.le_of_ble_eq_true rfl) (Nat.le_of_ble_eq_true rfl) (c_X16_mul (w := wL267) x261 x310 (by exact hvx261.1) (by first | exact hvx310.1 | omega | decide | assumption | exact zr1_1 | exact zr1_0 | fail "num")) (by omega) (fun v311 w311 hp311 => ?_)
                                    obtain ⟨hpw311, r311, rfl, hr311⟩ := hp311
                                    replace hpw311 := hpw311.symm
                                    subst hpw311
                                    have kr311 := zrng r311
                                    show zP _ _ _ _ [.int r311, .int x303, .int y13_267, .ref b9277] _ _ _ _ _
                                    refine zr_callS (idx := 46) (j := 256) (by decide +kernel) (by decide +kernel) (by decide) (show zMe 256 = some zq_X16_sub from rfl) rfl rfl (Nat.le_of_ble_eq_true rfl) rfl rfl (Nat.le_of_ble_eq_true rfl) (Nat.le_of_ble_eq_true rfl) (c_X16_sub (w := wL267) x303 r311 (by first | exact hvx303.1 | omega | decide | assumption | exact zr1_1 | exact zr1_0 | fail "num") (by exact hr311.1)) (by omega) (fun v314 w314 hp314 => ?_)
                                    obtain ⟨hpw314, r314, rfl, hr314⟩ := hp314
                                    replace hpw314 := hpw314.symm
                                    subst hpw314
                                    have kr314 := zrng r314
                                    show zP _ _ _ _ [.int r314, .int y13_267, .ref b9277] _ _ _ _ _
                                    refine zr_iast (by decide +kernel) hg281 (zin (by first | omega | decide) (by first | omega | decide)) ?_
                                    show zP (d + 1) zq_X16_tries 318 [(0, .ref m), (3, .int v7), (4, .int v14), (5, .int y5_115), (6, .int y6_115), (7, .int y7_115), (9, .ref b9215), (11, .int y11_245), (12, .int x261), (13, .int y13_267)] [] (zup wL267 b9277 (.inr (0, 46, .inl (upd F278 (y13_267.toNatClampNeg) r314)))) sz 0 0 Post
                                    obtain ⟨w317, ew317⟩ : ∃ wz9, wz9 = zup wL267 b9277 (.inr (0, 46, .inl (upd F278 (y13_267.toNatClampNeg) r314))) := ⟨_, rfl⟩
                                    have hsi317 : zSI wL267 w317 := by rw [ew317]; exact zSI.arr _ hg281
                                    have heq317 : ∀ x, x ≠ b9277 → w317 x = wL267 x := fun x hx => by rw [ew317]; exact zup_n hx
                                    have hc317 : w317 b9277 = some (.inr (0, 46, .inl (upd F278 (y13_267.toNatClampNeg) r314))) := by rw [ew317]; exact zup_s
                                    rw [← ew317]
                                    clear ew317
                                    have hG295 : zGr w317 (m + 212) 60 46 := hGq.st hg280 heq317 hc317 (zall_up hg282 (by exact hr314.1))
                                    have hRo296 : zRo w317 b9215 46 := hRq.st heq317 hc317 (zall_up hg282 (by exact hr314.1))
                                    refine zp_seg (pc' := 321) (lv' := [(13, .int (y13_267 + 1)), (0, .ref m), (3, .int v7), (4, .int v14), (5, .int y5_115), (6, .int y6_115), (7, .int y7_115), (9, .ref b9215), (11, .int y11_245), (12, .int x261)]) (st' := []) [(318, .iinc 13 1)] (by decide +kernel) rfl ?_
                                    have k297 := zaddC y13_267 1 (n := 1) (by decide) (by omega) (by omega)
                                    generalize ev321 : (y13_267 + 1 : Int32) = v321 at k297 ⊢
                                    have kv321 := zrng v321
                                    refine zp_seg (pc' := 267) (lv' := [(13, .int v321), (0, .ref m), (3, .int v7), (4, .int v14), (5, .int y5_115), (6, .int y6_115), (7, .int y7_115), (9, .ref b9215), (11, .int y11_245), (12, .int x261)]) (st' := []) [(321, .goto (-54))] (by decide +kernel) rfl ?_
                                    have hz298 : (v321.toNatClampNeg : Int) = v321.toInt := znat (by first | omega | decide)
                                    have hb299 : w317 m = some (.inl (15, zMo m g r)) := (heq317 m (by omega)).trans hmL267
                                    exact (ih267 w317 v321 (hsiL267.tr hsi317) (fun x hx => ((heq317 x (by omega)).trans (heqL267 x ⟨hx.1, hx.2⟩))) (by first | assumption | omega | decide) (by first | assumption | omega | decide) hG295 hRo296 hb299 (by omega)).more (zfa1 rfl (zfa1 rfl (zfa1 rfl (zfa1 rfl (zfa1 rfl (zfa1 rfl (zfa1 rfl (zfa1 rfl (zfa1 rfl (zfa1 rfl (zfa0)))))))))))
                            have hl300 : (0 : Int32).toInt = 0 := by decide
                            have hz301 : ((0 : Int32).toNatClampNeg : Int) = 0 := by decide
                            exact (hL267 _ wL245 0 zSI.rf (fun _ _ => rfl) (by first | assumption | omega | decide) (by first | assumption | omega | decide) hGq hRq hmL245 (Nat.lt_succ_self _)).more (zfa1 rfl (zfa1 rfl (zfa1 rfl (zfa1 rfl (zfa1 rfl (zfa1 rfl (zfa1 rfl (zfa1 rfl (zfa1 rfl (zfa1 rfl (zfa0)))))))))))
                        have hl302 : (0 : Int32).toInt = 0 := by decide
                        have hz303 : ((0 : Int32).toNatClampNeg : Int) = 0 := by decide
                        exact (hL245 _ wL215 0 zSI.rf (fun _ _ => rfl) (by first | assumption | omega | decide) (by first | assumption | omega | decide) hGq hRq hmL215 (Nat.lt_succ_self _)).more (zfa1 rfl (zfa1 rfl (zfa1 rfl (zfa1 rfl (zfa1 rfl (zfa1 rfl (zfa1 rfl (zfa1 rfl (zfa0)))))))))
                      ·
                        have f304 := znleI cc218
                        refine zp_seg (pc' := 229) (lv' := [(0, .ref m), (3, .int v7), (4, .int v14), (5, .int y5_115), (6, .int y6_115), (7, .int y7_115), (9, .ref b9215), (10, .int r207), (11, .int y11_215)]) (st' := [.int y11_215, .ref b9215, .int y11_215, .ref b9215]) [(221, .aload 9), (223, .iload 11), (225, .aload 9), (227, .iload 11)] (by decide +kernel) rfl ?_
                        obtain ⟨F305, hb306, hro307⟩ := id hRq
                        refine zr_iald (by decide +kernel) hb306 (zin (by first | omega | decide) (by first | omega | decide)) ?_
                        obtain ⟨x229, ex229⟩ : ∃ x9, x9 = F305 (y11_215.toNatClampNeg) := ⟨_, rfl⟩
                        rw [← ex229]
                        have kx229 := zrng x229
                        have hvx229 := (fun i hi => (⟨hro307 i hi, trivial⟩ : zr1 (F305 i) ∧ True)) (y11_215.toNatClampNeg) (by omega)
                        rw [← ex229] at hvx229
                        have hwx229 : 0 ≤ x229.toInt ∧ x229.toInt < 2147483647 := hvx229.1
                        refine zp_seg (pc' := 232) (lv' := [(0, .ref m), (3, .int v7), (4, .int v14), (5, .int y5_115), (6, .int y6_115), (7, .int y7_115), (9, .ref b9215), (10, .int r207), (11, .int y11_215)]) (st' := [.int r207, .int x229, .int y11_215, .ref b9215]) [(230, .iload 10)] (by decide +kernel) rfl ?_
                        refine zr_callS (idx := 56) (j := 257) (by decide +kernel) (by decide +kernel) (by decide) (show zMe 257 = some zq_X16_mul from rfl) rfl rfl (Nat.le_of_ble_eq_true rfl) rfl rfl (Nat.le_of_ble_eq_true rfl) (Nat.le_of_ble_eq_true rfl) (c_X16_mul (w := wL215) x229 r207 (by first | exact hvx229.1 | omega | decide | assumption | exact zr1_1 | exact zr1_0 | fail "num") (by first | exact hr207.1 | omega | decide | assumption | exact zr1_1 | exact zr1_0 | fail "num")) (by omega) (fun v232 w232 hp232 => ?_)
                        obtain ⟨hpw232, r232, rfl, hr232⟩ := hp232
                        replace hpw232 := hpw232.symm
                        subst hpw232
                        have kr232 := zrng r232
                        show zP _ _ _ _ [.int r232, .int y11_215, .ref b9215] _ _ _ _ _
                        refine zr_iast (by decide +kernel) hb306 (zin (by first | omega | decide) (by first | omega | decide)) ?_
                        show zP (d + 1) zq_X16_tries 236 [(0, .ref m), (3, .int v7), (4, .int v14), (5, .int y5_115), (6, .int y6_115), (7, .int y7_115), (9, .ref b9215), (10, .int r207), (11, .int y11_215)] [] (zup wL215 b9215 (.inr (0, 46, .inl (upd F305 (y11_215.toNatClampNeg) r232)))) sz 0 0 Post
                        obtain ⟨w235, ew235⟩ : ∃ wz9, wz9 = zup wL215 b9215 (.inr (0, 46, .inl (upd F305 (y11_215.toNatClampNeg) r232))) := ⟨_, rfl⟩
                        have hsi235 : zSI wL215 w235 := by rw [ew235]; exact zSI.arr _ hb306
                        have heq235 : ∀ x, x ≠ b9215 → w235 x = wL215 x := fun x hx => by rw [ew235]; exact zup_n hx
                        have hc235 : w235 b9215 = some (.inr (0, 46, .inl (upd F305 (y11_215.toNatClampNeg) r232))) := by rw [ew235]; exact zup_s
                        rw [← ew235]
                        clear ew235
                        have hG308 : zGr w235 (m + 212) 60 46 := hGq.st hg218 heq235 hc235 (zall_up hro307 (by exact hr232.1))
                        have hRo309 : zRo w235 b9215 46 := hRq.st heq235 hc235 (zall_up hro307 (by exact hr232.1))
                        refine zp_seg (pc' := 239) (lv' := [(11, .int (y11_215 + 1)), (0, .ref m), (3, .int v7), (4, .int v14), (5, .int y5_115), (6, .int y6_115), (7, .int y7_115), (9, .ref b9215), (10, .int r207)]) (st' := []) [(236, .iinc 11 1)] (by decide +kernel) rfl ?_
                        have k310 := zaddC y11_215 1 (n := 1) (by decide) (by omega) (by omega)
                        generalize ev239 : (y11_215 + 1 : Int32) = v239 at k310 ⊢
                        have kv239 := zrng v239
                        refine zp_seg (pc' := 215) (lv' := [(11, .int v239), (0, .ref m), (3, .int v7), (4, .int v14), (5, .int y5_115), (6, .int y6_115), (7, .int y7_115), (9, .ref b9215), (10, .int r207)]) (st' := []) [(239, .goto (-24))] (by decide +kernel) rfl ?_
                        have hz311 : (v239.toNatClampNeg : Int) = v239.toInt := znat (by first | omega | decide)
                        have hb312 : w235 m = some (.inl (15, zMo m g r)) := (heq235 m (by omega)).trans hmL215
                        exact (ih215 w235 v239 (hsiL215.tr hsi235) (fun x hx => ((heq235 x (by omega)).trans (heqL215 x ⟨hx.1, hx.2⟩))) (by first | assumption | omega | decide) (by first | assumption | omega | decide) hG308 hRo309 hb312 (by omega)).more (zfa1 rfl (zfa1 rfl (zfa1 rfl (zfa1 rfl (zfa1 rfl (zfa1 rfl (zfa1 rfl (zfa1 rfl (zfa1 rfl (zfa0))))))))))
                    have hl313 : (0 : Int32).toInt = 0 := by decide
                    have hz314 : ((0 : Int32).toNatClampNeg : Int) = 0 := by decide
                    have hb315 : zRo w201 b9215 46 := hRo221.ag (fun x hx1 hx2 => ((heq201 x (by omega)).trans (heq192 x (by omega))))
                    exact (hL215 _ w201 0 zSI.rf (fun _ _ => rfl) (by first | assumption | omega | decide) (by first | assumption | omega | decide) hG241 hb315 hb243 (Nat.lt_succ_self _)).more (zfa1 rfl (zfa1 rfl (zfa1 rfl (zfa1 rfl (zfa1 rfl (zfa1 rfl (zfa1 rfl (zfa1 rfl (zfa1 rfl (zfa0))))))))))
                  ·
                    replace cc160 := Classical.not_not.mp cc160
                    have f316 := zeqI cc160
                    refine zp_seg (pc' := 336) (lv' := [(7, .int (y7_115 + 1)), (6, .int y7_115), (0, .ref m), (3, .int v7), (4, .int v14), (5, .int y5_115), (8, .int y8_130)]) (st' := []) [(163, .iload 7), (165, .istore 6), (167, .goto 166), (333, .iinc 7 1)] (by decide +kernel) rfl ?_
                    have k317 := zaddC y7_115 1 (n := 1) (by decide) (by omega) (by omega)
                    generalize ev336 : (y7_115 + 1 : Int32) = v336 at k317 ⊢
                    have kv336 := zrng v336
                    refine zp_seg (pc' := 115) (lv' := [(7, .int v336), (6, .int y7_115), (0, .ref m), (3, .int v7), (4, .int v14), (5, .int y5_115), (8, .int y8_130)]) (st' := []) [(336, .goto (-221))] (by decide +kernel) rfl ?_
                    have hz318 : (v336.toNatClampNeg : Int) = v336.toInt := znat (by first | omega | decide)
                    exact (ih115 wL115 y5_115 y7_115 v336 hsiL115 (fun x hx => (heqL115 x ⟨hx.1, hx.2⟩)) (by first | assumption | omega | decide) (by first | assumption | omega | decide) (by first | assumption | omega | decide) (by first | assumption | omega | decide) (by first | assumption | omega | decide) (by first | assumption | omega | decide) (by first | assumption | omega | decide) hGq hmL115 (by omega)).more (zfa1 rfl (zfa1 rfl (zfa1 rfl (zfa1 rfl (zfa1 rfl (zfa1 rfl (zfa0)))))))
                ·
                  replace cc147 := Classical.not_not.mp cc147
                  have f319 := zeqI cc147
                  rw [show (0 : Int32).toInt = 0 from by decide] at f319
                  refine zp_seg (pc' := 153) (lv' := [(8, .int (y8_130 + 1)), (0, .ref m), (3, .int v7), (4, .int v14), (5, .int y5_115), (6, .int y6_115), (7, .int y7_115)]) (st' := []) [(150, .iinc 8 1)] (by decide +kernel) rfl ?_
                  have k320 := zaddC y8_130 1 (n := 1) (by decide) (by omega) (by omega)
                  generalize ev153 : (y8_130 + 1 : Int32) = v153 at k320 ⊢
                  have kv153 := zrng v153
                  refine zp_seg (pc' := 130) (lv' := [(8, .int v153), (0, .ref m), (3, .int v7), (4, .int v14), (5, .int y5_115), (6, .int y6_115), (7, .int y7_115)]) (st' := []) [(153, .goto (-23))] (by decide +kernel) rfl ?_
                  have hz321 : (v153.toNatClampNeg : Int) = v153.toInt := znat (by first | omega | decide)
                  exact (ih130 v153 (by first | assumption | omega | decide) (by first | assumption | omega | decide) (by omega)).more (zfa1 rfl (zfa1 rfl (zfa1 rfl (zfa1 rfl (zfa1 rfl (zfa1 rfl (zfa1 rfl (zfa0))))))))
            have hz322 : (y5_115.toNatClampNeg : Int) = y5_115.toInt := znat (by first | omega | decide)
            exact (hL130 _ y5_115 (by first | assumption | omega | decide) (by first | assumption | omega | decide) (Nat.lt_succ_self _)).more (zfa1 rfl (zfa1 rfl (zfa1 rfl (zfa1 rfl (zfa1 rfl (zfa1 rfl (zfa1 rfl (zfa0))))))))
      have hl323 : (0 : Int32).toInt = 0 := by decide
      have hz325 : ((0 : Int32).toNatClampNeg : Int) = 0 := by decide
      exact (hL115 _ wL19 0 (Int32.ofInt (-1)) 0 zSI.rf (fun _ _ => rfl) (by first | assumption | omega | decide) (by first | assumption | omega | decide) (by first | assumption | omega | decide) (by first | assumption | omega | decide) (by first | assumption | omega | decide) (by first | assumption | omega | decide) (by first | assumption | omega | decide) hGq hmL19 (Nat.lt_succ_self _)).more (zfa1 rfl (zfa1 rfl (zfa1 rfl (zfa1 rfl (zfa1 rfl (zfa1 rfl (zfa0)))))))
    ·
      have f326 := znleI cc23
      refine zp_seg (pc' := 29) (lv' := [(6, .int 0), (0, .ref m), (1, .int o9), (2, .int d9), (3, .int v7), (4, .int v14), (5, .int y5_19)]) (st' := []) [(26, .iconst 0), (27, .istore 6)] (by decide +kernel) rfl ?_
      have hL29 : ∀ (mm29 : Nat) (wL29 : zM) (y6_29 : Int32), (zSI wL19 wL29) → (∀ x, ((x < m + 212 ∨ m + 212 + 61 ≤ x)) ∧ x ≠ m → wL29 x = wL19 x) → (0 ≤ y6_29.toInt) → (y6_29.toInt ≤ o9.toInt + 1) → (zGr wL29 (m + 212) 60 46) → (wL29 m = some (.inl (15, zMo m g r))) → (70 - y6_29.toInt).toNat < mm29 → zP (d + 1) zq_X16_tries 29 [(0, .ref m), (1, .int o9), (2, .int d9), (3, .int v7), (4, .int v14), (5, .int y5_19), (6, .int y6_29)] [] wL29 sz 0 0 Post := by
        intro mm29
        induction mm29 with
        | zero => intros; omega
        | succ mm29 ih29 =>
        intro wL29 y6_29 hsiL29 heqL29 hi29_0 hi29_1 hGq hmL29 hmu29
        have ky6_29 := zrng y6_29
        have hz327 : (y6_29.toNatClampNeg : Int) = y6_29.toInt := znat (by first | omega | decide)
        refine zp_seg (pc' := 32) (lv' := [(0, .ref m), (1, .int o9), (2, .int d9), (3, .int v7), (4, .int v14), (5, .int y5_19), (6, .int y6_29)]) (st' := [.int o9, .int y6_29]) [(29, .iload 6), (31, .iload_n 1)] (by decide +kernel) rfl ?_
        refine zp_if (i := .if_icmp .gt 68) (c := o9 < y6_29) (t := 100) (e := 35) (lv' := [(0, .ref m), (1, .int o9), (2, .int d9), (3, .int v7), (4, .int v14), (5, .int y5_19), (6, .int y6_29)]) (st' := []) (by decide +kernel) rfl (fun cc32 => ?_) (fun cc32 => ?_)
        ·
          have f328 := zltI cc32
          refine zp_seg (pc' := 103) (lv' := [(5, .int (y5_19 + 1)), (0, .ref m), (1, .int o9), (2, .int d9), (3, .int v7), (4, .int v14), (6, .int y6_29)]) (st' := []) [(100, .iinc 5 1)] (by decide +kernel) rfl ?_
          have k329 := zaddC y5_19 1 (n := 1) (by decide) (by omega) (by omega)
          generalize ev103 : (y5_19 + 1 : Int32) = v103 at k329 ⊢
          have kv103 := zrng v103
          refine zp_seg (pc' := 19) (lv' := [(5, .int v103), (0, .ref m), (1, .int o9), (2, .int d9), (3, .int v7), (4, .int v14), (6, .int y6_29)]) (st' := []) [(103, .goto (-84))] (by decide +kernel) rfl ?_
          have hz330 : (v103.toNatClampNeg : Int) = v103.toInt := znat (by first | omega | decide)
          exact (ih19 wL29 v103 (hsiL19.tr hsiL29) (fun x hx => ((heqL29 x ⟨hx.1, hx.2⟩).trans (heqL19 x ⟨hx.1, hx.2⟩))) (by first | assumption | omega | decide) (by first | assumption | omega | decide) hGq hmL29 (by omega)).more (zfa1 rfl (zfa1 rfl (zfa1 rfl (zfa1 rfl (zfa1 rfl (zfa1 rfl (zfa0)))))))
        ·
          have f331 := znltI cc32
          refine zp_seg (pc' := 41) (lv' := [(8, .int 0), (7, .int 1), (0, .ref m), (1, .int o9), (2, .int d9), (3, .int v7), (4, .int v14), (5, .int y5_19), (6, .int y6_29)]) (st' := []) [(35, .iconst 1), (36, .istore 7), (38, .iconst 0), (39, .istore 8)] (by decide +kernel) rfl ?_
          have hL41 : ∀ (mm41 : Nat) (wL41 : zM) (y7_41 : Int32) (y8_41 : Int32), (zSI wL29 wL41) → (∀ x, ((x < m + 212 ∨ m + 212 + 61 ≤ x)) ∧ x ≠ m → wL41 x = wL29 x) → (0 ≤ y8_41.toInt) → (y8_41.toInt ≤ d9.toInt + 1) → (zGr wL41 (m + 212) 60 46) → (wL41 m = some (.inl (15, zMo m g r))) → (zr1 y7_41) → (70 - y8_41.toInt).toNat < mm41 → zP (d + 1) zq_X16_tries 41 [(0, .ref m), (1, .int o9), (2, .int d9), (3, .int v7), (4, .int v14), (5, .int y5_19), (6, .int y6_29), (7, .int y7_41), (8, .int y8_41)] [] wL41 sz 0 0 Post := by
            intro mm41
            induction mm41 with
            | zero => intros; omega
            | succ mm41 ih41 =>
            intro wL41 y7_41 y8_41 hsiL41 heqL41 hi41_0 hi41_1 hGq hmL41 hp7 hmu41
            have ky7_41 := zrng y7_41
            have ky8_41 := zrng y8_41
            have hz332 : (y8_41.toNatClampNeg : Int) = y8_41.toInt := znat (by first | omega | decide)
            refine zp_seg (pc' := 44) (lv' := [(0, .ref m), (1, .int o9), (2, .int d9), (3, .int v7), (4, .int v14), (5, .int y5_19), (6, .int y6_29), (7, .int y7_41), (8, .int y8_41)]) (st' := [.int d9, .int y8_41]) [(41, .iload 8), (43, .iload_n 2)] (by decide +kernel) rfl ?_
            refine zp_if (i := .if_icmp .gt 50) (c := d9 < y8_41) (t := 94) (e := 47) (lv' := [(0, .ref m), (1, .int o9), (2, .int d9), (3, .int v7), (4, .int v14), (5, .int y5_19), (6, .int y6_29), (7, .int y7_41), (8, .int y8_41)]) (st' := []) (by decide +kernel) rfl (fun cc44 => ?_) (fun cc44 => ?_)
            ·
              have f333 := zltI cc44
              refine zp_seg (pc' := 97) (lv' := [(6, .int (y6_29 + 1)), (0, .ref m), (1, .int o9), (2, .int d9), (3, .int v7), (4, .int v14), (5, .int y5_19), (7, .int y7_41), (8, .int y8_41)]) (st' := []) [(94, .iinc 6 1)] (by decide +kernel) rfl ?_
              have k334 := zaddC y6_29 1 (n := 1) (by decide) (by omega) (by omega)
              generalize ev97 : (y6_29 + 1 : Int32) = v97 at k334 ⊢
              have kv97 := zrng v97
              refine zp_seg (pc' := 29) (lv' := [(6, .int v97), (0, .ref m), (1, .int o9), (2, .int d9), (3, .int v7), (4, .int v14), (5, .int y5_19), (7, .int y7_41), (8, .int y8_41)]) (st' := []) [(97, .goto (-68))] (by decide +kernel) rfl ?_
              have hz335 : (v97.toNatClampNeg : Int) = v97.toInt := znat (by first | omega | decide)
              exact (ih29 wL41 v97 (hsiL29.tr hsiL41) (fun x hx => ((heqL41 x ⟨hx.1, hx.2⟩).trans (heqL29 x ⟨hx.1, hx.2⟩))) (by first | assumption | omega | decide) (by first | assumption | omega | decide) hGq hmL41 (by omega)).more (zfa1 rfl (zfa1 rfl (zfa1 rfl (zfa1 rfl (zfa1 rfl (zfa1 rfl (zfa1 rfl (zfa0))))))))
            ·
              have f336 := znltI cc44
              refine zp_seg (pc' := 48) (lv' := [(0, .ref m), (1, .int o9), (2, .int d9), (3, .int v7), (4, .int v14), (5, .int y5_19), (6, .int y6_29), (7, .int y7_41), (8, .int y8_41)]) (st' := [.ref m]) [(47, .aload_n 0)] (by decide +kernel) rfl ?_
              refine zr_get (idx := 532) (k := 60) (v := .ref (m + 212)) (by decide +kernel) (by decide +kernel) hmL41 rfl ?_
              refine zp_seg (pc' := 53) (lv' := [(0, .ref m), (1, .int o9), (2, .int d9), (3, .int v7), (4, .int v14), (5, .int y5_19), (6, .int y6_29), (7, .int y7_41), (8, .int y8_41)]) (st' := [.int y5_19, .ref (m + 212)]) [(51, .iload 5)] (by decide +kernel) rfl ?_
              obtain ⟨f337, hg338, hg339⟩ := id hGq
              obtain ⟨b9340, F341, hg342, hg343, hg344, hg345⟩ := hg339 (y5_19.toNatClampNeg) (by omega)
              refine zr_aald (v := .ref b9340) (by decide +kernel) hg338 (by decide) (zin (by first | omega | decide) (by first | omega | decide)) (by rw [hg342]; rfl) ?_
              refine zp_seg (pc' := 59) (lv' := [(0, .ref m), (1, .int o9), (2, .int d9), (3, .int v7), (4, .int v14), (5, .int y5_19), (6, .int y6_29), (7, .int y7_41), (8, .int y8_41)]) (st' := [.int (d9 + 1), .int y6_29, .ref b9340]) [(54, .iload 6), (56, .iload_n 2), (57, .iconst 1), (58, .iadd)] (by decide +kernel) rfl ?_
              have k346 := zaddC d9 1 (n := 1) (by decide) (by omega) (by omega)
              generalize ev59 : (d9 + 1 : Int32) = v59 at k346 ⊢
              have kv59 := zrng v59
              refine zp_seg (pc' := 60) (lv' := [(0, .ref m), (1, .int o9), (2, .int d9), (3, .int v7), (4, .int v14), (5, .int y5_19), (6, .int y6_29), (7, .int y7_41), (8, .int y8_41)]) (st' := [.int (y6_29 * v59), .ref b9340]) [(59, .imul)] (by decide +kernel) rfl ?_
              have k347 := zmulM y6_29 v59
              generalize ev60 : (y6_29 * v59 : Int32) = v60 at k347 ⊢
              have kv60 := zrng v60
              have hpr8 : y6_29.toInt * v59.toInt = y6_29.toInt * (d9.toInt + 1) := by rw [show v59.toInt = d9.toInt + 1 by omega]
              have hix9 := zmul_idx (j := y6_29.toInt) (d := d9.toInt) (i := y8_41.toInt) (r := o9.toInt) (c := v7.toInt) ⟨by omega, by omega⟩ ⟨by omega, by omega⟩ (by omega) hc39
              refine zp_seg (pc' := 63) (lv' := [(0, .ref m), (1, .int o9), (2, .int d9), (3, .int v7), (4, .int v14), (5, .int y5_19), (6, .int y6_29), (7, .int y7_41), (8, .int y8_41)]) (st' := [.int (v60 + y8_41), .ref b9340]) [(60, .iload 8), (62, .iadd)] (by decide +kernel) rfl ?_
              have k348 := zadd v60 y8_41 (by omega) (by omega)
              generalize ev63 : (v60 + y8_41 : Int32) = v63 at k348 ⊢
              have kv63 := zrng v63
              refine zp_seg (pc' := 66) (lv' := [(0, .ref m), (1, .int o9), (2, .int d9), (3, .int v7), (4, .int v14), (5, .int y5_19), (6, .int y6_29), (7, .int y7_41), (8, .int y8_41)]) (st' := [.ref m, .int y7_41, .int v63, .ref b9340]) [(63, .iload 7), (65, .aload_n 0)] (by decide +kernel) rfl ?_
              refine zr_get (idx := 465) (k := 28) (v := .ref (m + 94)) (by decide +kernel) (by decide +kernel) hmL41 rfl ?_
              refine zp_seg (pc' := 74) (lv' := [(0, .ref m), (1, .int o9), (2, .int d9), (3, .int v7), (4, .int v14), (5, .int y5_19), (6, .int y6_29), (7, .int y7_41), (8, .int y8_41)]) (st' := [.int (y5_19 + y6_29), .ref (m + 94), .int y7_41, .int v63, .ref b9340]) [(69, .iload 5), (71, .iload 6), (73, .iadd)] (by decide +kernel) rfl ?_
              have k349 := zadd y5_19 y6_29 (by omega) (by omega)
              generalize ev74 : (y5_19 + y6_29 : Int32) = v74 at k349 ⊢
              have kv74 := zrng v74
              have hb350 : wL41 (m + 94) = some (.inr (0, 60, .inl ff)) := ((heqL41 (m + 94) ⟨(zx_X16_triesG_8), (zx_X16_triesG_9)⟩).trans ((heqL29 (m + 94) ⟨(zx_X16_triesG_8), (zx_X16_triesG_9)⟩).trans (heqL19 (m + 94) ⟨(zx_X16_triesG_8), (zx_X16_triesG_9)⟩))).trans hA_m_94
              refine zr_iald (by decide +kernel) hb350 (zin (by first | omega | decide) (by first | omega | decide)) ?_
              have hz351 : (v74.toNatClampNeg : Int) = v74.toInt := znat (by first | omega | decide)
              obtain ⟨x74, ex74⟩ : ∃ x9, x9 = ff (v74.toNatClampNeg) := ⟨_, rfl⟩
              rw [← ex74]
              have kx74 := zrng x74
              refine zr_callS (idx := 56) (j := 257) (by decide +kernel) (by decide +kernel) (by decide) (show zMe 257 = some zq_X16_mul from rfl) rfl rfl (Nat.le_of_ble_eq_true rfl) rfl rfl (Nat.le_of_ble_eq_true rfl) (Nat.le_of_ble_eq_true rfl) (c_X16_mul (w := wL41) y7_41 x74 (by exact hp7) (by rw [ex74]; exact hff _ (by omega))) (by omega) (fun v75 w75 hp75 => ?_)
              obtain ⟨hpw75, r75, rfl, hr75⟩ := hp75
              replace hpw75 := hpw75.symm
              subst hpw75
              have kr75 := zrng r75
              show zP _ _ _ _ [.int r75, .int v63, .ref b9340] _ _ _ _ _
              have hz352 : (v63.toNatClampNeg : Int) = v63.toInt := znat (by first | omega | decide)
              refine zr_iast (by decide +kernel) hg344 (zin (by first | omega | decide) (by first | omega | decide)) ?_
              show zP (d + 1) zq_X16_tries 79 [(0, .ref m), (1, .int o9), (2, .int d9), (3, .int v7), (4, .int v14), (5, .int y5_19), (6, .int y6_29), (7, .int y7_41), (8, .int y8_41)] [] (zup wL41 b9340 (.inr (0, 46, .inl (upd F341 (v63.toNatClampNeg) r75)))) sz 0 0 Post
              obtain ⟨w78, ew78⟩ : ∃ wz9, wz9 = zup wL41 b9340 (.inr (0, 46, .inl (upd F341 (v63.toNatClampNeg) r75))) := ⟨_, rfl⟩
              have hsi78 : zSI wL41 w78 := by rw [ew78]; exact zSI.arr _ hg344
              have heq78 : ∀ x, x ≠ b9340 → w78 x = wL41 x := fun x hx => by rw [ew78]; exact zup_n hx
              have hc78 : w78 b9340 = some (.inr (0, 46, .inl (upd F341 (v63.toNatClampNeg) r75))) := by rw [ew78]; exact zup_s
              rw [← ew78]
              clear ew78
              have hG353 : zGr w78 (m + 212) 60 46 := hGq.st hg343 heq78 hc78 (zall_up hg345 (by exact hr75.1))
              refine zp_seg (pc' := 83) (lv' := [(0, .ref m), (1, .int o9), (2, .int d9), (3, .int v7), (4, .int v14), (5, .int y5_19), (6, .int y6_29), (7, .int y7_41), (8, .int y8_41)]) (st' := [.int y5_19, .int y7_41]) [(79, .iload 7), (81, .iload 5)] (by decide +kernel) rfl ?_
              refine zr_callS (idx := 56) (j := 257) (by decide +kernel) (by decide +kernel) (by decide) (show zMe 257 = some zq_X16_mul from rfl) rfl rfl (Nat.le_of_ble_eq_true rfl) rfl rfl (Nat.le_of_ble_eq_true rfl) (Nat.le_of_ble_eq_true rfl) (c_X16_mul (w := w78) y7_41 y5_19 (by exact hp7) (by exact ⟨by omega, by omega⟩)) (by omega) (fun v83 w83 hp83 => ?_)
              obtain ⟨hpw83, r83, rfl, hr83⟩ := hp83
              replace hpw83 := hpw83.symm
              subst hpw83
              have kr83 := zrng r83
              show zP _ _ _ _ [.int r83] _ _ _ _ _
              refine zp_seg (pc' := 91) (lv' := [(8, .int (y8_41 + 1)), (7, .int r83), (0, .ref m), (1, .int o9), (2, .int d9), (3, .int v7), (4, .int v14), (5, .int y5_19), (6, .int y6_29)]) (st' := []) [(86, .istore 7), (88, .iinc 8 1)] (by decide +kernel) rfl ?_
              have k354 := zaddC y8_41 1 (n := 1) (by decide) (by omega) (by omega)
              generalize ev91 : (y8_41 + 1 : Int32) = v91 at k354 ⊢
              have kv91 := zrng v91
              refine zp_seg (pc' := 41) (lv' := [(8, .int v91), (7, .int r83), (0, .ref m), (1, .int o9), (2, .int d9), (3, .int v7), (4, .int v14), (5, .int y5_19), (6, .int y6_29)]) (st' := []) [(91, .goto (-50))] (by decide +kernel) rfl ?_
              have hz355 : (v91.toNatClampNeg : Int) = v91.toInt := znat (by first | omega | decide)
              have hb356 : w78 m = some (.inl (15, zMo m g r)) := (heq78 m (by omega)).trans hmL41
              exact (ih41 w78 r83 v91 (hsiL41.tr hsi78) (fun x hx => ((heq78 x (by omega)).trans (heqL41 x ⟨hx.1, hx.2⟩))) (by first | assumption | omega | decide) (by first | assumption | omega | decide) hG353 hb356 (by
                    exact hr83.1) (by omega)).more (zfa1 rfl (zfa1 rfl (zfa1 rfl (zfa1 rfl (zfa1 rfl (zfa1 rfl (zfa1 rfl (zfa1 rfl (zfa1 rfl (zfa0))))))))))
          have hl357 : (1 : Int32).toInt = 1 := by decide
          have hl358 : (0 : Int32).toInt = 0 := by decide
          have hz359 : ((0 : Int32).toNatClampNeg : Int) = 0 := by decide
          exact (hL41 _ wL29 1 0 zSI.rf (fun _ _ => rfl) (by first | assumption | omega | decide) (by first | assumption | omega | decide) hGq hmL29 (by
                exact zr1_1) (Nat.lt_succ_self _)).more (zfa1 rfl (zfa1 rfl (zfa1 rfl (zfa1 rfl (zfa1 rfl (zfa1 rfl (zfa1 rfl (zfa1 rfl (zfa1 rfl (zfa0))))))))))
      have hl360 : (0 : Int32).toInt = 0 := by decide
      have hz361 : ((0 : Int32).toNatClampNeg : Int) = 0 := by decide
      exact (hL29 _ wL19 0 zSI.rf (fun _ _ => rfl) (by first | assumption | omega | decide) (by first | assumption | omega | decide) hGq hmL19 (Nat.lt_succ_self _)).more (zfa1 rfl (zfa1 rfl (zfa1 rfl (zfa1 rfl (zfa1 rfl (zfa1 rfl (zfa1 rfl (zfa0))))))))
  have hl362 : (0 : Int32).toInt = 0 := by decide
  have hz363 : ((0 : Int32).toNatClampNeg : Int) = 0 := by decide
  exact (hL19 _ w 0 zSI.rf (fun _ _ => rfl) (by first | assumption | omega | decide) (by first | assumption | omega | decide) hGr_m_212 hm (Nat.lt_succ_self _)).more (zfa1 rfl (zfa1 rfl (zfa1 rfl (zfa1 rfl (zfa1 rfl (zfa1 rfl (zfa0)))))))
