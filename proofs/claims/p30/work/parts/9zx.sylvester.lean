theorem zx_X16_sylvester_0 {m : Nat}  : m ≠ m + 100 := by omega
theorem zx_X16_sylvester_1 {m x : Nat} (h0 : x < m + 100 ∨ m + 100 + 49 ≤ x) : x ≠ m + 100 := by omega
theorem zx_X16_sylvester_2 {m q : Nat} (h0 : m + 596 ≤ q ∧ q + 130 ≤ m + 6316) : q < m + 100 ∨ m + 100 + 49 ≤ q := by omega
theorem zx_X16_sylvester_3 {m q : Nat} (h0 : m + 596 ≤ q ∧ q + 130 ≤ m + 6316) : q ≠ m := by omega
theorem zx_X16_sylvester_4 {m q : Nat} (h0 : m + 596 ≤ q ∧ q + 130 ≤ m + 6316) : (q + 1) < m + 100 ∨ m + 100 + 49 ≤ (q + 1) := by omega
theorem zx_X16_sylvester_5 {m q : Nat} (h0 : m + 596 ≤ q ∧ q + 130 ≤ m + 6316) : (q + 1) ≠ m := by omega
theorem zx_X16_sylvester_6 {m q x : Nat} (h0 : q ≤ x) (h1 : x < q + 130) (h2 : m + 596 ≤ q ∧ q + 130 ≤ m + 6316) : x < m + 100 ∨ m + 100 + 49 ≤ x := by omega
theorem zx_X16_sylvester_7 {m q x : Nat} (h0 : q ≤ x) (h1 : x < q + 130) (h2 : m + 596 ≤ q ∧ q + 130 ≤ m + 6316) : x ≠ m := by omega
theorem zx_X16_sylvester_8 {m p : Nat} (h0 : m + 596 ≤ p ∧ p + 130 ≤ m + 6316) : p < m + 100 ∨ m + 100 + 49 ≤ p := by omega
theorem zx_X16_sylvester_9 {m p : Nat} (h0 : m + 596 ≤ p ∧ p + 130 ≤ m + 6316) : p ≠ m := by omega
theorem zx_X16_sylvester_10 {m p : Nat} (h0 : m + 596 ≤ p ∧ p + 130 ≤ m + 6316) : (p + 1) < m + 100 ∨ m + 100 + 49 ≤ (p + 1) := by omega
theorem zx_X16_sylvester_11 {m p : Nat} (h0 : m + 596 ≤ p ∧ p + 130 ≤ m + 6316) : (p + 1) ≠ m := by omega
theorem zx_X16_sylvester_12 {m p x : Nat} (h0 : p ≤ x) (h1 : x < p + 130) (h2 : m + 596 ≤ p ∧ p + 130 ≤ m + 6316) : x < m + 100 ∨ m + 100 + 49 ≤ x := by omega
theorem zx_X16_sylvester_13 {m p x : Nat} (h0 : p ≤ x) (h1 : x < p + 130) (h2 : m + 596 ≤ p ∧ p + 130 ≤ m + 6316) : x ≠ m := by omega
set_option maxHeartbeats 8000000 in
set_option maxRecDepth 100000 in
theorem c_X16_sylvester {w : zM} {g : Nat → Int32} {r : Nat → Value} {P Q : zA2} (m : Nat) (p : Nat) (q : Nat) (mm : Int32) (nn : Int32) (t : Int32) (hm : w m = some (.inl (15, zMo m g r))) (hR_m : zR m w) (hGr_m_100 : zGr w (m + 100) 48 48) (hB_p : zB w p P) (hB_q : zB w q Q) (h_t : zr1 t) (hmm : mm.toInt + 1 = (zrw P : Int) ∧ nn.toInt + 1 = (zrw Q : Int) ∧ 0 ≤ mm.toInt ∧ 0 ≤ nn.toInt ∧ mm.toInt + nn.toInt ≤ 48) (hmp : m + 596 ≤ p ∧ p + 130 ≤ m + 6316) (hmq : m + 596 ≤ q ∧ q + 130 ≤ m + 6316) : zCon 3 zq_X16_sylvester [.ref m, .ref p, .ref q, .int mm, .int nn, .int t] w (fun v9 w9' => zSI w w9' ∧ (∀ x, (x < m + 100 ∨ m + 100 + 49 ≤ x) → w9' x = w x) ∧ zGr w9' (m + 100) 48 48 ∧ ∃ r9 : Int32, v9 = some (.int r9) ∧ (zr1 r9)) := by
  intro d sz hd
  obtain ⟨d, rfl⟩ : ∃ d9, d = d9 + 1 := ⟨d - 1, by omega⟩
  generalize hPost : (fun (r9' : Option (Option Value)) (w9' : zM) (z9 : Nat) => z9 = sz ∧ ∃ v9, r9' = some v9 ∧ (zSI w w9' ∧ (∀ x, (x < m + 100 ∨ m + 100 + 49 ≤ x) → w9' x = w x) ∧ zGr w9' (m + 100) 48 48 ∧ ∃ r9 : Int32, v9 = some (.int r9) ∧ (zr1 r9))) = Post
  show zP (d + 1) zq_X16_sylvester 0 [(0, .ref m), (1, .ref p), (2, .ref q), (3, .int mm), (4, .int nn), (5, .int t)] [] w sz 0 0 Post
  have k1 := zrng mm
  have k2 := zrng nn
  have k3 := zrng t
  refine zp_seg (pc' := 4) (lv' := [(0, .ref m), (1, .ref p), (2, .ref q), (3, .int mm), (4, .int nn), (5, .int t)]) (st' := [.int (mm + nn)]) [(0, .iload_n 3), (1, .iload 4), (3, .iadd)] (by decide +kernel) rfl ?_
  have k4 := zadd mm nn (by omega) (by omega)
  generalize ev4 : (mm + nn : Int32) = v4 at k4 ⊢
  have kv4 := zrng v4
  refine zp_seg (pc' := 9) (lv' := [(7, .int 0), (6, .int v4), (0, .ref m), (1, .ref p), (2, .ref q), (3, .int mm), (4, .int nn), (5, .int t)]) (st' := []) [(4, .istore 6), (6, .iconst 0), (7, .istore 7)] (by decide +kernel) rfl ?_
  have hL9 : ∀ (mm9 : Nat) (wL9 : zM) (y7_9 : Int32), (zSI w wL9) → (∀ x, ((x < m + 100 ∨ m + 100 + 49 ≤ x)) ∧ x ≠ m → wL9 x = w x) → (0 ≤ y7_9.toInt) → (y7_9.toInt ≤ mm.toInt + nn.toInt) → (zGr wL9 (m + 100) 48 48) → (wL9 m = some (.inl (15, zMo m g r))) → (60 - y7_9.toInt).toNat < mm9 → zP (d + 1) zq_X16_sylvester 9 [(0, .ref m), (1, .ref p), (2, .ref q), (3, .int mm), (4, .int nn), (5, .int t), (6, .int v4), (7, .int y7_9)] [] wL9 sz 0 0 Post := by
    intro mm9
    induction mm9 with
    | zero => intros; omega
    | succ mm9 ih9 =>
    intro wL9 y7_9 hsiL9 heqL9 hi9_0 hi9_1 hGl hmL9 hmu9
    have ky7_9 := zrng y7_9
    have hz5 : (y7_9.toNatClampNeg : Int) = y7_9.toInt := znat (by first | omega | decide)
    refine zp_seg (pc' := 13) (lv' := [(0, .ref m), (1, .ref p), (2, .ref q), (3, .int mm), (4, .int nn), (5, .int t), (6, .int v4), (7, .int y7_9)]) (st' := [.int v4, .int y7_9]) [(9, .iload 7), (11, .iload 6)] (by decide +kernel) rfl ?_
    refine zp_if (i := .if_icmp .ge 36) (c := v4 ≤ y7_9) (t := 49) (e := 16) (lv' := [(0, .ref m), (1, .ref p), (2, .ref q), (3, .int mm), (4, .int nn), (5, .int t), (6, .int v4), (7, .int y7_9)]) (st' := []) (by decide +kernel) rfl (fun cc13 => ?_) (fun cc13 => ?_)
    ·
      have f6 := zleI cc13
      refine zp_seg (pc' := 52) (lv' := [(7, .int 0), (0, .ref m), (1, .ref p), (2, .ref q), (3, .int mm), (4, .int nn), (5, .int t), (6, .int v4)]) (st' := []) [(49, .iconst 0), (50, .istore 7)] (by decide +kernel) rfl ?_
      have hL52 : ∀ (mm52 : Nat) (wL52 : zM) (y7_52 : Int32), (zSI wL9 wL52) → (∀ x, ((x < m + 100 ∨ m + 100 + 49 ≤ x)) ∧ x ≠ m → wL52 x = wL9 x) → (0 ≤ y7_52.toInt) → (y7_52.toInt ≤ mm.toInt + 1) → (zGr wL52 (m + 100) 48 48) → (wL52 m = some (.inl (15, zMo m g r))) → (60 - y7_52.toInt).toNat < mm52 → zP (d + 1) zq_X16_sylvester 52 [(0, .ref m), (1, .ref p), (2, .ref q), (3, .int mm), (4, .int nn), (5, .int t), (6, .int v4), (7, .int y7_52)] [] wL52 sz 0 0 Post := by
        intro mm52
        induction mm52 with
        | zero => intros; omega
        | succ mm52 ih52 =>
        intro wL52 y7_52 hsiL52 heqL52 hi52_0 hi52_1 hGl hmL52 hmu52
        have ky7_52 := zrng y7_52
        have hz7 : (y7_52.toNatClampNeg : Int) = y7_52.toInt := znat (by first | omega | decide)
        refine zp_seg (pc' := 55) (lv' := [(0, .ref m), (1, .ref p), (2, .ref q), (3, .int mm), (4, .int nn), (5, .int t), (6, .int v4), (7, .int y7_52)]) (st' := [.int mm, .int y7_52]) [(52, .iload 7), (54, .iload_n 3)] (by decide +kernel) rfl ?_
        refine zp_if (i := .if_icmp .gt 56) (c := mm < y7_52) (t := 111) (e := 58) (lv' := [(0, .ref m), (1, .ref p), (2, .ref q), (3, .int mm), (4, .int nn), (5, .int t), (6, .int v4), (7, .int y7_52)]) (st' := []) (by decide +kernel) rfl (fun cc55 => ?_) (fun cc55 => ?_)
        ·
          have f8 := zltI cc55
          refine zp_seg (pc' := 114) (lv' := [(7, .int 0), (0, .ref m), (1, .ref p), (2, .ref q), (3, .int mm), (4, .int nn), (5, .int t), (6, .int v4)]) (st' := []) [(111, .iconst 0), (112, .istore 7)] (by decide +kernel) rfl ?_
          have hL114 : ∀ (mm114 : Nat) (wL114 : zM) (y7_114 : Int32), (zSI wL52 wL114) → (∀ x, ((x < m + 100 ∨ m + 100 + 49 ≤ x)) ∧ x ≠ m → wL114 x = wL52 x) → (0 ≤ y7_114.toInt) → (y7_114.toInt ≤ nn.toInt + 1) → (zGr wL114 (m + 100) 48 48) → (wL114 m = some (.inl (15, zMo m g r))) → (60 - y7_114.toInt).toNat < mm114 → zP (d + 1) zq_X16_sylvester 114 [(0, .ref m), (2, .ref q), (3, .int mm), (4, .int nn), (5, .int t), (6, .int v4), (7, .int y7_114)] [] wL114 sz 0 0 Post := by
            intro mm114
            induction mm114 with
            | zero => intros; omega
            | succ mm114 ih114 =>
            intro wL114 y7_114 hsiL114 heqL114 hi114_0 hi114_1 hGl hmL114 hmu114
            have ky7_114 := zrng y7_114
            have hz9 : (y7_114.toNatClampNeg : Int) = y7_114.toInt := znat (by first | omega | decide)
            refine zp_seg (pc' := 118) (lv' := [(0, .ref m), (2, .ref q), (3, .int mm), (4, .int nn), (5, .int t), (6, .int v4), (7, .int y7_114)]) (st' := [.int nn, .int y7_114]) [(114, .iload 7), (116, .iload 4)] (by decide +kernel) rfl ?_
            refine zp_if (i := .if_icmp .gt 59) (c := nn < y7_114) (t := 177) (e := 121) (lv' := [(0, .ref m), (2, .ref q), (3, .int mm), (4, .int nn), (5, .int t), (6, .int v4), (7, .int y7_114)]) (st' := []) (by decide +kernel) rfl (fun cc118 => ?_) (fun cc118 => ?_)
            ·
              have f10 := zltI cc118
              refine zp_seg (pc' := 183) (lv' := [(8, .int 0), (7, .int 1), (0, .ref m), (2, .ref q), (3, .int mm), (4, .int nn), (5, .int t), (6, .int v4)]) (st' := []) [(177, .iconst 1), (178, .istore 7), (180, .iconst 0), (181, .istore 8)] (by decide +kernel) rfl ?_
              have hL183 : ∀ (mm183 : Nat) (wL183 : zM) (y7_183 : Int32) (y8_183 : Int32), (zSI wL114 wL183) → (∀ x, ((x < m + 100 ∨ m + 100 + 49 ≤ x)) ∧ x ≠ m → wL183 x = wL114 x) → (0 ≤ y8_183.toInt) → (y8_183.toInt ≤ mm.toInt + nn.toInt) → (zGr wL183 (m + 100) 48 48) → (wL183 m = some (.inl (15, zMo m g r))) → (zr1 y7_183) → (60 - y8_183.toInt).toNat < mm183 → zP (d + 1) zq_X16_sylvester 183 [(0, .ref m), (6, .int v4), (7, .int y7_183), (8, .int y8_183)] [] wL183 sz 0 0 Post := by
                intro mm183
                induction mm183 with
                | zero => intros; omega
                | succ mm183 ih183 =>
                intro wL183 y7_183 y8_183 hsiL183 heqL183 hi183_0 hi183_1 hGl hmL183 hd7 hmu183
                have ky7_183 := zrng y7_183
                have ky8_183 := zrng y8_183
                have hz11 : (y8_183.toNatClampNeg : Int) = y8_183.toInt := znat (by first | omega | decide)
                refine zp_seg (pc' := 187) (lv' := [(0, .ref m), (6, .int v4), (7, .int y7_183), (8, .int y8_183)]) (st' := [.int v4, .int y8_183]) [(183, .iload 8), (185, .iload 6)] (by decide +kernel) rfl ?_
                refine zp_if (i := .if_icmp .ge 223) (c := v4 ≤ y8_183) (t := 410) (e := 190) (lv' := [(0, .ref m), (6, .int v4), (7, .int y7_183), (8, .int y8_183)]) (st' := []) (by decide +kernel) rfl (fun cc187 => ?_) (fun cc187 => ?_)
                ·
                  have f12 := zleI cc187
                  refine zp_seg (pc' := 412) (lv' := [(0, .ref m), (6, .int v4), (7, .int y7_183), (8, .int y8_183)]) (st' := [.int y7_183]) [(410, .iload 7)] (by decide +kernel) rfl ?_
                  have hmend : wL183 m = w m := by rw [hmL183, hm]
                  have hoffend : ∀ x, (x < m + 100 ∨ m + 100 + 49 ≤ x) → wL183 x = w x := fun x hx => by
                      by_cases ex : x = m
                      · rw [ex]; exact hmend
                      · exact ((heqL183 x ⟨hx, ex⟩).trans ((heqL114 x ⟨hx, ex⟩).trans ((heqL52 x ⟨hx, ex⟩).trans (heqL9 x ⟨hx, ex⟩))))
                  refine zr_retI (by decide +kernel) rfl ?_
                  rw [← hPost]; exact ⟨rfl, _, rfl, (((hsiL9.tr hsiL52).tr hsiL114).tr hsiL183), hoffend, hGl, _, rfl, (by
                        first | exact zr1_0 | exact hd7)⟩
                ·
                  have f13 := znleI cc187
                  refine zp_seg (pc' := 194) (lv' := [(9, .int y8_183), (0, .ref m), (6, .int v4), (7, .int y7_183), (8, .int y8_183)]) (st' := []) [(190, .iload 8), (192, .istore 9)] (by decide +kernel) rfl ?_
                  have hL194 : ∀ (mm194 : Nat) (y9_194 : Int32), (y8_183.toInt ≤ y9_194.toInt) → (y9_194.toInt ≤ mm.toInt + nn.toInt) → (60 - y9_194.toInt).toNat < mm194 → zP (d + 1) zq_X16_sylvester 194 [(0, .ref m), (6, .int v4), (7, .int y7_183), (8, .int y8_183), (9, .int y9_194)] [] wL183 sz 0 0 Post := by
                    intro mm194
                    induction mm194 with
                    | zero => intros; omega
                    | succ mm194 ih194 =>
                    intro y9_194 hi194_0 hi194_1 hmu194
                    have ky9_194 := zrng y9_194
                    have hz14 : (y9_194.toNatClampNeg : Int) = y9_194.toInt := znat (by first | omega | decide)
                    refine zp_seg (pc' := 198) (lv' := [(0, .ref m), (6, .int v4), (7, .int y7_183), (8, .int y8_183), (9, .int y9_194)]) (st' := [.int v4, .int y9_194]) [(194, .iload 9), (196, .iload 6)] (by decide +kernel) rfl ?_
                    refine zp_if (i := .if_icmp .ge 22) (c := v4 ≤ y9_194) (t := 220) (e := 201) (lv' := [(0, .ref m), (6, .int v4), (7, .int y7_183), (8, .int y8_183), (9, .int y9_194)]) (st' := []) (by decide +kernel) rfl (fun cc198 => ?_) (fun cc198 => ?_)
                    ·
                      have f15 := zleI cc198
                      refine zp_seg (pc' := 224) (lv' := [(0, .ref m), (6, .int v4), (7, .int y7_183), (8, .int y8_183), (9, .int y9_194)]) (st' := [.int v4, .int y9_194]) [(220, .iload 9), (222, .iload 6)] (by decide +kernel) rfl ?_
                      refine zp_if (i := .if_icmp .ne 5) (c := ¬ y9_194 = v4) (t := 229) (e := 227) (lv' := [(0, .ref m), (6, .int v4), (7, .int y7_183), (8, .int y8_183), (9, .int y9_194)]) (st' := []) (by decide +kernel) rfl (fun cc224 => ?_) (fun cc224 => ?_)
                      ·
                        have f16 := zneI cc224
                        refine zp_seg (pc' := 233) (lv' := [(0, .ref m), (6, .int v4), (7, .int y7_183), (8, .int y8_183), (9, .int y9_194)]) (st' := [.int y8_183, .int y9_194]) [(229, .iload 9), (231, .iload 8)] (by decide +kernel) rfl ?_
                        have hJ276 : ∀ (wL276 : zM) (y7_276 : Int32), (zSI wL183 wL276) → (∀ x, ((x < m + 100 ∨ m + 100 + 49 ≤ x)) ∧ x ≠ m → wL276 x = wL183 x) → (zGr wL276 (m + 100) 48 48) → (wL276 m = some (.inl (15, zMo m g r))) → (zr1 y7_276) → zP (d + 1) zq_X16_sylvester 276 [(0, .ref m), (6, .int v4), (7, .int y7_276), (8, .int y8_183)] [] wL276 sz 0 0 Post := by
                          intro wL276 y7_276 hsiL276 heqL276 hGl hmL276 hd7
                          have ky7_276 := zrng y7_276
                          refine zp_seg (pc' := 279) (lv' := [(0, .ref m), (6, .int v4), (7, .int y7_276), (8, .int y8_183)]) (st' := [.ref m, .int y7_276]) [(276, .iload 7), (278, .aload_n 0)] (by decide +kernel) rfl ?_
                          refine zr_get (idx := 483) (k := 38) (v := .ref (m + 100)) (by decide +kernel) (by decide +kernel) hmL276 rfl ?_
                          refine zp_seg (pc' := 284) (lv' := [(0, .ref m), (6, .int v4), (7, .int y7_276), (8, .int y8_183)]) (st' := [.int y8_183, .ref (m + 100), .int y7_276]) [(282, .iload 8)] (by decide +kernel) rfl ?_
                          obtain ⟨f17, hg18, hg19⟩ := id hGl
                          obtain ⟨b920, F21, hg22, hg23, hg24, hg25⟩ := hg19 (y8_183.toNatClampNeg) (by omega)
                          refine zr_aald (v := .ref b920) (by decide +kernel) hg18 (by decide) (zin (by first | omega | decide) (by first | omega | decide)) (by rw [hg22]; rfl) ?_
                          refine zp_seg (pc' := 287) (lv' := [(0, .ref m), (6, .int v4), (7, .int y7_276), (8, .int y8_183)]) (st' := [.int y8_183, .ref b920, .int y7_276]) [(285, .iload 8)] (by decide +kernel) rfl ?_
                          refine zr_iald (by decide +kernel) hg24 (zin (by first | omega | decide) (by first | omega | decide)) ?_
                          obtain ⟨x287, ex287⟩ : ∃ x9, x9 = F21 (y8_183.toNatClampNeg) := ⟨_, rfl⟩
                          rw [← ex287]
                          have kx287 := zrng x287
                          have hvx287 := (fun i hi => (⟨hg25 i hi, trivial⟩ : zr1 (F21 i) ∧ True)) (y8_183.toNatClampNeg) (by omega)
                          rw [← ex287] at hvx287
                          have hwx287 : 0 ≤ x287.toInt ∧ x287.toInt < 2147483647 := hvx287.1
                          refine zr_callS (idx := 56) (j := 257) (by decide +kernel) (by decide +kernel) (by decide) (show zMe 257 = some zq_X16_mul from rfl) rfl rfl (Nat.le_of_ble_eq_true rfl) rfl rfl (Nat.le_of_ble_eq_true rfl) (Nat.le_of_ble_eq_true rfl) (c_X16_mul (w := wL276) y7_276 x287 (by exact hd7) (by first | exact hvx287.1 | omega | decide | assumption | exact zr1_1 | exact zr1_0 | fail "num")) (by omega) (fun v288 w288 hp288 => ?_)
                          obtain ⟨hpw288, r288, rfl, hr288⟩ := hp288
                          replace hpw288 := hpw288.symm
                          subst hpw288
                          have kr288 := zrng r288
                          show zP _ _ _ _ [.int r288] _ _ _ _ _
                          refine zp_seg (pc' := 294) (lv' := [(7, .int r288), (0, .ref m), (6, .int v4), (8, .int y8_183)]) (st' := [.ref m]) [(291, .istore 7), (293, .aload_n 0)] (by decide +kernel) rfl ?_
                          refine zr_get (idx := 483) (k := 38) (v := .ref (m + 100)) (by decide +kernel) (by decide +kernel) hmL276 rfl ?_
                          refine zp_seg (pc' := 299) (lv' := [(7, .int r288), (0, .ref m), (6, .int v4), (8, .int y8_183)]) (st' := [.int y8_183, .ref (m + 100)]) [(297, .iload 8)] (by decide +kernel) rfl ?_
                          obtain ⟨f26, hg27, hg28⟩ := id hGl
                          obtain ⟨b929, F30, hg31, hg32, hg33, hg34⟩ := hg28 (y8_183.toNatClampNeg) (by omega)
                          refine zr_aald (v := .ref b929) (by decide +kernel) hg27 (by decide) (zin (by first | omega | decide) (by first | omega | decide)) (by rw [hg31]; rfl) ?_
                          refine zp_seg (pc' := 302) (lv' := [(7, .int r288), (0, .ref m), (6, .int v4), (8, .int y8_183)]) (st' := [.int y8_183, .ref b929]) [(300, .iload 8)] (by decide +kernel) rfl ?_
                          refine zr_iald (by decide +kernel) hg33 (zin (by first | omega | decide) (by first | omega | decide)) ?_
                          obtain ⟨x302, ex302⟩ : ∃ x9, x9 = F30 (y8_183.toNatClampNeg) := ⟨_, rfl⟩
                          rw [← ex302]
                          have kx302 := zrng x302
                          have hvx302 := (fun i hi => (⟨hg34 i hi, trivial⟩ : zr1 (F30 i) ∧ True)) (y8_183.toNatClampNeg) (by omega)
                          rw [← ex302] at hvx302
                          have hwx302 : 0 ≤ x302.toInt ∧ x302.toInt < 2147483647 := hvx302.1
                          refine zr_callS (idx := 13) (j := 259) (by decide +kernel) (by decide +kernel) (by decide) (show zMe 259 = some zq_X16_inv from rfl) rfl rfl (Nat.le_of_ble_eq_true rfl) rfl rfl (Nat.le_of_ble_eq_true rfl) (Nat.le_of_ble_eq_true rfl) (c_X16_inv (w := wL276) x302 (by first | exact hvx302.1 | omega | decide | assumption | exact zr1_1 | exact zr1_0 | fail "num")) (by omega) (fun v303 w303 hp303 => ?_)
                          obtain ⟨hpw303, r303, rfl, hr303⟩ := hp303
                          replace hpw303 := hpw303.symm
                          subst hpw303
                          have kr303 := zrng r303
                          show zP _ _ _ _ [.int r303] _ _ _ _ _
                          refine zp_seg (pc' := 312) (lv' := [(10, .int r303), (7, .int r288), (0, .ref m), (6, .int v4), (8, .int y8_183)]) (st' := [.int (y8_183 + 1)]) [(306, .istore 10), (308, .iload 8), (310, .iconst 1), (311, .iadd)] (by decide +kernel) rfl ?_
                          have k35 := zaddC y8_183 1 (n := 1) (by decide) (by omega) (by omega)
                          generalize ev312 : (y8_183 + 1 : Int32) = v312 at k35 ⊢
                          have kv312 := zrng v312
                          refine zp_seg (pc' := 314) (lv' := [(11, .int v312), (10, .int r303), (7, .int r288), (0, .ref m), (6, .int v4), (8, .int y8_183)]) (st' := []) [(312, .istore 11)] (by decide +kernel) rfl ?_
                          have hL314 : ∀ (mm314 : Nat) (wL314 : zM) (y11_314 : Int32), (zSI wL276 wL314) → (∀ x, ((x < m + 100 ∨ m + 100 + 49 ≤ x)) ∧ x ≠ m → wL314 x = wL276 x) → (0 ≤ y11_314.toInt) → (y11_314.toInt ≤ mm.toInt + nn.toInt) → (zGr wL314 (m + 100) 48 48) → (wL314 m = some (.inl (15, zMo m g r))) → (60 - y11_314.toInt).toNat < mm314 → zP (d + 1) zq_X16_sylvester 314 [(0, .ref m), (6, .int v4), (7, .int r288), (8, .int y8_183), (10, .int r303), (11, .int y11_314)] [] wL314 sz 0 0 Post := by
                            intro mm314
                            induction mm314 with
                            | zero => intros; omega
                            | succ mm314 ih314 =>
                            intro wL314 y11_314 hsiL314 heqL314 hi314_0 hi314_1 hGl hmL314 hmu314
                            have ky11_314 := zrng y11_314
                            have hz36 : (y11_314.toNatClampNeg : Int) = y11_314.toInt := znat (by first | omega | decide)
                            refine zp_seg (pc' := 318) (lv' := [(0, .ref m), (6, .int v4), (7, .int r288), (8, .int y8_183), (10, .int r303), (11, .int y11_314)]) (st' := [.int v4, .int y11_314]) [(314, .iload 11), (316, .iload 6)] (by decide +kernel) rfl ?_
                            refine zp_if (i := .if_icmp .ge 86) (c := v4 ≤ y11_314) (t := 404) (e := 321) (lv' := [(0, .ref m), (6, .int v4), (7, .int r288), (8, .int y8_183), (10, .int r303), (11, .int y11_314)]) (st' := []) (by decide +kernel) rfl (fun cc318 => ?_) (fun cc318 => ?_)
                            ·
                              have f37 := zleI cc318
                              refine zp_seg (pc' := 407) (lv' := [(8, .int (y8_183 + 1)), (0, .ref m), (6, .int v4), (7, .int r288), (10, .int r303), (11, .int y11_314)]) (st' := []) [(404, .iinc 8 1)] (by decide +kernel) rfl ?_
                              have k38 := zaddC y8_183 1 (n := 1) (by decide) (by omega) (by omega)
                              generalize ev407 : (y8_183 + 1 : Int32) = v407 at k38 ⊢
                              have kv407 := zrng v407
                              refine zp_seg (pc' := 183) (lv' := [(8, .int v407), (0, .ref m), (6, .int v4), (7, .int r288), (10, .int r303), (11, .int y11_314)]) (st' := []) [(407, .goto (-224))] (by decide +kernel) rfl ?_
                              have hz39 : (v407.toNatClampNeg : Int) = v407.toInt := znat (by first | omega | decide)
                              exact (ih183 wL314 r288 v407 ((hsiL183.tr hsiL276).tr hsiL314) (fun x hx => ((heqL314 x ⟨hx.1, hx.2⟩).trans ((heqL276 x ⟨hx.1, hx.2⟩).trans (heqL183 x ⟨hx.1, hx.2⟩)))) (by first | assumption | omega | decide) (by first | assumption | omega | decide) hGl hmL314 (by
                                    exact hr288.1) (by omega)).more (zfa1 rfl (zfa1 rfl (zfa1 rfl (zfa1 rfl (zfa0)))))
                            ·
                              have f40 := znleI cc318
                              refine zp_seg (pc' := 322) (lv' := [(0, .ref m), (6, .int v4), (7, .int r288), (8, .int y8_183), (10, .int r303), (11, .int y11_314)]) (st' := [.ref m]) [(321, .aload_n 0)] (by decide +kernel) rfl ?_
                              refine zr_get (idx := 483) (k := 38) (v := .ref (m + 100)) (by decide +kernel) (by decide +kernel) hmL314 rfl ?_
                              refine zp_seg (pc' := 327) (lv' := [(0, .ref m), (6, .int v4), (7, .int r288), (8, .int y8_183), (10, .int r303), (11, .int y11_314)]) (st' := [.int y11_314, .ref (m + 100)]) [(325, .iload 11)] (by decide +kernel) rfl ?_
                              obtain ⟨f41, hg42, hg43⟩ := id hGl
                              obtain ⟨b944, F45, hg46, hg47, hg48, hg49⟩ := hg43 (y11_314.toNatClampNeg) (by omega)
                              refine zr_aald (v := .ref b944) (by decide +kernel) hg42 (by decide) (zin (by first | omega | decide) (by first | omega | decide)) (by rw [hg46]; rfl) ?_
                              refine zp_seg (pc' := 330) (lv' := [(0, .ref m), (6, .int v4), (7, .int r288), (8, .int y8_183), (10, .int r303), (11, .int y11_314)]) (st' := [.int y8_183, .ref b944]) [(328, .iload 8)] (by decide +kernel) rfl ?_
                              refine zr_iald (by decide +kernel) hg48 (zin (by first | omega | decide) (by first | omega | decide)) ?_
                              obtain ⟨x330, ex330⟩ : ∃ x9, x9 = F45 (y8_183.toNatClampNeg) := ⟨_, rfl⟩
                              rw [← ex330]
                              have kx330 := zrng x330
                              have hvx330 := (fun i hi => (⟨hg49 i hi, trivial⟩ : zr1 (F45 i) ∧ True)) (y8_183.toNatClampNeg) (by omega)
                              rw [← ex330] at hvx330
                              have hwx330 : 0 ≤ x330.toInt ∧ x330.toInt < 2147483647 := hvx330.1
                              refine zp_seg (pc' := 333) (lv' := [(0, .ref m), (6, .int v4), (7, .int r288), (8, .int y8_183), (10, .int r303), (11, .int y11_314)]) (st' := [.int r303, .int x330]) [(331, .iload 10)] (by decide +kernel) rfl ?_
                              refine zr_callS (idx := 56) (j := 257) (by decide +kernel) (by decide +kernel) (by decide) (show zMe 257 = some zq_X16_mul from rfl) rfl rfl (Nat.le_of_ble_eq_true rfl) rfl rfl (Nat.le_of_ble_eq_true rfl) (Nat.le_of_ble_eq_true rfl) (c_X16_mul (w := wL314) x330 r303 (by first | exact hvx330.1 | omega | decide | assumption | exact zr1_1 | exact zr1_0 | fail "num") (by exact hr303.1)) (by omega) (fun v333 w333 hp333 => ?_)
                              obtain ⟨hpw333, r333, rfl, hr333⟩ := hp333
                              replace hpw333 := hpw333.symm
                              subst hpw333
                              have kr333 := zrng r333
                              show zP _ _ _ _ [.int r333] _ _ _ _ _
                              refine zp_seg (pc' := 342) (lv' := [(13, .int y8_183), (12, .int r333), (0, .ref m), (6, .int v4), (7, .int r288), (8, .int y8_183), (10, .int r303), (11, .int y11_314)]) (st' := []) [(336, .istore 12), (338, .iload 8), (340, .istore 13)] (by decide +kernel) rfl ?_
                              have hL342 : ∀ (mm342 : Nat) (wL342 : zM) (y13_342 : Int32), (zSI wL314 wL342) → (∀ x, ((x < m + 100 ∨ m + 100 + 49 ≤ x)) ∧ x ≠ m → wL342 x = wL314 x) → (0 ≤ y13_342.toInt) → (y13_342.toInt ≤ mm.toInt + nn.toInt) → (zGr wL342 (m + 100) 48 48) → (wL342 m = some (.inl (15, zMo m g r))) → (60 - y13_342.toInt).toNat < mm342 → zP (d + 1) zq_X16_sylvester 342 [(0, .ref m), (6, .int v4), (7, .int r288), (8, .int y8_183), (10, .int r303), (11, .int y11_314), (12, .int r333), (13, .int y13_342)] [] wL342 sz 0 0 Post := by
                                intro mm342
                                induction mm342 with
                                | zero => intros; omega
                                | succ mm342 ih342 =>
                                intro wL342 y13_342 hsiL342 heqL342 hi342_0 hi342_1 hGl hmL342 hmu342
                                have ky13_342 := zrng y13_342
                                have hz50 : (y13_342.toNatClampNeg : Int) = y13_342.toInt := znat (by first | omega | decide)
                                refine zp_seg (pc' := 346) (lv' := [(0, .ref m), (6, .int v4), (7, .int r288), (8, .int y8_183), (10, .int r303), (11, .int y11_314), (12, .int r333), (13, .int y13_342)]) (st' := [.int v4, .int y13_342]) [(342, .iload 13), (344, .iload 6)] (by decide +kernel) rfl ?_
                                refine zp_if (i := .if_icmp .ge 52) (c := v4 ≤ y13_342) (t := 398) (e := 349) (lv' := [(0, .ref m), (6, .int v4), (7, .int r288), (8, .int y8_183), (10, .int r303), (11, .int y11_314), (12, .int r333), (13, .int y13_342)]) (st' := []) (by decide +kernel) rfl (fun cc346 => ?_) (fun cc346 => ?_)
                                ·
                                  have f51 := zleI cc346
                                  refine zp_seg (pc' := 401) (lv' := [(11, .int (y11_314 + 1)), (0, .ref m), (6, .int v4), (7, .int r288), (8, .int y8_183), (10, .int r303), (12, .int r333), (13, .int y13_342)]) (st' := []) [(398, .iinc 11 1)] (by decide +kernel) rfl ?_
                                  have k52 := zaddC y11_314 1 (n := 1) (by decide) (by omega) (by omega)
                                  generalize ev401 : (y11_314 + 1 : Int32) = v401 at k52 ⊢
                                  have kv401 := zrng v401
                                  refine zp_seg (pc' := 314) (lv' := [(11, .int v401), (0, .ref m), (6, .int v4), (7, .int r288), (8, .int y8_183), (10, .int r303), (12, .int r333), (13, .int y13_342)]) (st' := []) [(401, .goto (-87))] (by decide +kernel) rfl ?_
                                  have hz53 : (v401.toNatClampNeg : Int) = v401.toInt := znat (by first | omega | decide)
                                  exact (ih314 wL342 v401 (hsiL314.tr hsiL342) (fun x hx => ((heqL342 x ⟨hx.1, hx.2⟩).trans (heqL314 x ⟨hx.1, hx.2⟩))) (by first | assumption | omega | decide) (by first | assumption | omega | decide) hGl hmL342 (by omega)).more (zfa1 rfl (zfa1 rfl (zfa1 rfl (zfa1 rfl (zfa1 rfl (zfa1 rfl (zfa0)))))))
                                ·
                                  have f54 := znleI cc346
                                  refine zp_seg (pc' := 351) (lv' := [(0, .ref m), (6, .int v4), (7, .int r288), (8, .int y8_183), (10, .int r303), (11, .int y11_314), (12, .int r333), (13, .int y13_342)]) (st' := [.int r333]) [(349, .iload 12)] (by decide +kernel) rfl ?_
                                  refine zp_if (i := .ifCond .eq 47) (c := r333 = 0) (t := 398) (e := 354) (lv' := [(0, .ref m), (6, .int v4), (7, .int r288), (8, .int y8_183), (10, .int r303), (11, .int y11_314), (12, .int r333), (13, .int y13_342)]) (st' := []) (by decide +kernel) rfl (fun cc351 => ?_) (fun cc351 => ?_)
                                  ·
                                    have f56 := zeqI cc351
                                    rw [show (0 : Int32).toInt = 0 from by decide] at f56
                                    refine zp_seg (pc' := 401) (lv' := [(11, .int (y11_314 + 1)), (0, .ref m), (6, .int v4), (7, .int r288), (8, .int y8_183), (10, .int r303), (12, .int r333), (13, .int y13_342)]) (st' := []) [(398, .iinc 11 1)] (by decide +kernel) rfl ?_
                                    have k57 := zaddC y11_314 1 (n := 1) (by decide) (by omega) (by omega)
                                    generalize ev401 : (y11_314 + 1 : Int32) = v401 at k57 ⊢
                                    have kv401 := zrng v401
                                    refine zp_seg (pc' := 314) (lv' := [(11, .int v401), (0, .ref m), (6, .int v4), (7, .int r288), (8, .int y8_183), (10, .int r303), (12, .int r333), (13, .int y13_342)]) (st' := []) [(401, .goto (-87))] (by decide +kernel) rfl ?_
                                    have hz58 : (v401.toNatClampNeg : Int) = v401.toInt := znat (by first | omega | decide)
                                    exact (ih314 wL342 v401 (hsiL314.tr hsiL342) (fun x hx => ((heqL342 x ⟨hx.1, hx.2⟩).trans (heqL314 x ⟨hx.1, hx.2⟩))) (by first | assumption | omega | decide) (by first | assumption | omega | decide) hGl hmL342 (by omega)).more (zfa1 rfl (zfa1 rfl (zfa1 rfl (zfa1 rfl (zfa1 rfl (zfa1 rfl (zfa0)))))))
                                  ·
                                    have f60 := zneI cc351
                                    rw [show (0 : Int32).toInt = 0 from by decide] at f60
                                    refine zp_seg (pc' := 355) (lv' := [(0, .ref m), (6, .int v4), (7, .int r288), (8, .int y8_183), (10, .int r303), (11, .int y11_314), (12, .int r333), (13, .int y13_342)]) (st' := [.ref m]) [(354, .aload_n 0)] (by decide +kernel) rfl ?_
                                    refine zr_get (idx := 483) (k := 38) (v := .ref (m + 100)) (by decide +kernel) (by decide +kernel) hmL342 rfl ?_
                                    refine zp_seg (pc' := 360) (lv' := [(0, .ref m), (6, .int v4), (7, .int r288), (8, .int y8_183), (10, .int r303), (11, .int y11_314), (12, .int r333), (13, .int y13_342)]) (st' := [.int y11_314, .ref (m + 100)]) [(358, .iload 11)] (by decide +kernel) rfl ?_
                                    obtain ⟨f61, hg62, hg63⟩ := id hGl
                                    obtain ⟨b964, F65, hg66, hg67, hg68, hg69⟩ := hg63 (y11_314.toNatClampNeg) (by omega)
                                    refine zr_aald (v := .ref b964) (by decide +kernel) hg62 (by decide) (zin (by first | omega | decide) (by first | omega | decide)) (by rw [hg66]; rfl) ?_
                                    refine zp_seg (pc' := 364) (lv' := [(0, .ref m), (6, .int v4), (7, .int r288), (8, .int y8_183), (10, .int r303), (11, .int y11_314), (12, .int r333), (13, .int y13_342)]) (st' := [.ref m, .int y13_342, .ref b964]) [(361, .iload 13), (363, .aload_n 0)] (by decide +kernel) rfl ?_
                                    refine zr_get (idx := 483) (k := 38) (v := .ref (m + 100)) (by decide +kernel) (by decide +kernel) hmL342 rfl ?_
                                    refine zp_seg (pc' := 369) (lv' := [(0, .ref m), (6, .int v4), (7, .int r288), (8, .int y8_183), (10, .int r303), (11, .int y11_314), (12, .int r333), (13, .int y13_342)]) (st' := [.int y11_314, .ref (m + 100), .int y13_342, .ref b964]) [(367, .iload 11)] (by decide +kernel) rfl ?_
                                    obtain ⟨f70, hg71, hg72⟩ := id hGl
                                    obtain ⟨b973, F74, hg75, hg76, hg77, hg78⟩ := hg72 (y11_314.toNatClampNeg) (by omega)
                                    refine zr_aald (v := .ref b973) (by decide +kernel) hg71 (by decide) (zin (by first | omega | decide) (by first | omega | decide)) (by rw [hg75]; rfl) ?_
                                    refine zp_seg (pc' := 372) (lv' := [(0, .ref m), (6, .int v4), (7, .int r288), (8, .int y8_183), (10, .int r303), (11, .int y11_314), (12, .int r333), (13, .int y13_342)]) (st' := [.int y13_342, .ref b973, .int y13_342, .ref b964]) [(370, .iload 13)] (by decide +kernel) rfl ?_
                                    refine zr_iald (by decide +kernel) hg77 (zin (by first | omega | decide) (by first | omega | decide)) ?_
                                    obtain ⟨x372, ex372⟩ : ∃ x9, x9 = F74 (y13_342.toNatClampNeg) := ⟨_, rfl⟩
                                    rw [← ex372]
                                    have kx372 := zrng x372
                                    have hvx372 := (fun i hi => (⟨hg78 i hi, trivial⟩ : zr1 (F74 i) ∧ True)) (y13_342.toNatClampNeg) (by omega)
                                    rw [← ex372] at hvx372
                                    have hwx372 : 0 ≤ x372.toInt ∧ x372.toInt < 2147483647 := hvx372.1
                                    refine zp_seg (pc' := 376) (lv' := [(0, .ref m), (6, .int v4), (7, .int r288), (8, .int y8_183), (10, .int r303), (11, .int y11_314), (12, .int r333), (13, .int y13_342)]) (st' := [.ref m, .int r333, .int x372, .int y13_342, .ref b964]) [(373, .iload 12), (375, .aload_n 0)] (by decide +kernel) rfl ?_
                                    refine zr_get (idx := 483) (k := 38) (v := .ref (m + 100)) (by decide +kernel) (by decide +kernel) hmL342 rfl ?_
                                    refine zp_seg (pc' := 381) (lv' := [(0, .ref m), (6, .int v4), (7, .int r288), (8, .int y8_183), (10, .int r303), (11, .int y11_314), (12, .int r333), (13, .int y13_342)]) (st' := [.int y8_183, .ref (m + 100), .int r333, .int x372, .int y13_342, .ref b964]) [(379, .iload 8)] (by decide +kernel) rfl ?_
                                    obtain ⟨f79, hg80, hg81⟩ := id hGl
                                    obtain ⟨b982, F83, hg84, hg85, hg86, hg87⟩ := hg81 (y8_183.toNatClampNeg) (by omega)
                                    refine zr_aald (v := .ref b982) (by decide +kernel) hg80 (by decide) (zin (by first | omega | decide) (by first | omega | decide)) (by rw [hg84]; rfl) ?_
                                    refine zp_seg (pc' := 384) (lv' := [(0, .ref m), (6, .int v4), (7, .int r288), (8, .int y8_183), (10, .int r303), (11, .int y11_314), (12, .int r333), (13, .int y13_342)]) (st' := [.int y13_342, .ref b982, .int r333, .int x372, .int y13_342, .ref b964]) [(382, .iload 13)] (by decide +kernel) rfl ?_
                                    refine zr_iald (by decide +kernel) hg86 (zin (by first | omega | decide) (by first | omega | decide)) ?_
                                    obtain ⟨x384, ex384⟩ : ∃ x9, x9 = F83 (y13_342.toNatClampNeg) := ⟨_, rfl⟩
                                    rw [← ex384]
                                    have kx384 := zrng x384
                                    have hvx384 := (fun i hi => (⟨hg87 i hi, trivial⟩ : zr1 (F83 i) ∧ True)) (y13_342.toNatClampNeg) (by omega)
                                    rw [← ex384] at hvx384
                                    have hwx384 : 0 ≤ x384.toInt ∧ x384.toInt < 2147483647 := hvx384.1
                                    refine zr_callS (idx := 56) (j := 257) (by decide +kernel) (by decide +kernel) (by decide) (show zMe 257 = some zq_X16_mul from rfl) rfl rfl (Nat.le_of_ble_eq_true rfl) rfl rfl (Nat.le_of_ble_eq_true rfl) (Nat.le_of_ble_eq_true rfl) (c_X16_mul (w := wL342) r333 x384 (by exact hr333.1) (by first | exact hvx384.1 | omega | decide | assumption | exact zr1_1 | exact zr1_0 | fail "num")) (by omega) (fun v385 w385 hp385 => ?_)
                                    obtain ⟨hpw385, r385, rfl, hr385⟩ := hp385
                                    replace hpw385 := hpw385.symm
                                    subst hpw385
                                    have kr385 := zrng r385
                                    show zP _ _ _ _ [.int r385, .int x372, .int y13_342, .ref b964] _ _ _ _ _
                                    refine zr_callS (idx := 46) (j := 256) (by decide +kernel) (by decide +kernel) (by decide) (show zMe 256 = some zq_X16_sub from rfl) rfl rfl (Nat.le_of_ble_eq_true rfl) rfl rfl (Nat.le_of_ble_eq_true rfl) (Nat.le_of_ble_eq_true rfl) (c_X16_sub (w := wL342) x372 r385 (by first | exact hvx372.1 | omega | decide | assumption | exact zr1_1 | exact zr1_0 | fail "num") (by first | exact hr385.1 | omega | decide | assumption | exact zr1_1 | exact zr1_0 | fail "num")) (by omega) (fun v388 w388 hp388 => ?_)
                                    obtain ⟨hpw388, r388, rfl, hr388⟩ := hp388
                                    replace hpw388 := hpw388.symm
                                    subst hpw388
                                    have kr388 := zrng r388
                                    show zP _ _ _ _ [.int r388, .int y13_342, .ref b964] _ _ _ _ _
                                    refine zr_iast (by decide +kernel) hg68 (zin (by first | omega | decide) (by first | omega | decide)) ?_
                                    show zP (d + 1) zq_X16_sylvester 392 [(0, .ref m), (6, .int v4), (7, .int r288), (8, .int y8_183), (10, .int r303), (11, .int y11_314), (12, .int r333), (13, .int y13_342)] [] (zup wL342 b964 (.inr (0, 48, .inl (upd F65 (y13_342.toNatClampNeg) r388)))) sz 0 0 Post
                                    obtain ⟨w391, ew391⟩ : ∃ wz9, wz9 = zup wL342 b964 (.inr (0, 48, .inl (upd F65 (y13_342.toNatClampNeg) r388))) := ⟨_, rfl⟩
                                    have hsi391 : zSI wL342 w391 := by rw [ew391]; exact zSI.arr _ hg68
                                    have heq391 : ∀ x, x ≠ b964 → w391 x = wL342 x := fun x hx => by rw [ew391]; exact zup_n hx
                                    have hc391 : w391 b964 = some (.inr (0, 48, .inl (upd F65 (y13_342.toNatClampNeg) r388))) := by rw [ew391]; exact zup_s
                                    rw [← ew391]
                                    clear ew391
                                    have hG88 : zGr w391 (m + 100) 48 48 := hGl.st hg67 heq391 hc391 (zall_up hg69 (by exact hr388.1))
                                    refine zp_seg (pc' := 395) (lv' := [(13, .int (y13_342 + 1)), (0, .ref m), (6, .int v4), (7, .int r288), (8, .int y8_183), (10, .int r303), (11, .int y11_314), (12, .int r333)]) (st' := []) [(392, .iinc 13 1)] (by decide +kernel) rfl ?_
                                    have k89 := zaddC y13_342 1 (n := 1) (by decide) (by omega) (by omega)
                                    generalize ev395 : (y13_342 + 1 : Int32) = v395 at k89 ⊢
                                    have kv395 := zrng v395
                                    refine zp_seg (pc' := 342) (lv' := [(13, .int v395), (0, .ref m), (6, .int v4), (7, .int r288), (8, .int y8_183), (10, .int r303), (11, .int y11_314), (12, .int r333)]) (st' := []) [(395, .goto (-53))] (by decide +kernel) rfl ?_
                                    have hz90 : (v395.toNatClampNeg : Int) = v395.toInt := znat (by first | omega | decide)
                                    have hb91 : w391 m = some (.inl (15, zMo m g r)) := (heq391 m (by omega)).trans hmL342
                                    exact (ih342 w391 v395 (hsiL342.tr hsi391) (fun x hx => ((heq391 x (by omega)).trans (heqL342 x ⟨hx.1, hx.2⟩))) (by first | assumption | omega | decide) (by first | assumption | omega | decide) hG88 hb91 (by omega)).more (zfa1 rfl (zfa1 rfl (zfa1 rfl (zfa1 rfl (zfa1 rfl (zfa1 rfl (zfa1 rfl (zfa1 rfl (zfa0)))))))))
                              exact (hL342 _ wL314 y8_183 zSI.rf (fun _ _ => rfl) (by first | assumption | omega | decide) (by first | assumption | omega | decide) hGl hmL314 (Nat.lt_succ_self _)).more (zfa1 rfl (zfa1 rfl (zfa1 rfl (zfa1 rfl (zfa1 rfl (zfa1 rfl (zfa1 rfl (zfa1 rfl (zfa0)))))))))
                          have hz92 : (v312.toNatClampNeg : Int) = v312.toInt := znat (by first | omega | decide)
                          exact (hL314 _ wL276 v312 zSI.rf (fun _ _ => rfl) (by first | assumption | omega | decide) (by first | assumption | omega | decide) hGl hmL276 (Nat.lt_succ_self _)).more (zfa1 rfl (zfa1 rfl (zfa1 rfl (zfa1 rfl (zfa1 rfl (zfa1 rfl (zfa0)))))))
                        refine zp_if (i := .if_icmp .eq 43) (c := y9_194 = y8_183) (t := 276) (e := 236) (lv' := [(0, .ref m), (6, .int v4), (7, .int y7_183), (8, .int y8_183), (9, .int y9_194)]) (st' := []) (by decide +kernel) rfl (fun cc233 => ?_) (fun cc233 => ?_)
                        ·
                          have f93 := zeqI cc233
                          exact (hJ276 wL183 y7_183 zSI.rf (fun _ _ => rfl) hGl hmL183 (by
                                first | exact hr271.1 | exact hd7)).more (zfa1 rfl (zfa1 rfl (zfa1 rfl (zfa1 rfl (zfa0)))))
                        ·
                          have f94 := zneI cc233
                          refine zp_seg (pc' := 237) (lv' := [(0, .ref m), (6, .int v4), (7, .int y7_183), (8, .int y8_183), (9, .int y9_194)]) (st' := [.ref m]) [(236, .aload_n 0)] (by decide +kernel) rfl ?_
                          refine zr_get (idx := 483) (k := 38) (v := .ref (m + 100)) (by decide +kernel) (by decide +kernel) hmL183 rfl ?_
                          refine zp_seg (pc' := 242) (lv' := [(0, .ref m), (6, .int v4), (7, .int y7_183), (8, .int y8_183), (9, .int y9_194)]) (st' := [.int y9_194, .ref (m + 100)]) [(240, .iload 9)] (by decide +kernel) rfl ?_
                          obtain ⟨f95, hg96, hg97⟩ := id hGl
                          obtain ⟨b998, F99, hg100, hg101, hg102, hg103⟩ := hg97 (y9_194.toNatClampNeg) (by omega)
                          refine zr_aald (v := .ref b998) (by decide +kernel) hg96 (by decide) (zin (by first | omega | decide) (by first | omega | decide)) (by rw [hg100]; rfl) ?_
                          refine zp_seg (pc' := 246) (lv' := [(10, .ref b998), (0, .ref m), (6, .int v4), (7, .int y7_183), (8, .int y8_183), (9, .int y9_194)]) (st' := [.ref m]) [(243, .astore 10), (245, .aload_n 0)] (by decide +kernel) rfl ?_
                          refine zr_get (idx := 483) (k := 38) (v := .ref (m + 100)) (by decide +kernel) (by decide +kernel) hmL183 rfl ?_
                          refine zp_seg (pc' := 252) (lv' := [(10, .ref b998), (0, .ref m), (6, .int v4), (7, .int y7_183), (8, .int y8_183), (9, .int y9_194)]) (st' := [.ref m, .int y9_194, .ref (m + 100)]) [(249, .iload 9), (251, .aload_n 0)] (by decide +kernel) rfl ?_
                          refine zr_get (idx := 483) (k := 38) (v := .ref (m + 100)) (by decide +kernel) (by decide +kernel) hmL183 rfl ?_
                          refine zp_seg (pc' := 257) (lv' := [(10, .ref b998), (0, .ref m), (6, .int v4), (7, .int y7_183), (8, .int y8_183), (9, .int y9_194)]) (st' := [.int y8_183, .ref (m + 100), .int y9_194, .ref (m + 100)]) [(255, .iload 8)] (by decide +kernel) rfl ?_
                          obtain ⟨f104, hg105, hg106⟩ := id hGl
                          obtain ⟨b9107, F108, hg109, hg110, hg111, hg112⟩ := hg106 (y8_183.toNatClampNeg) (by omega)
                          refine zr_aald (v := .ref b9107) (by decide +kernel) hg105 (by decide) (zin (by first | omega | decide) (by first | omega | decide)) (by rw [hg109]; rfl) ?_
                          obtain ⟨f113, hg114, hg115⟩ := id hGl
                          refine zr_aastA (by decide +kernel) hg114 hg111 (Or.inl ⟨rfl, rfl⟩) (zin (by first | omega | decide) (by first | omega | decide)) ?_
                          show zP (d + 1) zq_X16_sylvester 259 [(10, .ref b998), (0, .ref m), (6, .int v4), (7, .int y7_183), (8, .int y8_183), (9, .int y9_194)] [] (zup wL183 (m + 100) (.inr (7, 48, .inr (va_up f113 (y9_194.toNatClampNeg) (some b9107))))) sz 0 0 Post
                          obtain ⟨w258, ew258⟩ : ∃ wz9, wz9 = zup wL183 (m + 100) (.inr (7, 48, .inr (va_up f113 (y9_194.toNatClampNeg) (some b9107)))) := ⟨_, rfl⟩
                          have hsi258 : zSI wL183 w258 := by rw [ew258]; exact zSI.refs _ hg114 (by decide)
                          have heq258 : ∀ x, x ≠ m + 100 → w258 x = wL183 x := fun x hx => by rw [ew258]; exact zup_n hx
                          have hc258 : w258 (m + 100) = some (.inr (7, 48, .inr (va_up f113 (y9_194.toNatClampNeg) (some b9107)))) := by rw [ew258]; exact zup_s
                          rw [← ew258]
                          clear ew258
                          have hG116 : zGr w258 (m + 100) 48 48 := zGr.sw hg115 hg114 heq258 hc258 hg110 hg111 hg112
                          refine zp_seg (pc' := 260) (lv' := [(10, .ref b998), (0, .ref m), (6, .int v4), (7, .int y7_183), (8, .int y8_183), (9, .int y9_194)]) (st' := [.ref m]) [(259, .aload_n 0)] (by decide +kernel) rfl ?_
                          have hb117 : w258 m = some (.inl (15, zMo m g r)) := (heq258 m (zx_X16_sylvester_0)).trans hmL183
                          refine zr_get (idx := 483) (k := 38) (v := .ref (m + 100)) (by decide +kernel) (by decide +kernel) hb117 rfl ?_
                          refine zp_seg (pc' := 267) (lv' := [(10, .ref b998), (0, .ref m), (6, .int v4), (7, .int y7_183), (8, .int y8_183), (9, .int y9_194)]) (st' := [.ref b998, .int y8_183, .ref (m + 100)]) [(263, .iload 8), (265, .aload 10)] (by decide +kernel) rfl ?_
                          have hb118 : w258 b998 = some (.inr (0, 48, .inl F99)) := (heq258 b998 (by omega)).trans hg102
                          obtain ⟨f119, hg120, hg121⟩ := id hG116
                          refine zr_aastA (by decide +kernel) hg120 hb118 (Or.inl ⟨rfl, rfl⟩) (zin (by first | omega | decide) (by first | omega | decide)) ?_
                          show zP (d + 1) zq_X16_sylvester 268 [(10, .ref b998), (0, .ref m), (6, .int v4), (7, .int y7_183), (8, .int y8_183), (9, .int y9_194)] [] (zup w258 (m + 100) (.inr (7, 48, .inr (va_up f119 (y8_183.toNatClampNeg) (some b998))))) sz 0 0 Post
                          obtain ⟨w267, ew267⟩ : ∃ wz9, wz9 = zup w258 (m + 100) (.inr (7, 48, .inr (va_up f119 (y8_183.toNatClampNeg) (some b998)))) := ⟨_, rfl⟩
                          have hsi267 : zSI w258 w267 := by rw [ew267]; exact zSI.refs _ hg120 (by decide)
                          have heq267 : ∀ x, x ≠ m + 100 → w267 x = w258 x := fun x hx => by rw [ew267]; exact zup_n hx
                          have hc267 : w267 (m + 100) = some (.inr (7, 48, .inr (va_up f119 (y8_183.toNatClampNeg) (some b998)))) := by rw [ew267]; exact zup_s
                          rw [← ew267]
                          clear ew267
                          have hG122 : zGr w267 (m + 100) 48 48 := zGr.sw hg121 hg120 heq267 hc267 hg101 hb118 hg103
                          refine zp_seg (pc' := 271) (lv' := [(10, .ref b998), (0, .ref m), (6, .int v4), (7, .int y7_183), (8, .int y8_183), (9, .int y9_194)]) (st' := [.int y7_183, .int 0]) [(268, .iconst 0), (269, .iload 7)] (by decide +kernel) rfl ?_
                          refine zr_callS (idx := 46) (j := 256) (by decide +kernel) (by decide +kernel) (by decide) (show zMe 256 = some zq_X16_sub from rfl) rfl rfl (Nat.le_of_ble_eq_true rfl) rfl rfl (Nat.le_of_ble_eq_true rfl) (Nat.le_of_ble_eq_true rfl) (c_X16_sub (w := w267) 0 y7_183 (by exact zr1_0) (by exact hd7)) (by omega) (fun v271 w271 hp271 => ?_)
                          obtain ⟨hpw271, r271, rfl, hr271⟩ := hp271
                          replace hpw271 := hpw271.symm
                          subst hpw271
                          have kr271 := zrng r271
                          show zP _ _ _ _ [.int r271] _ _ _ _ _
                          refine zp_seg (pc' := 276) (lv' := [(7, .int r271), (10, .ref b998), (0, .ref m), (6, .int v4), (8, .int y8_183), (9, .int y9_194)]) (st' := []) [(274, .istore 7)] (by decide +kernel) rfl ?_
                          have hb123 : w267 m = some (.inl (15, zMo m g r)) := (heq267 m (zx_X16_sylvester_0)).trans hb117
                          exact (hJ276 w267 r271 (hsi258.tr hsi267) (fun x hx => ((heq267 x (zx_X16_sylvester_1 hx.1)).trans (heq258 x (zx_X16_sylvester_1 hx.1)))) hG122 hb123 (by
                                first | exact hr271.1 | exact hd7)).more (zfa1 rfl (zfa1 rfl (zfa1 rfl (zfa1 rfl (zfa0)))))
                      ·
                        replace cc224 := Classical.not_not.mp cc224
                        have f124 := zeqI cc224
                        refine zp_seg (pc' := 228) (lv' := [(0, .ref m), (6, .int v4), (7, .int y7_183), (8, .int y8_183), (9, .int y9_194)]) (st' := [.int 0]) [(227, .iconst 0)] (by decide +kernel) rfl ?_
                        have hmend : wL183 m = w m := by rw [hmL183, hm]
                        have hoffend : ∀ x, (x < m + 100 ∨ m + 100 + 49 ≤ x) → wL183 x = w x := fun x hx => by
                            by_cases ex : x = m
                            · rw [ex]; exact hmend
                            · exact ((heqL183 x ⟨hx, ex⟩).trans ((heqL114 x ⟨hx, ex⟩).trans ((heqL52 x ⟨hx, ex⟩).trans (heqL9 x ⟨hx, ex⟩))))
                        refine zr_retI (by decide +kernel) rfl ?_
                        rw [← hPost]; exact ⟨rfl, _, rfl, (((hsiL9.tr hsiL52).tr hsiL114).tr hsiL183), hoffend, hGl, _, rfl, (by
                              first | exact zr1_0 | exact hd7)⟩
                    ·
                      have f125 := znleI cc198
                      refine zp_seg (pc' := 202) (lv' := [(0, .ref m), (6, .int v4), (7, .int y7_183), (8, .int y8_183), (9, .int y9_194)]) (st' := [.ref m]) [(201, .aload_n 0)] (by decide +kernel) rfl ?_
                      refine zr_get (idx := 483) (k := 38) (v := .ref (m + 100)) (by decide +kernel) (by decide +kernel) hmL183 rfl ?_
                      refine zp_seg (pc' := 207) (lv' := [(0, .ref m), (6, .int v4), (7, .int y7_183), (8, .int y8_183), (9, .int y9_194)]) (st' := [.int y9_194, .ref (m + 100)]) [(205, .iload 9)] (by decide +kernel) rfl ?_
                      obtain ⟨f126, hg127, hg128⟩ := id hGl
                      obtain ⟨b9129, F130, hg131, hg132, hg133, hg134⟩ := hg128 (y9_194.toNatClampNeg) (by omega)
                      refine zr_aald (v := .ref b9129) (by decide +kernel) hg127 (by decide) (zin (by first | omega | decide) (by first | omega | decide)) (by rw [hg131]; rfl) ?_
                      refine zp_seg (pc' := 210) (lv' := [(0, .ref m), (6, .int v4), (7, .int y7_183), (8, .int y8_183), (9, .int y9_194)]) (st' := [.int y8_183, .ref b9129]) [(208, .iload 8)] (by decide +kernel) rfl ?_
                      refine zr_iald (by decide +kernel) hg133 (zin (by first | omega | decide) (by first | omega | decide)) ?_
                      obtain ⟨x210, ex210⟩ : ∃ x9, x9 = F130 (y8_183.toNatClampNeg) := ⟨_, rfl⟩
                      rw [← ex210]
                      have kx210 := zrng x210
                      have hvx210 := (fun i hi => (⟨hg134 i hi, trivial⟩ : zr1 (F130 i) ∧ True)) (y8_183.toNatClampNeg) (by omega)
                      rw [← ex210] at hvx210
                      have hwx210 : 0 ≤ x210.toInt ∧ x210.toInt < 2147483647 := hvx210.1
                      refine zp_if (i := .ifCond .ne 9) (c := ¬ x210 = 0) (t := 220) (e := 214) (lv' := [(0, .ref m), (6, .int v4), (7, .int y7_183), (8, .int y8_183), (9, .int y9_194)]) (st' := []) (by decide +kernel) rfl (fun cc211 => ?_) (fun cc211 => ?_)
                      ·
                        have f136 := zneI cc211
                        rw [show (0 : Int32).toInt = 0 from by decide] at f136
                        refine zp_seg (pc' := 224) (lv' := [(0, .ref m), (6, .int v4), (7, .int y7_183), (8, .int y8_183), (9, .int y9_194)]) (st' := [.int v4, .int y9_194]) [(220, .iload 9), (222, .iload 6)] (by decide +kernel) rfl ?_
                        refine zp_if (i := .if_icmp .ne 5) (c := ¬ y9_194 = v4) (t := 229) (e := 227) (lv' := [(0, .ref m), (6, .int v4), (7, .int y7_183), (8, .int y8_183), (9, .int y9_194)]) (st' := []) (by decide +kernel) rfl (fun cc224 => ?_) (fun cc224 => ?_)
                        ·
                          have f137 := zneI cc224
                          refine zp_seg (pc' := 233) (lv' := [(0, .ref m), (6, .int v4), (7, .int y7_183), (8, .int y8_183), (9, .int y9_194)]) (st' := [.int y8_183, .int y9_194]) [(229, .iload 9), (231, .iload 8)] (by decide +kernel) rfl ?_
                          have hJ276 : ∀ (wL276 : zM) (y7_276 : Int32), (zSI wL183 wL276) → (∀ x, ((x < m + 100 ∨ m + 100 + 49 ≤ x)) ∧ x ≠ m → wL276 x = wL183 x) → (zGr wL276 (m + 100) 48 48) → (wL276 m = some (.inl (15, zMo m g r))) → (zr1 y7_276) → zP (d + 1) zq_X16_sylvester 276 [(0, .ref m), (6, .int v4), (7, .int y7_276), (8, .int y8_183)] [] wL276 sz 0 0 Post := by
                            intro wL276 y7_276 hsiL276 heqL276 hGl hmL276 hd7
                            have ky7_276 := zrng y7_276
                            refine zp_seg (pc' := 279) (lv' := [(0, .ref m), (6, .int v4), (7, .int y7_276), (8, .int y8_183)]) (st' := [.ref m, .int y7_276]) [(276, .iload 7), (278, .aload_n 0)] (by decide +kernel) rfl ?_
                            refine zr_get (idx := 483) (k := 38) (v := .ref (m + 100)) (by decide +kernel) (by decide +kernel) hmL276 rfl ?_
                            refine zp_seg (pc' := 284) (lv' := [(0, .ref m), (6, .int v4), (7, .int y7_276), (8, .int y8_183)]) (st' := [.int y8_183, .ref (m + 100), .int y7_276]) [(282, .iload 8)] (by decide +kernel) rfl ?_
                            obtain ⟨f138, hg139, hg140⟩ := id hGl
                            obtain ⟨b9141, F142, hg143, hg144, hg145, hg146⟩ := hg140 (y8_183.toNatClampNeg) (by omega)
                            refine zr_aald (v := .ref b9141) (by decide +kernel) hg139 (by decide) (zin (by first | omega | decide) (by first | omega | decide)) (by rw [hg143]; rfl) ?_
                            refine zp_seg (pc' := 287) (lv' := [(0, .ref m), (6, .int v4), (7, .int y7_276), (8, .int y8_183)]) (st' := [.int y8_183, .ref b9141, .int y7_276]) [(285, .iload 8)] (by decide +kernel) rfl ?_
                            refine zr_iald (by decide +kernel) hg145 (zin (by first | omega | decide) (by first | omega | decide)) ?_
                            obtain ⟨x287, ex287⟩ : ∃ x9, x9 = F142 (y8_183.toNatClampNeg) := ⟨_, rfl⟩
                            rw [← ex287]
                            have kx287 := zrng x287
                            have hvx287 := (fun i hi => (⟨hg146 i hi, trivial⟩ : zr1 (F142 i) ∧ True)) (y8_183.toNatClampNeg) (by omega)
                            rw [← ex287] at hvx287
                            have hwx287 : 0 ≤ x287.toInt ∧ x287.toInt < 2147483647 := hvx287.1
                            refine zr_callS (idx := 56) (j := 257) (by decide +kernel) (by decide +kernel) (by decide) (show zMe 257 = some zq_X16_mul from rfl) rfl rfl (Nat.le_of_ble_eq_true rfl) rfl rfl (Nat.le_of_ble_eq_true rfl) (Nat.le_of_ble_eq_true rfl) (c_X16_mul (w := wL276) y7_276 x287 (by exact hd7) (by first | exact hvx287.1 | omega | decide | assumption | exact zr1_1 | exact zr1_0 | fail "num")) (by omega) (fun v288 w288 hp288 => ?_)
                            obtain ⟨hpw288, r288, rfl, hr288⟩ := hp288
                            replace hpw288 := hpw288.symm
                            subst hpw288
                            have kr288 := zrng r288
                            show zP _ _ _ _ [.int r288] _ _ _ _ _
                            refine zp_seg (pc' := 294) (lv' := [(7, .int r288), (0, .ref m), (6, .int v4), (8, .int y8_183)]) (st' := [.ref m]) [(291, .istore 7), (293, .aload_n 0)] (by decide +kernel) rfl ?_
                            refine zr_get (idx := 483) (k := 38) (v := .ref (m + 100)) (by decide +kernel) (by decide +kernel) hmL276 rfl ?_
                            refine zp_seg (pc' := 299) (lv' := [(7, .int r288), (0, .ref m), (6, .int v4), (8, .int y8_183)]) (st' := [.int y8_183, .ref (m + 100)]) [(297, .iload 8)] (by decide +kernel) rfl ?_
                            obtain ⟨f147, hg148, hg149⟩ := id hGl
                            obtain ⟨b9150, F151, hg152, hg153, hg154, hg155⟩ := hg149 (y8_183.toNatClampNeg) (by omega)
                            refine zr_aald (v := .ref b9150) (by decide +kernel) hg148 (by decide) (zin (by first | omega | decide) (by first | omega | decide)) (by rw [hg152]; rfl) ?_
                            refine zp_seg (pc' := 302) (lv' := [(7, .int r288), (0, .ref m), (6, .int v4), (8, .int y8_183)]) (st' := [.int y8_183, .ref b9150]) [(300, .iload 8)] (by decide +kernel) rfl ?_
                            refine zr_iald (by decide +kernel) hg154 (zin (by first | omega | decide) (by first | omega | decide)) ?_
                            obtain ⟨x302, ex302⟩ : ∃ x9, x9 = F151 (y8_183.toNatClampNeg) := ⟨_, rfl⟩
                            rw [← ex302]
                            have kx302 := zrng x302
                            have hvx302 := (fun i hi => (⟨hg155 i hi, trivial⟩ : zr1 (F151 i) ∧ True)) (y8_183.toNatClampNeg) (by omega)
                            rw [← ex302] at hvx302
                            have hwx302 : 0 ≤ x302.toInt ∧ x302.toInt < 2147483647 := hvx302.1
                            refine zr_callS (idx := 13) (j := 259) (by decide +kernel) (by decide +kernel) (by decide) (show zMe 259 = some zq_X16_inv from rfl) rfl rfl (Nat.le_of_ble_eq_true rfl) rfl rfl (Nat.le_of_ble_eq_true rfl) (Nat.le_of_ble_eq_true rfl) (c_X16_inv (w := wL276) x302 (by first | exact hvx302.1 | omega | decide | assumption | exact zr1_1 | exact zr1_0 | fail "num")) (by omega) (fun v303 w303 hp303 => ?_)
                            obtain ⟨hpw303, r303, rfl, hr303⟩ := hp303
                            replace hpw303 := hpw303.symm
                            subst hpw303
                            have kr303 := zrng r303
                            show zP _ _ _ _ [.int r303] _ _ _ _ _
                            refine zp_seg (pc' := 312) (lv' := [(10, .int r303), (7, .int r288), (0, .ref m), (6, .int v4), (8, .int y8_183)]) (st' := [.int (y8_183 + 1)]) [(306, .istore 10), (308, .iload 8), (310, .iconst 1), (311, .iadd)] (by decide +kernel) rfl ?_
                            have k156 := zaddC y8_183 1 (n := 1) (by decide) (by omega) (by omega)
                            generalize ev312 : (y8_183 + 1 : Int32) = v312 at k156 ⊢
                            have kv312 := zrng v312
                            refine zp_seg (pc' := 314) (lv' := [(11, .int v312), (10, .int r303), (7, .int r288), (0, .ref m), (6, .int v4), (8, .int y8_183)]) (st' := []) [(312, .istore 11)] (by decide +kernel) rfl ?_
                            have hL314 : ∀ (mm314 : Nat) (wL314 : zM) (y11_314 : Int32), (zSI wL276 wL314) → (∀ x, ((x < m + 100 ∨ m + 100 + 49 ≤ x)) ∧ x ≠ m → wL314 x = wL276 x) → (0 ≤ y11_314.toInt) → (y11_314.toInt ≤ mm.toInt + nn.toInt) → (zGr wL314 (m + 100) 48 48) → (wL314 m = some (.inl (15, zMo m g r))) → (60 - y11_314.toInt).toNat < mm314 → zP (d + 1) zq_X16_sylvester 314 [(0, .ref m), (6, .int v4), (7, .int r288), (8, .int y8_183), (10, .int r303), (11, .int y11_314)] [] wL314 sz 0 0 Post := by
                              intro mm314
                              induction mm314 with
                              | zero => intros; omega
                              | succ mm314 ih314 =>
                              intro wL314 y11_314 hsiL314 heqL314 hi314_0 hi314_1 hGl hmL314 hmu314
                              have ky11_314 := zrng y11_314
                              have hz157 : (y11_314.toNatClampNeg : Int) = y11_314.toInt := znat (by first | omega | decide)
                              refine zp_seg (pc' := 318) (lv' := [(0, .ref m), (6, .int v4), (7, .int r288), (8, .int y8_183), (10, .int r303), (11, .int y11_314)]) (st' := [.int v4, .int y11_314]) [(314, .iload 11), (316, .iload 6)] (by decide +kernel) rfl ?_
                              refine zp_if (i := .if_icmp .ge 86) (c := v4 ≤ y11_314) (t := 404) (e := 321) (lv' := [(0, .ref m), (6, .int v4), (7, .int r288), (8, .int y8_183), (10, .int r303), (11, .int y11_314)]) (st' := []) (by decide +kernel) rfl (fun cc318 => ?_) (fun cc318 => ?_)
                              ·
                                have f158 := zleI cc318
                                refine zp_seg (pc' := 407) (lv' := [(8, .int (y8_183 + 1)), (0, .ref m), (6, .int v4), (7, .int r288), (10, .int r303), (11, .int y11_314)]) (st' := []) [(404, .iinc 8 1)] (by decide +kernel) rfl ?_
                                have k159 := zaddC y8_183 1 (n := 1) (by decide) (by omega) (by omega)
                                generalize ev407 : (y8_183 + 1 : Int32) = v407 at k159 ⊢
                                have kv407 := zrng v407
                                refine zp_seg (pc' := 183) (lv' := [(8, .int v407), (0, .ref m), (6, .int v4), (7, .int r288), (10, .int r303), (11, .int y11_314)]) (st' := []) [(407, .goto (-224))] (by decide +kernel) rfl ?_
                                have hz160 : (v407.toNatClampNeg : Int) = v407.toInt := znat (by first | omega | decide)
                                exact (ih183 wL314 r288 v407 ((hsiL183.tr hsiL276).tr hsiL314) (fun x hx => ((heqL314 x ⟨hx.1, hx.2⟩).trans ((heqL276 x ⟨hx.1, hx.2⟩).trans (heqL183 x ⟨hx.1, hx.2⟩)))) (by first | assumption | omega | decide) (by first | assumption | omega | decide) hGl hmL314 (by
                                      exact hr288.1) (by omega)).more (zfa1 rfl (zfa1 rfl (zfa1 rfl (zfa1 rfl (zfa0)))))
                              ·
                                have f161 := znleI cc318
                                refine zp_seg (pc' := 322) (lv' := [(0, .ref m), (6, .int v4), (7, .int r288), (8, .int y8_183), (10, .int r303), (11, .int y11_314)]) (st' := [.ref m]) [(321, .aload_n 0)] (by decide +kernel) rfl ?_
                                refine zr_get (idx := 483) (k := 38) (v := .ref (m + 100)) (by decide +kernel) (by decide +kernel) hmL314 rfl ?_
                                refine zp_seg (pc' := 327) (lv' := [(0, .ref m), (6, .int v4), (7, .int r288), (8, .int y8_183), (10, .int r303), (11, .int y11_314)]) (st' := [.int y11_314, .ref (m + 100)]) [(325, .iload 11)] (by decide +kernel) rfl ?_
                                obtain ⟨f162, hg163, hg164⟩ := id hGl
                                obtain ⟨b9165, F166, hg167, hg168, hg169, hg170⟩ := hg164 (y11_314.toNatClampNeg) (by omega)
                                refine zr_aald (v := .ref b9165) (by decide +kernel) hg163 (by decide) (zin (by first | omega | decide) (by first | omega | decide)) (by rw [hg167]; rfl) ?_
                                refine zp_seg (pc' := 330) (lv' := [(0, .ref m), (6, .int v4), (7, .int r288), (8, .int y8_183), (10, .int r303), (11, .int y11_314)]) (st' := [.int y8_183, .ref b9165]) [(328, .iload 8)] (by decide +kernel) rfl ?_
                                refine zr_iald (by decide +kernel) hg169 (zin (by first | omega | decide) (by first | omega | decide)) ?_
                                obtain ⟨x330, ex330⟩ : ∃ x9, x9 = F166 (y8_183.toNatClampNeg) := ⟨_, rfl⟩
                                rw [← ex330]
                                have kx330 := zrng x330
                                have hvx330 := (fun i hi => (⟨hg170 i hi, trivial⟩ : zr1 (F166 i) ∧ True)) (y8_183.toNatClampNeg) (by omega)
                                rw [← ex330] at hvx330
                                have hwx330 : 0 ≤ x330.toInt ∧ x330.toInt < 2147483647 := hvx330.1
                                refine zp_seg (pc' := 333) (lv' := [(0, .ref m), (6, .int v4), (7, .int r288), (8, .int y8_183), (10, .int r303), (11, .int y11_314)]) (st' := [.int r303, .int x330]) [(331, .iload 10)] (by decide +kernel) rfl ?_
                                refine zr_callS (idx := 56) (j := 257) (by decide +kernel) (by decide +kernel) (by decide) (show zMe 257 = some zq_X16_mul from rfl) rfl rfl (Nat.le_of_ble_eq_true rfl) rfl rfl (Nat.le_of_ble_eq_true rfl) (Nat.le_of_ble_eq_true rfl) (c_X16_mul (w := wL314) x330 r303 (by first | exact hvx330.1 | omega | decide | assumption | exact zr1_1 | exact zr1_0 | fail "num") (by exact hr303.1)) (by omega) (fun v333 w333 hp333 => ?_)
                                obtain ⟨hpw333, r333, rfl, hr333⟩ := hp333
                                replace hpw333 := hpw333.symm
                                subst hpw333
                                have kr333 := zrng r333
                                show zP _ _ _ _ [.int r333] _ _ _ _ _
                                refine zp_seg (pc' := 342) (lv' := [(13, .int y8_183), (12, .int r333), (0, .ref m), (6, .int v4), (7, .int r288), (8, .int y8_183), (10, .int r303), (11, .int y11_314)]) (st' := []) [(336, .istore 12), (338, .iload 8), (340, .istore 13)] (by decide +kernel) rfl ?_
                                have hL342 : ∀ (mm342 : Nat) (wL342 : zM) (y13_342 : Int32), (zSI wL314 wL342) → (∀ x, ((x < m + 100 ∨ m + 100 + 49 ≤ x)) ∧ x ≠ m → wL342 x = wL314 x) → (0 ≤ y13_342.toInt) → (y13_342.toInt ≤ mm.toInt + nn.toInt) → (zGr wL342 (m + 100) 48 48) → (wL342 m = some (.inl (15, zMo m g r))) → (60 - y13_342.toInt).toNat < mm342 → zP (d + 1) zq_X16_sylvester 342 [(0, .ref m), (6, .int v4), (7, .int r288), (8, .int y8_183), (10, .int r303), (11, .int y11_314), (12, .int r333), (13, .int y13_342)] [] wL342 sz 0 0 Post := by
                                  intro mm342
                                  induction mm342 with
                                  | zero => intros; omega
                                  | succ mm342 ih342 =>
                                  intro wL342 y13_342 hsiL342 heqL342 hi342_0 hi342_1 hGl hmL342 hmu342
                                  have ky13_342 := zrng y13_342
                                  have hz171 : (y13_342.toNatClampNeg : Int) = y13_342.toInt := znat (by first | omega | decide)
                                  refine zp_seg (pc' := 346) (lv' := [(0, .ref m), (6, .int v4), (7, .int r288), (8, .int y8_183), (10, .int r303), (11, .int y11_314), (12, .int r333), (13, .int y13_342)]) (st' := [.int v4, .int y13_342]) [(342, .iload 13), (344, .iload 6)] (by decide +kernel) rfl ?_
                                  refine zp_if (i := .if_icmp .ge 52) (c := v4 ≤ y13_342) (t := 398) (e := 349) (lv' := [(0, .ref m), (6, .int v4), (7, .int r288), (8, .int y8_183), (10, .int r303), (11, .int y11_314), (12, .int r333), (13, .int y13_342)]) (st' := []) (by decide +kernel) rfl (fun cc346 => ?_) (fun cc346 => ?_)
                                  ·
                                    have f172 := zleI cc346
                                    refine zp_seg (pc' := 401) (lv' := [(11, .int (y11_314 + 1)), (0, .ref m), (6, .int v4), (7, .int r288), (8, .int y8_183), (10, .int r303), (12, .int r333), (13, .int y13_342)]) (st' := []) [(398, .iinc 11 1)] (by decide +kernel) rfl ?_
                                    have k173 := zaddC y11_314 1 (n := 1) (by decide) (by omega) (by omega)
                                    generalize ev401 : (y11_314 + 1 : Int32) = v401 at k173 ⊢
                                    have kv401 := zrng v401
                                    refine zp_seg (pc' := 314) (lv' := [(11, .int v401), (0, .ref m), (6, .int v4), (7, .int r288), (8, .int y8_183), (10, .int r303), (12, .int r333), (13, .int y13_342)]) (st' := []) [(401, .goto (-87))] (by decide +kernel) rfl ?_
                                    have hz174 : (v401.toNatClampNeg : Int) = v401.toInt := znat (by first | omega | decide)
                                    exact (ih314 wL342 v401 (hsiL314.tr hsiL342) (fun x hx => ((heqL342 x ⟨hx.1, hx.2⟩).trans (heqL314 x ⟨hx.1, hx.2⟩))) (by first | assumption | omega | decide) (by first | assumption | omega | decide) hGl hmL342 (by omega)).more (zfa1 rfl (zfa1 rfl (zfa1 rfl (zfa1 rfl (zfa1 rfl (zfa1 rfl (zfa0)))))))
                                  ·
                                    have f175 := znleI cc346
                                    refine zp_seg (pc' := 351) (lv' := [(0, .ref m), (6, .int v4), (7, .int r288), (8, .int y8_183), (10, .int r303), (11, .int y11_314), (12, .int r333), (13, .int y13_342)]) (st' := [.int r333]) [(349, .iload 12)] (by decide +kernel) rfl ?_
                                    refine zp_if (i := .ifCond .eq 47) (c := r333 = 0) (t := 398) (e := 354) (lv' := [(0, .ref m), (6, .int v4), (7, .int r288), (8, .int y8_183), (10, .int r303), (11, .int y11_314), (12, .int r333), (13, .int y13_342)]) (st' := []) (by decide +kernel) rfl (fun cc351 => ?_) (fun cc351 => ?_)
                                    ·
                                      have f176 := zeqI cc351
                                      rw [show (0 : Int32).toInt = 0 from by decide] at f176
                                      refine zp_seg (pc' := 401) (lv' := [(11, .int (y11_314 + 1)), (0, .ref m), (6, .int v4), (7, .int r288), (8, .int y8_183), (10, .int r303), (12, .int r333), (13, .int y13_342)]) (st' := []) [(398, .iinc 11 1)] (by decide +kernel) rfl ?_
                                      have k177 := zaddC y11_314 1 (n := 1) (by decide) (by omega) (by omega)
                                      generalize ev401 : (y11_314 + 1 : Int32) = v401 at k177 ⊢
                                      have kv401 := zrng v401
                                      refine zp_seg (pc' := 314) (lv' := [(11, .int v401), (0, .ref m), (6, .int v4), (7, .int r288), (8, .int y8_183), (10, .int r303), (12, .int r333), (13, .int y13_342)]) (st' := []) [(401, .goto (-87))] (by decide +kernel) rfl ?_
                                      have hz178 : (v401.toNatClampNeg : Int) = v401.toInt := znat (by first | omega | decide)
                                      exact (ih314 wL342 v401 (hsiL314.tr hsiL342) (fun x hx => ((heqL342 x ⟨hx.1, hx.2⟩).trans (heqL314 x ⟨hx.1, hx.2⟩))) (by first | assumption | omega | decide) (by first | assumption | omega | decide) hGl hmL342 (by omega)).more (zfa1 rfl (zfa1 rfl (zfa1 rfl (zfa1 rfl (zfa1 rfl (zfa1 rfl (zfa0)))))))
                                    ·
                                      have f179 := zneI cc351
                                      rw [show (0 : Int32).toInt = 0 from by decide] at f179
                                      refine zp_seg (pc' := 355) (lv' := [(0, .ref m), (6, .int v4), (7, .int r288), (8, .int y8_183), (10, .int r303), (11, .int y11_314), (12, .int r333), (13, .int y13_342)]) (st' := [.ref m]) [(354, .aload_n 0)] (by decide +kernel) rfl ?_
                                      refine zr_get (idx := 483) (k := 38) (v := .ref (m + 100)) (by decide +kernel) (by decide +kernel) hmL342 rfl ?_
                                      refine zp_seg (pc' := 360) (lv' := [(0, .ref m), (6, .int v4), (7, .int r288), (8, .int y8_183), (10, .int r303), (11, .int y11_314), (12, .int r333), (13, .int y13_342)]) (st' := [.int y11_314, .ref (m + 100)]) [(358, .iload 11)] (by decide +kernel) rfl ?_
                                      obtain ⟨f180, hg181, hg182⟩ := id hGl
                                      obtain ⟨b9183, F184, hg185, hg186, hg187, hg188⟩ := hg182 (y11_314.toNatClampNeg) (by omega)
                                      refine zr_aald (v := .ref b9183) (by decide +kernel) hg181 (by decide) (zin (by first | omega | decide) (by first | omega | decide)) (by rw [hg185]; rfl) ?_
                                      refine zp_seg (pc' := 364) (lv' := [(0, .ref m), (6, .int v4), (7, .int r288), (8, .int y8_183), (10, .int r303), (11, .int y11_314), (12, .int r333), (13, .int y13_342)]) (st' := [.ref m, .int y13_342, .ref b9183]) [(361, .iload 13), (363, .aload_n 0)] (by decide +kernel) rfl ?_
                                      refine zr_get (idx := 483) (k := 38) (v := .ref (m + 100)) (by decide +kernel) (by decide +kernel) hmL342 rfl ?_
                                      refine zp_seg (pc' := 369) (lv' := [(0, .ref m), (6, .int v4), (7, .int r288), (8, .int y8_183), (10, .int r303), (11, .int y11_314), (12, .int r333), (13, .int y13_342)]) (st' := [.int y11_314, .ref (m + 100), .int y13_342, .ref b9183]) [(367, .iload 11)] (by decide +kernel) rfl ?_
                                      obtain ⟨f189, hg190, hg191⟩ := id hGl
                                      obtain ⟨b9192, F193, hg194, hg195, hg196, hg197⟩ := hg191 (y11_314.toNatClampNeg) (by omega)
                                      refine zr_aald (v := .ref b9192) (by decide +kernel) hg190 (by decide) (zin (by first | omega | decide) (by first | omega | decide)) (by rw [hg194]; rfl) ?_
                                      refine zp_seg (pc' := 372) (lv' := [(0, .ref m), (6, .int v4), (7, .int r288), (8, .int y8_183), (10, .int r303), (11, .int y11_314), (12, .int r333), (13, .int y13_342)]) (st' := [.int y13_342, .ref b9192, .int y13_342, .ref b9183]) [(370, .iload 13)] (by decide +kernel) rfl ?_
                                      refine zr_iald (by decide +kernel) hg196 (zin (by first | omega | decide) (by first | omega | decide)) ?_
                                      obtain ⟨x372, ex372⟩ : ∃ x9, x9 = F193 (y13_342.toNatClampNeg) := ⟨_, rfl⟩
                                      rw [← ex372]
                                      have kx372 := zrng x372
                                      have hvx372 := (fun i hi => (⟨hg197 i hi, trivial⟩ : zr1 (F193 i) ∧ True)) (y13_342.toNatClampNeg) (by omega)
                                      rw [← ex372] at hvx372
                                      have hwx372 : 0 ≤ x372.toInt ∧ x372.toInt < 2147483647 := hvx372.1
                                      refine zp_seg (pc' := 376) (lv' := [(0, .ref m), (6, .int v4), (7, .int r288), (8, .int y8_183), (10, .int r303), (11, .int y11_314), (12, .int r333), (13, .int y13_342)]) (st' := [.ref m, .int r333, .int x372, .int y13_342, .ref b9183]) [(373, .iload 12), (375, .aload_n 0)] (by decide +kernel) rfl ?_
                                      refine zr_get (idx := 483) (k := 38) (v := .ref (m + 100)) (by decide +kernel) (by decide +kernel) hmL342 rfl ?_
                                      refine zp_seg (pc' := 381) (lv' := [(0, .ref m), (6, .int v4), (7, .int r288), (8, .int y8_183), (10, .int r303), (11, .int y11_314), (12, .int r333), (13, .int y13_342)]) (st' := [.int y8_183, .ref (m + 100), .int r333, .int x372, .int y13_342, .ref b9183]) [(379, .iload 8)] (by decide +kernel) rfl ?_
                                      obtain ⟨f198, hg199, hg200⟩ := id hGl
                                      obtain ⟨b9201, F202, hg203, hg204, hg205, hg206⟩ := hg200 (y8_183.toNatClampNeg) (by omega)
                                      refine zr_aald (v := .ref b9201) (by decide +kernel) hg199 (by decide) (zin (by first | omega | decide) (by first | omega | decide)) (by rw [hg203]; rfl) ?_
                                      refine zp_seg (pc' := 384) (lv' := [(0, .ref m), (6, .int v4), (7, .int r288), (8, .int y8_183), (10, .int r303), (11, .int y11_314), (12, .int r333), (13, .int y13_342)]) (st' := [.int y13_342, .ref b9201, .int r333, .int x372, .int y13_342, .ref b9183]) [(382, .iload 13)] (by decide +kernel) rfl ?_
                                      refine zr_iald (by decide +kernel) hg205 (zin (by first | omega | decide) (by first | omega | decide)) ?_
                                      obtain ⟨x384, ex384⟩ : ∃ x9, x9 = F202 (y13_342.toNatClampNeg) := ⟨_, rfl⟩
                                      rw [← ex384]
                                      have kx384 := zrng x384
                                      have hvx384 := (fun i hi => (⟨hg206 i hi, trivial⟩ : zr1 (F202 i) ∧ True)) (y13_342.toNatClampNeg) (by omega)
                                      rw [← ex384] at hvx384
                                      have hwx384 : 0 ≤ x384.toInt ∧ x384.toInt < 2147483647 := hvx384.1
                                      refine zr_callS (idx := 56) (j := 257) (by decide +kernel) (by decide +kernel) (by decide) (show zMe 257 = some zq_X16_mul from rfl) rfl rfl (Nat.le_of_ble_eq_true rfl) rfl rfl (Nat.le_of_ble_eq_true rfl) (Nat.le_of_ble_eq_true rfl) (c_X16_mul (w := wL342) r333 x384 (by exact hr333.1) (by first | exact hvx384.1 | omega | decide | assumption | exact zr1_1 | exact zr1_0 | fail "num")) (by omega) (fun v385 w385 hp385 => ?_)
                                      obtain ⟨hpw385, r385, rfl, hr385⟩ := hp385
                                      replace hpw385 := hpw385.symm
                                      subst hpw385
                                      have kr385 := zrng r385
                                      show zP _ _ _ _ [.int r385, .int x372, .int y13_342, .ref b9183] _ _ _ _ _
                                      refine zr_callS (idx := 46) (j := 256) (by decide +kernel) (by decide +kernel) (by decide) (show zMe 256 = some zq_X16_sub from rfl) rfl rfl (Nat.le_of_ble_eq_true rfl) rfl rfl (Nat.le_of_ble_eq_true rfl) (Nat.le_of_ble_eq_true rfl) (c_X16_sub (w := wL342) x372 r385 (by first | exact hvx372.1 | omega | decide | assumption | exact zr1_1 | exact zr1_0 | fail "num") (by first | exact hr385.1 | omega | decide | assumption | exact zr1_1 | exact zr1_0 | fail "num")) (by omega) (fun v388 w388 hp388 => ?_)
                                      obtain ⟨hpw388, r388, rfl, hr388⟩ := hp388
                                      replace hpw388 := hpw388.symm
                                      subst hpw388
                                      have kr388 := zrng r388
                                      show zP _ _ _ _ [.int r388, .int y13_342, .ref b9183] _ _ _ _ _
                                      refine zr_iast (by decide +kernel) hg187 (zin (by first | omega | decide) (by first | omega | decide)) ?_
                                      show zP (d + 1) zq_X16_sylvester 392 [(0, .ref m), (6, .int v4), (7, .int r288), (8, .int y8_183), (10, .int r303), (11, .int y11_314), (12, .int r333), (13, .int y13_342)] [] (zup wL342 b9183 (.inr (0, 48, .inl (upd F184 (y13_342.toNatClampNeg) r388)))) sz 0 0 Post
                                      obtain ⟨w391, ew391⟩ : ∃ wz9, wz9 = zup wL342 b9183 (.inr (0, 48, .inl (upd F184 (y13_342.toNatClampNeg) r388))) := ⟨_, rfl⟩
                                      have hsi391 : zSI wL342 w391 := by rw [ew391]; exact zSI.arr _ hg187
                                      have heq391 : ∀ x, x ≠ b9183 → w391 x = wL342 x := fun x hx => by rw [ew391]; exact zup_n hx
                                      have hc391 : w391 b9183 = some (.inr (0, 48, .inl (upd F184 (y13_342.toNatClampNeg) r388))) := by rw [ew391]; exact zup_s
                                      rw [← ew391]
                                      clear ew391
                                      have hG207 : zGr w391 (m + 100) 48 48 := hGl.st hg186 heq391 hc391 (zall_up hg188 (by exact hr388.1))
                                      refine zp_seg (pc' := 395) (lv' := [(13, .int (y13_342 + 1)), (0, .ref m), (6, .int v4), (7, .int r288), (8, .int y8_183), (10, .int r303), (11, .int y11_314), (12, .int r333)]) (st' := []) [(392, .iinc 13 1)] (by decide +kernel) rfl ?_
                                      have k208 := zaddC y13_342 1 (n := 1) (by decide) (by omega) (by omega)
                                      generalize ev395 : (y13_342 + 1 : Int32) = v395 at k208 ⊢
                                      have kv395 := zrng v395
                                      refine zp_seg (pc' := 342) (lv' := [(13, .int v395), (0, .ref m), (6, .int v4), (7, .int r288), (8, .int y8_183), (10, .int r303), (11, .int y11_314), (12, .int r333)]) (st' := []) [(395, .goto (-53))] (by decide +kernel) rfl ?_
                                      have hz209 : (v395.toNatClampNeg : Int) = v395.toInt := znat (by first | omega | decide)
                                      have hb210 : w391 m = some (.inl (15, zMo m g r)) := (heq391 m (by omega)).trans hmL342
                                      exact (ih342 w391 v395 (hsiL342.tr hsi391) (fun x hx => ((heq391 x (by omega)).trans (heqL342 x ⟨hx.1, hx.2⟩))) (by first | assumption | omega | decide) (by first | assumption | omega | decide) hG207 hb210 (by omega)).more (zfa1 rfl (zfa1 rfl (zfa1 rfl (zfa1 rfl (zfa1 rfl (zfa1 rfl (zfa1 rfl (zfa1 rfl (zfa0)))))))))
                                exact (hL342 _ wL314 y8_183 zSI.rf (fun _ _ => rfl) (by first | assumption | omega | decide) (by first | assumption | omega | decide) hGl hmL314 (Nat.lt_succ_self _)).more (zfa1 rfl (zfa1 rfl (zfa1 rfl (zfa1 rfl (zfa1 rfl (zfa1 rfl (zfa1 rfl (zfa1 rfl (zfa0)))))))))
                            have hz211 : (v312.toNatClampNeg : Int) = v312.toInt := znat (by first | omega | decide)
                            exact (hL314 _ wL276 v312 zSI.rf (fun _ _ => rfl) (by first | assumption | omega | decide) (by first | assumption | omega | decide) hGl hmL276 (Nat.lt_succ_self _)).more (zfa1 rfl (zfa1 rfl (zfa1 rfl (zfa1 rfl (zfa1 rfl (zfa1 rfl (zfa0)))))))
                          refine zp_if (i := .if_icmp .eq 43) (c := y9_194 = y8_183) (t := 276) (e := 236) (lv' := [(0, .ref m), (6, .int v4), (7, .int y7_183), (8, .int y8_183), (9, .int y9_194)]) (st' := []) (by decide +kernel) rfl (fun cc233 => ?_) (fun cc233 => ?_)
                          ·
                            have f212 := zeqI cc233
                            exact (hJ276 wL183 y7_183 zSI.rf (fun _ _ => rfl) hGl hmL183 (by
                                  first | exact hr271.1 | exact hd7)).more (zfa1 rfl (zfa1 rfl (zfa1 rfl (zfa1 rfl (zfa0)))))
                          ·
                            have f213 := zneI cc233
                            refine zp_seg (pc' := 237) (lv' := [(0, .ref m), (6, .int v4), (7, .int y7_183), (8, .int y8_183), (9, .int y9_194)]) (st' := [.ref m]) [(236, .aload_n 0)] (by decide +kernel) rfl ?_
                            refine zr_get (idx := 483) (k := 38) (v := .ref (m + 100)) (by decide +kernel) (by decide +kernel) hmL183 rfl ?_
                            refine zp_seg (pc' := 242) (lv' := [(0, .ref m), (6, .int v4), (7, .int y7_183), (8, .int y8_183), (9, .int y9_194)]) (st' := [.int y9_194, .ref (m + 100)]) [(240, .iload 9)] (by decide +kernel) rfl ?_
                            obtain ⟨f214, hg215, hg216⟩ := id hGl
                            obtain ⟨b9217, F218, hg219, hg220, hg221, hg222⟩ := hg216 (y9_194.toNatClampNeg) (by omega)
                            refine zr_aald (v := .ref b9217) (by decide +kernel) hg215 (by decide) (zin (by first | omega | decide) (by first | omega | decide)) (by rw [hg219]; rfl) ?_
                            refine zp_seg (pc' := 246) (lv' := [(10, .ref b9217), (0, .ref m), (6, .int v4), (7, .int y7_183), (8, .int y8_183), (9, .int y9_194)]) (st' := [.ref m]) [(243, .astore 10), (245, .aload_n 0)] (by decide +kernel) rfl ?_
                            refine zr_get (idx := 483) (k := 38) (v := .ref (m + 100)) (by decide +kernel) (by decide +kernel) hmL183 rfl ?_
                            refine zp_seg (pc' := 252) (lv' := [(10, .ref b9217), (0, .ref m), (6, .int v4), (7, .int y7_183), (8, .int y8_183), (9, .int y9_194)]) (st' := [.ref m, .int y9_194, .ref (m + 100)]) [(249, .iload 9), (251, .aload_n 0)] (by decide +kernel) rfl ?_
                            refine zr_get (idx := 483) (k := 38) (v := .ref (m + 100)) (by decide +kernel) (by decide +kernel) hmL183 rfl ?_
                            refine zp_seg (pc' := 257) (lv' := [(10, .ref b9217), (0, .ref m), (6, .int v4), (7, .int y7_183), (8, .int y8_183), (9, .int y9_194)]) (st' := [.int y8_183, .ref (m + 100), .int y9_194, .ref (m + 100)]) [(255, .iload 8)] (by decide +kernel) rfl ?_
                            obtain ⟨f223, hg224, hg225⟩ := id hGl
                            obtain ⟨b9226, F227, hg228, hg229, hg230, hg231⟩ := hg225 (y8_183.toNatClampNeg) (by omega)
                            refine zr_aald (v := .ref b9226) (by decide +kernel) hg224 (by decide) (zin (by first | omega | decide) (by first | omega | decide)) (by rw [hg228]; rfl) ?_
                            obtain ⟨f232, hg233, hg234⟩ := id hGl
                            refine zr_aastA (by decide +kernel) hg233 hg230 (Or.inl ⟨rfl, rfl⟩) (zin (by first | omega | decide) (by first | omega | decide)) ?_
                            show zP (d + 1) zq_X16_sylvester 259 [(10, .ref b9217), (0, .ref m), (6, .int v4), (7, .int y7_183), (8, .int y8_183), (9, .int y9_194)] [] (zup wL183 (m + 100) (.inr (7, 48, .inr (va_up f232 (y9_194.toNatClampNeg) (some b9226))))) sz 0 0 Post
                            obtain ⟨w258, ew258⟩ : ∃ wz9, wz9 = zup wL183 (m + 100) (.inr (7, 48, .inr (va_up f232 (y9_194.toNatClampNeg) (some b9226)))) := ⟨_, rfl⟩
                            have hsi258 : zSI wL183 w258 := by rw [ew258]; exact zSI.refs _ hg233 (by decide)
                            have heq258 : ∀ x, x ≠ m + 100 → w258 x = wL183 x := fun x hx => by rw [ew258]; exact zup_n hx
                            have hc258 : w258 (m + 100) = some (.inr (7, 48, .inr (va_up f232 (y9_194.toNatClampNeg) (some b9226)))) := by rw [ew258]; exact zup_s
                            rw [← ew258]
                            clear ew258
                            have hG235 : zGr w258 (m + 100) 48 48 := zGr.sw hg234 hg233 heq258 hc258 hg229 hg230 hg231
                            refine zp_seg (pc' := 260) (lv' := [(10, .ref b9217), (0, .ref m), (6, .int v4), (7, .int y7_183), (8, .int y8_183), (9, .int y9_194)]) (st' := [.ref m]) [(259, .aload_n 0)] (by decide +kernel) rfl ?_
                            have hb236 : w258 m = some (.inl (15, zMo m g r)) := (heq258 m (zx_X16_sylvester_0)).trans hmL183
                            refine zr_get (idx := 483) (k := 38) (v := .ref (m + 100)) (by decide +kernel) (by decide +kernel) hb236 rfl ?_
                            refine zp_seg (pc' := 267) (lv' := [(10, .ref b9217), (0, .ref m), (6, .int v4), (7, .int y7_183), (8, .int y8_183), (9, .int y9_194)]) (st' := [.ref b9217, .int y8_183, .ref (m + 100)]) [(263, .iload 8), (265, .aload 10)] (by decide +kernel) rfl ?_
                            have hb237 : w258 b9217 = some (.inr (0, 48, .inl F218)) := (heq258 b9217 (by omega)).trans hg221
                            obtain ⟨f238, hg239, hg240⟩ := id hG235
                            refine zr_aastA (by decide +kernel) hg239 hb237 (Or.inl ⟨rfl, rfl⟩) (zin (by first | omega | decide) (by first | omega | decide)) ?_
                            show zP (d + 1) zq_X16_sylvester 268 [(10, .ref b9217), (0, .ref m), (6, .int v4), (7, .int y7_183), (8, .int y8_183), (9, .int y9_194)] [] (zup w258 (m + 100) (.inr (7, 48, .inr (va_up f238 (y8_183.toNatClampNeg) (some b9217))))) sz 0 0 Post
                            obtain ⟨w267, ew267⟩ : ∃ wz9, wz9 = zup w258 (m + 100) (.inr (7, 48, .inr (va_up f238 (y8_183.toNatClampNeg) (some b9217)))) := ⟨_, rfl⟩
                            have hsi267 : zSI w258 w267 := by rw [ew267]; exact zSI.refs _ hg239 (by decide)
                            have heq267 : ∀ x, x ≠ m + 100 → w267 x = w258 x := fun x hx => by rw [ew267]; exact zup_n hx
                            have hc267 : w267 (m + 100) = some (.inr (7, 48, .inr (va_up f238 (y8_183.toNatClampNeg) (some b9217)))) := by rw [ew267]; exact zup_s
                            rw [← ew267]
                            clear ew267
                            have hG241 : zGr w267 (m + 100) 48 48 := zGr.sw hg240 hg239 heq267 hc267 hg220 hb237 hg222
                            refine zp_seg (pc' := 271) (lv' := [(10, .ref b9217), (0, .ref m), (6, .int v4), (7, .int y7_183), (8, .int y8_183), (9, .int y9_194)]) (st' := [.int y7_183, .int 0]) [(268, .iconst 0), (269, .iload 7)] (by decide +kernel) rfl ?_
                            refine zr_callS (idx := 46) (j := 256) (by decide +kernel) (by decide +kernel) (by decide) (show zMe 256 = some zq_X16_sub from rfl) rfl rfl (Nat.le_of_ble_eq_true rfl) rfl rfl (Nat.le_of_ble_eq_true rfl) (Nat.le_of_ble_eq_true rfl) (c_X16_sub (w := w267) 0 y7_183 (by exact zr1_0) (by exact hd7)) (by omega) (fun v271 w271 hp271 => ?_)
                            obtain ⟨hpw271, r271, rfl, hr271⟩ := hp271
                            replace hpw271 := hpw271.symm
                            subst hpw271
                            have kr271 := zrng r271
                            show zP _ _ _ _ [.int r271] _ _ _ _ _
                            refine zp_seg (pc' := 276) (lv' := [(7, .int r271), (10, .ref b9217), (0, .ref m), (6, .int v4), (8, .int y8_183), (9, .int y9_194)]) (st' := []) [(274, .istore 7)] (by decide +kernel) rfl ?_
                            have hb242 : w267 m = some (.inl (15, zMo m g r)) := (heq267 m (zx_X16_sylvester_0)).trans hb236
                            exact (hJ276 w267 r271 (hsi258.tr hsi267) (fun x hx => ((heq267 x (zx_X16_sylvester_1 hx.1)).trans (heq258 x (zx_X16_sylvester_1 hx.1)))) hG241 hb242 (by
                                  first | exact hr271.1 | exact hd7)).more (zfa1 rfl (zfa1 rfl (zfa1 rfl (zfa1 rfl (zfa0)))))
                        ·
                          replace cc224 := Classical.not_not.mp cc224
                          have f243 := zeqI cc224
                          refine zp_seg (pc' := 228) (lv' := [(0, .ref m), (6, .int v4), (7, .int y7_183), (8, .int y8_183), (9, .int y9_194)]) (st' := [.int 0]) [(227, .iconst 0)] (by decide +kernel) rfl ?_
                          have hmend : wL183 m = w m := by rw [hmL183, hm]
                          have hoffend : ∀ x, (x < m + 100 ∨ m + 100 + 49 ≤ x) → wL183 x = w x := fun x hx => by
                              by_cases ex : x = m
                              · rw [ex]; exact hmend
                              · exact ((heqL183 x ⟨hx, ex⟩).trans ((heqL114 x ⟨hx, ex⟩).trans ((heqL52 x ⟨hx, ex⟩).trans (heqL9 x ⟨hx, ex⟩))))
                          refine zr_retI (by decide +kernel) rfl ?_
                          rw [← hPost]; exact ⟨rfl, _, rfl, (((hsiL9.tr hsiL52).tr hsiL114).tr hsiL183), hoffend, hGl, _, rfl, (by
                                first | exact zr1_0 | exact hd7)⟩
                      ·
                        replace cc211 := Classical.not_not.mp cc211
                        have f245 := zeqI cc211
                        rw [show (0 : Int32).toInt = 0 from by decide] at f245
                        refine zp_seg (pc' := 217) (lv' := [(9, .int (y9_194 + 1)), (0, .ref m), (6, .int v4), (7, .int y7_183), (8, .int y8_183)]) (st' := []) [(214, .iinc 9 1)] (by decide +kernel) rfl ?_
                        have k246 := zaddC y9_194 1 (n := 1) (by decide) (by omega) (by omega)
                        generalize ev217 : (y9_194 + 1 : Int32) = v217 at k246 ⊢
                        have kv217 := zrng v217
                        refine zp_seg (pc' := 194) (lv' := [(9, .int v217), (0, .ref m), (6, .int v4), (7, .int y7_183), (8, .int y8_183)]) (st' := []) [(217, .goto (-23))] (by decide +kernel) rfl ?_
                        have hz247 : (v217.toNatClampNeg : Int) = v217.toInt := znat (by first | omega | decide)
                        exact (ih194 v217 (by first | assumption | omega | decide) (by first | assumption | omega | decide) (by omega)).more (zfa1 rfl (zfa1 rfl (zfa1 rfl (zfa1 rfl (zfa1 rfl (zfa0))))))
                  exact (hL194 _ y8_183 (by first | assumption | omega | decide) (by first | assumption | omega | decide) (Nat.lt_succ_self _)).more (zfa1 rfl (zfa1 rfl (zfa1 rfl (zfa1 rfl (zfa1 rfl (zfa0))))))
              have hl248 : (1 : Int32).toInt = 1 := by decide
              have hl249 : (0 : Int32).toInt = 0 := by decide
              have hz250 : ((0 : Int32).toNatClampNeg : Int) = 0 := by decide
              exact (hL183 _ wL114 1 0 zSI.rf (fun _ _ => rfl) (by first | assumption | omega | decide) (by first | assumption | omega | decide) hGl hmL114 (by
                    exact zr1_1) (Nat.lt_succ_self _)).more (zfa1 rfl (zfa1 rfl (zfa1 rfl (zfa1 rfl (zfa0)))))
            ·
              have f251 := znltI cc118
              refine zp_seg (pc' := 122) (lv' := [(0, .ref m), (2, .ref q), (3, .int mm), (4, .int nn), (5, .int t), (6, .int v4), (7, .int y7_114)]) (st' := [.ref q]) [(121, .aload_n 2)] (by decide +kernel) rfl ?_
              obtain ⟨n252, hb253, hb254, hb255, hb256, -⟩ := id hB_q
              have kn252 := zrng n252
              have hb257 : wL114 q = some (.inl (11, [.ref (q + 1), .int n252])) := ((heqL114 q ⟨(zx_X16_sylvester_2 hmq), (zx_X16_sylvester_3 hmq)⟩).trans ((heqL52 q ⟨(zx_X16_sylvester_2 hmq), (zx_X16_sylvester_3 hmq)⟩).trans (heqL9 q ⟨(zx_X16_sylvester_2 hmq), (zx_X16_sylvester_3 hmq)⟩))).trans hb253
              refine zr_get (idx := 98) (k := 0) (v := .ref (q + 1)) (by decide +kernel) (by decide +kernel) hb257 rfl ?_
              refine zp_seg (pc' := 130) (lv' := [(0, .ref m), (2, .ref q), (3, .int mm), (4, .int nn), (5, .int t), (6, .int v4), (7, .int y7_114)]) (st' := [.int (nn - y7_114), .ref (q + 1)]) [(125, .iload 4), (127, .iload 7), (129, .isub)] (by decide +kernel) rfl ?_
              have k258 := zsub nn y7_114 (by omega) (by omega)
              generalize ev130 : (nn - y7_114 : Int32) = v130 at k258 ⊢
              have kv130 := zrng v130
              have hb259 : wL114 (q + 1) = some (.inr (4, 64, zbr q)) := ((heqL114 (q + 1) ⟨(zx_X16_sylvester_4 hmq), (zx_X16_sylvester_5 hmq)⟩).trans ((heqL52 (q + 1) ⟨(zx_X16_sylvester_4 hmq), (zx_X16_sylvester_5 hmq)⟩).trans (heqL9 (q + 1) ⟨(zx_X16_sylvester_4 hmq), (zx_X16_sylvester_5 hmq)⟩))).trans hb254
              have hz260 : (v130.toNatClampNeg : Int) = v130.toInt := znat (by first | omega | decide)
              refine zr_aald (v := .ref (q + 2 + 2 * v130.toNatClampNeg)) (by decide +kernel) hb259 (by decide) (zin (by first | omega | decide) (by first | omega | decide)) (zbr_at (by omega)) ?_
              have hb261 : zB wL114 q Q := hB_q.ag (fun x hx1 hx2 => ((heqL114 x ⟨(zx_X16_sylvester_6 hx1 hx2 hmq), (zx_X16_sylvester_7 hx1 hx2 hmq)⟩).trans ((heqL52 x ⟨(zx_X16_sylvester_6 hx1 hx2 hmq), (zx_X16_sylvester_7 hx1 hx2 hmq)⟩).trans (heqL9 x ⟨(zx_X16_sylvester_6 hx1 hx2 hmq), (zx_X16_sylvester_7 hx1 hx2 hmq)⟩))))
              have hrow262 := hb261.row (v130.toNatClampNeg) (by omega)
              refine zp_seg (pc' := 133) (lv' := [(0, .ref m), (2, .ref q), (3, .int mm), (4, .int nn), (5, .int t), (6, .int v4), (7, .int y7_114)]) (st' := [.int t, .ref (q + 2 + 2 * v130.toNatClampNeg)]) [(131, .iload 5)] (by decide +kernel) rfl ?_
              refine zr_callS (idx := 136) (j := 272) (by decide +kernel) (by decide +kernel) (by decide) (show zMe 272 = some zq_X16_eval from rfl) rfl rfl (Nat.le_of_ble_eq_true rfl) rfl rfl (Nat.le_of_ble_eq_true rfl) (Nat.le_of_ble_eq_true rfl) (c_X16_eval (w := wL114) (q + 2 + 2 * v130.toNatClampNeg) t hrow262 (by first | omega | decide | assumption | exact zr1_1 | exact zr1_0 | fail "num") (by exact Nat.le_trans (hb261.row _ (by omega)).cap (by omega))) (by omega) (fun v133 w133 hp133 => ?_)
              obtain ⟨hpw133, r133, rfl, hr133⟩ := hp133
              replace hpw133 := hpw133.symm
              subst hpw133
              have kr133 := zrng r133
              show zP _ _ _ _ [.int r133] _ _ _ _ _
              have he8 := hr133.1
              refine zp_seg (pc' := 141) (lv' := [(9, .int 0), (8, .int r133), (0, .ref m), (2, .ref q), (3, .int mm), (4, .int nn), (5, .int t), (6, .int v4), (7, .int y7_114)]) (st' := []) [(136, .istore 8), (138, .iconst 0), (139, .istore 9)] (by decide +kernel) rfl ?_
              have hL141 : ∀ (mm141 : Nat) (wL141 : zM) (y9_141 : Int32), (zSI wL114 wL141) → (∀ x, ((x < m + 100 ∨ m + 100 + 49 ≤ x)) ∧ x ≠ m → wL141 x = wL114 x) → (0 ≤ y9_141.toInt) → (y9_141.toInt ≤ mm.toInt) → (zGr wL141 (m + 100) 48 48) → (wL141 m = some (.inl (15, zMo m g r))) → (60 - y9_141.toInt).toNat < mm141 → zP (d + 1) zq_X16_sylvester 141 [(0, .ref m), (2, .ref q), (3, .int mm), (4, .int nn), (5, .int t), (6, .int v4), (7, .int y7_114), (8, .int r133), (9, .int y9_141)] [] wL141 sz 0 0 Post := by
                intro mm141
                induction mm141 with
                | zero => intros; omega
                | succ mm141 ih141 =>
                intro wL141 y9_141 hsiL141 heqL141 hi141_0 hi141_1 hGl hmL141 hmu141
                have ky9_141 := zrng y9_141
                have hz263 : (y9_141.toNatClampNeg : Int) = y9_141.toInt := znat (by first | omega | decide)
                refine zp_seg (pc' := 144) (lv' := [(0, .ref m), (2, .ref q), (3, .int mm), (4, .int nn), (5, .int t), (6, .int v4), (7, .int y7_114), (8, .int r133), (9, .int y9_141)]) (st' := [.int mm, .int y9_141]) [(141, .iload 9), (143, .iload_n 3)] (by decide +kernel) rfl ?_
                refine zp_if (i := .if_icmp .ge 27) (c := mm ≤ y9_141) (t := 171) (e := 147) (lv' := [(0, .ref m), (2, .ref q), (3, .int mm), (4, .int nn), (5, .int t), (6, .int v4), (7, .int y7_114), (8, .int r133), (9, .int y9_141)]) (st' := []) (by decide +kernel) rfl (fun cc144 => ?_) (fun cc144 => ?_)
                ·
                  have f264 := zleI cc144
                  refine zp_seg (pc' := 174) (lv' := [(7, .int (y7_114 + 1)), (0, .ref m), (2, .ref q), (3, .int mm), (4, .int nn), (5, .int t), (6, .int v4), (8, .int r133), (9, .int y9_141)]) (st' := []) [(171, .iinc 7 1)] (by decide +kernel) rfl ?_
                  have k265 := zaddC y7_114 1 (n := 1) (by decide) (by omega) (by omega)
                  generalize ev174 : (y7_114 + 1 : Int32) = v174 at k265 ⊢
                  have kv174 := zrng v174
                  refine zp_seg (pc' := 114) (lv' := [(7, .int v174), (0, .ref m), (2, .ref q), (3, .int mm), (4, .int nn), (5, .int t), (6, .int v4), (8, .int r133), (9, .int y9_141)]) (st' := []) [(174, .goto (-60))] (by decide +kernel) rfl ?_
                  have hz266 : (v174.toNatClampNeg : Int) = v174.toInt := znat (by first | omega | decide)
                  exact (ih114 wL141 v174 (hsiL114.tr hsiL141) (fun x hx => ((heqL141 x ⟨hx.1, hx.2⟩).trans (heqL114 x ⟨hx.1, hx.2⟩))) (by first | assumption | omega | decide) (by first | assumption | omega | decide) hGl hmL141 (by omega)).more (zfa1 rfl (zfa1 rfl (zfa1 rfl (zfa1 rfl (zfa1 rfl (zfa1 rfl (zfa1 rfl (zfa0))))))))
                ·
                  have f267 := znleI cc144
                  refine zp_seg (pc' := 148) (lv' := [(0, .ref m), (2, .ref q), (3, .int mm), (4, .int nn), (5, .int t), (6, .int v4), (7, .int y7_114), (8, .int r133), (9, .int y9_141)]) (st' := [.ref m]) [(147, .aload_n 0)] (by decide +kernel) rfl ?_
                  refine zr_get (idx := 483) (k := 38) (v := .ref (m + 100)) (by decide +kernel) (by decide +kernel) hmL141 rfl ?_
                  refine zp_seg (pc' := 156) (lv' := [(0, .ref m), (2, .ref q), (3, .int mm), (4, .int nn), (5, .int t), (6, .int v4), (7, .int y7_114), (8, .int r133), (9, .int y9_141)]) (st' := [.int (nn + y9_141), .ref (m + 100)]) [(151, .iload 4), (153, .iload 9), (155, .iadd)] (by decide +kernel) rfl ?_
                  have k268 := zadd nn y9_141 (by omega) (by omega)
                  generalize ev156 : (nn + y9_141 : Int32) = v156 at k268 ⊢
                  have kv156 := zrng v156
                  have hz269 : (v156.toNatClampNeg : Int) = v156.toInt := znat (by first | omega | decide)
                  obtain ⟨f270, hg271, hg272⟩ := id hGl
                  obtain ⟨b9273, F274, hg275, hg276, hg277, hg278⟩ := hg272 (v156.toNatClampNeg) (by omega)
                  refine zr_aald (v := .ref b9273) (by decide +kernel) hg271 (by decide) (zin (by first | omega | decide) (by first | omega | decide)) (by rw [hg275]; rfl) ?_
                  refine zp_seg (pc' := 162) (lv' := [(0, .ref m), (2, .ref q), (3, .int mm), (4, .int nn), (5, .int t), (6, .int v4), (7, .int y7_114), (8, .int r133), (9, .int y9_141)]) (st' := [.int (y9_141 + y7_114), .ref b9273]) [(157, .iload 9), (159, .iload 7), (161, .iadd)] (by decide +kernel) rfl ?_
                  have k279 := zadd y9_141 y7_114 (by omega) (by omega)
                  generalize ev162 : (y9_141 + y7_114 : Int32) = v162 at k279 ⊢
                  have kv162 := zrng v162
                  refine zp_seg (pc' := 164) (lv' := [(0, .ref m), (2, .ref q), (3, .int mm), (4, .int nn), (5, .int t), (6, .int v4), (7, .int y7_114), (8, .int r133), (9, .int y9_141)]) (st' := [.int r133, .int v162, .ref b9273]) [(162, .iload 8)] (by decide +kernel) rfl ?_
                  have hz280 : (v162.toNatClampNeg : Int) = v162.toInt := znat (by first | omega | decide)
                  refine zr_iast (by decide +kernel) hg277 (zin (by first | omega | decide) (by first | omega | decide)) ?_
                  show zP (d + 1) zq_X16_sylvester 165 [(0, .ref m), (2, .ref q), (3, .int mm), (4, .int nn), (5, .int t), (6, .int v4), (7, .int y7_114), (8, .int r133), (9, .int y9_141)] [] (zup wL141 b9273 (.inr (0, 48, .inl (upd F274 (v162.toNatClampNeg) r133)))) sz 0 0 Post
                  obtain ⟨w164, ew164⟩ : ∃ wz9, wz9 = zup wL141 b9273 (.inr (0, 48, .inl (upd F274 (v162.toNatClampNeg) r133))) := ⟨_, rfl⟩
                  have hsi164 : zSI wL141 w164 := by rw [ew164]; exact zSI.arr _ hg277
                  have heq164 : ∀ x, x ≠ b9273 → w164 x = wL141 x := fun x hx => by rw [ew164]; exact zup_n hx
                  have hc164 : w164 b9273 = some (.inr (0, 48, .inl (upd F274 (v162.toNatClampNeg) r133))) := by rw [ew164]; exact zup_s
                  rw [← ew164]
                  clear ew164
                  have hG281 : zGr w164 (m + 100) 48 48 := hGl.st hg276 heq164 hc164 (zall_up hg278 (by exact he8))
                  refine zp_seg (pc' := 168) (lv' := [(9, .int (y9_141 + 1)), (0, .ref m), (2, .ref q), (3, .int mm), (4, .int nn), (5, .int t), (6, .int v4), (7, .int y7_114), (8, .int r133)]) (st' := []) [(165, .iinc 9 1)] (by decide +kernel) rfl ?_
                  have k282 := zaddC y9_141 1 (n := 1) (by decide) (by omega) (by omega)
                  generalize ev168 : (y9_141 + 1 : Int32) = v168 at k282 ⊢
                  have kv168 := zrng v168
                  refine zp_seg (pc' := 141) (lv' := [(9, .int v168), (0, .ref m), (2, .ref q), (3, .int mm), (4, .int nn), (5, .int t), (6, .int v4), (7, .int y7_114), (8, .int r133)]) (st' := []) [(168, .goto (-27))] (by decide +kernel) rfl ?_
                  have hz283 : (v168.toNatClampNeg : Int) = v168.toInt := znat (by first | omega | decide)
                  have hb284 : w164 m = some (.inl (15, zMo m g r)) := (heq164 m (by omega)).trans hmL141
                  exact (ih141 w164 v168 (hsiL141.tr hsi164) (fun x hx => ((heq164 x (by omega)).trans (heqL141 x ⟨hx.1, hx.2⟩))) (by first | assumption | omega | decide) (by first | assumption | omega | decide) hG281 hb284 (by omega)).more (zfa1 rfl (zfa1 rfl (zfa1 rfl (zfa1 rfl (zfa1 rfl (zfa1 rfl (zfa1 rfl (zfa1 rfl (zfa1 rfl (zfa0))))))))))
              have hl285 : (0 : Int32).toInt = 0 := by decide
              have hz286 : ((0 : Int32).toNatClampNeg : Int) = 0 := by decide
              exact (hL141 _ wL114 0 zSI.rf (fun _ _ => rfl) (by first | assumption | omega | decide) (by first | assumption | omega | decide) hGl hmL114 (Nat.lt_succ_self _)).more (zfa1 rfl (zfa1 rfl (zfa1 rfl (zfa1 rfl (zfa1 rfl (zfa1 rfl (zfa1 rfl (zfa1 rfl (zfa1 rfl (zfa0))))))))))
          have hl287 : (0 : Int32).toInt = 0 := by decide
          have hz288 : ((0 : Int32).toNatClampNeg : Int) = 0 := by decide
          exact (hL114 _ wL52 0 zSI.rf (fun _ _ => rfl) (by first | assumption | omega | decide) (by first | assumption | omega | decide) hGl hmL52 (Nat.lt_succ_self _)).more (zfa1 rfl (zfa1 rfl (zfa1 rfl (zfa1 rfl (zfa1 rfl (zfa1 rfl (zfa1 rfl (zfa0))))))))
        ·
          have f289 := znltI cc55
          refine zp_seg (pc' := 59) (lv' := [(0, .ref m), (1, .ref p), (2, .ref q), (3, .int mm), (4, .int nn), (5, .int t), (6, .int v4), (7, .int y7_52)]) (st' := [.ref p]) [(58, .aload_n 1)] (by decide +kernel) rfl ?_
          obtain ⟨n290, hb291, hb292, hb293, hb294, -⟩ := id hB_p
          have kn290 := zrng n290
          have hb295 : wL52 p = some (.inl (11, [.ref (p + 1), .int n290])) := ((heqL52 p ⟨(zx_X16_sylvester_8 hmp), (zx_X16_sylvester_9 hmp)⟩).trans (heqL9 p ⟨(zx_X16_sylvester_8 hmp), (zx_X16_sylvester_9 hmp)⟩)).trans hb291
          refine zr_get (idx := 98) (k := 0) (v := .ref (p + 1)) (by decide +kernel) (by decide +kernel) hb295 rfl ?_
          refine zp_seg (pc' := 66) (lv' := [(0, .ref m), (1, .ref p), (2, .ref q), (3, .int mm), (4, .int nn), (5, .int t), (6, .int v4), (7, .int y7_52)]) (st' := [.int (mm - y7_52), .ref (p + 1)]) [(62, .iload_n 3), (63, .iload 7), (65, .isub)] (by decide +kernel) rfl ?_
          have k296 := zsub mm y7_52 (by omega) (by omega)
          generalize ev66 : (mm - y7_52 : Int32) = v66 at k296 ⊢
          have kv66 := zrng v66
          have hb297 : wL52 (p + 1) = some (.inr (4, 64, zbr p)) := ((heqL52 (p + 1) ⟨(zx_X16_sylvester_10 hmp), (zx_X16_sylvester_11 hmp)⟩).trans (heqL9 (p + 1) ⟨(zx_X16_sylvester_10 hmp), (zx_X16_sylvester_11 hmp)⟩)).trans hb292
          have hz298 : (v66.toNatClampNeg : Int) = v66.toInt := znat (by first | omega | decide)
          refine zr_aald (v := .ref (p + 2 + 2 * v66.toNatClampNeg)) (by decide +kernel) hb297 (by decide) (zin (by first | omega | decide) (by first | omega | decide)) (zbr_at (by omega)) ?_
          have hb299 : zB wL52 p P := hB_p.ag (fun x hx1 hx2 => ((heqL52 x ⟨(zx_X16_sylvester_12 hx1 hx2 hmp), (zx_X16_sylvester_13 hx1 hx2 hmp)⟩).trans (heqL9 x ⟨(zx_X16_sylvester_12 hx1 hx2 hmp), (zx_X16_sylvester_13 hx1 hx2 hmp)⟩)))
          have hrow300 := hb299.row (v66.toNatClampNeg) (by omega)
          refine zp_seg (pc' := 69) (lv' := [(0, .ref m), (1, .ref p), (2, .ref q), (3, .int mm), (4, .int nn), (5, .int t), (6, .int v4), (7, .int y7_52)]) (st' := [.int t, .ref (p + 2 + 2 * v66.toNatClampNeg)]) [(67, .iload 5)] (by decide +kernel) rfl ?_
          refine zr_callS (idx := 136) (j := 272) (by decide +kernel) (by decide +kernel) (by decide) (show zMe 272 = some zq_X16_eval from rfl) rfl rfl (Nat.le_of_ble_eq_true rfl) rfl rfl (Nat.le_of_ble_eq_true rfl) (Nat.le_of_ble_eq_true rfl) (c_X16_eval (w := wL52) (p + 2 + 2 * v66.toNatClampNeg) t hrow300 (by first | omega | decide | assumption | exact zr1_1 | exact zr1_0 | fail "num") (by exact Nat.le_trans (hb299.row _ (by omega)).cap (by omega))) (by omega) (fun v69 w69 hp69 => ?_)
          obtain ⟨hpw69, r69, rfl, hr69⟩ := hp69
          replace hpw69 := hpw69.symm
          subst hpw69
          have kr69 := zrng r69
          show zP _ _ _ _ [.int r69] _ _ _ _ _
          have he8 := hr69.1
          refine zp_seg (pc' := 77) (lv' := [(9, .int 0), (8, .int r69), (0, .ref m), (1, .ref p), (2, .ref q), (3, .int mm), (4, .int nn), (5, .int t), (6, .int v4), (7, .int y7_52)]) (st' := []) [(72, .istore 8), (74, .iconst 0), (75, .istore 9)] (by decide +kernel) rfl ?_
          have hL77 : ∀ (mm77 : Nat) (wL77 : zM) (y9_77 : Int32), (zSI wL52 wL77) → (∀ x, ((x < m + 100 ∨ m + 100 + 49 ≤ x)) ∧ x ≠ m → wL77 x = wL52 x) → (0 ≤ y9_77.toInt) → (y9_77.toInt ≤ nn.toInt) → (zGr wL77 (m + 100) 48 48) → (wL77 m = some (.inl (15, zMo m g r))) → (60 - y9_77.toInt).toNat < mm77 → zP (d + 1) zq_X16_sylvester 77 [(0, .ref m), (1, .ref p), (2, .ref q), (3, .int mm), (4, .int nn), (5, .int t), (6, .int v4), (7, .int y7_52), (8, .int r69), (9, .int y9_77)] [] wL77 sz 0 0 Post := by
            intro mm77
            induction mm77 with
            | zero => intros; omega
            | succ mm77 ih77 =>
            intro wL77 y9_77 hsiL77 heqL77 hi77_0 hi77_1 hGl hmL77 hmu77
            have ky9_77 := zrng y9_77
            have hz301 : (y9_77.toNatClampNeg : Int) = y9_77.toInt := znat (by first | omega | decide)
            refine zp_seg (pc' := 81) (lv' := [(0, .ref m), (1, .ref p), (2, .ref q), (3, .int mm), (4, .int nn), (5, .int t), (6, .int v4), (7, .int y7_52), (8, .int r69), (9, .int y9_77)]) (st' := [.int nn, .int y9_77]) [(77, .iload 9), (79, .iload 4)] (by decide +kernel) rfl ?_
            refine zp_if (i := .if_icmp .ge 24) (c := nn ≤ y9_77) (t := 105) (e := 84) (lv' := [(0, .ref m), (1, .ref p), (2, .ref q), (3, .int mm), (4, .int nn), (5, .int t), (6, .int v4), (7, .int y7_52), (8, .int r69), (9, .int y9_77)]) (st' := []) (by decide +kernel) rfl (fun cc81 => ?_) (fun cc81 => ?_)
            ·
              have f302 := zleI cc81
              refine zp_seg (pc' := 108) (lv' := [(7, .int (y7_52 + 1)), (0, .ref m), (1, .ref p), (2, .ref q), (3, .int mm), (4, .int nn), (5, .int t), (6, .int v4), (8, .int r69), (9, .int y9_77)]) (st' := []) [(105, .iinc 7 1)] (by decide +kernel) rfl ?_
              have k303 := zaddC y7_52 1 (n := 1) (by decide) (by omega) (by omega)
              generalize ev108 : (y7_52 + 1 : Int32) = v108 at k303 ⊢
              have kv108 := zrng v108
              refine zp_seg (pc' := 52) (lv' := [(7, .int v108), (0, .ref m), (1, .ref p), (2, .ref q), (3, .int mm), (4, .int nn), (5, .int t), (6, .int v4), (8, .int r69), (9, .int y9_77)]) (st' := []) [(108, .goto (-56))] (by decide +kernel) rfl ?_
              have hz304 : (v108.toNatClampNeg : Int) = v108.toInt := znat (by first | omega | decide)
              exact (ih52 wL77 v108 (hsiL52.tr hsiL77) (fun x hx => ((heqL77 x ⟨hx.1, hx.2⟩).trans (heqL52 x ⟨hx.1, hx.2⟩))) (by first | assumption | omega | decide) (by first | assumption | omega | decide) hGl hmL77 (by omega)).more (zfa1 rfl (zfa1 rfl (zfa1 rfl (zfa1 rfl (zfa1 rfl (zfa1 rfl (zfa1 rfl (zfa1 rfl (zfa0)))))))))
            ·
              have f305 := znleI cc81
              refine zp_seg (pc' := 85) (lv' := [(0, .ref m), (1, .ref p), (2, .ref q), (3, .int mm), (4, .int nn), (5, .int t), (6, .int v4), (7, .int y7_52), (8, .int r69), (9, .int y9_77)]) (st' := [.ref m]) [(84, .aload_n 0)] (by decide +kernel) rfl ?_
              refine zr_get (idx := 483) (k := 38) (v := .ref (m + 100)) (by decide +kernel) (by decide +kernel) hmL77 rfl ?_
              refine zp_seg (pc' := 90) (lv' := [(0, .ref m), (1, .ref p), (2, .ref q), (3, .int mm), (4, .int nn), (5, .int t), (6, .int v4), (7, .int y7_52), (8, .int r69), (9, .int y9_77)]) (st' := [.int y9_77, .ref (m + 100)]) [(88, .iload 9)] (by decide +kernel) rfl ?_
              obtain ⟨f306, hg307, hg308⟩ := id hGl
              obtain ⟨b9309, F310, hg311, hg312, hg313, hg314⟩ := hg308 (y9_77.toNatClampNeg) (by omega)
              refine zr_aald (v := .ref b9309) (by decide +kernel) hg307 (by decide) (zin (by first | omega | decide) (by first | omega | decide)) (by rw [hg311]; rfl) ?_
              refine zp_seg (pc' := 96) (lv' := [(0, .ref m), (1, .ref p), (2, .ref q), (3, .int mm), (4, .int nn), (5, .int t), (6, .int v4), (7, .int y7_52), (8, .int r69), (9, .int y9_77)]) (st' := [.int (y9_77 + y7_52), .ref b9309]) [(91, .iload 9), (93, .iload 7), (95, .iadd)] (by decide +kernel) rfl ?_
              have k315 := zadd y9_77 y7_52 (by omega) (by omega)
              generalize ev96 : (y9_77 + y7_52 : Int32) = v96 at k315 ⊢
              have kv96 := zrng v96
              refine zp_seg (pc' := 98) (lv' := [(0, .ref m), (1, .ref p), (2, .ref q), (3, .int mm), (4, .int nn), (5, .int t), (6, .int v4), (7, .int y7_52), (8, .int r69), (9, .int y9_77)]) (st' := [.int r69, .int v96, .ref b9309]) [(96, .iload 8)] (by decide +kernel) rfl ?_
              have hz316 : (v96.toNatClampNeg : Int) = v96.toInt := znat (by first | omega | decide)
              refine zr_iast (by decide +kernel) hg313 (zin (by first | omega | decide) (by first | omega | decide)) ?_
              show zP (d + 1) zq_X16_sylvester 99 [(0, .ref m), (1, .ref p), (2, .ref q), (3, .int mm), (4, .int nn), (5, .int t), (6, .int v4), (7, .int y7_52), (8, .int r69), (9, .int y9_77)] [] (zup wL77 b9309 (.inr (0, 48, .inl (upd F310 (v96.toNatClampNeg) r69)))) sz 0 0 Post
              obtain ⟨w98, ew98⟩ : ∃ wz9, wz9 = zup wL77 b9309 (.inr (0, 48, .inl (upd F310 (v96.toNatClampNeg) r69))) := ⟨_, rfl⟩
              have hsi98 : zSI wL77 w98 := by rw [ew98]; exact zSI.arr _ hg313
              have heq98 : ∀ x, x ≠ b9309 → w98 x = wL77 x := fun x hx => by rw [ew98]; exact zup_n hx
              have hc98 : w98 b9309 = some (.inr (0, 48, .inl (upd F310 (v96.toNatClampNeg) r69))) := by rw [ew98]; exact zup_s
              rw [← ew98]
              clear ew98
              have hG317 : zGr w98 (m + 100) 48 48 := hGl.st hg312 heq98 hc98 (zall_up hg314 (by exact he8))
              refine zp_seg (pc' := 102) (lv' := [(9, .int (y9_77 + 1)), (0, .ref m), (1, .ref p), (2, .ref q), (3, .int mm), (4, .int nn), (5, .int t), (6, .int v4), (7, .int y7_52), (8, .int r69)]) (st' := []) [(99, .iinc 9 1)] (by decide +kernel) rfl ?_
              have k318 := zaddC y9_77 1 (n := 1) (by decide) (by omega) (by omega)
              generalize ev102 : (y9_77 + 1 : Int32) = v102 at k318 ⊢
              have kv102 := zrng v102
              refine zp_seg (pc' := 77) (lv' := [(9, .int v102), (0, .ref m), (1, .ref p), (2, .ref q), (3, .int mm), (4, .int nn), (5, .int t), (6, .int v4), (7, .int y7_52), (8, .int r69)]) (st' := []) [(102, .goto (-25))] (by decide +kernel) rfl ?_
              have hz319 : (v102.toNatClampNeg : Int) = v102.toInt := znat (by first | omega | decide)
              have hb320 : w98 m = some (.inl (15, zMo m g r)) := (heq98 m (by omega)).trans hmL77
              exact (ih77 w98 v102 (hsiL77.tr hsi98) (fun x hx => ((heq98 x (by omega)).trans (heqL77 x ⟨hx.1, hx.2⟩))) (by first | assumption | omega | decide) (by first | assumption | omega | decide) hG317 hb320 (by omega)).more (zfa1 rfl (zfa1 rfl (zfa1 rfl (zfa1 rfl (zfa1 rfl (zfa1 rfl (zfa1 rfl (zfa1 rfl (zfa1 rfl (zfa1 rfl (zfa0)))))))))))
          have hl321 : (0 : Int32).toInt = 0 := by decide
          have hz322 : ((0 : Int32).toNatClampNeg : Int) = 0 := by decide
          exact (hL77 _ wL52 0 zSI.rf (fun _ _ => rfl) (by first | assumption | omega | decide) (by first | assumption | omega | decide) hGl hmL52 (Nat.lt_succ_self _)).more (zfa1 rfl (zfa1 rfl (zfa1 rfl (zfa1 rfl (zfa1 rfl (zfa1 rfl (zfa1 rfl (zfa1 rfl (zfa1 rfl (zfa1 rfl (zfa0)))))))))))
      have hl323 : (0 : Int32).toInt = 0 := by decide
      have hz324 : ((0 : Int32).toNatClampNeg : Int) = 0 := by decide
      exact (hL52 _ wL9 0 zSI.rf (fun _ _ => rfl) (by first | assumption | omega | decide) (by first | assumption | omega | decide) hGl hmL9 (Nat.lt_succ_self _)).more (zfa1 rfl (zfa1 rfl (zfa1 rfl (zfa1 rfl (zfa1 rfl (zfa1 rfl (zfa1 rfl (zfa1 rfl (zfa0)))))))))
    ·
      have f325 := znleI cc13
      refine zp_seg (pc' := 19) (lv' := [(8, .int 0), (0, .ref m), (1, .ref p), (2, .ref q), (3, .int mm), (4, .int nn), (5, .int t), (6, .int v4), (7, .int y7_9)]) (st' := []) [(16, .iconst 0), (17, .istore 8)] (by decide +kernel) rfl ?_
      have hL19 : ∀ (mm19 : Nat) (wL19 : zM) (y8_19 : Int32), (zSI wL9 wL19) → (∀ x, ((x < m + 100 ∨ m + 100 + 49 ≤ x)) ∧ x ≠ m → wL19 x = wL9 x) → (0 ≤ y8_19.toInt) → (y8_19.toInt ≤ mm.toInt + nn.toInt) → (zGr wL19 (m + 100) 48 48) → (wL19 m = some (.inl (15, zMo m g r))) → (60 - y8_19.toInt).toNat < mm19 → zP (d + 1) zq_X16_sylvester 19 [(0, .ref m), (1, .ref p), (2, .ref q), (3, .int mm), (4, .int nn), (5, .int t), (6, .int v4), (7, .int y7_9), (8, .int y8_19)] [] wL19 sz 0 0 Post := by
        intro mm19
        induction mm19 with
        | zero => intros; omega
        | succ mm19 ih19 =>
        intro wL19 y8_19 hsiL19 heqL19 hi19_0 hi19_1 hGl hmL19 hmu19
        have ky8_19 := zrng y8_19
        have hz326 : (y8_19.toNatClampNeg : Int) = y8_19.toInt := znat (by first | omega | decide)
        refine zp_seg (pc' := 23) (lv' := [(0, .ref m), (1, .ref p), (2, .ref q), (3, .int mm), (4, .int nn), (5, .int t), (6, .int v4), (7, .int y7_9), (8, .int y8_19)]) (st' := [.int v4, .int y8_19]) [(19, .iload 8), (21, .iload 6)] (by decide +kernel) rfl ?_
        refine zp_if (i := .if_icmp .ge 20) (c := v4 ≤ y8_19) (t := 43) (e := 26) (lv' := [(0, .ref m), (1, .ref p), (2, .ref q), (3, .int mm), (4, .int nn), (5, .int t), (6, .int v4), (7, .int y7_9), (8, .int y8_19)]) (st' := []) (by decide +kernel) rfl (fun cc23 => ?_) (fun cc23 => ?_)
        ·
          have f327 := zleI cc23
          refine zp_seg (pc' := 46) (lv' := [(7, .int (y7_9 + 1)), (0, .ref m), (1, .ref p), (2, .ref q), (3, .int mm), (4, .int nn), (5, .int t), (6, .int v4), (8, .int y8_19)]) (st' := []) [(43, .iinc 7 1)] (by decide +kernel) rfl ?_
          have k328 := zaddC y7_9 1 (n := 1) (by decide) (by omega) (by omega)
          generalize ev46 : (y7_9 + 1 : Int32) = v46 at k328 ⊢
          have kv46 := zrng v46
          refine zp_seg (pc' := 9) (lv' := [(7, .int v46), (0, .ref m), (1, .ref p), (2, .ref q), (3, .int mm), (4, .int nn), (5, .int t), (6, .int v4), (8, .int y8_19)]) (st' := []) [(46, .goto (-37))] (by decide +kernel) rfl ?_
          have hz329 : (v46.toNatClampNeg : Int) = v46.toInt := znat (by first | omega | decide)
          exact (ih9 wL19 v46 (hsiL9.tr hsiL19) (fun x hx => ((heqL19 x ⟨hx.1, hx.2⟩).trans (heqL9 x ⟨hx.1, hx.2⟩))) (by first | assumption | omega | decide) (by first | assumption | omega | decide) hGl hmL19 (by omega)).more (zfa1 rfl (zfa1 rfl (zfa1 rfl (zfa1 rfl (zfa1 rfl (zfa1 rfl (zfa1 rfl (zfa1 rfl (zfa0)))))))))
        ·
          have f330 := znleI cc23
          refine zp_seg (pc' := 27) (lv' := [(0, .ref m), (1, .ref p), (2, .ref q), (3, .int mm), (4, .int nn), (5, .int t), (6, .int v4), (7, .int y7_9), (8, .int y8_19)]) (st' := [.ref m]) [(26, .aload_n 0)] (by decide +kernel) rfl ?_
          refine zr_get (idx := 483) (k := 38) (v := .ref (m + 100)) (by decide +kernel) (by decide +kernel) hmL19 rfl ?_
          refine zp_seg (pc' := 32) (lv' := [(0, .ref m), (1, .ref p), (2, .ref q), (3, .int mm), (4, .int nn), (5, .int t), (6, .int v4), (7, .int y7_9), (8, .int y8_19)]) (st' := [.int y7_9, .ref (m + 100)]) [(30, .iload 7)] (by decide +kernel) rfl ?_
          obtain ⟨f331, hg332, hg333⟩ := id hGl
          obtain ⟨b9334, F335, hg336, hg337, hg338, hg339⟩ := hg333 (y7_9.toNatClampNeg) (by omega)
          refine zr_aald (v := .ref b9334) (by decide +kernel) hg332 (by decide) (zin (by first | omega | decide) (by first | omega | decide)) (by rw [hg336]; rfl) ?_
          refine zp_seg (pc' := 36) (lv' := [(0, .ref m), (1, .ref p), (2, .ref q), (3, .int mm), (4, .int nn), (5, .int t), (6, .int v4), (7, .int y7_9), (8, .int y8_19)]) (st' := [.int 0, .int y8_19, .ref b9334]) [(33, .iload 8), (35, .iconst 0)] (by decide +kernel) rfl ?_
          refine zr_iast (by decide +kernel) hg338 (zin (by first | omega | decide) (by first | omega | decide)) ?_
          show zP (d + 1) zq_X16_sylvester 37 [(0, .ref m), (1, .ref p), (2, .ref q), (3, .int mm), (4, .int nn), (5, .int t), (6, .int v4), (7, .int y7_9), (8, .int y8_19)] [] (zup wL19 b9334 (.inr (0, 48, .inl (upd F335 (y8_19.toNatClampNeg) 0)))) sz 0 0 Post
          obtain ⟨w36, ew36⟩ : ∃ wz9, wz9 = zup wL19 b9334 (.inr (0, 48, .inl (upd F335 (y8_19.toNatClampNeg) 0))) := ⟨_, rfl⟩
          have hsi36 : zSI wL19 w36 := by rw [ew36]; exact zSI.arr _ hg338
          have heq36 : ∀ x, x ≠ b9334 → w36 x = wL19 x := fun x hx => by rw [ew36]; exact zup_n hx
          have hc36 : w36 b9334 = some (.inr (0, 48, .inl (upd F335 (y8_19.toNatClampNeg) 0))) := by rw [ew36]; exact zup_s
          rw [← ew36]
          clear ew36
          have hG340 : zGr w36 (m + 100) 48 48 := hGl.st hg337 heq36 hc36 (zall_up hg339 (by exact zr1_0))
          refine zp_seg (pc' := 40) (lv' := [(8, .int (y8_19 + 1)), (0, .ref m), (1, .ref p), (2, .ref q), (3, .int mm), (4, .int nn), (5, .int t), (6, .int v4), (7, .int y7_9)]) (st' := []) [(37, .iinc 8 1)] (by decide +kernel) rfl ?_
          have k341 := zaddC y8_19 1 (n := 1) (by decide) (by omega) (by omega)
          generalize ev40 : (y8_19 + 1 : Int32) = v40 at k341 ⊢
          have kv40 := zrng v40
          refine zp_seg (pc' := 19) (lv' := [(8, .int v40), (0, .ref m), (1, .ref p), (2, .ref q), (3, .int mm), (4, .int nn), (5, .int t), (6, .int v4), (7, .int y7_9)]) (st' := []) [(40, .goto (-21))] (by decide +kernel) rfl ?_
          have hz342 : (v40.toNatClampNeg : Int) = v40.toInt := znat (by first | omega | decide)
          have hb343 : w36 m = some (.inl (15, zMo m g r)) := (heq36 m (by omega)).trans hmL19
          exact (ih19 w36 v40 (hsiL19.tr hsi36) (fun x hx => ((heq36 x (by omega)).trans (heqL19 x ⟨hx.1, hx.2⟩))) (by first | assumption | omega | decide) (by first | assumption | omega | decide) hG340 hb343 (by omega)).more (zfa1 rfl (zfa1 rfl (zfa1 rfl (zfa1 rfl (zfa1 rfl (zfa1 rfl (zfa1 rfl (zfa1 rfl (zfa1 rfl (zfa0))))))))))
      have hl344 : (0 : Int32).toInt = 0 := by decide
      have hz345 : ((0 : Int32).toNatClampNeg : Int) = 0 := by decide
      exact (hL19 _ wL9 0 zSI.rf (fun _ _ => rfl) (by first | assumption | omega | decide) (by first | assumption | omega | decide) hGl hmL9 (Nat.lt_succ_self _)).more (zfa1 rfl (zfa1 rfl (zfa1 rfl (zfa1 rfl (zfa1 rfl (zfa1 rfl (zfa1 rfl (zfa1 rfl (zfa1 rfl (zfa0))))))))))
  have hl346 : (0 : Int32).toInt = 0 := by decide
  have hz347 : ((0 : Int32).toNatClampNeg : Int) = 0 := by decide
  exact (hL9 _ w 0 zSI.rf (fun _ _ => rfl) (by first | assumption | omega | decide) (by first | assumption | omega | decide) hGr_m_100 hm (Nat.lt_succ_self _)).more (zfa1 rfl (zfa1 rfl (zfa1 rfl (zfa1 rfl (zfa1 rfl (zfa1 rfl (zfa1 rfl (zfa1 rfl (zfa0)))))))))
