set_option maxHeartbeats 8000000 in
set_option maxRecDepth 100000 in
theorem c_X16_isRight {w : zM} {g : Nat → Int32} {r : Nat → Value} {gt fr : Nat → Int32} {ft fu : Nat → Option Nat} {Pa Pb Pc Pd : zA2} (m : Nat) (r9 : Nat) (n8 : Int32) (k8 : Int32) (bup : Nat) (bdn : Nat) (bp : Nat) (bq : Nat) (TT : Nat) (hm : w m = some (.inl (15, zMo m g r))) (hR_m : zR m w) (hT_r9 : w r9 = some (.inl (13, zTo r9 gt))) (hA_r9_7 : w (r9 + 7) = some (.inr (0, 175, .inl fr))) (hV_m_191 : w (m + 191) = some (.inr (5, 4, .inr ft))) (hV_m_192 : w (m + 192) = some (.inr (5, 4, .inr fu))) (hB_bup : zB w bup Pa) (hB_bdn : zB w bdn Pb) (hB_bp : zB w bp Pc) (hB_bq : zB w bq Pd) (ho : 0 ≤ (gt 10).toInt ∧ (gt 10).toInt ≤ 3) (hnk : 0 ≤ n8.toInt ∧ n8.toInt ≤ 10000 ∧ 0 ≤ k8.toInt ∧ k8.toInt ≤ 10000) (hfr : ∀ i, i < 175 → zr1 (fr i)) (ht : ∀ i, i ≤ (gt 10).toNatClampNeg → ft i = some (TT + 260 * i) ∧ fu i = some (TT + 130 + 260 * i) ∧ (∃ P, zB w (TT + 260 * i) P) ∧ ∃ P, zB w (TT + 130 + 260 * i) P) : zCon 3 zq_X16_isRight [.ref m, .ref r9, .int n8, .int k8, .ref bup, .ref bdn, .ref bp, .ref bq] w (fun v9 w9' => w9' = w ∧ ∃ r9 : Int32, v9 = some (.int r9) ∧ (r9 = 0 ∨ r9 = 1) ∧ True) := by
  intro d sz hd
  obtain ⟨d, rfl⟩ : ∃ d9, d = d9 + 1 := ⟨d - 1, by omega⟩
  generalize hPost : (fun (r9' : Option (Option Value)) (w9' : zM) (z9 : Nat) => z9 = sz ∧ ∃ v9, r9' = some v9 ∧ (w9' = w ∧ ∃ r9 : Int32, v9 = some (.int r9) ∧ (r9 = 0 ∨ r9 = 1) ∧ True)) = Post
  show zP (d + 1) zq_X16_isRight 0 [(0, .ref m), (1, .ref r9), (2, .int n8), (3, .int k8), (4, .ref bup), (5, .ref bdn), (6, .ref bp), (7, .ref bq)] [] w sz 0 0 Post
  have k1 := zrng n8
  have k2 := zrng k8
  have k3 := zrng (gt 10)
  have hz4 : ((gt 10).toNatClampNeg : Int) = (gt 10).toInt := znat (by first | omega | decide)
  have hzn9 : zr1 n8 := ⟨by omega, by omega⟩
  have hzk9 : zr1 k8 := ⟨by omega, by omega⟩
  refine zp_seg (pc' := 6) (lv' := [(9, .int 0), (8, .int 1), (0, .ref m), (1, .ref r9), (2, .int n8), (3, .int k8), (4, .ref bup), (5, .ref bdn), (6, .ref bp), (7, .ref bq)]) (st' := []) [(0, .iconst 1), (1, .istore 8), (3, .iconst 0), (4, .istore 9)] (by decide +kernel) rfl ?_
  have hL6 : ∀ (mm6 : Nat) (y8_6 : Int32) (y9_6 : Int32), (0 ≤ y9_6.toInt) → (y9_6.toInt ≤ (gt 10).toInt + 1) → (zr1 y8_6) → (20 - y9_6.toInt).toNat < mm6 → zP (d + 1) zq_X16_isRight 6 [(0, .ref m), (1, .ref r9), (2, .int n8), (3, .int k8), (4, .ref bup), (5, .ref bdn), (6, .ref bp), (7, .ref bq), (8, .int y8_6), (9, .int y9_6)] [] w sz 0 0 Post := by
    intro mm6
    induction mm6 with
    | zero => intros; omega
    | succ mm6 ih6 =>
    intro y8_6 y9_6 hi6_0 hi6_1 hz8 hmu6
    have ky8_6 := zrng y8_6
    have ky9_6 := zrng y9_6
    have hz5 : (y9_6.toNatClampNeg : Int) = y9_6.toInt := znat (by first | omega | decide)
    refine zp_seg (pc' := 9) (lv' := [(0, .ref m), (1, .ref r9), (2, .int n8), (3, .int k8), (4, .ref bup), (5, .ref bdn), (6, .ref bp), (7, .ref bq), (8, .int y8_6), (9, .int y9_6)]) (st' := [.ref r9, .int y9_6]) [(6, .iload 9), (8, .aload_n 1)] (by decide +kernel) rfl ?_
    refine zr_get (idx := 234) (k := 10) (v := .int (gt 10)) (by decide +kernel) (by decide +kernel) hT_r9 rfl ?_
    refine zp_if (i := .if_icmp .gt 28) (c := (gt 10) < y9_6) (t := 40) (e := 15) (lv' := [(0, .ref m), (1, .ref r9), (2, .int n8), (3, .int k8), (4, .ref bup), (5, .ref bdn), (6, .ref bp), (7, .ref bq), (8, .int y8_6), (9, .int y9_6)]) (st' := []) (by decide +kernel) rfl (fun cc12 => ?_) (fun cc12 => ?_)
    ·
      have f6 := zltI cc12
      refine zp_seg (pc' := 46) (lv' := [(10, .int 0), (9, .int 0), (0, .ref m), (1, .ref r9), (2, .int n8), (3, .int k8), (4, .ref bup), (5, .ref bdn), (6, .ref bp), (7, .ref bq), (8, .int y8_6)]) (st' := []) [(40, .iconst 0), (41, .istore 9), (43, .iconst 0), (44, .istore 10)] (by decide +kernel) rfl ?_
      have hL46 : ∀ (mm46 : Nat) (y9_46 : Int32) (y10_46 : Int32), (0 ≤ y10_46.toInt) → (y10_46.toInt ≤ (gt 10).toInt + 1) → (zr1 y9_46) → (20 - y10_46.toInt).toNat < mm46 → zP (d + 1) zq_X16_isRight 46 [(0, .ref m), (1, .ref r9), (2, .int n8), (3, .int k8), (4, .ref bup), (5, .ref bdn), (6, .ref bp), (7, .ref bq), (8, .int y8_6), (9, .int y9_46), (10, .int y10_46)] [] w sz 0 0 Post := by
        intro mm46
        induction mm46 with
        | zero => intros; omega
        | succ mm46 ih46 =>
        intro y9_46 y10_46 hi46_0 hi46_1 hz9 hmu46
        have ky9_46 := zrng y9_46
        have ky10_46 := zrng y10_46
        have hz7 : (y10_46.toNatClampNeg : Int) = y10_46.toInt := znat (by first | omega | decide)
        refine zp_seg (pc' := 49) (lv' := [(0, .ref m), (1, .ref r9), (2, .int n8), (3, .int k8), (4, .ref bup), (5, .ref bdn), (6, .ref bp), (7, .ref bq), (8, .int y8_6), (9, .int y9_46), (10, .int y10_46)]) (st' := [.ref r9, .int y10_46]) [(46, .iload 10), (48, .aload_n 1)] (by decide +kernel) rfl ?_
        refine zr_get (idx := 234) (k := 10) (v := .int (gt 10)) (by decide +kernel) (by decide +kernel) hT_r9 rfl ?_
        refine zp_if (i := .if_icmp .gt 102) (c := (gt 10) < y10_46) (t := 154) (e := 55) (lv' := [(0, .ref m), (1, .ref r9), (2, .int n8), (3, .int k8), (4, .ref bup), (5, .ref bdn), (6, .ref bp), (7, .ref bq), (8, .int y8_6), (9, .int y9_46), (10, .int y10_46)]) (st' := []) (by decide +kernel) rfl (fun cc52 => ?_) (fun cc52 => ?_)
        ·
          have f8 := zltI cc52
          refine zp_seg (pc' := 158) (lv' := [(0, .ref m), (1, .ref r9), (2, .int n8), (3, .int k8), (4, .ref bup), (5, .ref bdn), (6, .ref bp), (7, .ref bq), (8, .int y8_6), (9, .int y9_46), (10, .int y10_46)]) (st' := [.int k8, .int n8, .ref bq]) [(154, .aload 7), (156, .iload_n 2), (157, .iload_n 3)] (by decide +kernel) rfl ?_
          refine zr_callS (idx := 769) (j := 287) (by decide +kernel) (by decide +kernel) (by decide) (show zMe 287 = some zq_X16_eval_ from rfl) rfl rfl (Nat.le_of_ble_eq_true rfl) rfl rfl (Nat.le_of_ble_eq_true rfl) (Nat.le_of_ble_eq_true rfl) (c_X16_eval_ (w := w) bq n8 k8 hB_bq (by first | omega | decide | assumption | exact zr1_1 | exact zr1_0 | fail "num") (by first | omega | decide | assumption | exact zr1_1 | exact zr1_0 | fail "num")) (by omega) (fun v158 w158 hp158 => ?_)
          obtain ⟨hpw158, r158, rfl, hr158⟩ := hp158
          replace hpw158 := hpw158.symm
          subst hpw158
          have kr158 := zrng r158
          show zP _ _ _ _ [.int r158] _ _ _ _ _
          refine zp_seg (pc' := 169) (lv' := [(10, .int r158), (0, .ref m), (1, .ref r9), (2, .int n8), (3, .int k8), (4, .ref bup), (5, .ref bdn), (6, .ref bp), (7, .ref bq), (8, .int y8_6), (9, .int y9_46)]) (st' := [.int (k8 + 1), .int n8, .ref bq]) [(161, .istore 10), (163, .aload 7), (165, .iload_n 2), (166, .iload_n 3), (167, .iconst 1), (168, .iadd)] (by decide +kernel) rfl ?_
          have k9 := zaddC k8 1 (n := 1) (by decide) (by omega) (by omega)
          generalize ev169 : (k8 + 1 : Int32) = v169 at k9 ⊢
          have kv169 := zrng v169
          have hz169 : zr1 v169 := ⟨by omega, by omega⟩
          refine zr_callS (idx := 769) (j := 287) (by decide +kernel) (by decide +kernel) (by decide) (show zMe 287 = some zq_X16_eval_ from rfl) rfl rfl (Nat.le_of_ble_eq_true rfl) rfl rfl (Nat.le_of_ble_eq_true rfl) (Nat.le_of_ble_eq_true rfl) (c_X16_eval_ (w := w) bq n8 v169 hB_bq (by first | omega | decide | assumption | exact zr1_1 | exact zr1_0 | fail "num") (by first | omega | decide | assumption | exact zr1_1 | exact zr1_0 | fail "num")) (by omega) (fun v169 w169 hp169 => ?_)
          obtain ⟨hpw169, r169, rfl, hr169⟩ := hp169
          replace hpw169 := hpw169.symm
          subst hpw169
          have kr169 := zrng r169
          show zP _ _ _ _ [.int r169] _ _ _ _ _
          refine zp_seg (pc' := 178) (lv' := [(11, .int r169), (10, .int r158), (0, .ref m), (1, .ref r9), (2, .int n8), (3, .int k8), (4, .ref bup), (5, .ref bdn), (6, .ref bp), (7, .ref bq), (8, .int y8_6), (9, .int y9_46)]) (st' := [.int k8, .int n8, .ref bdn]) [(172, .istore 11), (174, .aload 5), (176, .iload_n 2), (177, .iload_n 3)] (by decide +kernel) rfl ?_
          refine zr_callS (idx := 769) (j := 287) (by decide +kernel) (by decide +kernel) (by decide) (show zMe 287 = some zq_X16_eval_ from rfl) rfl rfl (Nat.le_of_ble_eq_true rfl) rfl rfl (Nat.le_of_ble_eq_true rfl) (Nat.le_of_ble_eq_true rfl) (c_X16_eval_ (w := w) bdn n8 k8 hB_bdn (by first | omega | decide | assumption | exact zr1_1 | exact zr1_0 | fail "num") (by first | omega | decide | assumption | exact zr1_1 | exact zr1_0 | fail "num")) (by omega) (fun v178 w178 hp178 => ?_)
          obtain ⟨hpw178, r178, rfl, hr178⟩ := hp178
          replace hpw178 := hpw178.symm
          subst hpw178
          have kr178 := zrng r178
          show zP _ _ _ _ [.int r178] _ _ _ _ _
          refine zp_seg (pc' := 187) (lv' := [(12, .int r178), (11, .int r169), (10, .int r158), (0, .ref m), (1, .ref r9), (2, .int n8), (3, .int k8), (4, .ref bup), (5, .ref bdn), (6, .ref bp), (7, .ref bq), (8, .int y8_6), (9, .int y9_46)]) (st' := [.int r178, .int y9_46]) [(181, .istore 12), (183, .iload 9), (185, .iload 12)] (by decide +kernel) rfl ?_
          refine zr_callS (idx := 56) (j := 257) (by decide +kernel) (by decide +kernel) (by decide) (show zMe 257 = some zq_X16_mul from rfl) rfl rfl (Nat.le_of_ble_eq_true rfl) rfl rfl (Nat.le_of_ble_eq_true rfl) (Nat.le_of_ble_eq_true rfl) (c_X16_mul (w := w) y9_46 r178 (by first | omega | decide | assumption | exact zr1_1 | exact zr1_0 | fail "num") (by first | exact hr178.1 | omega | decide | assumption | exact zr1_1 | exact zr1_0 | fail "num")) (by omega) (fun v187 w187 hp187 => ?_)
          obtain ⟨hpw187, r187, rfl, hr187⟩ := hp187
          replace hpw187 := hpw187.symm
          subst hpw187
          have kr187 := zrng r187
          show zP _ _ _ _ [.int r187] _ _ _ _ _
          refine zp_seg (pc' := 194) (lv' := [(12, .int r178), (11, .int r169), (10, .int r158), (0, .ref m), (1, .ref r9), (2, .int n8), (3, .int k8), (4, .ref bup), (5, .ref bdn), (6, .ref bp), (7, .ref bq), (8, .int y8_6), (9, .int y9_46)]) (st' := [.int r169, .int r158, .int r187]) [(190, .iload 10), (192, .iload 11)] (by decide +kernel) rfl ?_
          refine zr_callS (idx := 56) (j := 257) (by decide +kernel) (by decide +kernel) (by decide) (show zMe 257 = some zq_X16_mul from rfl) rfl rfl (Nat.le_of_ble_eq_true rfl) rfl rfl (Nat.le_of_ble_eq_true rfl) (Nat.le_of_ble_eq_true rfl) (c_X16_mul (w := w) r158 r169 (by first | exact hr158.1 | omega | decide | assumption | exact zr1_1 | exact zr1_0 | fail "num") (by first | exact hr169.1 | omega | decide | assumption | exact zr1_1 | exact zr1_0 | fail "num")) (by omega) (fun v194 w194 hp194 => ?_)
          obtain ⟨hpw194, r194, rfl, hr194⟩ := hp194
          replace hpw194 := hpw194.symm
          subst hpw194
          have kr194 := zrng r194
          show zP _ _ _ _ [.int r194, .int r187] _ _ _ _ _
          refine zr_callS (idx := 56) (j := 257) (by decide +kernel) (by decide +kernel) (by decide) (show zMe 257 = some zq_X16_mul from rfl) rfl rfl (Nat.le_of_ble_eq_true rfl) rfl rfl (Nat.le_of_ble_eq_true rfl) (Nat.le_of_ble_eq_true rfl) (c_X16_mul (w := w) r187 r194 (by first | exact hr187.1 | omega | decide | assumption | exact zr1_1 | exact zr1_0 | fail "num") (by first | exact hr194.1 | omega | decide | assumption | exact zr1_1 | exact zr1_0 | fail "num")) (by omega) (fun v197 w197 hp197 => ?_)
          obtain ⟨hpw197, r197, rfl, hr197⟩ := hp197
          replace hpw197 := hpw197.symm
          subst hpw197
          have kr197 := zrng r197
          show zP _ _ _ _ [.int r197] _ _ _ _ _
          refine zp_seg (pc' := 208) (lv' := [(9, .int r197), (12, .int r178), (11, .int r169), (10, .int r158), (0, .ref m), (1, .ref r9), (2, .int n8), (3, .int k8), (4, .ref bup), (5, .ref bdn), (6, .ref bp), (7, .ref bq), (8, .int y8_6)]) (st' := [.int (k8 + 1), .int n8, .ref bp]) [(200, .istore 9), (202, .aload 6), (204, .iload_n 2), (205, .iload_n 3), (206, .iconst 1), (207, .iadd)] (by decide +kernel) rfl ?_
          have k10 := zaddC k8 1 (n := 1) (by decide) (by omega) (by omega)
          generalize ev208 : (k8 + 1 : Int32) = v208 at k10 ⊢
          have kv208 := zrng v208
          have hz208 : zr1 v208 := ⟨by omega, by omega⟩
          refine zr_callS (idx := 769) (j := 287) (by decide +kernel) (by decide +kernel) (by decide) (show zMe 287 = some zq_X16_eval_ from rfl) rfl rfl (Nat.le_of_ble_eq_true rfl) rfl rfl (Nat.le_of_ble_eq_true rfl) (Nat.le_of_ble_eq_true rfl) (c_X16_eval_ (w := w) bp n8 v208 hB_bp (by first | omega | decide | assumption | exact zr1_1 | exact zr1_0 | fail "num") (by first | omega | decide | assumption | exact zr1_1 | exact zr1_0 | fail "num")) (by omega) (fun v208 w208 hp208 => ?_)
          obtain ⟨hpw208, r208, rfl, hr208⟩ := hp208
          replace hpw208 := hpw208.symm
          subst hpw208
          have kr208 := zrng r208
          show zP _ _ _ _ [.int r208] _ _ _ _ _
          refine zp_seg (pc' := 215) (lv' := [(9, .int r197), (12, .int r178), (11, .int r169), (10, .int r158), (0, .ref m), (1, .ref r9), (2, .int n8), (3, .int k8), (4, .ref bup), (5, .ref bdn), (6, .ref bp), (7, .ref bq), (8, .int y8_6)]) (st' := [.int k8, .int n8, .ref bup, .int r208]) [(211, .aload 4), (213, .iload_n 2), (214, .iload_n 3)] (by decide +kernel) rfl ?_
          refine zr_callS (idx := 769) (j := 287) (by decide +kernel) (by decide +kernel) (by decide) (show zMe 287 = some zq_X16_eval_ from rfl) rfl rfl (Nat.le_of_ble_eq_true rfl) rfl rfl (Nat.le_of_ble_eq_true rfl) (Nat.le_of_ble_eq_true rfl) (c_X16_eval_ (w := w) bup n8 k8 hB_bup (by first | omega | decide | assumption | exact zr1_1 | exact zr1_0 | fail "num") (by first | omega | decide | assumption | exact zr1_1 | exact zr1_0 | fail "num")) (by omega) (fun v215 w215 hp215 => ?_)
          obtain ⟨hpw215, r215, rfl, hr215⟩ := hp215
          replace hpw215 := hpw215.symm
          subst hpw215
          have kr215 := zrng r215
          show zP _ _ _ _ [.int r215, .int r208] _ _ _ _ _
          refine zr_callS (idx := 56) (j := 257) (by decide +kernel) (by decide +kernel) (by decide) (show zMe 257 = some zq_X16_mul from rfl) rfl rfl (Nat.le_of_ble_eq_true rfl) rfl rfl (Nat.le_of_ble_eq_true rfl) (Nat.le_of_ble_eq_true rfl) (c_X16_mul (w := w) r208 r215 (by first | exact hr208.1 | omega | decide | assumption | exact zr1_1 | exact zr1_0 | fail "num") (by first | exact hr215.1 | omega | decide | assumption | exact zr1_1 | exact zr1_0 | fail "num")) (by omega) (fun v218 w218 hp218 => ?_)
          obtain ⟨hpw218, r218, rfl, hr218⟩ := hp218
          replace hpw218 := hpw218.symm
          subst hpw218
          have kr218 := zrng r218
          show zP _ _ _ _ [.int r218] _ _ _ _ _
          refine zp_seg (pc' := 223) (lv' := [(9, .int r197), (12, .int r178), (11, .int r169), (10, .int r158), (0, .ref m), (1, .ref r9), (2, .int n8), (3, .int k8), (4, .ref bup), (5, .ref bdn), (6, .ref bp), (7, .ref bq), (8, .int y8_6)]) (st' := [.int r158, .int r218]) [(221, .iload 10)] (by decide +kernel) rfl ?_
          refine zr_callS (idx := 56) (j := 257) (by decide +kernel) (by decide +kernel) (by decide) (show zMe 257 = some zq_X16_mul from rfl) rfl rfl (Nat.le_of_ble_eq_true rfl) rfl rfl (Nat.le_of_ble_eq_true rfl) (Nat.le_of_ble_eq_true rfl) (c_X16_mul (w := w) r218 r158 (by first | exact hr218.1 | omega | decide | assumption | exact zr1_1 | exact zr1_0 | fail "num") (by first | exact hr158.1 | omega | decide | assumption | exact zr1_1 | exact zr1_0 | fail "num")) (by omega) (fun v223 w223 hp223 => ?_)
          obtain ⟨hpw223, r223, rfl, hr223⟩ := hp223
          replace hpw223 := hpw223.symm
          subst hpw223
          have kr223 := zrng r223
          show zP _ _ _ _ [.int r223] _ _ _ _ _
          refine zp_seg (pc' := 230) (lv' := [(9, .int r197), (12, .int r178), (11, .int r169), (10, .int r158), (0, .ref m), (1, .ref r9), (2, .int n8), (3, .int k8), (4, .ref bup), (5, .ref bdn), (6, .ref bp), (7, .ref bq), (8, .int y8_6)]) (st' := [.int k8, .int n8, .ref bp, .int r223]) [(226, .aload 6), (228, .iload_n 2), (229, .iload_n 3)] (by decide +kernel) rfl ?_
          refine zr_callS (idx := 769) (j := 287) (by decide +kernel) (by decide +kernel) (by decide) (show zMe 287 = some zq_X16_eval_ from rfl) rfl rfl (Nat.le_of_ble_eq_true rfl) rfl rfl (Nat.le_of_ble_eq_true rfl) (Nat.le_of_ble_eq_true rfl) (c_X16_eval_ (w := w) bp n8 k8 hB_bp (by first | omega | decide | assumption | exact zr1_1 | exact zr1_0 | fail "num") (by first | omega | decide | assumption | exact zr1_1 | exact zr1_0 | fail "num")) (by omega) (fun v230 w230 hp230 => ?_)
          obtain ⟨hpw230, r230, rfl, hr230⟩ := hp230
          replace hpw230 := hpw230.symm
          subst hpw230
          have kr230 := zrng r230
          show zP _ _ _ _ [.int r230, .int r223] _ _ _ _ _
          refine zp_seg (pc' := 235) (lv' := [(9, .int r197), (12, .int r178), (11, .int r169), (10, .int r158), (0, .ref m), (1, .ref r9), (2, .int n8), (3, .int k8), (4, .ref bup), (5, .ref bdn), (6, .ref bp), (7, .ref bq), (8, .int y8_6)]) (st' := [.int r178, .int r230, .int r223]) [(233, .iload 12)] (by decide +kernel) rfl ?_
          refine zr_callS (idx := 56) (j := 257) (by decide +kernel) (by decide +kernel) (by decide) (show zMe 257 = some zq_X16_mul from rfl) rfl rfl (Nat.le_of_ble_eq_true rfl) rfl rfl (Nat.le_of_ble_eq_true rfl) (Nat.le_of_ble_eq_true rfl) (c_X16_mul (w := w) r230 r178 (by first | exact hr230.1 | omega | decide | assumption | exact zr1_1 | exact zr1_0 | fail "num") (by first | exact hr178.1 | omega | decide | assumption | exact zr1_1 | exact zr1_0 | fail "num")) (by omega) (fun v235 w235 hp235 => ?_)
          obtain ⟨hpw235, r235, rfl, hr235⟩ := hp235
          replace hpw235 := hpw235.symm
          subst hpw235
          have kr235 := zrng r235
          show zP _ _ _ _ [.int r235, .int r223] _ _ _ _ _
          refine zp_seg (pc' := 240) (lv' := [(9, .int r197), (12, .int r178), (11, .int r169), (10, .int r158), (0, .ref m), (1, .ref r9), (2, .int n8), (3, .int k8), (4, .ref bup), (5, .ref bdn), (6, .ref bp), (7, .ref bq), (8, .int y8_6)]) (st' := [.int r169, .int r235, .int r223]) [(238, .iload 11)] (by decide +kernel) rfl ?_
          refine zr_callS (idx := 56) (j := 257) (by decide +kernel) (by decide +kernel) (by decide) (show zMe 257 = some zq_X16_mul from rfl) rfl rfl (Nat.le_of_ble_eq_true rfl) rfl rfl (Nat.le_of_ble_eq_true rfl) (Nat.le_of_ble_eq_true rfl) (c_X16_mul (w := w) r235 r169 (by first | exact hr235.1 | omega | decide | assumption | exact zr1_1 | exact zr1_0 | fail "num") (by first | exact hr169.1 | omega | decide | assumption | exact zr1_1 | exact zr1_0 | fail "num")) (by omega) (fun v240 w240 hp240 => ?_)
          obtain ⟨hpw240, r240, rfl, hr240⟩ := hp240
          replace hpw240 := hpw240.symm
          subst hpw240
          have kr240 := zrng r240
          show zP _ _ _ _ [.int r240, .int r223] _ _ _ _ _
          refine zr_callS (idx := 46) (j := 256) (by decide +kernel) (by decide +kernel) (by decide) (show zMe 256 = some zq_X16_sub from rfl) rfl rfl (Nat.le_of_ble_eq_true rfl) rfl rfl (Nat.le_of_ble_eq_true rfl) (Nat.le_of_ble_eq_true rfl) (c_X16_sub (w := w) r223 r240 (by first | exact hr223.1 | omega | decide | assumption | exact zr1_1 | exact zr1_0 | fail "num") (by first | exact hr240.1 | omega | decide | assumption | exact zr1_1 | exact zr1_0 | fail "num")) (by omega) (fun v243 w243 hp243 => ?_)
          obtain ⟨hpw243, r243, rfl, hr243⟩ := hp243
          replace hpw243 := hpw243.symm
          subst hpw243
          have kr243 := zrng r243
          show zP _ _ _ _ [.int r243] _ _ _ _ _
          refine zp_seg (pc' := 254) (lv' := [(13, .int r243), (9, .int r197), (12, .int r178), (11, .int r169), (10, .int r158), (0, .ref m), (1, .ref r9), (2, .int n8), (3, .int k8), (4, .ref bup), (5, .ref bdn), (6, .ref bp), (7, .ref bq), (8, .int y8_6)]) (st' := [.int y8_6, .int r243, .int r197]) [(246, .istore 13), (248, .iload 9), (250, .iload 13), (252, .iload 8)] (by decide +kernel) rfl ?_
          refine zr_callS (idx := 56) (j := 257) (by decide +kernel) (by decide +kernel) (by decide) (show zMe 257 = some zq_X16_mul from rfl) rfl rfl (Nat.le_of_ble_eq_true rfl) rfl rfl (Nat.le_of_ble_eq_true rfl) (Nat.le_of_ble_eq_true rfl) (c_X16_mul (w := w) r243 y8_6 (by first | exact hr243.1 | omega | decide | assumption | exact zr1_1 | exact zr1_0 | fail "num") (by first | omega | decide | assumption | exact zr1_1 | exact zr1_0 | fail "num")) (by omega) (fun v254 w254 hp254 => ?_)
          obtain ⟨hpw254, r254, rfl, hr254⟩ := hp254
          replace hpw254 := hpw254.symm
          subst hpw254
          have kr254 := zrng r254
          show zP _ _ _ _ [.int r254, .int r197] _ _ _ _ _
          refine zp_if (i := .if_icmp .ne 7) (c := ¬ r197 = r254) (t := 264) (e := 260) (lv' := [(13, .int r243), (9, .int r197), (12, .int r178), (11, .int r169), (10, .int r158), (0, .ref m), (1, .ref r9), (2, .int n8), (3, .int k8), (4, .ref bup), (5, .ref bdn), (6, .ref bp), (7, .ref bq), (8, .int y8_6)]) (st' := []) (by decide +kernel) rfl (fun cc257 => ?_) (fun cc257 => ?_)
          ·
            have f11 := zneI cc257
            refine zp_seg (pc' := 265) (lv' := [(13, .int r243), (9, .int r197), (12, .int r178), (11, .int r169), (10, .int r158), (0, .ref m), (1, .ref r9), (2, .int n8), (3, .int k8), (4, .ref bup), (5, .ref bdn), (6, .ref bp), (7, .ref bq), (8, .int y8_6)]) (st' := [.int 0]) [(264, .iconst 0)] (by decide +kernel) rfl ?_
            refine zr_retB (by decide +kernel) rfl (by decide) ?_
            rw [← hPost]; exact ⟨rfl, _, rfl, rfl, _, rfl, (by decide), trivial⟩
          ·
            replace cc257 := Classical.not_not.mp cc257
            have f12 := zeqI cc257
            refine zp_seg (pc' := 265) (lv' := [(13, .int r243), (9, .int r197), (12, .int r178), (11, .int r169), (10, .int r158), (0, .ref m), (1, .ref r9), (2, .int n8), (3, .int k8), (4, .ref bup), (5, .ref bdn), (6, .ref bp), (7, .ref bq), (8, .int y8_6)]) (st' := [.int 1]) [(260, .iconst 1), (261, .goto 4)] (by decide +kernel) rfl ?_
            refine zr_retB (by decide +kernel) rfl (by decide) ?_
            rw [← hPost]; exact ⟨rfl, _, rfl, rfl, _, rfl, (by decide), trivial⟩
        ·
          have f13 := znltI cc52
          refine zp_seg (pc' := 56) (lv' := [(0, .ref m), (1, .ref r9), (2, .int n8), (3, .int k8), (4, .ref bup), (5, .ref bdn), (6, .ref bp), (7, .ref bq), (8, .int y8_6), (9, .int y9_46), (10, .int y10_46)]) (st' := [.ref r9]) [(55, .aload_n 1)] (by decide +kernel) rfl ?_
          refine zr_get (idx := 237) (k := 11) (v := .ref (r9 + 7)) (by decide +kernel) (by decide +kernel) hT_r9 rfl ?_
          refine zp_seg (pc' := 64) (lv' := [(0, .ref m), (1, .ref r9), (2, .int n8), (3, .int k8), (4, .ref bup), (5, .ref bdn), (6, .ref bp), (7, .ref bq), (8, .int y8_6), (9, .int y9_46), (10, .int y10_46)]) (st' := [.int (25 * y10_46), .ref (r9 + 7)]) [(59, .bipush 25), (61, .iload 10), (63, .imul)] (by decide +kernel) rfl ?_
          have k14 := zmulCl 25 y10_46 (n := 25) (by decide) (by omega) (by omega)
          generalize ev64 : (25 * y10_46 : Int32) = v64 at k14 ⊢
          have kv64 := zrng v64
          refine zp_seg (pc' := 65) (lv' := [(0, .ref m), (1, .ref r9), (2, .int n8), (3, .int k8), (4, .ref bup), (5, .ref bdn), (6, .ref bp), (7, .ref bq), (8, .int y8_6), (9, .int y9_46), (10, .int y10_46)]) (st' := [.int n8, .int v64, .ref (r9 + 7)]) [(64, .iload_n 2)] (by decide +kernel) rfl ?_
          refine zr_callS (idx := 772) (j := 399) (by decide +kernel) (by decide +kernel) (by decide) (show zMe 399 = some zq_X16_polynomialAt from rfl) rfl rfl (Nat.le_of_ble_eq_true rfl) rfl rfl (Nat.le_of_ble_eq_true rfl) (Nat.le_of_ble_eq_true rfl) (c_X16_polynomialAt (w := w) (r9 + 7) v64 n8 hA_r9_7 (by exact hfr) (by first | omega | decide | assumption | exact zr1_1 | exact zr1_0 | fail "num") (by first | omega | decide | assumption | exact zr1_1 | exact zr1_0 | fail "num")) (by omega) (fun v65 w65 hp65 => ?_)
          obtain ⟨hpw65, r65, rfl, hr65⟩ := hp65
          replace hpw65 := hpw65.symm
          subst hpw65
          have kr65 := zrng r65
          show zP _ _ _ _ [.int r65] _ _ _ _ _
          refine zp_seg (pc' := 69) (lv' := [(0, .ref m), (1, .ref r9), (2, .int n8), (3, .int k8), (4, .ref bup), (5, .ref bdn), (6, .ref bp), (7, .ref bq), (8, .int y8_6), (9, .int y9_46), (10, .int y10_46)]) (st' := [.ref m, .int r65]) [(68, .aload_n 0)] (by decide +kernel) rfl ?_
          refine zr_get (idx := 511) (k := 53) (v := .ref (m + 191)) (by decide +kernel) (by decide +kernel) hm rfl ?_
          refine zp_seg (pc' := 74) (lv' := [(0, .ref m), (1, .ref r9), (2, .int n8), (3, .int k8), (4, .ref bup), (5, .ref bdn), (6, .ref bp), (7, .ref bq), (8, .int y8_6), (9, .int y9_46), (10, .int y10_46)]) (st' := [.int y10_46, .ref (m + 191), .int r65]) [(72, .iload 10)] (by decide +kernel) rfl ?_
          refine zr_aald (v := .ref (TT + 260 * y10_46.toNatClampNeg)) (by decide +kernel) hV_m_191 (by decide) (zin (by first | omega | decide) (by first | omega | decide)) (by rw [(ht _ (by omega)).1]; rfl) ?_
          obtain ⟨PB75, hPB75⟩ := (ht y10_46.toNatClampNeg (by omega)).2.2.1
          refine zp_seg (pc' := 77) (lv' := [(0, .ref m), (1, .ref r9), (2, .int n8), (3, .int k8), (4, .ref bup), (5, .ref bdn), (6, .ref bp), (7, .ref bq), (8, .int y8_6), (9, .int y9_46), (10, .int y10_46)]) (st' := [.int k8, .int n8, .ref (TT + 260 * y10_46.toNatClampNeg), .int r65]) [(75, .iload_n 2), (76, .iload_n 3)] (by decide +kernel) rfl ?_
          refine zr_callS (idx := 769) (j := 287) (by decide +kernel) (by decide +kernel) (by decide) (show zMe 287 = some zq_X16_eval_ from rfl) rfl rfl (Nat.le_of_ble_eq_true rfl) rfl rfl (Nat.le_of_ble_eq_true rfl) (Nat.le_of_ble_eq_true rfl) (c_X16_eval_ (w := w) (TT + 260 * y10_46.toNatClampNeg) n8 k8 hPB75 (by first | omega | decide | assumption | exact zr1_1 | exact zr1_0 | fail "num") (by first | omega | decide | assumption | exact zr1_1 | exact zr1_0 | fail "num")) (by omega) (fun v77 w77 hp77 => ?_)
          obtain ⟨hpw77, r77, rfl, hr77⟩ := hp77
          replace hpw77 := hpw77.symm
          subst hpw77
          have kr77 := zrng r77
          show zP _ _ _ _ [.int r77, .int r65] _ _ _ _ _
          refine zr_callS (idx := 56) (j := 257) (by decide +kernel) (by decide +kernel) (by decide) (show zMe 257 = some zq_X16_mul from rfl) rfl rfl (Nat.le_of_ble_eq_true rfl) rfl rfl (Nat.le_of_ble_eq_true rfl) (Nat.le_of_ble_eq_true rfl) (c_X16_mul (w := w) r65 r77 (by first | exact hr65.1 | omega | decide | assumption | exact zr1_1 | exact zr1_0 | fail "num") (by first | exact hr77.1 | omega | decide | assumption | exact zr1_1 | exact zr1_0 | fail "num")) (by omega) (fun v80 w80 hp80 => ?_)
          obtain ⟨hpw80, r80, rfl, hr80⟩ := hp80
          replace hpw80 := hpw80.symm
          subst hpw80
          have kr80 := zrng r80
          show zP _ _ _ _ [.int r80] _ _ _ _ _
          refine zp_seg (pc' := 88) (lv' := [(12, .int 0), (11, .int r80), (0, .ref m), (1, .ref r9), (2, .int n8), (3, .int k8), (4, .ref bup), (5, .ref bdn), (6, .ref bp), (7, .ref bq), (8, .int y8_6), (9, .int y9_46), (10, .int y10_46)]) (st' := []) [(83, .istore 11), (85, .iconst 0), (86, .istore 12)] (by decide +kernel) rfl ?_
          have hL88 : ∀ (mm88 : Nat) (y11_88 : Int32) (y12_88 : Int32), (0 ≤ y12_88.toInt) → (y12_88.toInt ≤ (gt 10).toInt + 1) → (zr1 y11_88) → (20 - y12_88.toInt).toNat < mm88 → zP (d + 1) zq_X16_isRight 88 [(0, .ref m), (1, .ref r9), (2, .int n8), (3, .int k8), (4, .ref bup), (5, .ref bdn), (6, .ref bp), (7, .ref bq), (8, .int y8_6), (9, .int y9_46), (10, .int y10_46), (11, .int y11_88), (12, .int y12_88)] [] w sz 0 0 Post := by
            intro mm88
            induction mm88 with
            | zero => intros; omega
            | succ mm88 ih88 =>
            intro y11_88 y12_88 hi88_0 hi88_1 hz11 hmu88
            have ky11_88 := zrng y11_88
            have ky12_88 := zrng y12_88
            have hz15 : (y12_88.toNatClampNeg : Int) = y12_88.toInt := znat (by first | omega | decide)
            refine zp_seg (pc' := 91) (lv' := [(0, .ref m), (1, .ref r9), (2, .int n8), (3, .int k8), (4, .ref bup), (5, .ref bdn), (6, .ref bp), (7, .ref bq), (8, .int y8_6), (9, .int y9_46), (10, .int y10_46), (11, .int y11_88), (12, .int y12_88)]) (st' := [.ref r9, .int y12_88]) [(88, .iload 12), (90, .aload_n 1)] (by decide +kernel) rfl ?_
            refine zr_get (idx := 234) (k := 10) (v := .int (gt 10)) (by decide +kernel) (by decide +kernel) hT_r9 rfl ?_
            have hJ139 : ∀ (_ : True), zP (d + 1) zq_X16_isRight 139 [(0, .ref m), (1, .ref r9), (2, .int n8), (3, .int k8), (4, .ref bup), (5, .ref bdn), (6, .ref bp), (7, .ref bq), (8, .int y8_6), (9, .int y9_46), (10, .int y10_46), (11, .int y11_88)] [] w sz 0 0 Post := by
              intro _
              refine zp_seg (pc' := 143) (lv' := [(0, .ref m), (1, .ref r9), (2, .int n8), (3, .int k8), (4, .ref bup), (5, .ref bdn), (6, .ref bp), (7, .ref bq), (8, .int y8_6), (9, .int y9_46), (10, .int y10_46), (11, .int y11_88)]) (st' := [.int y11_88, .int y9_46]) [(139, .iload 9), (141, .iload 11)] (by decide +kernel) rfl ?_
              refine zr_callS (idx := 49) (j := 255) (by decide +kernel) (by decide +kernel) (by decide) (show zMe 255 = some zq_X16_add from rfl) rfl rfl (Nat.le_of_ble_eq_true rfl) rfl rfl (Nat.le_of_ble_eq_true rfl) (Nat.le_of_ble_eq_true rfl) (c_X16_add (w := w) y9_46 y11_88 (by first | omega | decide | assumption | exact zr1_1 | exact zr1_0 | fail "num") (by first | omega | decide | assumption | exact zr1_1 | exact zr1_0 | fail "num")) (by omega) (fun v143 w143 hp143 => ?_)
              obtain ⟨hpw143, r143, rfl, hr143⟩ := hp143
              replace hpw143 := hpw143.symm
              subst hpw143
              have kr143 := zrng r143
              show zP _ _ _ _ [.int r143] _ _ _ _ _
              refine zp_seg (pc' := 151) (lv' := [(10, .int (y10_46 + 1)), (9, .int r143), (0, .ref m), (1, .ref r9), (2, .int n8), (3, .int k8), (4, .ref bup), (5, .ref bdn), (6, .ref bp), (7, .ref bq), (8, .int y8_6), (11, .int y11_88)]) (st' := []) [(146, .istore 9), (148, .iinc 10 1)] (by decide +kernel) rfl ?_
              have k16 := zaddC y10_46 1 (n := 1) (by decide) (by omega) (by omega)
              generalize ev151 : (y10_46 + 1 : Int32) = v151 at k16 ⊢
              have kv151 := zrng v151
              refine zp_seg (pc' := 46) (lv' := [(10, .int v151), (9, .int r143), (0, .ref m), (1, .ref r9), (2, .int n8), (3, .int k8), (4, .ref bup), (5, .ref bdn), (6, .ref bp), (7, .ref bq), (8, .int y8_6), (11, .int y11_88)]) (st' := []) [(151, .goto (-105))] (by decide +kernel) rfl ?_
              have hz17 : (v151.toNatClampNeg : Int) = v151.toInt := znat (by first | omega | decide)
              exact (ih46 r143 v151 (by first | assumption | omega | decide) (by first | assumption | omega | decide) (by
                    exact hr143.1) (by omega)).more (zfa1 rfl (zfa1 rfl (zfa1 rfl (zfa1 rfl (zfa1 rfl (zfa1 rfl (zfa1 rfl (zfa1 rfl (zfa1 rfl (zfa1 rfl (zfa1 rfl (zfa0))))))))))))
            refine zp_if (i := .if_icmp .gt 45) (c := (gt 10) < y12_88) (t := 139) (e := 97) (lv' := [(0, .ref m), (1, .ref r9), (2, .int n8), (3, .int k8), (4, .ref bup), (5, .ref bdn), (6, .ref bp), (7, .ref bq), (8, .int y8_6), (9, .int y9_46), (10, .int y10_46), (11, .int y11_88), (12, .int y12_88)]) (st' := []) (by decide +kernel) rfl (fun cc94 => ?_) (fun cc94 => ?_)
            ·
              have f18 := zltI cc94
              exact (hJ139 trivial ).more (zfa1 rfl (zfa1 rfl (zfa1 rfl (zfa1 rfl (zfa1 rfl (zfa1 rfl (zfa1 rfl (zfa1 rfl (zfa1 rfl (zfa1 rfl (zfa1 rfl (zfa1 rfl (zfa0)))))))))))))
            ·
              have f19 := znltI cc94
              refine zp_seg (pc' := 99) (lv' := [(0, .ref m), (1, .ref r9), (2, .int n8), (3, .int k8), (4, .ref bup), (5, .ref bdn), (6, .ref bp), (7, .ref bq), (8, .int y8_6), (9, .int y9_46), (10, .int y10_46), (11, .int y11_88), (12, .int y12_88)]) (st' := [.int y11_88]) [(97, .iload 11)] (by decide +kernel) rfl ?_
              refine zp_if (i := .ifCond .eq 40) (c := y11_88 = 0) (t := 139) (e := 102) (lv' := [(0, .ref m), (1, .ref r9), (2, .int n8), (3, .int k8), (4, .ref bup), (5, .ref bdn), (6, .ref bp), (7, .ref bq), (8, .int y8_6), (9, .int y9_46), (10, .int y10_46), (11, .int y11_88), (12, .int y12_88)]) (st' := []) (by decide +kernel) rfl (fun cc99 => ?_) (fun cc99 => ?_)
              ·
                have f21 := zeqI cc99
                rw [show (0 : Int32).toInt = 0 from by decide] at f21
                exact (hJ139 trivial ).more (zfa1 rfl (zfa1 rfl (zfa1 rfl (zfa1 rfl (zfa1 rfl (zfa1 rfl (zfa1 rfl (zfa1 rfl (zfa1 rfl (zfa1 rfl (zfa1 rfl (zfa1 rfl (zfa0)))))))))))))
              ·
                have f23 := zneI cc99
                rw [show (0 : Int32).toInt = 0 from by decide] at f23
                refine zp_seg (pc' := 106) (lv' := [(0, .ref m), (1, .ref r9), (2, .int n8), (3, .int k8), (4, .ref bup), (5, .ref bdn), (6, .ref bp), (7, .ref bq), (8, .int y8_6), (9, .int y9_46), (10, .int y10_46), (11, .int y11_88), (12, .int y12_88)]) (st' := [.int y10_46, .int y12_88]) [(102, .iload 12), (104, .iload 10)] (by decide +kernel) rfl ?_
                have hJ131 : ∀ (z0_131 : Int32), (zr1 z0_131) → zP (d + 1) zq_X16_isRight 131 [(0, .ref m), (1, .ref r9), (2, .int n8), (3, .int k8), (4, .ref bup), (5, .ref bdn), (6, .ref bp), (7, .ref bq), (8, .int y8_6), (9, .int y9_46), (10, .int y10_46), (12, .int y12_88)] [.int z0_131] w sz 0 0 Post := by
                  intro z0_131 hz131
                  have kz0_131 := zrng z0_131
                  refine zp_seg (pc' := 136) (lv' := [(12, .int (y12_88 + 1)), (11, .int z0_131), (0, .ref m), (1, .ref r9), (2, .int n8), (3, .int k8), (4, .ref bup), (5, .ref bdn), (6, .ref bp), (7, .ref bq), (8, .int y8_6), (9, .int y9_46), (10, .int y10_46)]) (st' := []) [(131, .istore 11), (133, .iinc 12 1)] (by decide +kernel) rfl ?_
                  have k24 := zaddC y12_88 1 (n := 1) (by decide) (by omega) (by omega)
                  generalize ev136 : (y12_88 + 1 : Int32) = v136 at k24 ⊢
                  have kv136 := zrng v136
                  refine zp_seg (pc' := 88) (lv' := [(12, .int v136), (11, .int z0_131), (0, .ref m), (1, .ref r9), (2, .int n8), (3, .int k8), (4, .ref bup), (5, .ref bdn), (6, .ref bp), (7, .ref bq), (8, .int y8_6), (9, .int y9_46), (10, .int y10_46)]) (st' := []) [(136, .goto (-48))] (by decide +kernel) rfl ?_
                  have hz25 : (v136.toNatClampNeg : Int) = v136.toInt := znat (by first | omega | decide)
                  exact (ih88 z0_131 v136 (by first | assumption | omega | decide) (by first | assumption | omega | decide) (by
                        exact hz131) (by omega)).more (zfa1 rfl (zfa1 rfl (zfa1 rfl (zfa1 rfl (zfa1 rfl (zfa1 rfl (zfa1 rfl (zfa1 rfl (zfa1 rfl (zfa1 rfl (zfa1 rfl (zfa1 rfl (zfa1 rfl (zfa0))))))))))))))
                refine zp_if (i := .if_icmp .ne 8) (c := ¬ y12_88 = y10_46) (t := 114) (e := 109) (lv' := [(0, .ref m), (1, .ref r9), (2, .int n8), (3, .int k8), (4, .ref bup), (5, .ref bdn), (6, .ref bp), (7, .ref bq), (8, .int y8_6), (9, .int y9_46), (10, .int y10_46), (11, .int y11_88), (12, .int y12_88)]) (st' := []) (by decide +kernel) rfl (fun cc106 => ?_) (fun cc106 => ?_)
                ·
                  have f26 := zneI cc106
                  refine zp_seg (pc' := 117) (lv' := [(0, .ref m), (1, .ref r9), (2, .int n8), (3, .int k8), (4, .ref bup), (5, .ref bdn), (6, .ref bp), (7, .ref bq), (8, .int y8_6), (9, .int y9_46), (10, .int y10_46), (11, .int y11_88), (12, .int y12_88)]) (st' := [.ref m, .int y11_88]) [(114, .iload 11), (116, .aload_n 0)] (by decide +kernel) rfl ?_
                  refine zr_get (idx := 514) (k := 54) (v := .ref (m + 192)) (by decide +kernel) (by decide +kernel) hm rfl ?_
                  refine zp_seg (pc' := 122) (lv' := [(0, .ref m), (1, .ref r9), (2, .int n8), (3, .int k8), (4, .ref bup), (5, .ref bdn), (6, .ref bp), (7, .ref bq), (8, .int y8_6), (9, .int y9_46), (10, .int y10_46), (11, .int y11_88), (12, .int y12_88)]) (st' := [.int y12_88, .ref (m + 192), .int y11_88]) [(120, .iload 12)] (by decide +kernel) rfl ?_
                  refine zr_aald (v := .ref (TT + 130 + 260 * y12_88.toNatClampNeg)) (by decide +kernel) hV_m_192 (by decide) (zin (by first | omega | decide) (by first | omega | decide)) (by rw [(ht _ (by omega)).2.1]; rfl) ?_
                  obtain ⟨PB123, hPB123⟩ := (ht y12_88.toNatClampNeg (by omega)).2.2.2
                  refine zp_seg (pc' := 125) (lv' := [(0, .ref m), (1, .ref r9), (2, .int n8), (3, .int k8), (4, .ref bup), (5, .ref bdn), (6, .ref bp), (7, .ref bq), (8, .int y8_6), (9, .int y9_46), (10, .int y10_46), (11, .int y11_88), (12, .int y12_88)]) (st' := [.int k8, .int n8, .ref (TT + 130 + 260 * y12_88.toNatClampNeg), .int y11_88]) [(123, .iload_n 2), (124, .iload_n 3)] (by decide +kernel) rfl ?_
                  refine zr_callS (idx := 769) (j := 287) (by decide +kernel) (by decide +kernel) (by decide) (show zMe 287 = some zq_X16_eval_ from rfl) rfl rfl (Nat.le_of_ble_eq_true rfl) rfl rfl (Nat.le_of_ble_eq_true rfl) (Nat.le_of_ble_eq_true rfl) (c_X16_eval_ (w := w) (TT + 130 + 260 * y12_88.toNatClampNeg) n8 k8 hPB123 (by first | omega | decide | assumption | exact zr1_1 | exact zr1_0 | fail "num") (by first | omega | decide | assumption | exact zr1_1 | exact zr1_0 | fail "num")) (by omega) (fun v125 w125 hp125 => ?_)
                  obtain ⟨hpw125, r125, rfl, hr125⟩ := hp125
                  replace hpw125 := hpw125.symm
                  subst hpw125
                  have kr125 := zrng r125
                  show zP _ _ _ _ [.int r125, .int y11_88] _ _ _ _ _
                  refine zr_callS (idx := 56) (j := 257) (by decide +kernel) (by decide +kernel) (by decide) (show zMe 257 = some zq_X16_mul from rfl) rfl rfl (Nat.le_of_ble_eq_true rfl) rfl rfl (Nat.le_of_ble_eq_true rfl) (Nat.le_of_ble_eq_true rfl) (c_X16_mul (w := w) y11_88 r125 (by first | omega | decide | assumption | exact zr1_1 | exact zr1_0 | fail "num") (by first | exact hr125.1 | omega | decide | assumption | exact zr1_1 | exact zr1_0 | fail "num")) (by omega) (fun v128 w128 hp128 => ?_)
                  obtain ⟨hpw128, r128, rfl, hr128⟩ := hp128
                  replace hpw128 := hpw128.symm
                  subst hpw128
                  have kr128 := zrng r128
                  show zP _ _ _ _ [.int r128] _ _ _ _ _
                  exact (hJ131 r128 (by
                        first | exact hz11 | exact hr128.1)).more (zfa1 rfl (zfa1 rfl (zfa1 rfl (zfa1 rfl (zfa1 rfl (zfa1 rfl (zfa1 rfl (zfa1 rfl (zfa1 rfl (zfa1 rfl (zfa1 rfl (zfa1 rfl (zfa0)))))))))))))
                ·
                  replace cc106 := Classical.not_not.mp cc106
                  have f27 := zeqI cc106
                  refine zp_seg (pc' := 131) (lv' := [(0, .ref m), (1, .ref r9), (2, .int n8), (3, .int k8), (4, .ref bup), (5, .ref bdn), (6, .ref bp), (7, .ref bq), (8, .int y8_6), (9, .int y9_46), (10, .int y10_46), (11, .int y11_88), (12, .int y12_88)]) (st' := [.int y11_88]) [(109, .iload 11), (111, .goto 20)] (by decide +kernel) rfl ?_
                  exact (hJ131 y11_88 (by
                        first | exact hz11 | exact hr128.1)).more (zfa1 rfl (zfa1 rfl (zfa1 rfl (zfa1 rfl (zfa1 rfl (zfa1 rfl (zfa1 rfl (zfa1 rfl (zfa1 rfl (zfa1 rfl (zfa1 rfl (zfa1 rfl (zfa0)))))))))))))
          have hl28 : (0 : Int32).toInt = 0 := by decide
          have hz29 : ((0 : Int32).toNatClampNeg : Int) = 0 := by decide
          exact (hL88 _ r80 0 (by first | assumption | omega | decide) (by first | assumption | omega | decide) (by
                exact hr80.1) (Nat.lt_succ_self _)).more (zfa1 rfl (zfa1 rfl (zfa1 rfl (zfa1 rfl (zfa1 rfl (zfa1 rfl (zfa1 rfl (zfa1 rfl (zfa1 rfl (zfa1 rfl (zfa1 rfl (zfa1 rfl (zfa1 rfl (zfa0))))))))))))))
      have hl30 : (0 : Int32).toInt = 0 := by decide
      have hz31 : ((0 : Int32).toNatClampNeg : Int) = 0 := by decide
      exact (hL46 _ 0 0 (by first | assumption | omega | decide) (by first | assumption | omega | decide) (by
            exact zr1_0) (Nat.lt_succ_self _)).more (zfa1 rfl (zfa1 rfl (zfa1 rfl (zfa1 rfl (zfa1 rfl (zfa1 rfl (zfa1 rfl (zfa1 rfl (zfa1 rfl (zfa1 rfl (zfa1 rfl (zfa0))))))))))))
    ·
      have f32 := znltI cc12
      refine zp_seg (pc' := 18) (lv' := [(0, .ref m), (1, .ref r9), (2, .int n8), (3, .int k8), (4, .ref bup), (5, .ref bdn), (6, .ref bp), (7, .ref bq), (8, .int y8_6), (9, .int y9_6)]) (st' := [.ref m, .int y8_6]) [(15, .iload 8), (17, .aload_n 0)] (by decide +kernel) rfl ?_
      refine zr_get (idx := 514) (k := 54) (v := .ref (m + 192)) (by decide +kernel) (by decide +kernel) hm rfl ?_
      refine zp_seg (pc' := 23) (lv' := [(0, .ref m), (1, .ref r9), (2, .int n8), (3, .int k8), (4, .ref bup), (5, .ref bdn), (6, .ref bp), (7, .ref bq), (8, .int y8_6), (9, .int y9_6)]) (st' := [.int y9_6, .ref (m + 192), .int y8_6]) [(21, .iload 9)] (by decide +kernel) rfl ?_
      refine zr_aald (v := .ref (TT + 130 + 260 * y9_6.toNatClampNeg)) (by decide +kernel) hV_m_192 (by decide) (zin (by first | omega | decide) (by first | omega | decide)) (by rw [(ht _ (by omega)).2.1]; rfl) ?_
      obtain ⟨PB24, hPB24⟩ := (ht y9_6.toNatClampNeg (by omega)).2.2.2
      refine zp_seg (pc' := 26) (lv' := [(0, .ref m), (1, .ref r9), (2, .int n8), (3, .int k8), (4, .ref bup), (5, .ref bdn), (6, .ref bp), (7, .ref bq), (8, .int y8_6), (9, .int y9_6)]) (st' := [.int k8, .int n8, .ref (TT + 130 + 260 * y9_6.toNatClampNeg), .int y8_6]) [(24, .iload_n 2), (25, .iload_n 3)] (by decide +kernel) rfl ?_
      refine zr_callS (idx := 769) (j := 287) (by decide +kernel) (by decide +kernel) (by decide) (show zMe 287 = some zq_X16_eval_ from rfl) rfl rfl (Nat.le_of_ble_eq_true rfl) rfl rfl (Nat.le_of_ble_eq_true rfl) (Nat.le_of_ble_eq_true rfl) (c_X16_eval_ (w := w) (TT + 130 + 260 * y9_6.toNatClampNeg) n8 k8 hPB24 (by first | omega | decide | assumption | exact zr1_1 | exact zr1_0 | fail "num") (by first | omega | decide | assumption | exact zr1_1 | exact zr1_0 | fail "num")) (by omega) (fun v26 w26 hp26 => ?_)
      obtain ⟨hpw26, r26, rfl, hr26⟩ := hp26
      replace hpw26 := hpw26.symm
      subst hpw26
      have kr26 := zrng r26
      show zP _ _ _ _ [.int r26, .int y8_6] _ _ _ _ _
      refine zr_callS (idx := 56) (j := 257) (by decide +kernel) (by decide +kernel) (by decide) (show zMe 257 = some zq_X16_mul from rfl) rfl rfl (Nat.le_of_ble_eq_true rfl) rfl rfl (Nat.le_of_ble_eq_true rfl) (Nat.le_of_ble_eq_true rfl) (c_X16_mul (w := w) y8_6 r26 (by first | omega | decide | assumption | exact zr1_1 | exact zr1_0 | fail "num") (by first | exact hr26.1 | omega | decide | assumption | exact zr1_1 | exact zr1_0 | fail "num")) (by omega) (fun v29 w29 hp29 => ?_)
      obtain ⟨hpw29, r29, rfl, hr29⟩ := hp29
      replace hpw29 := hpw29.symm
      subst hpw29
      have kr29 := zrng r29
      show zP _ _ _ _ [.int r29] _ _ _ _ _
      refine zp_seg (pc' := 37) (lv' := [(9, .int (y9_6 + 1)), (8, .int r29), (0, .ref m), (1, .ref r9), (2, .int n8), (3, .int k8), (4, .ref bup), (5, .ref bdn), (6, .ref bp), (7, .ref bq)]) (st' := []) [(32, .istore 8), (34, .iinc 9 1)] (by decide +kernel) rfl ?_
      have k33 := zaddC y9_6 1 (n := 1) (by decide) (by omega) (by omega)
      generalize ev37 : (y9_6 + 1 : Int32) = v37 at k33 ⊢
      have kv37 := zrng v37
      refine zp_seg (pc' := 6) (lv' := [(9, .int v37), (8, .int r29), (0, .ref m), (1, .ref r9), (2, .int n8), (3, .int k8), (4, .ref bup), (5, .ref bdn), (6, .ref bp), (7, .ref bq)]) (st' := []) [(37, .goto (-31))] (by decide +kernel) rfl ?_
      have hz34 : (v37.toNatClampNeg : Int) = v37.toInt := znat (by first | omega | decide)
      exact (ih6 r29 v37 (by first | assumption | omega | decide) (by first | assumption | omega | decide) (by
            exact hr29.1) (by omega)).more (zfa1 rfl (zfa1 rfl (zfa1 rfl (zfa1 rfl (zfa1 rfl (zfa1 rfl (zfa1 rfl (zfa1 rfl (zfa1 rfl (zfa1 rfl (zfa0)))))))))))
  have hl35 : (1 : Int32).toInt = 1 := by decide
  have hl36 : (0 : Int32).toInt = 0 := by decide
  have hz37 : ((0 : Int32).toNatClampNeg : Int) = 0 := by decide
  exact (hL6 _ 1 0 (by first | assumption | omega | decide) (by first | assumption | omega | decide) (by
        exact zr1_1) (Nat.lt_succ_self _)).more (zfa1 rfl (zfa1 rfl (zfa1 rfl (zfa1 rfl (zfa1 rfl (zfa1 rfl (zfa1 rfl (zfa1 rfl (zfa1 rfl (zfa1 rfl (zfa0)))))))))))
