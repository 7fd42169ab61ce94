set_option maxHeartbeats 8000000 in
set_option maxRecDepth 100000 in
theorem c_X16_divideN {w : zM} {cr ca cb : Nat} {p d9 : zA1} (r : Nat) (a : Nat) (b : Nat) (hUo_r : zUo w r cr) (hU_a : zU w a ca p) (hU_b : zU w b cb d9) (hra : r ≠ a) (hrb : r ≠ b) (hcr : zln p ≤ cr) (hd9 : 0 < zln d9) (hbig : zln p + zln d9 ≤ 100000) : zCon 3 zq_X16_divide [.null, .ref r, .ref a, .ref b] w (fun v9 w9' => zSI w w9' ∧ (∀ x, (x < r ∨ r + 2 ≤ x) → w9' x = w x) ∧ zU w9' r cr (zrem p d9) ∧ v9 = none) := by
  intro d sz hd
  obtain ⟨d, rfl⟩ : ∃ d9, d = d9 + 1 := ⟨d - 1, by omega⟩
  generalize hPost : (fun (r9' : Option (Option Value)) (w9' : zM) (z9 : Nat) => z9 = sz ∧ ∃ v9, r9' = some v9 ∧ (zSI w w9' ∧ (∀ x, (x < r ∨ r + 2 ≤ x) → w9' x = w x) ∧ zU w9' r cr (zrem p d9) ∧ v9 = none)) = Post
  show zP (d + 1) zq_X16_divide 0 [(0, .null), (1, .ref r), (2, .ref a), (3, .ref b)] [] w sz 0 0 Post
  have hn1 := hUo_r.ne hU_a.o
  have hn2 := hUo_r.ne hU_b.o
  have hn3 := hU_a.o.ne hUo_r
  have hn4 := hU_b.o.ne hUo_r
  obtain ⟨na, fa, ha1, ha2, ha3, ha4, ha5⟩ := id hU_a
  have kna := zrng na
  have k1 := zrng na
  have hz2 : (na.toNatClampNeg : Int) = na.toInt := znat (by first | omega | decide)
  obtain ⟨nb, fb, hb1, hb2, hb3, hb4, hb5⟩ := id hU_b
  have knb := zrng nb
  have k3 := zrng nb
  have hz4 : (nb.toNatClampNeg : Int) = nb.toInt := znat (by first | omega | decide)
  refine zp_seg (pc' := 2) (lv' := [(0, .null), (1, .ref r), (2, .ref a), (3, .ref b)]) (st' := [.ref a, .ref r]) [(0, .aload_n 1), (1, .aload_n 2)] (by decide +kernel) rfl ?_
  refine zr_callS (idx := 62) (j := 264) (by decide +kernel) (by decide +kernel) (by decide) (show zMe 264 = some zq_X16_set from rfl) rfl rfl (Nat.le_of_ble_eq_true rfl) rfl rfl (Nat.le_of_ble_eq_true rfl) (Nat.le_of_ble_eq_true rfl) (c_X16_set (w := w) r a hUo_r hU_a (by first | omega | decide | assumption) (by first | omega | decide | assumption)) (by omega) (fun v2 w2 hp2 => ?_)
  obtain ⟨hsi2, heq2, hp2_0, rfl⟩ := hp2
  show zP _ _ _ _ [] _ _ _ _ _
  obtain ⟨nr, fr, hr1, hr2, hr3, hr4, hr5⟩ := id hp2_0
  have knr := zrng nr
  have k5 := zrng nr
  have hz6 : (nr.toNatClampNeg : Int) = nr.toInt := znat (by first | omega | decide)
  refine zp_seg (pc' := 6) (lv' := [(0, .null), (1, .ref r), (2, .ref a), (3, .ref b)]) (st' := [.ref b]) [(5, .aload_n 3)] (by decide +kernel) rfl ?_
  have hb7 : zU w2 b cb d9 := hU_b.ag (fun x hx1 hx2 => (heq2 x (by omega)))
  have hb8 : w2 b = some (.inl (14, [.ref (b + 1), .int nb])) := (heq2 b (by omega)).trans hb1
  refine zr_callV (idx := 66) (j := 253) (by decide +kernel) (by decide +kernel) (show zMe 253 = some zq_X15_head from rfl) rfl rfl (Nat.le_of_ble_eq_true rfl) rfl rfl hb8 (Nat.le_of_ble_eq_true rfl) (Nat.le_of_ble_eq_true rfl) (c_X15_head (w := w2) b hb7) (by omega) (fun v6 w6 hp6 => ?_)
  obtain ⟨hpw6, r6, rfl, hr6⟩ := hp6
  replace hpw6 := hpw6.symm
  subst hpw6
  have kr6 := zrng r6
  show zP _ _ _ _ [.int r6] _ _ _ _ _
  refine zr_callS (idx := 13) (j := 259) (by decide +kernel) (by decide +kernel) (by decide) (show zMe 259 = some zq_X16_inv from rfl) rfl rfl (Nat.le_of_ble_eq_true rfl) rfl rfl (Nat.le_of_ble_eq_true rfl) (Nat.le_of_ble_eq_true rfl) (c_X16_inv (w := w2) r6 (by exact hr6.1)) (by omega) (fun v9 w9 hp9 => ?_)
  obtain ⟨hpw9, r9, rfl, hr9⟩ := hp9
  replace hpw9 := hpw9.symm
  subst hpw9
  have kr9 := zrng r9
  show zP _ _ _ _ [.int r9] _ _ _ _ _
  have hfd : zf r9 * d9.1 (zln d9 - 1) = 1 := by rw [hr9.2, hr6.2]; exact (zF_comm _ _).trans (zinvF_mul (zhd_nz hd9))
  refine zp_seg (pc' := 15) (lv' := [(4, .int r9), (0, .null), (1, .ref r), (2, .ref a), (3, .ref b)]) (st' := [.null]) [(12, .istore 4), (14, .aload_n 0)] (by decide +kernel) rfl ?_
  refine zp_pure (pc' := 37) (lv' := [(4, .int r9), (0, .null), (1, .ref r), (2, .ref a), (3, .ref b)]) (st' := []) (i := .ifnull 22) (by decide +kernel) rfl ?_
  refine zp_seg (pc' := 38) (lv' := [(4, .int r9), (0, .null), (1, .ref r), (2, .ref a), (3, .ref b)]) (st' := [.ref a]) [(37, .aload_n 2)] (by decide +kernel) rfl ?_
  have hb9 : w2 a = some (.inl (14, [.ref (a + 1), .int na])) := (heq2 a (by omega)).trans ha1
  refine zr_get (idx := 25) (k := 1) (v := .int na) (by decide +kernel) (by decide +kernel) hb9 rfl ?_
  refine zp_seg (pc' := 42) (lv' := [(4, .int r9), (0, .null), (1, .ref r), (2, .ref a), (3, .ref b)]) (st' := [.ref b, .int na]) [(41, .aload_n 3)] (by decide +kernel) rfl ?_
  refine zr_get (idx := 25) (k := 1) (v := .int nb) (by decide +kernel) (by decide +kernel) hb8 rfl ?_
  refine zp_seg (pc' := 46) (lv' := [(4, .int r9), (0, .null), (1, .ref r), (2, .ref a), (3, .ref b)]) (st' := [.int (na - nb)]) [(45, .isub)] (by decide +kernel) rfl ?_
  have k10 := zsub na nb (by omega) (by omega)
  generalize ev46 : (na - nb : Int32) = v46 at k10 ⊢
  have kv46 := zrng v46
  refine zp_seg (pc' := 48) (lv' := [(5, .int v46), (4, .int r9), (0, .null), (1, .ref r), (2, .ref a), (3, .ref b)]) (st' := []) [(46, .istore 5)] (by decide +kernel) rfl ?_
  have hL48 : ∀ (mm48 : Nat) (wL48 : zM) (y5_48 : Int32) (Q : Nat → zF) (R : Nat → zF), (zSI w2 wL48) → (∀ x, (x < r + 1 ∨ r + 1 + 1 ≤ x) → wL48 x = w2 x) → (y5_48.toInt ≤ na.toInt - nb.toInt ∨ y5_48.toInt = -1) → (-1 ≤ y5_48.toInt ∨ y5_48.toInt = na.toInt - nb.toInt) → (∃ gt, wL48 (r + 1) = some (.inr (0, cr, .inl gt)) ∧ ∀ t, t < zln p → zr1 (gt t) ∧ zf (gt t) = R t) → (zDivI p d9 Q R (y5_48.toInt + 1).toNat) → (y5_48.toInt + 1).toNat < mm48 → zP (d + 1) zq_X16_divide 48 [(0, .null), (1, .ref r), (3, .ref b), (4, .int r9), (5, .int y5_48)] [] wL48 sz 0 0 Post := by
    intro mm48
    induction mm48 with
    | zero => intros; omega
    | succ mm48 ih48 =>
    intro wL48 y5_48 Q R hsiL48 heqL48 hi48_0 hi48_1 hT hQR hmu48
    have ky5_48 := zrng y5_48
    refine zp_seg (pc' := 50) (lv' := [(0, .null), (1, .ref r), (3, .ref b), (4, .int r9), (5, .int y5_48)]) (st' := [.int y5_48]) [(48, .iload 5)] (by decide +kernel) rfl ?_
    refine zp_if (i := .ifCond .lt 121) (c := y5_48 < 0) (t := 171) (e := 53) (lv' := [(0, .null), (1, .ref r), (3, .ref b), (4, .int r9), (5, .int y5_48)]) (st' := []) (by decide +kernel) rfl (fun cc50 => ?_) (fun cc50 => ?_)
    ·
      have f12 := zltI cc50
      rw [show (0 : Int32).toInt = 0 from by decide] at f12
      have hb13 : wL48 r = some (.inl (14, [.ref (r + 1), .int nr])) := (heqL48 r (by omega)).trans hr1
      obtain ⟨gt, hgt, hgtv⟩ := id hT
      obtain ⟨hER, hEQ, hq5⟩ := zDivI_e hd9 (show zDivI p d9 Q R 0 by rw [show (y5_48.toInt + 1).toNat = 0 by omega] at hQR; exact hQR)
      have hUnr : zUw wL48 r cr (zln p) (zrem p d9) := ⟨_, gt, hb13, hgt, by omega, hcr, fun t ht => ⟨(hgtv t ht).1, (hgtv t ht).2.trans (hER t)⟩, fun t ht => by rw [← hER]; exact hq5 t ht⟩
      refine zp_seg (pc' := 172) (lv' := [(0, .null), (1, .ref r), (3, .ref b), (4, .int r9), (5, .int y5_48)]) (st' := [.ref r]) [(171, .aload_n 1)] (by decide +kernel) rfl ?_
      refine zr_callV (idx := 52) (j := 251) (by decide +kernel) (by decide +kernel) (show zMe 251 = some zq_X15_trim from rfl) rfl rfl (Nat.le_of_ble_eq_true rfl) rfl rfl hb13 (Nat.le_of_ble_eq_true rfl) (Nat.le_of_ble_eq_true rfl) (c_X15_trim (w := wL48) r hUnr) (by omega) (fun v172 w172 hp172 => ?_)
      obtain ⟨hsi172, heq172, hp172_0, rfl⟩ := hp172
      show zP _ _ _ _ [] _ _ _ _ _
      have hoffend : ∀ x, (x < r ∨ r + 2 ≤ x) → w172 x = w x := fun x hx => ((heq172 x (by omega)).trans ((heqL48 x (by omega)).trans (heq2 x (by omega))))
      refine zr_retV (by decide +kernel) rfl ?_
      rw [← hPost]; exact ⟨rfl, _, rfl, ((hsi2.tr hsiL48).tr hsi172), hoffend, (by first | exact hp172_0 | (have z9 := hp172_0; simpa using z9)), rfl⟩
    ·
      have f15 := znltI cc50
      rw [show (0 : Int32).toInt = 0 from by decide] at f15
      obtain ⟨gt, hgt, hgtv⟩ := id hT
      have hz16 : (y5_48.toNatClampNeg : Int) = y5_48.toInt := znat (by first | omega | decide)
      refine zp_seg (pc' := 56) (lv' := [(0, .null), (1, .ref r), (3, .ref b), (4, .int r9), (5, .int y5_48)]) (st' := [.ref b, .int y5_48]) [(53, .iload 5), (55, .aload_n 3)] (by decide +kernel) rfl ?_
      have hb17 : wL48 b = some (.inl (14, [.ref (b + 1), .int nb])) := (heqL48 b (by omega)).trans hb8
      refine zr_get (idx := 25) (k := 1) (v := .int nb) (by decide +kernel) (by decide +kernel) hb17 rfl ?_
      refine zp_seg (pc' := 60) (lv' := [(0, .null), (1, .ref r), (3, .ref b), (4, .int r9), (5, .int y5_48)]) (st' := [.int (y5_48 + nb)]) [(59, .iadd)] (by decide +kernel) rfl ?_
      have k18 := zadd y5_48 nb (by omega) (by omega)
      generalize ev60 : (y5_48 + nb : Int32) = v60 at k18 ⊢
      have kv60 := zrng v60
      refine zp_seg (pc' := 62) (lv' := [(0, .null), (1, .ref r), (3, .ref b), (4, .int r9), (5, .int y5_48)]) (st' := [.int (v60 - 1)]) [(60, .iconst 1), (61, .isub)] (by decide +kernel) rfl ?_
      have k19 := zsubC v60 1 (n := 1) (by decide) (by omega) (by omega)
      generalize ev62 : (v60 - 1 : Int32) = v62 at k19 ⊢
      have kv62 := zrng v62
      refine zp_seg (pc' := 63) (lv' := [(0, .null), (1, .ref r), (3, .ref b), (4, .int r9), (5, .int y5_48)]) (st' := [.ref r, .int v62]) [(62, .aload_n 1)] (by decide +kernel) rfl ?_
      have hb20 : wL48 r = some (.inl (14, [.ref (r + 1), .int nr])) := (heqL48 r (by omega)).trans hr1
      refine zr_get (idx := 25) (k := 1) (v := .int nr) (by decide +kernel) (by decide +kernel) hb20 rfl ?_
      refine zp_if (i := .if_icmp .ge 25) (c := nr ≤ v62) (t := 91) (e := 69) (lv' := [(0, .null), (1, .ref r), (3, .ref b), (4, .int r9), (5, .int y5_48)]) (st' := []) (by decide +kernel) rfl (fun cc66 => ?_) (fun cc66 => ?_)
      ·
        have f21 := zleI cc66
        exfalso
        omega
      ·
        have f22 := znleI cc66
        refine zp_seg (pc' := 70) (lv' := [(0, .null), (1, .ref r), (3, .ref b), (4, .int r9), (5, .int y5_48)]) (st' := [.ref r]) [(69, .aload_n 1)] (by decide +kernel) rfl ?_
        refine zr_get (idx := 30) (k := 0) (v := .ref (r + 1)) (by decide +kernel) (by decide +kernel) hb20 rfl ?_
        refine zp_seg (pc' := 76) (lv' := [(0, .null), (1, .ref r), (3, .ref b), (4, .int r9), (5, .int y5_48)]) (st' := [.ref b, .int y5_48, .ref (r + 1)]) [(73, .iload 5), (75, .aload_n 3)] (by decide +kernel) rfl ?_
        refine zr_get (idx := 25) (k := 1) (v := .int nb) (by decide +kernel) (by decide +kernel) hb17 rfl ?_
        refine zp_seg (pc' := 80) (lv' := [(0, .null), (1, .ref r), (3, .ref b), (4, .int r9), (5, .int y5_48)]) (st' := [.int (y5_48 + nb), .ref (r + 1)]) [(79, .iadd)] (by decide +kernel) rfl ?_
        have k23 := zadd y5_48 nb (by omega) (by omega)
        generalize ev80 : (y5_48 + nb : Int32) = v80 at k23 ⊢
        have kv80 := zrng v80
        refine zp_seg (pc' := 82) (lv' := [(0, .null), (1, .ref r), (3, .ref b), (4, .int r9), (5, .int y5_48)]) (st' := [.int (v80 - 1), .ref (r + 1)]) [(80, .iconst 1), (81, .isub)] (by decide +kernel) rfl ?_
        have k24 := zsubC v80 1 (n := 1) (by decide) (by omega) (by omega)
        generalize ev82 : (v80 - 1 : Int32) = v82 at k24 ⊢
        have kv82 := zrng v82
        refine zr_iald (by decide +kernel) hgt (zin (by first | omega | decide) (by first | omega | decide)) ?_
        have hz25 : (v82.toNatClampNeg : Int) = v82.toInt := znat (by first | omega | decide)
        obtain ⟨x82, ex82⟩ : ∃ x9, x9 = gt (v82.toNatClampNeg) := ⟨_, rfl⟩
        rw [← ex82]
        have kx82 := zrng x82
        have hvx82 := hgtv (v82.toNatClampNeg) (by omega)
        rw [← ex82] at hvx82
        have hwx82 : 0 ≤ x82.toInt ∧ x82.toInt < 2147483647 := hvx82.1
        refine zp_seg (pc' := 85) (lv' := [(0, .null), (1, .ref r), (3, .ref b), (4, .int r9), (5, .int y5_48)]) (st' := [.int r9, .int x82]) [(83, .iload 4)] (by decide +kernel) rfl ?_
        refine zr_callS (idx := 56) (j := 257) (by decide +kernel) (by decide +kernel) (by decide) (show zMe 257 = some zq_X16_mul from rfl) rfl rfl (Nat.le_of_ble_eq_true rfl) rfl rfl (Nat.le_of_ble_eq_true rfl) (Nat.le_of_ble_eq_true rfl) (c_X16_mul (w := wL48) x82 r9 (by exact hvx82.1) (by exact hr9.1)) (by omega) (fun v85 w85 hp85 => ?_)
        obtain ⟨hpw85, r85, rfl, hr85⟩ := hp85
        replace hpw85 := hpw85.symm
        subst hpw85
        have kr85 := zrng r85
        show zP _ _ _ _ [.int r85] _ _ _ _ _
        refine zp_seg (pc' := 95) (lv' := [(6, .int r85), (0, .null), (1, .ref r), (3, .ref b), (4, .int r9), (5, .int y5_48)]) (st' := [.null]) [(88, .goto 4), (92, .istore 6), (94, .aload_n 0)] (by decide +kernel) rfl ?_
        refine zp_pure (pc' := 107) (lv' := [(6, .int r85), (0, .null), (1, .ref r), (3, .ref b), (4, .int r9), (5, .int y5_48)]) (st' := []) (i := .ifnull 12) (by decide +kernel) rfl ?_
        have hx85 : zf r85 = R (y5_48.toNatClampNeg + zln d9 - 1) * zf r9 := by rw [hr85.2, hvx82.2, show v82.toNatClampNeg = y5_48.toNatClampNeg + zln d9 - 1 by omega]
        refine zp_seg (pc' := 110) (lv' := [(7, .int 0), (6, .int r85), (0, .null), (1, .ref r), (3, .ref b), (4, .int r9), (5, .int y5_48)]) (st' := []) [(107, .iconst 0), (108, .istore 7)] (by decide +kernel) rfl ?_
        have hL110 : ∀ (mm110 : Nat) (wL110 : zM) (y7_110 : Int32), (zSI wL48 wL110) → (∀ x, (x < r + 1 ∨ r + 1 + 1 ≤ x) → wL110 x = wL48 x) → (0 ≤ y7_110.toInt) → (y7_110.toInt ≤ nb.toInt) → (∃ g2, wL110 (r + 1) = some (.inr (0, cr, .inl g2)) ∧ ∀ t, t < zln p → zr1 (g2 t) ∧ zf (g2 t) = R t - (if y5_48.toNatClampNeg ≤ t ∧ t < y5_48.toNatClampNeg + y7_110.toNatClampNeg then zf r85 * d9.1 (t - y5_48.toNatClampNeg) else 0)) → (2147483647 - y7_110.toInt).toNat < mm110 → zP (d + 1) zq_X16_divide 110 [(0, .null), (1, .ref r), (3, .ref b), (4, .int r9), (5, .int y5_48), (6, .int r85), (7, .int y7_110)] [] wL110 sz 0 0 Post := by
          intro mm110
          induction mm110 with
          | zero => intros; omega
          | succ mm110 ih110 =>
          intro wL110 y7_110 hsiL110 heqL110 hi110_0 hi110_1 hT2 hmu110
          have ky7_110 := zrng y7_110
          refine zp_seg (pc' := 113) (lv' := [(0, .null), (1, .ref r), (3, .ref b), (4, .int r9), (5, .int y5_48), (6, .int r85), (7, .int y7_110)]) (st' := [.ref b, .int y7_110]) [(110, .iload 7), (112, .aload_n 3)] (by decide +kernel) rfl ?_
          have hb26 : wL110 b = some (.inl (14, [.ref (b + 1), .int nb])) := (heqL110 b (by omega)).trans hb17
          refine zr_get (idx := 25) (k := 1) (v := .int nb) (by decide +kernel) (by decide +kernel) hb26 rfl ?_
          refine zp_if (i := .if_icmp .ge 49) (c := nb ≤ y7_110) (t := 165) (e := 119) (lv' := [(0, .null), (1, .ref r), (3, .ref b), (4, .int r9), (5, .int y5_48), (6, .int r85), (7, .int y7_110)]) (st' := []) (by decide +kernel) rfl (fun cc116 => ?_) (fun cc116 => ?_)
          ·
            have f27 := zleI cc116
            have hz28 : (y7_110.toNatClampNeg : Int) = y7_110.toInt := znat (by first | omega | decide)
            obtain ⟨g2, hg2, hg2v⟩ := id hT2
            have hRn : ∀ t, t < zln p → zr1 (g2 t) ∧ zf (g2 t) = R t - zcv (zmon (zf r85) y5_48.toNatClampNeg) d9.1 t := fun t ht => ⟨(hg2v t ht).1, (hg2v t ht).2.trans (zDivI_r (by first | exact Or.inr (by omega) | exact Or.inl (by rw [cc121]; exact zf_0)))⟩
            refine zp_seg (pc' := 168) (lv' := [(5, .int (y5_48 + (Int32.ofInt (-1)))), (0, .null), (1, .ref r), (3, .ref b), (4, .int r9), (6, .int r85), (7, .int y7_110)]) (st' := []) [(165, .iinc 5 (-1))] (by decide +kernel) rfl ?_
            have k29 := zaddC y5_48 ((Int32.ofInt (-1))) (n := (-1)) (by decide) (by omega) (by omega)
            generalize ev168 : (y5_48 + (Int32.ofInt (-1)) : Int32) = v168 at k29 ⊢
            have kv168 := zrng v168
            refine zp_seg (pc' := 48) (lv' := [(5, .int v168), (0, .null), (1, .ref r), (3, .ref b), (4, .int r9), (6, .int r85), (7, .int y7_110)]) (st' := []) [(168, .goto (-120))] (by decide +kernel) rfl ?_
            exact (ih48 wL110 v168 (fun t => if t = y5_48.toNatClampNeg then zf r85 else Q t) (fun t => R t - zcv (zmon (zf r85) y5_48.toNatClampNeg) d9.1 t) (hsiL48.tr hsiL110) (fun x hx => ((heqL110 x (by omega)).trans (heqL48 x (by omega)))) (by first | assumption | omega | decide) (by first | assumption | omega | decide) (by
                  exact ⟨g2, hg2, hRn⟩) (by
                  rw [show (v168.toInt + 1).toNat = y5_48.toNatClampNeg by omega]
                  rw [show (y5_48.toInt + 1).toNat = y5_48.toNatClampNeg + 1 by omega] at hQR
                  exact zDivI_s hd9 (by omega) hQR hx85 hfd) (by omega)).more (zfa1 rfl (zfa1 rfl (zfa1 rfl (zfa1 rfl (zfa1 rfl (zfa0))))))
          ·
            have f30 := znleI cc116
            refine zp_seg (pc' := 121) (lv' := [(0, .null), (1, .ref r), (3, .ref b), (4, .int r9), (5, .int y5_48), (6, .int r85), (7, .int y7_110)]) (st' := [.int r85]) [(119, .iload 6)] (by decide +kernel) rfl ?_
            refine zp_if (i := .ifCond .eq 44) (c := r85 = 0) (t := 165) (e := 124) (lv' := [(0, .null), (1, .ref r), (3, .ref b), (4, .int r9), (5, .int y5_48), (6, .int r85), (7, .int y7_110)]) (st' := []) (by decide +kernel) rfl (fun cc121 => ?_) (fun cc121 => ?_)
            ·
              have f31 := zeqI cc121
              rw [show (0 : Int32).toInt = 0 from by decide] at f31
              have hz32 : (y7_110.toNatClampNeg : Int) = y7_110.toInt := znat (by first | omega | decide)
              obtain ⟨g2, hg2, hg2v⟩ := id hT2
              have hRn : ∀ t, t < zln p → zr1 (g2 t) ∧ zf (g2 t) = R t - zcv (zmon (zf r85) y5_48.toNatClampNeg) d9.1 t := fun t ht => ⟨(hg2v t ht).1, (hg2v t ht).2.trans (zDivI_r (by first | exact Or.inr (by omega) | exact Or.inl (by rw [cc121]; exact zf_0)))⟩
              refine zp_seg (pc' := 168) (lv' := [(5, .int (y5_48 + (Int32.ofInt (-1)))), (0, .null), (1, .ref r), (3, .ref b), (4, .int r9), (6, .int r85), (7, .int y7_110)]) (st' := []) [(165, .iinc 5 (-1))] (by decide +kernel) rfl ?_
              have k33 := zaddC y5_48 ((Int32.ofInt (-1))) (n := (-1)) (by decide) (by omega) (by omega)
              generalize ev168 : (y5_48 + (Int32.ofInt (-1)) : Int32) = v168 at k33 ⊢
              have kv168 := zrng v168
              refine zp_seg (pc' := 48) (lv' := [(5, .int v168), (0, .null), (1, .ref r), (3, .ref b), (4, .int r9), (6, .int r85), (7, .int y7_110)]) (st' := []) [(168, .goto (-120))] (by decide +kernel) rfl ?_
              exact (ih48 wL110 v168 (fun t => if t = y5_48.toNatClampNeg then zf r85 else Q t) (fun t => R t - zcv (zmon (zf r85) y5_48.toNatClampNeg) d9.1 t) (hsiL48.tr hsiL110) (fun x hx => ((heqL110 x (by omega)).trans (heqL48 x (by omega)))) (by first | assumption | omega | decide) (by first | assumption | omega | decide) (by
                    exact ⟨g2, hg2, hRn⟩) (by
                    rw [show (v168.toInt + 1).toNat = y5_48.toNatClampNeg by omega]
                    rw [show (y5_48.toInt + 1).toNat = y5_48.toNatClampNeg + 1 by omega] at hQR
                    exact zDivI_s hd9 (by omega) hQR hx85 hfd) (by omega)).more (zfa1 rfl (zfa1 rfl (zfa1 rfl (zfa1 rfl (zfa1 rfl (zfa0))))))
            ·
              have f34 := zneI cc121
              rw [show (0 : Int32).toInt = 0 from by decide] at f34
              obtain ⟨g2, hg2, hg2v⟩ := id hT2
              have hz35 : (y7_110.toNatClampNeg : Int) = y7_110.toInt := znat (by first | omega | decide)
              refine zp_seg (pc' := 125) (lv' := [(0, .null), (1, .ref r), (3, .ref b), (4, .int r9), (5, .int y5_48), (6, .int r85), (7, .int y7_110)]) (st' := [.ref r]) [(124, .aload_n 1)] (by decide +kernel) rfl ?_
              have hb36 : wL110 r = some (.inl (14, [.ref (r + 1), .int nr])) := (heqL110 r (by omega)).trans hb20
              refine zr_get (idx := 30) (k := 0) (v := .ref (r + 1)) (by decide +kernel) (by decide +kernel) hb36 rfl ?_
              refine zp_seg (pc' := 133) (lv' := [(0, .null), (1, .ref r), (3, .ref b), (4, .int r9), (5, .int y5_48), (6, .int r85), (7, .int y7_110)]) (st' := [.int (y5_48 + y7_110), .ref (r + 1)]) [(128, .iload 5), (130, .iload 7), (132, .iadd)] (by decide +kernel) rfl ?_
              have k37 := zadd y5_48 y7_110 (by omega) (by omega)
              generalize ev133 : (y5_48 + y7_110 : Int32) = v133 at k37 ⊢
              have kv133 := zrng v133
              refine zp_seg (pc' := 134) (lv' := [(0, .null), (1, .ref r), (3, .ref b), (4, .int r9), (5, .int y5_48), (6, .int r85), (7, .int y7_110)]) (st' := [.ref r, .int v133, .ref (r + 1)]) [(133, .aload_n 1)] (by decide +kernel) rfl ?_
              refine zr_get (idx := 30) (k := 0) (v := .ref (r + 1)) (by decide +kernel) (by decide +kernel) hb36 rfl ?_
              refine zp_seg (pc' := 142) (lv' := [(0, .null), (1, .ref r), (3, .ref b), (4, .int r9), (5, .int y5_48), (6, .int r85), (7, .int y7_110)]) (st' := [.int (y5_48 + y7_110), .ref (r + 1), .int v133, .ref (r + 1)]) [(137, .iload 5), (139, .iload 7), (141, .iadd)] (by decide +kernel) rfl ?_
              have k38 := zadd y5_48 y7_110 (by omega) (by omega)
              generalize ev142 : (y5_48 + y7_110 : Int32) = v142 at k38 ⊢
              have kv142 := zrng v142
              refine zr_iald (by decide +kernel) hg2 (zin (by first | omega | decide) (by first | omega | decide)) ?_
              have hz39 : (v142.toNatClampNeg : Int) = v142.toInt := znat (by first | omega | decide)
              obtain ⟨x142, ex142⟩ : ∃ x9, x9 = g2 (v142.toNatClampNeg) := ⟨_, rfl⟩
              rw [← ex142]
              have kx142 := zrng x142
              have hvx142 := hg2v (v142.toNatClampNeg) (by omega)
              rw [← ex142] at hvx142
              have hwx142 : 0 ≤ x142.toInt ∧ x142.toInt < 2147483647 := hvx142.1
              refine zp_seg (pc' := 146) (lv' := [(0, .null), (1, .ref r), (3, .ref b), (4, .int r9), (5, .int y5_48), (6, .int r85), (7, .int y7_110)]) (st' := [.ref b, .int r85, .int x142, .int v133, .ref (r + 1)]) [(143, .iload 6), (145, .aload_n 3)] (by decide +kernel) rfl ?_
              refine zr_get (idx := 30) (k := 0) (v := .ref (b + 1)) (by decide +kernel) (by decide +kernel) hb26 rfl ?_
              refine zp_seg (pc' := 151) (lv' := [(0, .null), (1, .ref r), (3, .ref b), (4, .int r9), (5, .int y5_48), (6, .int r85), (7, .int y7_110)]) (st' := [.int y7_110, .ref (b + 1), .int r85, .int x142, .int v133, .ref (r + 1)]) [(149, .iload 7)] (by decide +kernel) rfl ?_
              have hb40 : wL110 (b + 1) = some (.inr (0, cb, .inl fb)) := ((heqL110 (b + 1) (by omega)).trans ((heqL48 (b + 1) (by omega)).trans (heq2 (b + 1) (by omega)))).trans hb2
              refine zr_iald (by decide +kernel) hb40 (zin (by first | omega | decide) (by first | omega | decide)) ?_
              obtain ⟨x151, ex151⟩ : ∃ x9, x9 = fb (y7_110.toNatClampNeg) := ⟨_, rfl⟩
              rw [← ex151]
              have kx151 := zrng x151
              have hvx151 := hb5 (y7_110.toNatClampNeg) (by omega)
              rw [← ex151] at hvx151
              have hwx151 : 0 ≤ x151.toInt ∧ x151.toInt < 2147483647 := hvx151.1
              refine zr_callS (idx := 56) (j := 257) (by decide +kernel) (by decide +kernel) (by decide) (show zMe 257 = some zq_X16_mul from rfl) rfl rfl (Nat.le_of_ble_eq_true rfl) rfl rfl (Nat.le_of_ble_eq_true rfl) (Nat.le_of_ble_eq_true rfl) (c_X16_mul (w := wL110) r85 x151 (by exact hr85.1) (by exact hvx151.1)) (by omega) (fun v152 w152 hp152 => ?_)
              obtain ⟨hpw152, r152, rfl, hr152⟩ := hp152
              replace hpw152 := hpw152.symm
              subst hpw152
              have kr152 := zrng r152
              show zP _ _ _ _ [.int r152, .int x142, .int v133, .ref (r + 1)] _ _ _ _ _
              refine zr_callS (idx := 46) (j := 256) (by decide +kernel) (by decide +kernel) (by decide) (show zMe 256 = some zq_X16_sub from rfl) rfl rfl (Nat.le_of_ble_eq_true rfl) rfl rfl (Nat.le_of_ble_eq_true rfl) (Nat.le_of_ble_eq_true rfl) (c_X16_sub (w := wL110) x142 r152 (by exact hvx142.1) (by exact hr152.1)) (by omega) (fun v155 w155 hp155 => ?_)
              obtain ⟨hpw155, r155, rfl, hr155⟩ := hp155
              replace hpw155 := hpw155.symm
              subst hpw155
              have kr155 := zrng r155
              show zP _ _ _ _ [.int r155, .int v133, .ref (r + 1)] _ _ _ _ _
              have hz41 : (v133.toNatClampNeg : Int) = v133.toInt := znat (by first | omega | decide)
              refine zr_iast (by decide +kernel) hg2 (zin (by first | omega | decide) (by first | omega | decide)) ?_
              show zP (d + 1) zq_X16_divide 159 [(0, .null), (1, .ref r), (3, .ref b), (4, .int r9), (5, .int y5_48), (6, .int r85), (7, .int y7_110)] [] (zup wL110 (r + 1) (.inr (0, cr, .inl (upd g2 (v133.toNatClampNeg) r155)))) sz 0 0 Post
              obtain ⟨w158, ew158⟩ : ∃ wz9, wz9 = zup wL110 (r + 1) (.inr (0, cr, .inl (upd g2 (v133.toNatClampNeg) r155))) := ⟨_, rfl⟩
              have hsi158 : zSI wL110 w158 := by rw [ew158]; exact zSI.arr _ hg2
              have heq158 : ∀ x, x ≠ r + 1 → w158 x = wL110 x := fun x hx => by rw [ew158]; exact zup_n hx
              have hc158 : w158 (r + 1) = some (.inr (0, cr, .inl (upd g2 (v133.toNatClampNeg) r155))) := by rw [ew158]; exact zup_s
              rw [← ew158]
              clear ew158
              refine zp_seg (pc' := 162) (lv' := [(7, .int (y7_110 + 1)), (0, .null), (1, .ref r), (3, .ref b), (4, .int r9), (5, .int y5_48), (6, .int r85)]) (st' := []) [(159, .iinc 7 1)] (by decide +kernel) rfl ?_
              have k42 := zaddC y7_110 1 (n := 1) (by decide) (by omega) (by omega)
              generalize ev162 : (y7_110 + 1 : Int32) = v162 at k42 ⊢
              have kv162 := zrng v162
              refine zp_seg (pc' := 110) (lv' := [(7, .int v162), (0, .null), (1, .ref r), (3, .ref b), (4, .int r9), (5, .int y5_48), (6, .int r85)]) (st' := []) [(162, .goto (-52))] (by decide +kernel) rfl ?_
              have hz43 : (v162.toNatClampNeg : Int) = v162.toInt := znat (by first | omega | decide)
              exact (ih110 w158 v162 (hsiL110.tr hsi158) (fun x hx => ((heq158 x (by omega)).trans (heqL110 x (by omega)))) (by first | assumption | omega | decide) (by first | assumption | omega | decide) (by
                    refine ⟨_, hc158, fun t ht => ?_⟩
                    have e1 := znat (x := v133) (by omega)
                    have e2 := znat (x := v142) (by omega)
                    by_cases e : t = v133.toNatClampNeg
                    · rw [e, zupd_s]
                      refine ⟨hr155.1, ?_⟩
                      rw [hr155.2, hr152.2, hvx151.2, hvx142.2, if_neg (by omega), if_pos (by omega), show v142.toNatClampNeg = v133.toNatClampNeg by omega, show v133.toNatClampNeg - y5_48.toNatClampNeg = y7_110.toNatClampNeg by omega, zF_s0]
                    · rw [zupd_n _ _ e]
                      refine ⟨(hg2v t ht).1, (hg2v t ht).2.trans ?_⟩
                      by_cases h : y5_48.toNatClampNeg ≤ t ∧ t < y5_48.toNatClampNeg + y7_110.toNatClampNeg
                      · rw [if_pos h, if_pos (by omega)]
                      · rw [if_neg h, if_neg (by omega)]) (by omega)).more (zfa1 rfl (zfa1 rfl (zfa1 rfl (zfa1 rfl (zfa1 rfl (zfa1 rfl (zfa1 rfl (zfa0))))))))
        have hl44 : (0 : Int32).toInt = 0 := by decide
        have hz45 : ((0 : Int32).toNatClampNeg : Int) = 0 := by decide
        exact (hL110 _ wL48 0 zSI.rf (fun _ _ => rfl) (by first | assumption | omega | decide) (by first | assumption | omega | decide) (by
              refine ⟨gt, hgt, fun t ht => ⟨(hgtv t ht).1, ?_⟩⟩
              rw [(hgtv t ht).2, if_neg (by omega), zF_s0]) (Nat.lt_succ_self _)).more (zfa1 rfl (zfa1 rfl (zfa1 rfl (zfa1 rfl (zfa1 rfl (zfa1 rfl (zfa1 rfl (zfa0))))))))
  exact (hL48 _ w2 v46 (fun _ => 0) (p.1) zSI.rf (fun _ _ => rfl) (by first | assumption | omega | decide) (by first | assumption | omega | decide) (by
        exact ⟨fr, hr2, fun t ht => hr5 t ht⟩) (by
        exact zDivI_0 p d9 _ (by omega)) (Nat.lt_succ_self _)).more (zfa1 rfl (zfa1 rfl (zfa1 rfl (zfa1 rfl (zfa1 rfl (zfa0))))))
