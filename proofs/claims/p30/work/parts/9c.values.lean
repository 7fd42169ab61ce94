set_option maxHeartbeats 8000000 in
set_option maxRecDepth 100000 in
theorem c_X16_valueAt {w : zM} {g : Nat → Int32} {r : Nat → Value} {kk : Int32} (m : Nat) (t : Nat) (n : Int32) (k : Int32) (hm : w m = some (.inl (15, zMo m g r))) (hR_m : zR m w) (hTi_t : zTi w t kk) (hk : kk = 1 ∨ kk = 2) : zCon 4 zq_X16_valueAt [.ref m, .ref t, .int n, .int k] w (fun v9 w9' => w9' = w ∧ ∃ r9 : Int32, v9 = some (.int r9) ∧ (r9 = Int32.ofInt (-1) ∨ zr1 r9)) := by
  intro d sz hd
  obtain ⟨d, rfl⟩ : ∃ d9, d = d9 + 1 := ⟨d - 1, by omega⟩
  generalize hPost : (fun (r9' : Option (Option Value)) (w9' : zM) (z9 : Nat) => z9 = sz ∧ ∃ v9, r9' = some v9 ∧ (w9' = w ∧ ∃ r9 : Int32, v9 = some (.int r9) ∧ (r9 = Int32.ofInt (-1) ∨ zr1 r9))) = Post
  show zP (d + 1) zq_X16_valueAt 0 [(0, .ref m), (1, .ref t), (2, .int n), (3, .int k)] [] w sz 0 0 Post
  have k1 := zrng n
  have k2 := zrng k
  obtain ⟨g1, fn1, fd1, fa1, fb1, fc1, fe1, fr1, fu1, hT1, hAn1, hAd1, hAa1, hAb1, hAc1, hAe1, hAr1, hAu1, hK1⟩ := id hTi_t
  obtain ⟨hK10, hKn1, hKd1, hKx1, hKm1, hKl1, hKr1, hKu1, hKk1⟩ := id hK1
  have k3 := zrng (g1 5)
  have hz4 : ((g1 5).toNatClampNeg : Int) = (g1 5).toInt := znat (by first | omega | decide)
  refine zp_seg (pc' := 1) (lv' := [(0, .ref m), (1, .ref t), (2, .int n), (3, .int k)]) (st' := [.ref t]) [(0, .aload_n 1)] (by decide +kernel) rfl ?_
  refine zr_get (idx := 202) (k := 0) (v := .int (g1 0)) (by decide +kernel) (by decide +kernel) hT1 rfl ?_
  refine zp_seg (pc' := 5) (lv' := [(0, .ref m), (1, .ref t), (2, .int n), (3, .int k)]) (st' := [.int 1, .int (g1 0)]) [(4, .iconst 1)] (by decide +kernel) rfl ?_
  refine zp_if (i := .if_icmp .ne 17) (c := ¬ (g1 0) = 1) (t := 22) (e := 8) (lv' := [(0, .ref m), (1, .ref t), (2, .int n), (3, .int k)]) (st' := []) (by decide +kernel) rfl (fun cc5 => ?_) (fun cc5 => ?_)
  ·
    have k5 := zrng (g1 0)
    have f7 := zneI cc5
    rw [show (1 : Int32).toInt = 1 from by decide] at f7
    refine zp_seg (pc' := 23) (lv' := [(0, .ref m), (1, .ref t), (2, .int n), (3, .int k)]) (st' := [.int n]) [(22, .iload_n 2)] (by decide +kernel) rfl ?_
    refine zr_callS (idx := 682) (j := 376) (by decide +kernel) (by decide +kernel) (by decide) (show zMe 376 = some zq_X16_isWhole from rfl) rfl rfl (Nat.le_of_ble_eq_true rfl) rfl rfl (Nat.le_of_ble_eq_true rfl) (Nat.le_of_ble_eq_true rfl) (c_X16_isWhole (w := w) n ) (by omega) (fun v23 w23 hp23 => ?_)
    obtain ⟨hpw23, r23, rfl, hrb23, hr23⟩ := hp23
    replace hpw23 := hpw23.symm
    subst hpw23
    have kr23 := zrng r23
    show zP _ _ _ _ [.int r23] _ _ _ _ _
    refine zp_if (i := .ifCond .eq 10) (c := r23 = 0) (t := 36) (e := 29) (lv' := [(0, .ref m), (1, .ref t), (2, .int n), (3, .int k)]) (st' := []) (by decide +kernel) rfl (fun cc26 => ?_) (fun cc26 => ?_)
    ·
      have f9 := zeqI cc26
      rw [show (0 : Int32).toInt = 0 from by decide] at f9
      refine zp_seg (pc' := 37) (lv' := [(0, .ref m), (1, .ref t), (2, .int n), (3, .int k)]) (st' := [.int (Int32.ofInt (-1))]) [(36, .iconst (-1))] (by decide +kernel) rfl ?_
      refine zr_retI (by decide +kernel) rfl ?_
      rw [← hPost]; exact ⟨rfl, _, rfl, rfl, _, rfl, (by
            first | exact Or.inl rfl | exact Or.inr zr1_0 | exact hr18 | exact Or.inr hV2)⟩
    ·
      have f12 := zneI cc26
      rw [show (0 : Int32).toInt = 0 from by decide] at f12
      refine zp_seg (pc' := 30) (lv' := [(0, .ref m), (1, .ref t), (2, .int n), (3, .int k)]) (st' := [.int k]) [(29, .iload_n 3)] (by decide +kernel) rfl ?_
      refine zr_callS (idx := 682) (j := 376) (by decide +kernel) (by decide +kernel) (by decide) (show zMe 376 = some zq_X16_isWhole from rfl) rfl rfl (Nat.le_of_ble_eq_true rfl) rfl rfl (Nat.le_of_ble_eq_true rfl) (Nat.le_of_ble_eq_true rfl) (c_X16_isWhole (w := w) k ) (by omega) (fun v30 w30 hp30 => ?_)
      obtain ⟨hpw30, r30, rfl, hrb30, hr30⟩ := hp30
      replace hpw30 := hpw30.symm
      subst hpw30
      have kr30 := zrng r30
      show zP _ _ _ _ [.int r30] _ _ _ _ _
      refine zp_if (i := .ifCond .ne 5) (c := ¬ r30 = 0) (t := 38) (e := 36) (lv' := [(0, .ref m), (1, .ref t), (2, .int n), (3, .int k)]) (st' := []) (by decide +kernel) rfl (fun cc33 => ?_) (fun cc33 => ?_)
      ·
        have f13 := zneI cc33
        rw [show (0 : Int32).toInt = 0 from by decide] at f13
        have hw9 := hr23 (hrb23.resolve_left cc26)
        have hw8 := hr30 (hrb30.resolve_left cc33)
        refine zp_seg (pc' := 42) (lv' := [(0, .ref m), (1, .ref t), (2, .int n), (3, .int k)]) (st' := [.int k, .int n, .ref t, .ref m]) [(38, .aload_n 0), (39, .aload_n 1), (40, .iload_n 2), (41, .iload_n 3)] (by decide +kernel) rfl ?_
        refine zr_callV (idx := 678) (j := 375) (by decide +kernel) (by decide +kernel) (show zMe 375 = some zq_X16_ratioAt from rfl) rfl rfl (Nat.le_of_ble_eq_true rfl) rfl rfl hm (Nat.le_of_ble_eq_true rfl) (Nat.le_of_ble_eq_true rfl) (c_X16_ratioAt (w := w) m t n k hm hR_m hT1 hAn1 hAd1 (by exact hKn1) (by exact hKd1) (by exact ⟨by omega, by omega⟩) (by exact ⟨by omega, by omega⟩)) (by omega) (fun v42 w42 hp42 => ?_)
        obtain ⟨hpw42, r42, rfl, hr42⟩ := hp42
        replace hpw42 := hpw42.symm
        subst hpw42
        have kr42 := zrng r42
        show zP _ _ _ _ [.int r42] _ _ _ _ _
        refine zp_seg (pc' := 53) (lv' := [(6, .int 0), (5, .int 0), (4, .int r42), (0, .ref m), (1, .ref t), (2, .int n), (3, .int k)]) (st' := []) [(45, .istore 4), (47, .iconst 0), (48, .istore 5), (50, .iconst 0), (51, .istore 6)] (by decide +kernel) rfl ?_
        have hL53 : ∀ (mm53 : Nat) (y4_53 : Int32) (y5_53 : Int32) (y6_53 : Int32), (0 ≤ y6_53.toInt) → (y6_53.toInt ≤ (g1 5).toInt) → (y4_53 = Int32.ofInt (-1) ∨ zr1 y4_53) → (2147483647 - y6_53.toInt).toNat < mm53 → zP (d + 1) zq_X16_valueAt 53 [(0, .ref m), (1, .ref t), (2, .int n), (3, .int k), (4, .int y4_53), (5, .int y5_53), (6, .int y6_53)] [] w sz 0 0 Post := by
          intro mm53
          induction mm53 with
          | zero => intros; omega
          | succ mm53 ih53 =>
          intro y4_53 y5_53 y6_53 hi53_0 hi53_1 hV hmu53
          have ky4_53 := zrng y4_53
          have ky5_53 := zrng y5_53
          have ky6_53 := zrng y6_53
          have hz14 : (y6_53.toNatClampNeg : Int) = y6_53.toInt := znat (by first | omega | decide)
          refine zp_seg (pc' := 56) (lv' := [(0, .ref m), (1, .ref t), (2, .int n), (3, .int k), (4, .int y4_53), (5, .int y5_53), (6, .int y6_53)]) (st' := [.ref t, .int y6_53]) [(53, .iload 6), (55, .aload_n 1)] (by decide +kernel) rfl ?_
          refine zr_get (idx := 219) (k := 5) (v := .int (g1 5)) (by decide +kernel) (by decide +kernel) hT1 rfl ?_
          refine zp_if (i := .if_icmp .ge 77) (c := (g1 5) ≤ y6_53) (t := 136) (e := 62) (lv' := [(0, .ref m), (1, .ref t), (2, .int n), (3, .int k), (4, .int y4_53), (5, .int y5_53), (6, .int y6_53)]) (st' := []) (by decide +kernel) rfl (fun cc59 => ?_) (fun cc59 => ?_)
          ·
            have f15 := zleI cc59
            refine zp_seg (pc' := 139) (lv' := [(0, .ref m), (1, .ref t), (2, .int n), (3, .int k), (4, .int y4_53), (5, .int y5_53), (6, .int y6_53)]) (st' := [.int (Int32.ofInt (-1)), .int y4_53]) [(136, .iload 4), (138, .iconst (-1))] (by decide +kernel) rfl ?_
            refine zp_if (i := .if_icmp .eq 8) (c := y4_53 = (Int32.ofInt (-1))) (t := 147) (e := 142) (lv' := [(0, .ref m), (1, .ref t), (2, .int n), (3, .int k), (4, .int y4_53), (5, .int y5_53), (6, .int y6_53)]) (st' := []) (by decide +kernel) rfl (fun cc139 => ?_) (fun cc139 => ?_)
            ·
              have f17 := zeqI cc139
              rw [show (Int32.ofInt (-1) : Int32).toInt = (-1) from by decide] at f17
              refine zp_seg (pc' := 150) (lv' := [(0, .ref m), (1, .ref t), (2, .int n), (3, .int k), (4, .int y4_53), (5, .int y5_53), (6, .int y6_53)]) (st' := [.int (Int32.ofInt (-1)), .int y4_53]) [(147, .iload 4), (149, .iconst (-1))] (by decide +kernel) rfl ?_
              refine zp_if (i := .if_icmp .ne 7) (c := ¬ y4_53 = (Int32.ofInt (-1))) (t := 157) (e := 153) (lv' := [(0, .ref m), (1, .ref t), (2, .int n), (3, .int k), (4, .int y4_53), (5, .int y5_53), (6, .int y6_53)]) (st' := []) (by decide +kernel) rfl (fun cc150 => ?_) (fun cc150 => ?_)
              ·
                exact absurd cc139 cc150
              ·
                replace cc150 := Classical.not_not.mp cc150
                have f18 := zeqI cc150
                rw [show (Int32.ofInt (-1) : Int32).toInt = (-1) from by decide] at f18
                refine zp_seg (pc' := 158) (lv' := [(0, .ref m), (1, .ref t), (2, .int n), (3, .int k), (4, .int y4_53), (5, .int y5_53), (6, .int y6_53)]) (st' := [.int (Int32.ofInt (-1))]) [(153, .iconst (-1)), (154, .goto 4)] (by decide +kernel) rfl ?_
                refine zr_retI (by decide +kernel) rfl ?_
                rw [← hPost]; exact ⟨rfl, _, rfl, rfl, _, rfl, (by
                      first | exact Or.inl rfl | exact Or.inr zr1_0 | exact hr18 | exact Or.inr hV2)⟩
            ·
              have f20 := zneI cc139
              rw [show (Int32.ofInt (-1) : Int32).toInt = (-1) from by decide] at f20
              refine zp_seg (pc' := 144) (lv' := [(0, .ref m), (1, .ref t), (2, .int n), (3, .int k), (4, .int y4_53), (5, .int y5_53), (6, .int y6_53)]) (st' := [.int y5_53]) [(142, .iload 5)] (by decide +kernel) rfl ?_
              refine zp_if (i := .ifCond .eq 15) (c := y5_53 = 0) (t := 159) (e := 147) (lv' := [(0, .ref m), (1, .ref t), (2, .int n), (3, .int k), (4, .int y4_53), (5, .int y5_53), (6, .int y6_53)]) (st' := []) (by decide +kernel) rfl (fun cc144 => ?_) (fun cc144 => ?_)
              ·
                have f21 := zeqI cc144
                rw [show (0 : Int32).toInt = 0 from by decide] at f21
                refine zp_seg (pc' := 162) (lv' := [(0, .ref m), (1, .ref t), (2, .int n), (3, .int k), (4, .int y4_53), (5, .int y5_53), (6, .int y6_53)]) (st' := [.ref t, .int y4_53]) [(159, .iload 4), (161, .aload_n 1)] (by decide +kernel) rfl ?_
                refine zr_get (idx := 213) (k := 3) (v := .int (g1 3)) (by decide +kernel) (by decide +kernel) hT1 rfl ?_
                refine zp_seg (pc' := 167) (lv' := [(0, .ref m), (1, .ref t), (2, .int n), (3, .int k), (4, .int y4_53), (5, .int y5_53), (6, .int y6_53)]) (st' := [.long (n.toInt64), .int (g1 3), .int y4_53]) [(165, .iload_n 2), (166, .i2l)] (by decide +kernel) rfl ?_
                have k22 := zi2lM n
                generalize ev167 : (n.toInt64 : Int64) = v167 at k22 ⊢
                have kv167 := zrngL v167
                have k23 := zrng (g1 3)
                refine zr_callS (idx := 8) (j := 258) (by decide +kernel) (by decide +kernel) (by decide) (show zMe 258 = some zq_X16_pow from rfl) rfl rfl (Nat.le_of_ble_eq_true rfl) rfl rfl (Nat.le_of_ble_eq_true rfl) (Nat.le_of_ble_eq_true rfl) (c_X16_pow (w := w) (g1 3) v167 (by exact hKx1.1) (by first | omega | decide | assumption | exact zr1_1 | exact zr1_0 | fail "num")) (by omega) (fun v167 w167 hp167 => ?_)
                obtain ⟨hpw167, r167, rfl, hr167⟩ := hp167
                replace hpw167 := hpw167.symm
                subst hpw167
                have kr167 := zrng r167
                show zP _ _ _ _ [.int r167, .int y4_53] _ _ _ _ _
                refine zp_seg (pc' := 171) (lv' := [(0, .ref m), (1, .ref t), (2, .int n), (3, .int k), (4, .int y4_53), (5, .int y5_53), (6, .int y6_53)]) (st' := [.ref t, .int r167, .int y4_53]) [(170, .aload_n 1)] (by decide +kernel) rfl ?_
                refine zr_get (idx := 216) (k := 4) (v := .int (g1 4)) (by decide +kernel) (by decide +kernel) hT1 rfl ?_
                refine zp_seg (pc' := 176) (lv' := [(0, .ref m), (1, .ref t), (2, .int n), (3, .int k), (4, .int y4_53), (5, .int y5_53), (6, .int y6_53)]) (st' := [.long (k.toInt64), .int (g1 4), .int r167, .int y4_53]) [(174, .iload_n 3), (175, .i2l)] (by decide +kernel) rfl ?_
                have k24 := zi2lM k
                generalize ev176 : (k.toInt64 : Int64) = v176 at k24 ⊢
                have kv176 := zrngL v176
                have k25 := zrng (g1 4)
                refine zr_callS (idx := 8) (j := 258) (by decide +kernel) (by decide +kernel) (by decide) (show zMe 258 = some zq_X16_pow from rfl) rfl rfl (Nat.le_of_ble_eq_true rfl) rfl rfl (Nat.le_of_ble_eq_true rfl) (Nat.le_of_ble_eq_true rfl) (c_X16_pow (w := w) (g1 4) v176 (by exact hKx1.2) (by first | omega | decide | assumption | exact zr1_1 | exact zr1_0 | fail "num")) (by omega) (fun v176 w176 hp176 => ?_)
                obtain ⟨hpw176, r176, rfl, hr176⟩ := hp176
                replace hpw176 := hpw176.symm
                subst hpw176
                have kr176 := zrng r176
                show zP _ _ _ _ [.int r176, .int r167, .int y4_53] _ _ _ _ _
                refine zr_callS (idx := 56) (j := 257) (by decide +kernel) (by decide +kernel) (by decide) (show zMe 257 = some zq_X16_mul from rfl) rfl rfl (Nat.le_of_ble_eq_true rfl) rfl rfl (Nat.le_of_ble_eq_true rfl) (Nat.le_of_ble_eq_true rfl) (c_X16_mul (w := w) r167 r176 (by first | exact hr167.1 | omega | decide | assumption | exact zr1_1 | exact zr1_0 | fail "num") (by first | exact hr176.1 | omega | decide | assumption | exact zr1_1 | exact zr1_0 | fail "num")) (by omega) (fun v179 w179 hp179 => ?_)
                obtain ⟨hpw179, r179, rfl, hr179⟩ := hp179
                replace hpw179 := hpw179.symm
                subst hpw179
                have kr179 := zrng r179
                show zP _ _ _ _ [.int r179, .int y4_53] _ _ _ _ _
                refine zr_callS (idx := 56) (j := 257) (by decide +kernel) (by decide +kernel) (by decide) (show zMe 257 = some zq_X16_mul from rfl) rfl rfl (Nat.le_of_ble_eq_true rfl) rfl rfl (Nat.le_of_ble_eq_true rfl) (Nat.le_of_ble_eq_true rfl) (c_X16_mul (w := w) y4_53 r179 (by exact hV.resolve_left cc139) (by first | exact hr179.1 | omega | decide | assumption | exact zr1_1 | exact zr1_0 | fail "num")) (by omega) (fun v182 w182 hp182 => ?_)
                obtain ⟨hpw182, r182, rfl, hr182⟩ := hp182
                replace hpw182 := hpw182.symm
                subst hpw182
                have kr182 := zrng r182
                show zP _ _ _ _ [.int r182] _ _ _ _ _
                refine zp_seg (pc' := 190) (lv' := [(6, .int 0), (4, .int r182), (0, .ref m), (1, .ref t), (2, .int n), (3, .int k), (5, .int y5_53)]) (st' := []) [(185, .istore 4), (187, .iconst 0), (188, .istore 6)] (by decide +kernel) rfl ?_
                have hL190 : ∀ (mm190 : Nat) (y4_190 : Int32) (y6_190 : Int32), (0 ≤ y6_190.toInt) → (y6_190.toInt ≤ (g1 5).toInt) → (zr1 y4_190) → (2147483647 - y6_190.toInt).toNat < mm190 → zP (d + 1) zq_X16_valueAt 190 [(0, .ref m), (1, .ref t), (2, .int n), (3, .int k), (4, .int y4_190), (6, .int y6_190)] [] w sz 0 0 Post := by
                  intro mm190
                  induction mm190 with
                  | zero => intros; omega
                  | succ mm190 ih190 =>
                  intro y4_190 y6_190 hi190_0 hi190_1 hV2 hmu190
                  have ky4_190 := zrng y4_190
                  have ky6_190 := zrng y6_190
                  have hz26 : (y6_190.toNatClampNeg : Int) = y6_190.toInt := znat (by first | omega | decide)
                  refine zp_seg (pc' := 193) (lv' := [(0, .ref m), (1, .ref t), (2, .int n), (3, .int k), (4, .int y4_190), (6, .int y6_190)]) (st' := [.ref t, .int y6_190]) [(190, .iload 6), (192, .aload_n 1)] (by decide +kernel) rfl ?_
                  refine zr_get (idx := 219) (k := 5) (v := .int (g1 5)) (by decide +kernel) (by decide +kernel) hT1 rfl ?_
                  refine zp_if (i := .if_icmp .ge 57) (c := (g1 5) ≤ y6_190) (t := 253) (e := 199) (lv' := [(0, .ref m), (1, .ref t), (2, .int n), (3, .int k), (4, .int y4_190), (6, .int y6_190)]) (st' := []) (by decide +kernel) rfl (fun cc196 => ?_) (fun cc196 => ?_)
                  ·
                    have f27 := zleI cc196
                    refine zp_seg (pc' := 255) (lv' := [(0, .ref m), (1, .ref t), (2, .int n), (3, .int k), (4, .int y4_190), (6, .int y6_190)]) (st' := [.int y4_190]) [(253, .iload 4)] (by decide +kernel) rfl ?_
                    refine zr_retI (by decide +kernel) rfl ?_
                    rw [← hPost]; exact ⟨rfl, _, rfl, rfl, _, rfl, (by
                          first | exact Or.inl rfl | exact Or.inr zr1_0 | exact hr18 | exact Or.inr hV2)⟩
                  ·
                    have f28 := znleI cc196
                    refine zp_seg (pc' := 203) (lv' := [(0, .ref m), (1, .ref t), (2, .int n), (3, .int k), (4, .int y4_190), (6, .int y6_190)]) (st' := [.ref t, .ref m, .int y4_190]) [(199, .iload 4), (201, .aload_n 0), (202, .aload_n 1)] (by decide +kernel) rfl ?_
                    refine zr_get (idx := 222) (k := 6) (v := .ref (t + 3)) (by decide +kernel) (by decide +kernel) hT1 rfl ?_
                    refine zp_seg (pc' := 208) (lv' := [(0, .ref m), (1, .ref t), (2, .int n), (3, .int k), (4, .int y4_190), (6, .int y6_190)]) (st' := [.int y6_190, .ref (t + 3), .ref m, .int y4_190]) [(206, .iload 6)] (by decide +kernel) rfl ?_
                    refine zr_iald (by decide +kernel) hAa1 (zin (by first | omega | decide) (by first | omega | decide)) ?_
                    obtain ⟨x208, ex208⟩ : ∃ x9, x9 = fa1 (y6_190.toNatClampNeg) := ⟨_, rfl⟩
                    rw [← ex208]
                    have kx208 := zrng x208
                    refine zp_seg (pc' := 210) (lv' := [(0, .ref m), (1, .ref t), (2, .int n), (3, .int k), (4, .int y4_190), (6, .int y6_190)]) (st' := [.int n, .int x208, .ref m, .int y4_190]) [(209, .iload_n 2)] (by decide +kernel) rfl ?_
                    have hfl210 := hKl1 y6_190.toNatClampNeg (by omega)
                    rw [← ex208] at hfl210
                    have hb1 := zmul_b6 (x := x208) (y := n) hfl210.1 hw9.1
                    refine zp_seg (pc' := 211) (lv' := [(0, .ref m), (1, .ref t), (2, .int n), (3, .int k), (4, .int y4_190), (6, .int y6_190)]) (st' := [.int (x208 * n), .ref m, .int y4_190]) [(210, .imul)] (by decide +kernel) rfl ?_
                    have k29 := zmulM x208 n
                    generalize ev211 : (x208 * n : Int32) = v211 at k29 ⊢
                    have kv211 := zrng v211
                    refine zp_seg (pc' := 212) (lv' := [(0, .ref m), (1, .ref t), (2, .int n), (3, .int k), (4, .int y4_190), (6, .int y6_190)]) (st' := [.ref t, .int v211, .ref m, .int y4_190]) [(211, .aload_n 1)] (by decide +kernel) rfl ?_
                    refine zr_get (idx := 225) (k := 7) (v := .ref (t + 4)) (by decide +kernel) (by decide +kernel) hT1 rfl ?_
                    refine zp_seg (pc' := 217) (lv' := [(0, .ref m), (1, .ref t), (2, .int n), (3, .int k), (4, .int y4_190), (6, .int y6_190)]) (st' := [.int y6_190, .ref (t + 4), .int v211, .ref m, .int y4_190]) [(215, .iload 6)] (by decide +kernel) rfl ?_
                    refine zr_iald (by decide +kernel) hAb1 (zin (by first | omega | decide) (by first | omega | decide)) ?_
                    obtain ⟨x217, ex217⟩ : ∃ x9, x9 = fb1 (y6_190.toNatClampNeg) := ⟨_, rfl⟩
                    rw [← ex217]
                    have kx217 := zrng x217
                    refine zp_seg (pc' := 219) (lv' := [(0, .ref m), (1, .ref t), (2, .int n), (3, .int k), (4, .int y4_190), (6, .int y6_190)]) (st' := [.int k, .int x217, .int v211, .ref m, .int y4_190]) [(218, .iload_n 3)] (by decide +kernel) rfl ?_
                    rw [← ex217] at hfl210
                    have hb2 := zmul_b6 (x := x217) (y := k) hfl210.2.1 hw8.1
                    refine zp_seg (pc' := 220) (lv' := [(0, .ref m), (1, .ref t), (2, .int n), (3, .int k), (4, .int y4_190), (6, .int y6_190)]) (st' := [.int (x217 * k), .int v211, .ref m, .int y4_190]) [(219, .imul)] (by decide +kernel) rfl ?_
                    have k30 := zmulM x217 k
                    generalize ev220 : (x217 * k : Int32) = v220 at k30 ⊢
                    have kv220 := zrng v220
                    have hv220 : v220.toInt = x217.toInt * k.toInt := by omega
                    refine zp_seg (pc' := 221) (lv' := [(0, .ref m), (1, .ref t), (2, .int n), (3, .int k), (4, .int y4_190), (6, .int y6_190)]) (st' := [.int (v211 + v220), .ref m, .int y4_190]) [(220, .iadd)] (by decide +kernel) rfl ?_
                    have k31 := zadd v211 v220 (by omega) (by omega)
                    generalize ev221 : (v211 + v220 : Int32) = v221 at k31 ⊢
                    have kv221 := zrng v221
                    refine zp_seg (pc' := 222) (lv' := [(0, .ref m), (1, .ref t), (2, .int n), (3, .int k), (4, .int y4_190), (6, .int y6_190)]) (st' := [.ref t, .int v221, .ref m, .int y4_190]) [(221, .aload_n 1)] (by decide +kernel) rfl ?_
                    refine zr_get (idx := 228) (k := 8) (v := .ref (t + 5)) (by decide +kernel) (by decide +kernel) hT1 rfl ?_
                    refine zp_seg (pc' := 227) (lv' := [(0, .ref m), (1, .ref t), (2, .int n), (3, .int k), (4, .int y4_190), (6, .int y6_190)]) (st' := [.int y6_190, .ref (t + 5), .int v221, .ref m, .int y4_190]) [(225, .iload 6)] (by decide +kernel) rfl ?_
                    refine zr_iald (by decide +kernel) hAc1 (zin (by first | omega | decide) (by first | omega | decide)) ?_
                    obtain ⟨x227, ex227⟩ : ∃ x9, x9 = fc1 (y6_190.toNatClampNeg) := ⟨_, rfl⟩
                    rw [← ex227]
                    have kx227 := zrng x227
                    rw [← ex227] at hfl210
                    have hb3 := hfl210.2.2.2
                    refine zp_seg (pc' := 229) (lv' := [(0, .ref m), (1, .ref t), (2, .int n), (3, .int k), (4, .int y4_190), (6, .int y6_190)]) (st' := [.int (v221 + x227), .ref m, .int y4_190]) [(228, .iadd)] (by decide +kernel) rfl ?_
                    have k32 := zadd v221 x227 (by omega) (by omega)
                    generalize ev229 : (v221 + x227 : Int32) = v229 at k32 ⊢
                    have kv229 := zrng v229
                    refine zr_callV (idx := 685) (j := 373) (by decide +kernel) (by decide +kernel) (show zMe 373 = some zq_X16_factorialOf from rfl) rfl rfl (Nat.le_of_ble_eq_true rfl) rfl rfl hm (Nat.le_of_ble_eq_true rfl) (Nat.le_of_ble_eq_true rfl) (c_X16_factorialOf (w := w) m v229 (by first | omega | decide | assumption | exact zr1_1 | exact zr1_0 | fail "num")) (by omega) (fun v229 w229 hp229 => ?_)
                    obtain ⟨hpw229, r229, rfl, hr229⟩ := hp229
                    replace hpw229 := hpw229.symm
                    subst hpw229
                    have kr229 := zrng r229
                    show zP _ _ _ _ [.int r229, .int y4_190] _ _ _ _ _
                    refine zp_seg (pc' := 233) (lv' := [(0, .ref m), (1, .ref t), (2, .int n), (3, .int k), (4, .int y4_190), (6, .int y6_190)]) (st' := [.ref t, .int r229, .int y4_190]) [(232, .aload_n 1)] (by decide +kernel) rfl ?_
                    refine zr_get (idx := 231) (k := 9) (v := .ref (t + 6)) (by decide +kernel) (by decide +kernel) hT1 rfl ?_
                    refine zp_seg (pc' := 238) (lv' := [(0, .ref m), (1, .ref t), (2, .int n), (3, .int k), (4, .int y4_190), (6, .int y6_190)]) (st' := [.int y6_190, .ref (t + 6), .int r229, .int y4_190]) [(236, .iload 6)] (by decide +kernel) rfl ?_
                    refine zr_iald (by decide +kernel) hAe1 (zin (by first | omega | decide) (by first | omega | decide)) ?_
                    obtain ⟨x238, ex238⟩ : ∃ x9, x9 = fe1 (y6_190.toNatClampNeg) := ⟨_, rfl⟩
                    rw [← ex238]
                    have kx238 := zrng x238
                    refine zr_callS (idx := 317) (j := 262) (by decide +kernel) (by decide +kernel) (by decide) (show zMe 262 = some zq_X16_power from rfl) rfl rfl (Nat.le_of_ble_eq_true rfl) rfl rfl (Nat.le_of_ble_eq_true rfl) (Nat.le_of_ble_eq_true rfl) (c_X16_power (w := w) r229 x238 (by exact hr229)) (by omega) (fun v239 w239 hp239 => ?_)
                    obtain ⟨hpw239, r239, rfl, hr239⟩ := hp239
                    replace hpw239 := hpw239.symm
                    subst hpw239
                    have kr239 := zrng r239
                    show zP _ _ _ _ [.int r239, .int y4_190] _ _ _ _ _
                    refine zr_callS (idx := 56) (j := 257) (by decide +kernel) (by decide +kernel) (by decide) (show zMe 257 = some zq_X16_mul from rfl) rfl rfl (Nat.le_of_ble_eq_true rfl) rfl rfl (Nat.le_of_ble_eq_true rfl) (Nat.le_of_ble_eq_true rfl) (c_X16_mul (w := w) y4_190 r239 (by exact hV2) (by first | exact hr239.1 | omega | decide | assumption | exact zr1_1 | exact zr1_0 | fail "num")) (by omega) (fun v242 w242 hp242 => ?_)
                    obtain ⟨hpw242, r242, rfl, hr242⟩ := hp242
                    replace hpw242 := hpw242.symm
                    subst hpw242
                    have kr242 := zrng r242
                    show zP _ _ _ _ [.int r242] _ _ _ _ _
                    refine zp_seg (pc' := 250) (lv' := [(6, .int (y6_190 + 1)), (4, .int r242), (0, .ref m), (1, .ref t), (2, .int n), (3, .int k)]) (st' := []) [(245, .istore 4), (247, .iinc 6 1)] (by decide +kernel) rfl ?_
                    have k33 := zaddC y6_190 1 (n := 1) (by decide) (by omega) (by omega)
                    generalize ev250 : (y6_190 + 1 : Int32) = v250 at k33 ⊢
                    have kv250 := zrng v250
                    refine zp_seg (pc' := 190) (lv' := [(6, .int v250), (4, .int r242), (0, .ref m), (1, .ref t), (2, .int n), (3, .int k)]) (st' := []) [(250, .goto (-60))] (by decide +kernel) rfl ?_
                    have hz34 : (v250.toNatClampNeg : Int) = v250.toInt := znat (by first | omega | decide)
                    exact (ih190 r242 v250 (by first | assumption | omega | decide) (by first | assumption | omega | decide) (by
                          exact hr242.1) (by omega)).more (zfa1 rfl (zfa1 rfl (zfa1 rfl (zfa1 rfl (zfa1 rfl (zfa1 rfl (zfa0)))))))
                have hl35 : (0 : Int32).toInt = 0 := by decide
                have hz36 : ((0 : Int32).toNatClampNeg : Int) = 0 := by decide
                exact (hL190 _ r182 0 (by first | assumption | omega | decide) (by first | assumption | omega | decide) (by
                      exact hr182.1) (Nat.lt_succ_self _)).more (zfa1 rfl (zfa1 rfl (zfa1 rfl (zfa1 rfl (zfa1 rfl (zfa1 rfl (zfa0)))))))
              ·
                have f37 := zneI cc144
                rw [show (0 : Int32).toInt = 0 from by decide] at f37
                refine zp_seg (pc' := 150) (lv' := [(0, .ref m), (1, .ref t), (2, .int n), (3, .int k), (4, .int y4_53), (5, .int y5_53), (6, .int y6_53)]) (st' := [.int (Int32.ofInt (-1)), .int y4_53]) [(147, .iload 4), (149, .iconst (-1))] (by decide +kernel) rfl ?_
                refine zp_if (i := .if_icmp .ne 7) (c := ¬ y4_53 = (Int32.ofInt (-1))) (t := 157) (e := 153) (lv' := [(0, .ref m), (1, .ref t), (2, .int n), (3, .int k), (4, .int y4_53), (5, .int y5_53), (6, .int y6_53)]) (st' := []) (by decide +kernel) rfl (fun cc150 => ?_) (fun cc150 => ?_)
                ·
                  have f38 := zneI cc150
                  rw [show (Int32.ofInt (-1) : Int32).toInt = (-1) from by decide] at f38
                  refine zp_seg (pc' := 158) (lv' := [(0, .ref m), (1, .ref t), (2, .int n), (3, .int k), (4, .int y4_53), (5, .int y5_53), (6, .int y6_53)]) (st' := [.int 0]) [(157, .iconst 0)] (by decide +kernel) rfl ?_
                  refine zr_retI (by decide +kernel) rfl ?_
                  rw [← hPost]; exact ⟨rfl, _, rfl, rfl, _, rfl, (by
                        first | exact Or.inl rfl | exact Or.inr zr1_0 | exact hr18 | exact Or.inr hV2)⟩
                ·
                  replace cc150 := Classical.not_not.mp cc150
                  exact absurd cc150 cc139
          ·
            have f39 := znleI cc59
            refine zp_seg (pc' := 65) (lv' := [(0, .ref m), (1, .ref t), (2, .int n), (3, .int k), (4, .int y4_53), (5, .int y5_53), (6, .int y6_53)]) (st' := [.int (Int32.ofInt (-1)), .int y4_53]) [(62, .iload 4), (64, .iconst (-1))] (by decide +kernel) rfl ?_
            refine zp_if (i := .if_icmp .eq 71) (c := y4_53 = (Int32.ofInt (-1))) (t := 136) (e := 68) (lv' := [(0, .ref m), (1, .ref t), (2, .int n), (3, .int k), (4, .int y4_53), (5, .int y5_53), (6, .int y6_53)]) (st' := []) (by decide +kernel) rfl (fun cc65 => ?_) (fun cc65 => ?_)
            ·
              have f41 := zeqI cc65
              rw [show (Int32.ofInt (-1) : Int32).toInt = (-1) from by decide] at f41
              refine zp_seg (pc' := 139) (lv' := [(0, .ref m), (1, .ref t), (2, .int n), (3, .int k), (4, .int y4_53), (5, .int y5_53), (6, .int y6_53)]) (st' := [.int (Int32.ofInt (-1)), .int y4_53]) [(136, .iload 4), (138, .iconst (-1))] (by decide +kernel) rfl ?_
              refine zp_if (i := .if_icmp .eq 8) (c := y4_53 = (Int32.ofInt (-1))) (t := 147) (e := 142) (lv' := [(0, .ref m), (1, .ref t), (2, .int n), (3, .int k), (4, .int y4_53), (5, .int y5_53), (6, .int y6_53)]) (st' := []) (by decide +kernel) rfl (fun cc139 => ?_) (fun cc139 => ?_)
              ·
                have f42 := zeqI cc139
                rw [show (Int32.ofInt (-1) : Int32).toInt = (-1) from by decide] at f42
                refine zp_seg (pc' := 150) (lv' := [(0, .ref m), (1, .ref t), (2, .int n), (3, .int k), (4, .int y4_53), (5, .int y5_53), (6, .int y6_53)]) (st' := [.int (Int32.ofInt (-1)), .int y4_53]) [(147, .iload 4), (149, .iconst (-1))] (by decide +kernel) rfl ?_
                refine zp_if (i := .if_icmp .ne 7) (c := ¬ y4_53 = (Int32.ofInt (-1))) (t := 157) (e := 153) (lv' := [(0, .ref m), (1, .ref t), (2, .int n), (3, .int k), (4, .int y4_53), (5, .int y5_53), (6, .int y6_53)]) (st' := []) (by decide +kernel) rfl (fun cc150 => ?_) (fun cc150 => ?_)
                ·
                  exact absurd cc139 cc150
                ·
                  replace cc150 := Classical.not_not.mp cc150
                  have f43 := zeqI cc150
                  rw [show (Int32.ofInt (-1) : Int32).toInt = (-1) from by decide] at f43
                  refine zp_seg (pc' := 158) (lv' := [(0, .ref m), (1, .ref t), (2, .int n), (3, .int k), (4, .int y4_53), (5, .int y5_53), (6, .int y6_53)]) (st' := [.int (Int32.ofInt (-1))]) [(153, .iconst (-1)), (154, .goto 4)] (by decide +kernel) rfl ?_
                  refine zr_retI (by decide +kernel) rfl ?_
                  rw [← hPost]; exact ⟨rfl, _, rfl, rfl, _, rfl, (by
                        first | exact Or.inl rfl | exact Or.inr zr1_0 | exact hr18 | exact Or.inr hV2)⟩
              ·
                exact absurd cc65 cc139
            ·
              have f45 := zneI cc65
              rw [show (Int32.ofInt (-1) : Int32).toInt = (-1) from by decide] at f45
              refine zp_seg (pc' := 69) (lv' := [(0, .ref m), (1, .ref t), (2, .int n), (3, .int k), (4, .int y4_53), (5, .int y5_53), (6, .int y6_53)]) (st' := [.ref t]) [(68, .aload_n 1)] (by decide +kernel) rfl ?_
              refine zr_get (idx := 222) (k := 6) (v := .ref (t + 3)) (by decide +kernel) (by decide +kernel) hT1 rfl ?_
              refine zp_seg (pc' := 74) (lv' := [(0, .ref m), (1, .ref t), (2, .int n), (3, .int k), (4, .int y4_53), (5, .int y5_53), (6, .int y6_53)]) (st' := [.int y6_53, .ref (t + 3)]) [(72, .iload 6)] (by decide +kernel) rfl ?_
              refine zr_iald (by decide +kernel) hAa1 (zin (by first | omega | decide) (by first | omega | decide)) ?_
              obtain ⟨x74, ex74⟩ : ∃ x9, x9 = fa1 (y6_53.toNatClampNeg) := ⟨_, rfl⟩
              rw [← ex74]
              have kx74 := zrng x74
              refine zp_seg (pc' := 76) (lv' := [(0, .ref m), (1, .ref t), (2, .int n), (3, .int k), (4, .int y4_53), (5, .int y5_53), (6, .int y6_53)]) (st' := [.int n, .int x74]) [(75, .iload_n 2)] (by decide +kernel) rfl ?_
              have hfl76 := hKl1 y6_53.toNatClampNeg (by omega)
              rw [← ex74] at hfl76
              have hb1 := zmul_b6 (x := x74) (y := n) hfl76.1 hw9.1
              refine zp_seg (pc' := 77) (lv' := [(0, .ref m), (1, .ref t), (2, .int n), (3, .int k), (4, .int y4_53), (5, .int y5_53), (6, .int y6_53)]) (st' := [.int (x74 * n)]) [(76, .imul)] (by decide +kernel) rfl ?_
              have k46 := zmulM x74 n
              generalize ev77 : (x74 * n : Int32) = v77 at k46 ⊢
              have kv77 := zrng v77
              refine zp_seg (pc' := 78) (lv' := [(0, .ref m), (1, .ref t), (2, .int n), (3, .int k), (4, .int y4_53), (5, .int y5_53), (6, .int y6_53)]) (st' := [.ref t, .int v77]) [(77, .aload_n 1)] (by decide +kernel) rfl ?_
              refine zr_get (idx := 225) (k := 7) (v := .ref (t + 4)) (by decide +kernel) (by decide +kernel) hT1 rfl ?_
              refine zp_seg (pc' := 83) (lv' := [(0, .ref m), (1, .ref t), (2, .int n), (3, .int k), (4, .int y4_53), (5, .int y5_53), (6, .int y6_53)]) (st' := [.int y6_53, .ref (t + 4), .int v77]) [(81, .iload 6)] (by decide +kernel) rfl ?_
              refine zr_iald (by decide +kernel) hAb1 (zin (by first | omega | decide) (by first | omega | decide)) ?_
              obtain ⟨x83, ex83⟩ : ∃ x9, x9 = fb1 (y6_53.toNatClampNeg) := ⟨_, rfl⟩
              rw [← ex83]
              have kx83 := zrng x83
              refine zp_seg (pc' := 85) (lv' := [(0, .ref m), (1, .ref t), (2, .int n), (3, .int k), (4, .int y4_53), (5, .int y5_53), (6, .int y6_53)]) (st' := [.int k, .int x83, .int v77]) [(84, .iload_n 3)] (by decide +kernel) rfl ?_
              rw [← ex83] at hfl76
              have hb2 := zmul_b6 (x := x83) (y := k) hfl76.2.1 hw8.1
              refine zp_seg (pc' := 86) (lv' := [(0, .ref m), (1, .ref t), (2, .int n), (3, .int k), (4, .int y4_53), (5, .int y5_53), (6, .int y6_53)]) (st' := [.int (x83 * k), .int v77]) [(85, .imul)] (by decide +kernel) rfl ?_
              have k47 := zmulM x83 k
              generalize ev86 : (x83 * k : Int32) = v86 at k47 ⊢
              have kv86 := zrng v86
              have hv86 : v86.toInt = x83.toInt * k.toInt := by omega
              refine zp_seg (pc' := 87) (lv' := [(0, .ref m), (1, .ref t), (2, .int n), (3, .int k), (4, .int y4_53), (5, .int y5_53), (6, .int y6_53)]) (st' := [.int (v77 + v86)]) [(86, .iadd)] (by decide +kernel) rfl ?_
              have k48 := zadd v77 v86 (by omega) (by omega)
              generalize ev87 : (v77 + v86 : Int32) = v87 at k48 ⊢
              have kv87 := zrng v87
              refine zp_seg (pc' := 88) (lv' := [(0, .ref m), (1, .ref t), (2, .int n), (3, .int k), (4, .int y4_53), (5, .int y5_53), (6, .int y6_53)]) (st' := [.ref t, .int v87]) [(87, .aload_n 1)] (by decide +kernel) rfl ?_
              refine zr_get (idx := 228) (k := 8) (v := .ref (t + 5)) (by decide +kernel) (by decide +kernel) hT1 rfl ?_
              refine zp_seg (pc' := 93) (lv' := [(0, .ref m), (1, .ref t), (2, .int n), (3, .int k), (4, .int y4_53), (5, .int y5_53), (6, .int y6_53)]) (st' := [.int y6_53, .ref (t + 5), .int v87]) [(91, .iload 6)] (by decide +kernel) rfl ?_
              refine zr_iald (by decide +kernel) hAc1 (zin (by first | omega | decide) (by first | omega | decide)) ?_
              obtain ⟨x93, ex93⟩ : ∃ x9, x9 = fc1 (y6_53.toNatClampNeg) := ⟨_, rfl⟩
              rw [← ex93]
              have kx93 := zrng x93
              rw [← ex93] at hfl76
              have hb3 := hfl76.2.2.2
              refine zp_seg (pc' := 95) (lv' := [(0, .ref m), (1, .ref t), (2, .int n), (3, .int k), (4, .int y4_53), (5, .int y5_53), (6, .int y6_53)]) (st' := [.int (v87 + x93)]) [(94, .iadd)] (by decide +kernel) rfl ?_
              have k49 := zadd v87 x93 (by omega) (by omega)
              generalize ev95 : (v87 + x93 : Int32) = v95 at k49 ⊢
              have kv95 := zrng v95
              refine zp_seg (pc' := 99) (lv' := [(7, .int v95), (0, .ref m), (1, .ref t), (2, .int n), (3, .int k), (4, .int y4_53), (5, .int y5_53), (6, .int y6_53)]) (st' := [.int v95]) [(95, .istore 7), (97, .iload 7)] (by decide +kernel) rfl ?_
              refine zp_if (i := .ifCond .ge 16) (c := 0 ≤ v95) (t := 115) (e := 102) (lv' := [(7, .int v95), (0, .ref m), (1, .ref t), (2, .int n), (3, .int k), (4, .int y4_53), (5, .int y5_53), (6, .int y6_53)]) (st' := []) (by decide +kernel) rfl (fun cc99 => ?_) (fun cc99 => ?_)
              ·
                have f50 := zleI cc99
                rw [show (0 : Int32).toInt = 0 from by decide] at f50
                refine zp_seg (pc' := 119) (lv' := [(7, .int v95), (0, .ref m), (1, .ref t), (2, .int n), (3, .int k), (4, .int y4_53), (5, .int y5_53), (6, .int y6_53)]) (st' := [.int v95, .int y5_53]) [(115, .iload 5), (117, .iload 7)] (by decide +kernel) rfl ?_
                refine zp_if (i := .ifCond .ge 7) (c := 0 ≤ v95) (t := 126) (e := 122) (lv' := [(7, .int v95), (0, .ref m), (1, .ref t), (2, .int n), (3, .int k), (4, .int y4_53), (5, .int y5_53), (6, .int y6_53)]) (st' := [.int y5_53]) (by decide +kernel) rfl (fun cc119 => ?_) (fun cc119 => ?_)
                ·
                  have f51 := zleI cc119
                  rw [show (0 : Int32).toInt = 0 from by decide] at f51
                  refine zp_seg (pc' := 133) (lv' := [(6, .int (y6_53 + 1)), (5, .int (y5_53 ||| 0)), (7, .int v95), (0, .ref m), (1, .ref t), (2, .int n), (3, .int k), (4, .int y4_53)]) (st' := []) [(126, .iconst 0), (127, .ior), (128, .istore 5), (130, .iinc 6 1)] (by decide +kernel) rfl ?_
                  have k52 := zaddC y6_53 1 (n := 1) (by decide) (by omega) (by omega)
                  generalize ev133 : (y6_53 + 1 : Int32) = v133 at k52 ⊢
                  have kv133 := zrng v133
                  generalize ev133_53 : (y5_53 ||| 0 : Int32) = v133_53
                  have kv133_53 := zrng v133_53
                  refine zp_seg (pc' := 53) (lv' := [(6, .int v133), (5, .int v133_53), (7, .int v95), (0, .ref m), (1, .ref t), (2, .int n), (3, .int k), (4, .int y4_53)]) (st' := []) [(133, .goto (-80))] (by decide +kernel) rfl ?_
                  have hz54 : (v133.toNatClampNeg : Int) = v133.toInt := znat (by first | omega | decide)
                  exact (ih53 y4_53 v133_53 v133 (by first | assumption | omega | decide) (by first | assumption | omega | decide) (by
                        first | exact hV | exact Or.inl rfl) (by omega)).more (zfa1 rfl (zfa1 rfl (zfa1 rfl (zfa1 rfl (zfa1 rfl (zfa1 rfl (zfa1 rfl (zfa0))))))))
                ·
                  exact absurd cc99 cc119
              ·
                have f55 := znleI cc99
                rw [show (0 : Int32).toInt = 0 from by decide] at f55
                refine zp_seg (pc' := 103) (lv' := [(7, .int v95), (0, .ref m), (1, .ref t), (2, .int n), (3, .int k), (4, .int y4_53), (5, .int y5_53), (6, .int y6_53)]) (st' := [.ref t]) [(102, .aload_n 1)] (by decide +kernel) rfl ?_
                refine zr_get (idx := 231) (k := 9) (v := .ref (t + 6)) (by decide +kernel) (by decide +kernel) hT1 rfl ?_
                refine zp_seg (pc' := 108) (lv' := [(7, .int v95), (0, .ref m), (1, .ref t), (2, .int n), (3, .int k), (4, .int y4_53), (5, .int y5_53), (6, .int y6_53)]) (st' := [.int y6_53, .ref (t + 6)]) [(106, .iload 6)] (by decide +kernel) rfl ?_
                refine zr_iald (by decide +kernel) hAe1 (zin (by first | omega | decide) (by first | omega | decide)) ?_
                obtain ⟨x108, ex108⟩ : ∃ x9, x9 = fe1 (y6_53.toNatClampNeg) := ⟨_, rfl⟩
                rw [← ex108]
                have kx108 := zrng x108
                refine zp_if (i := .ifCond .le 6) (c := x108 ≤ 0) (t := 115) (e := 112) (lv' := [(7, .int v95), (0, .ref m), (1, .ref t), (2, .int n), (3, .int k), (4, .int y4_53), (5, .int y5_53), (6, .int y6_53)]) (st' := []) (by decide +kernel) rfl (fun cc109 => ?_) (fun cc109 => ?_)
                ·
                  have f56 := zleI cc109
                  rw [show (0 : Int32).toInt = 0 from by decide] at f56
                  refine zp_seg (pc' := 119) (lv' := [(7, .int v95), (0, .ref m), (1, .ref t), (2, .int n), (3, .int k), (4, .int y4_53), (5, .int y5_53), (6, .int y6_53)]) (st' := [.int v95, .int y5_53]) [(115, .iload 5), (117, .iload 7)] (by decide +kernel) rfl ?_
                  refine zp_if (i := .ifCond .ge 7) (c := 0 ≤ v95) (t := 126) (e := 122) (lv' := [(7, .int v95), (0, .ref m), (1, .ref t), (2, .int n), (3, .int k), (4, .int y4_53), (5, .int y5_53), (6, .int y6_53)]) (st' := [.int y5_53]) (by decide +kernel) rfl (fun cc119 => ?_) (fun cc119 => ?_)
                  ·
                    exact absurd cc119 cc99
                  ·
                    have f57 := znleI cc119
                    rw [show (0 : Int32).toInt = 0 from by decide] at f57
                    refine zp_seg (pc' := 133) (lv' := [(6, .int (y6_53 + 1)), (5, .int (y5_53 ||| 1)), (7, .int v95), (0, .ref m), (1, .ref t), (2, .int n), (3, .int k), (4, .int y4_53)]) (st' := []) [(122, .iconst 1), (123, .goto 4), (127, .ior), (128, .istore 5), (130, .iinc 6 1)] (by decide +kernel) rfl ?_
                    have k58 := zaddC y6_53 1 (n := 1) (by decide) (by omega) (by omega)
                    generalize ev133 : (y6_53 + 1 : Int32) = v133 at k58 ⊢
                    have kv133 := zrng v133
                    generalize ev133_59 : (y5_53 ||| 1 : Int32) = v133_59
                    have kv133_59 := zrng v133_59
                    refine zp_seg (pc' := 53) (lv' := [(6, .int v133), (5, .int v133_59), (7, .int v95), (0, .ref m), (1, .ref t), (2, .int n), (3, .int k), (4, .int y4_53)]) (st' := []) [(133, .goto (-80))] (by decide +kernel) rfl ?_
                    have hz60 : (v133.toNatClampNeg : Int) = v133.toInt := znat (by first | omega | decide)
                    exact (ih53 y4_53 v133_59 v133 (by first | assumption | omega | decide) (by first | assumption | omega | decide) (by
                          first | exact hV | exact Or.inl rfl) (by omega)).more (zfa1 rfl (zfa1 rfl (zfa1 rfl (zfa1 rfl (zfa1 rfl (zfa1 rfl (zfa1 rfl (zfa0))))))))
                ·
                  have f61 := znleI cc109
                  rw [show (0 : Int32).toInt = 0 from by decide] at f61
                  refine zp_seg (pc' := 119) (lv' := [(4, .int (Int32.ofInt (-1))), (7, .int v95), (0, .ref m), (1, .ref t), (2, .int n), (3, .int k), (5, .int y5_53), (6, .int y6_53)]) (st' := [.int v95, .int y5_53]) [(112, .iconst (-1)), (113, .istore 4), (115, .iload 5), (117, .iload 7)] (by decide +kernel) rfl ?_
                  refine zp_if (i := .ifCond .ge 7) (c := 0 ≤ v95) (t := 126) (e := 122) (lv' := [(4, .int (Int32.ofInt (-1))), (7, .int v95), (0, .ref m), (1, .ref t), (2, .int n), (3, .int k), (5, .int y5_53), (6, .int y6_53)]) (st' := [.int y5_53]) (by decide +kernel) rfl (fun cc119 => ?_) (fun cc119 => ?_)
                  ·
                    exact absurd cc119 cc99
                  ·
                    have f62 := znleI cc119
                    rw [show (0 : Int32).toInt = 0 from by decide] at f62
                    refine zp_seg (pc' := 133) (lv' := [(6, .int (y6_53 + 1)), (5, .int (y5_53 ||| 1)), (4, .int (Int32.ofInt (-1))), (7, .int v95), (0, .ref m), (1, .ref t), (2, .int n), (3, .int k)]) (st' := []) [(122, .iconst 1), (123, .goto 4), (127, .ior), (128, .istore 5), (130, .iinc 6 1)] (by decide +kernel) rfl ?_
                    have k63 := zaddC y6_53 1 (n := 1) (by decide) (by omega) (by omega)
                    generalize ev133 : (y6_53 + 1 : Int32) = v133 at k63 ⊢
                    have kv133 := zrng v133
                    generalize ev133_64 : (y5_53 ||| 1 : Int32) = v133_64
                    have kv133_64 := zrng v133_64
                    refine zp_seg (pc' := 53) (lv' := [(6, .int v133), (5, .int v133_64), (4, .int (Int32.ofInt (-1))), (7, .int v95), (0, .ref m), (1, .ref t), (2, .int n), (3, .int k)]) (st' := []) [(133, .goto (-80))] (by decide +kernel) rfl ?_
                    have hz65 : (v133.toNatClampNeg : Int) = v133.toInt := znat (by first | omega | decide)
                    exact (ih53 (Int32.ofInt (-1)) v133_64 v133 (by first | assumption | omega | decide) (by first | assumption | omega | decide) (by
                          first | exact hV | exact Or.inl rfl) (by omega)).more (zfa1 rfl (zfa1 rfl (zfa1 rfl (zfa1 rfl (zfa1 rfl (zfa1 rfl (zfa1 rfl (zfa0))))))))
        have hl66 : (0 : Int32).toInt = 0 := by decide
        have hz67 : ((0 : Int32).toNatClampNeg : Int) = 0 := by decide
        exact (hL53 _ r42 0 0 (by first | assumption | omega | decide) (by first | assumption | omega | decide) (by
              exact hr42) (Nat.lt_succ_self _)).more (zfa1 rfl (zfa1 rfl (zfa1 rfl (zfa1 rfl (zfa1 rfl (zfa1 rfl (zfa1 rfl (zfa0))))))))
      ·
        replace cc33 := Classical.not_not.mp cc33
        have f68 := zeqI cc33
        rw [show (0 : Int32).toInt = 0 from by decide] at f68
        refine zp_seg (pc' := 37) (lv' := [(0, .ref m), (1, .ref t), (2, .int n), (3, .int k)]) (st' := [.int (Int32.ofInt (-1))]) [(36, .iconst (-1))] (by decide +kernel) rfl ?_
        refine zr_retI (by decide +kernel) rfl ?_
        rw [← hPost]; exact ⟨rfl, _, rfl, rfl, _, rfl, (by
              first | exact Or.inl rfl | exact Or.inr zr1_0 | exact hr18 | exact Or.inr hV2)⟩
  ·
    replace cc5 := Classical.not_not.mp cc5
    have k70 := zrng (g1 0)
    have f72 := zeqI cc5
    rw [show (1 : Int32).toInt = 1 from by decide] at f72
    refine zp_seg (pc' := 11) (lv' := [(0, .ref m), (1, .ref t), (2, .int n), (3, .int k)]) (st' := [.int n, .ref t, .ref m]) [(8, .aload_n 0), (9, .aload_n 1), (10, .iload_n 2)] (by decide +kernel) rfl ?_
    refine zr_callS (idx := 600) (j := 260) (by decide +kernel) (by decide +kernel) (by decide) (show zMe 260 = some zq_X16_rest from rfl) rfl rfl (Nat.le_of_ble_eq_true rfl) rfl rfl (Nat.le_of_ble_eq_true rfl) (Nat.le_of_ble_eq_true rfl) (c_X16_rest (w := w) n ) (by omega) (fun v11 w11 hp11 => ?_)
    obtain ⟨hpw11, r11, rfl, hr11⟩ := hp11
    replace hpw11 := hpw11.symm
    subst hpw11
    have kr11 := zrng r11
    show zP _ _ _ _ [.int r11, .ref t, .ref m] _ _ _ _ _
    refine zp_seg (pc' := 15) (lv' := [(0, .ref m), (1, .ref t), (2, .int n), (3, .int k)]) (st' := [.int k, .int r11, .ref t, .ref m]) [(14, .iload_n 3)] (by decide +kernel) rfl ?_
    refine zr_callS (idx := 600) (j := 260) (by decide +kernel) (by decide +kernel) (by decide) (show zMe 260 = some zq_X16_rest from rfl) rfl rfl (Nat.le_of_ble_eq_true rfl) rfl rfl (Nat.le_of_ble_eq_true rfl) (Nat.le_of_ble_eq_true rfl) (c_X16_rest (w := w) k ) (by omega) (fun v15 w15 hp15 => ?_)
    obtain ⟨hpw15, r15, rfl, hr15⟩ := hp15
    replace hpw15 := hpw15.symm
    subst hpw15
    have kr15 := zrng r15
    show zP _ _ _ _ [.int r15, .int r11, .ref t, .ref m] _ _ _ _ _
    refine zr_callV (idx := 678) (j := 375) (by decide +kernel) (by decide +kernel) (show zMe 375 = some zq_X16_ratioAt from rfl) rfl rfl (Nat.le_of_ble_eq_true rfl) rfl rfl hm (Nat.le_of_ble_eq_true rfl) (Nat.le_of_ble_eq_true rfl) (c_X16_ratioAt (w := w) m t r11 r15 hm hR_m hT1 hAn1 hAd1 (by exact hKn1) (by exact hKd1) (by first | exact hr11.1 | omega | decide | assumption | exact zr1_1 | exact zr1_0 | fail "num") (by first | exact hr15.1 | omega | decide | assumption | exact zr1_1 | exact zr1_0 | fail "num")) (by omega) (fun v18 w18 hp18 => ?_)
    obtain ⟨hpw18, r18, rfl, hr18⟩ := hp18
    replace hpw18 := hpw18.symm
    subst hpw18
    have kr18 := zrng r18
    show zP _ _ _ _ [.int r18] _ _ _ _ _
    refine zr_retI (by decide +kernel) rfl ?_
    rw [← hPost]; exact ⟨rfl, _, rfl, rfl, _, rfl, (by
          first | exact Or.inl rfl | exact Or.inr zr1_0 | exact hr18 | exact Or.inr hV2)⟩

set_option maxHeartbeats 8000000 in
set_option maxRecDepth 100000 in
theorem c_X16_sumOf {w : zM} {g : Nat → Int32} {r : Nat → Value} {kk : Int32} (m : Nat) (t : Nat) (n : Int32) (low : Int32) (high : Int32) (hm : w m = some (.inl (15, zMo m g r))) (hR_m : zR m w) (hTi_t : zTi w t kk) (hk : kk = 1 ∨ kk = 2) (hlo : 0 ≤ low.toInt ∧ low.toInt ≤ 501) (hhi : high.toInt ≤ 501) : zCon 5 zq_X16_sumOf [.ref m, .ref t, .int n, .int low, .int high] w (fun v9 w9' => w9' = w ∧ ∃ r9 : Int32, v9 = some (.int r9) ∧ (r9 = Int32.ofInt (-1) ∨ zr1 r9)) := by
  intro d sz hd
  obtain ⟨d, rfl⟩ : ∃ d9, d = d9 + 1 := ⟨d - 1, by omega⟩
  generalize hPost : (fun (r9' : Option (Option Value)) (w9' : zM) (z9 : Nat) => z9 = sz ∧ ∃ v9, r9' = some v9 ∧ (w9' = w ∧ ∃ r9 : Int32, v9 = some (.int r9) ∧ (r9 = Int32.ofInt (-1) ∨ zr1 r9))) = Post
  show zP (d + 1) zq_X16_sumOf 0 [(0, .ref m), (1, .ref t), (2, .int n), (3, .int low), (4, .int high)] [] w sz 0 0 Post
  have k1 := zrng n
  have k2 := zrng low
  have k3 := zrng high
  refine zp_seg (pc' := 6) (lv' := [(6, .int low), (5, .int 0), (0, .ref m), (1, .ref t), (2, .int n), (3, .int low), (4, .int high)]) (st' := []) [(0, .iconst 0), (1, .istore 5), (3, .iload_n 3), (4, .istore 6)] (by decide +kernel) rfl ?_
  have hL6 : ∀ (mm6 : Nat) (y5_6 : Int32) (y6_6 : Int32), (0 ≤ y6_6.toInt) → (y6_6.toInt ≤ 502) → (zr1 y5_6) → (600 - y6_6.toInt).toNat < mm6 → zP (d + 1) zq_X16_sumOf 6 [(0, .ref m), (1, .ref t), (2, .int n), (4, .int high), (5, .int y5_6), (6, .int y6_6)] [] w sz 0 0 Post := by
    intro mm6
    induction mm6 with
    | zero => intros; omega
    | succ mm6 ih6 =>
    intro y5_6 y6_6 hi6_0 hi6_1 hS5 hmu6
    have ky5_6 := zrng y5_6
    have ky6_6 := zrng y6_6
    refine zp_seg (pc' := 10) (lv' := [(0, .ref m), (1, .ref t), (2, .int n), (4, .int high), (5, .int y5_6), (6, .int y6_6)]) (st' := [.int high, .int y6_6]) [(6, .iload 6), (8, .iload 4)] (by decide +kernel) rfl ?_
    refine zp_if (i := .if_icmp .gt 36) (c := high < y6_6) (t := 46) (e := 13) (lv' := [(0, .ref m), (1, .ref t), (2, .int n), (4, .int high), (5, .int y5_6), (6, .int y6_6)]) (st' := []) (by decide +kernel) rfl (fun cc10 => ?_) (fun cc10 => ?_)
    ·
      have f4 := zltI cc10
      refine zp_seg (pc' := 48) (lv' := [(0, .ref m), (1, .ref t), (2, .int n), (4, .int high), (5, .int y5_6), (6, .int y6_6)]) (st' := [.int y5_6]) [(46, .iload 5)] (by decide +kernel) rfl ?_
      refine zr_retI (by decide +kernel) rfl ?_
      rw [← hPost]; exact ⟨rfl, _, rfl, rfl, _, rfl, (by
            first | exact Or.inl rfl | exact Or.inr hS5)⟩
    ·
      have f5 := znltI cc10
      refine zp_seg (pc' := 18) (lv' := [(0, .ref m), (1, .ref t), (2, .int n), (4, .int high), (5, .int y5_6), (6, .int y6_6)]) (st' := [.int y6_6, .int n, .ref t, .ref m]) [(13, .aload_n 0), (14, .aload_n 1), (15, .iload_n 2), (16, .iload 6)] (by decide +kernel) rfl ?_
      refine zr_callV (idx := 688) (j := 377) (by decide +kernel) (by decide +kernel) (show zMe 377 = some zq_X16_valueAt from rfl) rfl rfl (Nat.le_of_ble_eq_true rfl) rfl rfl hm (Nat.le_of_ble_eq_true rfl) (Nat.le_of_ble_eq_true rfl) (c_X16_valueAt (w := w) m t n y6_6 hm hR_m hTi_t (by first | omega | decide | assumption | exact zr1_1 | exact zr1_0 | fail "num")) (by omega) (fun v18 w18 hp18 => ?_)
      obtain ⟨hpw18, r18, rfl, hr18⟩ := hp18
      replace hpw18 := hpw18.symm
      subst hpw18
      have kr18 := zrng r18
      show zP _ _ _ _ [.int r18] _ _ _ _ _
      refine zp_seg (pc' := 26) (lv' := [(7, .int r18), (0, .ref m), (1, .ref t), (2, .int n), (4, .int high), (5, .int y5_6), (6, .int y6_6)]) (st' := [.int (Int32.ofInt (-1)), .int r18]) [(21, .istore 7), (23, .iload 7), (25, .iconst (-1))] (by decide +kernel) rfl ?_
      refine zp_if (i := .if_icmp .ne 5) (c := ¬ r18 = (Int32.ofInt (-1))) (t := 31) (e := 29) (lv' := [(7, .int r18), (0, .ref m), (1, .ref t), (2, .int n), (4, .int high), (5, .int y5_6), (6, .int y6_6)]) (st' := []) (by decide +kernel) rfl (fun cc26 => ?_) (fun cc26 => ?_)
      ·
        have f7 := zneI cc26
        rw [show (Int32.ofInt (-1) : Int32).toInt = (-1) from by decide] at f7
        refine zp_seg (pc' := 35) (lv' := [(7, .int r18), (0, .ref m), (1, .ref t), (2, .int n), (4, .int high), (5, .int y5_6), (6, .int y6_6)]) (st' := [.int r18, .int y5_6]) [(31, .iload 5), (33, .iload 7)] (by decide +kernel) rfl ?_
        refine zr_callS (idx := 49) (j := 255) (by decide +kernel) (by decide +kernel) (by decide) (show zMe 255 = some zq_X16_add from rfl) rfl rfl (Nat.le_of_ble_eq_true rfl) rfl rfl (Nat.le_of_ble_eq_true rfl) (Nat.le_of_ble_eq_true rfl) (c_X16_add (w := w) y5_6 r18 (by exact hS5) (by exact hr18.resolve_left cc26)) (by omega) (fun v35 w35 hp35 => ?_)
        obtain ⟨hpw35, r35, rfl, hr35⟩ := hp35
        replace hpw35 := hpw35.symm
        subst hpw35
        have kr35 := zrng r35
        show zP _ _ _ _ [.int r35] _ _ _ _ _
        refine zp_seg (pc' := 43) (lv' := [(6, .int (y6_6 + 1)), (5, .int r35), (7, .int r18), (0, .ref m), (1, .ref t), (2, .int n), (4, .int high)]) (st' := []) [(38, .istore 5), (40, .iinc 6 1)] (by decide +kernel) rfl ?_
        have k8 := zaddC y6_6 1 (n := 1) (by decide) (by omega) (by omega)
        generalize ev43 : (y6_6 + 1 : Int32) = v43 at k8 ⊢
        have kv43 := zrng v43
        refine zp_seg (pc' := 6) (lv' := [(6, .int v43), (5, .int r35), (7, .int r18), (0, .ref m), (1, .ref t), (2, .int n), (4, .int high)]) (st' := []) [(43, .goto (-37))] (by decide +kernel) rfl ?_
        exact (ih6 r35 v43 (by first | assumption | omega | decide) (by first | assumption | omega | decide) (by
              exact hr35.1) (by omega)).more (zfa1 rfl (zfa1 rfl (zfa1 rfl (zfa1 rfl (zfa1 rfl (zfa1 rfl (zfa0)))))))
      ·
        replace cc26 := Classical.not_not.mp cc26
        have f10 := zeqI cc26
        rw [show (Int32.ofInt (-1) : Int32).toInt = (-1) from by decide] at f10
        refine zp_seg (pc' := 30) (lv' := [(7, .int r18), (0, .ref m), (1, .ref t), (2, .int n), (4, .int high), (5, .int y5_6), (6, .int y6_6)]) (st' := [.int (Int32.ofInt (-1))]) [(29, .iconst (-1))] (by decide +kernel) rfl ?_
        refine zr_retI (by decide +kernel) rfl ?_
        rw [← hPost]; exact ⟨rfl, _, rfl, rfl, _, rfl, (by
              first | exact Or.inl rfl | exact Or.inr hS5)⟩
  have hl11 : (0 : Int32).toInt = 0 := by decide
  exact (hL6 _ 0 low (by first | assumption | omega | decide) (by first | assumption | omega | decide) (by
        exact zr1_0) (Nat.lt_succ_self _)).more (zfa1 rfl (zfa1 rfl (zfa1 rfl (zfa1 rfl (zfa1 rfl (zfa1 rfl (zfa0)))))))
