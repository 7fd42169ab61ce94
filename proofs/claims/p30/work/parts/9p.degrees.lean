set_option maxHeartbeats 8000000 in
set_option maxRecDepth 100000 in
theorem c_X16_degreeOf {w : zM} {gt fr : Nat → Int32} (t : Nat) (hT_t : w t = some (.inl (13, zTo t gt))) (hA_t_7 : w (t + 7) = some (.inr (0, 175, .inl fr))) (ho : 0 ≤ (gt 10).toInt ∧ (gt 10).toInt ≤ 6) : zCon 1 zq_X16_degreeOf [.ref t] w (fun v9 w9' => w9' = w ∧ ∃ r9 : Int32, v9 = some (.int r9) ∧ ((0 ≤ r9.toInt ∧ r9.toInt ≤ 24) ∧ ∀ j i : Nat, j ≤ (gt 10).toNatClampNeg → i < 25 → r9.toInt < (i : Int) → fr (25 * j + i) = 0)) := by
  intro d sz hd
  obtain ⟨d, rfl⟩ : ∃ d9, d = d9 + 1 := ⟨d - 1, by omega⟩
  generalize hPost : (fun (r9' : Option (Option Value)) (w9' : zM) (z9 : Nat) => z9 = sz ∧ ∃ v9, r9' = some v9 ∧ (w9' = w ∧ ∃ r9 : Int32, v9 = some (.int r9) ∧ ((0 ≤ r9.toInt ∧ r9.toInt ≤ 24) ∧ ∀ j i : Nat, j ≤ (gt 10).toNatClampNeg → i < 25 → r9.toInt < (i : Int) → fr (25 * j + i) = 0))) = Post
  show zP (d + 1) zq_X16_degreeOf 0 [(0, .ref t)] [] w sz 0 0 Post
  have k1 := zrng (gt 10)
  have hz2 : ((gt 10).toNatClampNeg : Int) = (gt 10).toInt := znat (by first | omega | decide)
  refine zp_seg (pc' := 4) (lv' := [(2, .int 0), (1, .int 0), (0, .ref t)]) (st' := []) [(0, .iconst 0), (1, .istore_n 1), (2, .iconst 0), (3, .istore_n 2)] (by decide +kernel) rfl ?_
  have hL4 : ∀ (mm4 : Nat) (y1_4 : Int32) (y2_4 : Int32), (0 ≤ y1_4.toInt) → (y1_4.toInt ≤ 24) → (0 ≤ y2_4.toInt) → (y2_4.toInt ≤ (gt 10).toInt + 1) → (∀ j i : Nat, j < y2_4.toNatClampNeg → i < 25 → y1_4.toInt < (i : Int) → fr (25 * j + i) = 0) → (20 - y2_4.toInt).toNat < mm4 → zP (d + 1) zq_X16_degreeOf 4 [(0, .ref t), (1, .int y1_4), (2, .int y2_4)] [] w sz 0 0 Post := by
    intro mm4
    induction mm4 with
    | zero => intros; omega
    | succ mm4 ih4 =>
    intro y1_4 y2_4 hi4_0 hi4_1 hi4_2 hi4_3 hD hmu4
    have ky1_4 := zrng y1_4
    have ky2_4 := zrng y2_4
    have hz3 : (y2_4.toNatClampNeg : Int) = y2_4.toInt := znat (by first | omega | decide)
    refine zp_seg (pc' := 6) (lv' := [(0, .ref t), (1, .int y1_4), (2, .int y2_4)]) (st' := [.ref t, .int y2_4]) [(4, .iload_n 2), (5, .aload_n 0)] (by decide +kernel) rfl ?_
    refine zr_get (idx := 234) (k := 10) (v := .int (gt 10)) (by decide +kernel) (by decide +kernel) hT_t rfl ?_
    refine zp_if (i := .if_icmp .gt 47) (c := (gt 10) < y2_4) (t := 56) (e := 12) (lv' := [(0, .ref t), (1, .int y1_4), (2, .int y2_4)]) (st' := []) (by decide +kernel) rfl (fun cc9 => ?_) (fun cc9 => ?_)
    ·
      have f4 := zltI cc9
      refine zp_seg (pc' := 57) (lv' := [(0, .ref t), (1, .int y1_4), (2, .int y2_4)]) (st' := [.int y1_4]) [(56, .iload_n 1)] (by decide +kernel) rfl ?_
      refine zr_retI (by decide +kernel) rfl ?_
      rw [← hPost]; exact ⟨rfl, _, rfl, rfl, _, rfl, (by
            exact ⟨by omega, fun j i hj hi hl => hD j i (by omega) hi hl⟩)⟩
    ·
      have f5 := znltI cc9
      refine zp_seg (pc' := 14) (lv' := [(3, .int 0), (0, .ref t), (1, .int y1_4), (2, .int y2_4)]) (st' := []) [(12, .iconst 0), (13, .istore_n 3)] (by decide +kernel) rfl ?_
      have hL14 : ∀ (mm14 : Nat) (y1_14 : Int32) (y3_14 : Int32), (0 ≤ y3_14.toInt) → (y3_14.toInt ≤ 25) → (0 ≤ y1_14.toInt) → (y1_14.toInt ≤ 24) → ((∀ j i : Nat, j < y2_4.toNatClampNeg → i < 25 → y1_14.toInt < (i : Int) → fr (25 * j + i) = 0) ∧ ∀ i : Nat, i < y3_14.toNatClampNeg → y1_14.toInt < (i : Int) → fr (25 * y2_4.toNatClampNeg + i) = 0) → (40 - y3_14.toInt).toNat < mm14 → zP (d + 1) zq_X16_degreeOf 14 [(0, .ref t), (1, .int y1_14), (2, .int y2_4), (3, .int y3_14)] [] w sz 0 0 Post := by
        intro mm14
        induction mm14 with
        | zero => intros; omega
        | succ mm14 ih14 =>
        intro y1_14 y3_14 hi14_0 hi14_1 hi14_2 hi14_3 hE hmu14
        have ky1_14 := zrng y1_14
        have ky3_14 := zrng y3_14
        have hz6 : (y3_14.toNatClampNeg : Int) = y3_14.toInt := znat (by first | omega | decide)
        refine zp_seg (pc' := 17) (lv' := [(0, .ref t), (1, .int y1_14), (2, .int y2_4), (3, .int y3_14)]) (st' := [.int 25, .int y3_14]) [(14, .iload_n 3), (15, .bipush 25)] (by decide +kernel) rfl ?_
        refine zp_if (i := .if_icmp .ge 33) (c := 25 ≤ y3_14) (t := 50) (e := 20) (lv' := [(0, .ref t), (1, .int y1_14), (2, .int y2_4), (3, .int y3_14)]) (st' := []) (by decide +kernel) rfl (fun cc17 => ?_) (fun cc17 => ?_)
        ·
          have f8 := zleI cc17
          rw [show (25 : Int32).toInt = 25 from by decide] at f8
          refine zp_seg (pc' := 53) (lv' := [(2, .int (y2_4 + 1)), (0, .ref t), (1, .int y1_14), (3, .int y3_14)]) (st' := []) [(50, .iinc 2 1)] (by decide +kernel) rfl ?_
          have k9 := zaddC y2_4 1 (n := 1) (by decide) (by omega) (by omega)
          generalize ev53 : (y2_4 + 1 : Int32) = v53 at k9 ⊢
          have kv53 := zrng v53
          refine zp_seg (pc' := 4) (lv' := [(2, .int v53), (0, .ref t), (1, .int y1_14), (3, .int y3_14)]) (st' := []) [(53, .goto (-49))] (by decide +kernel) rfl ?_
          have hz10 : (v53.toNatClampNeg : Int) = v53.toInt := znat (by first | omega | decide)
          exact (ih4 y1_14 v53 (by first | assumption | omega | decide) (by first | assumption | omega | decide) (by first | assumption | omega | decide) (by first | assumption | omega | decide) (by
                intro j i hj hi hl
                by_cases e : j < y2_4.toNatClampNeg
                · exact hE.1 j i e hi hl
                · rw [show j = y2_4.toNatClampNeg by omega]; exact hE.2 i (by omega) hl) (by omega)).more (zfa1 rfl (zfa1 rfl (zfa1 rfl (zfa0))))
        ·
          have f12 := znleI cc17
          rw [show (25 : Int32).toInt = 25 from by decide] at f12
          refine zp_seg (pc' := 21) (lv' := [(0, .ref t), (1, .int y1_14), (2, .int y2_4), (3, .int y3_14)]) (st' := [.ref t]) [(20, .aload_n 0)] (by decide +kernel) rfl ?_
          refine zr_get (idx := 237) (k := 11) (v := .ref (t + 7)) (by decide +kernel) (by decide +kernel) hT_t rfl ?_
          refine zp_seg (pc' := 28) (lv' := [(0, .ref t), (1, .int y1_14), (2, .int y2_4), (3, .int y3_14)]) (st' := [.int (25 * y2_4), .ref (t + 7)]) [(24, .bipush 25), (26, .iload_n 2), (27, .imul)] (by decide +kernel) rfl ?_
          have k13 := zmulCl 25 y2_4 (n := 25) (by decide) (by omega) (by omega)
          generalize ev28 : (25 * y2_4 : Int32) = v28 at k13 ⊢
          have kv28 := zrng v28
          refine zp_seg (pc' := 30) (lv' := [(0, .ref t), (1, .int y1_14), (2, .int y2_4), (3, .int y3_14)]) (st' := [.int (v28 + y3_14), .ref (t + 7)]) [(28, .iload_n 3), (29, .iadd)] (by decide +kernel) rfl ?_
          have k14 := zadd v28 y3_14 (by omega) (by omega)
          generalize ev30 : (v28 + y3_14 : Int32) = v30 at k14 ⊢
          have kv30 := zrng v30
          have hz15 : (v30.toNatClampNeg : Int) = v30.toInt := znat (by first | omega | decide)
          have hix9 : v30.toNatClampNeg = 25 * y2_4.toNatClampNeg + y3_14.toNatClampNeg := by omega
          refine zr_iald (by decide +kernel) hA_t_7 (zin (by first | omega | decide) (by first | omega | decide)) ?_
          obtain ⟨x30, ex30⟩ : ∃ x9, x9 = fr (v30.toNatClampNeg) := ⟨_, rfl⟩
          rw [← ex30]
          have kx30 := zrng x30
          refine zp_if (i := .ifCond .eq 11) (c := x30 = 0) (t := 42) (e := 34) (lv' := [(0, .ref t), (1, .int y1_14), (2, .int y2_4), (3, .int y3_14)]) (st' := []) (by decide +kernel) rfl (fun cc31 => ?_) (fun cc31 => ?_)
          ·
            have f17 := zeqI cc31
            rw [show (0 : Int32).toInt = 0 from by decide] at f17
            refine zp_seg (pc' := 47) (lv' := [(3, .int (y3_14 + 1)), (1, .int y1_14), (0, .ref t), (2, .int y2_4)]) (st' := []) [(42, .iload_n 1), (43, .istore_n 1), (44, .iinc 3 1)] (by decide +kernel) rfl ?_
            have k18 := zaddC y3_14 1 (n := 1) (by decide) (by omega) (by omega)
            generalize ev47 : (y3_14 + 1 : Int32) = v47 at k18 ⊢
            have kv47 := zrng v47
            refine zp_seg (pc' := 14) (lv' := [(3, .int v47), (1, .int y1_14), (0, .ref t), (2, .int y2_4)]) (st' := []) [(47, .goto (-33))] (by decide +kernel) rfl ?_
            have hz19 : (v47.toNatClampNeg : Int) = v47.toInt := znat (by first | omega | decide)
            exact (ih14 y1_14 v47 (by first | assumption | omega | decide) (by first | assumption | omega | decide) (by first | assumption | omega | decide) (by first | assumption | omega | decide) (by
                  refine ⟨fun j i hj hi hl => hE.1 j i hj hi (by omega), fun i hi hl => ?_⟩
                  by_cases e : i = y3_14.toNatClampNeg
                  · first
                    | (rw [e, ← hix9, ← ex30]; exact cc31)
                    | (exfalso; omega)
                  · exact hE.2 i (by omega) (by omega)) (by omega)).more (zfa1 rfl (zfa1 rfl (zfa1 rfl (zfa1 rfl (zfa0)))))
          ·
            have f21 := zneI cc31
            rw [show (0 : Int32).toInt = 0 from by decide] at f21
            refine zp_seg (pc' := 36) (lv' := [(0, .ref t), (1, .int y1_14), (2, .int y2_4), (3, .int y3_14)]) (st' := [.int y3_14, .int y1_14]) [(34, .iload_n 1), (35, .iload_n 3)] (by decide +kernel) rfl ?_
            refine zr_max (idx := 40) (by decide +kernel) (by decide +kernel) (by omega) (Nat.le_of_ble_eq_true rfl) ?_
            obtain ⟨m22, em22, hm22⟩ := zmaxI y1_14 y3_14
            rw [← em22]
            have km22 := zrng m22
            refine zp_seg (pc' := 47) (lv' := [(3, .int (y3_14 + 1)), (1, .int m22), (0, .ref t), (2, .int y2_4)]) (st' := []) [(39, .goto 4), (43, .istore_n 1), (44, .iinc 3 1)] (by decide +kernel) rfl ?_
            have k23 := zaddC y3_14 1 (n := 1) (by decide) (by omega) (by omega)
            generalize ev47 : (y3_14 + 1 : Int32) = v47 at k23 ⊢
            have kv47 := zrng v47
            refine zp_seg (pc' := 14) (lv' := [(3, .int v47), (1, .int m22), (0, .ref t), (2, .int y2_4)]) (st' := []) [(47, .goto (-33))] (by decide +kernel) rfl ?_
            have hz24 : (v47.toNatClampNeg : Int) = v47.toInt := znat (by first | omega | decide)
            exact (ih14 m22 v47 (by first | assumption | omega | decide) (by first | assumption | omega | decide) (by first | assumption | omega | decide) (by first | assumption | omega | decide) (by
                  refine ⟨fun j i hj hi hl => hE.1 j i hj hi (by omega), fun i hi hl => ?_⟩
                  by_cases e : i = y3_14.toNatClampNeg
                  · first
                    | (rw [e, ← hix9, ← ex30]; exact cc31)
                    | (exfalso; omega)
                  · exact hE.2 i (by omega) (by omega)) (by omega)).more (zfa1 rfl (zfa1 rfl (zfa1 rfl (zfa1 rfl (zfa0)))))
      have hl25 : (0 : Int32).toInt = 0 := by decide
      have hz26 : ((0 : Int32).toNatClampNeg : Int) = 0 := by decide
      exact (hL14 _ y1_4 0 (by first | assumption | omega | decide) (by first | assumption | omega | decide) (by first | assumption | omega | decide) (by first | assumption | omega | decide) (by
            exact ⟨hD, fun i hi => absurd hi (by omega)⟩) (Nat.lt_succ_self _)).more (zfa1 rfl (zfa1 rfl (zfa1 rfl (zfa1 rfl (zfa0)))))
  have hl27 : (0 : Int32).toInt = 0 := by decide
  have hz28 : ((0 : Int32).toNatClampNeg : Int) = 0 := by decide
  exact (hL4 _ 0 0 (by first | assumption | omega | decide) (by first | assumption | omega | decide) (by first | assumption | omega | decide) (by first | assumption | omega | decide) (by
        exact fun j i hj => absurd hj (by omega)) (Nat.lt_succ_self _)).more (zfa1 rfl (zfa1 rfl (zfa1 rfl (zfa0))))
