set_option maxHeartbeats 8000000 in
set_option maxRecDepth 100000 in
theorem c_X16_joined {w : zM} {ga fax fbx fcx fex gb fay fby fcy fey : Nat → Int32} (a : Nat) (b : Nat) (e : Int32) (hT_a : w a = some (.inl (13, zTo a ga))) (hA_a_3 : w (a + 3) = some (.inr (0, 13, .inl fax))) (hA_a_4 : w (a + 4) = some (.inr (0, 13, .inl fbx))) (hA_a_5 : w (a + 5) = some (.inr (0, 13, .inl fcx))) (hA_a_6 : w (a + 6) = some (.inr (0, 13, .inl fex))) (hT_b : w b = some (.inl (13, zTo b gb))) (hA_b_3 : w (b + 3) = some (.inr (0, 13, .inl fay))) (hA_b_4 : w (b + 4) = some (.inr (0, 13, .inl fby))) (hA_b_5 : w (b + 5) = some (.inr (0, 13, .inl fcy))) (hA_b_6 : w (b + 6) = some (.inr (0, 13, .inl fey))) (hma : 0 ≤ (ga 5).toInt ∧ (ga 5).toInt ≤ 13) (hmb : 0 ≤ (gb 5).toInt ∧ (gb 5).toInt ≤ 13) : zCon 1 zq_X16_joined [.ref a, .ref b, .int e] w (fun v9 w9' => w9' = w ∧ ∃ r9 : Int32, v9 = some (.int r9) ∧ True) := by
  intro d sz hd
  obtain ⟨d, rfl⟩ : ∃ d9, d = d9 + 1 := ⟨d - 1, by omega⟩
  generalize hPost : (fun (r9' : Option (Option Value)) (w9' : zM) (z9 : Nat) => z9 = sz ∧ ∃ v9, r9' = some v9 ∧ (w9' = w ∧ ∃ r9 : Int32, v9 = some (.int r9) ∧ True)) = Post
  show zP (d + 1) zq_X16_joined 0 [(0, .ref a), (1, .ref b), (2, .int e)] [] w sz 0 0 Post
  have k1 := zrng e
  refine zp_seg (pc' := 5) (lv' := [(4, .int 0), (3, .int 0), (0, .ref a), (1, .ref b), (2, .int e)]) (st' := []) [(0, .iconst 0), (1, .istore_n 3), (2, .iconst 0), (3, .istore 4)] (by decide +kernel) rfl ?_
  have hL5 : ∀ (mm5 : Nat) (y3_5 : Int32) (y4_5 : Int32), (0 ≤ y4_5.toInt) → (y4_5.toInt ≤ (ga 5).toInt) → (2147483647 - y4_5.toInt).toNat < mm5 → zP (d + 1) zq_X16_joined 5 [(0, .ref a), (1, .ref b), (2, .int e), (3, .int y3_5), (4, .int y4_5)] [] w sz 0 0 Post := by
    intro mm5
    induction mm5 with
    | zero => intros; omega
    | succ mm5 ih5 =>
    intro y3_5 y4_5 hi5_0 hi5_1 hmu5
    have ky3_5 := zrng y3_5
    have ky4_5 := zrng y4_5
    have hz2 : (y4_5.toNatClampNeg : Int) = y4_5.toInt := znat (by first | omega | decide)
    refine zp_seg (pc' := 8) (lv' := [(0, .ref a), (1, .ref b), (2, .int e), (3, .int y3_5), (4, .int y4_5)]) (st' := [.ref a, .int y4_5]) [(5, .iload 4), (7, .aload_n 0)] (by decide +kernel) rfl ?_
    refine zr_get (idx := 219) (k := 5) (v := .int (ga 5)) (by decide +kernel) (by decide +kernel) hT_a rfl ?_
    refine zp_if (i := .if_icmp .ge 113) (c := (ga 5) ≤ y4_5) (t := 124) (e := 14) (lv' := [(0, .ref a), (1, .ref b), (2, .int e), (3, .int y3_5), (4, .int y4_5)]) (st' := []) (by decide +kernel) rfl (fun cc11 => ?_) (fun cc11 => ?_)
    ·
      have k3 := zrng (ga 5)
      have f4 := zleI cc11
      refine zp_seg (pc' := 127) (lv' := [(4, .int 0), (0, .ref a), (1, .ref b), (2, .int e), (3, .int y3_5)]) (st' := []) [(124, .iconst 0), (125, .istore 4)] (by decide +kernel) rfl ?_
      have hL127 : ∀ (mm127 : Nat) (y3_127 : Int32) (y4_127 : Int32), (0 ≤ y4_127.toInt) → (y4_127.toInt ≤ (gb 5).toInt) → (2147483647 - y4_127.toInt).toNat < mm127 → zP (d + 1) zq_X16_joined 127 [(0, .ref a), (1, .ref b), (2, .int e), (3, .int y3_127), (4, .int y4_127)] [] w sz 0 0 Post := by
        intro mm127
        induction mm127 with
        | zero => intros; omega
        | succ mm127 ih127 =>
        intro y3_127 y4_127 hi127_0 hi127_1 hmu127
        have ky3_127 := zrng y3_127
        have ky4_127 := zrng y4_127
        have hz5 : (y4_127.toNatClampNeg : Int) = y4_127.toInt := znat (by first | omega | decide)
        refine zp_seg (pc' := 130) (lv' := [(0, .ref a), (1, .ref b), (2, .int e), (3, .int y3_127), (4, .int y4_127)]) (st' := [.ref b, .int y4_127]) [(127, .iload 4), (129, .aload_n 1)] (by decide +kernel) rfl ?_
        refine zr_get (idx := 219) (k := 5) (v := .int (gb 5)) (by decide +kernel) (by decide +kernel) hT_b rfl ?_
        refine zp_if (i := .if_icmp .ge 115) (c := (gb 5) ≤ y4_127) (t := 248) (e := 136) (lv' := [(0, .ref a), (1, .ref b), (2, .int e), (3, .int y3_127), (4, .int y4_127)]) (st' := []) (by decide +kernel) rfl (fun cc133 => ?_) (fun cc133 => ?_)
        ·
          have k6 := zrng (gb 5)
          have f7 := zleI cc133
          refine zp_seg (pc' := 249) (lv' := [(0, .ref a), (1, .ref b), (2, .int e), (3, .int y3_127), (4, .int y4_127)]) (st' := [.int y3_127]) [(248, .iload_n 3)] (by decide +kernel) rfl ?_
          refine zr_retI (by decide +kernel) rfl ?_
          rw [← hPost]; exact ⟨rfl, _, rfl, rfl, _, rfl, trivial⟩
        ·
          have k8 := zrng (gb 5)
          have f9 := znleI cc133
          refine zp_seg (pc' := 142) (lv' := [(6, .int 0), (5, .int 0), (0, .ref a), (1, .ref b), (2, .int e), (3, .int y3_127), (4, .int y4_127)]) (st' := []) [(136, .iconst 0), (137, .istore 5), (139, .iconst 0), (140, .istore 6)] (by decide +kernel) rfl ?_
          have hL142 : ∀ (mm142 : Nat) (y5_142 : Int32) (y6_142 : Int32), (0 ≤ y6_142.toInt) → (y6_142.toInt ≤ (ga 5).toInt) → (2147483647 - y6_142.toInt).toNat < mm142 → zP (d + 1) zq_X16_joined 142 [(0, .ref a), (1, .ref b), (2, .int e), (3, .int y3_127), (4, .int y4_127), (5, .int y5_142), (6, .int y6_142)] [] w sz 0 0 Post := by
            intro mm142
            induction mm142 with
            | zero => intros; omega
            | succ mm142 ih142 =>
            intro y5_142 y6_142 hi142_0 hi142_1 hmu142
            have ky5_142 := zrng y5_142
            have ky6_142 := zrng y6_142
            have hz10 : (y6_142.toNatClampNeg : Int) = y6_142.toInt := znat (by first | omega | decide)
            refine zp_seg (pc' := 145) (lv' := [(0, .ref a), (1, .ref b), (2, .int e), (3, .int y3_127), (4, .int y4_127), (5, .int y5_142), (6, .int y6_142)]) (st' := [.ref a, .int y6_142]) [(142, .iload 6), (144, .aload_n 0)] (by decide +kernel) rfl ?_
            refine zr_get (idx := 219) (k := 5) (v := .int (ga 5)) (by decide +kernel) (by decide +kernel) hT_a rfl ?_
            refine zp_if (i := .if_icmp .ge 70) (c := (ga 5) ≤ y6_142) (t := 218) (e := 151) (lv' := [(0, .ref a), (1, .ref b), (2, .int e), (3, .int y3_127), (4, .int y4_127), (5, .int y5_142), (6, .int y6_142)]) (st' := []) (by decide +kernel) rfl (fun cc148 => ?_) (fun cc148 => ?_)
            ·
              have f11 := zleI cc148
              refine zp_seg (pc' := 221) (lv' := [(0, .ref a), (1, .ref b), (2, .int e), (3, .int y3_127), (4, .int y4_127), (5, .int y5_142), (6, .int y6_142)]) (st' := [.int y5_142, .int y3_127]) [(218, .iload_n 3), (219, .iload 5)] (by decide +kernel) rfl ?_
              refine zp_if (i := .ifCond .eq 7) (c := y5_142 = 0) (t := 228) (e := 224) (lv' := [(0, .ref a), (1, .ref b), (2, .int e), (3, .int y3_127), (4, .int y4_127), (5, .int y5_142), (6, .int y6_142)]) (st' := [.int y3_127]) (by decide +kernel) rfl (fun cc221 => ?_) (fun cc221 => ?_)
              ·
                have f13 := zeqI cc221
                rw [show (0 : Int32).toInt = 0 from by decide] at f13
                refine zp_seg (pc' := 230) (lv' := [(0, .ref a), (1, .ref b), (2, .int e), (3, .int y3_127), (4, .int y4_127), (5, .int y5_142), (6, .int y6_142)]) (st' := [.ref b, .int e, .int y3_127]) [(228, .iload_n 2), (229, .aload_n 1)] (by decide +kernel) rfl ?_
                refine zr_get (idx := 231) (k := 9) (v := .ref (b + 6)) (by decide +kernel) (by decide +kernel) hT_b rfl ?_
                refine zp_seg (pc' := 235) (lv' := [(0, .ref a), (1, .ref b), (2, .int e), (3, .int y3_127), (4, .int y4_127), (5, .int y5_142), (6, .int y6_142)]) (st' := [.int y4_127, .ref (b + 6), .int e, .int y3_127]) [(233, .iload 4)] (by decide +kernel) rfl ?_
                refine zr_iald (by decide +kernel) hA_b_6 (zin (by first | omega | decide) (by first | omega | decide)) ?_
                obtain ⟨x235, ex235⟩ : ∃ x9, x9 = fey (y4_127.toNatClampNeg) := ⟨_, rfl⟩
                rw [← ex235]
                have kx235 := zrng x235
                refine zp_seg (pc' := 237) (lv' := [(0, .ref a), (1, .ref b), (2, .int e), (3, .int y3_127), (4, .int y4_127), (5, .int y5_142), (6, .int y6_142)]) (st' := [.int (e * x235), .int y3_127]) [(236, .imul)] (by decide +kernel) rfl ?_
                have k14 := zmulM e x235
                generalize ev237 : (e * x235 : Int32) = v237 at k14 ⊢
                have kv237 := zrng v237
                refine zr_abs (idx := 273) (by decide +kernel) (by decide +kernel) (by omega) (Nat.le_of_ble_eq_true rfl) ?_
                obtain ⟨m15, em15, hm15⟩ := zabsI v237
                rw [← em15]
                have km15 := zrng m15
                refine zp_seg (pc' := 241) (lv' := [(0, .ref a), (1, .ref b), (2, .int e), (3, .int y3_127), (4, .int y4_127), (5, .int y5_142), (6, .int y6_142)]) (st' := [.int (y3_127 + m15)]) [(240, .iadd)] (by decide +kernel) rfl ?_
                have k16 := zaddM y3_127 m15
                generalize ev241 : (y3_127 + m15 : Int32) = v241 at k16 ⊢
                have kv241 := zrng v241
                refine zp_seg (pc' := 245) (lv' := [(4, .int (y4_127 + 1)), (3, .int v241), (0, .ref a), (1, .ref b), (2, .int e), (5, .int y5_142), (6, .int y6_142)]) (st' := []) [(241, .istore_n 3), (242, .iinc 4 1)] (by decide +kernel) rfl ?_
                have k17 := zaddC y4_127 1 (n := 1) (by decide) (by omega) (by omega)
                generalize ev245 : (y4_127 + 1 : Int32) = v245 at k17 ⊢
                have kv245 := zrng v245
                refine zp_seg (pc' := 127) (lv' := [(4, .int v245), (3, .int v241), (0, .ref a), (1, .ref b), (2, .int e), (5, .int y5_142), (6, .int y6_142)]) (st' := []) [(245, .goto (-118))] (by decide +kernel) rfl ?_
                have hz18 : (v245.toNatClampNeg : Int) = v245.toInt := znat (by first | omega | decide)
                exact (ih127 v241 v245 (by first | assumption | omega | decide) (by first | assumption | omega | decide) (by omega)).more (zfa1 rfl (zfa1 rfl (zfa1 rfl (zfa1 rfl (zfa1 rfl (zfa0))))))
              ·
                have f20 := zneI cc221
                rw [show (0 : Int32).toInt = 0 from by decide] at f20
                refine zp_seg (pc' := 241) (lv' := [(0, .ref a), (1, .ref b), (2, .int e), (3, .int y3_127), (4, .int y4_127), (5, .int y5_142), (6, .int y6_142)]) (st' := [.int (y3_127 + 0)]) [(224, .iconst 0), (225, .goto 15), (240, .iadd)] (by decide +kernel) rfl ?_
                have k21 := zaddM y3_127 0
                generalize ev241 : (y3_127 + 0 : Int32) = v241 at k21 ⊢
                have kv241 := zrng v241
                refine zp_seg (pc' := 245) (lv' := [(4, .int (y4_127 + 1)), (3, .int v241), (0, .ref a), (1, .ref b), (2, .int e), (5, .int y5_142), (6, .int y6_142)]) (st' := []) [(241, .istore_n 3), (242, .iinc 4 1)] (by decide +kernel) rfl ?_
                have k22 := zaddC y4_127 1 (n := 1) (by decide) (by omega) (by omega)
                generalize ev245 : (y4_127 + 1 : Int32) = v245 at k22 ⊢
                have kv245 := zrng v245
                refine zp_seg (pc' := 127) (lv' := [(4, .int v245), (3, .int v241), (0, .ref a), (1, .ref b), (2, .int e), (5, .int y5_142), (6, .int y6_142)]) (st' := []) [(245, .goto (-118))] (by decide +kernel) rfl ?_
                have hz23 : (v245.toNatClampNeg : Int) = v245.toInt := znat (by first | omega | decide)
                exact (ih127 v241 v245 (by first | assumption | omega | decide) (by first | assumption | omega | decide) (by omega)).more (zfa1 rfl (zfa1 rfl (zfa1 rfl (zfa1 rfl (zfa1 rfl (zfa0))))))
            ·
              have f24 := znleI cc148
              refine zp_seg (pc' := 154) (lv' := [(0, .ref a), (1, .ref b), (2, .int e), (3, .int y3_127), (4, .int y4_127), (5, .int y5_142), (6, .int y6_142)]) (st' := [.ref a, .int y5_142]) [(151, .iload 5), (153, .aload_n 0)] (by decide +kernel) rfl ?_
              refine zr_get (idx := 222) (k := 6) (v := .ref (a + 3)) (by decide +kernel) (by decide +kernel) hT_a rfl ?_
              refine zp_seg (pc' := 159) (lv' := [(0, .ref a), (1, .ref b), (2, .int e), (3, .int y3_127), (4, .int y4_127), (5, .int y5_142), (6, .int y6_142)]) (st' := [.int y6_142, .ref (a + 3), .int y5_142]) [(157, .iload 6)] (by decide +kernel) rfl ?_
              refine zr_iald (by decide +kernel) hA_a_3 (zin (by first | omega | decide) (by first | omega | decide)) ?_
              obtain ⟨x159, ex159⟩ : ∃ x9, x9 = fax (y6_142.toNatClampNeg) := ⟨_, rfl⟩
              rw [← ex159]
              have kx159 := zrng x159
              refine zp_seg (pc' := 161) (lv' := [(0, .ref a), (1, .ref b), (2, .int e), (3, .int y3_127), (4, .int y4_127), (5, .int y5_142), (6, .int y6_142)]) (st' := [.ref b, .int x159, .int y5_142]) [(160, .aload_n 1)] (by decide +kernel) rfl ?_
              refine zr_get (idx := 222) (k := 6) (v := .ref (b + 3)) (by decide +kernel) (by decide +kernel) hT_b rfl ?_
              refine zp_seg (pc' := 166) (lv' := [(0, .ref a), (1, .ref b), (2, .int e), (3, .int y3_127), (4, .int y4_127), (5, .int y5_142), (6, .int y6_142)]) (st' := [.int y4_127, .ref (b + 3), .int x159, .int y5_142]) [(164, .iload 4)] (by decide +kernel) rfl ?_
              refine zr_iald (by decide +kernel) hA_b_3 (zin (by first | omega | decide) (by first | omega | decide)) ?_
              obtain ⟨x166, ex166⟩ : ∃ x9, x9 = fay (y4_127.toNatClampNeg) := ⟨_, rfl⟩
              rw [← ex166]
              have kx166 := zrng x166
              refine zp_if (i := .if_icmp .ne 41) (c := ¬ x159 = x166) (t := 208) (e := 170) (lv' := [(0, .ref a), (1, .ref b), (2, .int e), (3, .int y3_127), (4, .int y4_127), (5, .int y5_142), (6, .int y6_142)]) (st' := [.int y5_142]) (by decide +kernel) rfl (fun cc167 => ?_) (fun cc167 => ?_)
              ·
                have f25 := zneI cc167
                refine zp_seg (pc' := 215) (lv' := [(6, .int (y6_142 + 1)), (5, .int (y5_142 ||| 0)), (0, .ref a), (1, .ref b), (2, .int e), (3, .int y3_127), (4, .int y4_127)]) (st' := []) [(208, .iconst 0), (209, .ior), (210, .istore 5), (212, .iinc 6 1)] (by decide +kernel) rfl ?_
                have k26 := zaddC y6_142 1 (n := 1) (by decide) (by omega) (by omega)
                generalize ev215 : (y6_142 + 1 : Int32) = v215 at k26 ⊢
                have kv215 := zrng v215
                generalize ev215_27 : (y5_142 ||| 0 : Int32) = v215_27
                have kv215_27 := zrng v215_27
                refine zp_seg (pc' := 142) (lv' := [(6, .int v215), (5, .int v215_27), (0, .ref a), (1, .ref b), (2, .int e), (3, .int y3_127), (4, .int y4_127)]) (st' := []) [(215, .goto (-73))] (by decide +kernel) rfl ?_
                have hz28 : (v215.toNatClampNeg : Int) = v215.toInt := znat (by first | omega | decide)
                exact (ih142 v215_27 v215 (by first | assumption | omega | decide) (by first | assumption | omega | decide) (by omega)).more (zfa1 rfl (zfa1 rfl (zfa1 rfl (zfa1 rfl (zfa1 rfl (zfa1 rfl (zfa1 rfl (zfa0))))))))
              ·
                replace cc167 := Classical.not_not.mp cc167
                have f29 := zeqI cc167
                refine zp_seg (pc' := 171) (lv' := [(0, .ref a), (1, .ref b), (2, .int e), (3, .int y3_127), (4, .int y4_127), (5, .int y5_142), (6, .int y6_142)]) (st' := [.ref a, .int y5_142]) [(170, .aload_n 0)] (by decide +kernel) rfl ?_
                refine zr_get (idx := 225) (k := 7) (v := .ref (a + 4)) (by decide +kernel) (by decide +kernel) hT_a rfl ?_
                refine zp_seg (pc' := 176) (lv' := [(0, .ref a), (1, .ref b), (2, .int e), (3, .int y3_127), (4, .int y4_127), (5, .int y5_142), (6, .int y6_142)]) (st' := [.int y6_142, .ref (a + 4), .int y5_142]) [(174, .iload 6)] (by decide +kernel) rfl ?_
                refine zr_iald (by decide +kernel) hA_a_4 (zin (by first | omega | decide) (by first | omega | decide)) ?_
                obtain ⟨x176, ex176⟩ : ∃ x9, x9 = fbx (y6_142.toNatClampNeg) := ⟨_, rfl⟩
                rw [← ex176]
                have kx176 := zrng x176
                refine zp_seg (pc' := 178) (lv' := [(0, .ref a), (1, .ref b), (2, .int e), (3, .int y3_127), (4, .int y4_127), (5, .int y5_142), (6, .int y6_142)]) (st' := [.ref b, .int x176, .int y5_142]) [(177, .aload_n 1)] (by decide +kernel) rfl ?_
                refine zr_get (idx := 225) (k := 7) (v := .ref (b + 4)) (by decide +kernel) (by decide +kernel) hT_b rfl ?_
                refine zp_seg (pc' := 183) (lv' := [(0, .ref a), (1, .ref b), (2, .int e), (3, .int y3_127), (4, .int y4_127), (5, .int y5_142), (6, .int y6_142)]) (st' := [.int y4_127, .ref (b + 4), .int x176, .int y5_142]) [(181, .iload 4)] (by decide +kernel) rfl ?_
                refine zr_iald (by decide +kernel) hA_b_4 (zin (by first | omega | decide) (by first | omega | decide)) ?_
                obtain ⟨x183, ex183⟩ : ∃ x9, x9 = fby (y4_127.toNatClampNeg) := ⟨_, rfl⟩
                rw [← ex183]
                have kx183 := zrng x183
                refine zp_if (i := .if_icmp .ne 24) (c := ¬ x176 = x183) (t := 208) (e := 187) (lv' := [(0, .ref a), (1, .ref b), (2, .int e), (3, .int y3_127), (4, .int y4_127), (5, .int y5_142), (6, .int y6_142)]) (st' := [.int y5_142]) (by decide +kernel) rfl (fun cc184 => ?_) (fun cc184 => ?_)
                ·
                  have f30 := zneI cc184
                  refine zp_seg (pc' := 215) (lv' := [(6, .int (y6_142 + 1)), (5, .int (y5_142 ||| 0)), (0, .ref a), (1, .ref b), (2, .int e), (3, .int y3_127), (4, .int y4_127)]) (st' := []) [(208, .iconst 0), (209, .ior), (210, .istore 5), (212, .iinc 6 1)] (by decide +kernel) rfl ?_
                  have k31 := zaddC y6_142 1 (n := 1) (by decide) (by omega) (by omega)
                  generalize ev215 : (y6_142 + 1 : Int32) = v215 at k31 ⊢
                  have kv215 := zrng v215
                  generalize ev215_32 : (y5_142 ||| 0 : Int32) = v215_32
                  have kv215_32 := zrng v215_32
                  refine zp_seg (pc' := 142) (lv' := [(6, .int v215), (5, .int v215_32), (0, .ref a), (1, .ref b), (2, .int e), (3, .int y3_127), (4, .int y4_127)]) (st' := []) [(215, .goto (-73))] (by decide +kernel) rfl ?_
                  have hz33 : (v215.toNatClampNeg : Int) = v215.toInt := znat (by first | omega | decide)
                  exact (ih142 v215_32 v215 (by first | assumption | omega | decide) (by first | assumption | omega | decide) (by omega)).more (zfa1 rfl (zfa1 rfl (zfa1 rfl (zfa1 rfl (zfa1 rfl (zfa1 rfl (zfa1 rfl (zfa0))))))))
                ·
                  replace cc184 := Classical.not_not.mp cc184
                  have f34 := zeqI cc184
                  refine zp_seg (pc' := 188) (lv' := [(0, .ref a), (1, .ref b), (2, .int e), (3, .int y3_127), (4, .int y4_127), (5, .int y5_142), (6, .int y6_142)]) (st' := [.ref a, .int y5_142]) [(187, .aload_n 0)] (by decide +kernel) rfl ?_
                  refine zr_get (idx := 228) (k := 8) (v := .ref (a + 5)) (by decide +kernel) (by decide +kernel) hT_a rfl ?_
                  refine zp_seg (pc' := 193) (lv' := [(0, .ref a), (1, .ref b), (2, .int e), (3, .int y3_127), (4, .int y4_127), (5, .int y5_142), (6, .int y6_142)]) (st' := [.int y6_142, .ref (a + 5), .int y5_142]) [(191, .iload 6)] (by decide +kernel) rfl ?_
                  refine zr_iald (by decide +kernel) hA_a_5 (zin (by first | omega | decide) (by first | omega | decide)) ?_
                  obtain ⟨x193, ex193⟩ : ∃ x9, x9 = fcx (y6_142.toNatClampNeg) := ⟨_, rfl⟩
                  rw [← ex193]
                  have kx193 := zrng x193
                  refine zp_seg (pc' := 195) (lv' := [(0, .ref a), (1, .ref b), (2, .int e), (3, .int y3_127), (4, .int y4_127), (5, .int y5_142), (6, .int y6_142)]) (st' := [.ref b, .int x193, .int y5_142]) [(194, .aload_n 1)] (by decide +kernel) rfl ?_
                  refine zr_get (idx := 228) (k := 8) (v := .ref (b + 5)) (by decide +kernel) (by decide +kernel) hT_b rfl ?_
                  refine zp_seg (pc' := 200) (lv' := [(0, .ref a), (1, .ref b), (2, .int e), (3, .int y3_127), (4, .int y4_127), (5, .int y5_142), (6, .int y6_142)]) (st' := [.int y4_127, .ref (b + 5), .int x193, .int y5_142]) [(198, .iload 4)] (by decide +kernel) rfl ?_
                  refine zr_iald (by decide +kernel) hA_b_5 (zin (by first | omega | decide) (by first | omega | decide)) ?_
                  obtain ⟨x200, ex200⟩ : ∃ x9, x9 = fcy (y4_127.toNatClampNeg) := ⟨_, rfl⟩
                  rw [← ex200]
                  have kx200 := zrng x200
                  refine zp_if (i := .if_icmp .ne 7) (c := ¬ x193 = x200) (t := 208) (e := 204) (lv' := [(0, .ref a), (1, .ref b), (2, .int e), (3, .int y3_127), (4, .int y4_127), (5, .int y5_142), (6, .int y6_142)]) (st' := [.int y5_142]) (by decide +kernel) rfl (fun cc201 => ?_) (fun cc201 => ?_)
                  ·
                    have f35 := zneI cc201
                    refine zp_seg (pc' := 215) (lv' := [(6, .int (y6_142 + 1)), (5, .int (y5_142 ||| 0)), (0, .ref a), (1, .ref b), (2, .int e), (3, .int y3_127), (4, .int y4_127)]) (st' := []) [(208, .iconst 0), (209, .ior), (210, .istore 5), (212, .iinc 6 1)] (by decide +kernel) rfl ?_
                    have k36 := zaddC y6_142 1 (n := 1) (by decide) (by omega) (by omega)
                    generalize ev215 : (y6_142 + 1 : Int32) = v215 at k36 ⊢
                    have kv215 := zrng v215
                    generalize ev215_37 : (y5_142 ||| 0 : Int32) = v215_37
                    have kv215_37 := zrng v215_37
                    refine zp_seg (pc' := 142) (lv' := [(6, .int v215), (5, .int v215_37), (0, .ref a), (1, .ref b), (2, .int e), (3, .int y3_127), (4, .int y4_127)]) (st' := []) [(215, .goto (-73))] (by decide +kernel) rfl ?_
                    have hz38 : (v215.toNatClampNeg : Int) = v215.toInt := znat (by first | omega | decide)
                    exact (ih142 v215_37 v215 (by first | assumption | omega | decide) (by first | assumption | omega | decide) (by omega)).more (zfa1 rfl (zfa1 rfl (zfa1 rfl (zfa1 rfl (zfa1 rfl (zfa1 rfl (zfa1 rfl (zfa0))))))))
                  ·
                    replace cc201 := Classical.not_not.mp cc201
                    have f39 := zeqI cc201
                    refine zp_seg (pc' := 215) (lv' := [(6, .int (y6_142 + 1)), (5, .int (y5_142 ||| 1)), (0, .ref a), (1, .ref b), (2, .int e), (3, .int y3_127), (4, .int y4_127)]) (st' := []) [(204, .iconst 1), (205, .goto 4), (209, .ior), (210, .istore 5), (212, .iinc 6 1)] (by decide +kernel) rfl ?_
                    have k40 := zaddC y6_142 1 (n := 1) (by decide) (by omega) (by omega)
                    generalize ev215 : (y6_142 + 1 : Int32) = v215 at k40 ⊢
                    have kv215 := zrng v215
                    generalize ev215_41 : (y5_142 ||| 1 : Int32) = v215_41
                    have kv215_41 := zrng v215_41
                    refine zp_seg (pc' := 142) (lv' := [(6, .int v215), (5, .int v215_41), (0, .ref a), (1, .ref b), (2, .int e), (3, .int y3_127), (4, .int y4_127)]) (st' := []) [(215, .goto (-73))] (by decide +kernel) rfl ?_
                    have hz42 : (v215.toNatClampNeg : Int) = v215.toInt := znat (by first | omega | decide)
                    exact (ih142 v215_41 v215 (by first | assumption | omega | decide) (by first | assumption | omega | decide) (by omega)).more (zfa1 rfl (zfa1 rfl (zfa1 rfl (zfa1 rfl (zfa1 rfl (zfa1 rfl (zfa1 rfl (zfa0))))))))
          have hl43 : (0 : Int32).toInt = 0 := by decide
          have hz44 : ((0 : Int32).toNatClampNeg : Int) = 0 := by decide
          exact (hL142 _ 0 0 (by first | assumption | omega | decide) (by first | assumption | omega | decide) (Nat.lt_succ_self _)).more (zfa1 rfl (zfa1 rfl (zfa1 rfl (zfa1 rfl (zfa1 rfl (zfa1 rfl (zfa1 rfl (zfa0))))))))
      have hl45 : (0 : Int32).toInt = 0 := by decide
      have hz46 : ((0 : Int32).toNatClampNeg : Int) = 0 := by decide
      exact (hL127 _ y3_5 0 (by first | assumption | omega | decide) (by first | assumption | omega | decide) (Nat.lt_succ_self _)).more (zfa1 rfl (zfa1 rfl (zfa1 rfl (zfa1 rfl (zfa1 rfl (zfa0))))))
    ·
      have k47 := zrng (ga 5)
      have f48 := znleI cc11
      refine zp_seg (pc' := 15) (lv' := [(0, .ref a), (1, .ref b), (2, .int e), (3, .int y3_5), (4, .int y4_5)]) (st' := [.ref a]) [(14, .aload_n 0)] (by decide +kernel) rfl ?_
      refine zr_get (idx := 231) (k := 9) (v := .ref (a + 6)) (by decide +kernel) (by decide +kernel) hT_a rfl ?_
      refine zp_seg (pc' := 20) (lv' := [(0, .ref a), (1, .ref b), (2, .int e), (3, .int y3_5), (4, .int y4_5)]) (st' := [.int y4_5, .ref (a + 6)]) [(18, .iload 4)] (by decide +kernel) rfl ?_
      refine zr_iald (by decide +kernel) hA_a_6 (zin (by first | omega | decide) (by first | omega | decide)) ?_
      obtain ⟨x20, ex20⟩ : ∃ x9, x9 = fex (y4_5.toNatClampNeg) := ⟨_, rfl⟩
      rw [← ex20]
      have kx20 := zrng x20
      refine zp_seg (pc' := 26) (lv' := [(6, .int 0), (5, .int x20), (0, .ref a), (1, .ref b), (2, .int e), (3, .int y3_5), (4, .int y4_5)]) (st' := []) [(21, .istore 5), (23, .iconst 0), (24, .istore 6)] (by decide +kernel) rfl ?_
      have hL26 : ∀ (mm26 : Nat) (y5_26 : Int32) (y6_26 : Int32), (0 ≤ y6_26.toInt) → (y6_26.toInt ≤ (gb 5).toInt) → (2147483647 - y6_26.toInt).toNat < mm26 → zP (d + 1) zq_X16_joined 26 [(0, .ref a), (1, .ref b), (2, .int e), (3, .int y3_5), (4, .int y4_5), (5, .int y5_26), (6, .int y6_26)] [] w sz 0 0 Post := by
        intro mm26
        induction mm26 with
        | zero => intros; omega
        | succ mm26 ih26 =>
        intro y5_26 y6_26 hi26_0 hi26_1 hmu26
        have ky5_26 := zrng y5_26
        have ky6_26 := zrng y6_26
        have hz49 : (y6_26.toNatClampNeg : Int) = y6_26.toInt := znat (by first | omega | decide)
        refine zp_seg (pc' := 29) (lv' := [(0, .ref a), (1, .ref b), (2, .int e), (3, .int y3_5), (4, .int y4_5), (5, .int y5_26), (6, .int y6_26)]) (st' := [.ref b, .int y6_26]) [(26, .iload 6), (28, .aload_n 1)] (by decide +kernel) rfl ?_
        refine zr_get (idx := 219) (k := 5) (v := .int (gb 5)) (by decide +kernel) (by decide +kernel) hT_b rfl ?_
        refine zp_if (i := .if_icmp .ge 78) (c := (gb 5) ≤ y6_26) (t := 110) (e := 35) (lv' := [(0, .ref a), (1, .ref b), (2, .int e), (3, .int y3_5), (4, .int y4_5), (5, .int y5_26), (6, .int y6_26)]) (st' := []) (by decide +kernel) rfl (fun cc32 => ?_) (fun cc32 => ?_)
        ·
          have k50 := zrng (gb 5)
          have f51 := zleI cc32
          refine zp_seg (pc' := 113) (lv' := [(0, .ref a), (1, .ref b), (2, .int e), (3, .int y3_5), (4, .int y4_5), (5, .int y5_26), (6, .int y6_26)]) (st' := [.int y5_26, .int y3_5]) [(110, .iload_n 3), (111, .iload 5)] (by decide +kernel) rfl ?_
          refine zr_abs (idx := 273) (by decide +kernel) (by decide +kernel) (by omega) (Nat.le_of_ble_eq_true rfl) ?_
          obtain ⟨m52, em52, hm52⟩ := zabsI y5_26
          rw [← em52]
          have km52 := zrng m52
          refine zp_seg (pc' := 117) (lv' := [(0, .ref a), (1, .ref b), (2, .int e), (3, .int y3_5), (4, .int y4_5), (5, .int y5_26), (6, .int y6_26)]) (st' := [.int (y3_5 + m52)]) [(116, .iadd)] (by decide +kernel) rfl ?_
          have k53 := zaddM y3_5 m52
          generalize ev117 : (y3_5 + m52 : Int32) = v117 at k53 ⊢
          have kv117 := zrng v117
          refine zp_seg (pc' := 121) (lv' := [(4, .int (y4_5 + 1)), (3, .int v117), (0, .ref a), (1, .ref b), (2, .int e), (5, .int y5_26), (6, .int y6_26)]) (st' := []) [(117, .istore_n 3), (118, .iinc 4 1)] (by decide +kernel) rfl ?_
          have k54 := zaddC y4_5 1 (n := 1) (by decide) (by omega) (by omega)
          generalize ev121 : (y4_5 + 1 : Int32) = v121 at k54 ⊢
          have kv121 := zrng v121
          refine zp_seg (pc' := 5) (lv' := [(4, .int v121), (3, .int v117), (0, .ref a), (1, .ref b), (2, .int e), (5, .int y5_26), (6, .int y6_26)]) (st' := []) [(121, .goto (-116))] (by decide +kernel) rfl ?_
          have hz55 : (v121.toNatClampNeg : Int) = v121.toInt := znat (by first | omega | decide)
          exact (ih5 v117 v121 (by first | assumption | omega | decide) (by first | assumption | omega | decide) (by omega)).more (zfa1 rfl (zfa1 rfl (zfa1 rfl (zfa1 rfl (zfa1 rfl (zfa0))))))
        ·
          have k56 := zrng (gb 5)
          have f57 := znleI cc32
          refine zp_seg (pc' := 38) (lv' := [(0, .ref a), (1, .ref b), (2, .int e), (3, .int y3_5), (4, .int y4_5), (5, .int y5_26), (6, .int y6_26)]) (st' := [.ref a, .int y5_26]) [(35, .iload 5), (37, .aload_n 0)] (by decide +kernel) rfl ?_
          refine zr_get (idx := 222) (k := 6) (v := .ref (a + 3)) (by decide +kernel) (by decide +kernel) hT_a rfl ?_
          refine zp_seg (pc' := 43) (lv' := [(0, .ref a), (1, .ref b), (2, .int e), (3, .int y3_5), (4, .int y4_5), (5, .int y5_26), (6, .int y6_26)]) (st' := [.int y4_5, .ref (a + 3), .int y5_26]) [(41, .iload 4)] (by decide +kernel) rfl ?_
          refine zr_iald (by decide +kernel) hA_a_3 (zin (by first | omega | decide) (by first | omega | decide)) ?_
          obtain ⟨x43, ex43⟩ : ∃ x9, x9 = fax (y4_5.toNatClampNeg) := ⟨_, rfl⟩
          rw [← ex43]
          have kx43 := zrng x43
          refine zp_seg (pc' := 45) (lv' := [(0, .ref a), (1, .ref b), (2, .int e), (3, .int y3_5), (4, .int y4_5), (5, .int y5_26), (6, .int y6_26)]) (st' := [.ref b, .int x43, .int y5_26]) [(44, .aload_n 1)] (by decide +kernel) rfl ?_
          refine zr_get (idx := 222) (k := 6) (v := .ref (b + 3)) (by decide +kernel) (by decide +kernel) hT_b rfl ?_
          refine zp_seg (pc' := 50) (lv' := [(0, .ref a), (1, .ref b), (2, .int e), (3, .int y3_5), (4, .int y4_5), (5, .int y5_26), (6, .int y6_26)]) (st' := [.int y6_26, .ref (b + 3), .int x43, .int y5_26]) [(48, .iload 6)] (by decide +kernel) rfl ?_
          refine zr_iald (by decide +kernel) hA_b_3 (zin (by first | omega | decide) (by first | omega | decide)) ?_
          obtain ⟨x50, ex50⟩ : ∃ x9, x9 = fay (y6_26.toNatClampNeg) := ⟨_, rfl⟩
          rw [← ex50]
          have kx50 := zrng x50
          refine zp_if (i := .if_icmp .ne 49) (c := ¬ x43 = x50) (t := 100) (e := 54) (lv' := [(0, .ref a), (1, .ref b), (2, .int e), (3, .int y3_5), (4, .int y4_5), (5, .int y5_26), (6, .int y6_26)]) (st' := [.int y5_26]) (by decide +kernel) rfl (fun cc51 => ?_) (fun cc51 => ?_)
          ·
            have f58 := zneI cc51
            refine zp_seg (pc' := 102) (lv' := [(0, .ref a), (1, .ref b), (2, .int e), (3, .int y3_5), (4, .int y4_5), (5, .int y5_26), (6, .int y6_26)]) (st' := [.int (y5_26 + 0)]) [(100, .iconst 0), (101, .iadd)] (by decide +kernel) rfl ?_
            have k59 := zaddM y5_26 0
            generalize ev102 : (y5_26 + 0 : Int32) = v102 at k59 ⊢
            have kv102 := zrng v102
            refine zp_seg (pc' := 107) (lv' := [(6, .int (y6_26 + 1)), (5, .int v102), (0, .ref a), (1, .ref b), (2, .int e), (3, .int y3_5), (4, .int y4_5)]) (st' := []) [(102, .istore 5), (104, .iinc 6 1)] (by decide +kernel) rfl ?_
            have k60 := zaddC y6_26 1 (n := 1) (by decide) (by omega) (by omega)
            generalize ev107 : (y6_26 + 1 : Int32) = v107 at k60 ⊢
            have kv107 := zrng v107
            refine zp_seg (pc' := 26) (lv' := [(6, .int v107), (5, .int v102), (0, .ref a), (1, .ref b), (2, .int e), (3, .int y3_5), (4, .int y4_5)]) (st' := []) [(107, .goto (-81))] (by decide +kernel) rfl ?_
            have hz61 : (v107.toNatClampNeg : Int) = v107.toInt := znat (by first | omega | decide)
            exact (ih26 v102 v107 (by first | assumption | omega | decide) (by first | assumption | omega | decide) (by omega)).more (zfa1 rfl (zfa1 rfl (zfa1 rfl (zfa1 rfl (zfa1 rfl (zfa1 rfl (zfa1 rfl (zfa0))))))))
          ·
            replace cc51 := Classical.not_not.mp cc51
            have f62 := zeqI cc51
            refine zp_seg (pc' := 55) (lv' := [(0, .ref a), (1, .ref b), (2, .int e), (3, .int y3_5), (4, .int y4_5), (5, .int y5_26), (6, .int y6_26)]) (st' := [.ref a, .int y5_26]) [(54, .aload_n 0)] (by decide +kernel) rfl ?_
            refine zr_get (idx := 225) (k := 7) (v := .ref (a + 4)) (by decide +kernel) (by decide +kernel) hT_a rfl ?_
            refine zp_seg (pc' := 60) (lv' := [(0, .ref a), (1, .ref b), (2, .int e), (3, .int y3_5), (4, .int y4_5), (5, .int y5_26), (6, .int y6_26)]) (st' := [.int y4_5, .ref (a + 4), .int y5_26]) [(58, .iload 4)] (by decide +kernel) rfl ?_
            refine zr_iald (by decide +kernel) hA_a_4 (zin (by first | omega | decide) (by first | omega | decide)) ?_
            obtain ⟨x60, ex60⟩ : ∃ x9, x9 = fbx (y4_5.toNatClampNeg) := ⟨_, rfl⟩
            rw [← ex60]
            have kx60 := zrng x60
            refine zp_seg (pc' := 62) (lv' := [(0, .ref a), (1, .ref b), (2, .int e), (3, .int y3_5), (4, .int y4_5), (5, .int y5_26), (6, .int y6_26)]) (st' := [.ref b, .int x60, .int y5_26]) [(61, .aload_n 1)] (by decide +kernel) rfl ?_
            refine zr_get (idx := 225) (k := 7) (v := .ref (b + 4)) (by decide +kernel) (by decide +kernel) hT_b rfl ?_
            refine zp_seg (pc' := 67) (lv' := [(0, .ref a), (1, .ref b), (2, .int e), (3, .int y3_5), (4, .int y4_5), (5, .int y5_26), (6, .int y6_26)]) (st' := [.int y6_26, .ref (b + 4), .int x60, .int y5_26]) [(65, .iload 6)] (by decide +kernel) rfl ?_
            refine zr_iald (by decide +kernel) hA_b_4 (zin (by first | omega | decide) (by first | omega | decide)) ?_
            obtain ⟨x67, ex67⟩ : ∃ x9, x9 = fby (y6_26.toNatClampNeg) := ⟨_, rfl⟩
            rw [← ex67]
            have kx67 := zrng x67
            refine zp_if (i := .if_icmp .ne 32) (c := ¬ x60 = x67) (t := 100) (e := 71) (lv' := [(0, .ref a), (1, .ref b), (2, .int e), (3, .int y3_5), (4, .int y4_5), (5, .int y5_26), (6, .int y6_26)]) (st' := [.int y5_26]) (by decide +kernel) rfl (fun cc68 => ?_) (fun cc68 => ?_)
            ·
              have f63 := zneI cc68
              refine zp_seg (pc' := 102) (lv' := [(0, .ref a), (1, .ref b), (2, .int e), (3, .int y3_5), (4, .int y4_5), (5, .int y5_26), (6, .int y6_26)]) (st' := [.int (y5_26 + 0)]) [(100, .iconst 0), (101, .iadd)] (by decide +kernel) rfl ?_
              have k64 := zaddM y5_26 0
              generalize ev102 : (y5_26 + 0 : Int32) = v102 at k64 ⊢
              have kv102 := zrng v102
              refine zp_seg (pc' := 107) (lv' := [(6, .int (y6_26 + 1)), (5, .int v102), (0, .ref a), (1, .ref b), (2, .int e), (3, .int y3_5), (4, .int y4_5)]) (st' := []) [(102, .istore 5), (104, .iinc 6 1)] (by decide +kernel) rfl ?_
              have k65 := zaddC y6_26 1 (n := 1) (by decide) (by omega) (by omega)
              generalize ev107 : (y6_26 + 1 : Int32) = v107 at k65 ⊢
              have kv107 := zrng v107
              refine zp_seg (pc' := 26) (lv' := [(6, .int v107), (5, .int v102), (0, .ref a), (1, .ref b), (2, .int e), (3, .int y3_5), (4, .int y4_5)]) (st' := []) [(107, .goto (-81))] (by decide +kernel) rfl ?_
              have hz66 : (v107.toNatClampNeg : Int) = v107.toInt := znat (by first | omega | decide)
              exact (ih26 v102 v107 (by first | assumption | omega | decide) (by first | assumption | omega | decide) (by omega)).more (zfa1 rfl (zfa1 rfl (zfa1 rfl (zfa1 rfl (zfa1 rfl (zfa1 rfl (zfa1 rfl (zfa0))))))))
            ·
              replace cc68 := Classical.not_not.mp cc68
              have f67 := zeqI cc68
              refine zp_seg (pc' := 72) (lv' := [(0, .ref a), (1, .ref b), (2, .int e), (3, .int y3_5), (4, .int y4_5), (5, .int y5_26), (6, .int y6_26)]) (st' := [.ref a, .int y5_26]) [(71, .aload_n 0)] (by decide +kernel) rfl ?_
              refine zr_get (idx := 228) (k := 8) (v := .ref (a + 5)) (by decide +kernel) (by decide +kernel) hT_a rfl ?_
              refine zp_seg (pc' := 77) (lv' := [(0, .ref a), (1, .ref b), (2, .int e), (3, .int y3_5), (4, .int y4_5), (5, .int y5_26), (6, .int y6_26)]) (st' := [.int y4_5, .ref (a + 5), .int y5_26]) [(75, .iload 4)] (by decide +kernel) rfl ?_
              refine zr_iald (by decide +kernel) hA_a_5 (zin (by first | omega | decide) (by first | omega | decide)) ?_
              obtain ⟨x77, ex77⟩ : ∃ x9, x9 = fcx (y4_5.toNatClampNeg) := ⟨_, rfl⟩
              rw [← ex77]
              have kx77 := zrng x77
              refine zp_seg (pc' := 79) (lv' := [(0, .ref a), (1, .ref b), (2, .int e), (3, .int y3_5), (4, .int y4_5), (5, .int y5_26), (6, .int y6_26)]) (st' := [.ref b, .int x77, .int y5_26]) [(78, .aload_n 1)] (by decide +kernel) rfl ?_
              refine zr_get (idx := 228) (k := 8) (v := .ref (b + 5)) (by decide +kernel) (by decide +kernel) hT_b rfl ?_
              refine zp_seg (pc' := 84) (lv' := [(0, .ref a), (1, .ref b), (2, .int e), (3, .int y3_5), (4, .int y4_5), (5, .int y5_26), (6, .int y6_26)]) (st' := [.int y6_26, .ref (b + 5), .int x77, .int y5_26]) [(82, .iload 6)] (by decide +kernel) rfl ?_
              refine zr_iald (by decide +kernel) hA_b_5 (zin (by first | omega | decide) (by first | omega | decide)) ?_
              obtain ⟨x84, ex84⟩ : ∃ x9, x9 = fcy (y6_26.toNatClampNeg) := ⟨_, rfl⟩
              rw [← ex84]
              have kx84 := zrng x84
              refine zp_if (i := .if_icmp .ne 15) (c := ¬ x77 = x84) (t := 100) (e := 88) (lv' := [(0, .ref a), (1, .ref b), (2, .int e), (3, .int y3_5), (4, .int y4_5), (5, .int y5_26), (6, .int y6_26)]) (st' := [.int y5_26]) (by decide +kernel) rfl (fun cc85 => ?_) (fun cc85 => ?_)
              ·
                have f68 := zneI cc85
                refine zp_seg (pc' := 102) (lv' := [(0, .ref a), (1, .ref b), (2, .int e), (3, .int y3_5), (4, .int y4_5), (5, .int y5_26), (6, .int y6_26)]) (st' := [.int (y5_26 + 0)]) [(100, .iconst 0), (101, .iadd)] (by decide +kernel) rfl ?_
                have k69 := zaddM y5_26 0
                generalize ev102 : (y5_26 + 0 : Int32) = v102 at k69 ⊢
                have kv102 := zrng v102
                refine zp_seg (pc' := 107) (lv' := [(6, .int (y6_26 + 1)), (5, .int v102), (0, .ref a), (1, .ref b), (2, .int e), (3, .int y3_5), (4, .int y4_5)]) (st' := []) [(102, .istore 5), (104, .iinc 6 1)] (by decide +kernel) rfl ?_
                have k70 := zaddC y6_26 1 (n := 1) (by decide) (by omega) (by omega)
                generalize ev107 : (y6_26 + 1 : Int32) = v107 at k70 ⊢
                have kv107 := zrng v107
                refine zp_seg (pc' := 26) (lv' := [(6, .int v107), (5, .int v102), (0, .ref a), (1, .ref b), (2, .int e), (3, .int y3_5), (4, .int y4_5)]) (st' := []) [(107, .goto (-81))] (by decide +kernel) rfl ?_
                have hz71 : (v107.toNatClampNeg : Int) = v107.toInt := znat (by first | omega | decide)
                exact (ih26 v102 v107 (by first | assumption | omega | decide) (by first | assumption | omega | decide) (by omega)).more (zfa1 rfl (zfa1 rfl (zfa1 rfl (zfa1 rfl (zfa1 rfl (zfa1 rfl (zfa1 rfl (zfa0))))))))
              ·
                replace cc85 := Classical.not_not.mp cc85
                have f72 := zeqI cc85
                refine zp_seg (pc' := 90) (lv' := [(0, .ref a), (1, .ref b), (2, .int e), (3, .int y3_5), (4, .int y4_5), (5, .int y5_26), (6, .int y6_26)]) (st' := [.ref b, .int e, .int y5_26]) [(88, .iload_n 2), (89, .aload_n 1)] (by decide +kernel) rfl ?_
                refine zr_get (idx := 231) (k := 9) (v := .ref (b + 6)) (by decide +kernel) (by decide +kernel) hT_b rfl ?_
                refine zp_seg (pc' := 95) (lv' := [(0, .ref a), (1, .ref b), (2, .int e), (3, .int y3_5), (4, .int y4_5), (5, .int y5_26), (6, .int y6_26)]) (st' := [.int y6_26, .ref (b + 6), .int e, .int y5_26]) [(93, .iload 6)] (by decide +kernel) rfl ?_
                refine zr_iald (by decide +kernel) hA_b_6 (zin (by first | omega | decide) (by first | omega | decide)) ?_
                obtain ⟨x95, ex95⟩ : ∃ x9, x9 = fey (y6_26.toNatClampNeg) := ⟨_, rfl⟩
                rw [← ex95]
                have kx95 := zrng x95
                refine zp_seg (pc' := 97) (lv' := [(0, .ref a), (1, .ref b), (2, .int e), (3, .int y3_5), (4, .int y4_5), (5, .int y5_26), (6, .int y6_26)]) (st' := [.int (e * x95), .int y5_26]) [(96, .imul)] (by decide +kernel) rfl ?_
                have k73 := zmulM e x95
                generalize ev97 : (e * x95 : Int32) = v97 at k73 ⊢
                have kv97 := zrng v97
                refine zp_seg (pc' := 102) (lv' := [(0, .ref a), (1, .ref b), (2, .int e), (3, .int y3_5), (4, .int y4_5), (5, .int y5_26), (6, .int y6_26)]) (st' := [.int (y5_26 + v97)]) [(97, .goto 4), (101, .iadd)] (by decide +kernel) rfl ?_
                have k74 := zaddM y5_26 v97
                generalize ev102 : (y5_26 + v97 : Int32) = v102 at k74 ⊢
                have kv102 := zrng v102
                refine zp_seg (pc' := 107) (lv' := [(6, .int (y6_26 + 1)), (5, .int v102), (0, .ref a), (1, .ref b), (2, .int e), (3, .int y3_5), (4, .int y4_5)]) (st' := []) [(102, .istore 5), (104, .iinc 6 1)] (by decide +kernel) rfl ?_
                have k75 := zaddC y6_26 1 (n := 1) (by decide) (by omega) (by omega)
                generalize ev107 : (y6_26 + 1 : Int32) = v107 at k75 ⊢
                have kv107 := zrng v107
                refine zp_seg (pc' := 26) (lv' := [(6, .int v107), (5, .int v102), (0, .ref a), (1, .ref b), (2, .int e), (3, .int y3_5), (4, .int y4_5)]) (st' := []) [(107, .goto (-81))] (by decide +kernel) rfl ?_
                have hz76 : (v107.toNatClampNeg : Int) = v107.toInt := znat (by first | omega | decide)
                exact (ih26 v102 v107 (by first | assumption | omega | decide) (by first | assumption | omega | decide) (by omega)).more (zfa1 rfl (zfa1 rfl (zfa1 rfl (zfa1 rfl (zfa1 rfl (zfa1 rfl (zfa1 rfl (zfa0))))))))
      have hl77 : (0 : Int32).toInt = 0 := by decide
      have hz78 : ((0 : Int32).toNatClampNeg : Int) = 0 := by decide
      exact (hL26 _ x20 0 (by first | assumption | omega | decide) (by first | assumption | omega | decide) (Nat.lt_succ_self _)).more (zfa1 rfl (zfa1 rfl (zfa1 rfl (zfa1 rfl (zfa1 rfl (zfa1 rfl (zfa1 rfl (zfa0))))))))
  have hl79 : (0 : Int32).toInt = 0 := by decide
  have hz80 : ((0 : Int32).toNatClampNeg : Int) = 0 := by decide
  exact (hL5 _ 0 0 (by first | assumption | omega | decide) (by first | assumption | omega | decide) (Nat.lt_succ_self _)).more (zfa1 rfl (zfa1 rfl (zfa1 rfl (zfa1 rfl (zfa1 rfl (zfa0))))))

theorem zx_X16_mergeAll_0 {a b m : Nat} (h0 : a + 9 ≤ b ∨ b + 9 ≤ a) (h1 : (m + 83 ≤ a ∧ a + 9 ≤ m + 92) ∨ (m + 6316 ≤ a ∧ a + 9 ≤ m + 7594)) (h2 : (m + 83 ≤ b ∧ b + 9 ≤ m + 92) ∨ (m + 6316 ≤ b ∧ b + 9 ≤ m + 7594)) : b < a ∨ a + 1 ≤ b := by omega
theorem zx_X16_mergeAll_1 {a b m : Nat} (h0 : a + 9 ≤ b ∨ b + 9 ≤ a) (h1 : (m + 83 ≤ a ∧ a + 9 ≤ m + 92) ∨ (m + 6316 ≤ a ∧ a + 9 ≤ m + 7594)) (h2 : (m + 83 ≤ b ∧ b + 9 ≤ m + 92) ∨ (m + 6316 ≤ b ∧ b + 9 ≤ m + 7594)) : b < a + 3 ∨ a + 3 + 4 ≤ b := by omega
theorem zx_X16_mergeAll_2 {b m : Nat} (h0 : (m + 83 ≤ b ∧ b + 9 ≤ m + 92) ∨ (m + 6316 ≤ b ∧ b + 9 ≤ m + 7594)) : b < m + 78 ∨ m + 78 + 1 ≤ b := by omega
theorem zx_X16_mergeAll_3 {a m : Nat} (h0 : (m + 83 ≤ a ∧ a + 9 ≤ m + 92) ∨ (m + 6316 ≤ a ∧ a + 9 ≤ m + 7594)) : m < a ∨ a + 1 ≤ m := by omega
theorem zx_X16_mergeAll_4 {a m : Nat} (h0 : (m + 83 ≤ a ∧ a + 9 ≤ m + 92) ∨ (m + 6316 ≤ a ∧ a + 9 ≤ m + 7594)) : m < a + 3 ∨ a + 3 + 4 ≤ m := by omega
theorem zx_X16_mergeAll_5 {m : Nat}  : m < m + 78 ∨ m + 78 + 1 ≤ m := by omega
theorem zx_X16_mergeAll_6 {m : Nat}  : m ≠ m + 78 := by omega
theorem zx_X16_mergeAll_7 {m x : Nat} (h0 : x < m + 78 ∨ m + 78 + 1 ≤ x) : x ≠ m + 78 := by omega
theorem zx_X16_mergeAll_8 {a m : Nat} (h0 : (m + 83 ≤ a ∧ a + 9 ≤ m + 92) ∨ (m + 6316 ≤ a ∧ a + 9 ≤ m + 7594)) : a ≠ m + 78 := by omega
theorem zx_X16_mergeAll_9 {a m : Nat} (h0 : (m + 83 ≤ a ∧ a + 9 ≤ m + 92) ∨ (m + 6316 ≤ a ∧ a + 9 ≤ m + 7594)) : (a + 3) ≠ m + 78 := by omega
theorem zx_X16_mergeAll_10 {a m : Nat} (h0 : (m + 83 ≤ a ∧ a + 9 ≤ m + 92) ∨ (m + 6316 ≤ a ∧ a + 9 ≤ m + 7594)) : (a + 4) ≠ m + 78 := by omega
theorem zx_X16_mergeAll_11 {a m : Nat} (h0 : (m + 83 ≤ a ∧ a + 9 ≤ m + 92) ∨ (m + 6316 ≤ a ∧ a + 9 ≤ m + 7594)) : (a + 5) ≠ m + 78 := by omega
theorem zx_X16_mergeAll_12 {a m : Nat} (h0 : (m + 83 ≤ a ∧ a + 9 ≤ m + 92) ∨ (m + 6316 ≤ a ∧ a + 9 ≤ m + 7594)) : (a + 6) ≠ m + 78 := by omega
theorem zx_X16_mergeAll_13 {b m : Nat} (h0 : (m + 83 ≤ b ∧ b + 9 ≤ m + 92) ∨ (m + 6316 ≤ b ∧ b + 9 ≤ m + 7594)) : b ≠ m + 78 := by omega
theorem zx_X16_mergeAll_14 {a b m : Nat} (h0 : a + 9 ≤ b ∨ b + 9 ≤ a) (h1 : (m + 83 ≤ a ∧ a + 9 ≤ m + 92) ∨ (m + 6316 ≤ a ∧ a + 9 ≤ m + 7594)) (h2 : (m + 83 ≤ b ∧ b + 9 ≤ m + 92) ∨ (m + 6316 ≤ b ∧ b + 9 ≤ m + 7594)) : (b + 3) < a ∨ a + 1 ≤ (b + 3) := by omega
theorem zx_X16_mergeAll_15 {a b m : Nat} (h0 : a + 9 ≤ b ∨ b + 9 ≤ a) (h1 : (m + 83 ≤ a ∧ a + 9 ≤ m + 92) ∨ (m + 6316 ≤ a ∧ a + 9 ≤ m + 7594)) (h2 : (m + 83 ≤ b ∧ b + 9 ≤ m + 92) ∨ (m + 6316 ≤ b ∧ b + 9 ≤ m + 7594)) : (b + 3) < a + 3 ∨ a + 3 + 4 ≤ (b + 3) := by omega
theorem zx_X16_mergeAll_16 {b m : Nat} (h0 : (m + 83 ≤ b ∧ b + 9 ≤ m + 92) ∨ (m + 6316 ≤ b ∧ b + 9 ≤ m + 7594)) : (b + 3) < m + 78 ∨ m + 78 + 1 ≤ (b + 3) := by omega
theorem zx_X16_mergeAll_17 {b m : Nat} (h0 : (m + 83 ≤ b ∧ b + 9 ≤ m + 92) ∨ (m + 6316 ≤ b ∧ b + 9 ≤ m + 7594)) : (b + 3) ≠ m + 78 := by omega
theorem zx_X16_mergeAll_18 {a b m : Nat} (h0 : a + 9 ≤ b ∨ b + 9 ≤ a) (h1 : (m + 83 ≤ a ∧ a + 9 ≤ m + 92) ∨ (m + 6316 ≤ a ∧ a + 9 ≤ m + 7594)) (h2 : (m + 83 ≤ b ∧ b + 9 ≤ m + 92) ∨ (m + 6316 ≤ b ∧ b + 9 ≤ m + 7594)) : (b + 4) < a ∨ a + 1 ≤ (b + 4) := by omega
theorem zx_X16_mergeAll_19 {a b m : Nat} (h0 : a + 9 ≤ b ∨ b + 9 ≤ a) (h1 : (m + 83 ≤ a ∧ a + 9 ≤ m + 92) ∨ (m + 6316 ≤ a ∧ a + 9 ≤ m + 7594)) (h2 : (m + 83 ≤ b ∧ b + 9 ≤ m + 92) ∨ (m + 6316 ≤ b ∧ b + 9 ≤ m + 7594)) : (b + 4) < a + 3 ∨ a + 3 + 4 ≤ (b + 4) := by omega
theorem zx_X16_mergeAll_20 {b m : Nat} (h0 : (m + 83 ≤ b ∧ b + 9 ≤ m + 92) ∨ (m + 6316 ≤ b ∧ b + 9 ≤ m + 7594)) : (b + 4) < m + 78 ∨ m + 78 + 1 ≤ (b + 4) := by omega
theorem zx_X16_mergeAll_21 {b m : Nat} (h0 : (m + 83 ≤ b ∧ b + 9 ≤ m + 92) ∨ (m + 6316 ≤ b ∧ b + 9 ≤ m + 7594)) : (b + 4) ≠ m + 78 := by omega
theorem zx_X16_mergeAll_22 {a b m : Nat} (h0 : a + 9 ≤ b ∨ b + 9 ≤ a) (h1 : (m + 83 ≤ a ∧ a + 9 ≤ m + 92) ∨ (m + 6316 ≤ a ∧ a + 9 ≤ m + 7594)) (h2 : (m + 83 ≤ b ∧ b + 9 ≤ m + 92) ∨ (m + 6316 ≤ b ∧ b + 9 ≤ m + 7594)) : (b + 5) < a ∨ a + 1 ≤ (b + 5) := by omega
theorem zx_X16_mergeAll_23 {a b m : Nat} (h0 : a + 9 ≤ b ∨ b + 9 ≤ a) (h1 : (m + 83 ≤ a ∧ a + 9 ≤ m + 92) ∨ (m + 6316 ≤ a ∧ a + 9 ≤ m + 7594)) (h2 : (m + 83 ≤ b ∧ b + 9 ≤ m + 92) ∨ (m + 6316 ≤ b ∧ b + 9 ≤ m + 7594)) : (b + 5) < a + 3 ∨ a + 3 + 4 ≤ (b + 5) := by omega
theorem zx_X16_mergeAll_24 {b m : Nat} (h0 : (m + 83 ≤ b ∧ b + 9 ≤ m + 92) ∨ (m + 6316 ≤ b ∧ b + 9 ≤ m + 7594)) : (b + 5) < m + 78 ∨ m + 78 + 1 ≤ (b + 5) := by omega
theorem zx_X16_mergeAll_25 {b m : Nat} (h0 : (m + 83 ≤ b ∧ b + 9 ≤ m + 92) ∨ (m + 6316 ≤ b ∧ b + 9 ≤ m + 7594)) : (b + 5) ≠ m + 78 := by omega
theorem zx_X16_mergeAll_26 {a b m : Nat} (h0 : a + 9 ≤ b ∨ b + 9 ≤ a) (h1 : (m + 83 ≤ a ∧ a + 9 ≤ m + 92) ∨ (m + 6316 ≤ a ∧ a + 9 ≤ m + 7594)) (h2 : (m + 83 ≤ b ∧ b + 9 ≤ m + 92) ∨ (m + 6316 ≤ b ∧ b + 9 ≤ m + 7594)) : (b + 6) < a ∨ a + 1 ≤ (b + 6) := by omega
theorem zx_X16_mergeAll_27 {a b m : Nat} (h0 : a + 9 ≤ b ∨ b + 9 ≤ a) (h1 : (m + 83 ≤ a ∧ a + 9 ≤ m + 92) ∨ (m + 6316 ≤ a ∧ a + 9 ≤ m + 7594)) (h2 : (m + 83 ≤ b ∧ b + 9 ≤ m + 92) ∨ (m + 6316 ≤ b ∧ b + 9 ≤ m + 7594)) : (b + 6) < a + 3 ∨ a + 3 + 4 ≤ (b + 6) := by omega
theorem zx_X16_mergeAll_28 {b m : Nat} (h0 : (m + 83 ≤ b ∧ b + 9 ≤ m + 92) ∨ (m + 6316 ≤ b ∧ b + 9 ≤ m + 7594)) : (b + 6) < m + 78 ∨ m + 78 + 1 ≤ (b + 6) := by omega
theorem zx_X16_mergeAll_29 {b m : Nat} (h0 : (m + 83 ≤ b ∧ b + 9 ≤ m + 92) ∨ (m + 6316 ≤ b ∧ b + 9 ≤ m + 7594)) : (b + 6) ≠ m + 78 := by omega
set_option maxHeartbeats 8000000 in
set_option maxRecDepth 100000 in
theorem c_X16_mergeAll {w : zM} {g : Nat → Int32} {r : Nat → Value} {ga fax fbx fcx fex gb fay fby fcy fey : Nat → Int32} (m : Nat) (a : Nat) (b : Nat) (e : Int32) (hm : w m = some (.inl (15, zMo m g r))) (hR_m : zR m w) (hT_a : w a = some (.inl (13, zTo a ga))) (hA_a_3 : w (a + 3) = some (.inr (0, 13, .inl fax))) (hA_a_4 : w (a + 4) = some (.inr (0, 13, .inl fbx))) (hA_a_5 : w (a + 5) = some (.inr (0, 13, .inl fcx))) (hA_a_6 : w (a + 6) = some (.inr (0, 13, .inl fex))) (hT_b : w b = some (.inl (13, zTo b gb))) (hA_b_3 : w (b + 3) = some (.inr (0, 13, .inl fay))) (hA_b_4 : w (b + 4) = some (.inr (0, 13, .inl fby))) (hA_b_5 : w (b + 5) = some (.inr (0, 13, .inl fcy))) (hA_b_6 : w (b + 6) = some (.inr (0, 13, .inl fey))) (hma : 0 ≤ (ga 5).toInt ∧ (ga 5).toInt ≤ 13) (hmb : 0 ≤ (gb 5).toInt ∧ (gb 5).toInt ≤ 13) (hla : zLn fax fbx fcx (ga 5).toNatClampNeg) (hlb : zLn fay fby fcy (gb 5).toNatClampNeg) (hab : a + 9 ≤ b ∨ b + 9 ≤ a) (hoa : (m + 83 ≤ a ∧ a + 9 ≤ m + 92) ∨ (m + 6316 ≤ a ∧ a + 9 ≤ m + 7594)) (hob : (m + 83 ≤ b ∧ b + 9 ≤ m + 92) ∨ (m + 6316 ≤ b ∧ b + 9 ≤ m + 7594)) : zCon 3 zq_X16_mergeAll [.ref m, .ref a, .ref b, .int e] w (fun v9 w9' => ∃ M9 : Int32, ∃ Fa : Nat → Int32, ∃ Fb : Nat → Int32, ∃ Fc : Nat → Int32, ∃ Fe : Nat → Int32, zSI w w9' ∧ (∀ x, (x < a ∨ a + 1 ≤ x) ∧ (x < a + 3 ∨ a + 3 + 4 ≤ x) ∧ (x < m + 78 ∨ m + 78 + 1 ≤ x) → w9' x = w x) ∧ w9' a = some (.inl (13, zTo a (zs ga 5 M9))) ∧ w9' (a + 3) = some (.inr (0, 13, .inl Fa)) ∧ w9' (a + 4) = some (.inr (0, 13, .inl Fb)) ∧ w9' (a + 5) = some (.inr (0, 13, .inl Fc)) ∧ w9' (a + 6) = some (.inr (0, 13, .inl Fe)) ∧ ((0 ≤ M9.toInt ∧ M9.toInt ≤ 13) ∧ zLn Fa Fb Fc M9.toNatClampNeg) ∧ v9 = none) := by
  intro d sz hd
  obtain ⟨d, rfl⟩ : ∃ d9, d = d9 + 1 := ⟨d - 1, by omega⟩
  generalize hPost : (fun (r9' : Option (Option Value)) (w9' : zM) (z9 : Nat) => z9 = sz ∧ ∃ v9, r9' = some v9 ∧ (∃ M9 : Int32, ∃ Fa : Nat → Int32, ∃ Fb : Nat → Int32, ∃ Fc : Nat → Int32, ∃ Fe : Nat → Int32, zSI w w9' ∧ (∀ x, (x < a ∨ a + 1 ≤ x) ∧ (x < a + 3 ∨ a + 3 + 4 ≤ x) ∧ (x < m + 78 ∨ m + 78 + 1 ≤ x) → w9' x = w x) ∧ w9' a = some (.inl (13, zTo a (zs ga 5 M9))) ∧ w9' (a + 3) = some (.inr (0, 13, .inl Fa)) ∧ w9' (a + 4) = some (.inr (0, 13, .inl Fb)) ∧ w9' (a + 5) = some (.inr (0, 13, .inl Fc)) ∧ w9' (a + 6) = some (.inr (0, 13, .inl Fe)) ∧ ((0 ≤ M9.toInt ∧ M9.toInt ≤ 13) ∧ zLn Fa Fb Fc M9.toNatClampNeg) ∧ v9 = none)) = Post
  show zP (d + 1) zq_X16_mergeAll 0 [(0, .ref m), (1, .ref a), (2, .ref b), (3, .int e)] [] w sz 0 0 Post
  have k1 := zrng e
  have k2 := zrng (gb 5)
  have hz3 : ((gb 5).toNatClampNeg : Int) = (gb 5).toInt := znat (by first | omega | decide)
  refine zp_seg (pc' := 3) (lv' := [(4, .int 0), (0, .ref m), (1, .ref a), (2, .ref b), (3, .int e)]) (st' := []) [(0, .iconst 0), (1, .istore 4)] (by decide +kernel) rfl ?_
  have hL3 : ∀ (mm3 : Nat) (wL3 : zM) (y4_3 : Int32) (pm : Int32) (pa : Nat → Int32) (pb : Nat → Int32) (pc : Nat → Int32) (pe : Nat → Int32), (zSI w wL3) → (∀ x, (x < a ∨ a + 1 ≤ x) ∧ (x < a + 3 ∨ a + 3 + 4 ≤ x) ∧ (x < m + 78 ∨ m + 78 + 1 ≤ x) → wL3 x = w x) → (0 ≤ y4_3.toInt) → (y4_3.toInt ≤ 2) → (wL3 a = some (.inl (13, zTo a (zs ga 5 pm)))) → (wL3 (a + 3) = some (.inr (0, 13, .inl pa))) → (wL3 (a + 4) = some (.inr (0, 13, .inl pb))) → (wL3 (a + 5) = some (.inr (0, 13, .inl pc))) → (wL3 (a + 6) = some (.inr (0, 13, .inl pe))) → ((0 ≤ pm.toInt ∧ pm.toInt ≤ 13) ∧ zLn pa pb pc pm.toNatClampNeg) → (20 - y4_3.toInt).toNat < mm3 → zP (d + 1) zq_X16_mergeAll 3 [(0, .ref m), (1, .ref a), (2, .ref b), (3, .int e), (4, .int y4_3)] [] wL3 sz 0 0 Post := by
    intro mm3
    induction mm3 with
    | zero => intros; omega
    | succ mm3 ih3 =>
    intro wL3 y4_3 pm pa pb pc pe hsiL3 heqL3 hi3_0 hi3_1 hpT hpa hpb hpc hpe hpl hmu3
    have ky4_3 := zrng y4_3
    have hz4 : (y4_3.toNatClampNeg : Int) = y4_3.toInt := znat (by first | omega | decide)
    refine zp_seg (pc' := 6) (lv' := [(0, .ref m), (1, .ref a), (2, .ref b), (3, .int e), (4, .int y4_3)]) (st' := [.int 2, .int y4_3]) [(3, .iload 4), (5, .iconst 2)] (by decide +kernel) rfl ?_
    refine zp_if (i := .if_icmp .ge 190) (c := 2 ≤ y4_3) (t := 196) (e := 9) (lv' := [(0, .ref m), (1, .ref a), (2, .ref b), (3, .int e), (4, .int y4_3)]) (st' := []) (by decide +kernel) rfl (fun cc6 => ?_) (fun cc6 => ?_)
    ·
      have f6 := zleI cc6
      rw [show (2 : Int32).toInt = 2 from by decide] at f6
      have hoffend : ∀ x, (x < a ∨ a + 1 ≤ x) ∧ (x < a + 3 ∨ a + 3 + 4 ≤ x) ∧ (x < m + 78 ∨ m + 78 + 1 ≤ x) → wL3 x = w x := fun x hx => (heqL3 x ⟨hx.1, hx.2.1, hx.2.2⟩)
      refine zr_retV (by decide +kernel) rfl ?_
      rw [← hPost]; exact ⟨rfl, _, rfl, pm, pa, pb, pc, pe, hsiL3, hoffend, hpT, hpa, hpb, hpc, hpe, (by
            exact hpl), rfl⟩
    ·
      have f8 := znleI cc6
      rw [show (2 : Int32).toInt = 2 from by decide] at f8
      refine zp_seg (pc' := 12) (lv' := [(5, .int 0), (0, .ref m), (1, .ref a), (2, .ref b), (3, .int e), (4, .int y4_3)]) (st' := []) [(9, .iconst 0), (10, .istore 5)] (by decide +kernel) rfl ?_
      have hL12 : ∀ (mm12 : Nat) (wL12 : zM) (y5_12 : Int32) (qm : Int32) (qa : Nat → Int32) (qb : Nat → Int32) (qc : Nat → Int32) (qe : Nat → Int32), (zSI wL3 wL12) → (∀ x, (x < a ∨ a + 1 ≤ x) ∧ (x < a + 3 ∨ a + 3 + 4 ≤ x) ∧ (x < m + 78 ∨ m + 78 + 1 ≤ x) → wL12 x = wL3 x) → (0 ≤ y5_12.toInt) → (y5_12.toInt ≤ (gb 5).toInt) → (wL12 a = some (.inl (13, zTo a (zs ga 5 qm)))) → (wL12 (a + 3) = some (.inr (0, 13, .inl qa))) → (wL12 (a + 4) = some (.inr (0, 13, .inl qb))) → (wL12 (a + 5) = some (.inr (0, 13, .inl qc))) → (wL12 (a + 6) = some (.inr (0, 13, .inl qe))) → ((0 ≤ qm.toInt ∧ qm.toInt ≤ 13) ∧ zLn qa qb qc qm.toNatClampNeg) → (20 - y5_12.toInt).toNat < mm12 → zP (d + 1) zq_X16_mergeAll 12 [(0, .ref m), (1, .ref a), (2, .ref b), (3, .int e), (4, .int y4_3), (5, .int y5_12)] [] wL12 sz 0 0 Post := by
        intro mm12
        induction mm12 with
        | zero => intros; omega
        | succ mm12 ih12 =>
        intro wL12 y5_12 qm qa qb qc qe hsiL12 heqL12 hi12_0 hi12_1 hqT hqa hqb hqc hqe hql hmu12
        have ky5_12 := zrng y5_12
        have hz9 : (y5_12.toNatClampNeg : Int) = y5_12.toInt := znat (by first | omega | decide)
        refine zp_seg (pc' := 15) (lv' := [(0, .ref m), (1, .ref a), (2, .ref b), (3, .int e), (4, .int y4_3), (5, .int y5_12)]) (st' := [.ref b, .int y5_12]) [(12, .iload 5), (14, .aload_n 2)] (by decide +kernel) rfl ?_
        have hb10 : wL12 b = some (.inl (13, zTo b gb)) := ((heqL12 b ⟨(zx_X16_mergeAll_0 hab hoa hob), (zx_X16_mergeAll_1 hab hoa hob), (zx_X16_mergeAll_2 hob)⟩).trans (heqL3 b ⟨(zx_X16_mergeAll_0 hab hoa hob), (zx_X16_mergeAll_1 hab hoa hob), (zx_X16_mergeAll_2 hob)⟩)).trans hT_b
        refine zr_get (idx := 219) (k := 5) (v := .int (gb 5)) (by decide +kernel) (by decide +kernel) hb10 rfl ?_
        refine zp_if (i := .if_icmp .ge 172) (c := (gb 5) ≤ y5_12) (t := 190) (e := 21) (lv' := [(0, .ref m), (1, .ref a), (2, .ref b), (3, .int e), (4, .int y4_3), (5, .int y5_12)]) (st' := []) (by decide +kernel) rfl (fun cc18 => ?_) (fun cc18 => ?_)
        ·
          have f11 := zleI cc18
          refine zp_seg (pc' := 193) (lv' := [(4, .int (y4_3 + 1)), (0, .ref m), (1, .ref a), (2, .ref b), (3, .int e), (5, .int y5_12)]) (st' := []) [(190, .iinc 4 1)] (by decide +kernel) rfl ?_
          have k12 := zaddC y4_3 1 (n := 1) (by decide) (by omega) (by omega)
          generalize ev193 : (y4_3 + 1 : Int32) = v193 at k12 ⊢
          have kv193 := zrng v193
          refine zp_seg (pc' := 3) (lv' := [(4, .int v193), (0, .ref m), (1, .ref a), (2, .ref b), (3, .int e), (5, .int y5_12)]) (st' := []) [(193, .goto (-190))] (by decide +kernel) rfl ?_
          have hz13 : (v193.toNatClampNeg : Int) = v193.toInt := znat (by first | omega | decide)
          exact (ih3 wL12 v193 (qm) (qa) (qb) (qc) (qe) (hsiL3.tr hsiL12) (fun x hx => ((heqL12 x ⟨hx.1, hx.2.1, hx.2.2⟩).trans (heqL3 x ⟨hx.1, hx.2.1, hx.2.2⟩))) (by first | assumption | omega | decide) (by first | assumption | omega | decide) (by
                exact hqT) hqa hqb hqc hqe (by
                exact hql) (by omega)).more (zfa1 rfl (zfa1 rfl (zfa1 rfl (zfa1 rfl (zfa1 rfl (zfa0))))))
        ·
          have f14 := znleI cc18
          refine zp_seg (pc' := 27) (lv' := [(7, .int 0), (6, .int 0), (0, .ref m), (1, .ref a), (2, .ref b), (3, .int e), (4, .int y4_3), (5, .int y5_12)]) (st' := []) [(21, .iconst 0), (22, .istore 6), (24, .iconst 0), (25, .istore 7)] (by decide +kernel) rfl ?_
          have hL27 : ∀ (mm27 : Nat) (y6_27 : Int32) (y7_27 : Int32), (0 ≤ y7_27.toInt) → (y7_27.toInt ≤ qm.toInt) → (20 - y7_27.toInt).toNat < mm27 → zP (d + 1) zq_X16_mergeAll 27 [(0, .ref m), (1, .ref a), (2, .ref b), (3, .int e), (4, .int y4_3), (5, .int y5_12), (6, .int y6_27), (7, .int y7_27)] [] wL12 sz 0 0 Post := by
            intro mm27
            induction mm27 with
            | zero => intros; omega
            | succ mm27 ih27 =>
            intro y6_27 y7_27 hi27_0 hi27_1 hmu27
            have ky6_27 := zrng y6_27
            have ky7_27 := zrng y7_27
            have hz15 : (y7_27.toNatClampNeg : Int) = y7_27.toInt := znat (by first | omega | decide)
            refine zp_seg (pc' := 30) (lv' := [(0, .ref m), (1, .ref a), (2, .ref b), (3, .int e), (4, .int y4_3), (5, .int y5_12), (6, .int y6_27), (7, .int y7_27)]) (st' := [.ref a, .int y7_27]) [(27, .iload 7), (29, .aload_n 1)] (by decide +kernel) rfl ?_
            refine zr_get (idx := 219) (k := 5) (v := .int qm) (by decide +kernel) (by decide +kernel) hqT rfl ?_
            refine zp_if (i := .if_icmp .ge 70) (c := qm ≤ y7_27) (t := 103) (e := 36) (lv' := [(0, .ref m), (1, .ref a), (2, .ref b), (3, .int e), (4, .int y4_3), (5, .int y5_12), (6, .int y6_27), (7, .int y7_27)]) (st' := []) (by decide +kernel) rfl (fun cc33 => ?_) (fun cc33 => ?_)
            ·
              have k16 := zrng qm
              have f17 := zleI cc33
              refine zp_seg (pc' := 104) (lv' := [(0, .ref m), (1, .ref a), (2, .ref b), (3, .int e), (4, .int y4_3), (5, .int y5_12), (6, .int y6_27), (7, .int y7_27)]) (st' := [.ref m]) [(103, .aload_n 0)] (by decide +kernel) rfl ?_
              have hb18 : wL12 m = some (.inl (15, zMo m g r)) := ((heqL12 m ⟨(zx_X16_mergeAll_3 hoa), (zx_X16_mergeAll_4 hoa), (zx_X16_mergeAll_5)⟩).trans (heqL3 m ⟨(zx_X16_mergeAll_3 hoa), (zx_X16_mergeAll_4 hoa), (zx_X16_mergeAll_5)⟩)).trans hm
              refine zr_get (idx := 310) (k := 7) (v := .ref (m + 78)) (by decide +kernel) (by decide +kernel) hb18 rfl ?_
              refine zp_seg (pc' := 111) (lv' := [(0, .ref m), (1, .ref a), (2, .ref b), (3, .int e), (4, .int y4_3), (5, .int y5_12), (6, .int y6_27), (7, .int y7_27)]) (st' := [.int y4_3, .int y5_12, .ref (m + 78)]) [(107, .iload 5), (109, .iload 4)] (by decide +kernel) rfl ?_
              refine zp_if (i := .ifCond .ne 8) (c := ¬ y4_3 = 0) (t := 119) (e := 114) (lv' := [(0, .ref m), (1, .ref a), (2, .ref b), (3, .int e), (4, .int y4_3), (5, .int y5_12), (6, .int y6_27), (7, .int y7_27)]) (st' := [.int y5_12, .ref (m + 78)]) (by decide +kernel) rfl (fun cc111 => ?_) (fun cc111 => ?_)
              ·
                have f20 := zneI cc111
                rw [show (0 : Int32).toInt = 0 from by decide] at f20
                refine zp_seg (pc' := 120) (lv' := [(0, .ref m), (1, .ref a), (2, .ref b), (3, .int e), (4, .int y4_3), (5, .int y5_12), (6, .int y6_27), (7, .int y7_27)]) (st' := [.ref m, .int y5_12, .ref (m + 78)]) [(119, .aload_n 0)] (by decide +kernel) rfl ?_
                refine zr_get (idx := 310) (k := 7) (v := .ref (m + 78)) (by decide +kernel) (by decide +kernel) hb18 rfl ?_
                refine zp_seg (pc' := 125) (lv' := [(0, .ref m), (1, .ref a), (2, .ref b), (3, .int e), (4, .int y4_3), (5, .int y5_12), (6, .int y6_27), (7, .int y7_27)]) (st' := [.int y5_12, .ref (m + 78), .int y5_12, .ref (m + 78)]) [(123, .iload 5)] (by decide +kernel) rfl ?_
                have hb21 := hR_m.si (hsiL3.tr hsiL12)
                obtain ⟨f22, hb23⟩ := hb21.ia_78
                refine zr_bald (by decide +kernel) hb23 (by decide) (zin (by first | omega | decide) (by first | omega | decide)) ?_
                obtain ⟨x125, ex125⟩ : ∃ x9, x9 = f22 (y5_12.toNatClampNeg) := ⟨_, rfl⟩
                rw [← ex125]
                have kx125 := zrng x125
                refine zr_zast (by decide +kernel) hb23 (zin (by first | omega | decide) (by first | omega | decide)) ?_
                show zP (d + 1) zq_X16_mergeAll 127 [(0, .ref m), (1, .ref a), (2, .ref b), (3, .int e), (4, .int y4_3), (5, .int y5_12), (6, .int y6_27), (7, .int y7_27)] [] (zup wL12 (m + 78) (.inr (2, 13, .inl (upd f22 (y5_12.toNatClampNeg) (vp_nar .boolean x125))))) sz 0 0 Post
                obtain ⟨w126, ew126⟩ : ∃ wz9, wz9 = zup wL12 (m + 78) (.inr (2, 13, .inl (upd f22 (y5_12.toNatClampNeg) (vp_nar .boolean x125)))) := ⟨_, rfl⟩
                have hsi126 : zSI wL12 w126 := by rw [ew126]; exact zSI.arr _ hb23
                have heq126 : ∀ x, x ≠ m + 78 → w126 x = wL12 x := fun x hx => by rw [ew126]; exact zup_n hx
                have hc126 : w126 (m + 78) = some (.inr (2, 13, .inl (upd f22 (y5_12.toNatClampNeg) (vp_nar .boolean x125)))) := by rw [ew126]; exact zup_s
                rw [← ew126]
                clear ew126
                refine zp_seg (pc' := 129) (lv' := [(0, .ref m), (1, .ref a), (2, .ref b), (3, .int e), (4, .int y4_3), (5, .int y5_12), (6, .int y6_27), (7, .int y7_27)]) (st' := [.int y4_3]) [(127, .iload 4)] (by decide +kernel) rfl ?_
                refine zp_if (i := .ifCond .ne 11) (c := ¬ y4_3 = 0) (t := 140) (e := 132) (lv' := [(0, .ref m), (1, .ref a), (2, .ref b), (3, .int e), (4, .int y4_3), (5, .int y5_12), (6, .int y6_27), (7, .int y7_27)]) (st' := []) (by decide +kernel) rfl (fun cc129 => ?_) (fun cc129 => ?_)
                ·
                  have f24 := zneI cc129
                  rw [show (0 : Int32).toInt = 0 from by decide] at f24
                  refine zp_seg (pc' := 141) (lv' := [(0, .ref m), (1, .ref a), (2, .ref b), (3, .int e), (4, .int y4_3), (5, .int y5_12), (6, .int y6_27), (7, .int y7_27)]) (st' := [.ref m]) [(140, .aload_n 0)] (by decide +kernel) rfl ?_
                  have hb25 : w126 m = some (.inl (15, zMo m g r)) := (heq126 m (zx_X16_mergeAll_6)).trans hb18
                  refine zr_get (idx := 310) (k := 7) (v := .ref (m + 78)) (by decide +kernel) (by decide +kernel) hb25 rfl ?_
                  refine zp_seg (pc' := 146) (lv' := [(0, .ref m), (1, .ref a), (2, .ref b), (3, .int e), (4, .int y4_3), (5, .int y5_12), (6, .int y6_27), (7, .int y7_27)]) (st' := [.int y5_12, .ref (m + 78)]) [(144, .iload 5)] (by decide +kernel) rfl ?_
                  refine zr_bald (by decide +kernel) hc126 (by decide) (zin (by first | omega | decide) (by first | omega | decide)) ?_
                  obtain ⟨x146, ex146⟩ : ∃ x9, x9 = (upd f22 (y5_12.toNatClampNeg) (vp_nar .boolean x125)) (y5_12.toNatClampNeg) := ⟨_, rfl⟩
                  rw [← ex146]
                  have kx146 := zrng x146
                  refine zp_if (i := .ifCond .ne 37) (c := ¬ x146 = 0) (t := 184) (e := 150) (lv' := [(0, .ref m), (1, .ref a), (2, .ref b), (3, .int e), (4, .int y4_3), (5, .int y5_12), (6, .int y6_27), (7, .int y7_27)]) (st' := []) (by decide +kernel) rfl (fun cc147 => ?_) (fun cc147 => ?_)
                  ·
                    have f26 := zneI cc147
                    rw [show (0 : Int32).toInt = 0 from by decide] at f26
                    refine zp_seg (pc' := 187) (lv' := [(5, .int (y5_12 + 1)), (0, .ref m), (1, .ref a), (2, .ref b), (3, .int e), (4, .int y4_3), (6, .int y6_27), (7, .int y7_27)]) (st' := []) [(184, .iinc 5 1)] (by decide +kernel) rfl ?_
                    have k27 := zaddC y5_12 1 (n := 1) (by decide) (by omega) (by omega)
                    generalize ev187 : (y5_12 + 1 : Int32) = v187 at k27 ⊢
                    have kv187 := zrng v187
                    refine zp_seg (pc' := 12) (lv' := [(5, .int v187), (0, .ref m), (1, .ref a), (2, .ref b), (3, .int e), (4, .int y4_3), (6, .int y6_27), (7, .int y7_27)]) (st' := []) [(187, .goto (-175))] (by decide +kernel) rfl ?_
                    have hz28 : (v187.toNatClampNeg : Int) = v187.toInt := znat (by first | omega | decide)
                    have hb29 : w126 a = some (.inl (13, zTo a (zs ga 5 qm))) := (heq126 a (zx_X16_mergeAll_8 hoa)).trans hqT
                    have hb30 : w126 (a + 3) = some (.inr (0, 13, .inl qa)) := (heq126 (a + 3) (zx_X16_mergeAll_9 hoa)).trans hqa
                    have hb31 : w126 (a + 4) = some (.inr (0, 13, .inl qb)) := (heq126 (a + 4) (zx_X16_mergeAll_10 hoa)).trans hqb
                    have hb32 : w126 (a + 5) = some (.inr (0, 13, .inl qc)) := (heq126 (a + 5) (zx_X16_mergeAll_11 hoa)).trans hqc
                    have hb33 : w126 (a + 6) = some (.inr (0, 13, .inl qe)) := (heq126 (a + 6) (zx_X16_mergeAll_12 hoa)).trans hqe
                    exact (ih12 w126 v187 (qm) (qa) (qb) (qc) (qe) (hsiL12.tr hsi126) (fun x hx => ((heq126 x (zx_X16_mergeAll_7 hx.2.2)).trans (heqL12 x ⟨hx.1, hx.2.1, hx.2.2⟩))) (by first | assumption | omega | decide) (by first | assumption | omega | decide) hb29 hb30 hb31 hb32 hb33 (by
                          first | exact hql | exact hp181_5) (by omega)).more (zfa1 rfl (zfa1 rfl (zfa1 rfl (zfa1 rfl (zfa1 rfl (zfa1 rfl (zfa0)))))))
                  ·
                    replace cc147 := Classical.not_not.mp cc147
                    have f34 := zeqI cc147
                    rw [show (0 : Int32).toInt = 0 from by decide] at f34
                    refine zp_seg (pc' := 152) (lv' := [(0, .ref m), (1, .ref a), (2, .ref b), (3, .int e), (4, .int y4_3), (5, .int y5_12), (6, .int y6_27), (7, .int y7_27)]) (st' := [.ref b, .ref a]) [(150, .aload_n 1), (151, .aload_n 2)] (by decide +kernel) rfl ?_
                    have hb35 : w126 b = some (.inl (13, zTo b gb)) := (heq126 b (zx_X16_mergeAll_13 hob)).trans hb10
                    refine zr_get (idx := 222) (k := 6) (v := .ref (b + 3)) (by decide +kernel) (by decide +kernel) hb35 rfl ?_
                    refine zp_seg (pc' := 157) (lv' := [(0, .ref m), (1, .ref a), (2, .ref b), (3, .int e), (4, .int y4_3), (5, .int y5_12), (6, .int y6_27), (7, .int y7_27)]) (st' := [.int y5_12, .ref (b + 3), .ref a]) [(155, .iload 5)] (by decide +kernel) rfl ?_
                    have hb36 : w126 (b + 3) = some (.inr (0, 13, .inl fay)) := ((heq126 (b + 3) (zx_X16_mergeAll_17 hob)).trans ((heqL12 (b + 3) ⟨(zx_X16_mergeAll_14 hab hoa hob), (zx_X16_mergeAll_15 hab hoa hob), (zx_X16_mergeAll_16 hob)⟩).trans (heqL3 (b + 3) ⟨(zx_X16_mergeAll_14 hab hoa hob), (zx_X16_mergeAll_15 hab hoa hob), (zx_X16_mergeAll_16 hob)⟩))).trans hA_b_3
                    refine zr_iald (by decide +kernel) hb36 (zin (by first | omega | decide) (by first | omega | decide)) ?_
                    obtain ⟨x157, ex157⟩ : ∃ x9, x9 = fay (y5_12.toNatClampNeg) := ⟨_, rfl⟩
                    rw [← ex157]
                    have kx157 := zrng x157
                    refine zp_seg (pc' := 159) (lv' := [(0, .ref m), (1, .ref a), (2, .ref b), (3, .int e), (4, .int y4_3), (5, .int y5_12), (6, .int y6_27), (7, .int y7_27)]) (st' := [.ref b, .int x157, .ref a]) [(158, .aload_n 2)] (by decide +kernel) rfl ?_
                    refine zr_get (idx := 225) (k := 7) (v := .ref (b + 4)) (by decide +kernel) (by decide +kernel) hb35 rfl ?_
                    refine zp_seg (pc' := 164) (lv' := [(0, .ref m), (1, .ref a), (2, .ref b), (3, .int e), (4, .int y4_3), (5, .int y5_12), (6, .int y6_27), (7, .int y7_27)]) (st' := [.int y5_12, .ref (b + 4), .int x157, .ref a]) [(162, .iload 5)] (by decide +kernel) rfl ?_
                    have hb37 : w126 (b + 4) = some (.inr (0, 13, .inl fby)) := ((heq126 (b + 4) (zx_X16_mergeAll_21 hob)).trans ((heqL12 (b + 4) ⟨(zx_X16_mergeAll_18 hab hoa hob), (zx_X16_mergeAll_19 hab hoa hob), (zx_X16_mergeAll_20 hob)⟩).trans (heqL3 (b + 4) ⟨(zx_X16_mergeAll_18 hab hoa hob), (zx_X16_mergeAll_19 hab hoa hob), (zx_X16_mergeAll_20 hob)⟩))).trans hA_b_4
                    refine zr_iald (by decide +kernel) hb37 (zin (by first | omega | decide) (by first | omega | decide)) ?_
                    obtain ⟨x164, ex164⟩ : ∃ x9, x9 = fby (y5_12.toNatClampNeg) := ⟨_, rfl⟩
                    rw [← ex164]
                    have kx164 := zrng x164
                    refine zp_seg (pc' := 166) (lv' := [(0, .ref m), (1, .ref a), (2, .ref b), (3, .int e), (4, .int y4_3), (5, .int y5_12), (6, .int y6_27), (7, .int y7_27)]) (st' := [.ref b, .int x164, .int x157, .ref a]) [(165, .aload_n 2)] (by decide +kernel) rfl ?_
                    refine zr_get (idx := 228) (k := 8) (v := .ref (b + 5)) (by decide +kernel) (by decide +kernel) hb35 rfl ?_
                    refine zp_seg (pc' := 171) (lv' := [(0, .ref m), (1, .ref a), (2, .ref b), (3, .int e), (4, .int y4_3), (5, .int y5_12), (6, .int y6_27), (7, .int y7_27)]) (st' := [.int y5_12, .ref (b + 5), .int x164, .int x157, .ref a]) [(169, .iload 5)] (by decide +kernel) rfl ?_
                    have hb38 : w126 (b + 5) = some (.inr (0, 13, .inl fcy)) := ((heq126 (b + 5) (zx_X16_mergeAll_25 hob)).trans ((heqL12 (b + 5) ⟨(zx_X16_mergeAll_22 hab hoa hob), (zx_X16_mergeAll_23 hab hoa hob), (zx_X16_mergeAll_24 hob)⟩).trans (heqL3 (b + 5) ⟨(zx_X16_mergeAll_22 hab hoa hob), (zx_X16_mergeAll_23 hab hoa hob), (zx_X16_mergeAll_24 hob)⟩))).trans hA_b_5
                    refine zr_iald (by decide +kernel) hb38 (zin (by first | omega | decide) (by first | omega | decide)) ?_
                    obtain ⟨x171, ex171⟩ : ∃ x9, x9 = fcy (y5_12.toNatClampNeg) := ⟨_, rfl⟩
                    rw [← ex171]
                    have kx171 := zrng x171
                    refine zp_seg (pc' := 174) (lv' := [(0, .ref m), (1, .ref a), (2, .ref b), (3, .int e), (4, .int y4_3), (5, .int y5_12), (6, .int y6_27), (7, .int y7_27)]) (st' := [.ref b, .int e, .int x171, .int x164, .int x157, .ref a]) [(172, .iload_n 3), (173, .aload_n 2)] (by decide +kernel) rfl ?_
                    refine zr_get (idx := 231) (k := 9) (v := .ref (b + 6)) (by decide +kernel) (by decide +kernel) hb35 rfl ?_
                    refine zp_seg (pc' := 179) (lv' := [(0, .ref m), (1, .ref a), (2, .ref b), (3, .int e), (4, .int y4_3), (5, .int y5_12), (6, .int y6_27), (7, .int y7_27)]) (st' := [.int y5_12, .ref (b + 6), .int e, .int x171, .int x164, .int x157, .ref a]) [(177, .iload 5)] (by decide +kernel) rfl ?_
                    have hb39 : w126 (b + 6) = some (.inr (0, 13, .inl fey)) := ((heq126 (b + 6) (zx_X16_mergeAll_29 hob)).trans ((heqL12 (b + 6) ⟨(zx_X16_mergeAll_26 hab hoa hob), (zx_X16_mergeAll_27 hab hoa hob), (zx_X16_mergeAll_28 hob)⟩).trans (heqL3 (b + 6) ⟨(zx_X16_mergeAll_26 hab hoa hob), (zx_X16_mergeAll_27 hab hoa hob), (zx_X16_mergeAll_28 hob)⟩))).trans hA_b_6
                    refine zr_iald (by decide +kernel) hb39 (zin (by first | omega | decide) (by first | omega | decide)) ?_
                    obtain ⟨x179, ex179⟩ : ∃ x9, x9 = fey (y5_12.toNatClampNeg) := ⟨_, rfl⟩
                    rw [← ex179]
                    have kx179 := zrng x179
                    refine zp_seg (pc' := 181) (lv' := [(0, .ref m), (1, .ref a), (2, .ref b), (3, .int e), (4, .int y4_3), (5, .int y5_12), (6, .int y6_27), (7, .int y7_27)]) (st' := [.int (e * x179), .int x171, .int x164, .int x157, .ref a]) [(180, .imul)] (by decide +kernel) rfl ?_
                    have k40 := zmulM e x179
                    generalize ev181 : (e * x179 : Int32) = v181 at k40 ⊢
                    have kv181 := zrng v181
                    have hb41 : w126 a = some (.inl (13, zTo a (zs ga 5 qm))) := (heq126 a (zx_X16_mergeAll_8 hoa)).trans hqT
                    have hb42 : w126 (a + 3) = some (.inr (0, 13, .inl qa)) := (heq126 (a + 3) (zx_X16_mergeAll_9 hoa)).trans hqa
                    have hb43 : w126 (a + 4) = some (.inr (0, 13, .inl qb)) := (heq126 (a + 4) (zx_X16_mergeAll_10 hoa)).trans hqb
                    have hb44 : w126 (a + 5) = some (.inr (0, 13, .inl qc)) := (heq126 (a + 5) (zx_X16_mergeAll_11 hoa)).trans hqc
                    have hb45 : w126 (a + 6) = some (.inr (0, 13, .inl qe)) := (heq126 (a + 6) (zx_X16_mergeAll_12 hoa)).trans hqe
                    refine zr_callS (idx := 284) (j := 309) (by decide +kernel) (by decide +kernel) (by decide) (show zMe 309 = some zq_X16_factor from rfl) rfl rfl (Nat.le_of_ble_eq_true rfl) rfl rfl (Nat.le_of_ble_eq_true rfl) (Nat.le_of_ble_eq_true rfl) (c_X16_factor (w := w126) a x157 x164 x171 v181 hb41 hb42 hb43 hb44 hb45 (by exact hql.1) (by exact hql.2) (by rw [ex157]; exact (hlb _ (by omega)).1) (by rw [ex164]; exact (hlb _ (by omega)).2.1) (by rw [ex157, ex164]; exact (hlb _ (by omega)).2.2.1) (by rw [ex171]; exact (hlb _ (by omega)).2.2.2)) (by omega) (fun v181 w181 hp181 => ?_)
                    obtain ⟨M9_181, Fa_181, Fb_181, Fc_181, Fe_181, hsi181, heq181, hp181_0, hp181_1, hp181_2, hp181_3, hp181_4, hp181_5, rfl⟩ := hp181
                    have hT181 : w181 a = some (.inl (13, zTo a (zs ga 5 M9_181))) := hp181_0
                    show zP _ _ _ _ [] _ _ _ _ _
                    refine zp_seg (pc' := 187) (lv' := [(5, .int (y5_12 + 1)), (0, .ref m), (1, .ref a), (2, .ref b), (3, .int e), (4, .int y4_3), (6, .int y6_27), (7, .int y7_27)]) (st' := []) [(184, .iinc 5 1)] (by decide +kernel) rfl ?_
                    have k46 := zaddC y5_12 1 (n := 1) (by decide) (by omega) (by omega)
                    generalize ev187 : (y5_12 + 1 : Int32) = v187 at k46 ⊢
                    have kv187 := zrng v187
                    refine zp_seg (pc' := 12) (lv' := [(5, .int v187), (0, .ref m), (1, .ref a), (2, .ref b), (3, .int e), (4, .int y4_3), (6, .int y6_27), (7, .int y7_27)]) (st' := []) [(187, .goto (-175))] (by decide +kernel) rfl ?_
                    have hz47 : (v187.toNatClampNeg : Int) = v187.toInt := znat (by first | omega | decide)
                    exact (ih12 w181 v187 (M9_181) (Fa_181) (Fb_181) (Fc_181) (Fe_181) ((hsiL12.tr hsi126).tr hsi181) (fun x hx => ((heq181 x ⟨hx.1, hx.2.1⟩).trans ((heq126 x (zx_X16_mergeAll_7 hx.2.2)).trans (heqL12 x ⟨hx.1, hx.2.1, hx.2.2⟩)))) (by first | assumption | omega | decide) (by first | assumption | omega | decide) hT181 hp181_1 hp181_2 hp181_3 hp181_4 (by
                          first | exact hql | exact hp181_5) (by omega)).more (zfa1 rfl (zfa1 rfl (zfa1 rfl (zfa1 rfl (zfa1 rfl (zfa1 rfl (zfa0)))))))
                ·
                  replace cc129 := Classical.not_not.mp cc129
                  exact absurd cc129 cc111
              ·
                replace cc111 := Classical.not_not.mp cc111
                have f49 := zeqI cc111
                rw [show (0 : Int32).toInt = 0 from by decide] at f49
                refine zp_seg (pc' := 126) (lv' := [(0, .ref m), (1, .ref a), (2, .ref b), (3, .int e), (4, .int y4_3), (5, .int y5_12), (6, .int y6_27), (7, .int y7_27)]) (st' := [.int y6_27, .int y5_12, .ref (m + 78)]) [(114, .iload 6), (116, .goto 10)] (by decide +kernel) rfl ?_
                have hb50 := hR_m.si (hsiL3.tr hsiL12)
                obtain ⟨f51, hb52⟩ := hb50.ia_78
                refine zr_zast (by decide +kernel) hb52 (zin (by first | omega | decide) (by first | omega | decide)) ?_
                show zP (d + 1) zq_X16_mergeAll 127 [(0, .ref m), (1, .ref a), (2, .ref b), (3, .int e), (4, .int y4_3), (5, .int y5_12), (6, .int y6_27), (7, .int y7_27)] [] (zup wL12 (m + 78) (.inr (2, 13, .inl (upd f51 (y5_12.toNatClampNeg) (vp_nar .boolean y6_27))))) sz 0 0 Post
                obtain ⟨w126, ew126⟩ : ∃ wz9, wz9 = zup wL12 (m + 78) (.inr (2, 13, .inl (upd f51 (y5_12.toNatClampNeg) (vp_nar .boolean y6_27)))) := ⟨_, rfl⟩
                have hsi126 : zSI wL12 w126 := by rw [ew126]; exact zSI.arr _ hb52
                have heq126 : ∀ x, x ≠ m + 78 → w126 x = wL12 x := fun x hx => by rw [ew126]; exact zup_n hx
                have hc126 : w126 (m + 78) = some (.inr (2, 13, .inl (upd f51 (y5_12.toNatClampNeg) (vp_nar .boolean y6_27)))) := by rw [ew126]; exact zup_s
                rw [← ew126]
                clear ew126
                refine zp_seg (pc' := 129) (lv' := [(0, .ref m), (1, .ref a), (2, .ref b), (3, .int e), (4, .int y4_3), (5, .int y5_12), (6, .int y6_27), (7, .int y7_27)]) (st' := [.int y4_3]) [(127, .iload 4)] (by decide +kernel) rfl ?_
                refine zp_if (i := .ifCond .ne 11) (c := ¬ y4_3 = 0) (t := 140) (e := 132) (lv' := [(0, .ref m), (1, .ref a), (2, .ref b), (3, .int e), (4, .int y4_3), (5, .int y5_12), (6, .int y6_27), (7, .int y7_27)]) (st' := []) (by decide +kernel) rfl (fun cc129 => ?_) (fun cc129 => ?_)
                ·
                  exact absurd cc111 cc129
                ·
                  replace cc129 := Classical.not_not.mp cc129
                  have f53 := zeqI cc129
                  rw [show (0 : Int32).toInt = 0 from by decide] at f53
                  refine zp_seg (pc' := 134) (lv' := [(0, .ref m), (1, .ref a), (2, .ref b), (3, .int e), (4, .int y4_3), (5, .int y5_12), (6, .int y6_27), (7, .int y7_27)]) (st' := [.int y6_27]) [(132, .iload 6)] (by decide +kernel) rfl ?_
                  refine zp_if (i := .ifCond .eq 50) (c := y6_27 = 0) (t := 184) (e := 137) (lv' := [(0, .ref m), (1, .ref a), (2, .ref b), (3, .int e), (4, .int y4_3), (5, .int y5_12), (6, .int y6_27), (7, .int y7_27)]) (st' := []) (by decide +kernel) rfl (fun cc134 => ?_) (fun cc134 => ?_)
                  ·
                    have f54 := zeqI cc134
                    rw [show (0 : Int32).toInt = 0 from by decide] at f54
                    refine zp_seg (pc' := 187) (lv' := [(5, .int (y5_12 + 1)), (0, .ref m), (1, .ref a), (2, .ref b), (3, .int e), (4, .int y4_3), (6, .int y6_27), (7, .int y7_27)]) (st' := []) [(184, .iinc 5 1)] (by decide +kernel) rfl ?_
                    have k55 := zaddC y5_12 1 (n := 1) (by decide) (by omega) (by omega)
                    generalize ev187 : (y5_12 + 1 : Int32) = v187 at k55 ⊢
                    have kv187 := zrng v187
                    refine zp_seg (pc' := 12) (lv' := [(5, .int v187), (0, .ref m), (1, .ref a), (2, .ref b), (3, .int e), (4, .int y4_3), (6, .int y6_27), (7, .int y7_27)]) (st' := []) [(187, .goto (-175))] (by decide +kernel) rfl ?_
                    have hz56 : (v187.toNatClampNeg : Int) = v187.toInt := znat (by first | omega | decide)
                    have hb57 : w126 a = some (.inl (13, zTo a (zs ga 5 qm))) := (heq126 a (zx_X16_mergeAll_8 hoa)).trans hqT
                    have hb58 : w126 (a + 3) = some (.inr (0, 13, .inl qa)) := (heq126 (a + 3) (zx_X16_mergeAll_9 hoa)).trans hqa
                    have hb59 : w126 (a + 4) = some (.inr (0, 13, .inl qb)) := (heq126 (a + 4) (zx_X16_mergeAll_10 hoa)).trans hqb
                    have hb60 : w126 (a + 5) = some (.inr (0, 13, .inl qc)) := (heq126 (a + 5) (zx_X16_mergeAll_11 hoa)).trans hqc
                    have hb61 : w126 (a + 6) = some (.inr (0, 13, .inl qe)) := (heq126 (a + 6) (zx_X16_mergeAll_12 hoa)).trans hqe
                    exact (ih12 w126 v187 (qm) (qa) (qb) (qc) (qe) (hsiL12.tr hsi126) (fun x hx => ((heq126 x (zx_X16_mergeAll_7 hx.2.2)).trans (heqL12 x ⟨hx.1, hx.2.1, hx.2.2⟩))) (by first | assumption | omega | decide) (by first | assumption | omega | decide) hb57 hb58 hb59 hb60 hb61 (by
                          first | exact hql | exact hp181_5) (by omega)).more (zfa1 rfl (zfa1 rfl (zfa1 rfl (zfa1 rfl (zfa1 rfl (zfa1 rfl (zfa0)))))))
                  ·
                    have f62 := zneI cc134
                    rw [show (0 : Int32).toInt = 0 from by decide] at f62
                    refine zp_seg (pc' := 152) (lv' := [(0, .ref m), (1, .ref a), (2, .ref b), (3, .int e), (4, .int y4_3), (5, .int y5_12), (6, .int y6_27), (7, .int y7_27)]) (st' := [.ref b, .ref a]) [(137, .goto 13), (150, .aload_n 1), (151, .aload_n 2)] (by decide +kernel) rfl ?_
                    have hb63 : w126 b = some (.inl (13, zTo b gb)) := (heq126 b (zx_X16_mergeAll_13 hob)).trans hb10
                    refine zr_get (idx := 222) (k := 6) (v := .ref (b + 3)) (by decide +kernel) (by decide +kernel) hb63 rfl ?_
                    refine zp_seg (pc' := 157) (lv' := [(0, .ref m), (1, .ref a), (2, .ref b), (3, .int e), (4, .int y4_3), (5, .int y5_12), (6, .int y6_27), (7, .int y7_27)]) (st' := [.int y5_12, .ref (b + 3), .ref a]) [(155, .iload 5)] (by decide +kernel) rfl ?_
                    have hb64 : w126 (b + 3) = some (.inr (0, 13, .inl fay)) := ((heq126 (b + 3) (zx_X16_mergeAll_17 hob)).trans ((heqL12 (b + 3) ⟨(zx_X16_mergeAll_14 hab hoa hob), (zx_X16_mergeAll_15 hab hoa hob), (zx_X16_mergeAll_16 hob)⟩).trans (heqL3 (b + 3) ⟨(zx_X16_mergeAll_14 hab hoa hob), (zx_X16_mergeAll_15 hab hoa hob), (zx_X16_mergeAll_16 hob)⟩))).trans hA_b_3
                    refine zr_iald (by decide +kernel) hb64 (zin (by first | omega | decide) (by first | omega | decide)) ?_
                    obtain ⟨x157, ex157⟩ : ∃ x9, x9 = fay (y5_12.toNatClampNeg) := ⟨_, rfl⟩
                    rw [← ex157]
                    have kx157 := zrng x157
                    refine zp_seg (pc' := 159) (lv' := [(0, .ref m), (1, .ref a), (2, .ref b), (3, .int e), (4, .int y4_3), (5, .int y5_12), (6, .int y6_27), (7, .int y7_27)]) (st' := [.ref b, .int x157, .ref a]) [(158, .aload_n 2)] (by decide +kernel) rfl ?_
                    refine zr_get (idx := 225) (k := 7) (v := .ref (b + 4)) (by decide +kernel) (by decide +kernel) hb63 rfl ?_
                    refine zp_seg (pc' := 164) (lv' := [(0, .ref m), (1, .ref a), (2, .ref b), (3, .int e), (4, .int y4_3), (5, .int y5_12), (6, .int y6_27), (7, .int y7_27)]) (st' := [.int y5_12, .ref (b + 4), .int x157, .ref a]) [(162, .iload 5)] (by decide +kernel) rfl ?_
                    have hb65 : w126 (b + 4) = some (.inr (0, 13, .inl fby)) := ((heq126 (b + 4) (zx_X16_mergeAll_21 hob)).trans ((heqL12 (b + 4) ⟨(zx_X16_mergeAll_18 hab hoa hob), (zx_X16_mergeAll_19 hab hoa hob), (zx_X16_mergeAll_20 hob)⟩).trans (heqL3 (b + 4) ⟨(zx_X16_mergeAll_18 hab hoa hob), (zx_X16_mergeAll_19 hab hoa hob), (zx_X16_mergeAll_20 hob)⟩))).trans hA_b_4
                    refine zr_iald (by decide +kernel) hb65 (zin (by first | omega | decide) (by first | omega | decide)) ?_
                    obtain ⟨x164, ex164⟩ : ∃ x9, x9 = fby (y5_12.toNatClampNeg) := ⟨_, rfl⟩
                    rw [← ex164]
                    have kx164 := zrng x164
                    refine zp_seg (pc' := 166) (lv' := [(0, .ref m), (1, .ref a), (2, .ref b), (3, .int e), (4, .int y4_3), (5, .int y5_12), (6, .int y6_27), (7, .int y7_27)]) (st' := [.ref b, .int x164, .int x157, .ref a]) [(165, .aload_n 2)] (by decide +kernel) rfl ?_
                    refine zr_get (idx := 228) (k := 8) (v := .ref (b + 5)) (by decide +kernel) (by decide +kernel) hb63 rfl ?_
                    refine zp_seg (pc' := 171) (lv' := [(0, .ref m), (1, .ref a), (2, .ref b), (3, .int e), (4, .int y4_3), (5, .int y5_12), (6, .int y6_27), (7, .int y7_27)]) (st' := [.int y5_12, .ref (b + 5), .int x164, .int x157, .ref a]) [(169, .iload 5)] (by decide +kernel) rfl ?_
                    have hb66 : w126 (b + 5) = some (.inr (0, 13, .inl fcy)) := ((heq126 (b + 5) (zx_X16_mergeAll_25 hob)).trans ((heqL12 (b + 5) ⟨(zx_X16_mergeAll_22 hab hoa hob), (zx_X16_mergeAll_23 hab hoa hob), (zx_X16_mergeAll_24 hob)⟩).trans (heqL3 (b + 5) ⟨(zx_X16_mergeAll_22 hab hoa hob), (zx_X16_mergeAll_23 hab hoa hob), (zx_X16_mergeAll_24 hob)⟩))).trans hA_b_5
                    refine zr_iald (by decide +kernel) hb66 (zin (by first | omega | decide) (by first | omega | decide)) ?_
                    obtain ⟨x171, ex171⟩ : ∃ x9, x9 = fcy (y5_12.toNatClampNeg) := ⟨_, rfl⟩
                    rw [← ex171]
                    have kx171 := zrng x171
                    refine zp_seg (pc' := 174) (lv' := [(0, .ref m), (1, .ref a), (2, .ref b), (3, .int e), (4, .int y4_3), (5, .int y5_12), (6, .int y6_27), (7, .int y7_27)]) (st' := [.ref b, .int e, .int x171, .int x164, .int x157, .ref a]) [(172, .iload_n 3), (173, .aload_n 2)] (by decide +kernel) rfl ?_
                    refine zr_get (idx := 231) (k := 9) (v := .ref (b + 6)) (by decide +kernel) (by decide +kernel) hb63 rfl ?_
                    refine zp_seg (pc' := 179) (lv' := [(0, .ref m), (1, .ref a), (2, .ref b), (3, .int e), (4, .int y4_3), (5, .int y5_12), (6, .int y6_27), (7, .int y7_27)]) (st' := [.int y5_12, .ref (b + 6), .int e, .int x171, .int x164, .int x157, .ref a]) [(177, .iload 5)] (by decide +kernel) rfl ?_
                    have hb67 : w126 (b + 6) = some (.inr (0, 13, .inl fey)) := ((heq126 (b + 6) (zx_X16_mergeAll_29 hob)).trans ((heqL12 (b + 6) ⟨(zx_X16_mergeAll_26 hab hoa hob), (zx_X16_mergeAll_27 hab hoa hob), (zx_X16_mergeAll_28 hob)⟩).trans (heqL3 (b + 6) ⟨(zx_X16_mergeAll_26 hab hoa hob), (zx_X16_mergeAll_27 hab hoa hob), (zx_X16_mergeAll_28 hob)⟩))).trans hA_b_6
                    refine zr_iald (by decide +kernel) hb67 (zin (by first | omega | decide) (by first | omega | decide)) ?_
                    obtain ⟨x179, ex179⟩ : ∃ x9, x9 = fey (y5_12.toNatClampNeg) := ⟨_, rfl⟩
                    rw [← ex179]
                    have kx179 := zrng x179
                    refine zp_seg (pc' := 181) (lv' := [(0, .ref m), (1, .ref a), (2, .ref b), (3, .int e), (4, .int y4_3), (5, .int y5_12), (6, .int y6_27), (7, .int y7_27)]) (st' := [.int (e * x179), .int x171, .int x164, .int x157, .ref a]) [(180, .imul)] (by decide +kernel) rfl ?_
                    have k68 := zmulM e x179
                    generalize ev181 : (e * x179 : Int32) = v181 at k68 ⊢
                    have kv181 := zrng v181
                    have hb69 : w126 a = some (.inl (13, zTo a (zs ga 5 qm))) := (heq126 a (zx_X16_mergeAll_8 hoa)).trans hqT
                    have hb70 : w126 (a + 3) = some (.inr (0, 13, .inl qa)) := (heq126 (a + 3) (zx_X16_mergeAll_9 hoa)).trans hqa
                    have hb71 : w126 (a + 4) = some (.inr (0, 13, .inl qb)) := (heq126 (a + 4) (zx_X16_mergeAll_10 hoa)).trans hqb
                    have hb72 : w126 (a + 5) = some (.inr (0, 13, .inl qc)) := (heq126 (a + 5) (zx_X16_mergeAll_11 hoa)).trans hqc
                    have hb73 : w126 (a + 6) = some (.inr (0, 13, .inl qe)) := (heq126 (a + 6) (zx_X16_mergeAll_12 hoa)).trans hqe
                    refine zr_callS (idx := 284) (j := 309) (by decide +kernel) (by decide +kernel) (by decide) (show zMe 309 = some zq_X16_factor from rfl) rfl rfl (Nat.le_of_ble_eq_true rfl) rfl rfl (Nat.le_of_ble_eq_true rfl) (Nat.le_of_ble_eq_true rfl) (c_X16_factor (w := w126) a x157 x164 x171 v181 hb69 hb70 hb71 hb72 hb73 (by exact hql.1) (by exact hql.2) (by rw [ex157]; exact (hlb _ (by omega)).1) (by rw [ex164]; exact (hlb _ (by omega)).2.1) (by rw [ex157, ex164]; exact (hlb _ (by omega)).2.2.1) (by rw [ex171]; exact (hlb _ (by omega)).2.2.2)) (by omega) (fun v181 w181 hp181 => ?_)
                    obtain ⟨M9_181, Fa_181, Fb_181, Fc_181, Fe_181, hsi181, heq181, hp181_0, hp181_1, hp181_2, hp181_3, hp181_4, hp181_5, rfl⟩ := hp181
                    have hT181 : w181 a = some (.inl (13, zTo a (zs ga 5 M9_181))) := hp181_0
                    show zP _ _ _ _ [] _ _ _ _ _
                    refine zp_seg (pc' := 187) (lv' := [(5, .int (y5_12 + 1)), (0, .ref m), (1, .ref a), (2, .ref b), (3, .int e), (4, .int y4_3), (6, .int y6_27), (7, .int y7_27)]) (st' := []) [(184, .iinc 5 1)] (by decide +kernel) rfl ?_
                    have k74 := zaddC y5_12 1 (n := 1) (by decide) (by omega) (by omega)
                    generalize ev187 : (y5_12 + 1 : Int32) = v187 at k74 ⊢
                    have kv187 := zrng v187
                    refine zp_seg (pc' := 12) (lv' := [(5, .int v187), (0, .ref m), (1, .ref a), (2, .ref b), (3, .int e), (4, .int y4_3), (6, .int y6_27), (7, .int y7_27)]) (st' := []) [(187, .goto (-175))] (by decide +kernel) rfl ?_
                    have hz75 : (v187.toNatClampNeg : Int) = v187.toInt := znat (by first | omega | decide)
                    exact (ih12 w181 v187 (M9_181) (Fa_181) (Fb_181) (Fc_181) (Fe_181) ((hsiL12.tr hsi126).tr hsi181) (fun x hx => ((heq181 x ⟨hx.1, hx.2.1⟩).trans ((heq126 x (zx_X16_mergeAll_7 hx.2.2)).trans (heqL12 x ⟨hx.1, hx.2.1, hx.2.2⟩)))) (by first | assumption | omega | decide) (by first | assumption | omega | decide) hT181 hp181_1 hp181_2 hp181_3 hp181_4 (by
                          first | exact hql | exact hp181_5) (by omega)).more (zfa1 rfl (zfa1 rfl (zfa1 rfl (zfa1 rfl (zfa1 rfl (zfa1 rfl (zfa0)))))))
            ·
              have k76 := zrng qm
              have f77 := znleI cc33
              refine zp_seg (pc' := 39) (lv' := [(0, .ref m), (1, .ref a), (2, .ref b), (3, .int e), (4, .int y4_3), (5, .int y5_12), (6, .int y6_27), (7, .int y7_27)]) (st' := [.ref a, .int y6_27]) [(36, .iload 6), (38, .aload_n 1)] (by decide +kernel) rfl ?_
              refine zr_get (idx := 222) (k := 6) (v := .ref (a + 3)) (by decide +kernel) (by decide +kernel) hqT rfl ?_
              refine zp_seg (pc' := 44) (lv' := [(0, .ref m), (1, .ref a), (2, .ref b), (3, .int e), (4, .int y4_3), (5, .int y5_12), (6, .int y6_27), (7, .int y7_27)]) (st' := [.int y7_27, .ref (a + 3), .int y6_27]) [(42, .iload 7)] (by decide +kernel) rfl ?_
              refine zr_iald (by decide +kernel) hqa (zin (by first | omega | decide) (by first | omega | decide)) ?_
              obtain ⟨x44, ex44⟩ : ∃ x9, x9 = qa (y7_27.toNatClampNeg) := ⟨_, rfl⟩
              rw [← ex44]
              have kx44 := zrng x44
              refine zp_seg (pc' := 46) (lv' := [(0, .ref m), (1, .ref a), (2, .ref b), (3, .int e), (4, .int y4_3), (5, .int y5_12), (6, .int y6_27), (7, .int y7_27)]) (st' := [.ref b, .int x44, .int y6_27]) [(45, .aload_n 2)] (by decide +kernel) rfl ?_
              refine zr_get (idx := 222) (k := 6) (v := .ref (b + 3)) (by decide +kernel) (by decide +kernel) hb10 rfl ?_
              refine zp_seg (pc' := 51) (lv' := [(0, .ref m), (1, .ref a), (2, .ref b), (3, .int e), (4, .int y4_3), (5, .int y5_12), (6, .int y6_27), (7, .int y7_27)]) (st' := [.int y5_12, .ref (b + 3), .int x44, .int y6_27]) [(49, .iload 5)] (by decide +kernel) rfl ?_
              have hb78 : wL12 (b + 3) = some (.inr (0, 13, .inl fay)) := ((heqL12 (b + 3) ⟨(zx_X16_mergeAll_14 hab hoa hob), (zx_X16_mergeAll_15 hab hoa hob), (zx_X16_mergeAll_16 hob)⟩).trans (heqL3 (b + 3) ⟨(zx_X16_mergeAll_14 hab hoa hob), (zx_X16_mergeAll_15 hab hoa hob), (zx_X16_mergeAll_16 hob)⟩)).trans hA_b_3
              refine zr_iald (by decide +kernel) hb78 (zin (by first | omega | decide) (by first | omega | decide)) ?_
              obtain ⟨x51, ex51⟩ : ∃ x9, x9 = fay (y5_12.toNatClampNeg) := ⟨_, rfl⟩
              rw [← ex51]
              have kx51 := zrng x51
              refine zp_if (i := .if_icmp .ne 41) (c := ¬ x44 = x51) (t := 93) (e := 55) (lv' := [(0, .ref m), (1, .ref a), (2, .ref b), (3, .int e), (4, .int y4_3), (5, .int y5_12), (6, .int y6_27), (7, .int y7_27)]) (st' := [.int y6_27]) (by decide +kernel) rfl (fun cc52 => ?_) (fun cc52 => ?_)
              ·
                have f79 := zneI cc52
                refine zp_seg (pc' := 100) (lv' := [(7, .int (y7_27 + 1)), (6, .int (y6_27 ||| 0)), (0, .ref m), (1, .ref a), (2, .ref b), (3, .int e), (4, .int y4_3), (5, .int y5_12)]) (st' := []) [(93, .iconst 0), (94, .ior), (95, .istore 6), (97, .iinc 7 1)] (by decide +kernel) rfl ?_
                have k80 := zaddC y7_27 1 (n := 1) (by decide) (by omega) (by omega)
                generalize ev100 : (y7_27 + 1 : Int32) = v100 at k80 ⊢
                have kv100 := zrng v100
                generalize ev100_81 : (y6_27 ||| 0 : Int32) = v100_81
                have kv100_81 := zrng v100_81
                refine zp_seg (pc' := 27) (lv' := [(7, .int v100), (6, .int v100_81), (0, .ref m), (1, .ref a), (2, .ref b), (3, .int e), (4, .int y4_3), (5, .int y5_12)]) (st' := []) [(100, .goto (-73))] (by decide +kernel) rfl ?_
                have hz82 : (v100.toNatClampNeg : Int) = v100.toInt := znat (by first | omega | decide)
                exact (ih27 v100_81 v100 (by first | assumption | omega | decide) (by first | assumption | omega | decide) (by omega)).more (zfa1 rfl (zfa1 rfl (zfa1 rfl (zfa1 rfl (zfa1 rfl (zfa1 rfl (zfa1 rfl (zfa1 rfl (zfa0)))))))))
              ·
                replace cc52 := Classical.not_not.mp cc52
                have f83 := zeqI cc52
                refine zp_seg (pc' := 56) (lv' := [(0, .ref m), (1, .ref a), (2, .ref b), (3, .int e), (4, .int y4_3), (5, .int y5_12), (6, .int y6_27), (7, .int y7_27)]) (st' := [.ref a, .int y6_27]) [(55, .aload_n 1)] (by decide +kernel) rfl ?_
                refine zr_get (idx := 225) (k := 7) (v := .ref (a + 4)) (by decide +kernel) (by decide +kernel) hqT rfl ?_
                refine zp_seg (pc' := 61) (lv' := [(0, .ref m), (1, .ref a), (2, .ref b), (3, .int e), (4, .int y4_3), (5, .int y5_12), (6, .int y6_27), (7, .int y7_27)]) (st' := [.int y7_27, .ref (a + 4), .int y6_27]) [(59, .iload 7)] (by decide +kernel) rfl ?_
                refine zr_iald (by decide +kernel) hqb (zin (by first | omega | decide) (by first | omega | decide)) ?_
                obtain ⟨x61, ex61⟩ : ∃ x9, x9 = qb (y7_27.toNatClampNeg) := ⟨_, rfl⟩
                rw [← ex61]
                have kx61 := zrng x61
                refine zp_seg (pc' := 63) (lv' := [(0, .ref m), (1, .ref a), (2, .ref b), (3, .int e), (4, .int y4_3), (5, .int y5_12), (6, .int y6_27), (7, .int y7_27)]) (st' := [.ref b, .int x61, .int y6_27]) [(62, .aload_n 2)] (by decide +kernel) rfl ?_
                refine zr_get (idx := 225) (k := 7) (v := .ref (b + 4)) (by decide +kernel) (by decide +kernel) hb10 rfl ?_
                refine zp_seg (pc' := 68) (lv' := [(0, .ref m), (1, .ref a), (2, .ref b), (3, .int e), (4, .int y4_3), (5, .int y5_12), (6, .int y6_27), (7, .int y7_27)]) (st' := [.int y5_12, .ref (b + 4), .int x61, .int y6_27]) [(66, .iload 5)] (by decide +kernel) rfl ?_
                have hb84 : wL12 (b + 4) = some (.inr (0, 13, .inl fby)) := ((heqL12 (b + 4) ⟨(zx_X16_mergeAll_18 hab hoa hob), (zx_X16_mergeAll_19 hab hoa hob), (zx_X16_mergeAll_20 hob)⟩).trans (heqL3 (b + 4) ⟨(zx_X16_mergeAll_18 hab hoa hob), (zx_X16_mergeAll_19 hab hoa hob), (zx_X16_mergeAll_20 hob)⟩)).trans hA_b_4
                refine zr_iald (by decide +kernel) hb84 (zin (by first | omega | decide) (by first | omega | decide)) ?_
                obtain ⟨x68, ex68⟩ : ∃ x9, x9 = fby (y5_12.toNatClampNeg) := ⟨_, rfl⟩
                rw [← ex68]
                have kx68 := zrng x68
                refine zp_if (i := .if_icmp .ne 24) (c := ¬ x61 = x68) (t := 93) (e := 72) (lv' := [(0, .ref m), (1, .ref a), (2, .ref b), (3, .int e), (4, .int y4_3), (5, .int y5_12), (6, .int y6_27), (7, .int y7_27)]) (st' := [.int y6_27]) (by decide +kernel) rfl (fun cc69 => ?_) (fun cc69 => ?_)
                ·
                  have f85 := zneI cc69
                  refine zp_seg (pc' := 100) (lv' := [(7, .int (y7_27 + 1)), (6, .int (y6_27 ||| 0)), (0, .ref m), (1, .ref a), (2, .ref b), (3, .int e), (4, .int y4_3), (5, .int y5_12)]) (st' := []) [(93, .iconst 0), (94, .ior), (95, .istore 6), (97, .iinc 7 1)] (by decide +kernel) rfl ?_
                  have k86 := zaddC y7_27 1 (n := 1) (by decide) (by omega) (by omega)
                  generalize ev100 : (y7_27 + 1 : Int32) = v100 at k86 ⊢
                  have kv100 := zrng v100
                  generalize ev100_87 : (y6_27 ||| 0 : Int32) = v100_87
                  have kv100_87 := zrng v100_87
                  refine zp_seg (pc' := 27) (lv' := [(7, .int v100), (6, .int v100_87), (0, .ref m), (1, .ref a), (2, .ref b), (3, .int e), (4, .int y4_3), (5, .int y5_12)]) (st' := []) [(100, .goto (-73))] (by decide +kernel) rfl ?_
                  have hz88 : (v100.toNatClampNeg : Int) = v100.toInt := znat (by first | omega | decide)
                  exact (ih27 v100_87 v100 (by first | assumption | omega | decide) (by first | assumption | omega | decide) (by omega)).more (zfa1 rfl (zfa1 rfl (zfa1 rfl (zfa1 rfl (zfa1 rfl (zfa1 rfl (zfa1 rfl (zfa1 rfl (zfa0)))))))))
                ·
                  replace cc69 := Classical.not_not.mp cc69
                  have f89 := zeqI cc69
                  refine zp_seg (pc' := 73) (lv' := [(0, .ref m), (1, .ref a), (2, .ref b), (3, .int e), (4, .int y4_3), (5, .int y5_12), (6, .int y6_27), (7, .int y7_27)]) (st' := [.ref a, .int y6_27]) [(72, .aload_n 1)] (by decide +kernel) rfl ?_
                  refine zr_get (idx := 228) (k := 8) (v := .ref (a + 5)) (by decide +kernel) (by decide +kernel) hqT rfl ?_
                  refine zp_seg (pc' := 78) (lv' := [(0, .ref m), (1, .ref a), (2, .ref b), (3, .int e), (4, .int y4_3), (5, .int y5_12), (6, .int y6_27), (7, .int y7_27)]) (st' := [.int y7_27, .ref (a + 5), .int y6_27]) [(76, .iload 7)] (by decide +kernel) rfl ?_
                  refine zr_iald (by decide +kernel) hqc (zin (by first | omega | decide) (by first | omega | decide)) ?_
                  obtain ⟨x78, ex78⟩ : ∃ x9, x9 = qc (y7_27.toNatClampNeg) := ⟨_, rfl⟩
                  rw [← ex78]
                  have kx78 := zrng x78
                  refine zp_seg (pc' := 80) (lv' := [(0, .ref m), (1, .ref a), (2, .ref b), (3, .int e), (4, .int y4_3), (5, .int y5_12), (6, .int y6_27), (7, .int y7_27)]) (st' := [.ref b, .int x78, .int y6_27]) [(79, .aload_n 2)] (by decide +kernel) rfl ?_
                  refine zr_get (idx := 228) (k := 8) (v := .ref (b + 5)) (by decide +kernel) (by decide +kernel) hb10 rfl ?_
                  refine zp_seg (pc' := 85) (lv' := [(0, .ref m), (1, .ref a), (2, .ref b), (3, .int e), (4, .int y4_3), (5, .int y5_12), (6, .int y6_27), (7, .int y7_27)]) (st' := [.int y5_12, .ref (b + 5), .int x78, .int y6_27]) [(83, .iload 5)] (by decide +kernel) rfl ?_
                  have hb90 : wL12 (b + 5) = some (.inr (0, 13, .inl fcy)) := ((heqL12 (b + 5) ⟨(zx_X16_mergeAll_22 hab hoa hob), (zx_X16_mergeAll_23 hab hoa hob), (zx_X16_mergeAll_24 hob)⟩).trans (heqL3 (b + 5) ⟨(zx_X16_mergeAll_22 hab hoa hob), (zx_X16_mergeAll_23 hab hoa hob), (zx_X16_mergeAll_24 hob)⟩)).trans hA_b_5
                  refine zr_iald (by decide +kernel) hb90 (zin (by first | omega | decide) (by first | omega | decide)) ?_
                  obtain ⟨x85, ex85⟩ : ∃ x9, x9 = fcy (y5_12.toNatClampNeg) := ⟨_, rfl⟩
                  rw [← ex85]
                  have kx85 := zrng x85
                  refine zp_if (i := .if_icmp .ne 7) (c := ¬ x78 = x85) (t := 93) (e := 89) (lv' := [(0, .ref m), (1, .ref a), (2, .ref b), (3, .int e), (4, .int y4_3), (5, .int y5_12), (6, .int y6_27), (7, .int y7_27)]) (st' := [.int y6_27]) (by decide +kernel) rfl (fun cc86 => ?_) (fun cc86 => ?_)
                  ·
                    have f91 := zneI cc86
                    refine zp_seg (pc' := 100) (lv' := [(7, .int (y7_27 + 1)), (6, .int (y6_27 ||| 0)), (0, .ref m), (1, .ref a), (2, .ref b), (3, .int e), (4, .int y4_3), (5, .int y5_12)]) (st' := []) [(93, .iconst 0), (94, .ior), (95, .istore 6), (97, .iinc 7 1)] (by decide +kernel) rfl ?_
                    have k92 := zaddC y7_27 1 (n := 1) (by decide) (by omega) (by omega)
                    generalize ev100 : (y7_27 + 1 : Int32) = v100 at k92 ⊢
                    have kv100 := zrng v100
                    generalize ev100_93 : (y6_27 ||| 0 : Int32) = v100_93
                    have kv100_93 := zrng v100_93
                    refine zp_seg (pc' := 27) (lv' := [(7, .int v100), (6, .int v100_93), (0, .ref m), (1, .ref a), (2, .ref b), (3, .int e), (4, .int y4_3), (5, .int y5_12)]) (st' := []) [(100, .goto (-73))] (by decide +kernel) rfl ?_
                    have hz94 : (v100.toNatClampNeg : Int) = v100.toInt := znat (by first | omega | decide)
                    exact (ih27 v100_93 v100 (by first | assumption | omega | decide) (by first | assumption | omega | decide) (by omega)).more (zfa1 rfl (zfa1 rfl (zfa1 rfl (zfa1 rfl (zfa1 rfl (zfa1 rfl (zfa1 rfl (zfa1 rfl (zfa0)))))))))
                  ·
                    replace cc86 := Classical.not_not.mp cc86
                    have f95 := zeqI cc86
                    refine zp_seg (pc' := 100) (lv' := [(7, .int (y7_27 + 1)), (6, .int (y6_27 ||| 1)), (0, .ref m), (1, .ref a), (2, .ref b), (3, .int e), (4, .int y4_3), (5, .int y5_12)]) (st' := []) [(89, .iconst 1), (90, .goto 4), (94, .ior), (95, .istore 6), (97, .iinc 7 1)] (by decide +kernel) rfl ?_
                    have k96 := zaddC y7_27 1 (n := 1) (by decide) (by omega) (by omega)
                    generalize ev100 : (y7_27 + 1 : Int32) = v100 at k96 ⊢
                    have kv100 := zrng v100
                    generalize ev100_97 : (y6_27 ||| 1 : Int32) = v100_97
                    have kv100_97 := zrng v100_97
                    refine zp_seg (pc' := 27) (lv' := [(7, .int v100), (6, .int v100_97), (0, .ref m), (1, .ref a), (2, .ref b), (3, .int e), (4, .int y4_3), (5, .int y5_12)]) (st' := []) [(100, .goto (-73))] (by decide +kernel) rfl ?_
                    have hz98 : (v100.toNatClampNeg : Int) = v100.toInt := znat (by first | omega | decide)
                    exact (ih27 v100_97 v100 (by first | assumption | omega | decide) (by first | assumption | omega | decide) (by omega)).more (zfa1 rfl (zfa1 rfl (zfa1 rfl (zfa1 rfl (zfa1 rfl (zfa1 rfl (zfa1 rfl (zfa1 rfl (zfa0)))))))))
          have hl99 : (0 : Int32).toInt = 0 := by decide
          have hz100 : ((0 : Int32).toNatClampNeg : Int) = 0 := by decide
          exact (hL27 _ 0 0 (by first | assumption | omega | decide) (by first | assumption | omega | decide) (Nat.lt_succ_self _)).more (zfa1 rfl (zfa1 rfl (zfa1 rfl (zfa1 rfl (zfa1 rfl (zfa1 rfl (zfa1 rfl (zfa1 rfl (zfa0)))))))))
      have hl101 : (0 : Int32).toInt = 0 := by decide
      have hz102 : ((0 : Int32).toNatClampNeg : Int) = 0 := by decide
      exact (hL12 _ wL3 0 (pm) (pa) (pb) (pc) (pe) zSI.rf (fun _ _ => rfl) (by first | assumption | omega | decide) (by first | assumption | omega | decide) hpT hpa hpb hpc hpe (by
            exact hpl) (Nat.lt_succ_self _)).more (zfa1 rfl (zfa1 rfl (zfa1 rfl (zfa1 rfl (zfa1 rfl (zfa1 rfl (zfa0)))))))
  have hl103 : (0 : Int32).toInt = 0 := by decide
  have hz104 : ((0 : Int32).toNatClampNeg : Int) = 0 := by decide
  exact (hL3 _ w 0 (ga 5) (fax) (fbx) (fcx) (fex) zSI.rf (fun _ _ => rfl) (by first | assumption | omega | decide) (by first | assumption | omega | decide) (by
        exact hT_a) hA_a_3 hA_a_4 hA_a_5 hA_a_6 (by
        exact ⟨hma, hla⟩) (Nat.lt_succ_self _)).more (zfa1 rfl (zfa1 rfl (zfa1 rfl (zfa1 rfl (zfa1 rfl (zfa0))))))
