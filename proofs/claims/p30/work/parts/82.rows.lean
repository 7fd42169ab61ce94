set_option maxHeartbeats 8000000 in
set_option maxRecDepth 100000 in
theorem c_X16_fits {w : zM} {q : zA2} (a : Nat) (hB_a : zB w a q) : zCon 1 zq_X16_fits [.ref a] w (fun v9 w9' => w9' = w ∧ ∃ r9 : Int32, v9 = some (.int r9) ∧ (r9 = 0 ∨ r9 = 1) ∧ ((r9 = 1 → zrw q ≤ 13 ∧ zdn q ≤ 24) ∧ (zrw q ≤ 13 ∧ zdn q ≤ 24 → r9 = 1))) := by
  intro d sz hd
  obtain ⟨d, rfl⟩ : ∃ d9, d = d9 + 1 := ⟨d - 1, by omega⟩
  generalize hPost : (fun (r9' : Option (Option Value)) (w9' : zM) (z9 : Nat) => z9 = sz ∧ ∃ v9, r9' = some v9 ∧ (w9' = w ∧ ∃ r9 : Int32, v9 = some (.int r9) ∧ (r9 = 0 ∨ r9 = 1) ∧ ((r9 = 1 → zrw q ≤ 13 ∧ zdn q ≤ 24) ∧ (zrw q ≤ 13 ∧ zdn q ≤ 24 → r9 = 1)))) = Post
  show zP (d + 1) zq_X16_fits 0 [(0, .ref a)] [] w sz 0 0 Post
  obtain ⟨na, hQa1, hQa2, hQa3, hQa4, hQa5, hQa6⟩ := id hB_a
  have kna := zrng na
  refine zp_seg (pc' := 1) (lv' := [(0, .ref a)]) (st' := [.ref a]) [(0, .aload_n 0)] (by decide +kernel) rfl ?_
  refine zr_get (idx := 93) (k := 1) (v := .int na) (by decide +kernel) (by decide +kernel) hQa1 rfl ?_
  refine zp_seg (pc' := 6) (lv' := [(0, .ref a)]) (st' := [.int 13, .int na]) [(4, .bipush 13)] (by decide +kernel) rfl ?_
  refine zp_if (i := .if_icmp .gt 7) (c := 13 < na) (t := 13) (e := 9) (lv' := [(0, .ref a)]) (st' := []) (by decide +kernel) rfl (fun cc6 => ?_) (fun cc6 => ?_)
  ·
    have k2 := zrng na
    have f3 := zltI cc6
    rw [show (13 : Int32).toInt = 13 from by decide] at f3
    refine zp_seg (pc' := 17) (lv' := [(2, .int 0), (1, .int 0), (0, .ref a)]) (st' := []) [(13, .iconst 0), (14, .istore_n 1), (15, .iconst 0), (16, .istore_n 2)] (by decide +kernel) rfl ?_
    have hL17 : ∀ (mm17 : Nat) (y1_17 : Int32) (y2_17 : Int32), ((y1_17 = 0 ∨ y1_17 = 1)) → (0 ≤ y2_17.toInt) → (y2_17.toInt ≤ (zrw q : Int)) → (y1_17 = 1 → zrw q ≤ 13 ∧ ∀ j, j < y2_17.toNatClampNeg → zln (q.1 j) ≤ 25) → (y1_17 = 0 → ¬ (zrw q ≤ 13 ∧ zdn q ≤ 24)) → (100 - y2_17.toInt).toNat < mm17 → zP (d + 1) zq_X16_fits 17 [(0, .ref a), (1, .int y1_17), (2, .int y2_17)] [] w sz 0 0 Post := by
      intro mm17
      induction mm17 with
      | zero => intros; omega
      | succ mm17 ih17 =>
      intro y1_17 y2_17 hi17_0 hi17_1 hi17_2 hF hG hmu17
      have ky1_17 := zrng y1_17
      have ky2_17 := zrng y2_17
      have hz4 : (y2_17.toNatClampNeg : Int) = y2_17.toInt := znat (by first | omega | decide)
      refine zp_seg (pc' := 19) (lv' := [(0, .ref a), (1, .int y1_17), (2, .int y2_17)]) (st' := [.ref a, .int y2_17]) [(17, .iload_n 2), (18, .aload_n 0)] (by decide +kernel) rfl ?_
      refine zr_get (idx := 93) (k := 1) (v := .int na) (by decide +kernel) (by decide +kernel) hQa1 rfl ?_
      refine zp_if (i := .if_icmp .ge 33) (c := na ≤ y2_17) (t := 55) (e := 25) (lv' := [(0, .ref a), (1, .int y1_17), (2, .int y2_17)]) (st' := []) (by decide +kernel) rfl (fun cc22 => ?_) (fun cc22 => ?_)
      ·
        have f5 := zleI cc22
        refine zp_seg (pc' := 56) (lv' := [(0, .ref a), (1, .int y1_17), (2, .int y2_17)]) (st' := [.int y1_17]) [(55, .iload_n 1)] (by decide +kernel) rfl ?_
        refine zr_retB (by decide +kernel) rfl hi17_0 ?_
        rw [← hPost]; exact ⟨rfl, _, rfl, rfl, _, rfl, hi17_0, (by
              first
              | exact ⟨fun e => absurd (cc26.symm.trans e) (by decide), fun e => absurd e (hG cc26)⟩
              | exact ⟨fun e => ⟨(hF e).1, zdn_min (zdn_row fun j hj => (hF e).2 j (by omega))⟩, fun e => hi17_0.resolve_left fun k => absurd e (hG k)⟩)⟩
      ·
        have f6 := znleI cc22
        refine zp_seg (pc' := 26) (lv' := [(0, .ref a), (1, .int y1_17), (2, .int y2_17)]) (st' := [.int y1_17]) [(25, .iload_n 1)] (by decide +kernel) rfl ?_
        refine zp_if (i := .ifCond .eq 29) (c := y1_17 = 0) (t := 55) (e := 29) (lv' := [(0, .ref a), (1, .int y1_17), (2, .int y2_17)]) (st' := []) (by decide +kernel) rfl (fun cc26 => ?_) (fun cc26 => ?_)
        ·
          have f8 := zeqI cc26
          rw [show (0 : Int32).toInt = 0 from by decide] at f8
          refine zp_seg (pc' := 56) (lv' := [(0, .ref a), (1, .int y1_17), (2, .int y2_17)]) (st' := [.int y1_17]) [(55, .iload_n 1)] (by decide +kernel) rfl ?_
          refine zr_retB (by decide +kernel) rfl hi17_0 ?_
          rw [← hPost]; exact ⟨rfl, _, rfl, rfl, _, rfl, hi17_0, (by
                first
                | exact ⟨fun e => absurd (cc26.symm.trans e) (by decide), fun e => absurd e (hG cc26)⟩
                | exact ⟨fun e => ⟨(hF e).1, zdn_min (zdn_row fun j hj => (hF e).2 j (by omega))⟩, fun e => hi17_0.resolve_left fun k => absurd e (hG k)⟩)⟩
        ·
          have f10 := zneI cc26
          rw [show (0 : Int32).toInt = 0 from by decide] at f10
          refine zp_seg (pc' := 30) (lv' := [(0, .ref a), (1, .int y1_17), (2, .int y2_17)]) (st' := [.ref a]) [(29, .aload_n 0)] (by decide +kernel) rfl ?_
          refine zr_get (idx := 98) (k := 0) (v := .ref (a + 1)) (by decide +kernel) (by decide +kernel) hQa1 rfl ?_
          refine zp_seg (pc' := 34) (lv' := [(0, .ref a), (1, .int y1_17), (2, .int y2_17)]) (st' := [.int y2_17, .ref (a + 1)]) [(33, .iload_n 2)] (by decide +kernel) rfl ?_
          refine zr_aald (v := .ref (a + 2 + 2 * y2_17.toNatClampNeg)) (by decide +kernel) hQa2 (by decide) (zin (by first | omega | decide) (by first | omega | decide)) (zbr_at (by omega)) ?_
          have hrow11 := hB_a.row (y2_17.toNatClampNeg) (by omega)
          obtain ⟨n12, f13, hu14, hu15, hu16, hu17, hu18⟩ := id hrow11
          have kn12 := zrng n12
          refine zr_get (idx := 25) (k := 1) (v := .int n12) (by decide +kernel) (by decide +kernel) hu14 rfl ?_
          refine zp_seg (pc' := 40) (lv' := [(0, .ref a), (1, .int y1_17), (2, .int y2_17)]) (st' := [.int 25, .int n12]) [(38, .bipush 25)] (by decide +kernel) rfl ?_
          refine zp_if (i := .if_icmp .gt 7) (c := 25 < n12) (t := 47) (e := 43) (lv' := [(0, .ref a), (1, .int y1_17), (2, .int y2_17)]) (st' := []) (by decide +kernel) rfl (fun cc40 => ?_) (fun cc40 => ?_)
          ·
            have f20 := zltI cc40
            rw [show (25 : Int32).toInt = 25 from by decide] at f20
            refine zp_seg (pc' := 52) (lv' := [(2, .int (y2_17 + 1)), (1, .int 0), (0, .ref a)]) (st' := []) [(47, .iconst 0), (48, .istore_n 1), (49, .iinc 2 1)] (by decide +kernel) rfl ?_
            have k21 := zaddC y2_17 1 (n := 1) (by decide) (by omega) (by omega)
            generalize ev52 : (y2_17 + 1 : Int32) = v52 at k21 ⊢
            have kv52 := zrng v52
            refine zp_seg (pc' := 17) (lv' := [(2, .int v52), (1, .int 0), (0, .ref a)]) (st' := []) [(52, .goto (-35))] (by decide +kernel) rfl ?_
            have hl22 : (0 : Int32).toInt = 0 := by decide
            have hz23 : (v52.toNatClampNeg : Int) = v52.toInt := znat (by first | omega | decide)
            exact (ih17 0 v52 (by first | assumption | omega | decide) (by first | assumption | omega | decide) (by first | assumption | omega | decide) (by
                  first
                  | exact fun e => absurd e (by decide)
                  | (intro _
                     have h9 := hF (hi17_0.resolve_left cc26)
                     refine ⟨h9.1, fun j hj => ?_⟩
                     by_cases e : j = y2_17.toNatClampNeg
                     · rw [e]; omega
                     · exact h9.2 j (by omega))) (by
                  first
                  | exact fun e => absurd e (by decide)
                  | (intro _
                     have h9 := zdn_le q y2_17.toNatClampNeg
                     omega)) (by omega)).more (zfa1 rfl (zfa1 rfl (zfa1 rfl (zfa0))))
          ·
            have f25 := znltI cc40
            rw [show (25 : Int32).toInt = 25 from by decide] at f25
            refine zp_seg (pc' := 52) (lv' := [(2, .int (y2_17 + 1)), (1, .int 1), (0, .ref a)]) (st' := []) [(43, .iconst 1), (44, .goto 4), (48, .istore_n 1), (49, .iinc 2 1)] (by decide +kernel) rfl ?_
            have k26 := zaddC y2_17 1 (n := 1) (by decide) (by omega) (by omega)
            generalize ev52 : (y2_17 + 1 : Int32) = v52 at k26 ⊢
            have kv52 := zrng v52
            refine zp_seg (pc' := 17) (lv' := [(2, .int v52), (1, .int 1), (0, .ref a)]) (st' := []) [(52, .goto (-35))] (by decide +kernel) rfl ?_
            have hl27 : (1 : Int32).toInt = 1 := by decide
            have hz28 : (v52.toNatClampNeg : Int) = v52.toInt := znat (by first | omega | decide)
            exact (ih17 1 v52 (by first | assumption | omega | decide) (by first | assumption | omega | decide) (by first | assumption | omega | decide) (by
                  first
                  | exact fun e => absurd e (by decide)
                  | (intro _
                     have h9 := hF (hi17_0.resolve_left cc26)
                     refine ⟨h9.1, fun j hj => ?_⟩
                     by_cases e : j = y2_17.toNatClampNeg
                     · rw [e]; omega
                     · exact h9.2 j (by omega))) (by
                  first
                  | exact fun e => absurd e (by decide)
                  | (intro _
                     have h9 := zdn_le q y2_17.toNatClampNeg
                     omega)) (by omega)).more (zfa1 rfl (zfa1 rfl (zfa1 rfl (zfa0))))
    have hl29 : (0 : Int32).toInt = 0 := by decide
    have hz30 : ((0 : Int32).toNatClampNeg : Int) = 0 := by decide
    exact (hL17 _ 0 0 (by first | assumption | omega | decide) (by first | assumption | omega | decide) (by first | assumption | omega | decide) (by
          first
          | exact fun e => absurd e (by decide)
          | exact fun _ => ⟨by omega, fun j hj => absurd hj (by omega)⟩) (by
          first
          | exact fun e => absurd e (by decide)
          | exact fun _ => by omega) (Nat.lt_succ_self _)).more (zfa1 rfl (zfa1 rfl (zfa1 rfl (zfa0))))
  ·
    have k32 := zrng na
    have f33 := znltI cc6
    rw [show (13 : Int32).toInt = 13 from by decide] at f33
    refine zp_seg (pc' := 17) (lv' := [(2, .int 0), (1, .int 1), (0, .ref a)]) (st' := []) [(9, .iconst 1), (10, .goto 4), (14, .istore_n 1), (15, .iconst 0), (16, .istore_n 2)] (by decide +kernel) rfl ?_
    have hL17 : ∀ (mm17 : Nat) (y1_17 : Int32) (y2_17 : Int32), ((y1_17 = 0 ∨ y1_17 = 1)) → (0 ≤ y2_17.toInt) → (y2_17.toInt ≤ (zrw q : Int)) → (y1_17 = 1 → zrw q ≤ 13 ∧ ∀ j, j < y2_17.toNatClampNeg → zln (q.1 j) ≤ 25) → (y1_17 = 0 → ¬ (zrw q ≤ 13 ∧ zdn q ≤ 24)) → (100 - y2_17.toInt).toNat < mm17 → zP (d + 1) zq_X16_fits 17 [(0, .ref a), (1, .int y1_17), (2, .int y2_17)] [] w sz 0 0 Post := by
      intro mm17
      induction mm17 with
      | zero => intros; omega
      | succ mm17 ih17 =>
      intro y1_17 y2_17 hi17_0 hi17_1 hi17_2 hF hG hmu17
      have ky1_17 := zrng y1_17
      have ky2_17 := zrng y2_17
      have hz34 : (y2_17.toNatClampNeg : Int) = y2_17.toInt := znat (by first | omega | decide)
      refine zp_seg (pc' := 19) (lv' := [(0, .ref a), (1, .int y1_17), (2, .int y2_17)]) (st' := [.ref a, .int y2_17]) [(17, .iload_n 2), (18, .aload_n 0)] (by decide +kernel) rfl ?_
      refine zr_get (idx := 93) (k := 1) (v := .int na) (by decide +kernel) (by decide +kernel) hQa1 rfl ?_
      refine zp_if (i := .if_icmp .ge 33) (c := na ≤ y2_17) (t := 55) (e := 25) (lv' := [(0, .ref a), (1, .int y1_17), (2, .int y2_17)]) (st' := []) (by decide +kernel) rfl (fun cc22 => ?_) (fun cc22 => ?_)
      ·
        have f35 := zleI cc22
        refine zp_seg (pc' := 56) (lv' := [(0, .ref a), (1, .int y1_17), (2, .int y2_17)]) (st' := [.int y1_17]) [(55, .iload_n 1)] (by decide +kernel) rfl ?_
        refine zr_retB (by decide +kernel) rfl hi17_0 ?_
        rw [← hPost]; exact ⟨rfl, _, rfl, rfl, _, rfl, hi17_0, (by
              first
              | exact ⟨fun e => absurd (cc26.symm.trans e) (by decide), fun e => absurd e (hG cc26)⟩
              | exact ⟨fun e => ⟨(hF e).1, zdn_min (zdn_row fun j hj => (hF e).2 j (by omega))⟩, fun e => hi17_0.resolve_left fun k => absurd e (hG k)⟩)⟩
      ·
        have f36 := znleI cc22
        refine zp_seg (pc' := 26) (lv' := [(0, .ref a), (1, .int y1_17), (2, .int y2_17)]) (st' := [.int y1_17]) [(25, .iload_n 1)] (by decide +kernel) rfl ?_
        refine zp_if (i := .ifCond .eq 29) (c := y1_17 = 0) (t := 55) (e := 29) (lv' := [(0, .ref a), (1, .int y1_17), (2, .int y2_17)]) (st' := []) (by decide +kernel) rfl (fun cc26 => ?_) (fun cc26 => ?_)
        ·
          have f38 := zeqI cc26
          rw [show (0 : Int32).toInt = 0 from by decide] at f38
          refine zp_seg (pc' := 56) (lv' := [(0, .ref a), (1, .int y1_17), (2, .int y2_17)]) (st' := [.int y1_17]) [(55, .iload_n 1)] (by decide +kernel) rfl ?_
          refine zr_retB (by decide +kernel) rfl hi17_0 ?_
          rw [← hPost]; exact ⟨rfl, _, rfl, rfl, _, rfl, hi17_0, (by
                first
                | exact ⟨fun e => absurd (cc26.symm.trans e) (by decide), fun e => absurd e (hG cc26)⟩
                | exact ⟨fun e => ⟨(hF e).1, zdn_min (zdn_row fun j hj => (hF e).2 j (by omega))⟩, fun e => hi17_0.resolve_left fun k => absurd e (hG k)⟩)⟩
        ·
          have f40 := zneI cc26
          rw [show (0 : Int32).toInt = 0 from by decide] at f40
          refine zp_seg (pc' := 30) (lv' := [(0, .ref a), (1, .int y1_17), (2, .int y2_17)]) (st' := [.ref a]) [(29, .aload_n 0)] (by decide +kernel) rfl ?_
          refine zr_get (idx := 98) (k := 0) (v := .ref (a + 1)) (by decide +kernel) (by decide +kernel) hQa1 rfl ?_
          refine zp_seg (pc' := 34) (lv' := [(0, .ref a), (1, .int y1_17), (2, .int y2_17)]) (st' := [.int y2_17, .ref (a + 1)]) [(33, .iload_n 2)] (by decide +kernel) rfl ?_
          refine zr_aald (v := .ref (a + 2 + 2 * y2_17.toNatClampNeg)) (by decide +kernel) hQa2 (by decide) (zin (by first | omega | decide) (by first | omega | decide)) (zbr_at (by omega)) ?_
          have hrow41 := hB_a.row (y2_17.toNatClampNeg) (by omega)
          obtain ⟨n42, f43, hu44, hu45, hu46, hu47, hu48⟩ := id hrow41
          have kn42 := zrng n42
          refine zr_get (idx := 25) (k := 1) (v := .int n42) (by decide +kernel) (by decide +kernel) hu44 rfl ?_
          refine zp_seg (pc' := 40) (lv' := [(0, .ref a), (1, .int y1_17), (2, .int y2_17)]) (st' := [.int 25, .int n42]) [(38, .bipush 25)] (by decide +kernel) rfl ?_
          refine zp_if (i := .if_icmp .gt 7) (c := 25 < n42) (t := 47) (e := 43) (lv' := [(0, .ref a), (1, .int y1_17), (2, .int y2_17)]) (st' := []) (by decide +kernel) rfl (fun cc40 => ?_) (fun cc40 => ?_)
          ·
            have f50 := zltI cc40
            rw [show (25 : Int32).toInt = 25 from by decide] at f50
            refine zp_seg (pc' := 52) (lv' := [(2, .int (y2_17 + 1)), (1, .int 0), (0, .ref a)]) (st' := []) [(47, .iconst 0), (48, .istore_n 1), (49, .iinc 2 1)] (by decide +kernel) rfl ?_
            have k51 := zaddC y2_17 1 (n := 1) (by decide) (by omega) (by omega)
            generalize ev52 : (y2_17 + 1 : Int32) = v52 at k51 ⊢
            have kv52 := zrng v52
            refine zp_seg (pc' := 17) (lv' := [(2, .int v52), (1, .int 0), (0, .ref a)]) (st' := []) [(52, .goto (-35))] (by decide +kernel) rfl ?_
            have hl52 : (0 : Int32).toInt = 0 := by decide
            have hz53 : (v52.toNatClampNeg : Int) = v52.toInt := znat (by first | omega | decide)
            exact (ih17 0 v52 (by first | assumption | omega | decide) (by first | assumption | omega | decide) (by first | assumption | omega | decide) (by
                  first
                  | exact fun e => absurd e (by decide)
                  | (intro _
                     have h9 := hF (hi17_0.resolve_left cc26)
                     refine ⟨h9.1, fun j hj => ?_⟩
                     by_cases e : j = y2_17.toNatClampNeg
                     · rw [e]; omega
                     · exact h9.2 j (by omega))) (by
                  first
                  | exact fun e => absurd e (by decide)
                  | (intro _
                     have h9 := zdn_le q y2_17.toNatClampNeg
                     omega)) (by omega)).more (zfa1 rfl (zfa1 rfl (zfa1 rfl (zfa0))))
          ·
            have f55 := znltI cc40
            rw [show (25 : Int32).toInt = 25 from by decide] at f55
            refine zp_seg (pc' := 52) (lv' := [(2, .int (y2_17 + 1)), (1, .int 1), (0, .ref a)]) (st' := []) [(43, .iconst 1), (44, .goto 4), (48, .istore_n 1), (49, .iinc 2 1)] (by decide +kernel) rfl ?_
            have k56 := zaddC y2_17 1 (n := 1) (by decide) (by omega) (by omega)
            generalize ev52 : (y2_17 + 1 : Int32) = v52 at k56 ⊢
            have kv52 := zrng v52
            refine zp_seg (pc' := 17) (lv' := [(2, .int v52), (1, .int 1), (0, .ref a)]) (st' := []) [(52, .goto (-35))] (by decide +kernel) rfl ?_
            have hl57 : (1 : Int32).toInt = 1 := by decide
            have hz58 : (v52.toNatClampNeg : Int) = v52.toInt := znat (by first | omega | decide)
            exact (ih17 1 v52 (by first | assumption | omega | decide) (by first | assumption | omega | decide) (by first | assumption | omega | decide) (by
                  first
                  | exact fun e => absurd e (by decide)
                  | (intro _
                     have h9 := hF (hi17_0.resolve_left cc26)
                     refine ⟨h9.1, fun j hj => ?_⟩
                     by_cases e : j = y2_17.toNatClampNeg
                     · rw [e]; omega
                     · exact h9.2 j (by omega))) (by
                  first
                  | exact fun e => absurd e (by decide)
                  | (intro _
                     have h9 := zdn_le q y2_17.toNatClampNeg
                     omega)) (by omega)).more (zfa1 rfl (zfa1 rfl (zfa1 rfl (zfa0))))
    have hl59 : (1 : Int32).toInt = 1 := by decide
    have hl60 : (0 : Int32).toInt = 0 := by decide
    have hz61 : ((0 : Int32).toNatClampNeg : Int) = 0 := by decide
    exact (hL17 _ 1 0 (by first | assumption | omega | decide) (by first | assumption | omega | decide) (by first | assumption | omega | decide) (by
          first
          | exact fun e => absurd e (by decide)
          | exact fun _ => ⟨by omega, fun j hj => absurd hj (by omega)⟩) (by
          first
          | exact fun e => absurd e (by decide)
          | exact fun _ => by omega) (Nat.lt_succ_self _)).more (zfa1 rfl (zfa1 rfl (zfa1 rfl (zfa0))))

theorem zx_X16_shiftNS_0 {to : Nat}  : to < to + 2 ∨ to + 2 + 128 ≤ to := by omega
theorem zx_X16_shiftNS_1 {to x : Nat} (h0 : x < to ∨ to + 130 ≤ x) : x < to + 2 ∨ to + 2 + 128 ≤ x := by omega
theorem zx_X16_shiftNS_2 {to x : Nat} (h0 : x < to ∨ to + 130 ≤ x) : x ≠ to := by omega
theorem zx_X16_shiftNS_3 {to : Nat}  : (to + 1) < to + 2 ∨ to + 2 + 128 ≤ (to + 1) := by omega
set_option maxHeartbeats 8000000 in
set_option maxRecDepth 100000 in
theorem c_X16_shiftNS {w : zM} {q : zA2} (to : Nat) (v : Int32) (hB_to : zB w to q) (h_v : zr1 v) : zCon 3 zq_X16_shiftN [.ref to, .ref to, .int v] w (fun v9 w9' => ∃ P9 : zA2, zSI w w9' ∧ (∀ x, (x < to ∨ to + 130 ≤ x) → w9' x = w x) ∧ zB w9' to P9 ∧ (zrw P9 = zrw q ∧ zdn P9 ≤ zdn q) ∧ v9 = none) := by
  intro d sz hd
  obtain ⟨d, rfl⟩ : ∃ d9, d = d9 + 1 := ⟨d - 1, by omega⟩
  generalize hPost : (fun (r9' : Option (Option Value)) (w9' : zM) (z9 : Nat) => z9 = sz ∧ ∃ v9, r9' = some v9 ∧ (∃ P9 : zA2, zSI w w9' ∧ (∀ x, (x < to ∨ to + 130 ≤ x) → w9' x = w x) ∧ zB w9' to P9 ∧ (zrw P9 = zrw q ∧ zdn P9 ≤ zdn q) ∧ v9 = none)) = Post
  show zP (d + 1) zq_X16_shiftN 0 [(0, .ref to), (1, .ref to), (2, .int v)] [] w sz 0 0 Post
  have k1 := zrng v
  obtain ⟨n9, hQ91, hQ92, hQ93, hQ94, hQ95, hQ96⟩ := id hB_to
  have kn9 := zrng n9
  have hBo9 := hB_to.o
  refine zp_seg (pc' := 2) (lv' := [(3, .int 0), (0, .ref to), (1, .ref to), (2, .int v)]) (st' := []) [(0, .iconst 0), (1, .istore_n 3)] (by decide +kernel) rfl ?_
  have hL2 : ∀ (mm2 : Nat) (wL2 : zM) (y3_2 : Int32) (T : Nat → zA1), (zSI w wL2) → (∀ x, (x < to + 2 ∨ to + 2 + 128 ≤ x) → wL2 x = w x) → (0 ≤ y3_2.toInt) → (y3_2.toInt ≤ (zrw q : Int)) → (∀ t, t < y3_2.toNatClampNeg → zU wL2 (to + 2 + 2 * t) 200 (T t) ∧ zln (T t) = zln (q.1 t)) → (∀ t, y3_2.toNatClampNeg ≤ t → t < zrw q → zU wL2 (to + 2 + 2 * t) 200 (q.1 t)) → (2147483647 - y3_2.toInt).toNat < mm2 → zP (d + 1) zq_X16_shiftN 2 [(0, .ref to), (1, .ref to), (2, .int v), (3, .int y3_2)] [] wL2 sz 0 0 Post := by
    intro mm2
    induction mm2 with
    | zero => intros; omega
    | succ mm2 ih2 =>
    intro wL2 y3_2 T hsiL2 heqL2 hi2_0 hi2_1 hT hA hmu2
    have ky3_2 := zrng y3_2
    have hz2 : (y3_2.toNatClampNeg : Int) = y3_2.toInt := znat (by first | omega | decide)
    refine zp_seg (pc' := 4) (lv' := [(0, .ref to), (1, .ref to), (2, .int v), (3, .int y3_2)]) (st' := [.ref to, .int y3_2]) [(2, .iload_n 3), (3, .aload_n 1)] (by decide +kernel) rfl ?_
    have hb3 : wL2 to = some (.inl (11, [.ref (to + 1), .int n9])) := (heqL2 to (zx_X16_shiftNS_0)).trans hQ91
    refine zr_get (idx := 93) (k := 1) (v := .int n9) (by decide +kernel) (by decide +kernel) hb3 rfl ?_
    refine zp_if (i := .if_icmp .ge 25) (c := n9 ≤ y3_2) (t := 32) (e := 10) (lv' := [(0, .ref to), (1, .ref to), (2, .int v), (3, .int y3_2)]) (st' := []) (by decide +kernel) rfl (fun cc7 => ?_) (fun cc7 => ?_)
    ·
      have k4 := zrng n9
      have f5 := zleI cc7
      refine zp_seg (pc' := 34) (lv' := [(0, .ref to), (1, .ref to), (2, .int v), (3, .int y3_2)]) (st' := [.ref to, .ref to]) [(32, .aload_n 0), (33, .aload_n 1)] (by decide +kernel) rfl ?_
      refine zr_get (idx := 93) (k := 1) (v := .int n9) (by decide +kernel) (by decide +kernel) hb3 rfl ?_
      refine zr_put2 (idx := 93) (k := 1) (fs2 := [.ref (to + 1), .int n9]) (by decide +kernel) (by decide +kernel) hb3 (Nat.le_of_ble_eq_true rfl) rfl rfl rfl ?_
      show zP (d + 1) zq_X16_shiftN 40 [(0, .ref to), (1, .ref to), (2, .int v), (3, .int y3_2)] [] (zup wL2 to (.inl (11, [.ref (to + 1), .int n9]))) sz 0 0 Post
      obtain ⟨w37, ew37⟩ : ∃ wz9, wz9 = zup wL2 to (.inl (11, [.ref (to + 1), .int n9])) := ⟨_, rfl⟩
      have hsi37 : zSI wL2 w37 := by rw [ew37]; exact zSI.setB hb3
      have heq37 : ∀ x, x ≠ to → w37 x = wL2 x := fun x hx => by rw [ew37]; exact zup_n hx
      have hc37 : w37 to = some (.inl (11, [.ref (to + 1), .int n9])) := by rw [ew37]; exact zup_s
      rw [← ew37]
      clear ew37
      have hb6 := hBo9.si (hsiL2.tr hsi37)
      have hsm9 := zbOf_same (T := T) (q := q) (fun j hj => (hT j (by omega)).2)
      have hBn9 : zB w37 to (zbOf T (zrw q)) := zB.mk hb6 hc37 (by omega) (by omega) (fun j hj => by
        rw [zbOf_y (by omega)]
        exact (hT j (by omega)).1.ag (fun x g1 g2 => (heq37 x (by omega))))
      have hoffend : ∀ x, (x < to ∨ to + 130 ≤ x) → w37 x = w x := fun x hx => ((heq37 x (zx_X16_shiftNS_2 hx)).trans (heqL2 x (zx_X16_shiftNS_1 hx)))
      refine zr_retV (by decide +kernel) rfl ?_
      rw [← hPost]; exact ⟨rfl, _, rfl, (zbOf T (zrw q)), (hsiL2.tr hsi37), hoffend, (by first | exact hBn9 | (have z9 := hBn9; simpa using z9)), (by
            exact hsm9), rfl⟩
    ·
      have k7 := zrng n9
      have f8 := znleI cc7
      refine zp_seg (pc' := 11) (lv' := [(0, .ref to), (1, .ref to), (2, .int v), (3, .int y3_2)]) (st' := [.ref to]) [(10, .aload_n 0)] (by decide +kernel) rfl ?_
      refine zr_get (idx := 98) (k := 0) (v := .ref (to + 1)) (by decide +kernel) (by decide +kernel) hb3 rfl ?_
      refine zp_seg (pc' := 15) (lv' := [(0, .ref to), (1, .ref to), (2, .int v), (3, .int y3_2)]) (st' := [.int y3_2, .ref (to + 1)]) [(14, .iload_n 3)] (by decide +kernel) rfl ?_
      have hb9 : wL2 (to + 1) = some (.inr (4, 64, zbr to)) := (heqL2 (to + 1) (zx_X16_shiftNS_3)).trans hQ92
      refine zr_aald (v := .ref (to + 2 + 2 * y3_2.toNatClampNeg)) (by decide +kernel) hb9 (by decide) (zin (by first | omega | decide) (by first | omega | decide)) (zbr_at (by omega)) ?_
      refine zp_seg (pc' := 17) (lv' := [(0, .ref to), (1, .ref to), (2, .int v), (3, .int y3_2)]) (st' := [.ref to, .ref (to + 2 + 2 * y3_2.toNatClampNeg)]) [(16, .aload_n 1)] (by decide +kernel) rfl ?_
      refine zr_get (idx := 98) (k := 0) (v := .ref (to + 1)) (by decide +kernel) (by decide +kernel) hb3 rfl ?_
      refine zp_seg (pc' := 21) (lv' := [(0, .ref to), (1, .ref to), (2, .int v), (3, .int y3_2)]) (st' := [.int y3_2, .ref (to + 1), .ref (to + 2 + 2 * y3_2.toNatClampNeg)]) [(20, .iload_n 3)] (by decide +kernel) rfl ?_
      refine zr_aald (v := .ref (to + 2 + 2 * y3_2.toNatClampNeg)) (by decide +kernel) hb9 (by decide) (zin (by first | omega | decide) (by first | omega | decide)) (zbr_at (by omega)) ?_
      have hUa := hA y3_2.toNatClampNeg (by omega) (by omega)
      have hca := hUa.cap
      refine zp_seg (pc' := 23) (lv' := [(0, .ref to), (1, .ref to), (2, .int v), (3, .int y3_2)]) (st' := [.int v, .ref (to + 2 + 2 * y3_2.toNatClampNeg), .ref (to + 2 + 2 * y3_2.toNatClampNeg)]) [(22, .iload_n 2)] (by decide +kernel) rfl ?_
      refine zr_callS (idx := 116) (j := 273) (by decide +kernel) (by decide +kernel) (by decide) (show zMe 273 = some zq_X16_shift from rfl) rfl rfl (Nat.le_of_ble_eq_true rfl) rfl rfl (Nat.le_of_ble_eq_true rfl) (Nat.le_of_ble_eq_true rfl) (c_X16_shiftS (w := wL2) (to + 2 + 2 * y3_2.toNatClampNeg)  v hUa (by first | omega | decide | assumption | exact zr1_1 | exact zr1_0 | fail "num") (by first | omega | decide | assumption | exact zr1_1 | exact zr1_0 | fail "num")) (by omega) (fun v23 w23 hp23 => ?_)
      obtain ⟨P9_23, hsi23, heq23, hp23_0, hp23_1, rfl⟩ := hp23
      show zP _ _ _ _ [] _ _ _ _ _
      refine zp_seg (pc' := 29) (lv' := [(3, .int (y3_2 + 1)), (0, .ref to), (1, .ref to), (2, .int v)]) (st' := []) [(26, .iinc 3 1)] (by decide +kernel) rfl ?_
      have k10 := zaddC y3_2 1 (n := 1) (by decide) (by omega) (by omega)
      generalize ev29 : (y3_2 + 1 : Int32) = v29 at k10 ⊢
      have kv29 := zrng v29
      refine zp_seg (pc' := 2) (lv' := [(3, .int v29), (0, .ref to), (1, .ref to), (2, .int v)]) (st' := []) [(29, .goto (-27))] (by decide +kernel) rfl ?_
      have hz11 : (v29.toNatClampNeg : Int) = v29.toInt := znat (by first | omega | decide)
      exact (ih2 w23 v29 (fun j => if j = y3_2.toNatClampNeg then P9_23 else T j) (hsiL2.tr hsi23) (fun x hx => ((heq23 x (by omega)).trans (heqL2 x hx))) (by first | assumption | omega | decide) (by first | assumption | omega | decide) (by
            intro t ht
            show zU w23 (to + 2 + 2 * t) 200 (if t = y3_2.toNatClampNeg then P9_23 else T t) ∧ zln (if t = y3_2.toNatClampNeg then P9_23 else T t) = _
            by_cases e : t = y3_2.toNatClampNeg
            · rw [if_pos e, e]; exact ⟨hp23_0, hp23_1⟩
            · rw [if_neg e]; exact ⟨(hT t (by omega)).1.ag (fun x g1 g2 => heq23 x (by omega)), (hT t (by omega)).2⟩) (by
            exact fun t h1 h2 => (hA t (by omega) h2).ag (fun x g1 g2 => heq23 x (by omega))) (by omega)).more (zfa1 rfl (zfa1 rfl (zfa1 rfl (zfa1 rfl (zfa0)))))
  have hl12 : (0 : Int32).toInt = 0 := by decide
  have hz13 : ((0 : Int32).toNatClampNeg : Int) = 0 := by decide
  exact (hL2 _ w 0 (fun _ => zaZ) zSI.rf (fun _ _ => rfl) (by first | assumption | omega | decide) (by first | assumption | omega | decide) (by
        exact fun t ht => absurd ht (by omega)) (by
        exact fun t _ ht => hQ95 t ht) (Nat.lt_succ_self _)).more (zfa1 rfl (zfa1 rfl (zfa1 rfl (zfa1 rfl (zfa0)))))

theorem zx_X16_shiftND_0 {a to : Nat} (h0 : to + 130 ≤ a ∨ a + 130 ≤ to) : a < to + 2 ∨ to + 2 + 128 ≤ a := by omega
theorem zx_X16_shiftND_1 {to x : Nat} (h0 : x < to ∨ to + 130 ≤ x) : x < to + 2 ∨ to + 2 + 128 ≤ x := by omega
theorem zx_X16_shiftND_2 {to x : Nat} (h0 : x < to ∨ to + 130 ≤ x) : x ≠ to := by omega
theorem zx_X16_shiftND_3 {a to : Nat} (h0 : to + 130 ≤ a ∨ a + 130 ≤ to) : (a + 1) < to + 2 ∨ to + 2 + 128 ≤ (a + 1) := by omega
set_option maxHeartbeats 8000000 in
set_option maxRecDepth 100000 in
theorem c_X16_shiftND {w : zM} {q : zA2} (to : Nat) (a : Nat) (v : Int32) (hBo_to : zBo w to) (hB_a : zB w a q) (hdj : to + 130 ≤ a ∨ a + 130 ≤ to) (h_v : zr1 v) : zCon 3 zq_X16_shiftN [.ref to, .ref a, .int v] w (fun v9 w9' => ∃ P9 : zA2, zSI w w9' ∧ (∀ x, (x < to ∨ to + 130 ≤ x) → w9' x = w x) ∧ zB w9' to P9 ∧ (zrw P9 = zrw q ∧ zdn P9 ≤ zdn q) ∧ v9 = none) := by
  intro d sz hd
  obtain ⟨d, rfl⟩ : ∃ d9, d = d9 + 1 := ⟨d - 1, by omega⟩
  generalize hPost : (fun (r9' : Option (Option Value)) (w9' : zM) (z9 : Nat) => z9 = sz ∧ ∃ v9, r9' = some v9 ∧ (∃ P9 : zA2, zSI w w9' ∧ (∀ x, (x < to ∨ to + 130 ≤ x) → w9' x = w x) ∧ zB w9' to P9 ∧ (zrw P9 = zrw q ∧ zdn P9 ≤ zdn q) ∧ v9 = none)) = Post
  show zP (d + 1) zq_X16_shiftN 0 [(0, .ref to), (1, .ref a), (2, .int v)] [] w sz 0 0 Post
  have k1 := zrng v
  obtain ⟨n9, hQ91, hQ92, hQ93, hQ94, hQ95, hQ96⟩ := id hB_a
  have kn9 := zrng n9
  refine zp_seg (pc' := 2) (lv' := [(3, .int 0), (0, .ref to), (1, .ref a), (2, .int v)]) (st' := []) [(0, .iconst 0), (1, .istore_n 3)] (by decide +kernel) rfl ?_
  have hL2 : ∀ (mm2 : Nat) (wL2 : zM) (y3_2 : Int32) (T : Nat → zA1), (zSI w wL2) → (∀ x, (x < to + 2 ∨ to + 2 + 128 ≤ x) → wL2 x = w x) → (0 ≤ y3_2.toInt) → (y3_2.toInt ≤ (zrw q : Int)) → (∀ t, t < y3_2.toNatClampNeg → zU wL2 (to + 2 + 2 * t) 200 (T t) ∧ zln (T t) = zln (q.1 t)) → (2147483647 - y3_2.toInt).toNat < mm2 → zP (d + 1) zq_X16_shiftN 2 [(0, .ref to), (1, .ref a), (2, .int v), (3, .int y3_2)] [] wL2 sz 0 0 Post := by
    intro mm2
    induction mm2 with
    | zero => intros; omega
    | succ mm2 ih2 =>
    intro wL2 y3_2 T hsiL2 heqL2 hi2_0 hi2_1 hT hmu2
    have ky3_2 := zrng y3_2
    have hz2 : (y3_2.toNatClampNeg : Int) = y3_2.toInt := znat (by first | omega | decide)
    refine zp_seg (pc' := 4) (lv' := [(0, .ref to), (1, .ref a), (2, .int v), (3, .int y3_2)]) (st' := [.ref a, .int y3_2]) [(2, .iload_n 3), (3, .aload_n 1)] (by decide +kernel) rfl ?_
    have hb3 : wL2 a = some (.inl (11, [.ref (a + 1), .int n9])) := (heqL2 a (zx_X16_shiftND_0 hdj)).trans hQ91
    refine zr_get (idx := 93) (k := 1) (v := .int n9) (by decide +kernel) (by decide +kernel) hb3 rfl ?_
    refine zp_if (i := .if_icmp .ge 25) (c := n9 ≤ y3_2) (t := 32) (e := 10) (lv' := [(0, .ref to), (1, .ref a), (2, .int v), (3, .int y3_2)]) (st' := []) (by decide +kernel) rfl (fun cc7 => ?_) (fun cc7 => ?_)
    ·
      have k4 := zrng n9
      have f5 := zleI cc7
      refine zp_seg (pc' := 34) (lv' := [(0, .ref to), (1, .ref a), (2, .int v), (3, .int y3_2)]) (st' := [.ref a, .ref to]) [(32, .aload_n 0), (33, .aload_n 1)] (by decide +kernel) rfl ?_
      refine zr_get (idx := 93) (k := 1) (v := .int n9) (by decide +kernel) (by decide +kernel) hb3 rfl ?_
      have hb11 := hBo_to.si hsiL2
      obtain ⟨n6, hb7, hb8, -⟩ := id hb11
      have kn6 := zrng n6
      refine zr_put2 (idx := 93) (k := 1) (fs2 := [.ref (to + 1), .int n9]) (by decide +kernel) (by decide +kernel) hb7 (Nat.le_of_ble_eq_true rfl) rfl rfl rfl ?_
      show zP (d + 1) zq_X16_shiftN 40 [(0, .ref to), (1, .ref a), (2, .int v), (3, .int y3_2)] [] (zup wL2 to (.inl (11, [.ref (to + 1), .int n9]))) sz 0 0 Post
      obtain ⟨w37, ew37⟩ : ∃ wz9, wz9 = zup wL2 to (.inl (11, [.ref (to + 1), .int n9])) := ⟨_, rfl⟩
      have hsi37 : zSI wL2 w37 := by rw [ew37]; exact zSI.setB hb7
      have heq37 : ∀ x, x ≠ to → w37 x = wL2 x := fun x hx => by rw [ew37]; exact zup_n hx
      have hc37 : w37 to = some (.inl (11, [.ref (to + 1), .int n9])) := by rw [ew37]; exact zup_s
      rw [← ew37]
      clear ew37
      have hb12 := hb11.si hsi37
      have hsm9 := zbOf_same (T := T) (q := q) (fun j hj => (hT j (by omega)).2)
      have hBn9 : zB w37 to (zbOf T (zrw q)) := zB.mk hb12 hc37 (by omega) (by omega) (fun j hj => by
        rw [zbOf_y (by omega)]
        exact (hT j (by omega)).1.ag (fun x g1 g2 => (heq37 x (by omega))))
      have hoffend : ∀ x, (x < to ∨ to + 130 ≤ x) → w37 x = w x := fun x hx => ((heq37 x (zx_X16_shiftND_2 hx)).trans (heqL2 x (zx_X16_shiftND_1 hx)))
      refine zr_retV (by decide +kernel) rfl ?_
      rw [← hPost]; exact ⟨rfl, _, rfl, (zbOf T (zrw q)), (hsiL2.tr hsi37), hoffend, (by first | exact hBn9 | (have z9 := hBn9; simpa using z9)), (by
            exact hsm9), rfl⟩
    ·
      have k13 := zrng n9
      have f14 := znleI cc7
      refine zp_seg (pc' := 11) (lv' := [(0, .ref to), (1, .ref a), (2, .int v), (3, .int y3_2)]) (st' := [.ref to]) [(10, .aload_n 0)] (by decide +kernel) rfl ?_
      have hb20 := hBo_to.si hsiL2
      obtain ⟨n15, hb16, hb17, -⟩ := id hb20
      have kn15 := zrng n15
      refine zr_get (idx := 98) (k := 0) (v := .ref (to + 1)) (by decide +kernel) (by decide +kernel) hb16 rfl ?_
      refine zp_seg (pc' := 15) (lv' := [(0, .ref to), (1, .ref a), (2, .int v), (3, .int y3_2)]) (st' := [.int y3_2, .ref (to + 1)]) [(14, .iload_n 3)] (by decide +kernel) rfl ?_
      refine zr_aald (v := .ref (to + 2 + 2 * y3_2.toNatClampNeg)) (by decide +kernel) hb17 (by decide) (zin (by first | omega | decide) (by first | omega | decide)) (zbr_at (by omega)) ?_
      have hrow21 := hb20.rowo (y3_2.toNatClampNeg) (by omega)
      refine zp_seg (pc' := 17) (lv' := [(0, .ref to), (1, .ref a), (2, .int v), (3, .int y3_2)]) (st' := [.ref a, .ref (to + 2 + 2 * y3_2.toNatClampNeg)]) [(16, .aload_n 1)] (by decide +kernel) rfl ?_
      refine zr_get (idx := 98) (k := 0) (v := .ref (a + 1)) (by decide +kernel) (by decide +kernel) hb3 rfl ?_
      refine zp_seg (pc' := 21) (lv' := [(0, .ref to), (1, .ref a), (2, .int v), (3, .int y3_2)]) (st' := [.int y3_2, .ref (a + 1), .ref (to + 2 + 2 * y3_2.toNatClampNeg)]) [(20, .iload_n 3)] (by decide +kernel) rfl ?_
      have hb22 : wL2 (a + 1) = some (.inr (4, 64, zbr a)) := (heqL2 (a + 1) (zx_X16_shiftND_3 hdj)).trans hQ92
      refine zr_aald (v := .ref (a + 2 + 2 * y3_2.toNatClampNeg)) (by decide +kernel) hb22 (by decide) (zin (by first | omega | decide) (by first | omega | decide)) (zbr_at (by omega)) ?_
      have hUa := (hQ95 y3_2.toNatClampNeg (by omega)).ag (w' := wL2) (fun x g1 g2 => (heqL2 x (by omega)))
      have hca := hUa.cap
      refine zp_seg (pc' := 23) (lv' := [(0, .ref to), (1, .ref a), (2, .int v), (3, .int y3_2)]) (st' := [.int v, .ref (a + 2 + 2 * y3_2.toNatClampNeg), .ref (to + 2 + 2 * y3_2.toNatClampNeg)]) [(22, .iload_n 2)] (by decide +kernel) rfl ?_
      refine zr_callS (idx := 116) (j := 273) (by decide +kernel) (by decide +kernel) (by decide) (show zMe 273 = some zq_X16_shift from rfl) rfl rfl (Nat.le_of_ble_eq_true rfl) rfl rfl (Nat.le_of_ble_eq_true rfl) (Nat.le_of_ble_eq_true rfl) (c_X16_shiftD (w := wL2) (to + 2 + 2 * y3_2.toNatClampNeg) (a + 2 + 2 * y3_2.toNatClampNeg) v hrow21 hUa (by first | omega | decide | assumption | exact zr1_1 | exact zr1_0 | fail "num") (by first | omega | decide | assumption | exact zr1_1 | exact zr1_0 | fail "num") (by first | omega | decide | assumption | exact zr1_1 | exact zr1_0 | fail "num") (by first | omega | decide | assumption | exact zr1_1 | exact zr1_0 | fail "num")) (by omega) (fun v23 w23 hp23 => ?_)
      obtain ⟨P9_23, hsi23, heq23, hp23_0, hp23_1, rfl⟩ := hp23
      show zP _ _ _ _ [] _ _ _ _ _
      refine zp_seg (pc' := 29) (lv' := [(3, .int (y3_2 + 1)), (0, .ref to), (1, .ref a), (2, .int v)]) (st' := []) [(26, .iinc 3 1)] (by decide +kernel) rfl ?_
      have k23 := zaddC y3_2 1 (n := 1) (by decide) (by omega) (by omega)
      generalize ev29 : (y3_2 + 1 : Int32) = v29 at k23 ⊢
      have kv29 := zrng v29
      refine zp_seg (pc' := 2) (lv' := [(3, .int v29), (0, .ref to), (1, .ref a), (2, .int v)]) (st' := []) [(29, .goto (-27))] (by decide +kernel) rfl ?_
      have hz24 : (v29.toNatClampNeg : Int) = v29.toInt := znat (by first | omega | decide)
      exact (ih2 w23 v29 (fun j => if j = y3_2.toNatClampNeg then P9_23 else T j) (hsiL2.tr hsi23) (fun x hx => ((heq23 x (by omega)).trans (heqL2 x hx))) (by first | assumption | omega | decide) (by first | assumption | omega | decide) (by
            intro t ht
            show zU w23 (to + 2 + 2 * t) 200 (if t = y3_2.toNatClampNeg then P9_23 else T t) ∧ zln (if t = y3_2.toNatClampNeg then P9_23 else T t) = _
            by_cases e : t = y3_2.toNatClampNeg
            · rw [if_pos e, e]; exact ⟨hp23_0, hp23_1⟩
            · rw [if_neg e]; exact ⟨(hT t (by omega)).1.ag (fun x g1 g2 => heq23 x (by omega)), (hT t (by omega)).2⟩) (by omega)).more (zfa1 rfl (zfa1 rfl (zfa1 rfl (zfa1 rfl (zfa0)))))
  have hl25 : (0 : Int32).toInt = 0 := by decide
  have hz26 : ((0 : Int32).toNatClampNeg : Int) = 0 := by decide
  exact (hL2 _ w 0 (fun _ => zaZ) zSI.rf (fun _ _ => rfl) (by first | assumption | omega | decide) (by first | assumption | omega | decide) (by
        exact fun t ht => absurd ht (by omega)) (Nat.lt_succ_self _)).more (zfa1 rfl (zfa1 rfl (zfa1 rfl (zfa1 rfl (zfa0)))))
