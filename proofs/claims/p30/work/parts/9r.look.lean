theorem zx_X16_look_0 {m x : Nat} (h0 : x < m ∨ m + 1 ≤ x) : x ≠ m := by omega
theorem zx_X16_look_1 {m : Nat}  : (m + 80) < m ∨ m + 1 ≤ (m + 80) := by omega
theorem zx_X16_look_2 {m : Nat}  : (m + 80) ≠ m := by omega
set_option maxHeartbeats 8000000 in
set_option maxRecDepth 100000 in
theorem c_X16_look {w : zM} {g : Nat → Int32} {r : Nat → Value} {ft : Nat → Int32} {g12 : Int32} {g13 : Int32} (m : Nat) (hm : w m = some (.inl (15, zMo m g r))) (hR_m : zR m w) (htp : 0 ≤ g13.toInt ∧ g13.toInt ≤ g12.toInt ∧ g12.toInt ≤ 400) (hA_m_80 : w (m + 80) = some (.inr (1, 400, .inl ft))) (hdp : zDep ft g13.toNatClampNeg ≤ 20) (hg12 : g 12 = g12) (hg13 : g 13 = g13) : zCon 1 zq_X16_look [.ref m] w (fun v9 w9' => ∃ A9 : Int32, zSI w w9' ∧ (∀ x, (x < m ∨ m + 1 ≤ x) → w9' x = w x) ∧ w9' m = some (.inl (15, zMo m (zs g 13 A9) r)) ∧ ((g13.toInt ≤ A9.toInt ∧ A9.toInt ≤ g12.toInt) ∧ zTd ft g12.toNatClampNeg g13.toNatClampNeg A9.toNatClampNeg) ∧ ∃ r9 : Int32, v9 = some (.int r9) ∧ (r9 = zChr ft g12.toNatClampNeg A9.toNatClampNeg)) := by
  subst hg12
  subst hg13
  intro d sz hd
  obtain ⟨d, rfl⟩ : ∃ d9, d = d9 + 1 := ⟨d - 1, by omega⟩
  generalize hPost : (fun (r9' : Option (Option Value)) (w9' : zM) (z9 : Nat) => z9 = sz ∧ ∃ v9, r9' = some v9 ∧ (∃ A9 : Int32, zSI w w9' ∧ (∀ x, (x < m ∨ m + 1 ≤ x) → w9' x = w x) ∧ w9' m = some (.inl (15, zMo m (zs g 13 A9) r)) ∧ (((g 13).toInt ≤ A9.toInt ∧ A9.toInt ≤ (g 12).toInt) ∧ zTd ft (g 12).toNatClampNeg (g 13).toNatClampNeg A9.toNatClampNeg) ∧ ∃ r9 : Int32, v9 = some (.int r9) ∧ (r9 = zChr ft (g 12).toNatClampNeg A9.toNatClampNeg))) = Post
  show zP (d + 1) zq_X16_look 0 [(0, .ref m)] [] w sz 0 0 Post
  have k1 := zrng (g 12)
  have hz2 : ((g 12).toNatClampNeg : Int) = (g 12).toInt := znat (by first | omega | decide)
  have k3 := zrng (g 13)
  have hz4 : ((g 13).toNatClampNeg : Int) = (g 13).toInt := znat (by first | omega | decide)
  have hL0 : ∀ (mm0 : Nat) (wL0 : zM) (xA : Int32), (zSI w wL0) → (∀ x, ((x < m ∨ m + 1 ≤ x)) ∧ x ≠ m → wL0 x = w x) → (wL0 m = some (.inl (15, zMo m (zs g 13 xA) r))) → (((g 13).toInt ≤ xA.toInt ∧ xA.toInt ≤ (g 12).toInt) ∧ zTd ft (g 12).toNatClampNeg (g 13).toNatClampNeg xA.toNatClampNeg) → (401 - xA.toInt).toNat < mm0 → zP (d + 1) zq_X16_look 0 [(0, .ref m)] [] wL0 sz 0 0 Post := by
    intro mm0
    induction mm0 with
    | zero => intros; omega
    | succ mm0 ih0 =>
    intro wL0 xA hsiL0 heqL0 hxAM hxA hmu0
    refine zp_seg (pc' := 1) (lv' := [(0, .ref m)]) (st' := [.ref m]) [(0, .aload_n 0)] (by decide +kernel) rfl ?_
    refine zr_get (idx := 334) (k := 13) (v := .int xA) (by decide +kernel) (by decide +kernel) hxAM rfl ?_
    refine zp_seg (pc' := 5) (lv' := [(0, .ref m)]) (st' := [.ref m, .int xA]) [(4, .aload_n 0)] (by decide +kernel) rfl ?_
    refine zr_get (idx := 336) (k := 12) (v := .int (g 12)) (by decide +kernel) (by decide +kernel) hxAM rfl ?_
    refine zp_if (i := .if_icmp .ge 30) (c := (g 12) ≤ xA) (t := 38) (e := 11) (lv' := [(0, .ref m)]) (st' := []) (by decide +kernel) rfl (fun cc8 => ?_) (fun cc8 => ?_)
    ·
      have k5 := zrng xA
      have f6 := zleI cc8
      refine zp_seg (pc' := 39) (lv' := [(0, .ref m)]) (st' := [.ref m]) [(38, .aload_n 0)] (by decide +kernel) rfl ?_
      refine zr_get (idx := 334) (k := 13) (v := .int xA) (by decide +kernel) (by decide +kernel) hxAM rfl ?_
      refine zp_seg (pc' := 43) (lv' := [(0, .ref m)]) (st' := [.ref m, .int xA]) [(42, .aload_n 0)] (by decide +kernel) rfl ?_
      refine zr_get (idx := 336) (k := 12) (v := .int (g 12)) (by decide +kernel) (by decide +kernel) hxAM rfl ?_
      refine zp_if (i := .if_icmp .ge 19) (c := (g 12) ≤ xA) (t := 65) (e := 49) (lv' := [(0, .ref m)]) (st' := []) (by decide +kernel) rfl (fun cc46 => ?_) (fun cc46 => ?_)
      ·
        have f7 := zleI cc46
        refine zp_seg (pc' := 66) (lv' := [(0, .ref m)]) (st' := [.int (Int32.ofInt (-1))]) [(65, .iconst (-1))] (by decide +kernel) rfl ?_
        have hoffend : ∀ x, (x < m ∨ m + 1 ≤ x) → wL0 x = w x := fun x hx => (heqL0 x ⟨hx, (zx_X16_look_0 hx)⟩)
        refine zr_retI (by decide +kernel) rfl ?_
        rw [← hPost]; exact ⟨rfl, _, rfl, xA, hsiL0, hoffend, hxAM, (by
              exact hxA), _, rfl, (by
              have hzA := znat (x := xA) (by omega)
              unfold zChr
              first
              | (rw [if_pos (by omega), ← ex19, ev66])
              | (rw [if_pos (by omega), ← ex57, ev66])
              | (rw [if_neg (by omega)]))⟩
      ·
        exact absurd cc8 cc46
    ·
      have k9 := zrng xA
      have f10 := znleI cc8
      refine zp_seg (pc' := 12) (lv' := [(0, .ref m)]) (st' := [.ref m]) [(11, .aload_n 0)] (by decide +kernel) rfl ?_
      refine zr_get (idx := 339) (k := 11) (v := .ref (m + 80)) (by decide +kernel) (by decide +kernel) hxAM rfl ?_
      refine zp_seg (pc' := 16) (lv' := [(0, .ref m)]) (st' := [.ref m, .ref (m + 80)]) [(15, .aload_n 0)] (by decide +kernel) rfl ?_
      refine zr_get (idx := 334) (k := 13) (v := .int xA) (by decide +kernel) (by decide +kernel) hxAM rfl ?_
      have hb11 : wL0 (m + 80) = some (.inr (1, 400, .inl ft)) := (heqL0 (m + 80) ⟨(zx_X16_look_1), (zx_X16_look_2)⟩).trans hA_m_80
      refine zr_bald (by decide +kernel) hb11 (by decide) (zin (by first | omega | decide) (by first | omega | decide)) ?_
      have hz12 : (xA.toNatClampNeg : Int) = xA.toInt := znat (by first | omega | decide)
      obtain ⟨x19, ex19⟩ : ∃ x9, x9 = ft (xA.toNatClampNeg) := ⟨_, rfl⟩
      rw [← ex19]
      have kx19 := zrng x19
      refine zp_seg (pc' := 22) (lv' := [(0, .ref m)]) (st' := [.int 32, .int x19]) [(20, .bipush 32)] (by decide +kernel) rfl ?_
      refine zp_if (i := .if_icmp .ne 16) (c := ¬ x19 = 32) (t := 38) (e := 25) (lv' := [(0, .ref m)]) (st' := []) (by decide +kernel) rfl (fun cc22 => ?_) (fun cc22 => ?_)
      ·
        have f14 := zneI cc22
        rw [show (32 : Int32).toInt = 32 from by decide] at f14
        refine zp_seg (pc' := 39) (lv' := [(0, .ref m)]) (st' := [.ref m]) [(38, .aload_n 0)] (by decide +kernel) rfl ?_
        refine zr_get (idx := 334) (k := 13) (v := .int xA) (by decide +kernel) (by decide +kernel) hxAM rfl ?_
        refine zp_seg (pc' := 43) (lv' := [(0, .ref m)]) (st' := [.ref m, .int xA]) [(42, .aload_n 0)] (by decide +kernel) rfl ?_
        refine zr_get (idx := 336) (k := 12) (v := .int (g 12)) (by decide +kernel) (by decide +kernel) hxAM rfl ?_
        refine zp_if (i := .if_icmp .ge 19) (c := (g 12) ≤ xA) (t := 65) (e := 49) (lv' := [(0, .ref m)]) (st' := []) (by decide +kernel) rfl (fun cc46 => ?_) (fun cc46 => ?_)
        ·
          exact absurd cc46 cc8
        ·
          have f15 := znleI cc46
          refine zp_seg (pc' := 50) (lv' := [(0, .ref m)]) (st' := [.ref m]) [(49, .aload_n 0)] (by decide +kernel) rfl ?_
          refine zr_get (idx := 339) (k := 11) (v := .ref (m + 80)) (by decide +kernel) (by decide +kernel) hxAM rfl ?_
          refine zp_seg (pc' := 54) (lv' := [(0, .ref m)]) (st' := [.ref m, .ref (m + 80)]) [(53, .aload_n 0)] (by decide +kernel) rfl ?_
          refine zr_get (idx := 334) (k := 13) (v := .int xA) (by decide +kernel) (by decide +kernel) hxAM rfl ?_
          refine zr_bald (by decide +kernel) hb11 (by decide) (zin (by first | omega | decide) (by first | omega | decide)) ?_
          rw [← ex19]
          refine zp_seg (pc' := 66) (lv' := [(0, .ref m)]) (st' := [.int (x19 &&& 255)]) [(58, .sipush 255), (61, .iand), (62, .goto 4)] (by decide +kernel) rfl ?_
          generalize ev66 : (x19 &&& 255 : Int32) = v66
          have kv66 := zrng v66
          have hoffend : ∀ x, (x < m ∨ m + 1 ≤ x) → wL0 x = w x := fun x hx => (heqL0 x ⟨hx, (zx_X16_look_0 hx)⟩)
          refine zr_retI (by decide +kernel) rfl ?_
          rw [← hPost]; exact ⟨rfl, _, rfl, xA, hsiL0, hoffend, hxAM, (by
                exact hxA), _, rfl, (by
                have hzA := znat (x := xA) (by omega)
                unfold zChr
                first
                | (rw [if_pos (by omega), ← ex19, ev66])
                | (rw [if_pos (by omega), ← ex57, ev66])
                | (rw [if_neg (by omega)]))⟩
      ·
        replace cc22 := Classical.not_not.mp cc22
        have f17 := zeqI cc22
        rw [show (32 : Int32).toInt = 32 from by decide] at f17
        refine zp_seg (pc' := 27) (lv' := [(0, .ref m)]) (st' := [.ref m, .ref m]) [(25, .aload_n 0), (26, .dup)] (by decide +kernel) rfl ?_
        refine zr_get (idx := 334) (k := 13) (v := .int xA) (by decide +kernel) (by decide +kernel) hxAM rfl ?_
        refine zp_seg (pc' := 32) (lv' := [(0, .ref m)]) (st' := [.int (xA + 1), .ref m]) [(30, .iconst 1), (31, .iadd)] (by decide +kernel) rfl ?_
        have k18 := zaddC xA 1 (n := 1) (by decide) (by omega) (by omega)
        generalize ev32 : (xA + 1 : Int32) = v32 at k18 ⊢
        have kv32 := zrng v32
        refine zr_put2 (idx := 334) (k := 13) (fs2 := zMo m (zs g 13 v32) r) (by decide +kernel) (by decide +kernel) hxAM (Nat.le_of_ble_eq_true rfl) rfl rfl rfl ?_
        show zP (d + 1) zq_X16_look 35 [(0, .ref m)] [] (zup wL0 m (.inl (15, zMo m (zs g 13 v32) r))) sz 0 0 Post
        obtain ⟨w32, ew32⟩ : ∃ wz9, wz9 = zup wL0 m (.inl (15, zMo m (zs g 13 v32) r)) := ⟨_, rfl⟩
        have hsi32 : zSI wL0 w32 := by rw [ew32]; exact zSI.setG hxAM _ _
        have heq32 : ∀ x, x ≠ m → w32 x = wL0 x := fun x hx => by rw [ew32]; exact zup_n hx
        have hc32 : w32 m = some (.inl (15, zMo m (zs g 13 v32) r)) := by rw [ew32]; exact zup_s
        rw [← ew32]
        clear ew32
        refine zp_seg (pc' := 0) (lv' := [(0, .ref m)]) (st' := []) [(35, .goto (-35))] (by decide +kernel) rfl ?_
        exact (ih0 w32 (v32) (hsiL0.tr hsi32) (fun x hx => ((heq32 x hx.2).trans (heqL0 x ⟨hx.1, hx.2⟩))) (by
              exact hc32) (by
              have hzA := znat (x := xA) (by omega)
              have hz9 := znat (x := v32) (by omega)
              exact ⟨by omega, by rw [show (v32).toNatClampNeg = xA.toNatClampNeg + 1 by omega]; exact zTd_blank hxA.2 (by omega) (by rw [← ex19]; exact cc22)⟩) (by omega)).more (zfa1 rfl (zfa0))
  exact (hL0 _ w ((g 13)) zSI.rf (fun _ _ => rfl) (by
        exact hm) (by
        exact ⟨by omega, zTd_rf (by omega) hdp⟩) (Nat.lt_succ_self _)).more (zfa1 rfl (zfa0))
