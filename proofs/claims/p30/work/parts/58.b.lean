set_option maxHeartbeats 8000000 in
set_option maxRecDepth 100000 in
theorem c_X12_trim {w : zM} {N : Nat} {q : zA2} (b : Nat) (hBn_b : zBw w b N q) : zCon 1 zq_X12_trim [.ref b] w (fun v9 w9' => zSI w w9' ∧ (∀ x, (x < b ∨ b + 1 ≤ x) → w9' x = w x) ∧ zB w9' b q ∧ v9 = none) := by
  intro d sz hd
  obtain ⟨d, rfl⟩ : ∃ d9, d = d9 + 1 := ⟨d - 1, by omega⟩
  generalize hPost : (fun (r9' : Option (Option Value)) (w9' : zM) (z9 : Nat) => z9 = sz ∧ ∃ v9, r9' = some v9 ∧ (zSI w w9' ∧ (∀ x, (x < b ∨ b + 1 ≤ x) → w9' x = w x) ∧ zB w9' b q ∧ v9 = none)) = Post
  show zP (d + 1) zq_X12_trim 0 [(0, .ref b)] [] w sz 0 0 Post
  have hL0 : ∀ (mm0 : Nat) (wL0 : zM) (K : Nat), (zSI w wL0) → (∀ x, (x < b ∨ b + 1 ≤ x) → wL0 x = w x) → (zBw wL0 b K q) → K < mm0 → zP (d + 1) zq_X12_trim 0 [(0, .ref b)] [] wL0 sz 0 0 Post := by
    intro mm0
    induction mm0 with
    | zero => intros; omega
    | succ mm0 ih0 =>
    intro wL0 K hsiL0 heqL0 hBK hmu0
    obtain ⟨nb, hb1, hb2, hb3, hb4, hb5, hb6, hb7⟩ := id hBK
    have knb := zrng nb
    refine zp_seg (pc' := 1) (lv' := [(0, .ref b)]) (st' := [.ref b]) [(0, .aload_n 0)] (by decide +kernel) rfl ?_
    refine zr_get (idx := 20) (k := 1) (v := .int nb) (by decide +kernel) (by decide +kernel) hb1 rfl ?_
    refine zp_if (i := .ifCond .le 33) (c := nb ≤ 0) (t := 37) (e := 7) (lv' := [(0, .ref b)]) (st' := []) (by decide +kernel) rfl (fun cc4 => ?_) (fun cc4 => ?_)
    ·
      have k1 := zrng nb
      have f3 := zleI cc4
      rw [show (0 : Int32).toInt = 0 from by decide] at f3
      have hoffend : ∀ x, (x < b ∨ b + 1 ≤ x) → wL0 x = w x := fun x hx => (heqL0 x (by omega))
      refine zr_retV (by decide +kernel) rfl ?_
      rw [← hPost]; exact ⟨rfl, _, rfl, hsiL0, hoffend, (by
            refine zBw.fin (N := K) hBK ?_
            first
              | exact Or.inl (by omega)
              | exact Or.inr (fun e => by
                  rw [show K - 1 = v17.toNatClampNeg by omega] at e
                  have e2 := zln_0.mpr e
                  omega)), rfl⟩
    ·
      have k4 := zrng nb
      have f6 := znleI cc4
      rw [show (0 : Int32).toInt = 0 from by decide] at f6
      refine zp_seg (pc' := 8) (lv' := [(0, .ref b)]) (st' := [.ref b]) [(7, .aload_n 0)] (by decide +kernel) rfl ?_
      refine zr_get (idx := 11) (k := 0) (v := .ref (b + 1)) (by decide +kernel) (by decide +kernel) hb1 rfl ?_
      refine zp_seg (pc' := 12) (lv' := [(0, .ref b)]) (st' := [.ref b, .ref (b + 1)]) [(11, .aload_n 0)] (by decide +kernel) rfl ?_
      refine zr_get (idx := 20) (k := 1) (v := .int nb) (by decide +kernel) (by decide +kernel) hb1 rfl ?_
      refine zp_seg (pc' := 17) (lv' := [(0, .ref b)]) (st' := [.int (nb - 1), .ref (b + 1)]) [(15, .iconst 1), (16, .isub)] (by decide +kernel) rfl ?_
      have k7 := zsubC nb 1 (n := 1) (by decide) (by omega) (by omega)
      generalize ev17 : (nb - 1 : Int32) = v17 at k7 ⊢
      have kv17 := zrng v17
      have hz8 : (v17.toNatClampNeg : Int) = v17.toInt := znat (by first | omega | decide)
      refine zr_aald (v := .ref (b + 2 + 2 * v17.toNatClampNeg)) (by decide +kernel) hb2 (by decide) (zin (by first | omega | decide) (by first | omega | decide)) (zbr_at (by omega)) ?_
      have hrow9 := hBK.row (v17.toNatClampNeg) (by omega)
      obtain ⟨n10, f11, hu12, hu13, hu14, hu15, hu16⟩ := id hrow9
      have kn10 := zrng n10
      refine zr_get (idx := 24) (k := 1) (v := .int n10) (by decide +kernel) (by decide +kernel) hu12 rfl ?_
      refine zp_if (i := .ifCond .ne 16) (c := ¬ n10 = 0) (t := 37) (e := 24) (lv' := [(0, .ref b)]) (st' := []) (by decide +kernel) rfl (fun cc21 => ?_) (fun cc21 => ?_)
      ·
        have f17 := zneI cc21
        rw [show (0 : Int32).toInt = 0 from by decide] at f17
        have hoffend : ∀ x, (x < b ∨ b + 1 ≤ x) → wL0 x = w x := fun x hx => (heqL0 x (by omega))
        refine zr_retV (by decide +kernel) rfl ?_
        rw [← hPost]; exact ⟨rfl, _, rfl, hsiL0, hoffend, (by
              refine zBw.fin (N := K) hBK ?_
              first
                | exact Or.inl (by omega)
                | exact Or.inr (fun e => by
                    rw [show K - 1 = v17.toNatClampNeg by omega] at e
                    have e2 := zln_0.mpr e
                    omega)), rfl⟩
      ·
        replace cc21 := Classical.not_not.mp cc21
        have f18 := zeqI cc21
        rw [show (0 : Int32).toInt = 0 from by decide] at f18
        refine zp_seg (pc' := 26) (lv' := [(0, .ref b)]) (st' := [.ref b, .ref b]) [(24, .aload_n 0), (25, .dup)] (by decide +kernel) rfl ?_
        refine zr_get (idx := 20) (k := 1) (v := .int nb) (by decide +kernel) (by decide +kernel) hb1 rfl ?_
        refine zp_seg (pc' := 31) (lv' := [(0, .ref b)]) (st' := [.int (nb - 1), .ref b]) [(29, .iconst 1), (30, .isub)] (by decide +kernel) rfl ?_
        have k19 := zsubC nb 1 (n := 1) (by decide) (by omega) (by omega)
        generalize ev31 : (nb - 1 : Int32) = v31 at k19 ⊢
        have kv31 := zrng v31
        refine zr_put2 (idx := 20) (k := 1) (fs2 := [.ref (b + 1), .int v31]) (by decide +kernel) (by decide +kernel) hb1 (Nat.le_of_ble_eq_true rfl) rfl rfl rfl ?_
        show zP (d + 1) zq_X12_trim 34 [(0, .ref b)] [] (zup wL0 b (.inl (11, [.ref (b + 1), .int v31]))) sz 0 0 Post
        obtain ⟨w31, ew31⟩ : ∃ wz9, wz9 = zup wL0 b (.inl (11, [.ref (b + 1), .int v31])) := ⟨_, rfl⟩
        have hsi31 : zSI wL0 w31 := by rw [ew31]; exact zSI.setB hb1
        have heq31 : ∀ x, x ≠ b → w31 x = wL0 x := fun x hx => by rw [ew31]; exact zup_n hx
        have hc31 : w31 b = some (.inl (11, [.ref (b + 1), .int v31])) := by rw [ew31]; exact zup_s
        rw [← ew31]
        clear ew31
        refine zp_seg (pc' := 0) (lv' := [(0, .ref b)]) (st' := []) [(34, .goto (-34))] (by decide +kernel) rfl ?_
        have hb20 : w31 (b + 1) = some (.inr (4, 64, zbr b)) := (heq31 (b + 1) (by omega)).trans hb2
        exact (ih0 w31 (K - 1) (hsiL0.tr hsi31) (fun x hx => ((heq31 x (by omega)).trans (heqL0 x (by omega)))) (by
              refine ⟨_, hc31, hb20, by omega, by omega, fun j hj => (hb5 j (by omega)).ag (fun x g1 g2 => heq31 x (by omega)), fun j hj => (hb6 j hj).ag (fun x g1 g2 => heq31 x (by omega)), fun j hj => ?_⟩
              by_cases e : j = K - 1
              · rw [e, show K - 1 = v17.toNatClampNeg by omega]
                exact zln_0.mp (by omega)
              · exact hb7 j (by omega)) (by omega)).more (zfa1 rfl (zfa0))
  exact (hL0 _ w (N) zSI.rf (fun _ _ => rfl) (by
        exact hBn_b) (Nat.lt_succ_self _)).more (zfa1 rfl (zfa0))

set_option maxHeartbeats 8000000 in
set_option maxRecDepth 100000 in
theorem c_X12_number {w : zM}  (b : Nat) (v : Int32) (hBo_b : zBo w b) (h_v : zr1 v) : zCon 2 zq_X12_number [.ref b, .int v] w (fun v9 w9' => zSI w w9' ∧ (∀ x, (x < b ∨ b + 130 ≤ x) → w9' x = w x) ∧ zB w9' b (zbC (zaC (zf v))) ∧ v9 = none) := by
  intro d sz hd
  obtain ⟨d, rfl⟩ : ∃ d9, d = d9 + 1 := ⟨d - 1, by omega⟩
  generalize hPost : (fun (r9' : Option (Option Value)) (w9' : zM) (z9 : Nat) => z9 = sz ∧ ∃ v9, r9' = some v9 ∧ (zSI w w9' ∧ (∀ x, (x < b ∨ b + 130 ≤ x) → w9' x = w x) ∧ zB w9' b (zbC (zaC (zf v))) ∧ v9 = none)) = Post
  show zP (d + 1) zq_X12_number 0 [(0, .ref b), (1, .int v)] [] w sz 0 0 Post
  have k1 := zrng v
  refine zp_seg (pc' := 1) (lv' := [(0, .ref b), (1, .int v)]) (st' := [.ref b]) [(0, .aload_n 0)] (by decide +kernel) rfl ?_
  obtain ⟨n2, hb3, hb4, -⟩ := id hBo_b
  have kn2 := zrng n2
  refine zr_get (idx := 11) (k := 0) (v := .ref (b + 1)) (by decide +kernel) (by decide +kernel) hb3 rfl ?_
  refine zp_seg (pc' := 5) (lv' := [(0, .ref b), (1, .int v)]) (st' := [.int 0, .ref (b + 1)]) [(4, .iconst 0)] (by decide +kernel) rfl ?_
  have hl8 : (0 : Int32).toInt = 0 := by decide
  have hz9 : ((0 : Int32).toNatClampNeg : Int) = 0 := by decide
  refine zr_aald (v := .ref (b + 2 + 2 * 0)) (by decide +kernel) hb4 (by decide) (zin (by decide) (by decide)) rfl ?_
  have hrow10 := hBo_b.rowo 0 (by omega)
  refine zp_seg (pc' := 7) (lv' := [(0, .ref b), (1, .int v)]) (st' := [.int v, .ref (b + 2 + 2 * 0)]) [(6, .iload_n 1)] (by decide +kernel) rfl ?_
  obtain ⟨n11, f12, hu13, hu14⟩ := id hrow10
  have kn11 := zrng n11
  refine zr_callV (idx := 27) (j := 252) (by decide +kernel) (by decide +kernel) (show zMe 252 = some zq_X15_number from rfl) rfl rfl (Nat.le_of_ble_eq_true rfl) rfl rfl hu13 (Nat.le_of_ble_eq_true rfl) (Nat.le_of_ble_eq_true rfl) (c_X15_number (w := w) (b + 2 + 2 * 0) v hrow10 (by first | omega | decide | assumption) (by decide)) (by omega) (fun v7 w7 hp7 => ?_)
  obtain ⟨hsi7, heq7, hp7_0, rfl⟩ := hp7
  show zP _ _ _ _ [] _ _ _ _ _
  refine zp_seg (pc' := 12) (lv' := [(0, .ref b), (1, .int v)]) (st' := [.int v, .ref b]) [(10, .aload_n 0), (11, .iload_n 1)] (by decide +kernel) rfl ?_
  refine zp_if (i := .ifCond .ne 7) (c := ¬ v = 0) (t := 19) (e := 15) (lv' := [(0, .ref b), (1, .int v)]) (st' := [.ref b]) (by decide +kernel) rfl (fun cc12 => ?_) (fun cc12 => ?_)
  ·
    have f15 := zneI cc12
    rw [show (0 : Int32).toInt = 0 from by decide] at f15
    refine zp_seg (pc' := 20) (lv' := [(0, .ref b), (1, .int v)]) (st' := [.int 1, .ref b]) [(19, .iconst 1)] (by decide +kernel) rfl ?_
    have hb16 : w7 b = some (.inl (11, [.ref (b + 1), .int n2])) := (heq7 b (by omega)).trans hb3
    refine zr_put2 (idx := 20) (k := 1) (fs2 := [.ref (b + 1), .int 1]) (by decide +kernel) (by decide +kernel) hb16 (Nat.le_of_ble_eq_true rfl) rfl rfl rfl ?_
    show zP (d + 1) zq_X12_number 23 [(0, .ref b), (1, .int v)] [] (zup w7 b (.inl (11, [.ref (b + 1), .int 1]))) sz 0 0 Post
    obtain ⟨w20, ew20⟩ : ∃ wz9, wz9 = zup w7 b (.inl (11, [.ref (b + 1), .int 1])) := ⟨_, rfl⟩
    have hsi20 : zSI w7 w20 := by rw [ew20]; exact zSI.setB hb16
    have heq20 : ∀ x, x ≠ b → w20 x = w7 x := fun x hx => by rw [ew20]; exact zup_n hx
    have hc20 : w20 b = some (.inl (11, [.ref (b + 1), .int 1])) := by rw [ew20]; exact zup_s
    rw [← ew20]
    clear ew20
    have hoffend : ∀ x, (x < b ∨ b + 130 ≤ x) → w20 x = w x := fun x hx => ((heq20 x (by omega)).trans (heq7 x (by omega)))
    have hb17 := hBo_b.si (hsi7.tr hsi20)
    have hb18 : zU w20 (b + 2 + 2 * 0) 200 (zaC (zf v)) := hp7_0.ag (fun x hx1 hx2 => (heq20 x (by omega)))
    refine zr_retV (by decide +kernel) rfl ?_
    rw [← hPost]; exact ⟨rfl, _, rfl, (hsi7.tr hsi20), hoffend, (by
          first
            | (have e : zf v = 0 := by rw [cc12]; exact zf_0
               have e2 : zbC (zaC (zf v)) = zbZ := by rw [e, zaC_0, zrw_C0]
               rw [e2]
               refine zB.mk hb17 hc20 (by rw [zrw_Z]; decide) (by rw [zrw_Z]; decide) (fun j hj => ?_)
               rw [zrw_Z] at hj
               omega)
            | (have e := zrw_C (zaC_nz (zf_nz h_v cc12))
               refine zB.mk hb17 hc20 (by rw [e]; decide) (by rw [e]; decide) (fun j hj => ?_)
               have e0 : j = 0 := by omega
               subst e0
               exact hb18)), rfl⟩
  ·
    replace cc12 := Classical.not_not.mp cc12
    have f19 := zeqI cc12
    rw [show (0 : Int32).toInt = 0 from by decide] at f19
    refine zp_seg (pc' := 20) (lv' := [(0, .ref b), (1, .int v)]) (st' := [.int 0, .ref b]) [(15, .iconst 0), (16, .goto 4)] (by decide +kernel) rfl ?_
    have hb20 : w7 b = some (.inl (11, [.ref (b + 1), .int n2])) := (heq7 b (by omega)).trans hb3
    refine zr_put2 (idx := 20) (k := 1) (fs2 := [.ref (b + 1), .int 0]) (by decide +kernel) (by decide +kernel) hb20 (Nat.le_of_ble_eq_true rfl) rfl rfl rfl ?_
    show zP (d + 1) zq_X12_number 23 [(0, .ref b), (1, .int v)] [] (zup w7 b (.inl (11, [.ref (b + 1), .int 0]))) sz 0 0 Post
    obtain ⟨w20, ew20⟩ : ∃ wz9, wz9 = zup w7 b (.inl (11, [.ref (b + 1), .int 0])) := ⟨_, rfl⟩
    have hsi20 : zSI w7 w20 := by rw [ew20]; exact zSI.setB hb20
    have heq20 : ∀ x, x ≠ b → w20 x = w7 x := fun x hx => by rw [ew20]; exact zup_n hx
    have hc20 : w20 b = some (.inl (11, [.ref (b + 1), .int 0])) := by rw [ew20]; exact zup_s
    rw [← ew20]
    clear ew20
    have hoffend : ∀ x, (x < b ∨ b + 130 ≤ x) → w20 x = w x := fun x hx => ((heq20 x (by omega)).trans (heq7 x (by omega)))
    have hb21 := hBo_b.si (hsi7.tr hsi20)
    have hb22 : zU w20 (b + 2 + 2 * 0) 200 (zaC (zf v)) := hp7_0.ag (fun x hx1 hx2 => (heq20 x (by omega)))
    refine zr_retV (by decide +kernel) rfl ?_
    rw [← hPost]; exact ⟨rfl, _, rfl, (hsi7.tr hsi20), hoffend, (by
          first
            | (have e : zf v = 0 := by rw [cc12]; exact zf_0
               have e2 : zbC (zaC (zf v)) = zbZ := by rw [e, zaC_0, zrw_C0]
               rw [e2]
               refine zB.mk hb21 hc20 (by rw [zrw_Z]; decide) (by rw [zrw_Z]; decide) (fun j hj => ?_)
               rw [zrw_Z] at hj
               omega)
            | (have e := zrw_C (zaC_nz (zf_nz h_v cc12))
               refine zB.mk hb21 hc20 (by rw [e]; decide) (by rw [e]; decide) (fun j hj => ?_)
               have e0 : j = 0 := by omega
               subst e0
               exact hb22)), rfl⟩

set_option maxHeartbeats 8000000 in
set_option maxRecDepth 100000 in
theorem c_X12_lead {w : zM} {q : zA2} (b : Nat) (hB_b : zB w b q) (hr : 0 < zrw q) : zCon 1 zq_X12_lead [.ref b] w (fun v9 w9' => w9' = w ∧ zU w (b + 2 + 2 * (zrw q - 1)) 200 (q.1 (zrw q - 1)) ∧ v9 = some (.ref (b + 2 + 2 * (zrw q - 1)))) := by
  intro d sz hd
  obtain ⟨d, rfl⟩ : ∃ d9, d = d9 + 1 := ⟨d - 1, by omega⟩
  generalize hPost : (fun (r9' : Option (Option Value)) (w9' : zM) (z9 : Nat) => z9 = sz ∧ ∃ v9, r9' = some v9 ∧ (w9' = w ∧ zU w (b + 2 + 2 * (zrw q - 1)) 200 (q.1 (zrw q - 1)) ∧ v9 = some (.ref (b + 2 + 2 * (zrw q - 1))))) = Post
  show zP (d + 1) zq_X12_lead 0 [(0, .ref b)] [] w sz 0 0 Post
  obtain ⟨nb, hb1, hb2, hb3, hb4, hb5, hb6⟩ := id hB_b
  have knb := zrng nb
  refine zp_seg (pc' := 1) (lv' := [(0, .ref b)]) (st' := [.ref b]) [(0, .aload_n 0)] (by decide +kernel) rfl ?_
  refine zr_get (idx := 11) (k := 0) (v := .ref (b + 1)) (by decide +kernel) (by decide +kernel) hb1 rfl ?_
  refine zp_seg (pc' := 5) (lv' := [(0, .ref b)]) (st' := [.ref b, .ref (b + 1)]) [(4, .aload_n 0)] (by decide +kernel) rfl ?_
  refine zr_get (idx := 20) (k := 1) (v := .int nb) (by decide +kernel) (by decide +kernel) hb1 rfl ?_
  refine zp_seg (pc' := 10) (lv' := [(0, .ref b)]) (st' := [.int (nb - 1), .ref (b + 1)]) [(8, .iconst 1), (9, .isub)] (by decide +kernel) rfl ?_
  have k1 := zrng nb
  have k2 := zsubC nb 1 (n := 1) (by decide) (by omega) (by omega)
  generalize ev10 : (nb - 1 : Int32) = v10 at k2 ⊢
  have kv10 := zrng v10
  have hz3 : (v10.toNatClampNeg : Int) = v10.toInt := znat (by first | omega | decide)
  refine zr_aald (v := .ref (b + 2 + 2 * v10.toNatClampNeg)) (by decide +kernel) hb2 (by decide) (zin (by first | omega | decide) (by first | omega | decide)) (zbr_at (by omega)) ?_
  have hrow4 := hB_b.row (v10.toNatClampNeg) (by omega)
  refine zr_retA (by decide +kernel) rfl ?_
  rw [← hPost]; exact ⟨rfl, _, rfl, rfl, (by
        exact hB_b.row _ (by omega)), by rw [show v10.toNatClampNeg = zrw q - 1 by omega]⟩

set_option maxHeartbeats 8000000 in
set_option maxRecDepth 100000 in
theorem c_X12_head {w : zM} {q : zA2} (b : Nat) (hB_b : zB w b q) : zCon 2 zq_X12_head [.ref b] w (fun v9 w9' => w9' = w ∧ ∃ r9 : Int32, v9 = some (.int r9) ∧ (zr1 r9 ∧ zf r9 = zhB q)) := by
  intro d sz hd
  obtain ⟨d, rfl⟩ : ∃ d9, d = d9 + 1 := ⟨d - 1, by omega⟩
  generalize hPost : (fun (r9' : Option (Option Value)) (w9' : zM) (z9 : Nat) => z9 = sz ∧ ∃ v9, r9' = some v9 ∧ (w9' = w ∧ ∃ r9 : Int32, v9 = some (.int r9) ∧ (zr1 r9 ∧ zf r9 = zhB q))) = Post
  show zP (d + 1) zq_X12_head 0 [(0, .ref b)] [] w sz 0 0 Post
  obtain ⟨nb, hb1, hb2, hb3, hb4, hb5, hb6⟩ := id hB_b
  have knb := zrng nb
  refine zp_seg (pc' := 1) (lv' := [(0, .ref b)]) (st' := [.ref b]) [(0, .aload_n 0)] (by decide +kernel) rfl ?_
  refine zr_get (idx := 20) (k := 1) (v := .int nb) (by decide +kernel) (by decide +kernel) hb1 rfl ?_
  refine zp_if (i := .ifCond .ne 7) (c := ¬ nb = 0) (t := 11) (e := 7) (lv' := [(0, .ref b)]) (st' := []) (by decide +kernel) rfl (fun cc4 => ?_) (fun cc4 => ?_)
  ·
    have k1 := zrng nb
    have f3 := zneI cc4
    rw [show (0 : Int32).toInt = 0 from by decide] at f3
    refine zp_seg (pc' := 12) (lv' := [(0, .ref b)]) (st' := [.ref b]) [(11, .aload_n 0)] (by decide +kernel) rfl ?_
    refine zr_callV (idx := 30) (j := 246) (by decide +kernel) (by decide +kernel) (show zMe 246 = some zq_X12_lead from rfl) rfl rfl (Nat.le_of_ble_eq_true rfl) rfl rfl hb1 (Nat.le_of_ble_eq_true rfl) (Nat.le_of_ble_eq_true rfl) (c_X12_lead (w := w) b hB_b (by first | omega | decide | assumption)) (by omega) (fun v12 w12 hp12 => ?_)
    obtain ⟨hpw12, hp12_0, rfl⟩ := hp12
    replace hpw12 := hpw12.symm
    subst hpw12
    show zP _ _ _ _ [.ref (b + 2 + 2 * (zrw q - 1))] _ _ _ _ _
    obtain ⟨n4, f5, hu6, hu7, hu8, hu9, hu10⟩ := id hp12_0
    have kn4 := zrng n4
    refine zr_callV (idx := 34) (j := 253) (by decide +kernel) (by decide +kernel) (show zMe 253 = some zq_X15_head from rfl) rfl rfl (Nat.le_of_ble_eq_true rfl) rfl rfl hu6 (Nat.le_of_ble_eq_true rfl) (Nat.le_of_ble_eq_true rfl) (c_X15_head (w := w) (b + 2 + 2 * (zrw q - 1)) hp12_0) (by omega) (fun v15 w15 hp15 => ?_)
    obtain ⟨hpw15, r15, rfl, hr15⟩ := hp15
    replace hpw15 := hpw15.symm
    subst hpw15
    have kr15 := zrng r15
    show zP _ _ _ _ [.int r15] _ _ _ _ _
    refine zr_retI (by decide +kernel) rfl ?_
    rw [← hPost]; exact ⟨rfl, _, rfl, rfl, _, rfl, (by
          first
            | exact ⟨zr1_0, by rw [zf_0, zhB_0 (by omega)]⟩
            | exact hr15)⟩
  ·
    replace cc4 := Classical.not_not.mp cc4
    have k11 := zrng nb
    have f13 := zeqI cc4
    rw [show (0 : Int32).toInt = 0 from by decide] at f13
    refine zp_seg (pc' := 18) (lv' := [(0, .ref b)]) (st' := [.int 0]) [(7, .iconst 0), (8, .goto 10)] (by decide +kernel) rfl ?_
    refine zr_retI (by decide +kernel) rfl ?_
    rw [← hPost]; exact ⟨rfl, _, rfl, rfl, _, rfl, (by
          first
            | exact ⟨zr1_0, by rw [zf_0, zhB_0 (by omega)]⟩
            | exact hr15)⟩

set_option maxHeartbeats 8000000 in
set_option maxRecDepth 100000 in
theorem c_X12_degreeN {w : zM} {q : zA2} (b : Nat) (hB_b : zB w b q) : zCon 1 zq_X12_degreeN [.ref b] w (fun v9 w9' => w9' = w ∧ ∃ r9 : Int32, v9 = some (.int r9) ∧ (r9.toInt = zdn q)) := by
  intro d sz hd
  obtain ⟨d, rfl⟩ : ∃ d9, d = d9 + 1 := ⟨d - 1, by omega⟩
  generalize hPost : (fun (r9' : Option (Option Value)) (w9' : zM) (z9 : Nat) => z9 = sz ∧ ∃ v9, r9' = some v9 ∧ (w9' = w ∧ ∃ r9 : Int32, v9 = some (.int r9) ∧ (r9.toInt = zdn q))) = Post
  show zP (d + 1) zq_X12_degreeN 0 [(0, .ref b)] [] w sz 0 0 Post
  obtain ⟨nb, hb1, hb2, hb3, hb4, hb5, hb6⟩ := id hB_b
  have knb := zrng nb
  refine zp_seg (pc' := 4) (lv' := [(2, .int 0), (1, .int 1), (0, .ref b)]) (st' := []) [(0, .iconst 1), (1, .istore_n 1), (2, .iconst 0), (3, .istore_n 2)] (by decide +kernel) rfl ?_
  have hL4 : ∀ (mm4 : Nat) (y1_4 : Int32) (y2_4 : Int32), (0 ≤ y2_4.toInt) → (y2_4.toInt ≤ (zrw q : Int)) → (1 ≤ y1_4.toInt) → (y1_4.toInt ≤ 200) → ((∀ t, t < y2_4.toNatClampNeg → (zln (q.1 t) : Int) ≤ y1_4.toInt) ∧ (y1_4.toInt = 1 ∨ ∃ t, (zln (q.1 t) : Int) = y1_4.toInt)) → (2147483647 - y2_4.toInt).toNat < mm4 → zP (d + 1) zq_X12_degreeN 4 [(0, .ref b), (1, .int y1_4), (2, .int y2_4)] [] w sz 0 0 Post := by
    intro mm4
    induction mm4 with
    | zero => intros; omega
    | succ mm4 ih4 =>
    intro y1_4 y2_4 hi4_0 hi4_1 hi4_2 hi4_3 hD hmu4
    have ky1_4 := zrng y1_4
    have ky2_4 := zrng y2_4
    refine zp_seg (pc' := 6) (lv' := [(0, .ref b), (1, .int y1_4), (2, .int y2_4)]) (st' := [.ref b, .int y2_4]) [(4, .iload_n 2), (5, .aload_n 0)] (by decide +kernel) rfl ?_
    refine zr_get (idx := 20) (k := 1) (v := .int nb) (by decide +kernel) (by decide +kernel) hb1 rfl ?_
    refine zp_if (i := .if_icmp .ge 23) (c := nb ≤ y2_4) (t := 32) (e := 12) (lv' := [(0, .ref b), (1, .int y1_4), (2, .int y2_4)]) (st' := []) (by decide +kernel) rfl (fun cc9 => ?_) (fun cc9 => ?_)
    ·
      have k1 := zrng nb
      have f2 := zleI cc9
      have hz3 : (y2_4.toNatClampNeg : Int) = y2_4.toInt := znat (by first | omega | decide)
      refine zp_seg (pc' := 35) (lv' := [(0, .ref b), (1, .int y1_4), (2, .int y2_4)]) (st' := [.int (y1_4 - 1)]) [(32, .iload_n 1), (33, .iconst 1), (34, .isub)] (by decide +kernel) rfl ?_
      have k4 := zsubC y1_4 1 (n := 1) (by decide) (by omega) (by omega)
      generalize ev35 : (y1_4 - 1 : Int32) = v35 at k4 ⊢
      have kv35 := zrng v35
      refine zr_retI (by decide +kernel) rfl ?_
      rw [← hPost]; exact ⟨rfl, _, rfl, rfl, _, rfl, (by
            obtain ⟨h1, h2⟩ := id hD
            have h3 : zdn q ≤ (y1_4.toInt - 1).toNat := zdn_min (zdn_row fun j hj => by have := h1 j (by omega); omega)
            rcases h2 with h2 | ⟨t, h2⟩
            · omega
            · have := zdn_le q t
              omega)⟩
    ·
      have k5 := zrng nb
      have f6 := znleI cc9
      refine zp_seg (pc' := 14) (lv' := [(0, .ref b), (1, .int y1_4), (2, .int y2_4)]) (st' := [.ref b, .int y1_4]) [(12, .iload_n 1), (13, .aload_n 0)] (by decide +kernel) rfl ?_
      refine zr_get (idx := 11) (k := 0) (v := .ref (b + 1)) (by decide +kernel) (by decide +kernel) hb1 rfl ?_
      refine zp_seg (pc' := 18) (lv' := [(0, .ref b), (1, .int y1_4), (2, .int y2_4)]) (st' := [.int y2_4, .ref (b + 1), .int y1_4]) [(17, .iload_n 2)] (by decide +kernel) rfl ?_
      have hz7 : (y2_4.toNatClampNeg : Int) = y2_4.toInt := znat (by first | omega | decide)
      refine zr_aald (v := .ref (b + 2 + 2 * y2_4.toNatClampNeg)) (by decide +kernel) hb2 (by decide) (zin (by first | omega | decide) (by first | omega | decide)) (zbr_at (by omega)) ?_
      have hrow8 := hB_b.row (y2_4.toNatClampNeg) (by omega)
      obtain ⟨n9, f10, hu11, hu12, hu13, hu14, hu15⟩ := id hrow8
      have kn9 := zrng n9
      refine zr_get (idx := 24) (k := 1) (v := .int n9) (by decide +kernel) (by decide +kernel) hu11 rfl ?_
      have hc22 := (hB_b.row y2_4.toNatClampNeg (by omega)).cap
      refine zr_max (idx := 38) (by decide +kernel) (by decide +kernel) (by omega) (Nat.le_of_ble_eq_true rfl) ?_
      obtain ⟨m16, em16, hm16⟩ := zmaxI y1_4 n9
      rw [← em16]
      have km16 := zrng m16
      refine zp_seg (pc' := 29) (lv' := [(2, .int (y2_4 + 1)), (1, .int m16), (0, .ref b)]) (st' := []) [(25, .istore_n 1), (26, .iinc 2 1)] (by decide +kernel) rfl ?_
      have k17 := zaddC y2_4 1 (n := 1) (by decide) (by omega) (by omega)
      generalize ev29 : (y2_4 + 1 : Int32) = v29 at k17 ⊢
      have kv29 := zrng v29
      refine zp_seg (pc' := 4) (lv' := [(2, .int v29), (1, .int m16), (0, .ref b)]) (st' := []) [(29, .goto (-25))] (by decide +kernel) rfl ?_
      have hz18 : (v29.toNatClampNeg : Int) = v29.toInt := znat (by first | omega | decide)
      exact (ih4 m16 v29 (by first | assumption | omega | decide) (by first | assumption | omega | decide) (by first | assumption | omega | decide) (by first | assumption | omega | decide) (by
            obtain ⟨h1, h2⟩ := id hD
            refine ⟨fun t ht => ?_, ?_⟩
            · by_cases e : t = y2_4.toNatClampNeg
              · rw [e]; omega
              · have := h1 t (by omega); omega
            · rcases (show m16.toInt = y1_4.toInt ∨ m16.toInt = zln (q.1 y2_4.toNatClampNeg) by omega) with e | e
              · rw [e]; exact h2
              · exact Or.inr ⟨_, e.symm⟩) (by omega)).more (zfa1 rfl (zfa1 rfl (zfa1 rfl (zfa0))))
  have hl19 : (1 : Int32).toInt = 1 := by decide
  have hl20 : (0 : Int32).toInt = 0 := by decide
  have hz21 : ((0 : Int32).toNatClampNeg : Int) = 0 := by decide
  exact (hL4 _ 1 0 (by first | assumption | omega | decide) (by first | assumption | omega | decide) (by first | assumption | omega | decide) (by first | assumption | omega | decide) (by
        exact ⟨fun t ht => absurd ht (by omega), Or.inl (by decide)⟩) (Nat.lt_succ_self _)).more (zfa1 rfl (zfa1 rfl (zfa1 rfl (zfa0))))

set_option maxHeartbeats 8000000 in
set_option maxRecDepth 100000 in
theorem c_X12_degreeK {w : zM} {q : zA2} (b : Nat) (hB_b : zB w b q) : zCon 1 zq_X12_degreeK [.ref b] w (fun v9 w9' => w9' = w ∧ ∃ r9 : Int32, v9 = some (.int r9) ∧ (r9.toInt = (zrw q : Int) - 1 ∨ (r9.toInt = 0 ∧ zrw q = 0))) := by
  intro d sz hd
  obtain ⟨d, rfl⟩ : ∃ d9, d = d9 + 1 := ⟨d - 1, by omega⟩
  generalize hPost : (fun (r9' : Option (Option Value)) (w9' : zM) (z9 : Nat) => z9 = sz ∧ ∃ v9, r9' = some v9 ∧ (w9' = w ∧ ∃ r9 : Int32, v9 = some (.int r9) ∧ (r9.toInt = (zrw q : Int) - 1 ∨ (r9.toInt = 0 ∧ zrw q = 0)))) = Post
  show zP (d + 1) zq_X12_degreeK 0 [(0, .ref b)] [] w sz 0 0 Post
  obtain ⟨nb, hb1, hb2, hb3, hb4, hb5, hb6⟩ := id hB_b
  have knb := zrng nb
  refine zp_seg (pc' := 2) (lv' := [(0, .ref b)]) (st' := [.ref b, .int 0]) [(0, .iconst 0), (1, .aload_n 0)] (by decide +kernel) rfl ?_
  refine zr_get (idx := 20) (k := 1) (v := .int nb) (by decide +kernel) (by decide +kernel) hb1 rfl ?_
  refine zp_seg (pc' := 7) (lv' := [(0, .ref b)]) (st' := [.int (nb - 1), .int 0]) [(5, .iconst 1), (6, .isub)] (by decide +kernel) rfl ?_
  have k1 := zrng nb
  have k2 := zsubC nb 1 (n := 1) (by decide) (by omega) (by omega)
  generalize ev7 : (nb - 1 : Int32) = v7 at k2 ⊢
  have kv7 := zrng v7
  have hl3 : (0 : Int32).toInt = 0 := by decide
  refine zr_max (idx := 38) (by decide +kernel) (by decide +kernel) (by omega) (Nat.le_of_ble_eq_true rfl) ?_
  obtain ⟨m4, em4, hm4⟩ := zmaxI 0 v7
  rw [← em4]
  have km4 := zrng m4
  refine zr_retI (by decide +kernel) rfl ?_
  rw [← hPost]; exact ⟨rfl, _, rfl, rfl, _, rfl, (by
        omega)⟩

set_option maxHeartbeats 8000000 in
set_option maxRecDepth 100000 in
theorem c_X12_isNumber {w : zM} {q : zA2} (b : Nat) (hB_b : zB w b q) : zCon 1 zq_X12_isNumber [.ref b] w (fun v9 w9' => w9' = w ∧ ∃ r9 : Int32, v9 = some (.int r9) ∧ (r9 = 0 ∨ r9 = 1) ∧ (r9 = 1 ↔ (zrw q = 0 ∨ (zrw q = 1 ∧ zln (q.1 0) = 1)))) := by
  intro d sz hd
  obtain ⟨d, rfl⟩ : ∃ d9, d = d9 + 1 := ⟨d - 1, by omega⟩
  generalize hPost : (fun (r9' : Option (Option Value)) (w9' : zM) (z9 : Nat) => z9 = sz ∧ ∃ v9, r9' = some v9 ∧ (w9' = w ∧ ∃ r9 : Int32, v9 = some (.int r9) ∧ (r9 = 0 ∨ r9 = 1) ∧ (r9 = 1 ↔ (zrw q = 0 ∨ (zrw q = 1 ∧ zln (q.1 0) = 1))))) = Post
  show zP (d + 1) zq_X12_isNumber 0 [(0, .ref b)] [] w sz 0 0 Post
  obtain ⟨nb, hb1, hb2, hb3, hb4, hb5, hb6⟩ := id hB_b
  have knb := zrng nb
  refine zp_seg (pc' := 1) (lv' := [(0, .ref b)]) (st' := [.ref b]) [(0, .aload_n 0)] (by decide +kernel) rfl ?_
  refine zr_get (idx := 20) (k := 1) (v := .int nb) (by decide +kernel) (by decide +kernel) hb1 rfl ?_
  refine zp_if (i := .ifCond .eq 24) (c := nb = 0) (t := 28) (e := 7) (lv' := [(0, .ref b)]) (st' := []) (by decide +kernel) rfl (fun cc4 => ?_) (fun cc4 => ?_)
  ·
    have k1 := zrng nb
    have f3 := zeqI cc4
    rw [show (0 : Int32).toInt = 0 from by decide] at f3
    refine zp_seg (pc' := 33) (lv' := [(0, .ref b)]) (st' := [.int 1]) [(28, .iconst 1), (29, .goto 4)] (by decide +kernel) rfl ?_
    refine zr_retB (by decide +kernel) rfl (by decide) ?_
    rw [← hPost]; exact ⟨rfl, _, rfl, rfl, _, rfl, (by decide), (by
          first
            | exact ⟨fun _ => by omega, fun _ => rfl⟩
            | exact ⟨fun e => absurd e (by decide), fun e => by exfalso; omega⟩)⟩
  ·
    have k4 := zrng nb
    have f6 := zneI cc4
    rw [show (0 : Int32).toInt = 0 from by decide] at f6
    refine zp_seg (pc' := 8) (lv' := [(0, .ref b)]) (st' := [.ref b]) [(7, .aload_n 0)] (by decide +kernel) rfl ?_
    refine zr_get (idx := 20) (k := 1) (v := .int nb) (by decide +kernel) (by decide +kernel) hb1 rfl ?_
    refine zp_seg (pc' := 12) (lv' := [(0, .ref b)]) (st' := [.int 1, .int nb]) [(11, .iconst 1)] (by decide +kernel) rfl ?_
    refine zp_if (i := .if_icmp .ne 20) (c := ¬ nb = 1) (t := 32) (e := 15) (lv' := [(0, .ref b)]) (st' := []) (by decide +kernel) rfl (fun cc12 => ?_) (fun cc12 => ?_)
    ·
      have f8 := zneI cc12
      rw [show (1 : Int32).toInt = 1 from by decide] at f8
      refine zp_seg (pc' := 33) (lv' := [(0, .ref b)]) (st' := [.int 0]) [(32, .iconst 0)] (by decide +kernel) rfl ?_
      refine zr_retB (by decide +kernel) rfl (by decide) ?_
      rw [← hPost]; exact ⟨rfl, _, rfl, rfl, _, rfl, (by decide), (by
            first
              | exact ⟨fun _ => by omega, fun _ => rfl⟩
              | exact ⟨fun e => absurd e (by decide), fun e => by exfalso; omega⟩)⟩
    ·
      replace cc12 := Classical.not_not.mp cc12
      have f10 := zeqI cc12
      rw [show (1 : Int32).toInt = 1 from by decide] at f10
      refine zp_seg (pc' := 16) (lv' := [(0, .ref b)]) (st' := [.ref b]) [(15, .aload_n 0)] (by decide +kernel) rfl ?_
      refine zr_get (idx := 11) (k := 0) (v := .ref (b + 1)) (by decide +kernel) (by decide +kernel) hb1 rfl ?_
      refine zp_seg (pc' := 20) (lv' := [(0, .ref b)]) (st' := [.int 0, .ref (b + 1)]) [(19, .iconst 0)] (by decide +kernel) rfl ?_
      have hl11 : (0 : Int32).toInt = 0 := by decide
      have hz12 : ((0 : Int32).toNatClampNeg : Int) = 0 := by decide
      refine zr_aald (v := .ref (b + 2 + 2 * 0)) (by decide +kernel) hb2 (by decide) (zin (by decide) (by decide)) rfl ?_
      have hrow13 := hB_b.row 0 (by omega)
      obtain ⟨n14, f15, hu16, hu17, hu18, hu19, hu20⟩ := id hrow13
      have kn14 := zrng n14
      refine zr_get (idx := 24) (k := 1) (v := .int n14) (by decide +kernel) (by decide +kernel) hu16 rfl ?_
      refine zp_seg (pc' := 25) (lv' := [(0, .ref b)]) (st' := [.int 1, .int n14]) [(24, .iconst 1)] (by decide +kernel) rfl ?_
      refine zp_if (i := .if_icmp .ne 7) (c := ¬ n14 = 1) (t := 32) (e := 28) (lv' := [(0, .ref b)]) (st' := []) (by decide +kernel) rfl (fun cc25 => ?_) (fun cc25 => ?_)
      ·
        have f21 := zneI cc25
        rw [show (1 : Int32).toInt = 1 from by decide] at f21
        refine zp_seg (pc' := 33) (lv' := [(0, .ref b)]) (st' := [.int 0]) [(32, .iconst 0)] (by decide +kernel) rfl ?_
        refine zr_retB (by decide +kernel) rfl (by decide) ?_
        rw [← hPost]; exact ⟨rfl, _, rfl, rfl, _, rfl, (by decide), (by
              first
                | exact ⟨fun _ => by omega, fun _ => rfl⟩
                | exact ⟨fun e => absurd e (by decide), fun e => by exfalso; omega⟩)⟩
      ·
        replace cc25 := Classical.not_not.mp cc25
        have f22 := zeqI cc25
        rw [show (1 : Int32).toInt = 1 from by decide] at f22
        refine zp_seg (pc' := 33) (lv' := [(0, .ref b)]) (st' := [.int 1]) [(28, .iconst 1), (29, .goto 4)] (by decide +kernel) rfl ?_
        refine zr_retB (by decide +kernel) rfl (by decide) ?_
        rw [← hPost]; exact ⟨rfl, _, rfl, rfl, _, rfl, (by decide), (by
              first
                | exact ⟨fun _ => by omega, fun _ => rfl⟩
                | exact ⟨fun e => absurd e (by decide), fun e => by exfalso; omega⟩)⟩

set_option maxHeartbeats 8000000 in
set_option maxRecDepth 100000 in
theorem c_X16_set_ {w : zM} {q : zA2} (to : Nat) (a : Nat) (hBo_to : zBo w to) (hB_a : zB w a q) (hdj : to + 130 ≤ a ∨ a + 130 ≤ to) : zCon 2 zq_X16_set_ [.ref to, .ref a] w (fun v9 w9' => zSI w w9' ∧ (∀ x, (x < to ∨ to + 130 ≤ x) → w9' x = w x) ∧ zB w9' to q ∧ v9 = none) := by
  intro d sz hd
  obtain ⟨d, rfl⟩ : ∃ d9, d = d9 + 1 := ⟨d - 1, by omega⟩
  generalize hPost : (fun (r9' : Option (Option Value)) (w9' : zM) (z9 : Nat) => z9 = sz ∧ ∃ v9, r9' = some v9 ∧ (zSI w w9' ∧ (∀ x, (x < to ∨ to + 130 ≤ x) → w9' x = w x) ∧ zB w9' to q ∧ v9 = none)) = Post
  show zP (d + 1) zq_X16_set_ 0 [(0, .ref to), (1, .ref a)] [] w sz 0 0 Post
  obtain ⟨na, ha1, ha2, ha3, ha4, ha5, ha6⟩ := id hB_a
  have kna := zrng na
  refine zp_seg (pc' := 2) (lv' := [(2, .int 0), (0, .ref to), (1, .ref a)]) (st' := []) [(0, .iconst 0), (1, .istore_n 2)] (by decide +kernel) rfl ?_
  have hL2 : ∀ (mm2 : Nat) (wL2 : zM) (y2_2 : Int32), (zSI w wL2) → (∀ x, (x < to + 2 ∨ to + 2 + 128 ≤ x) → wL2 x = w x) → (0 ≤ y2_2.toInt) → (y2_2.toInt ≤ (zrw q : Int)) → (∀ t, t < y2_2.toNatClampNeg → zU wL2 (to + 2 + 2 * t) 200 (q.1 t)) → (2147483647 - y2_2.toInt).toNat < mm2 → zP (d + 1) zq_X16_set_ 2 [(0, .ref to), (1, .ref a), (2, .int y2_2)] [] wL2 sz 0 0 Post := by
    intro mm2
    induction mm2 with
    | zero => intros; omega
    | succ mm2 ih2 =>
    intro wL2 y2_2 hsiL2 heqL2 hi2_0 hi2_1 hT hmu2
    have ky2_2 := zrng y2_2
    refine zp_seg (pc' := 4) (lv' := [(0, .ref to), (1, .ref a), (2, .int y2_2)]) (st' := [.ref a, .int y2_2]) [(2, .iload_n 2), (3, .aload_n 1)] (by decide +kernel) rfl ?_
    have hb1 : wL2 a = some (.inl (11, [.ref (a + 1), .int na])) := (heqL2 a (by omega)).trans ha1
    refine zr_get (idx := 93) (k := 1) (v := .int na) (by decide +kernel) (by decide +kernel) hb1 rfl ?_
    refine zp_if (i := .if_icmp .ge 24) (c := na ≤ y2_2) (t := 31) (e := 10) (lv' := [(0, .ref to), (1, .ref a), (2, .int y2_2)]) (st' := []) (by decide +kernel) rfl (fun cc7 => ?_) (fun cc7 => ?_)
    ·
      have k2 := zrng na
      have f3 := zleI cc7
      have hz4 : (y2_2.toNatClampNeg : Int) = y2_2.toInt := znat (by first | omega | decide)
      refine zp_seg (pc' := 33) (lv' := [(0, .ref to), (1, .ref a), (2, .int y2_2)]) (st' := [.ref a, .ref to]) [(31, .aload_n 0), (32, .aload_n 1)] (by decide +kernel) rfl ?_
      refine zr_get (idx := 93) (k := 1) (v := .int na) (by decide +kernel) (by decide +kernel) hb1 rfl ?_
      have hb10 := hBo_to.si hsiL2
      obtain ⟨n5, hb6, hb7, -⟩ := id hb10
      have kn5 := zrng n5
      refine zr_put2 (idx := 93) (k := 1) (fs2 := [.ref (to + 1), .int na]) (by decide +kernel) (by decide +kernel) hb6 (Nat.le_of_ble_eq_true rfl) rfl rfl rfl ?_
      show zP (d + 1) zq_X16_set_ 39 [(0, .ref to), (1, .ref a), (2, .int y2_2)] [] (zup wL2 to (.inl (11, [.ref (to + 1), .int na]))) sz 0 0 Post
      obtain ⟨w36, ew36⟩ : ∃ wz9, wz9 = zup wL2 to (.inl (11, [.ref (to + 1), .int na])) := ⟨_, rfl⟩
      have hsi36 : zSI wL2 w36 := by rw [ew36]; exact zSI.setB hb6
      have heq36 : ∀ x, x ≠ to → w36 x = wL2 x := fun x hx => by rw [ew36]; exact zup_n hx
      have hc36 : w36 to = some (.inl (11, [.ref (to + 1), .int na])) := by rw [ew36]; exact zup_s
      rw [← ew36]
      clear ew36
      have hoffend : ∀ x, (x < to ∨ to + 130 ≤ x) → w36 x = w x := fun x hx => ((heq36 x (by omega)).trans (heqL2 x (by omega)))
      have hb11 := hb10.si hsi36
      refine zr_retV (by decide +kernel) rfl ?_
      rw [← hPost]; exact ⟨rfl, _, rfl, (hsiL2.tr hsi36), hoffend, (by
            exact zB.mk hb11 hc36 (by omega) ha4 (fun j hj => (hT j (by omega)).ag (fun x g1 g2 => heq36 x (by omega)))), rfl⟩
    ·
      have k12 := zrng na
      have f13 := znleI cc7
      refine zp_seg (pc' := 11) (lv' := [(0, .ref to), (1, .ref a), (2, .int y2_2)]) (st' := [.ref to]) [(10, .aload_n 0)] (by decide +kernel) rfl ?_
      have hb19 := hBo_to.si hsiL2
      obtain ⟨n14, hb15, hb16, -⟩ := id hb19
      have kn14 := zrng n14
      refine zr_get (idx := 98) (k := 0) (v := .ref (to + 1)) (by decide +kernel) (by decide +kernel) hb15 rfl ?_
      refine zp_seg (pc' := 15) (lv' := [(0, .ref to), (1, .ref a), (2, .int y2_2)]) (st' := [.int y2_2, .ref (to + 1)]) [(14, .iload_n 2)] (by decide +kernel) rfl ?_
      have hz20 : (y2_2.toNatClampNeg : Int) = y2_2.toInt := znat (by first | omega | decide)
      refine zr_aald (v := .ref (to + 2 + 2 * y2_2.toNatClampNeg)) (by decide +kernel) hb16 (by decide) (zin (by first | omega | decide) (by first | omega | decide)) (zbr_at (by omega)) ?_
      have hrow21 := hb19.rowo (y2_2.toNatClampNeg) (by omega)
      refine zp_seg (pc' := 17) (lv' := [(0, .ref to), (1, .ref a), (2, .int y2_2)]) (st' := [.ref a, .ref (to + 2 + 2 * y2_2.toNatClampNeg)]) [(16, .aload_n 1)] (by decide +kernel) rfl ?_
      refine zr_get (idx := 98) (k := 0) (v := .ref (a + 1)) (by decide +kernel) (by decide +kernel) hb1 rfl ?_
      refine zp_seg (pc' := 21) (lv' := [(0, .ref to), (1, .ref a), (2, .int y2_2)]) (st' := [.int y2_2, .ref (a + 1), .ref (to + 2 + 2 * y2_2.toNatClampNeg)]) [(20, .iload_n 2)] (by decide +kernel) rfl ?_
      have hb22 : wL2 (a + 1) = some (.inr (4, 64, zbr a)) := (heqL2 (a + 1) (by omega)).trans ha2
      refine zr_aald (v := .ref (a + 2 + 2 * y2_2.toNatClampNeg)) (by decide +kernel) hb22 (by decide) (zin (by first | omega | decide) (by first | omega | decide)) (zbr_at (by omega)) ?_
      have hb23 : zB wL2 a q := hB_a.ag (fun x hx1 hx2 => (heqL2 x (by omega)))
      have hrow24 := hb23.row (y2_2.toNatClampNeg) (by omega)
      refine zr_callS (idx := 62) (j := 264) (by decide +kernel) (by decide +kernel) (by decide) (show zMe 264 = some zq_X16_set from rfl) rfl rfl (Nat.le_of_ble_eq_true rfl) rfl rfl (Nat.le_of_ble_eq_true rfl) (Nat.le_of_ble_eq_true rfl) (c_X16_set (w := wL2) (to + 2 + 2 * y2_2.toNatClampNeg) (a + 2 + 2 * y2_2.toNatClampNeg) hrow21 hrow24 (by first | omega | decide | assumption) (by exact (hrow24).cap)) (by omega) (fun v22 w22 hp22 => ?_)
      obtain ⟨hsi22, heq22, hp22_0, rfl⟩ := hp22
      show zP _ _ _ _ [] _ _ _ _ _
      refine zp_seg (pc' := 28) (lv' := [(2, .int (y2_2 + 1)), (0, .ref to), (1, .ref a)]) (st' := []) [(25, .iinc 2 1)] (by decide +kernel) rfl ?_
      have k25 := zaddC y2_2 1 (n := 1) (by decide) (by omega) (by omega)
      generalize ev28 : (y2_2 + 1 : Int32) = v28 at k25 ⊢
      have kv28 := zrng v28
      refine zp_seg (pc' := 2) (lv' := [(2, .int v28), (0, .ref to), (1, .ref a)]) (st' := []) [(28, .goto (-26))] (by decide +kernel) rfl ?_
      have hz26 : (v28.toNatClampNeg : Int) = v28.toInt := znat (by first | omega | decide)
      exact (ih2 w22 v28 (hsiL2.tr hsi22) (fun x hx => ((heq22 x (by omega)).trans (heqL2 x (by omega)))) (by first | assumption | omega | decide) (by first | assumption | omega | decide) (by
            intro t ht
            by_cases e : t = y2_2.toNatClampNeg
            · rw [e]; exact hp22_0
            · exact (hT t (by omega)).ag (fun x g1 g2 => heq22 x (by omega))) (by omega)).more (zfa1 rfl (zfa1 rfl (zfa1 rfl (zfa0))))
  have hl27 : (0 : Int32).toInt = 0 := by decide
  have hz28 : ((0 : Int32).toNatClampNeg : Int) = 0 := by decide
  exact (hL2 _ w 0 zSI.rf (fun _ _ => rfl) (by first | assumption | omega | decide) (by first | assumption | omega | decide) (by
        exact fun t ht => absurd ht (by omega)) (Nat.lt_succ_self _)).more (zfa1 rfl (zfa1 rfl (zfa1 rfl (zfa0))))
