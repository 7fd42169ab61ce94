theorem zx_X16_load__0 {u : Nat}  : u ≠ u + 1 := by omega
theorem zx_X16_load__1 {u : Nat}  : (u + 1) ≠ u := by omega
theorem zx_X16_load__2 {u x : Nat} (h0 : x < u ∨ u + 2 ≤ x) : x ≠ u + 1 := by omega
theorem zx_X16_load__3 {u x : Nat} (h0 : x < u ∨ u + 2 ≤ x) : x ≠ u := by omega
theorem zx_X16_load__4 {u x : Nat} (h0 : x < u ∨ u + 2 ≤ x) : x < u ∨ u + 1 ≤ x := by omega
set_option maxHeartbeats 8000000 in
set_option maxRecDepth 100000 in
theorem c_X16_load_ {w : zM} {cu nc : Nat} {fc : Nat → Int32} (u : Nat) (cells : Nat) (at9 : Int32) (hUo_u : zUo w u cu) (hA_cells : w cells = some (.inr (0, nc, .inl fc))) (hcu : 25 ≤ cu) (hat : 0 ≤ at9.toInt ∧ at9.toInt + 25 ≤ (nc : Int)) (hcr : ∀ i, i < 25 → zr1 (fc (at9.toNatClampNeg + i))) (hcb : cells < u ∨ u + 2 ≤ cells) : zCon 2 zq_X16_load_ [.ref u, .ref cells, .int at9] w (fun v9 w9' => zSI w w9' ∧ (∀ x, (x < u ∨ u + 2 ≤ x) → w9' x = w x) ∧ zU w9' u cu (zaOf (fun i => zf (fc (at9.toNatClampNeg + i))) 25) ∧ v9 = none) := by
  intro d sz hd
  obtain ⟨d, rfl⟩ : ∃ d9, d = d9 + 1 := ⟨d - 1, by omega⟩
  generalize hPost : (fun (r9' : Option (Option Value)) (w9' : zM) (z9 : Nat) => z9 = sz ∧ ∃ v9, r9' = some v9 ∧ (zSI w w9' ∧ (∀ x, (x < u ∨ u + 2 ≤ x) → w9' x = w x) ∧ zU w9' u cu (zaOf (fun i => zf (fc (at9.toNatClampNeg + i))) 25) ∧ v9 = none)) = Post
  show zP (d + 1) zq_X16_load_ 0 [(0, .ref u), (1, .ref cells), (2, .int at9)] [] w sz 0 0 Post
  have k1 := zrng at9
  have hz2 : (at9.toNatClampNeg : Int) = at9.toInt := znat (by first | omega | decide)
  refine zp_seg (pc' := 3) (lv' := [(0, .ref u), (1, .ref cells), (2, .int at9)]) (st' := [.ref u, .int at9, .ref cells]) [(0, .aload_n 1), (1, .iload_n 2), (2, .aload_n 0)] (by decide +kernel) rfl ?_
  obtain ⟨n3, f4, hu5, hu6⟩ := id hUo_u
  have kn3 := zrng n3
  refine zr_get (idx := 30) (k := 0) (v := .ref (u + 1)) (by decide +kernel) (by decide +kernel) hu5 rfl ?_
  refine zp_seg (pc' := 9) (lv' := [(0, .ref u), (1, .ref cells), (2, .int at9)]) (st' := [.int 25, .int 0, .ref (u + 1), .int at9, .ref cells]) [(6, .iconst 0), (7, .bipush 25)] (by decide +kernel) rfl ?_
  have hl7 : (25 : Int32).toInt = 25 := by decide
  have hl8 : (0 : Int32).toInt = 0 := by decide
  refine zr_acpy (idx := 34) (by decide +kernel) (by decide +kernel) hA_cells hu6 (rfl) (by first | omega | decide) (by first | omega | decide) (by first | omega | decide) (by first | omega | decide) (by first | omega | decide) (by omega) (Nat.le_of_ble_eq_true rfl) ?_
  show zP (d + 1) zq_X16_load_ 12 [(0, .ref u), (1, .ref cells), (2, .int at9)] [] (zup w (u + 1) (.inr (0, cu, .inl (va_cpy fc f4 (at9.toNatClampNeg) ((0 : Int32).toNatClampNeg) ((25 : Int32).toNatClampNeg))))) sz 0 0 Post
  obtain ⟨w9, ew9⟩ : ∃ wz9, wz9 = zup w (u + 1) (.inr (0, cu, .inl (va_cpy fc f4 (at9.toNatClampNeg) ((0 : Int32).toNatClampNeg) ((25 : Int32).toNatClampNeg)))) := ⟨_, rfl⟩
  have hsi9 : zSI w w9 := by rw [ew9]; exact zSI.arr _ hu6
  have heq9 : ∀ x, x ≠ u + 1 → w9 x = w x := fun x hx => by rw [ew9]; exact zup_n hx
  have hc9 : w9 (u + 1) = some (.inr (0, cu, .inl (va_cpy fc f4 (at9.toNatClampNeg) ((0 : Int32).toNatClampNeg) ((25 : Int32).toNatClampNeg)))) := by rw [ew9]; exact zup_s
  rw [← ew9]
  clear ew9
  refine zp_seg (pc' := 15) (lv' := [(0, .ref u), (1, .ref cells), (2, .int at9)]) (st' := [.int 25, .ref u]) [(12, .aload_n 0), (13, .bipush 25)] (by decide +kernel) rfl ?_
  have hb9 : w9 u = some (.inl (14, [.ref (u + 1), .int n3])) := (heq9 u (zx_X16_load__0)).trans hu5
  refine zr_put2 (idx := 25) (k := 1) (fs2 := [.ref (u + 1), .int 25]) (by decide +kernel) (by decide +kernel) hb9 (Nat.le_of_ble_eq_true rfl) rfl rfl rfl ?_
  show zP (d + 1) zq_X16_load_ 18 [(0, .ref u), (1, .ref cells), (2, .int at9)] [] (zup w9 u (.inl (14, [.ref (u + 1), .int 25]))) sz 0 0 Post
  obtain ⟨w15, ew15⟩ : ∃ wz9, wz9 = zup w9 u (.inl (14, [.ref (u + 1), .int 25])) := ⟨_, rfl⟩
  have hsi15 : zSI w9 w15 := by rw [ew15]; exact zSI.setU hb9
  have heq15 : ∀ x, x ≠ u → w15 x = w9 x := fun x hx => by rw [ew15]; exact zup_n hx
  have hc15 : w15 u = some (.inl (14, [.ref (u + 1), .int 25])) := by rw [ew15]; exact zup_s
  rw [← ew15]
  clear ew15
  refine zp_seg (pc' := 19) (lv' := [(0, .ref u), (1, .ref cells), (2, .int at9)]) (st' := [.ref u]) [(18, .aload_n 0)] (by decide +kernel) rfl ?_
  have hb10 : w15 (u + 1) = some (.inr (0, cu, .inl (va_cpy fc f4 (at9.toNatClampNeg) ((0 : Int32).toNatClampNeg) ((25 : Int32).toNatClampNeg)))) := (heq15 (u + 1) (zx_X16_load__1)).trans hc9
  have hUn9 := zUn_cpy2 (fc := fc) hc15 hb10 (by decide) hcu hcr rfl
  refine zr_callV (idx := 52) (j := 251) (by decide +kernel) (by decide +kernel) (show zMe 251 = some zq_X15_trim from rfl) rfl rfl (Nat.le_of_ble_eq_true rfl) rfl rfl hc15 (Nat.le_of_ble_eq_true rfl) (Nat.le_of_ble_eq_true rfl) (c_X15_trim (w := w15) u hUn9) (by omega) (fun v19 w19 hp19 => ?_)
  obtain ⟨hsi19, heq19, hp19_0, rfl⟩ := hp19
  show zP _ _ _ _ [] _ _ _ _ _
  have hoffend : ∀ x, (x < u ∨ u + 2 ≤ x) → w19 x = w x := fun x hx => ((heq19 x (zx_X16_load__4 hx)).trans ((heq15 x (zx_X16_load__3 hx)).trans (heq9 x (zx_X16_load__2 hx))))
  refine zr_retV (by decide +kernel) rfl ?_
  rw [← hPost]; exact ⟨rfl, _, rfl, ((hsi9.tr hsi15).tr hsi19), hoffend, (by first | exact hp19_0 | (have z9 := hp19_0; simpa using z9)), rfl⟩

theorem zx_X16_store__0 {cells u x : Nat} (h0 : u ≤ x) (h1 : x < u + 2) (h2 : cells < u ∨ u + 2 ≤ cells) : x < cells ∨ cells + 1 ≤ x := by omega
theorem zx_X16_store__1 {cells x : Nat} (h0 : x < cells ∨ cells + 1 ≤ x) : x ≠ cells := by omega
set_option maxHeartbeats 8000000 in
set_option maxRecDepth 100000 in
theorem c_X16_store_ {w : zM} {cu nc : Nat} {fc : Nat → Int32} {p : zA1} (cells : Nat) (at9 : Int32) (u : Nat) (hA_cells : w cells = some (.inr (0, nc, .inl fc))) (hU_u : zU w u cu p) (hat : 0 ≤ at9.toInt ∧ at9.toInt + 25 ≤ (nc : Int) ∧ (nc : Int) ≤ 1000) (hcb : cells < u ∨ u + 2 ≤ cells) : zCon 2 zq_X16_store_ [.ref cells, .int at9, .ref u] w (fun v9 w9' => ∃ F9 : Nat → Int32, zSI w w9' ∧ (∀ x, (x < cells ∨ cells + 1 ≤ x) → w9' x = w x) ∧ w9' cells = some (.inr (0, nc, .inl F9)) ∧ ((∀ i, i < 25 → zr1 (F9 (at9.toNatClampNeg + i)) ∧ zf (F9 (at9.toNatClampNeg + i)) = p.1 i) ∧ ∀ j, (j < at9.toNatClampNeg ∨ at9.toNatClampNeg + 25 ≤ j) → F9 j = fc j) ∧ v9 = none) := by
  intro d sz hd
  obtain ⟨d, rfl⟩ : ∃ d9, d = d9 + 1 := ⟨d - 1, by omega⟩
  generalize hPost : (fun (r9' : Option (Option Value)) (w9' : zM) (z9 : Nat) => z9 = sz ∧ ∃ v9, r9' = some v9 ∧ (∃ F9 : Nat → Int32, zSI w w9' ∧ (∀ x, (x < cells ∨ cells + 1 ≤ x) → w9' x = w x) ∧ w9' cells = some (.inr (0, nc, .inl F9)) ∧ ((∀ i, i < 25 → zr1 (F9 (at9.toNatClampNeg + i)) ∧ zf (F9 (at9.toNatClampNeg + i)) = p.1 i) ∧ ∀ j, (j < at9.toNatClampNeg ∨ at9.toNatClampNeg + 25 ≤ j) → F9 j = fc j) ∧ v9 = none)) = Post
  show zP (d + 1) zq_X16_store_ 0 [(0, .ref cells), (1, .int at9), (2, .ref u)] [] w sz 0 0 Post
  have k1 := zrng at9
  have hz2 : (at9.toNatClampNeg : Int) = at9.toInt := znat (by first | omega | decide)
  refine zp_seg (pc' := 2) (lv' := [(3, .int 0), (0, .ref cells), (1, .int at9), (2, .ref u)]) (st' := []) [(0, .iconst 0), (1, .istore_n 3)] (by decide +kernel) rfl ?_
  have hL2 : ∀ (mm2 : Nat) (wL2 : zM) (y3_2 : Int32) (fa : Nat → Int32), (zSI w wL2) → (∀ x, (x < cells ∨ cells + 1 ≤ x) → wL2 x = w x) → (0 ≤ y3_2.toInt) → (y3_2.toInt ≤ 25) → (wL2 cells = some (.inr (0, nc, .inl fa))) → ((∀ i, i < y3_2.toNatClampNeg → zr1 (fa (at9.toNatClampNeg + i)) ∧ zf (fa (at9.toNatClampNeg + i)) = p.1 i) ∧ ∀ j, (j < at9.toNatClampNeg ∨ at9.toNatClampNeg + 25 ≤ j) → fa j = fc j) → (30 - y3_2.toInt).toNat < mm2 → zP (d + 1) zq_X16_store_ 2 [(0, .ref cells), (1, .int at9), (2, .ref u), (3, .int y3_2)] [] wL2 sz 0 0 Post := by
    intro mm2
    induction mm2 with
    | zero => intros; omega
    | succ mm2 ih2 =>
    intro wL2 y3_2 fa hsiL2 heqL2 hi2_0 hi2_1 hAa hC hmu2
    have ky3_2 := zrng y3_2
    have hz3 : (y3_2.toNatClampNeg : Int) = y3_2.toInt := znat (by first | omega | decide)
    refine zp_seg (pc' := 5) (lv' := [(0, .ref cells), (1, .int at9), (2, .ref u), (3, .int y3_2)]) (st' := [.int 25, .int y3_2]) [(2, .iload_n 3), (3, .bipush 25)] (by decide +kernel) rfl ?_
    refine zp_if (i := .if_icmp .ge 19) (c := 25 ≤ y3_2) (t := 24) (e := 8) (lv' := [(0, .ref cells), (1, .int at9), (2, .ref u), (3, .int y3_2)]) (st' := []) (by decide +kernel) rfl (fun cc5 => ?_) (fun cc5 => ?_)
    ·
      have f5 := zleI cc5
      rw [show (25 : Int32).toInt = 25 from by decide] at f5
      have hoffend : ∀ x, (x < cells ∨ cells + 1 ≤ x) → wL2 x = w x := fun x hx => (heqL2 x hx)
      refine zr_retV (by decide +kernel) rfl ?_
      rw [← hPost]; exact ⟨rfl, _, rfl, fa, hsiL2, hoffend, hAa, (by
            exact ⟨fun i hi => hC.1 i (by omega), hC.2⟩), rfl⟩
    ·
      have f7 := znleI cc5
      rw [show (25 : Int32).toInt = 25 from by decide] at f7
      refine zp_seg (pc' := 12) (lv' := [(0, .ref cells), (1, .int at9), (2, .ref u), (3, .int y3_2)]) (st' := [.int (at9 + y3_2), .ref cells]) [(8, .aload_n 0), (9, .iload_n 1), (10, .iload_n 3), (11, .iadd)] (by decide +kernel) rfl ?_
      have k8 := zadd at9 y3_2 (by omega) (by omega)
      generalize ev12 : (at9 + y3_2 : Int32) = v12 at k8 ⊢
      have kv12 := zrng v12
      have hz9 : (v12.toNatClampNeg : Int) = v12.toInt := znat (by first | omega | decide)
      have hix9 : v12.toNatClampNeg = at9.toNatClampNeg + y3_2.toNatClampNeg := by omega
      refine zp_seg (pc' := 14) (lv' := [(0, .ref cells), (1, .int at9), (2, .ref u), (3, .int y3_2)]) (st' := [.int y3_2, .ref u, .int v12, .ref cells]) [(12, .aload_n 2), (13, .iload_n 3)] (by decide +kernel) rfl ?_
      have hb10 : zU wL2 u cu p := hU_u.ag (fun x hx1 hx2 => (heqL2 x (zx_X16_store__0 hx1 hx2 hcb)))
      obtain ⟨n11, f12, hu13, hu14, hu15, hu16, hu17⟩ := id hb10
      have kn11 := zrng n11
      refine zr_callV (idx := 122) (j := 254) (by decide +kernel) (by decide +kernel) (show zMe 254 = some zq_X15_at from rfl) rfl rfl (Nat.le_of_ble_eq_true rfl) rfl rfl hu13 (Nat.le_of_ble_eq_true rfl) (Nat.le_of_ble_eq_true rfl) (c_X15_at (w := wL2) u y3_2 hb10) (by omega) (fun v14 w14 hp14 => ?_)
      obtain ⟨hpw14, r14, rfl, hr14⟩ := hp14
      replace hpw14 := hpw14.symm
      subst hpw14
      have kr14 := zrng r14
      show zP _ _ _ _ [.int r14, .int v12, .ref cells] _ _ _ _ _
      refine zr_iast (by decide +kernel) hAa (zin (by first | omega | decide) (by first | omega | decide)) ?_
      show zP (d + 1) zq_X16_store_ 18 [(0, .ref cells), (1, .int at9), (2, .ref u), (3, .int y3_2)] [] (zup wL2 cells (.inr (0, nc, .inl (upd fa (v12.toNatClampNeg) r14)))) sz 0 0 Post
      obtain ⟨w17, ew17⟩ : ∃ wz9, wz9 = zup wL2 cells (.inr (0, nc, .inl (upd fa (v12.toNatClampNeg) r14))) := ⟨_, rfl⟩
      have hsi17 : zSI wL2 w17 := by rw [ew17]; exact zSI.arr _ hAa
      have heq17 : ∀ x, x ≠ cells → w17 x = wL2 x := fun x hx => by rw [ew17]; exact zup_n hx
      have hc17 : w17 cells = some (.inr (0, nc, .inl (upd fa (v12.toNatClampNeg) r14))) := by rw [ew17]; exact zup_s
      rw [← ew17]
      clear ew17
      refine zp_seg (pc' := 21) (lv' := [(3, .int (y3_2 + 1)), (0, .ref cells), (1, .int at9), (2, .ref u)]) (st' := []) [(18, .iinc 3 1)] (by decide +kernel) rfl ?_
      have k18 := zaddC y3_2 1 (n := 1) (by decide) (by omega) (by omega)
      generalize ev21 : (y3_2 + 1 : Int32) = v21 at k18 ⊢
      have kv21 := zrng v21
      refine zp_seg (pc' := 2) (lv' := [(3, .int v21), (0, .ref cells), (1, .int at9), (2, .ref u)]) (st' := []) [(21, .goto (-19))] (by decide +kernel) rfl ?_
      have hz19 : (v21.toNatClampNeg : Int) = v21.toInt := znat (by first | omega | decide)
      exact (ih2 w17 v21 ((upd fa (v12.toNatClampNeg) r14)) (hsiL2.tr hsi17) (fun x hx => ((heq17 x (zx_X16_store__1 hx)).trans (heqL2 x hx))) (by first | assumption | omega | decide) (by first | assumption | omega | decide) hc17 (by
            refine ⟨fun i hi => ?_, fun j hj => ?_⟩
            · by_cases e : i = y3_2.toNatClampNeg
              · rw [e, ← hix9, zupd_s]; exact ⟨hr14.1, hr14.2 (by omega)⟩
              · rw [zupd_n _ _ (by omega)]; exact hC.1 i (by omega)
            · rw [zupd_n _ _ (by omega)]; exact hC.2 j hj) (by omega)).more (zfa1 rfl (zfa1 rfl (zfa1 rfl (zfa1 rfl (zfa0)))))
  have hl20 : (0 : Int32).toInt = 0 := by decide
  have hz21 : ((0 : Int32).toNatClampNeg : Int) = 0 := by decide
  exact (hL2 _ w 0 (fc) zSI.rf (fun _ _ => rfl) (by first | assumption | omega | decide) (by first | assumption | omega | decide) hA_cells (by
        exact ⟨fun i hi => absurd hi (by omega), fun _ _ => rfl⟩) (Nat.lt_succ_self _)).more (zfa1 rfl (zfa1 rfl (zfa1 rfl (zfa1 rfl (zfa0)))))
