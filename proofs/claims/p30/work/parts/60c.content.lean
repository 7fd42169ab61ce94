set_option maxHeartbeats 8000000 in
set_option maxRecDepth 100000 in
theorem c_X16_content {w : zM} {g : Nat → Int32} {r : Nat → Value} {ct : Nat} {q : zA2} {g1 : Int32} (m : Nat) (to : Nat) (a : Nat) (hm : w m = some (.inl (15, zMo m g r))) (hR_m : zR m w) (hUo_to : zUo w to ct) (hB_a : zB w a q) (hut : 0 ≤ g1.toInt ∧ g1.toInt + 3 ≤ 160) (hmt : (m + 276 ≤ to ∧ to + 2 ≤ m + 276 + 2 * g1.toNatClampNeg) ∨ m + 596 ≤ to) (hma : m + 596 ≤ a) (hta : to + 2 ≤ a ∨ a + 130 ≤ to) (hct : 200 ≤ ct) (hg1 : g 1 = g1) : zCon 5 zq_X16_content [.ref m, .ref to, .ref a] w (fun v9 w9' => zSI w w9' ∧ (∀ x, (x < to ∨ to + 2 ≤ x) ∧ (x < m + 276 + 2 * g1.toNatClampNeg ∨ m + 276 + 2 * g1.toNatClampNeg + (320 - 2 * g1.toNatClampNeg) ≤ x) → w9' x = w x) ∧ zU w9' to ct (zcont q) ∧ v9 = none) := by
  subst hg1
  intro d sz hd
  obtain ⟨d, rfl⟩ : ∃ d9, d = d9 + 1 := ⟨d - 1, by omega⟩
  generalize hPost : (fun (r9' : Option (Option Value)) (w9' : zM) (z9 : Nat) => z9 = sz ∧ ∃ v9, r9' = some v9 ∧ (zSI w w9' ∧ (∀ x, (x < to ∨ to + 2 ≤ x) ∧ (x < m + 276 + 2 * (g 1).toNatClampNeg ∨ m + 276 + 2 * (g 1).toNatClampNeg + (320 - 2 * (g 1).toNatClampNeg) ≤ x) → w9' x = w x) ∧ zU w9' to ct (zcont q) ∧ v9 = none)) = Post
  show zP (d + 1) zq_X16_content 0 [(0, .ref m), (1, .ref to), (2, .ref a)] [] w sz 0 0 Post
  have k1 := zrng (g 1)
  have hz2 : ((g 1).toNatClampNeg : Int) = (g 1).toInt := znat (by first | omega | decide)
  obtain ⟨na, hQa1, hQa2, hQa3, hQa4, hQa5, hQa6⟩ := id hB_a
  have kna := zrng na
  refine zp_seg (pc' := 2) (lv' := [(0, .ref m), (1, .ref to), (2, .ref a)]) (st' := [.int 0, .ref to]) [(0, .aload_n 1), (1, .iconst 0)] (by decide +kernel) rfl ?_
  obtain ⟨n3, f4, hu5, hu6⟩ := id hUo_to
  have kn3 := zrng n3
  refine zr_put2 (idx := 25) (k := 1) (fs2 := [.ref (to + 1), .int 0]) (by decide +kernel) (by decide +kernel) hu5 (Nat.le_of_ble_eq_true rfl) rfl rfl rfl ?_
  show zP (d + 1) zq_X16_content 5 [(0, .ref m), (1, .ref to), (2, .ref a)] [] (zup w to (.inl (14, [.ref (to + 1), .int 0]))) sz 0 0 Post
  obtain ⟨w2, ew2⟩ : ∃ wz9, wz9 = zup w to (.inl (14, [.ref (to + 1), .int 0])) := ⟨_, rfl⟩
  have hsi2 : zSI w w2 := by rw [ew2]; exact zSI.setU hu5
  have heq2 : ∀ x, x ≠ to → w2 x = w x := fun x hx => by rw [ew2]; exact zup_n hx
  have hc2 : w2 to = some (.inl (14, [.ref (to + 1), .int 0])) := by rw [ew2]; exact zup_s
  rw [← ew2]
  clear ew2
  refine zp_seg (pc' := 7) (lv' := [(3, .int 0), (0, .ref m), (1, .ref to), (2, .ref a)]) (st' := []) [(5, .iconst 0), (6, .istore_n 3)] (by decide +kernel) rfl ?_
  have hb7 : w2 m = some (.inl (15, zMo m g r)) := (heq2 m (by omega)).trans hm
  have hL7 : ∀ (mm7 : Nat) (wL7 : zM) (y3_7 : Int32) (G : zA1), (zSI w2 wL7) → (∀ x, ((x < to ∨ to + 2 ≤ x) ∧ (x < m + 276 + 2 * (g 1).toNatClampNeg ∨ m + 276 + 2 * (g 1).toNatClampNeg + (320 - 2 * (g 1).toNatClampNeg) ≤ x)) ∧ x ≠ m → wL7 x = w2 x) → (0 ≤ y3_7.toInt) → (y3_7.toInt ≤ (zrw q : Int)) → (zln G ≤ 200) → (zU wL7 to ct G) → (wL7 m = some (.inl (15, zMo m g r))) → (zisC G q y3_7.toNatClampNeg) → (2147483647 - y3_7.toInt).toNat < mm7 → zP (d + 1) zq_X16_content 7 [(0, .ref m), (1, .ref to), (2, .ref a), (3, .int y3_7)] [] wL7 sz 0 0 Post := by
    intro mm7
    induction mm7 with
    | zero => intros; omega
    | succ mm7 ih7 =>
    intro wL7 y3_7 G hsiL7 heqL7 hi7_0 hi7_1 hi7_2 hUG hmL7 hC hmu7
    have ky3_7 := zrng y3_7
    refine zp_seg (pc' := 9) (lv' := [(0, .ref m), (1, .ref to), (2, .ref a), (3, .int y3_7)]) (st' := [.ref a, .int y3_7]) [(7, .iload_n 3), (8, .aload_n 2)] (by decide +kernel) rfl ?_
    have hb8 : wL7 a = some (.inl (11, [.ref (a + 1), .int na])) := ((heqL7 a (by omega)).trans (heq2 a (by omega))).trans hQa1
    refine zr_get (idx := 93) (k := 1) (v := .int na) (by decide +kernel) (by decide +kernel) hb8 rfl ?_
    refine zp_if (i := .if_icmp .ge 29) (c := na ≤ y3_7) (t := 41) (e := 15) (lv' := [(0, .ref m), (1, .ref to), (2, .ref a), (3, .int y3_7)]) (st' := []) (by decide +kernel) rfl (fun cc12 => ?_) (fun cc12 => ?_)
    ·
      have k9 := zrng na
      have f10 := zleI cc12
      have hz11 : (y3_7.toNatClampNeg : Int) = y3_7.toInt := znat (by first | omega | decide)
      have hmend : wL7 m = w m := by rw [hmL7, hm]
      have hoffend : ∀ x, (x < to ∨ to + 2 ≤ x) ∧ (x < m + 276 + 2 * (g 1).toNatClampNeg ∨ m + 276 + 2 * (g 1).toNatClampNeg + (320 - 2 * (g 1).toNatClampNeg) ≤ x) → wL7 x = w x := fun x hx => by
          by_cases ex : x = m
          · rw [ex]; exact hmend
          · exact ((heqL7 x (by omega)).trans (heq2 x (by omega)))
      refine zr_retV (by decide +kernel) rfl ?_
      rw [← hPost]; exact ⟨rfl, _, rfl, (hsi2.tr hsiL7), hoffend, (by
            rw [← zcont_is hC (by omega) (by omega)]
            exact hUG), rfl⟩
    ·
      have k12 := zrng na
      have f13 := znleI cc12
      have hz14 : (y3_7.toNatClampNeg : Int) = y3_7.toInt := znat (by first | omega | decide)
      refine zp_seg (pc' := 16) (lv' := [(0, .ref m), (1, .ref to), (2, .ref a), (3, .int y3_7)]) (st' := [.ref to]) [(15, .aload_n 1)] (by decide +kernel) rfl ?_
      obtain ⟨n15, f16, hu17, hu18, hu19, hu20, hu21⟩ := id hUG
      have kn15 := zrng n15
      refine zr_get (idx := 25) (k := 1) (v := .int n15) (by decide +kernel) (by decide +kernel) hu17 rfl ?_
      refine zp_seg (pc' := 20) (lv' := [(0, .ref m), (1, .ref to), (2, .ref a), (3, .int y3_7)]) (st' := [.int 1, .int n15]) [(19, .iconst 1)] (by decide +kernel) rfl ?_
      refine zp_if (i := .if_icmp .eq 21) (c := n15 = 1) (t := 41) (e := 23) (lv' := [(0, .ref m), (1, .ref to), (2, .ref a), (3, .int y3_7)]) (st' := []) (by decide +kernel) rfl (fun cc20 => ?_) (fun cc20 => ?_)
      ·
        have f23 := zeqI cc20
        rw [show (1 : Int32).toInt = 1 from by decide] at f23
        have hmend : wL7 m = w m := by rw [hmL7, hm]
        have hoffend : ∀ x, (x < to ∨ to + 2 ≤ x) ∧ (x < m + 276 + 2 * (g 1).toNatClampNeg ∨ m + 276 + 2 * (g 1).toNatClampNeg + (320 - 2 * (g 1).toNatClampNeg) ≤ x) → wL7 x = w x := fun x hx => by
            by_cases ex : x = m
            · rw [ex]; exact hmend
            · exact ((heqL7 x (by omega)).trans (heq2 x (by omega)))
        refine zr_retV (by decide +kernel) rfl ?_
        rw [← hPost]; exact ⟨rfl, _, rfl, (hsi2.tr hsiL7), hoffend, (by
              rw [← zcont_is hC (by omega) (by omega)]
              exact hUG), rfl⟩
      ·
        have f25 := zneI cc20
        rw [show (1 : Int32).toInt = 1 from by decide] at f25
        have hgl := @zgcd_le G (q.1 y3_7.toNatClampNeg)
        have hrc := (hB_a.row y3_7.toNatClampNeg (by omega)).cap
        refine zp_seg (pc' := 27) (lv' := [(0, .ref m), (1, .ref to), (2, .ref a), (3, .int y3_7)]) (st' := [.ref a, .ref to, .ref to, .ref m]) [(23, .aload_n 0), (24, .aload_n 1), (25, .aload_n 1), (26, .aload_n 2)] (by decide +kernel) rfl ?_
        refine zr_get (idx := 98) (k := 0) (v := .ref (a + 1)) (by decide +kernel) (by decide +kernel) hb8 rfl ?_
        refine zp_seg (pc' := 31) (lv' := [(0, .ref m), (1, .ref to), (2, .ref a), (3, .int y3_7)]) (st' := [.int y3_7, .ref (a + 1), .ref to, .ref to, .ref m]) [(30, .iload_n 3)] (by decide +kernel) rfl ?_
        have hb26 : wL7 (a + 1) = some (.inr (4, 64, zbr a)) := ((heqL7 (a + 1) (by omega)).trans (heq2 (a + 1) (by omega))).trans hQa2
        refine zr_aald (v := .ref (a + 2 + 2 * y3_7.toNatClampNeg)) (by decide +kernel) hb26 (by decide) (zin (by first | omega | decide) (by first | omega | decide)) (zbr_at (by omega)) ?_
        have hb27 : zB wL7 a q := hB_a.ag (fun x hx1 hx2 => ((heqL7 x (by omega)).trans (heq2 x (by omega))))
        have hrow28 := hb27.row (y3_7.toNatClampNeg) (by omega)
        have hb29 := hR_m.si (hsi2.tr hsiL7)
        have ho32_to := zU.o hUG
        refine zr_callV (idx := 125) (j := 270) (by decide +kernel) (by decide +kernel) (show zMe 270 = some zq_X16_gcd from rfl) rfl rfl (Nat.le_of_ble_eq_true rfl) rfl rfl hmL7 (Nat.le_of_ble_eq_true rfl) (Nat.le_of_ble_eq_true rfl) (c_X16_gcd (w := wL7) (g1 := (g 1)) m to to (a + 2 + 2 * y3_7.toNatClampNeg) hmL7 hb29 ho32_to hUG hrow28 (by first | omega | decide | assumption) (by first | omega | decide | assumption) (by first | omega | decide | assumption) (by first | omega | decide | assumption) (by first | omega | decide | assumption) (by first | omega | decide | assumption) (by first | omega | decide | assumption) rfl) (by omega) (fun v32 w32 hp32 => ?_)
        obtain ⟨hsi32, heq32, hp32_0, rfl⟩ := hp32
        show zP _ _ _ _ [] _ _ _ _ _
        refine zp_seg (pc' := 38) (lv' := [(3, .int (y3_7 + 1)), (0, .ref m), (1, .ref to), (2, .ref a)]) (st' := []) [(35, .iinc 3 1)] (by decide +kernel) rfl ?_
        have k30 := zaddC y3_7 1 (n := 1) (by decide) (by omega) (by omega)
        generalize ev38 : (y3_7 + 1 : Int32) = v38 at k30 ⊢
        have kv38 := zrng v38
        refine zp_seg (pc' := 7) (lv' := [(3, .int v38), (0, .ref m), (1, .ref to), (2, .ref a)]) (st' := []) [(38, .goto (-31))] (by decide +kernel) rfl ?_
        have hz31 : (v38.toNatClampNeg : Int) = v38.toInt := znat (by first | omega | decide)
        have hgl := @zgcd_le G (q.1 y3_7.toNatClampNeg)
        have hrc := (hB_a.row y3_7.toNatClampNeg (by omega)).cap
        have hb32 : w32 m = some (.inl (15, zMo m g r)) := (heq32 m (by omega)).trans hmL7
        exact (ih7 w32 v38 (zgcd G (q.1 y3_7.toNatClampNeg)) (hsiL7.tr hsi32) (fun x hx => ((heq32 x (by omega)).trans (heqL7 x (by omega)))) (by first | assumption | omega | decide) (by first | assumption | omega | decide) (by first | omega | (rw [zln_Z]; omega)) (by
              exact hp32_0) hb32 (by
              rw [show v38.toNatClampNeg = y3_7.toNatClampNeg + 1 by omega]; exact zisC_S hC) (by omega)).more (zfa1 rfl (zfa1 rfl (zfa1 rfl (zfa1 rfl (zfa0)))))
  have hl33 : (0 : Int32).toInt = 0 := by decide
  have hz34 : ((0 : Int32).toNatClampNeg : Int) = 0 := by decide
  have hb35 : w2 (to + 1) = some (.inr (0, ct, .inl f4)) := (heq2 (to + 1) (by omega)).trans hu6
  exact (hL7 _ w2 0 (zaZ) zSI.rf (fun _ _ => rfl) (by first | assumption | omega | decide) (by first | assumption | omega | decide) (by first | omega | (rw [zln_Z]; omega)) (by
        exact zU.mk0 hc2 hb35) hb7 (by
        rw [show (0 : Int32).toNatClampNeg = 0 by decide]; exact zisC_0 q) (Nat.lt_succ_self _)).more (zfa1 rfl (zfa1 rfl (zfa1 rfl (zfa1 rfl (zfa0)))))

set_option maxHeartbeats 8000000 in
set_option maxRecDepth 100000 in
theorem c_X16_primitive {w : zM} {g : Nat → Int32} {r : Nat → Value} {cc : Nat} {q : zA2} {g1 : Int32} (m : Nat) (to : Nat) (a : Nat) (c : Nat) (hm : w m = some (.inl (15, zMo m g r))) (hR_m : zR m w) (hBo_to : zBo w to) (hB_a : zB w a q) (hUo_c : zUo w c cc) (hut : 0 ≤ g1.toInt ∧ g1.toInt + 3 ≤ 160) (hal : to = a ∨ to + 130 ≤ a ∨ a + 130 ≤ to) (hmt : m + 596 ≤ to) (hma : m + 596 ≤ a) (hmc : (m + 276 ≤ c ∧ c + 2 ≤ m + 276 + 2 * g1.toNatClampNeg) ∨ m + 596 ≤ c) (hct : c + 2 ≤ to ∨ to + 130 ≤ c) (hca : c + 2 ≤ a ∨ a + 130 ≤ c) (hcc : 200 ≤ cc) (hg1 : g 1 = g1) : zCon 6 zq_X16_primitive [.ref m, .ref to, .ref a, .ref c] w (fun v9 w9' => zSI w w9' ∧ (∀ x, (x < to ∨ to + 130 ≤ x) ∧ (x < c ∨ c + 2 ≤ x) ∧ (x < m + 276 + 2 * g1.toNatClampNeg ∨ m + 276 + 2 * g1.toNatClampNeg + (320 - 2 * g1.toNatClampNeg) ≤ x) → w9' x = w x) ∧ zB w9' to (zprim q) ∧ zU w9' c cc (zcont q) ∧ v9 = none) := by
  subst hg1
  intro d sz hd
  obtain ⟨d, rfl⟩ : ∃ d9, d = d9 + 1 := ⟨d - 1, by omega⟩
  generalize hPost : (fun (r9' : Option (Option Value)) (w9' : zM) (z9 : Nat) => z9 = sz ∧ ∃ v9, r9' = some v9 ∧ (zSI w w9' ∧ (∀ x, (x < to ∨ to + 130 ≤ x) ∧ (x < c ∨ c + 2 ≤ x) ∧ (x < m + 276 + 2 * (g 1).toNatClampNeg ∨ m + 276 + 2 * (g 1).toNatClampNeg + (320 - 2 * (g 1).toNatClampNeg) ≤ x) → w9' x = w x) ∧ zB w9' to (zprim q) ∧ zU w9' c cc (zcont q) ∧ v9 = none)) = Post
  show zP (d + 1) zq_X16_primitive 0 [(0, .ref m), (1, .ref to), (2, .ref a), (3, .ref c)] [] w sz 0 0 Post
  have k1 := zrng (g 1)
  have hz2 : ((g 1).toNatClampNeg : Int) = (g 1).toInt := znat (by first | omega | decide)
  refine zp_seg (pc' := 3) (lv' := [(0, .ref m), (1, .ref to), (2, .ref a), (3, .ref c)]) (st' := [.ref a, .ref c, .ref m]) [(0, .aload_n 0), (1, .aload_n 3), (2, .aload_n 2)] (by decide +kernel) rfl ?_
  refine zr_callV (idx := 128) (j := 284) (by decide +kernel) (by decide +kernel) (show zMe 284 = some zq_X16_content from rfl) rfl rfl (Nat.le_of_ble_eq_true rfl) rfl rfl hm (Nat.le_of_ble_eq_true rfl) (Nat.le_of_ble_eq_true rfl) (c_X16_content (w := w) (g1 := (g 1)) m c a hm hR_m hUo_c hB_a (by first | omega | decide | assumption) (by first | omega | decide | assumption) (by first | omega | decide | assumption) (by first | omega | decide | assumption) (by first | omega | decide | assumption) rfl) (by omega) (fun v3 w3 hp3 => ?_)
  obtain ⟨hsi3, heq3, hp3_0, rfl⟩ := hp3
  show zP _ _ _ _ [] _ _ _ _ _
  refine zp_seg (pc' := 10) (lv' := [(0, .ref m), (1, .ref to), (2, .ref a), (3, .ref c)]) (st' := [.ref c, .ref a, .ref to, .ref m]) [(6, .aload_n 0), (7, .aload_n 1), (8, .aload_n 2), (9, .aload_n 3)] (by decide +kernel) rfl ?_
  have hb3 : w3 m = some (.inl (15, zMo m g r)) := (heq3 m (by omega)).trans hm
  have hb4 := hR_m.si hsi3
  have hb5 := hBo_to.si hsi3
  have hb6 : zB w3 a q := hB_a.ag (fun x hx1 hx2 => (heq3 x (by omega)))
  refine zr_callV (idx := 132) (j := 280) (by decide +kernel) (by decide +kernel) (show zMe 280 = some zq_X16_byU from rfl) rfl rfl (Nat.le_of_ble_eq_true rfl) rfl rfl hb3 (Nat.le_of_ble_eq_true rfl) (Nat.le_of_ble_eq_true rfl) (c_X16_byU (w := w3) (g1 := (g 1)) m to a c hb3 hb4 hb5 hb6 hp3_0 (by first | omega | decide | assumption) (by first | omega | decide | assumption) (by first | omega | decide | assumption) (by first | omega | decide | assumption) (by first | omega | decide | assumption) (by first | omega | decide | assumption) (by exact fun h => (zcont_nz h).1) (by exact zcont_dv q) (by have := zcont_cap hB_a; omega) rfl) (by omega) (fun v10 w10 hp10 => ?_)
  obtain ⟨hsi10, heq10, hp10_0, rfl⟩ := hp10
  show zP _ _ _ _ [] _ _ _ _ _
  have hoffend : ∀ x, (x < to ∨ to + 130 ≤ x) ∧ (x < c ∨ c + 2 ≤ x) ∧ (x < m + 276 + 2 * (g 1).toNatClampNeg ∨ m + 276 + 2 * (g 1).toNatClampNeg + (320 - 2 * (g 1).toNatClampNeg) ≤ x) → w10 x = w x := fun x hx => ((heq10 x (by omega)).trans (heq3 x (by omega)))
  have hb7 : zU w10 c cc (zcont q) := hp3_0.ag (fun x hx1 hx2 => (heq10 x (by omega)))
  refine zr_retV (by decide +kernel) rfl ?_
  rw [← hPost]; exact ⟨rfl, _, rfl, (hsi3.tr hsi10), hoffend, (by first | exact hp10_0 | (have z9 := hp10_0; simpa using z9)), hb7, rfl⟩

set_option maxHeartbeats 8000000 in
set_option maxRecDepth 100000 in
theorem c_X16_atN {w : zM} {ct : Nat} {q : zA2} (to : Nat) (a : Nat) (t : Int32) (hUo_to : zUo w to ct) (hB_a : zB w a q) (h_t : zr1 t) (hta : to + 2 ≤ a ∨ a + 130 ≤ to) (hct : zrw q ≤ ct) : zCon 2 zq_X16_atN [.ref to, .ref a, .int t] w (fun v9 w9' => zSI w w9' ∧ (∀ x, (x < to ∨ to + 2 ≤ x) → w9' x = w x) ∧ zU w9' to ct (zMp (zf t) q) ∧ v9 = none) := by
  intro d sz hd
  obtain ⟨d, rfl⟩ : ∃ d9, d = d9 + 1 := ⟨d - 1, by omega⟩
  generalize hPost : (fun (r9' : Option (Option Value)) (w9' : zM) (z9 : Nat) => z9 = sz ∧ ∃ v9, r9' = some v9 ∧ (zSI w w9' ∧ (∀ x, (x < to ∨ to + 2 ≤ x) → w9' x = w x) ∧ zU w9' to ct (zMp (zf t) q) ∧ v9 = none)) = Post
  show zP (d + 1) zq_X16_atN 0 [(0, .ref to), (1, .ref a), (2, .int t)] [] w sz 0 0 Post
  have k1 := zrng t
  obtain ⟨na, hQa1, hQa2, hQa3, hQa4, hQa5, hQa6⟩ := id hB_a
  have kna := zrng na
  obtain ⟨nto, fto, hto1, hto2⟩ := id hUo_to
  refine zp_seg (pc' := 2) (lv' := [(3, .int 0), (0, .ref to), (1, .ref a), (2, .int t)]) (st' := []) [(0, .iconst 0), (1, .istore_n 3)] (by decide +kernel) rfl ?_
  have hL2 : ∀ (mm2 : Nat) (wL2 : zM) (y3_2 : Int32), (zSI w wL2) → (∀ x, (x < to + 1 ∨ to + 1 + 1 ≤ x) → wL2 x = w x) → (0 ≤ y3_2.toInt) → (y3_2.toInt ≤ (zrw q : Int)) → (∃ gt, wL2 (to + 1) = some (.inr (0, ct, .inl gt)) ∧ ∀ j, j < y3_2.toNatClampNeg → zr1 (gt j) ∧ zf (gt j) = zVl (zf t) (q.1 j)) → (2147483647 - y3_2.toInt).toNat < mm2 → zP (d + 1) zq_X16_atN 2 [(0, .ref to), (1, .ref a), (2, .int t), (3, .int y3_2)] [] wL2 sz 0 0 Post := by
    intro mm2
    induction mm2 with
    | zero => intros; omega
    | succ mm2 ih2 =>
    intro wL2 y3_2 hsiL2 heqL2 hi2_0 hi2_1 hT hmu2
    have ky3_2 := zrng y3_2
    refine zp_seg (pc' := 4) (lv' := [(0, .ref to), (1, .ref a), (2, .int t), (3, .int y3_2)]) (st' := [.ref a, .int y3_2]) [(2, .iload_n 3), (3, .aload_n 1)] (by decide +kernel) rfl ?_
    have hb2 : wL2 a = some (.inl (11, [.ref (a + 1), .int na])) := (heqL2 a (by omega)).trans hQa1
    refine zr_get (idx := 93) (k := 1) (v := .int na) (by decide +kernel) (by decide +kernel) hb2 rfl ?_
    refine zp_if (i := .if_icmp .ge 25) (c := na ≤ y3_2) (t := 32) (e := 10) (lv' := [(0, .ref to), (1, .ref a), (2, .int t), (3, .int y3_2)]) (st' := []) (by decide +kernel) rfl (fun cc7 => ?_) (fun cc7 => ?_)
    ·
      have k3 := zrng na
      have f4 := zleI cc7
      obtain ⟨gt, hgt, hgtv⟩ := id hT
      have hz5 : (y3_2.toNatClampNeg : Int) = y3_2.toInt := znat (by first | omega | decide)
      refine zp_seg (pc' := 34) (lv' := [(0, .ref to), (1, .ref a), (2, .int t), (3, .int y3_2)]) (st' := [.ref a, .ref to]) [(32, .aload_n 0), (33, .aload_n 1)] (by decide +kernel) rfl ?_
      refine zr_get (idx := 93) (k := 1) (v := .int na) (by decide +kernel) (by decide +kernel) hb2 rfl ?_
      have hb6 : wL2 to = some (.inl (14, [.ref (to + 1), .int nto])) := (heqL2 to (by omega)).trans hto1
      refine zr_put2 (idx := 25) (k := 1) (fs2 := [.ref (to + 1), .int na]) (by decide +kernel) (by decide +kernel) hb6 (Nat.le_of_ble_eq_true rfl) rfl rfl rfl ?_
      show zP (d + 1) zq_X16_atN 40 [(0, .ref to), (1, .ref a), (2, .int t), (3, .int y3_2)] [] (zup wL2 to (.inl (14, [.ref (to + 1), .int na]))) sz 0 0 Post
      obtain ⟨w37, ew37⟩ : ∃ wz9, wz9 = zup wL2 to (.inl (14, [.ref (to + 1), .int na])) := ⟨_, rfl⟩
      have hsi37 : zSI wL2 w37 := by rw [ew37]; exact zSI.setU hb6
      have heq37 : ∀ x, x ≠ to → w37 x = wL2 x := fun x hx => by rw [ew37]; exact zup_n hx
      have hc37 : w37 to = some (.inl (14, [.ref (to + 1), .int na])) := by rw [ew37]; exact zup_s
      rw [← ew37]
      clear ew37
      have hb7 : w37 (to + 1) = some (.inr (0, ct, .inl gt)) := (heq37 (to + 1) (by omega)).trans hgt
      have hUn7 : zUw w37 to ct (zrw q) (zMp (zf t) q) := ⟨_, gt, hc37, hb7, by omega, by omega, fun j hj => hgtv j (by omega), zMp_dgr _ q⟩
      refine zp_seg (pc' := 41) (lv' := [(0, .ref to), (1, .ref a), (2, .int t), (3, .int y3_2)]) (st' := [.ref to]) [(40, .aload_n 0)] (by decide +kernel) rfl ?_
      refine zr_callV (idx := 52) (j := 251) (by decide +kernel) (by decide +kernel) (show zMe 251 = some zq_X15_trim from rfl) rfl rfl (Nat.le_of_ble_eq_true rfl) rfl rfl hc37 (Nat.le_of_ble_eq_true rfl) (Nat.le_of_ble_eq_true rfl) (c_X15_trim (w := w37) to hUn7) (by omega) (fun v41 w41 hp41 => ?_)
      obtain ⟨hsi41, heq41, hp41_0, rfl⟩ := hp41
      show zP _ _ _ _ [] _ _ _ _ _
      have hoffend : ∀ x, (x < to ∨ to + 2 ≤ x) → w41 x = w x := fun x hx => ((heq41 x (by omega)).trans ((heq37 x (by omega)).trans (heqL2 x (by omega))))
      refine zr_retV (by decide +kernel) rfl ?_
      rw [← hPost]; exact ⟨rfl, _, rfl, ((hsiL2.tr hsi37).tr hsi41), hoffend, (by first | exact hp41_0 | (have z9 := hp41_0; simpa using z9)), rfl⟩
    ·
      have k8 := zrng na
      have f9 := znleI cc7
      obtain ⟨gt, hgt, hgtv⟩ := id hT
      have hz10 : (y3_2.toNatClampNeg : Int) = y3_2.toInt := znat (by first | omega | decide)
      refine zp_seg (pc' := 11) (lv' := [(0, .ref to), (1, .ref a), (2, .int t), (3, .int y3_2)]) (st' := [.ref to]) [(10, .aload_n 0)] (by decide +kernel) rfl ?_
      have hb11 : wL2 to = some (.inl (14, [.ref (to + 1), .int nto])) := (heqL2 to (by omega)).trans hto1
      refine zr_get (idx := 30) (k := 0) (v := .ref (to + 1)) (by decide +kernel) (by decide +kernel) hb11 rfl ?_
      refine zp_seg (pc' := 16) (lv' := [(0, .ref to), (1, .ref a), (2, .int t), (3, .int y3_2)]) (st' := [.ref a, .int y3_2, .ref (to + 1)]) [(14, .iload_n 3), (15, .aload_n 1)] (by decide +kernel) rfl ?_
      refine zr_get (idx := 98) (k := 0) (v := .ref (a + 1)) (by decide +kernel) (by decide +kernel) hb2 rfl ?_
      refine zp_seg (pc' := 20) (lv' := [(0, .ref to), (1, .ref a), (2, .int t), (3, .int y3_2)]) (st' := [.int y3_2, .ref (a + 1), .int y3_2, .ref (to + 1)]) [(19, .iload_n 3)] (by decide +kernel) rfl ?_
      have hb12 : wL2 (a + 1) = some (.inr (4, 64, zbr a)) := (heqL2 (a + 1) (by omega)).trans hQa2
      refine zr_aald (v := .ref (a + 2 + 2 * y3_2.toNatClampNeg)) (by decide +kernel) hb12 (by decide) (zin (by first | omega | decide) (by first | omega | decide)) (zbr_at (by omega)) ?_
      have hb13 : zB wL2 a q := hB_a.ag (fun x hx1 hx2 => (heqL2 x (by omega)))
      have hrow14 := hb13.row (y3_2.toNatClampNeg) (by omega)
      refine zp_seg (pc' := 22) (lv' := [(0, .ref to), (1, .ref a), (2, .int t), (3, .int y3_2)]) (st' := [.int t, .ref (a + 2 + 2 * y3_2.toNatClampNeg), .int y3_2, .ref (to + 1)]) [(21, .iload_n 2)] (by decide +kernel) rfl ?_
      have hca := (hrow14).cap
      refine zr_callS (idx := 136) (j := 272) (by decide +kernel) (by decide +kernel) (by decide) (show zMe 272 = some zq_X16_eval from rfl) rfl rfl (Nat.le_of_ble_eq_true rfl) rfl rfl (Nat.le_of_ble_eq_true rfl) (Nat.le_of_ble_eq_true rfl) (c_X16_eval (w := wL2) (a + 2 + 2 * y3_2.toNatClampNeg) t hrow14 (by first | omega | decide | assumption) (by first | omega | decide | assumption)) (by omega) (fun v22 w22 hp22 => ?_)
      obtain ⟨hpw22, r22, rfl, hr22⟩ := hp22
      replace hpw22 := hpw22.symm
      subst hpw22
      have kr22 := zrng r22
      show zP _ _ _ _ [.int r22, .int y3_2, .ref (to + 1)] _ _ _ _ _
      refine zr_iast (by decide +kernel) hgt (zin (by first | omega | decide) (by first | omega | decide)) ?_
      show zP (d + 1) zq_X16_atN 26 [(0, .ref to), (1, .ref a), (2, .int t), (3, .int y3_2)] [] (zup wL2 (to + 1) (.inr (0, ct, .inl (upd gt (y3_2.toNatClampNeg) r22)))) sz 0 0 Post
      obtain ⟨w25, ew25⟩ : ∃ wz9, wz9 = zup wL2 (to + 1) (.inr (0, ct, .inl (upd gt (y3_2.toNatClampNeg) r22))) := ⟨_, rfl⟩
      have hsi25 : zSI wL2 w25 := by rw [ew25]; exact zSI.arr _ hgt
      have heq25 : ∀ x, x ≠ to + 1 → w25 x = wL2 x := fun x hx => by rw [ew25]; exact zup_n hx
      have hc25 : w25 (to + 1) = some (.inr (0, ct, .inl (upd gt (y3_2.toNatClampNeg) r22))) := by rw [ew25]; exact zup_s
      rw [← ew25]
      clear ew25
      refine zp_seg (pc' := 29) (lv' := [(3, .int (y3_2 + 1)), (0, .ref to), (1, .ref a), (2, .int t)]) (st' := []) [(26, .iinc 3 1)] (by decide +kernel) rfl ?_
      have k15 := zaddC y3_2 1 (n := 1) (by decide) (by omega) (by omega)
      generalize ev29 : (y3_2 + 1 : Int32) = v29 at k15 ⊢
      have kv29 := zrng v29
      refine zp_seg (pc' := 2) (lv' := [(3, .int v29), (0, .ref to), (1, .ref a), (2, .int t)]) (st' := []) [(29, .goto (-27))] (by decide +kernel) rfl ?_
      have hz16 : (v29.toNatClampNeg : Int) = v29.toInt := znat (by first | omega | decide)
      exact (ih2 w25 v29 (hsiL2.tr hsi25) (fun x hx => ((heq25 x (by omega)).trans (heqL2 x (by omega)))) (by first | assumption | omega | decide) (by first | assumption | omega | decide) (by
            refine ⟨_, hc25, fun j hj => ?_⟩
            by_cases e : j = y3_2.toNatClampNeg
            · rw [e, zupd_s]; exact hr22
            · rw [zupd_n _ _ e]; exact hgtv j (by omega)) (by omega)).more (zfa1 rfl (zfa1 rfl (zfa1 rfl (zfa1 rfl (zfa0)))))
  have hl17 : (0 : Int32).toInt = 0 := by decide
  have hz18 : ((0 : Int32).toNatClampNeg : Int) = 0 := by decide
  exact (hL2 _ w 0 zSI.rf (fun _ _ => rfl) (by first | assumption | omega | decide) (by first | assumption | omega | decide) (by
        exact ⟨fto, hto2, fun j hj => absurd hj (by omega)⟩) (Nat.lt_succ_self _)).more (zfa1 rfl (zfa1 rfl (zfa1 rfl (zfa1 rfl (zfa0)))))

set_option maxHeartbeats 8000000 in
set_option maxRecDepth 100000 in
theorem c_X16_eval_ {w : zM} {q : zA2} (a : Nat) (x : Int32) (k : Int32) (hB_a : zB w a q) (h_x : zr1 x) (h_k : zr1 k) : zCon 2 zq_X16_eval_ [.ref a, .int x, .int k] w (fun v9 w9' => w9' = w ∧ ∃ r9 : Int32, v9 = some (.int r9) ∧ (zr1 r9)) := by
  intro d sz hd
  obtain ⟨d, rfl⟩ : ∃ d9, d = d9 + 1 := ⟨d - 1, by omega⟩
  generalize hPost : (fun (r9' : Option (Option Value)) (w9' : zM) (z9 : Nat) => z9 = sz ∧ ∃ v9, r9' = some v9 ∧ (w9' = w ∧ ∃ r9 : Int32, v9 = some (.int r9) ∧ (zr1 r9))) = Post
  show zP (d + 1) zq_X16_eval_ 0 [(0, .ref a), (1, .int x), (2, .int k)] [] w sz 0 0 Post
  have k1 := zrng x
  have k2 := zrng k
  obtain ⟨na, hQa1, hQa2, hQa3, hQa4, hQa5, hQa6⟩ := id hB_a
  have kna := zrng na
  have r_k : 0 ≤ k.toInt ∧ k.toInt < 2147483647 := h_k
  refine zp_seg (pc' := 3) (lv' := [(3, .long 0), (0, .ref a), (1, .int x), (2, .int k)]) (st' := [.ref a]) [(0, .lconst 0), (1, .lstore_n 3), (2, .aload_n 0)] (by decide +kernel) rfl ?_
  refine zr_get (idx := 93) (k := 1) (v := .int na) (by decide +kernel) (by decide +kernel) hQa1 rfl ?_
  refine zp_seg (pc' := 8) (lv' := [(3, .long 0), (0, .ref a), (1, .int x), (2, .int k)]) (st' := [.int (na - 1)]) [(6, .iconst 1), (7, .isub)] (by decide +kernel) rfl ?_
  have k3 := zrng na
  have k4 := zsubC na 1 (n := 1) (by decide) (by omega) (by omega)
  generalize ev8 : (na - 1 : Int32) = v8 at k4 ⊢
  have kv8 := zrng v8
  refine zp_seg (pc' := 10) (lv' := [(5, .int v8), (3, .long 0), (0, .ref a), (1, .int x), (2, .int k)]) (st' := []) [(8, .istore 5)] (by decide +kernel) rfl ?_
  have hL10 : ∀ (mm10 : Nat) (y3_10 : Int64) (y5_10 : Int32), (0 ≤ y3_10.toInt) → (y3_10.toInt < 2147483647) → (-1 ≤ y5_10.toInt) → (y5_10.toInt < (zrw q : Int)) → (y5_10.toInt + 1).toNat < mm10 → zP (d + 1) zq_X16_eval_ 10 [(0, .ref a), (1, .int x), (2, .int k), (3, .long y3_10), (5, .int y5_10)] [] w sz 0 0 Post := by
    intro mm10
    induction mm10 with
    | zero => intros; omega
    | succ mm10 ih10 =>
    intro y3_10 y5_10 hi10_0 hi10_1 hi10_2 hi10_3 hmu10
    have ky3_10 := zrngL y3_10
    have ky5_10 := zrng y5_10
    refine zp_seg (pc' := 12) (lv' := [(0, .ref a), (1, .int x), (2, .int k), (3, .long y3_10), (5, .int y5_10)]) (st' := [.int y5_10]) [(10, .iload 5)] (by decide +kernel) rfl ?_
    refine zp_if (i := .ifCond .lt 31) (c := y5_10 < 0) (t := 43) (e := 15) (lv' := [(0, .ref a), (1, .int x), (2, .int k), (3, .long y3_10), (5, .int y5_10)]) (st' := []) (by decide +kernel) rfl (fun cc12 => ?_) (fun cc12 => ?_)
    ·
      have f6 := zltI cc12
      rw [show (0 : Int32).toInt = 0 from by decide] at f6
      refine zp_seg (pc' := 45) (lv' := [(0, .ref a), (1, .int x), (2, .int k), (3, .long y3_10), (5, .int y5_10)]) (st' := [.int (y3_10.toInt32)]) [(43, .lload_n 3), (44, .l2i)] (by decide +kernel) rfl ?_
      have k7 := zl2iE y3_10 (by omega) (by omega)
      generalize ev45 : (y3_10.toInt32 : Int32) = v45 at k7 ⊢
      have kv45 := zrng v45
      refine zr_retI (by decide +kernel) rfl ?_
      rw [← hPost]; exact ⟨rfl, _, rfl, rfl, _, rfl, (by
            exact show 0 ≤ Int32.toInt _ ∧ Int32.toInt _ < 2147483647 by omega)⟩
    ·
      have f9 := znltI cc12
      rw [show (0 : Int32).toInt = 0 from by decide] at f9
      have hz10 : (y5_10.toNatClampNeg : Int) = y5_10.toInt := znat (by first | omega | decide)
      refine zp_seg (pc' := 18) (lv' := [(0, .ref a), (1, .int x), (2, .int k), (3, .long y3_10), (5, .int y5_10)]) (st' := [.long (k.toInt64), .long y3_10]) [(15, .lload_n 3), (16, .iload_n 2), (17, .i2l)] (by decide +kernel) rfl ?_
      have k11 := zi2lM k
      generalize ev18 : (k.toInt64 : Int64) = v18 at k11 ⊢
      have kv18 := zrngL v18
      refine zp_seg (pc' := 19) (lv' := [(0, .ref a), (1, .int x), (2, .int k), (3, .long y3_10), (5, .int y5_10)]) (st' := [.long (y3_10 * v18)]) [(18, .lmul)] (by decide +kernel) rfl ?_
      have k12 := zmulLN (a := y3_10) (b := v18) (by omega) (by omega)
      have k13 := zmulNN (a := y3_10.toInt) (b := v18.toInt) (by omega) (by omega)
      generalize ev19 : (y3_10 * v18 : Int64) = v19 at k12 ⊢
      have kv19 := zrngL v19
      refine zp_seg (pc' := 20) (lv' := [(0, .ref a), (1, .int x), (2, .int k), (3, .long y3_10), (5, .int y5_10)]) (st' := [.ref a, .long v19]) [(19, .aload_n 0)] (by decide +kernel) rfl ?_
      refine zr_get (idx := 98) (k := 0) (v := .ref (a + 1)) (by decide +kernel) (by decide +kernel) hQa1 rfl ?_
      refine zp_seg (pc' := 25) (lv' := [(0, .ref a), (1, .int x), (2, .int k), (3, .long y3_10), (5, .int y5_10)]) (st' := [.int y5_10, .ref (a + 1), .long v19]) [(23, .iload 5)] (by decide +kernel) rfl ?_
      refine zr_aald (v := .ref (a + 2 + 2 * y5_10.toNatClampNeg)) (by decide +kernel) hQa2 (by decide) (zin (by first | omega | decide) (by first | omega | decide)) (zbr_at (by omega)) ?_
      have hrow14 := hB_a.row (y5_10.toNatClampNeg) (by omega)
      refine zp_seg (pc' := 27) (lv' := [(0, .ref a), (1, .int x), (2, .int k), (3, .long y3_10), (5, .int y5_10)]) (st' := [.int x, .ref (a + 2 + 2 * y5_10.toNatClampNeg), .long v19]) [(26, .iload_n 1)] (by decide +kernel) rfl ?_
      have hca := (hrow14).cap
      refine zr_callS (idx := 136) (j := 272) (by decide +kernel) (by decide +kernel) (by decide) (show zMe 272 = some zq_X16_eval from rfl) rfl rfl (Nat.le_of_ble_eq_true rfl) rfl rfl (Nat.le_of_ble_eq_true rfl) (Nat.le_of_ble_eq_true rfl) (c_X16_eval (w := w) (a + 2 + 2 * y5_10.toNatClampNeg) x hrow14 (by first | omega | decide | assumption) (by first | omega | decide | assumption)) (by omega) (fun v27 w27 hp27 => ?_)
      obtain ⟨hpw27, r27, rfl, hr27⟩ := hp27
      replace hpw27 := hpw27.symm
      subst hpw27
      have kr27 := zrng r27
      show zP _ _ _ _ [.int r27, .long v19] _ _ _ _ _
      have hrr : 0 ≤ r27.toInt ∧ r27.toInt < 2147483647 := hr27.1
      refine zp_seg (pc' := 31) (lv' := [(0, .ref a), (1, .int x), (2, .int k), (3, .long y3_10), (5, .int y5_10)]) (st' := [.long (r27.toInt64), .long v19]) [(30, .i2l)] (by decide +kernel) rfl ?_
      have k15 := zi2lM r27
      generalize ev31 : (r27.toInt64 : Int64) = v31 at k15 ⊢
      have kv31 := zrngL v31
      refine zp_seg (pc' := 32) (lv' := [(0, .ref a), (1, .int x), (2, .int k), (3, .long y3_10), (5, .int y5_10)]) (st' := [.long (v19 + v31)]) [(31, .ladd)] (by decide +kernel) rfl ?_
      have k16 := zaddLE v19 v31 (by omega) (by omega)
      generalize ev32 : (v19 + v31 : Int64) = v32 at k16 ⊢
      have kv32 := zrngL v32
      refine zr_ldc2 (idx := 3) (v := 2147483647) (by decide +kernel) (by decide +kernel) ?_
      refine zr_lrem (by decide +kernel) (by decide) ?_
      obtain ⟨q35, eq35⟩ : ∃ x9 : Int64, x9 = v32 - v32 / 2147483647 * 2147483647 := ⟨_, rfl⟩
      rw [← eq35]
      have bq35 := zremB v32
      rw [← eq35] at bq35
      have mq35 := zremN (x := v32)
      rw [← eq35] at mq35
      have kq35 := zrngL q35
      refine zp_seg (pc' := 40) (lv' := [(5, .int (y5_10 + (Int32.ofInt (-1)))), (3, .long q35), (0, .ref a), (1, .int x), (2, .int k)]) (st' := []) [(36, .lstore_n 3), (37, .iinc 5 (-1))] (by decide +kernel) rfl ?_
      have k17 := zaddC y5_10 ((Int32.ofInt (-1))) (n := (-1)) (by decide) (by omega) (by omega)
      generalize ev40 : (y5_10 + (Int32.ofInt (-1)) : Int32) = v40 at k17 ⊢
      have kv40 := zrng v40
      refine zp_seg (pc' := 10) (lv' := [(5, .int v40), (3, .long q35), (0, .ref a), (1, .int x), (2, .int k)]) (st' := []) [(40, .goto (-30))] (by decide +kernel) rfl ?_
      exact (ih10 q35 v40 (by first | assumption | omega | decide) (by first | assumption | omega | decide) (by first | assumption | omega | decide) (by first | assumption | omega | decide) (by omega)).more (zfa1 rfl (zfa1 rfl (zfa1 rfl (zfa1 rfl (zfa1 rfl (zfa0))))))
  exact (hL10 _ 0 v8 (by first | assumption | omega | decide) (by first | assumption | omega | decide) (by first | assumption | omega | decide) (by first | assumption | omega | decide) (Nat.lt_succ_self _)).more (zfa1 rfl (zfa1 rfl (zfa1 rfl (zfa1 rfl (zfa1 rfl (zfa0))))))
