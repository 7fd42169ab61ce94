theorem zx_X16_feed_0 {m : Nat}  : (m + 94) ≠ m := by omega
theorem zx_X16_feed_1 {m : Nat}  : m ≠ m + 94 := by omega
theorem zx_X16_feed_2 {m x : Nat} (h0 : x < m ∨ m + 1 ≤ x) : x ≠ m := by omega
theorem zx_X16_feed_3 {m x : Nat} (h0 : x < m + 94 ∨ m + 94 + 1 ≤ x) : x ≠ m + 94 := by omega
set_option maxHeartbeats 8000000 in
set_option maxRecDepth 100000 in
theorem c_X16_feed {w : zM} {g : Nat → Int32} {r : Nat → Value} {ff : Nat → Int32} {g29 : Int32} (m : Nat) (v : Int32) (hm : w m = some (.inl (15, zMo m g r))) (hR_m : zR m w) (hA_m_94 : w (m + 94) = some (.inr (0, 60, .inl ff))) (hfc : 0 ≤ g29.toInt ∧ g29.toInt ≤ 60) (hff : ∀ i, i < 60 → zr1 (ff i)) (hg29 : g 29 = g29) : zCon 2 zq_X16_feed [.ref m, .int v] w (fun v9 w9' => ∃ C9 : Int32, ∃ F9 : Nat → Int32, zSI w w9' ∧ (∀ x, (x < m ∨ m + 1 ≤ x) ∧ (x < m + 94 ∨ m + 94 + 1 ≤ x) → w9' x = w x) ∧ w9' m = some (.inl (15, zMo m (zs g 29 C9) r)) ∧ w9' (m + 94) = some (.inr (0, 60, .inl F9)) ∧ ((0 ≤ C9.toInt ∧ C9.toInt ≤ 60) ∧ ∀ i, i < 60 → zr1 (F9 i)) ∧ ∃ r9 : Int32, v9 = some (.int r9) ∧ ((g29 = 60 → r9 = Int32.ofInt (-2) ∧ C9 = g29) ∧ (¬ g29 = 60 → r9 = g29 + 1 ∧ C9 = g29 + 1))) := by
  subst hg29
  intro d sz hd
  obtain ⟨d, rfl⟩ : ∃ d9, d = d9 + 1 := ⟨d - 1, by omega⟩
  generalize hPost : (fun (r9' : Option (Option Value)) (w9' : zM) (z9 : Nat) => z9 = sz ∧ ∃ v9, r9' = some v9 ∧ (∃ C9 : Int32, ∃ F9 : Nat → Int32, zSI w w9' ∧ (∀ x, (x < m ∨ m + 1 ≤ x) ∧ (x < m + 94 ∨ m + 94 + 1 ≤ x) → w9' x = w x) ∧ w9' m = some (.inl (15, zMo m (zs g 29 C9) r)) ∧ w9' (m + 94) = some (.inr (0, 60, .inl F9)) ∧ ((0 ≤ C9.toInt ∧ C9.toInt ≤ 60) ∧ ∀ i, i < 60 → zr1 (F9 i)) ∧ ∃ r9 : Int32, v9 = some (.int r9) ∧ (((g 29) = 60 → r9 = Int32.ofInt (-2) ∧ C9 = (g 29)) ∧ (¬ (g 29) = 60 → r9 = (g 29) + 1 ∧ C9 = (g 29) + 1)))) = Post
  show zP (d + 1) zq_X16_feed 0 [(0, .ref m), (1, .int v)] [] w sz 0 0 Post
  have k1 := zrng v
  have k2 := zrng (g 29)
  have hz3 : ((g 29).toNatClampNeg : Int) = (g 29).toInt := znat (by first | omega | decide)
  refine zp_seg (pc' := 1) (lv' := [(0, .ref m), (1, .int v)]) (st' := [.ref m]) [(0, .aload_n 0)] (by decide +kernel) rfl ?_
  refine zr_get (idx := 607) (k := 29) (v := .int (g 29)) (by decide +kernel) (by decide +kernel) hm rfl ?_
  refine zp_seg (pc' := 6) (lv' := [(0, .ref m), (1, .int v)]) (st' := [.int 60, .int (g 29)]) [(4, .bipush 60)] (by decide +kernel) rfl ?_
  refine zp_if (i := .if_icmp .ne 6) (c := ¬ (g 29) = 60) (t := 12) (e := 9) (lv' := [(0, .ref m), (1, .int v)]) (st' := []) (by decide +kernel) rfl (fun cc6 => ?_) (fun cc6 => ?_)
  ·
    have f5 := zneI cc6
    rw [show (60 : Int32).toInt = 60 from by decide] at f5
    refine zp_seg (pc' := 13) (lv' := [(0, .ref m), (1, .int v)]) (st' := [.ref m]) [(12, .aload_n 0)] (by decide +kernel) rfl ?_
    refine zr_get (idx := 465) (k := 28) (v := .ref (m + 94)) (by decide +kernel) (by decide +kernel) hm rfl ?_
    refine zp_seg (pc' := 18) (lv' := [(0, .ref m), (1, .int v)]) (st' := [.ref m, .ref m, .ref (m + 94)]) [(16, .aload_n 0), (17, .dup)] (by decide +kernel) rfl ?_
    refine zr_get (idx := 607) (k := 29) (v := .int (g 29)) (by decide +kernel) (by decide +kernel) hm rfl ?_
    refine zp_seg (pc' := 24) (lv' := [(0, .ref m), (1, .int v)]) (st' := [.int ((g 29) + 1), .ref m, .int (g 29), .ref (m + 94)]) [(21, .dup_x1), (22, .iconst 1), (23, .iadd)] (by decide +kernel) rfl ?_
    have k6 := zaddC ((g 29)) 1 (n := 1) (by decide) (by omega) (by omega)
    generalize ev24 : ((g 29) + 1 : Int32) = v24 at k6 ⊢
    have kv24 := zrng v24
    refine zr_put2 (idx := 607) (k := 29) (fs2 := zMo m (zs g 29 v24) r) (by decide +kernel) (by decide +kernel) hm (Nat.le_of_ble_eq_true rfl) rfl rfl rfl ?_
    show zP (d + 1) zq_X16_feed 27 [(0, .ref m), (1, .int v)] [.int (g 29), .ref (m + 94)] (zup w m (.inl (15, zMo m (zs g 29 v24) r))) sz 0 0 Post
    obtain ⟨w24, ew24⟩ : ∃ wz9, wz9 = zup w m (.inl (15, zMo m (zs g 29 v24) r)) := ⟨_, rfl⟩
    have hsi24 : zSI w w24 := by rw [ew24]; exact zSI.setG hm _ _
    have heq24 : ∀ x, x ≠ m → w24 x = w x := fun x hx => by rw [ew24]; exact zup_n hx
    have hc24 : w24 m = some (.inl (15, zMo m (zs g 29 v24) r)) := by rw [ew24]; exact zup_s
    rw [← ew24]
    clear ew24
    refine zp_seg (pc' := 28) (lv' := [(0, .ref m), (1, .int v)]) (st' := [.int v, .int (g 29), .ref (m + 94)]) [(27, .iload_n 1)] (by decide +kernel) rfl ?_
    refine zr_callS (idx := 600) (j := 260) (by decide +kernel) (by decide +kernel) (by decide) (show zMe 260 = some zq_X16_rest from rfl) rfl rfl (Nat.le_of_ble_eq_true rfl) rfl rfl (Nat.le_of_ble_eq_true rfl) (Nat.le_of_ble_eq_true rfl) (c_X16_rest (w := w24) v ) (by omega) (fun v28 w28 hp28 => ?_)
    obtain ⟨hpw28, r28, rfl, hr28⟩ := hp28
    replace hpw28 := hpw28.symm
    subst hpw28
    have kr28 := zrng r28
    show zP _ _ _ _ [.int r28, .int (g 29), .ref (m + 94)] _ _ _ _ _
    have hb7 : w24 (m + 94) = some (.inr (0, 60, .inl ff)) := (heq24 (m + 94) (zx_X16_feed_0)).trans hA_m_94
    refine zr_iast (by decide +kernel) hb7 (zin (by first | omega | decide) (by first | omega | decide)) ?_
    show zP (d + 1) zq_X16_feed 32 [(0, .ref m), (1, .int v)] [] (zup w24 (m + 94) (.inr (0, 60, .inl (upd ff ((g 29).toNatClampNeg) r28)))) sz 0 0 Post
    obtain ⟨w31, ew31⟩ : ∃ wz9, wz9 = zup w24 (m + 94) (.inr (0, 60, .inl (upd ff ((g 29).toNatClampNeg) r28))) := ⟨_, rfl⟩
    have hsi31 : zSI w24 w31 := by rw [ew31]; exact zSI.arr _ hb7
    have heq31 : ∀ x, x ≠ m + 94 → w31 x = w24 x := fun x hx => by rw [ew31]; exact zup_n hx
    have hc31 : w31 (m + 94) = some (.inr (0, 60, .inl (upd ff ((g 29).toNatClampNeg) r28))) := by rw [ew31]; exact zup_s
    rw [← ew31]
    clear ew31
    refine zp_seg (pc' := 33) (lv' := [(0, .ref m), (1, .int v)]) (st' := [.ref m]) [(32, .aload_n 0)] (by decide +kernel) rfl ?_
    have hb8 : w31 m = some (.inl (15, zMo m (zs g 29 v24) r)) := (heq31 m (zx_X16_feed_1)).trans hc24
    refine zr_get (idx := 607) (k := 29) (v := .int v24) (by decide +kernel) (by decide +kernel) hb8 rfl ?_
    have hoffend : ∀ x, (x < m ∨ m + 1 ≤ x) ∧ (x < m + 94 ∨ m + 94 + 1 ≤ x) → w31 x = w x := fun x hx => ((heq31 x (zx_X16_feed_3 hx.2)).trans (heq24 x (zx_X16_feed_2 hx.1)))
    refine zr_retI (by decide +kernel) rfl ?_
    rw [← hPost]; exact ⟨rfl, _, rfl, v24, (upd ff ((g 29).toNatClampNeg) r28), (hsi24.tr hsi31), hoffend, hb8, hc31, (by
          first
          | exact ⟨hfc, hff⟩
          | (refine ⟨by omega, fun i hi => ?_⟩
             by_cases e : i = (g 29).toNatClampNeg
             · rw [e, zupd_s]; exact hr28.1
             · rw [zupd_n _ _ e]; exact hff i hi)), _, rfl, (by
          first
          | exact ⟨fun _ => ⟨rfl, rfl⟩, fun e => absurd cc6 e⟩
          | exact ⟨fun e => absurd e cc6, fun _ => ⟨rfl, rfl⟩⟩
          | exact ⟨fun e => absurd e cc6, fun _ => ⟨ev24.symm, ev24.symm⟩⟩)⟩
  ·
    replace cc6 := Classical.not_not.mp cc6
    have f10 := zeqI cc6
    rw [show (60 : Int32).toInt = 60 from by decide] at f10
    refine zp_seg (pc' := 11) (lv' := [(0, .ref m), (1, .int v)]) (st' := [.int (Int32.ofInt (-2))]) [(9, .bipush (-2))] (by decide +kernel) rfl ?_
    have hoffend : ∀ x, (x < m ∨ m + 1 ≤ x) ∧ (x < m + 94 ∨ m + 94 + 1 ≤ x) → w x = w x := fun x hx => rfl
    refine zr_retI (by decide +kernel) rfl ?_
    rw [← hPost]; exact ⟨rfl, _, rfl, (g 29), ff, zSI.rf, hoffend, hm, hA_m_94, (by
          first
          | exact ⟨hfc, hff⟩
          | (refine ⟨by omega, fun i hi => ?_⟩
             by_cases e : i = (g 29).toNatClampNeg
             · rw [e, zupd_s]; exact hr28.1
             · rw [zupd_n _ _ e]; exact hff i hi)), _, rfl, (by
          first
          | exact ⟨fun _ => ⟨rfl, rfl⟩, fun e => absurd cc6 e⟩
          | exact ⟨fun e => absurd e cc6, fun _ => ⟨rfl, rfl⟩⟩
          | exact ⟨fun e => absurd e cc6, fun _ => ⟨ev24.symm, ev24.symm⟩⟩)⟩

theorem zx_X16_clear__0 {m x : Nat} (h0 : x < m ∨ m + 1 ≤ x) : x ≠ m := by omega
set_option maxHeartbeats 8000000 in
set_option maxRecDepth 100000 in
theorem c_X16_clear_ {w : zM} {g : Nat → Int32} {r : Nat → Value}  {g29 : Int32} (m : Nat) (hm : w m = some (.inl (15, zMo m g r))) (hR_m : zR m w) (hg29 : g 29 = g29) : zCon 1 zq_X16_clear_ [.ref m] w (fun v9 w9' => zSI w w9' ∧ (∀ x, (x < m ∨ m + 1 ≤ x) → w9' x = w x) ∧ w9' m = some (.inl (15, zMo m (zs g 29 0) r)) ∧ ∃ r9 : Int32, v9 = some (.int r9) ∧ (r9 = g29)) := by
  subst hg29
  intro d sz hd
  obtain ⟨d, rfl⟩ : ∃ d9, d = d9 + 1 := ⟨d - 1, by omega⟩
  generalize hPost : (fun (r9' : Option (Option Value)) (w9' : zM) (z9 : Nat) => z9 = sz ∧ ∃ v9, r9' = some v9 ∧ (zSI w w9' ∧ (∀ x, (x < m ∨ m + 1 ≤ x) → w9' x = w x) ∧ w9' m = some (.inl (15, zMo m (zs g 29 0) r)) ∧ ∃ r9 : Int32, v9 = some (.int r9) ∧ (r9 = (g 29)))) = Post
  show zP (d + 1) zq_X16_clear_ 0 [(0, .ref m)] [] w sz 0 0 Post
  refine zp_seg (pc' := 1) (lv' := [(0, .ref m)]) (st' := [.ref m]) [(0, .aload_n 0)] (by decide +kernel) rfl ?_
  refine zr_get (idx := 607) (k := 29) (v := .int (g 29)) (by decide +kernel) (by decide +kernel) hm rfl ?_
  refine zp_seg (pc' := 7) (lv' := [(1, .int (g 29)), (0, .ref m)]) (st' := [.int 0, .ref m]) [(4, .istore_n 1), (5, .aload_n 0), (6, .iconst 0)] (by decide +kernel) rfl ?_
  refine zr_put2 (idx := 607) (k := 29) (fs2 := zMo m (zs g 29 0) r) (by decide +kernel) (by decide +kernel) hm (Nat.le_of_ble_eq_true rfl) rfl rfl rfl ?_
  show zP (d + 1) zq_X16_clear_ 10 [(1, .int (g 29)), (0, .ref m)] [] (zup w m (.inl (15, zMo m (zs g 29 0) r))) sz 0 0 Post
  obtain ⟨w7, ew7⟩ : ∃ wz9, wz9 = zup w m (.inl (15, zMo m (zs g 29 0) r)) := ⟨_, rfl⟩
  have hsi7 : zSI w w7 := by rw [ew7]; exact zSI.setG hm _ _
  have heq7 : ∀ x, x ≠ m → w7 x = w x := fun x hx => by rw [ew7]; exact zup_n hx
  have hc7 : w7 m = some (.inl (15, zMo m (zs g 29 0) r)) := by rw [ew7]; exact zup_s
  rw [← ew7]
  clear ew7
  refine zp_seg (pc' := 11) (lv' := [(1, .int (g 29)), (0, .ref m)]) (st' := [.int (g 29)]) [(10, .iload_n 1)] (by decide +kernel) rfl ?_
  have hoffend : ∀ x, (x < m ∨ m + 1 ≤ x) → w7 x = w x := fun x hx => (heq7 x (zx_X16_clear__0 hx))
  have k1 := zrng (g 29)
  refine zr_retI (by decide +kernel) rfl ?_
  rw [← hPost]; exact ⟨rfl, _, rfl, hsi7, hoffend, hc7, _, rfl, (by
        exact rfl)⟩

set_option maxHeartbeats 8000000 in
set_option maxRecDepth 100000 in
theorem c_X16_needsOf {w : zM} {fr : Nat → Int32} (a : Nat) (o9 : Int32) (least : Int32) (hA_a : w a = some (.inr (0, 175, .inl fr))) (hrr : ∀ i, i < 175 → zr1 (fr i)) (ho : 0 ≤ o9.toInt ∧ o9.toInt ≤ 6) : zCon 2 zq_X16_needsOf [.ref a, .int o9, .int least] w (fun v9 w9' => w9' = w ∧ ∃ r9 : Int32, v9 = some (.int r9) ∧ (o9.toInt ≤ r9.toInt ∧ least.toInt ≤ r9.toInt)) := by
  intro d sz hd
  obtain ⟨d, rfl⟩ : ∃ d9, d = d9 + 1 := ⟨d - 1, by omega⟩
  generalize hPost : (fun (r9' : Option (Option Value)) (w9' : zM) (z9 : Nat) => z9 = sz ∧ ∃ v9, r9' = some v9 ∧ (w9' = w ∧ ∃ r9 : Int32, v9 = some (.int r9) ∧ (o9.toInt ≤ r9.toInt ∧ least.toInt ≤ r9.toInt))) = Post
  show zP (d + 1) zq_X16_needsOf 0 [(0, .ref a), (1, .int o9), (2, .int least)] [] w sz 0 0 Post
  have k1 := zrng o9
  have k2 := zrng least
  refine zp_seg (pc' := 2) (lv' := [(0, .ref a), (1, .int o9), (2, .int least)]) (st' := [.int least, .int o9]) [(0, .iload_n 1), (1, .iload_n 2)] (by decide +kernel) rfl ?_
  refine zr_max (idx := 40) (by decide +kernel) (by decide +kernel) (by omega) (Nat.le_of_ble_eq_true rfl) ?_
  obtain ⟨m3, em3, hm3⟩ := zmaxI o9 least
  rw [← em3]
  have km3 := zrng m3
  refine zp_seg (pc' := 9) (lv' := [(4, .int 0), (3, .int m3), (0, .ref a), (1, .int o9), (2, .int least)]) (st' := []) [(5, .istore_n 3), (6, .iconst 0), (7, .istore 4)] (by decide +kernel) rfl ?_
  have hL9 : ∀ (mm9 : Nat) (y3_9 : Int32) (y4_9 : Int32), (0 ≤ y4_9.toInt) → (y4_9.toInt ≤ 301) → (o9.toInt ≤ y3_9.toInt) → (least.toInt ≤ y3_9.toInt) → (400 - y4_9.toInt).toNat < mm9 → zP (d + 1) zq_X16_needsOf 9 [(0, .ref a), (1, .int o9), (3, .int y3_9), (4, .int y4_9)] [] w sz 0 0 Post := by
    intro mm9
    induction mm9 with
    | zero => intros; omega
    | succ mm9 ih9 =>
    intro y3_9 y4_9 hi9_0 hi9_1 hi9_2 hi9_3 hmu9
    have ky3_9 := zrng y3_9
    have ky4_9 := zrng y4_9
    refine zp_seg (pc' := 14) (lv' := [(0, .ref a), (1, .int o9), (3, .int y3_9), (4, .int y4_9)]) (st' := [.int 300, .int y4_9]) [(9, .iload 4), (11, .sipush 300)] (by decide +kernel) rfl ?_
    refine zp_if (i := .if_icmp .gt 37) (c := 300 < y4_9) (t := 51) (e := 17) (lv' := [(0, .ref a), (1, .int o9), (3, .int y3_9), (4, .int y4_9)]) (st' := []) (by decide +kernel) rfl (fun cc14 => ?_) (fun cc14 => ?_)
    ·
      have f5 := zltI cc14
      rw [show (300 : Int32).toInt = 300 from by decide] at f5
      refine zp_seg (pc' := 52) (lv' := [(0, .ref a), (1, .int o9), (3, .int y3_9), (4, .int y4_9)]) (st' := [.int y3_9]) [(51, .iload_n 3)] (by decide +kernel) rfl ?_
      refine zr_retI (by decide +kernel) rfl ?_
      rw [← hPost]; exact ⟨rfl, _, rfl, rfl, _, rfl, (by first | omega | decide | assumption)⟩
    ·
      have f7 := znltI cc14
      rw [show (300 : Int32).toInt = 300 from by decide] at f7
      refine zp_seg (pc' := 22) (lv' := [(0, .ref a), (1, .int o9), (3, .int y3_9), (4, .int y4_9)]) (st' := [.int (25 * o9), .ref a]) [(17, .aload_n 0), (18, .bipush 25), (20, .iload_n 1), (21, .imul)] (by decide +kernel) rfl ?_
      have k8 := zmulCl 25 o9 (n := 25) (by decide) (by omega) (by omega)
      generalize ev22 : (25 * o9 : Int32) = v22 at k8 ⊢
      have kv22 := zrng v22
      refine zp_seg (pc' := 24) (lv' := [(0, .ref a), (1, .int o9), (3, .int y3_9), (4, .int y4_9)]) (st' := [.int y4_9, .int v22, .ref a]) [(22, .iload 4)] (by decide +kernel) rfl ?_
      refine zr_callS (idx := 772) (j := 399) (by decide +kernel) (by decide +kernel) (by decide) (show zMe 399 = some zq_X16_polynomialAt from rfl) rfl rfl (Nat.le_of_ble_eq_true rfl) rfl rfl (Nat.le_of_ble_eq_true rfl) (Nat.le_of_ble_eq_true rfl) (c_X16_polynomialAt (w := w) a v22 y4_9 hA_a (by first | omega | decide | assumption | exact zr1_1 | exact zr1_0 | fail "num") (by first | omega | decide | assumption | exact zr1_1 | exact zr1_0 | fail "num") (by exact ⟨by omega, by omega⟩)) (by omega) (fun v24 w24 hp24 => ?_)
      obtain ⟨hpw24, r24, rfl, hr24⟩ := hp24
      replace hpw24 := hpw24.symm
      subst hpw24
      have kr24 := zrng r24
      show zP _ _ _ _ [.int r24] _ _ _ _ _
      refine zp_if (i := .ifCond .ne 16) (c := ¬ r24 = 0) (t := 43) (e := 30) (lv' := [(0, .ref a), (1, .int o9), (3, .int y3_9), (4, .int y4_9)]) (st' := []) (by decide +kernel) rfl (fun cc27 => ?_) (fun cc27 => ?_)
      ·
        have f10 := zneI cc27
        rw [show (0 : Int32).toInt = 0 from by decide] at f10
        refine zp_seg (pc' := 48) (lv' := [(4, .int (y4_9 + 1)), (3, .int y3_9), (0, .ref a), (1, .int o9)]) (st' := []) [(43, .iload_n 3), (44, .istore_n 3), (45, .iinc 4 1)] (by decide +kernel) rfl ?_
        have k11 := zaddC y4_9 1 (n := 1) (by decide) (by omega) (by omega)
        generalize ev48 : (y4_9 + 1 : Int32) = v48 at k11 ⊢
        have kv48 := zrng v48
        refine zp_seg (pc' := 9) (lv' := [(4, .int v48), (3, .int y3_9), (0, .ref a), (1, .int o9)]) (st' := []) [(48, .goto (-39))] (by decide +kernel) rfl ?_
        exact (ih9 y3_9 v48 (by first | assumption | omega | decide) (by first | assumption | omega | decide) (by first | assumption | omega | decide) (by first | assumption | omega | decide) (by omega)).more (zfa1 rfl (zfa1 rfl (zfa1 rfl (zfa1 rfl (zfa0)))))
      ·
        replace cc27 := Classical.not_not.mp cc27
        have f13 := zeqI cc27
        rw [show (0 : Int32).toInt = 0 from by decide] at f13
        refine zp_seg (pc' := 34) (lv' := [(0, .ref a), (1, .int o9), (3, .int y3_9), (4, .int y4_9)]) (st' := [.int (o9 + 1), .int y3_9]) [(30, .iload_n 3), (31, .iload_n 1), (32, .iconst 1), (33, .iadd)] (by decide +kernel) rfl ?_
        have k14 := zaddC o9 1 (n := 1) (by decide) (by omega) (by omega)
        generalize ev34 : (o9 + 1 : Int32) = v34 at k14 ⊢
        have kv34 := zrng v34
        refine zp_seg (pc' := 37) (lv' := [(0, .ref a), (1, .int o9), (3, .int y3_9), (4, .int y4_9)]) (st' := [.int (v34 + y4_9), .int y3_9]) [(34, .iload 4), (36, .iadd)] (by decide +kernel) rfl ?_
        have k15 := zadd v34 y4_9 (by omega) (by omega)
        generalize ev37 : (v34 + y4_9 : Int32) = v37 at k15 ⊢
        have kv37 := zrng v37
        refine zr_max (idx := 40) (by decide +kernel) (by decide +kernel) (by omega) (Nat.le_of_ble_eq_true rfl) ?_
        obtain ⟨m16, em16, hm16⟩ := zmaxI y3_9 v37
        rw [← em16]
        have km16 := zrng m16
        refine zp_seg (pc' := 48) (lv' := [(4, .int (y4_9 + 1)), (3, .int m16), (0, .ref a), (1, .int o9)]) (st' := []) [(40, .goto 4), (44, .istore_n 3), (45, .iinc 4 1)] (by decide +kernel) rfl ?_
        have k17 := zaddC y4_9 1 (n := 1) (by decide) (by omega) (by omega)
        generalize ev48 : (y4_9 + 1 : Int32) = v48 at k17 ⊢
        have kv48 := zrng v48
        refine zp_seg (pc' := 9) (lv' := [(4, .int v48), (3, .int m16), (0, .ref a), (1, .int o9)]) (st' := []) [(48, .goto (-39))] (by decide +kernel) rfl ?_
        exact (ih9 m16 v48 (by first | assumption | omega | decide) (by first | assumption | omega | decide) (by first | assumption | omega | decide) (by first | assumption | omega | decide) (by omega)).more (zfa1 rfl (zfa1 rfl (zfa1 rfl (zfa1 rfl (zfa0)))))
  have hl18 : (0 : Int32).toInt = 0 := by decide
  exact (hL9 _ m3 0 (by first | assumption | omega | decide) (by first | assumption | omega | decide) (by first | assumption | omega | decide) (by first | assumption | omega | decide) (Nat.lt_succ_self _)).more (zfa1 rfl (zfa1 rfl (zfa1 rfl (zfa1 rfl (zfa0)))))

theorem zx_X16_fill_0 {t : Nat}  : t < t + 8 ∨ t + 8 + 1 ≤ t := by omega
theorem zx_X16_fill_1 {t : Nat}  : (t + 1) < t + 8 ∨ t + 8 + 1 ≤ (t + 1) := by omega
theorem zx_X16_fill_2 {t : Nat}  : (t + 2) < t + 8 ∨ t + 8 + 1 ≤ (t + 2) := by omega
theorem zx_X16_fill_3 {t : Nat}  : (t + 3) < t + 8 ∨ t + 8 + 1 ≤ (t + 3) := by omega
theorem zx_X16_fill_4 {t : Nat}  : (t + 4) < t + 8 ∨ t + 8 + 1 ≤ (t + 4) := by omega
theorem zx_X16_fill_5 {t : Nat}  : (t + 5) < t + 8 ∨ t + 8 + 1 ≤ (t + 5) := by omega
theorem zx_X16_fill_6 {t : Nat}  : (t + 6) < t + 8 ∨ t + 8 + 1 ≤ (t + 6) := by omega
theorem zx_X16_fill_7 {t : Nat}  : (t + 7) < t + 8 ∨ t + 8 + 1 ≤ (t + 7) := by omega
theorem zx_X16_fill_8 {t x : Nat} (h0 : x < t + 8 ∨ t + 8 + 1 ≤ x) : x ≠ t + 8 := by omega
set_option maxHeartbeats 8000000 in
set_option maxRecDepth 100000 in
theorem c_X16_fill {w : zM}  (t : Nat) (hTi_t : zTi w t 4) : zCon 3 zq_X16_fill [.ref t] w (fun v9 w9' => zSI w w9' ∧ (∀ x, (x < t + 8 ∨ t + 8 + 1 ≤ x) → w9' x = w x) ∧ zTi w9' t 4 ∧ v9 = none) := by
  intro d sz hd
  obtain ⟨d, rfl⟩ : ∃ d9, d = d9 + 1 := ⟨d - 1, by omega⟩
  generalize hPost : (fun (r9' : Option (Option Value)) (w9' : zM) (z9 : Nat) => z9 = sz ∧ ∃ v9, r9' = some v9 ∧ (zSI w w9' ∧ (∀ x, (x < t + 8 ∨ t + 8 + 1 ≤ x) → w9' x = w x) ∧ zTi w9' t 4 ∧ v9 = none)) = Post
  show zP (d + 1) zq_X16_fill 0 [(0, .ref t)] [] w sz 0 0 Post
  obtain ⟨g1, fn1, fd1, fa1, fb1, fc1, fe1, fr1, fu1, hT1, hAn1, hAd1, hAa1, hAb1, hAc1, hAe1, hAr1, hAu1, hK1⟩ := id hTi_t
  obtain ⟨hK10, hKn1, hKd1, hKx1, hKm1, hKl1, hKr1, hKu1, hKk1⟩ := id hK1
  have hor := (hKk1.2.2.2.2.2 rfl).1
  refine zp_seg (pc' := 1) (lv' := [(0, .ref t)]) (st' := [.ref t]) [(0, .aload_n 0)] (by decide +kernel) rfl ?_
  refine zr_get (idx := 243) (k := 13) (v := .int (g1 13)) (by decide +kernel) (by decide +kernel) hT1 rfl ?_
  refine zp_seg (pc' := 5) (lv' := [(0, .ref t)]) (st' := [.ref t, .int (g1 13)]) [(4, .aload_n 0)] (by decide +kernel) rfl ?_
  refine zr_get (idx := 240) (k := 12) (v := .int (g1 12)) (by decide +kernel) (by decide +kernel) hT1 rfl ?_
  refine zp_if (i := .if_icmp .ge 4) (c := (g1 12) ≤ (g1 13)) (t := 12) (e := 11) (lv' := [(0, .ref t)]) (st' := []) (by decide +kernel) rfl (fun cc8 => ?_) (fun cc8 => ?_)
  ·
    have k1 := zrng (g1 12)
    have k2 := zrng (g1 13)
    have f3 := zleI cc8
    refine zp_seg (pc' := 13) (lv' := [(0, .ref t)]) (st' := [.ref t]) [(12, .aload_n 0)] (by decide +kernel) rfl ?_
    refine zr_get (idx := 240) (k := 12) (v := .int (g1 12)) (by decide +kernel) (by decide +kernel) hT1 rfl ?_
    refine zp_seg (pc' := 17) (lv' := [(1, .int (g1 12)), (0, .ref t)]) (st' := []) [(16, .istore_n 1)] (by decide +kernel) rfl ?_
    have hL17 : ∀ (mm17 : Nat) (wL17 : zM) (y1_17 : Int32) (pu : Nat → Int32), (zSI w wL17) → (∀ x, (x < t + 8 ∨ t + 8 + 1 ≤ x) → wL17 x = w x) → ((g1 12).toInt ≤ y1_17.toInt) → (y1_17.toInt ≤ 301) → (wL17 (t + 8) = some (.inr (0, 361, .inl pu))) → (∀ i, i < 361 → zr1 (pu i)) → (400 - y1_17.toInt).toNat < mm17 → zP (d + 1) zq_X16_fill 17 [(0, .ref t), (1, .int y1_17)] [] wL17 sz 0 0 Post := by
      intro mm17
      induction mm17 with
      | zero => intros; omega
      | succ mm17 ih17 =>
      intro wL17 y1_17 pu hsiL17 heqL17 hi17_0 hi17_1 hAu hU9 hmu17
      have ky1_17 := zrng y1_17
      refine zp_seg (pc' := 21) (lv' := [(0, .ref t), (1, .int y1_17)]) (st' := [.int 300, .int y1_17]) [(17, .iload_n 1), (18, .sipush 300)] (by decide +kernel) rfl ?_
      refine zp_if (i := .if_icmp .gt 98) (c := 300 < y1_17) (t := 119) (e := 24) (lv' := [(0, .ref t), (1, .int y1_17)]) (st' := []) (by decide +kernel) rfl (fun cc21 => ?_) (fun cc21 => ?_)
      ·
        have f5 := zltI cc21
        rw [show (300 : Int32).toInt = 300 from by decide] at f5
        have hb6 : wL17 t = some (.inl (13, zTo t g1)) := (heqL17 t (zx_X16_fill_0)).trans hT1
        have hb7 : wL17 (t + 1) = some (.inr (0, 325, .inl fn1)) := (heqL17 (t + 1) (zx_X16_fill_1)).trans hAn1
        have hb8 : wL17 (t + 2) = some (.inr (0, 325, .inl fd1)) := (heqL17 (t + 2) (zx_X16_fill_2)).trans hAd1
        have hb9 : wL17 (t + 3) = some (.inr (0, 13, .inl fa1)) := (heqL17 (t + 3) (zx_X16_fill_3)).trans hAa1
        have hb10 : wL17 (t + 4) = some (.inr (0, 13, .inl fb1)) := (heqL17 (t + 4) (zx_X16_fill_4)).trans hAb1
        have hb11 : wL17 (t + 5) = some (.inr (0, 13, .inl fc1)) := (heqL17 (t + 5) (zx_X16_fill_5)).trans hAc1
        have hb12 : wL17 (t + 6) = some (.inr (0, 13, .inl fe1)) := (heqL17 (t + 6) (zx_X16_fill_6)).trans hAe1
        have hb13 : wL17 (t + 7) = some (.inr (0, 175, .inl fr1)) := (heqL17 (t + 7) (zx_X16_fill_7)).trans hAr1
        have hTi9 : zTi wL17 (t) 4 := ⟨_, _, _, _, _, _, _, _, _, hb6, hb7, hb8, hb9, hb10, hb11, hb12, hb13, hAu, ⟨hK10, hKn1, hKd1, hKx1, hKm1, hKl1, hKr1, hU9, hKk1⟩⟩
        have hoffend : ∀ x, (x < t + 8 ∨ t + 8 + 1 ≤ x) → wL17 x = w x := fun x hx => (heqL17 x hx)
        refine zr_retV (by decide +kernel) rfl ?_
        rw [← hPost]; exact ⟨rfl, _, rfl, hsiL17, hoffend, hTi9, rfl⟩
      ·
        have f15 := znltI cc21
        rw [show (300 : Int32).toInt = 300 from by decide] at f15
        refine zp_seg (pc' := 26) (lv' := [(0, .ref t), (1, .int y1_17)]) (st' := [.ref t, .int y1_17]) [(24, .iload_n 1), (25, .aload_n 0)] (by decide +kernel) rfl ?_
        have hb16 : wL17 t = some (.inl (13, zTo t g1)) := (heqL17 t (zx_X16_fill_0)).trans hT1
        refine zr_get (idx := 234) (k := 10) (v := .int (g1 10)) (by decide +kernel) (by decide +kernel) hb16 rfl ?_
        refine zp_seg (pc' := 30) (lv' := [(0, .ref t), (1, .int y1_17)]) (st' := [.int (y1_17 - (g1 10))]) [(29, .isub)] (by decide +kernel) rfl ?_
        have k17 := zrng (g1 10)
        have k18 := zsub y1_17 ((g1 10)) (by omega) (by omega)
        generalize ev30 : (y1_17 - (g1 10) : Int32) = v30 at k18 ⊢
        have kv30 := zrng v30
        refine zp_seg (pc' := 36) (lv' := [(4, .int 0), (3, .int 0), (2, .int v30), (0, .ref t), (1, .int y1_17)]) (st' := []) [(30, .istore_n 2), (31, .iconst 0), (32, .istore_n 3), (33, .iconst 0), (34, .istore 4)] (by decide +kernel) rfl ?_
        have hL36 : ∀ (mm36 : Nat) (y3_36 : Int32) (y4_36 : Int32), (0 ≤ y4_36.toInt) → (y4_36.toInt ≤ (g1 10).toInt) → (zr1 y3_36) → (2147483647 - y4_36.toInt).toNat < mm36 → zP (d + 1) zq_X16_fill 36 [(0, .ref t), (1, .int y1_17), (2, .int v30), (3, .int y3_36), (4, .int y4_36)] [] wL17 sz 0 0 Post := by
          intro mm36
          induction mm36 with
          | zero => intros; omega
          | succ mm36 ih36 =>
          intro y3_36 y4_36 hi36_0 hi36_1 hS9 hmu36
          have ky3_36 := zrng y3_36
          have ky4_36 := zrng y4_36
          have hz19 : (y4_36.toNatClampNeg : Int) = y4_36.toInt := znat (by first | omega | decide)
          refine zp_seg (pc' := 39) (lv' := [(0, .ref t), (1, .int y1_17), (2, .int v30), (3, .int y3_36), (4, .int y4_36)]) (st' := [.ref t, .int y4_36]) [(36, .iload 4), (38, .aload_n 0)] (by decide +kernel) rfl ?_
          refine zr_get (idx := 234) (k := 10) (v := .int (g1 10)) (by decide +kernel) (by decide +kernel) hb16 rfl ?_
          refine zp_if (i := .if_icmp .ge 39) (c := (g1 10) ≤ y4_36) (t := 81) (e := 45) (lv' := [(0, .ref t), (1, .int y1_17), (2, .int v30), (3, .int y3_36), (4, .int y4_36)]) (st' := []) (by decide +kernel) rfl (fun cc42 => ?_) (fun cc42 => ?_)
          ·
            have f20 := zleI cc42
            refine zp_seg (pc' := 82) (lv' := [(0, .ref t), (1, .int y1_17), (2, .int v30), (3, .int y3_36), (4, .int y4_36)]) (st' := [.ref t]) [(81, .aload_n 0)] (by decide +kernel) rfl ?_
            refine zr_get (idx := 246) (k := 14) (v := .ref (t + 8)) (by decide +kernel) (by decide +kernel) hb16 rfl ?_
            refine zp_seg (pc' := 88) (lv' := [(0, .ref t), (1, .int y1_17), (2, .int v30), (3, .int y3_36), (4, .int y4_36)]) (st' := [.int y3_36, .int 0, .int y1_17, .ref (t + 8)]) [(85, .iload_n 1), (86, .iconst 0), (87, .iload_n 3)] (by decide +kernel) rfl ?_
            refine zr_callS (idx := 46) (j := 256) (by decide +kernel) (by decide +kernel) (by decide) (show zMe 256 = some zq_X16_sub from rfl) rfl rfl (Nat.le_of_ble_eq_true rfl) rfl rfl (Nat.le_of_ble_eq_true rfl) (Nat.le_of_ble_eq_true rfl) (c_X16_sub (w := wL17) 0 y3_36 (by first | omega | decide | assumption | exact zr1_1 | exact zr1_0 | fail "num") (by exact hS9)) (by omega) (fun v88 w88 hp88 => ?_)
            obtain ⟨hpw88, r88, rfl, hr88⟩ := hp88
            replace hpw88 := hpw88.symm
            subst hpw88
            have kr88 := zrng r88
            show zP _ _ _ _ [.int r88, .int y1_17, .ref (t + 8)] _ _ _ _ _
            refine zp_seg (pc' := 92) (lv' := [(0, .ref t), (1, .int y1_17), (2, .int v30), (3, .int y3_36), (4, .int y4_36)]) (st' := [.ref t, .int r88, .int y1_17, .ref (t + 8)]) [(91, .aload_n 0)] (by decide +kernel) rfl ?_
            refine zr_get (idx := 237) (k := 11) (v := .ref (t + 7)) (by decide +kernel) (by decide +kernel) hb16 rfl ?_
            refine zp_seg (pc' := 98) (lv' := [(0, .ref t), (1, .int y1_17), (2, .int v30), (3, .int y3_36), (4, .int y4_36)]) (st' := [.ref t, .int 25, .ref (t + 7), .int r88, .int y1_17, .ref (t + 8)]) [(95, .bipush 25), (97, .aload_n 0)] (by decide +kernel) rfl ?_
            refine zr_get (idx := 234) (k := 10) (v := .int (g1 10)) (by decide +kernel) (by decide +kernel) hb16 rfl ?_
            refine zp_seg (pc' := 102) (lv' := [(0, .ref t), (1, .int y1_17), (2, .int v30), (3, .int y3_36), (4, .int y4_36)]) (st' := [.int (25 * (g1 10)), .ref (t + 7), .int r88, .int y1_17, .ref (t + 8)]) [(101, .imul)] (by decide +kernel) rfl ?_
            have k21 := zmulCl 25 ((g1 10)) (n := 25) (by decide) (by omega) (by omega)
            generalize ev102 : (25 * (g1 10) : Int32) = v102 at k21 ⊢
            have kv102 := zrng v102
            refine zp_seg (pc' := 103) (lv' := [(0, .ref t), (1, .int y1_17), (2, .int v30), (3, .int y3_36), (4, .int y4_36)]) (st' := [.int v30, .int v102, .ref (t + 7), .int r88, .int y1_17, .ref (t + 8)]) [(102, .iload_n 2)] (by decide +kernel) rfl ?_
            have hb22 : wL17 (t + 7) = some (.inr (0, 175, .inl fr1)) := (heqL17 (t + 7) (zx_X16_fill_7)).trans hAr1
            refine zr_callS (idx := 772) (j := 399) (by decide +kernel) (by decide +kernel) (by decide) (show zMe 399 = some zq_X16_polynomialAt from rfl) rfl rfl (Nat.le_of_ble_eq_true rfl) rfl rfl (Nat.le_of_ble_eq_true rfl) (Nat.le_of_ble_eq_true rfl) (c_X16_polynomialAt (w := wL17) (t + 7) v102 v30 hb22 (by exact hKr1) (by first | omega | decide | assumption | exact zr1_1 | exact zr1_0 | fail "num") (by exact ⟨by omega, by omega⟩)) (by omega) (fun v103 w103 hp103 => ?_)
            obtain ⟨hpw103, r103, rfl, hr103⟩ := hp103
            replace hpw103 := hpw103.symm
            subst hpw103
            have kr103 := zrng r103
            show zP _ _ _ _ [.int r103, .int r88, .int y1_17, .ref (t + 8)] _ _ _ _ _
            refine zr_callS (idx := 13) (j := 259) (by decide +kernel) (by decide +kernel) (by decide) (show zMe 259 = some zq_X16_inv from rfl) rfl rfl (Nat.le_of_ble_eq_true rfl) rfl rfl (Nat.le_of_ble_eq_true rfl) (Nat.le_of_ble_eq_true rfl) (c_X16_inv (w := wL17) r103 (by first | exact hr103.1 | omega | decide | assumption | exact zr1_1 | exact zr1_0 | fail "num")) (by omega) (fun v106 w106 hp106 => ?_)
            obtain ⟨hpw106, r106, rfl, hr106⟩ := hp106
            replace hpw106 := hpw106.symm
            subst hpw106
            have kr106 := zrng r106
            show zP _ _ _ _ [.int r106, .int r88, .int y1_17, .ref (t + 8)] _ _ _ _ _
            refine zr_callS (idx := 56) (j := 257) (by decide +kernel) (by decide +kernel) (by decide) (show zMe 257 = some zq_X16_mul from rfl) rfl rfl (Nat.le_of_ble_eq_true rfl) rfl rfl (Nat.le_of_ble_eq_true rfl) (Nat.le_of_ble_eq_true rfl) (c_X16_mul (w := wL17) r88 r106 (by first | exact hr88.1 | omega | decide | assumption | exact zr1_1 | exact zr1_0 | fail "num") (by first | exact hr106.1 | omega | decide | assumption | exact zr1_1 | exact zr1_0 | fail "num")) (by omega) (fun v109 w109 hp109 => ?_)
            obtain ⟨hpw109, r109, rfl, hr109⟩ := hp109
            replace hpw109 := hpw109.symm
            subst hpw109
            have kr109 := zrng r109
            show zP _ _ _ _ [.int r109, .int y1_17, .ref (t + 8)] _ _ _ _ _
            have hz23 : (y1_17.toNatClampNeg : Int) = y1_17.toInt := znat (by first | omega | decide)
            refine zr_iast (by decide +kernel) hAu (zin (by first | omega | decide) (by first | omega | decide)) ?_
            show zP (d + 1) zq_X16_fill 113 [(0, .ref t), (1, .int y1_17), (2, .int v30), (3, .int y3_36), (4, .int y4_36)] [] (zup wL17 (t + 8) (.inr (0, 361, .inl (upd pu (y1_17.toNatClampNeg) r109)))) sz 0 0 Post
            obtain ⟨w112, ew112⟩ : ∃ wz9, wz9 = zup wL17 (t + 8) (.inr (0, 361, .inl (upd pu (y1_17.toNatClampNeg) r109))) := ⟨_, rfl⟩
            have hsi112 : zSI wL17 w112 := by rw [ew112]; exact zSI.arr _ hAu
            have heq112 : ∀ x, x ≠ t + 8 → w112 x = wL17 x := fun x hx => by rw [ew112]; exact zup_n hx
            have hc112 : w112 (t + 8) = some (.inr (0, 361, .inl (upd pu (y1_17.toNatClampNeg) r109))) := by rw [ew112]; exact zup_s
            rw [← ew112]
            clear ew112
            refine zp_seg (pc' := 116) (lv' := [(1, .int (y1_17 + 1)), (0, .ref t), (2, .int v30), (3, .int y3_36), (4, .int y4_36)]) (st' := []) [(113, .iinc 1 1)] (by decide +kernel) rfl ?_
            have k24 := zaddC y1_17 1 (n := 1) (by decide) (by omega) (by omega)
            generalize ev116 : (y1_17 + 1 : Int32) = v116 at k24 ⊢
            have kv116 := zrng v116
            refine zp_seg (pc' := 17) (lv' := [(1, .int v116), (0, .ref t), (2, .int v30), (3, .int y3_36), (4, .int y4_36)]) (st' := []) [(116, .goto (-99))] (by decide +kernel) rfl ?_
            exact (ih17 w112 v116 ((upd pu (y1_17.toNatClampNeg) r109)) (hsiL17.tr hsi112) (fun x hx => ((heq112 x (zx_X16_fill_8 hx)).trans (heqL17 x hx))) (by first | assumption | omega | decide) (by first | assumption | omega | decide) hc112 (by
                  intro i hi
                  by_cases e : i = y1_17.toNatClampNeg
                  · rw [e, zupd_s]; exact hr109.1
                  · rw [zupd_n _ _ e]; exact hU9 i hi) (by omega)).more (zfa1 rfl (zfa1 rfl (zfa0)))
          ·
            have f25 := znleI cc42
            refine zp_seg (pc' := 47) (lv' := [(0, .ref t), (1, .int y1_17), (2, .int v30), (3, .int y3_36), (4, .int y4_36)]) (st' := [.ref t, .int y3_36]) [(45, .iload_n 3), (46, .aload_n 0)] (by decide +kernel) rfl ?_
            refine zr_get (idx := 237) (k := 11) (v := .ref (t + 7)) (by decide +kernel) (by decide +kernel) hb16 rfl ?_
            refine zp_seg (pc' := 55) (lv' := [(0, .ref t), (1, .int y1_17), (2, .int v30), (3, .int y3_36), (4, .int y4_36)]) (st' := [.int (25 * y4_36), .ref (t + 7), .int y3_36]) [(50, .bipush 25), (52, .iload 4), (54, .imul)] (by decide +kernel) rfl ?_
            have k26 := zmulCl 25 y4_36 (n := 25) (by decide) (by omega) (by omega)
            generalize ev55 : (25 * y4_36 : Int32) = v55 at k26 ⊢
            have kv55 := zrng v55
            refine zp_seg (pc' := 56) (lv' := [(0, .ref t), (1, .int y1_17), (2, .int v30), (3, .int y3_36), (4, .int y4_36)]) (st' := [.int v30, .int v55, .ref (t + 7), .int y3_36]) [(55, .iload_n 2)] (by decide +kernel) rfl ?_
            have hb27 : wL17 (t + 7) = some (.inr (0, 175, .inl fr1)) := (heqL17 (t + 7) (zx_X16_fill_7)).trans hAr1
            refine zr_callS (idx := 772) (j := 399) (by decide +kernel) (by decide +kernel) (by decide) (show zMe 399 = some zq_X16_polynomialAt from rfl) rfl rfl (Nat.le_of_ble_eq_true rfl) rfl rfl (Nat.le_of_ble_eq_true rfl) (Nat.le_of_ble_eq_true rfl) (c_X16_polynomialAt (w := wL17) (t + 7) v55 v30 hb27 (by exact hKr1) (by first | omega | decide | assumption | exact zr1_1 | exact zr1_0 | fail "num") (by exact ⟨by omega, by omega⟩)) (by omega) (fun v56 w56 hp56 => ?_)
            obtain ⟨hpw56, r56, rfl, hr56⟩ := hp56
            replace hpw56 := hpw56.symm
            subst hpw56
            have kr56 := zrng r56
            show zP _ _ _ _ [.int r56, .int y3_36] _ _ _ _ _
            refine zp_seg (pc' := 60) (lv' := [(0, .ref t), (1, .int y1_17), (2, .int v30), (3, .int y3_36), (4, .int y4_36)]) (st' := [.ref t, .int r56, .int y3_36]) [(59, .aload_n 0)] (by decide +kernel) rfl ?_
            refine zr_get (idx := 246) (k := 14) (v := .ref (t + 8)) (by decide +kernel) (by decide +kernel) hb16 rfl ?_
            refine zp_seg (pc' := 67) (lv' := [(0, .ref t), (1, .int y1_17), (2, .int v30), (3, .int y3_36), (4, .int y4_36)]) (st' := [.int (v30 + y4_36), .ref (t + 8), .int r56, .int y3_36]) [(63, .iload_n 2), (64, .iload 4), (66, .iadd)] (by decide +kernel) rfl ?_
            have k28 := zadd v30 y4_36 (by omega) (by omega)
            generalize ev67 : (v30 + y4_36 : Int32) = v67 at k28 ⊢
            have kv67 := zrng v67
            refine zr_iald (by decide +kernel) hAu (zin (by first | omega | decide) (by first | omega | decide)) ?_
            have hz29 : (v67.toNatClampNeg : Int) = v67.toInt := znat (by first | omega | decide)
            obtain ⟨x67, ex67⟩ : ∃ x9, x9 = pu (v67.toNatClampNeg) := ⟨_, rfl⟩
            rw [← ex67]
            have kx67 := zrng x67
            refine zr_callS (idx := 56) (j := 257) (by decide +kernel) (by decide +kernel) (by decide) (show zMe 257 = some zq_X16_mul from rfl) rfl rfl (Nat.le_of_ble_eq_true rfl) rfl rfl (Nat.le_of_ble_eq_true rfl) (Nat.le_of_ble_eq_true rfl) (c_X16_mul (w := wL17) r56 x67 (by first | exact hr56.1 | omega | decide | assumption | exact zr1_1 | exact zr1_0 | fail "num") (by rw [ex67]; exact hU9 _ (by omega))) (by omega) (fun v68 w68 hp68 => ?_)
            obtain ⟨hpw68, r68, rfl, hr68⟩ := hp68
            replace hpw68 := hpw68.symm
            subst hpw68
            have kr68 := zrng r68
            show zP _ _ _ _ [.int r68, .int y3_36] _ _ _ _ _
            refine zr_callS (idx := 49) (j := 255) (by decide +kernel) (by decide +kernel) (by decide) (show zMe 255 = some zq_X16_add from rfl) rfl rfl (Nat.le_of_ble_eq_true rfl) rfl rfl (Nat.le_of_ble_eq_true rfl) (Nat.le_of_ble_eq_true rfl) (c_X16_add (w := wL17) y3_36 r68 (by exact hS9) (by first | exact hr68.1 | omega | decide | assumption | exact zr1_1 | exact zr1_0 | fail "num")) (by omega) (fun v71 w71 hp71 => ?_)
            obtain ⟨hpw71, r71, rfl, hr71⟩ := hp71
            replace hpw71 := hpw71.symm
            subst hpw71
            have kr71 := zrng r71
            show zP _ _ _ _ [.int r71] _ _ _ _ _
            refine zp_seg (pc' := 78) (lv' := [(4, .int (y4_36 + 1)), (3, .int r71), (0, .ref t), (1, .int y1_17), (2, .int v30)]) (st' := []) [(74, .istore_n 3), (75, .iinc 4 1)] (by decide +kernel) rfl ?_
            have k30 := zaddC y4_36 1 (n := 1) (by decide) (by omega) (by omega)
            generalize ev78 : (y4_36 + 1 : Int32) = v78 at k30 ⊢
            have kv78 := zrng v78
            refine zp_seg (pc' := 36) (lv' := [(4, .int v78), (3, .int r71), (0, .ref t), (1, .int y1_17), (2, .int v30)]) (st' := []) [(78, .goto (-42))] (by decide +kernel) rfl ?_
            have hz31 : (v78.toNatClampNeg : Int) = v78.toInt := znat (by first | omega | decide)
            exact (ih36 r71 v78 (by first | assumption | omega | decide) (by first | assumption | omega | decide) (by
                  exact hr71.1) (by omega)).more (zfa1 rfl (zfa1 rfl (zfa1 rfl (zfa1 rfl (zfa1 rfl (zfa0))))))
        have hl32 : (0 : Int32).toInt = 0 := by decide
        have hz33 : ((0 : Int32).toNatClampNeg : Int) = 0 := by decide
        exact (hL36 _ 0 0 (by first | assumption | omega | decide) (by first | assumption | omega | decide) (by
              exact zr1_0) (Nat.lt_succ_self _)).more (zfa1 rfl (zfa1 rfl (zfa1 rfl (zfa1 rfl (zfa1 rfl (zfa0))))))
    exact (hL17 _ w (g1 12) (fu1) zSI.rf (fun _ _ => rfl) (by first | assumption | omega | decide) (by first | assumption | omega | decide) hAu1 (by
          exact hKu1) (Nat.lt_succ_self _)).more (zfa1 rfl (zfa1 rfl (zfa0)))
  ·
    have k34 := zrng (g1 12)
    have k35 := zrng (g1 13)
    have f36 := znleI cc8
    have hoffend : ∀ x, (x < t + 8 ∨ t + 8 + 1 ≤ x) → w x = w x := fun x hx => rfl
    refine zr_retV (by decide +kernel) rfl ?_
    rw [← hPost]; exact ⟨rfl, _, rfl, zSI.rf, hoffend, hTi_t, rfl⟩
