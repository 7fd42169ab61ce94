set_option maxHeartbeats 8000000 in
set_option maxRecDepth 100000 in
theorem c_X16_isLine_ {w : zM}  (a : Int32) (b : Int32) (c : Int32) : zCon 1 zq_X16_isLine_ [.int a, .int b, .int c] w (fun v9 w9' => w9' = w ∧ ∃ r9 : Int32, v9 = some (.int r9) ∧ (r9 = 0 ∨ r9 = 1) ∧ (r9 = 1 → (-3 ≤ a.toInt ∧ a.toInt ≤ 3) ∧ (-3 ≤ b.toInt ∧ b.toInt ≤ 3) ∧ (-50 ≤ c.toInt ∧ c.toInt ≤ 50))) := by
  intro d sz hd
  obtain ⟨d, rfl⟩ : ∃ d9, d = d9 + 1 := ⟨d - 1, by omega⟩
  generalize hPost : (fun (r9' : Option (Option Value)) (w9' : zM) (z9 : Nat) => z9 = sz ∧ ∃ v9, r9' = some v9 ∧ (w9' = w ∧ ∃ r9 : Int32, v9 = some (.int r9) ∧ (r9 = 0 ∨ r9 = 1) ∧ (r9 = 1 → (-3 ≤ a.toInt ∧ a.toInt ≤ 3) ∧ (-3 ≤ b.toInt ∧ b.toInt ≤ 3) ∧ (-50 ≤ c.toInt ∧ c.toInt ≤ 50)))) = Post
  show zP (d + 1) zq_X16_isLine_ 0 [(0, .int a), (1, .int b), (2, .int c)] [] w sz 0 0 Post
  have k1 := zrng a
  have k2 := zrng b
  have k3 := zrng c
  refine zp_seg (pc' := 3) (lv' := [(0, .int a), (1, .int b), (2, .int c)]) (st' := [.int (Int32.ofInt (-3)), .int a]) [(0, .iload_n 0), (1, .bipush (-3))] (by decide +kernel) rfl ?_
  refine zp_if (i := .if_icmp .lt 35) (c := a < (Int32.ofInt (-3))) (t := 38) (e := 6) (lv' := [(0, .int a), (1, .int b), (2, .int c)]) (st' := []) (by decide +kernel) rfl (fun cc3 => ?_) (fun cc3 => ?_)
  ·
    have f5 := zltI cc3
    rw [show (Int32.ofInt (-3) : Int32).toInt = (-3) from by decide] at f5
    refine zp_seg (pc' := 39) (lv' := [(0, .int a), (1, .int b), (2, .int c)]) (st' := [.int 0]) [(38, .iconst 0)] (by decide +kernel) rfl ?_
    refine zr_retB (by decide +kernel) rfl (by decide) ?_
    rw [← hPost]; exact ⟨rfl, _, rfl, rfl, _, rfl, (by decide), (by
          first | exact fun e => absurd e (by decide) | exact fun _ => ⟨⟨by omega, by omega⟩, ⟨by omega, by omega⟩, by omega, by omega⟩)⟩
  ·
    have f7 := znltI cc3
    rw [show (Int32.ofInt (-3) : Int32).toInt = (-3) from by decide] at f7
    refine zp_seg (pc' := 8) (lv' := [(0, .int a), (1, .int b), (2, .int c)]) (st' := [.int 3, .int a]) [(6, .iload_n 0), (7, .iconst 3)] (by decide +kernel) rfl ?_
    refine zp_if (i := .if_icmp .gt 30) (c := 3 < a) (t := 38) (e := 11) (lv' := [(0, .int a), (1, .int b), (2, .int c)]) (st' := []) (by decide +kernel) rfl (fun cc8 => ?_) (fun cc8 => ?_)
    ·
      have f9 := zltI cc8
      rw [show (3 : Int32).toInt = 3 from by decide] at f9
      refine zp_seg (pc' := 39) (lv' := [(0, .int a), (1, .int b), (2, .int c)]) (st' := [.int 0]) [(38, .iconst 0)] (by decide +kernel) rfl ?_
      refine zr_retB (by decide +kernel) rfl (by decide) ?_
      rw [← hPost]; exact ⟨rfl, _, rfl, rfl, _, rfl, (by decide), (by
            first | exact fun e => absurd e (by decide) | exact fun _ => ⟨⟨by omega, by omega⟩, ⟨by omega, by omega⟩, by omega, by omega⟩)⟩
    ·
      have f11 := znltI cc8
      rw [show (3 : Int32).toInt = 3 from by decide] at f11
      refine zp_seg (pc' := 14) (lv' := [(0, .int a), (1, .int b), (2, .int c)]) (st' := [.int (Int32.ofInt (-3)), .int b]) [(11, .iload_n 1), (12, .bipush (-3))] (by decide +kernel) rfl ?_
      refine zp_if (i := .if_icmp .lt 24) (c := b < (Int32.ofInt (-3))) (t := 38) (e := 17) (lv' := [(0, .int a), (1, .int b), (2, .int c)]) (st' := []) (by decide +kernel) rfl (fun cc14 => ?_) (fun cc14 => ?_)
      ·
        have f12 := zltI cc14
        rw [show (Int32.ofInt (-3) : Int32).toInt = (-3) from by decide] at f12
        refine zp_seg (pc' := 39) (lv' := [(0, .int a), (1, .int b), (2, .int c)]) (st' := [.int 0]) [(38, .iconst 0)] (by decide +kernel) rfl ?_
        refine zr_retB (by decide +kernel) rfl (by decide) ?_
        rw [← hPost]; exact ⟨rfl, _, rfl, rfl, _, rfl, (by decide), (by
              first | exact fun e => absurd e (by decide) | exact fun _ => ⟨⟨by omega, by omega⟩, ⟨by omega, by omega⟩, by omega, by omega⟩)⟩
      ·
        have f13 := znltI cc14
        rw [show (Int32.ofInt (-3) : Int32).toInt = (-3) from by decide] at f13
        refine zp_seg (pc' := 19) (lv' := [(0, .int a), (1, .int b), (2, .int c)]) (st' := [.int 3, .int b]) [(17, .iload_n 1), (18, .iconst 3)] (by decide +kernel) rfl ?_
        refine zp_if (i := .if_icmp .gt 19) (c := 3 < b) (t := 38) (e := 22) (lv' := [(0, .int a), (1, .int b), (2, .int c)]) (st' := []) (by decide +kernel) rfl (fun cc19 => ?_) (fun cc19 => ?_)
        ·
          have f14 := zltI cc19
          rw [show (3 : Int32).toInt = 3 from by decide] at f14
          refine zp_seg (pc' := 39) (lv' := [(0, .int a), (1, .int b), (2, .int c)]) (st' := [.int 0]) [(38, .iconst 0)] (by decide +kernel) rfl ?_
          refine zr_retB (by decide +kernel) rfl (by decide) ?_
          rw [← hPost]; exact ⟨rfl, _, rfl, rfl, _, rfl, (by decide), (by
                first | exact fun e => absurd e (by decide) | exact fun _ => ⟨⟨by omega, by omega⟩, ⟨by omega, by omega⟩, by omega, by omega⟩)⟩
        ·
          have f15 := znltI cc19
          rw [show (3 : Int32).toInt = 3 from by decide] at f15
          refine zp_seg (pc' := 25) (lv' := [(0, .int a), (1, .int b), (2, .int c)]) (st' := [.int (Int32.ofInt (-50)), .int c]) [(22, .iload_n 2), (23, .bipush (-50))] (by decide +kernel) rfl ?_
          refine zp_if (i := .if_icmp .lt 13) (c := c < (Int32.ofInt (-50))) (t := 38) (e := 28) (lv' := [(0, .int a), (1, .int b), (2, .int c)]) (st' := []) (by decide +kernel) rfl (fun cc25 => ?_) (fun cc25 => ?_)
          ·
            have f17 := zltI cc25
            rw [show (Int32.ofInt (-50) : Int32).toInt = (-50) from by decide] at f17
            refine zp_seg (pc' := 39) (lv' := [(0, .int a), (1, .int b), (2, .int c)]) (st' := [.int 0]) [(38, .iconst 0)] (by decide +kernel) rfl ?_
            refine zr_retB (by decide +kernel) rfl (by decide) ?_
            rw [← hPost]; exact ⟨rfl, _, rfl, rfl, _, rfl, (by decide), (by
                  first | exact fun e => absurd e (by decide) | exact fun _ => ⟨⟨by omega, by omega⟩, ⟨by omega, by omega⟩, by omega, by omega⟩)⟩
          ·
            have f19 := znltI cc25
            rw [show (Int32.ofInt (-50) : Int32).toInt = (-50) from by decide] at f19
            refine zp_seg (pc' := 31) (lv' := [(0, .int a), (1, .int b), (2, .int c)]) (st' := [.int 50, .int c]) [(28, .iload_n 2), (29, .bipush 50)] (by decide +kernel) rfl ?_
            refine zp_if (i := .if_icmp .gt 7) (c := 50 < c) (t := 38) (e := 34) (lv' := [(0, .int a), (1, .int b), (2, .int c)]) (st' := []) (by decide +kernel) rfl (fun cc31 => ?_) (fun cc31 => ?_)
            ·
              have f21 := zltI cc31
              rw [show (50 : Int32).toInt = 50 from by decide] at f21
              refine zp_seg (pc' := 39) (lv' := [(0, .int a), (1, .int b), (2, .int c)]) (st' := [.int 0]) [(38, .iconst 0)] (by decide +kernel) rfl ?_
              refine zr_retB (by decide +kernel) rfl (by decide) ?_
              rw [← hPost]; exact ⟨rfl, _, rfl, rfl, _, rfl, (by decide), (by
                    first | exact fun e => absurd e (by decide) | exact fun _ => ⟨⟨by omega, by omega⟩, ⟨by omega, by omega⟩, by omega, by omega⟩)⟩
            ·
              have f23 := znltI cc31
              rw [show (50 : Int32).toInt = 50 from by decide] at f23
              refine zp_seg (pc' := 39) (lv' := [(0, .int a), (1, .int b), (2, .int c)]) (st' := [.int 1]) [(34, .iconst 1), (35, .goto 4)] (by decide +kernel) rfl ?_
              refine zr_retB (by decide +kernel) rfl (by decide) ?_
              rw [← hPost]; exact ⟨rfl, _, rfl, rfl, _, rfl, (by decide), (by
                    first | exact fun e => absurd e (by decide) | exact fun _ => ⟨⟨by omega, by omega⟩, ⟨by omega, by omega⟩, by omega, by omega⟩)⟩

theorem zx_X16_isLine_0 {m t : Nat} (h0 : m + 9 ≤ t) : t ≠ m := by omega
theorem zx_X16_isLine_1 {m t : Nat} (h0 : m + 9 ≤ t) : (t + 1) ≠ m := by omega
theorem zx_X16_isLine_2 {m x : Nat} (h0 : x < m ∨ m + 1 ≤ x) : x ≠ m := by omega
set_option maxHeartbeats 8000000 in
set_option maxRecDepth 100000 in
theorem c_X16_isLine {w : zM} {g : Nat → Int32} {r : Nat → Value} {gt fn fd : Nat → Int32} (m : Nat) (t : Nat) (hm : w m = some (.inl (15, zMo m g r))) (hR_m : zR m w) (hT_t : w t = some (.inl (13, zTo t gt))) (hA_t_1 : w (t + 1) = some (.inr (0, 325, .inl fn))) (hA_t_2 : w (t + 2) = some (.inr (0, 325, .inl fd))) (hcr : zCr fn) (htm : m + 9 ≤ t) : zCon 2 zq_X16_isLine [.ref m, .ref t] w (fun v9 w9' => ∃ A9 : Int32, ∃ B9 : Int32, ∃ C9 : Int32, zSI w w9' ∧ (∀ x, (x < m ∨ m + 1 ≤ x) → w9' x = w x) ∧ w9' m = some (.inl (15, zMo m (zs (zs (zs g 17 A9) 18 B9) 19 C9) r)) ∧ ∃ r9 : Int32, v9 = some (.int r9) ∧ (r9 = 0 ∨ r9 = 1) ∧ (r9 = 1 → (gt 0 = 1 ∧ (-3 ≤ A9.toInt ∧ A9.toInt ≤ 3) ∧ (-3 ≤ B9.toInt ∧ B9.toInt ≤ 3) ∧ (-50 ≤ C9.toInt ∧ C9.toInt ≤ 50)))) := by
  intro d sz hd
  obtain ⟨d, rfl⟩ : ∃ d9, d = d9 + 1 := ⟨d - 1, by omega⟩
  generalize hPost : (fun (r9' : Option (Option Value)) (w9' : zM) (z9 : Nat) => z9 = sz ∧ ∃ v9, r9' = some v9 ∧ (∃ A9 : Int32, ∃ B9 : Int32, ∃ C9 : Int32, zSI w w9' ∧ (∀ x, (x < m ∨ m + 1 ≤ x) → w9' x = w x) ∧ w9' m = some (.inl (15, zMo m (zs (zs (zs g 17 A9) 18 B9) 19 C9) r)) ∧ ∃ r9 : Int32, v9 = some (.int r9) ∧ (r9 = 0 ∨ r9 = 1) ∧ (r9 = 1 → (gt 0 = 1 ∧ (-3 ≤ A9.toInt ∧ A9.toInt ≤ 3) ∧ (-3 ≤ B9.toInt ∧ B9.toInt ≤ 3) ∧ (-50 ≤ C9.toInt ∧ C9.toInt ≤ 50))))) = Post
  show zP (d + 1) zq_X16_isLine 0 [(0, .ref m), (1, .ref t)] [] w sz 0 0 Post
  refine zp_seg (pc' := 1) (lv' := [(0, .ref m), (1, .ref t)]) (st' := [.ref t]) [(0, .aload_n 1)] (by decide +kernel) rfl ?_
  refine zr_get (idx := 202) (k := 0) (v := .int (gt 0)) (by decide +kernel) (by decide +kernel) hT_t rfl ?_
  refine zp_seg (pc' := 5) (lv' := [(0, .ref m), (1, .ref t)]) (st' := [.int 1, .int (gt 0)]) [(4, .iconst 1)] (by decide +kernel) rfl ?_
  refine zp_if (i := .if_icmp .ne 13) (c := ¬ (gt 0) = 1) (t := 18) (e := 8) (lv' := [(0, .ref m), (1, .ref t)]) (st' := []) (by decide +kernel) rfl (fun cc5 => ?_) (fun cc5 => ?_)
  ·
    have k1 := zrng (gt 0)
    have f3 := zneI cc5
    rw [show (1 : Int32).toInt = 1 from by decide] at f3
    refine zp_seg (pc' := 19) (lv' := [(0, .ref m), (1, .ref t)]) (st' := [.int 0]) [(18, .iconst 0)] (by decide +kernel) rfl ?_
    have hoffend : ∀ x, (x < m ∨ m + 1 ≤ x) → w x = w x := fun x hx => rfl
    refine zr_retB (by decide +kernel) rfl (by decide) ?_
    rw [← hPost]; exact ⟨rfl, _, rfl, (g 17), (g 18), (g 19), zSI.rf, hoffend, hm, _, rfl, (by decide), (by
          first | exact fun e => absurd e (by decide) | exact fun _ => ⟨cc5, hr125 (hrb125.resolve_left cc128)⟩)⟩
  ·
    replace cc5 := Classical.not_not.mp cc5
    have k4 := zrng (gt 0)
    have f6 := zeqI cc5
    rw [show (1 : Int32).toInt = 1 from by decide] at f6
    refine zp_seg (pc' := 9) (lv' := [(0, .ref m), (1, .ref t)]) (st' := [.ref t]) [(8, .aload_n 1)] (by decide +kernel) rfl ?_
    refine zr_get (idx := 210) (k := 2) (v := .ref (t + 2)) (by decide +kernel) (by decide +kernel) hT_t rfl ?_
    refine zr_callS (idx := 265) (j := 307) (by decide +kernel) (by decide +kernel) (by decide) (show zMe 307 = some zq_X16_isOne from rfl) rfl rfl (Nat.le_of_ble_eq_true rfl) rfl rfl (Nat.le_of_ble_eq_true rfl) (Nat.le_of_ble_eq_true rfl) (c_X16_isOne (w := w) (t + 2) hA_t_2) (by omega) (fun v12 w12 hp12 => ?_)
    obtain ⟨hpw12, r12, rfl, hrb12, hr12⟩ := hp12
    replace hpw12 := hpw12.symm
    subst hpw12
    have kr12 := zrng r12
    show zP _ _ _ _ [.int r12] _ _ _ _ _
    refine zp_if (i := .ifCond .ne 5) (c := ¬ r12 = 0) (t := 20) (e := 18) (lv' := [(0, .ref m), (1, .ref t)]) (st' := []) (by decide +kernel) rfl (fun cc15 => ?_) (fun cc15 => ?_)
    ·
      have f8 := zneI cc15
      rw [show (0 : Int32).toInt = 0 from by decide] at f8
      refine zp_seg (pc' := 24) (lv' := [(3, .int 0), (2, .int 1), (0, .ref m), (1, .ref t)]) (st' := []) [(20, .iconst 1), (21, .istore_n 2), (22, .iconst 0), (23, .istore_n 3)] (by decide +kernel) rfl ?_
      have hL24 : ∀ (mm24 : Nat) (y2_24 : Int32) (y3_24 : Int32), (0 ≤ y3_24.toInt) → (y3_24.toInt ≤ 325) → (400 - y3_24.toInt).toNat < mm24 → zP (d + 1) zq_X16_isLine 24 [(0, .ref m), (1, .ref t), (2, .int y2_24), (3, .int y3_24)] [] w sz 0 0 Post := by
        intro mm24
        induction mm24 with
        | zero => intros; omega
        | succ mm24 ih24 =>
        intro y2_24 y3_24 hi24_0 hi24_1 hmu24
        have ky2_24 := zrng y2_24
        have ky3_24 := zrng y3_24
        have hz9 : (y3_24.toNatClampNeg : Int) = y3_24.toInt := znat (by first | omega | decide)
        refine zp_seg (pc' := 28) (lv' := [(0, .ref m), (1, .ref t), (2, .int y2_24), (3, .int y3_24)]) (st' := [.int 325, .int y3_24]) [(24, .iload_n 3), (25, .sipush 325)] (by decide +kernel) rfl ?_
        refine zp_if (i := .if_icmp .ge 41) (c := 325 ≤ y3_24) (t := 69) (e := 31) (lv' := [(0, .ref m), (1, .ref t), (2, .int y2_24), (3, .int y3_24)]) (st' := []) (by decide +kernel) rfl (fun cc28 => ?_) (fun cc28 => ?_)
        ·
          have f11 := zleI cc28
          rw [show (325 : Int32).toInt = 325 from by decide] at f11
          refine zp_seg (pc' := 71) (lv' := [(0, .ref m), (1, .ref t), (2, .int y2_24), (3, .int y3_24)]) (st' := [.ref t, .ref m]) [(69, .aload_n 0), (70, .aload_n 1)] (by decide +kernel) rfl ?_
          refine zr_get (idx := 207) (k := 1) (v := .ref (t + 1)) (by decide +kernel) (by decide +kernel) hT_t rfl ?_
          refine zp_seg (pc' := 75) (lv' := [(0, .ref m), (1, .ref t), (2, .int y2_24), (3, .int y3_24)]) (st' := [.int 1, .ref (t + 1), .ref m]) [(74, .iconst 1)] (by decide +kernel) rfl ?_
          have hl12 : (1 : Int32).toInt = 1 := by decide
          refine zr_iald (by decide +kernel) hA_t_1 (zin (by decide) (by decide)) ?_
          have hz13 : ((1 : Int32).toNatClampNeg : Int) = 1 := by decide
          obtain ⟨x75, ex75⟩ : ∃ x9, x9 = fn ((1 : Int32).toNatClampNeg) := ⟨_, rfl⟩
          rw [← ex75]
          have kx75 := zrng x75
          refine zr_callS (idx := 390) (j := 261) (by decide +kernel) (by decide +kernel) (by decide) (show zMe 261 = some zq_X16_small from rfl) rfl rfl (Nat.le_of_ble_eq_true rfl) rfl rfl (Nat.le_of_ble_eq_true rfl) (Nat.le_of_ble_eq_true rfl) (c_X16_small (w := w) x75 (by rw [ex75]; exact hcr _ (by decide))) (by omega) (fun v76 w76 hp76 => ?_)
          obtain ⟨hpw76, r76, rfl, hr76⟩ := hp76
          replace hpw76 := hpw76.symm
          subst hpw76
          have kr76 := zrng r76
          show zP _ _ _ _ [.int r76, .ref m] _ _ _ _ _
          refine zr_put2 (idx := 393) (k := 17) (fs2 := zMo m (zs g 17 r76) r) (by decide +kernel) (by decide +kernel) hm (Nat.le_of_ble_eq_true rfl) rfl rfl rfl ?_
          show zP (d + 1) zq_X16_isLine 82 [(0, .ref m), (1, .ref t), (2, .int y2_24), (3, .int y3_24)] [] (zup w m (.inl (15, zMo m (zs g 17 r76) r))) sz 0 0 Post
          obtain ⟨w79, ew79⟩ : ∃ wz9, wz9 = zup w m (.inl (15, zMo m (zs g 17 r76) r)) := ⟨_, rfl⟩
          have hsi79 : zSI w w79 := by rw [ew79]; exact zSI.setG hm _ _
          have heq79 : ∀ x, x ≠ m → w79 x = w x := fun x hx => by rw [ew79]; exact zup_n hx
          have hc79 : w79 m = some (.inl (15, zMo m (zs g 17 r76) r)) := by rw [ew79]; exact zup_s
          rw [← ew79]
          clear ew79
          refine zp_seg (pc' := 84) (lv' := [(0, .ref m), (1, .ref t), (2, .int y2_24), (3, .int y3_24)]) (st' := [.ref t, .ref m]) [(82, .aload_n 0), (83, .aload_n 1)] (by decide +kernel) rfl ?_
          have hb14 : w79 t = some (.inl (13, zTo t gt)) := (heq79 t (zx_X16_isLine_0 htm)).trans hT_t
          refine zr_get (idx := 207) (k := 1) (v := .ref (t + 1)) (by decide +kernel) (by decide +kernel) hb14 rfl ?_
          refine zp_seg (pc' := 89) (lv' := [(0, .ref m), (1, .ref t), (2, .int y2_24), (3, .int y3_24)]) (st' := [.int 25, .ref (t + 1), .ref m]) [(87, .bipush 25)] (by decide +kernel) rfl ?_
          have hb15 : w79 (t + 1) = some (.inr (0, 325, .inl fn)) := (heq79 (t + 1) (zx_X16_isLine_1 htm)).trans hA_t_1
          have hl17 : (25 : Int32).toInt = 25 := by decide
          refine zr_iald (by decide +kernel) hb15 (zin (by decide) (by decide)) ?_
          have hz18 : ((25 : Int32).toNatClampNeg : Int) = 25 := by decide
          obtain ⟨x89, ex89⟩ : ∃ x9, x9 = fn ((25 : Int32).toNatClampNeg) := ⟨_, rfl⟩
          rw [← ex89]
          have kx89 := zrng x89
          refine zr_callS (idx := 390) (j := 261) (by decide +kernel) (by decide +kernel) (by decide) (show zMe 261 = some zq_X16_small from rfl) rfl rfl (Nat.le_of_ble_eq_true rfl) rfl rfl (Nat.le_of_ble_eq_true rfl) (Nat.le_of_ble_eq_true rfl) (c_X16_small (w := w79) x89 (by rw [ex89]; exact hcr _ (by decide))) (by omega) (fun v90 w90 hp90 => ?_)
          obtain ⟨hpw90, r90, rfl, hr90⟩ := hp90
          replace hpw90 := hpw90.symm
          subst hpw90
          have kr90 := zrng r90
          show zP _ _ _ _ [.int r90, .ref m] _ _ _ _ _
          refine zr_put2 (idx := 396) (k := 18) (fs2 := zMo m (zs (zs g 17 r76) 18 r90) r) (by decide +kernel) (by decide +kernel) hc79 (Nat.le_of_ble_eq_true rfl) rfl rfl rfl ?_
          show zP (d + 1) zq_X16_isLine 96 [(0, .ref m), (1, .ref t), (2, .int y2_24), (3, .int y3_24)] [] (zup w79 m (.inl (15, zMo m (zs (zs g 17 r76) 18 r90) r))) sz 0 0 Post
          obtain ⟨w93, ew93⟩ : ∃ wz9, wz9 = zup w79 m (.inl (15, zMo m (zs (zs g 17 r76) 18 r90) r)) := ⟨_, rfl⟩
          have hsi93 : zSI w79 w93 := by rw [ew93]; exact zSI.setG hc79 _ _
          have heq93 : ∀ x, x ≠ m → w93 x = w79 x := fun x hx => by rw [ew93]; exact zup_n hx
          have hc93 : w93 m = some (.inl (15, zMo m (zs (zs g 17 r76) 18 r90) r)) := by rw [ew93]; exact zup_s
          rw [← ew93]
          clear ew93
          refine zp_seg (pc' := 98) (lv' := [(0, .ref m), (1, .ref t), (2, .int y2_24), (3, .int y3_24)]) (st' := [.ref t, .ref m]) [(96, .aload_n 0), (97, .aload_n 1)] (by decide +kernel) rfl ?_
          have hb19 : w93 t = some (.inl (13, zTo t gt)) := (heq93 t (zx_X16_isLine_0 htm)).trans hb14
          refine zr_get (idx := 207) (k := 1) (v := .ref (t + 1)) (by decide +kernel) (by decide +kernel) hb19 rfl ?_
          refine zp_seg (pc' := 102) (lv' := [(0, .ref m), (1, .ref t), (2, .int y2_24), (3, .int y3_24)]) (st' := [.int 0, .ref (t + 1), .ref m]) [(101, .iconst 0)] (by decide +kernel) rfl ?_
          have hb20 : w93 (t + 1) = some (.inr (0, 325, .inl fn)) := (heq93 (t + 1) (zx_X16_isLine_1 htm)).trans hb15
          have hl21 : (0 : Int32).toInt = 0 := by decide
          refine zr_iald (by decide +kernel) hb20 (zin (by decide) (by decide)) ?_
          have hz22 : ((0 : Int32).toNatClampNeg : Int) = 0 := by decide
          obtain ⟨x102, ex102⟩ : ∃ x9, x9 = fn ((0 : Int32).toNatClampNeg) := ⟨_, rfl⟩
          rw [← ex102]
          have kx102 := zrng x102
          refine zr_callS (idx := 390) (j := 261) (by decide +kernel) (by decide +kernel) (by decide) (show zMe 261 = some zq_X16_small from rfl) rfl rfl (Nat.le_of_ble_eq_true rfl) rfl rfl (Nat.le_of_ble_eq_true rfl) (Nat.le_of_ble_eq_true rfl) (c_X16_small (w := w93) x102 (by rw [ex102]; exact hcr _ (by decide))) (by omega) (fun v103 w103 hp103 => ?_)
          obtain ⟨hpw103, r103, rfl, hr103⟩ := hp103
          replace hpw103 := hpw103.symm
          subst hpw103
          have kr103 := zrng r103
          show zP _ _ _ _ [.int r103, .ref m] _ _ _ _ _
          refine zr_put2 (idx := 399) (k := 19) (fs2 := zMo m (zs (zs (zs g 17 r76) 18 r90) 19 r103) r) (by decide +kernel) (by decide +kernel) hc93 (Nat.le_of_ble_eq_true rfl) rfl rfl rfl ?_
          show zP (d + 1) zq_X16_isLine 109 [(0, .ref m), (1, .ref t), (2, .int y2_24), (3, .int y3_24)] [] (zup w93 m (.inl (15, zMo m (zs (zs (zs g 17 r76) 18 r90) 19 r103) r))) sz 0 0 Post
          obtain ⟨w106, ew106⟩ : ∃ wz9, wz9 = zup w93 m (.inl (15, zMo m (zs (zs (zs g 17 r76) 18 r90) 19 r103) r)) := ⟨_, rfl⟩
          have hsi106 : zSI w93 w106 := by rw [ew106]; exact zSI.setG hc93 _ _
          have heq106 : ∀ x, x ≠ m → w106 x = w93 x := fun x hx => by rw [ew106]; exact zup_n hx
          have hc106 : w106 m = some (.inl (15, zMo m (zs (zs (zs g 17 r76) 18 r90) 19 r103) r)) := by rw [ew106]; exact zup_s
          rw [← ew106]
          clear ew106
          refine zp_seg (pc' := 110) (lv' := [(0, .ref m), (1, .ref t), (2, .int y2_24), (3, .int y3_24)]) (st' := [.int y2_24]) [(109, .iload_n 2)] (by decide +kernel) rfl ?_
          refine zp_if (i := .ifCond .eq 25) (c := y2_24 = 0) (t := 135) (e := 113) (lv' := [(0, .ref m), (1, .ref t), (2, .int y2_24), (3, .int y3_24)]) (st' := []) (by decide +kernel) rfl (fun cc110 => ?_) (fun cc110 => ?_)
          ·
            have f23 := zeqI cc110
            rw [show (0 : Int32).toInt = 0 from by decide] at f23
            refine zp_seg (pc' := 136) (lv' := [(0, .ref m), (1, .ref t), (2, .int y2_24), (3, .int y3_24)]) (st' := [.int 0]) [(135, .iconst 0)] (by decide +kernel) rfl ?_
            have hoffend : ∀ x, (x < m ∨ m + 1 ≤ x) → w106 x = w x := fun x hx => ((heq106 x (zx_X16_isLine_2 hx)).trans ((heq93 x (zx_X16_isLine_2 hx)).trans (heq79 x (zx_X16_isLine_2 hx))))
            refine zr_retB (by decide +kernel) rfl (by decide) ?_
            rw [← hPost]; exact ⟨rfl, _, rfl, r76, r90, r103, ((hsi79.tr hsi93).tr hsi106), hoffend, hc106, _, rfl, (by decide), (by
                  first | exact fun e => absurd e (by decide) | exact fun _ => ⟨cc5, hr125 (hrb125.resolve_left cc128)⟩)⟩
          ·
            have f24 := zneI cc110
            rw [show (0 : Int32).toInt = 0 from by decide] at f24
            refine zp_seg (pc' := 114) (lv' := [(0, .ref m), (1, .ref t), (2, .int y2_24), (3, .int y3_24)]) (st' := [.ref m]) [(113, .aload_n 0)] (by decide +kernel) rfl ?_
            refine zr_get (idx := 393) (k := 17) (v := .int r76) (by decide +kernel) (by decide +kernel) hc106 rfl ?_
            refine zp_seg (pc' := 118) (lv' := [(0, .ref m), (1, .ref t), (2, .int y2_24), (3, .int y3_24)]) (st' := [.ref m, .int r76]) [(117, .aload_n 0)] (by decide +kernel) rfl ?_
            refine zr_get (idx := 396) (k := 18) (v := .int r90) (by decide +kernel) (by decide +kernel) hc106 rfl ?_
            refine zp_seg (pc' := 122) (lv' := [(0, .ref m), (1, .ref t), (2, .int y2_24), (3, .int y3_24)]) (st' := [.ref m, .int r90, .int r76]) [(121, .aload_n 0)] (by decide +kernel) rfl ?_
            refine zr_get (idx := 399) (k := 19) (v := .int r103) (by decide +kernel) (by decide +kernel) hc106 rfl ?_
            refine zr_callS (idx := 402) (j := 330) (by decide +kernel) (by decide +kernel) (by decide) (show zMe 330 = some zq_X16_isLine_ from rfl) rfl rfl (Nat.le_of_ble_eq_true rfl) rfl rfl (Nat.le_of_ble_eq_true rfl) (Nat.le_of_ble_eq_true rfl) (c_X16_isLine_ (w := w106) r76 r90 r103 ) (by omega) (fun v125 w125 hp125 => ?_)
            obtain ⟨hpw125, r125, rfl, hrb125, hr125⟩ := hp125
            replace hpw125 := hpw125.symm
            subst hpw125
            have kr125 := zrng r125
            show zP _ _ _ _ [.int r125] _ _ _ _ _
            refine zp_if (i := .ifCond .eq 7) (c := r125 = 0) (t := 135) (e := 131) (lv' := [(0, .ref m), (1, .ref t), (2, .int y2_24), (3, .int y3_24)]) (st' := []) (by decide +kernel) rfl (fun cc128 => ?_) (fun cc128 => ?_)
            ·
              have f25 := zeqI cc128
              rw [show (0 : Int32).toInt = 0 from by decide] at f25
              refine zp_seg (pc' := 136) (lv' := [(0, .ref m), (1, .ref t), (2, .int y2_24), (3, .int y3_24)]) (st' := [.int 0]) [(135, .iconst 0)] (by decide +kernel) rfl ?_
              have hoffend : ∀ x, (x < m ∨ m + 1 ≤ x) → w106 x = w x := fun x hx => ((heq106 x (zx_X16_isLine_2 hx)).trans ((heq93 x (zx_X16_isLine_2 hx)).trans (heq79 x (zx_X16_isLine_2 hx))))
              refine zr_retB (by decide +kernel) rfl (by decide) ?_
              rw [← hPost]; exact ⟨rfl, _, rfl, r76, r90, r103, ((hsi79.tr hsi93).tr hsi106), hoffend, hc106, _, rfl, (by decide), (by
                    first | exact fun e => absurd e (by decide) | exact fun _ => ⟨cc5, hr125 (hrb125.resolve_left cc128)⟩)⟩
            ·
              have f26 := zneI cc128
              rw [show (0 : Int32).toInt = 0 from by decide] at f26
              refine zp_seg (pc' := 136) (lv' := [(0, .ref m), (1, .ref t), (2, .int y2_24), (3, .int y3_24)]) (st' := [.int 1]) [(131, .iconst 1), (132, .goto 4)] (by decide +kernel) rfl ?_
              have hoffend : ∀ x, (x < m ∨ m + 1 ≤ x) → w106 x = w x := fun x hx => ((heq106 x (zx_X16_isLine_2 hx)).trans ((heq93 x (zx_X16_isLine_2 hx)).trans (heq79 x (zx_X16_isLine_2 hx))))
              refine zr_retB (by decide +kernel) rfl (by decide) ?_
              rw [← hPost]; exact ⟨rfl, _, rfl, r76, r90, r103, ((hsi79.tr hsi93).tr hsi106), hoffend, hc106, _, rfl, (by decide), (by
                    first | exact fun e => absurd e (by decide) | exact fun _ => ⟨cc5, hr125 (hrb125.resolve_left cc128)⟩)⟩
        ·
          have f28 := znleI cc28
          rw [show (325 : Int32).toInt = 325 from by decide] at f28
          refine zp_seg (pc' := 33) (lv' := [(0, .ref m), (1, .ref t), (2, .int y2_24), (3, .int y3_24)]) (st' := [.ref t, .int y2_24]) [(31, .iload_n 2), (32, .aload_n 1)] (by decide +kernel) rfl ?_
          refine zr_get (idx := 207) (k := 1) (v := .ref (t + 1)) (by decide +kernel) (by decide +kernel) hT_t rfl ?_
          refine zp_seg (pc' := 37) (lv' := [(0, .ref m), (1, .ref t), (2, .int y2_24), (3, .int y3_24)]) (st' := [.int y3_24, .ref (t + 1), .int y2_24]) [(36, .iload_n 3)] (by decide +kernel) rfl ?_
          refine zr_iald (by decide +kernel) hA_t_1 (zin (by first | omega | decide) (by first | omega | decide)) ?_
          obtain ⟨x37, ex37⟩ : ∃ x9, x9 = fn (y3_24.toNatClampNeg) := ⟨_, rfl⟩
          rw [← ex37]
          have kx37 := zrng x37
          refine zp_if (i := .ifCond .eq 18) (c := x37 = 0) (t := 56) (e := 41) (lv' := [(0, .ref m), (1, .ref t), (2, .int y2_24), (3, .int y3_24)]) (st' := [.int y2_24]) (by decide +kernel) rfl (fun cc38 => ?_) (fun cc38 => ?_)
          ·
            have f29 := zeqI cc38
            rw [show (0 : Int32).toInt = 0 from by decide] at f29
            refine zp_seg (pc' := 66) (lv' := [(3, .int (y3_24 + 1)), (2, .int (y2_24 &&& 1)), (0, .ref m), (1, .ref t)]) (st' := []) [(56, .iconst 1), (57, .goto 4), (61, .iand), (62, .istore_n 2), (63, .iinc 3 1)] (by decide +kernel) rfl ?_
            have k30 := zaddC y3_24 1 (n := 1) (by decide) (by omega) (by omega)
            generalize ev66 : (y3_24 + 1 : Int32) = v66 at k30 ⊢
            have kv66 := zrng v66
            generalize ev66_31 : (y2_24 &&& 1 : Int32) = v66_31
            have kv66_31 := zrng v66_31
            refine zp_seg (pc' := 24) (lv' := [(3, .int v66), (2, .int v66_31), (0, .ref m), (1, .ref t)]) (st' := []) [(66, .goto (-42))] (by decide +kernel) rfl ?_
            have hz32 : (v66.toNatClampNeg : Int) = v66.toInt := znat (by first | omega | decide)
            exact (ih24 v66_31 v66 (by first | assumption | omega | decide) (by first | assumption | omega | decide) (by omega)).more (zfa1 rfl (zfa1 rfl (zfa1 rfl (zfa1 rfl (zfa0)))))
          ·
            have f33 := zneI cc38
            rw [show (0 : Int32).toInt = 0 from by decide] at f33
            refine zp_seg (pc' := 42) (lv' := [(0, .ref m), (1, .ref t), (2, .int y2_24), (3, .int y3_24)]) (st' := [.int y3_24, .int y2_24]) [(41, .iload_n 3)] (by decide +kernel) rfl ?_
            refine zp_if (i := .ifCond .eq 14) (c := y3_24 = 0) (t := 56) (e := 45) (lv' := [(0, .ref m), (1, .ref t), (2, .int y2_24), (3, .int y3_24)]) (st' := [.int y2_24]) (by decide +kernel) rfl (fun cc42 => ?_) (fun cc42 => ?_)
            ·
              have f34 := zeqI cc42
              rw [show (0 : Int32).toInt = 0 from by decide] at f34
              refine zp_seg (pc' := 66) (lv' := [(3, .int (y3_24 + 1)), (2, .int (y2_24 &&& 1)), (0, .ref m), (1, .ref t)]) (st' := []) [(56, .iconst 1), (57, .goto 4), (61, .iand), (62, .istore_n 2), (63, .iinc 3 1)] (by decide +kernel) rfl ?_
              have k35 := zaddC y3_24 1 (n := 1) (by decide) (by omega) (by omega)
              generalize ev66 : (y3_24 + 1 : Int32) = v66 at k35 ⊢
              have kv66 := zrng v66
              generalize ev66_36 : (y2_24 &&& 1 : Int32) = v66_36
              have kv66_36 := zrng v66_36
              refine zp_seg (pc' := 24) (lv' := [(3, .int v66), (2, .int v66_36), (0, .ref m), (1, .ref t)]) (st' := []) [(66, .goto (-42))] (by decide +kernel) rfl ?_
              have hz37 : (v66.toNatClampNeg : Int) = v66.toInt := znat (by first | omega | decide)
              exact (ih24 v66_36 v66 (by first | assumption | omega | decide) (by first | assumption | omega | decide) (by omega)).more (zfa1 rfl (zfa1 rfl (zfa1 rfl (zfa1 rfl (zfa0)))))
            ·
              have f38 := zneI cc42
              rw [show (0 : Int32).toInt = 0 from by decide] at f38
              refine zp_seg (pc' := 47) (lv' := [(0, .ref m), (1, .ref t), (2, .int y2_24), (3, .int y3_24)]) (st' := [.int 1, .int y3_24, .int y2_24]) [(45, .iload_n 3), (46, .iconst 1)] (by decide +kernel) rfl ?_
              refine zp_if (i := .if_icmp .eq 9) (c := y3_24 = 1) (t := 56) (e := 50) (lv' := [(0, .ref m), (1, .ref t), (2, .int y2_24), (3, .int y3_24)]) (st' := [.int y2_24]) (by decide +kernel) rfl (fun cc47 => ?_) (fun cc47 => ?_)
              ·
                have f39 := zeqI cc47
                rw [show (1 : Int32).toInt = 1 from by decide] at f39
                refine zp_seg (pc' := 66) (lv' := [(3, .int (y3_24 + 1)), (2, .int (y2_24 &&& 1)), (0, .ref m), (1, .ref t)]) (st' := []) [(56, .iconst 1), (57, .goto 4), (61, .iand), (62, .istore_n 2), (63, .iinc 3 1)] (by decide +kernel) rfl ?_
                have k40 := zaddC y3_24 1 (n := 1) (by decide) (by omega) (by omega)
                generalize ev66 : (y3_24 + 1 : Int32) = v66 at k40 ⊢
                have kv66 := zrng v66
                generalize ev66_41 : (y2_24 &&& 1 : Int32) = v66_41
                have kv66_41 := zrng v66_41
                refine zp_seg (pc' := 24) (lv' := [(3, .int v66), (2, .int v66_41), (0, .ref m), (1, .ref t)]) (st' := []) [(66, .goto (-42))] (by decide +kernel) rfl ?_
                have hz42 : (v66.toNatClampNeg : Int) = v66.toInt := znat (by first | omega | decide)
                exact (ih24 v66_41 v66 (by first | assumption | omega | decide) (by first | assumption | omega | decide) (by omega)).more (zfa1 rfl (zfa1 rfl (zfa1 rfl (zfa1 rfl (zfa0)))))
              ·
                have f43 := zneI cc47
                rw [show (1 : Int32).toInt = 1 from by decide] at f43
                refine zp_seg (pc' := 53) (lv' := [(0, .ref m), (1, .ref t), (2, .int y2_24), (3, .int y3_24)]) (st' := [.int 25, .int y3_24, .int y2_24]) [(50, .iload_n 3), (51, .bipush 25)] (by decide +kernel) rfl ?_
                refine zp_if (i := .if_icmp .ne 7) (c := ¬ y3_24 = 25) (t := 60) (e := 56) (lv' := [(0, .ref m), (1, .ref t), (2, .int y2_24), (3, .int y3_24)]) (st' := [.int y2_24]) (by decide +kernel) rfl (fun cc53 => ?_) (fun cc53 => ?_)
                ·
                  have f45 := zneI cc53
                  rw [show (25 : Int32).toInt = 25 from by decide] at f45
                  refine zp_seg (pc' := 66) (lv' := [(3, .int (y3_24 + 1)), (2, .int (y2_24 &&& 0)), (0, .ref m), (1, .ref t)]) (st' := []) [(60, .iconst 0), (61, .iand), (62, .istore_n 2), (63, .iinc 3 1)] (by decide +kernel) rfl ?_
                  have k46 := zaddC y3_24 1 (n := 1) (by decide) (by omega) (by omega)
                  generalize ev66 : (y3_24 + 1 : Int32) = v66 at k46 ⊢
                  have kv66 := zrng v66
                  generalize ev66_47 : (y2_24 &&& 0 : Int32) = v66_47
                  have kv66_47 := zrng v66_47
                  refine zp_seg (pc' := 24) (lv' := [(3, .int v66), (2, .int v66_47), (0, .ref m), (1, .ref t)]) (st' := []) [(66, .goto (-42))] (by decide +kernel) rfl ?_
                  have hz48 : (v66.toNatClampNeg : Int) = v66.toInt := znat (by first | omega | decide)
                  exact (ih24 v66_47 v66 (by first | assumption | omega | decide) (by first | assumption | omega | decide) (by omega)).more (zfa1 rfl (zfa1 rfl (zfa1 rfl (zfa1 rfl (zfa0)))))
                ·
                  replace cc53 := Classical.not_not.mp cc53
                  have f50 := zeqI cc53
                  rw [show (25 : Int32).toInt = 25 from by decide] at f50
                  refine zp_seg (pc' := 66) (lv' := [(3, .int (y3_24 + 1)), (2, .int (y2_24 &&& 1)), (0, .ref m), (1, .ref t)]) (st' := []) [(56, .iconst 1), (57, .goto 4), (61, .iand), (62, .istore_n 2), (63, .iinc 3 1)] (by decide +kernel) rfl ?_
                  have k51 := zaddC y3_24 1 (n := 1) (by decide) (by omega) (by omega)
                  generalize ev66 : (y3_24 + 1 : Int32) = v66 at k51 ⊢
                  have kv66 := zrng v66
                  generalize ev66_52 : (y2_24 &&& 1 : Int32) = v66_52
                  have kv66_52 := zrng v66_52
                  refine zp_seg (pc' := 24) (lv' := [(3, .int v66), (2, .int v66_52), (0, .ref m), (1, .ref t)]) (st' := []) [(66, .goto (-42))] (by decide +kernel) rfl ?_
                  have hz53 : (v66.toNatClampNeg : Int) = v66.toInt := znat (by first | omega | decide)
                  exact (ih24 v66_52 v66 (by first | assumption | omega | decide) (by first | assumption | omega | decide) (by omega)).more (zfa1 rfl (zfa1 rfl (zfa1 rfl (zfa1 rfl (zfa0)))))
      have hl54 : (1 : Int32).toInt = 1 := by decide
      have hl55 : (0 : Int32).toInt = 0 := by decide
      have hz56 : ((0 : Int32).toNatClampNeg : Int) = 0 := by decide
      exact (hL24 _ 1 0 (by first | assumption | omega | decide) (by first | assumption | omega | decide) (Nat.lt_succ_self _)).more (zfa1 rfl (zfa1 rfl (zfa1 rfl (zfa1 rfl (zfa0)))))
    ·
      replace cc15 := Classical.not_not.mp cc15
      have f58 := zeqI cc15
      rw [show (0 : Int32).toInt = 0 from by decide] at f58
      refine zp_seg (pc' := 19) (lv' := [(0, .ref m), (1, .ref t)]) (st' := [.int 0]) [(18, .iconst 0)] (by decide +kernel) rfl ?_
      have hoffend : ∀ x, (x < m ∨ m + 1 ≤ x) → w x = w x := fun x hx => rfl
      refine zr_retB (by decide +kernel) rfl (by decide) ?_
      rw [← hPost]; exact ⟨rfl, _, rfl, (g 17), (g 18), (g 19), zSI.rf, hoffend, hm, _, rfl, (by decide), (by
            first | exact fun e => absurd e (by decide) | exact fun _ => ⟨cc5, hr125 (hrb125.resolve_left cc128)⟩)⟩

theorem zx_X16_newThing_0 {m x : Nat} (h0 : x < m ∨ m + 1 ≤ x) : x ≠ m := by omega
set_option maxHeartbeats 8000000 in
set_option maxRecDepth 100000 in
theorem c_X16_newThing {w : zM} {g : Nat → Int32} {r : Nat → Value}  {g16 : Int32} (m : Nat) (hm : w m = some (.inl (15, zMo m g r))) (hR_m : zR m w) (hpl : 0 ≤ g16.toInt ∧ g16.toInt < 130) (hg16 : g 16 = g16) : zCon 1 zq_X16_newThing [.ref m] w (fun v9 w9' => zSI w w9' ∧ (∀ x, (x < m ∨ m + 1 ≤ x) → w9' x = w x) ∧ w9' m = some (.inl (15, zMo m (zs g 16 (g16 + 1)) r)) ∧ v9 = some (.ref (m + 6316 + 9 * g16.toNatClampNeg))) := by
  subst hg16
  intro d sz hd
  obtain ⟨d, rfl⟩ : ∃ d9, d = d9 + 1 := ⟨d - 1, by omega⟩
  generalize hPost : (fun (r9' : Option (Option Value)) (w9' : zM) (z9 : Nat) => z9 = sz ∧ ∃ v9, r9' = some v9 ∧ (zSI w w9' ∧ (∀ x, (x < m ∨ m + 1 ≤ x) → w9' x = w x) ∧ w9' m = some (.inl (15, zMo m (zs g 16 ((g 16) + 1)) r)) ∧ v9 = some (.ref (m + 6316 + 9 * (g 16).toNatClampNeg)))) = Post
  show zP (d + 1) zq_X16_newThing 0 [(0, .ref m)] [] w sz 0 0 Post
  have k1 := zrng (g 16)
  have hz2 : ((g 16).toNatClampNeg : Int) = (g 16).toInt := znat (by first | omega | decide)
  refine zp_seg (pc' := 1) (lv' := [(0, .ref m)]) (st' := [.ref m]) [(0, .aload_n 0)] (by decide +kernel) rfl ?_
  refine zr_get (idx := 371) (k := 15) (v := .ref (m + 81)) (by decide +kernel) (by decide +kernel) hm rfl ?_
  refine zp_seg (pc' := 6) (lv' := [(0, .ref m)]) (st' := [.ref m, .ref m, .ref (m + 81)]) [(4, .aload_n 0), (5, .dup)] (by decide +kernel) rfl ?_
  refine zr_get (idx := 375) (k := 16) (v := .int (g 16)) (by decide +kernel) (by decide +kernel) hm rfl ?_
  refine zp_seg (pc' := 12) (lv' := [(0, .ref m)]) (st' := [.int ((g 16) + 1), .ref m, .int (g 16), .ref (m + 81)]) [(9, .dup_x1), (10, .iconst 1), (11, .iadd)] (by decide +kernel) rfl ?_
  have k3 := zaddC ((g 16)) 1 (n := 1) (by decide) (by omega) (by omega)
  generalize ev12 : ((g 16) + 1 : Int32) = v12 at k3 ⊢
  have kv12 := zrng v12
  refine zr_put2 (idx := 375) (k := 16) (fs2 := zMo m (zs g 16 v12) r) (by decide +kernel) (by decide +kernel) hm (Nat.le_of_ble_eq_true rfl) rfl rfl rfl ?_
  show zP (d + 1) zq_X16_newThing 15 [(0, .ref m)] [.int (g 16), .ref (m + 81)] (zup w m (.inl (15, zMo m (zs g 16 v12) r))) sz 0 0 Post
  obtain ⟨w12, ew12⟩ : ∃ wz9, wz9 = zup w m (.inl (15, zMo m (zs g 16 v12) r)) := ⟨_, rfl⟩
  have hsi12 : zSI w w12 := by rw [ew12]; exact zSI.setG hm _ _
  have heq12 : ∀ x, x ≠ m → w12 x = w x := fun x hx => by rw [ew12]; exact zup_n hx
  have hc12 : w12 m = some (.inl (15, zMo m (zs g 16 v12) r)) := by rw [ew12]; exact zup_s
  rw [← ew12]
  clear ew12
  have hb4 := hR_m.si hsi12
  have hb6 := hb4.pile
  refine zr_aald (v := .ref (m + 6316 + 9 * (g 16).toNatClampNeg)) (by decide +kernel) hb6 (by decide) (zin (by first | omega | decide) (by first | omega | decide)) (zpl_at (by omega)) ?_
  have hoffend : ∀ x, (x < m ∨ m + 1 ≤ x) → w12 x = w x := fun x hx => (heq12 x (zx_X16_newThing_0 hx))
  refine zr_retA (by decide +kernel) rfl ?_
  rw [← hPost]; exact ⟨rfl, _, rfl, hsi12, hoffend, (by
        rw [ev12]; exact hc12), rfl⟩
