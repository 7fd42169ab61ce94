theorem zx_X16_lineFactor_0 {m : Nat}  : (m + 99) ≠ m := by omega
theorem zx_X16_lineFactor_1 {m : Nat}  : m ≠ m + 99 := by omega
theorem zx_X16_lineFactor_2 {m : Nat}  : (m + 96) ≠ m := by omega
theorem zx_X16_lineFactor_3 {m : Nat}  : (m + 96) ≠ m + 99 := by omega
theorem zx_X16_lineFactor_4 {m : Nat}  : (m + 97) ≠ m := by omega
theorem zx_X16_lineFactor_5 {m : Nat}  : (m + 97) ≠ m + 99 := by omega
theorem zx_X16_lineFactor_6 {m : Nat}  : (m + 98) ≠ m := by omega
theorem zx_X16_lineFactor_7 {m : Nat}  : (m + 98) ≠ m + 99 := by omega
theorem zx_X16_lineFactor_8 {m x : Nat} (h0 : x < m ∨ m + 1 ≤ x) : x ≠ m := by omega
theorem zx_X16_lineFactor_9 {m x : Nat} (h0 : x < m + 96 ∨ m + 96 + 4 ≤ x) : x ≠ m + 99 := by omega
theorem zx_X16_lineFactor_10 {m : Nat}  : m ≠ m + 96 := by omega
theorem zx_X16_lineFactor_11 {m : Nat}  : (m + 97) ≠ m + 96 := by omega
theorem zx_X16_lineFactor_12 {m : Nat}  : m ≠ m + 97 := by omega
theorem zx_X16_lineFactor_13 {m : Nat}  : (m + 98) ≠ m + 96 := by omega
theorem zx_X16_lineFactor_14 {m : Nat}  : (m + 98) ≠ m + 97 := by omega
theorem zx_X16_lineFactor_15 {m : Nat}  : m ≠ m + 98 := by omega
theorem zx_X16_lineFactor_16 {m : Nat}  : (m + 99) ≠ m + 96 := by omega
theorem zx_X16_lineFactor_17 {m : Nat}  : (m + 99) ≠ m + 97 := by omega
theorem zx_X16_lineFactor_18 {m : Nat}  : (m + 99) ≠ m + 98 := by omega
theorem zx_X16_lineFactor_19 {m : Nat}  : (m + 96) ≠ m + 97 := by omega
theorem zx_X16_lineFactor_20 {m : Nat}  : (m + 96) ≠ m + 98 := by omega
theorem zx_X16_lineFactor_21 {m : Nat}  : (m + 97) ≠ m + 98 := by omega
theorem zx_X16_lineFactor_22 {m x : Nat} (h0 : x < m + 96 ∨ m + 96 + 4 ≤ x) : x ≠ m + 96 := by omega
theorem zx_X16_lineFactor_23 {m x : Nat} (h0 : x < m + 96 ∨ m + 96 + 4 ≤ x) : x ≠ m + 97 := by omega
theorem zx_X16_lineFactor_24 {m x : Nat} (h0 : x < m + 96 ∨ m + 96 + 4 ≤ x) : x ≠ m + 98 := by omega
set_option maxHeartbeats 8000000 in
set_option maxRecDepth 100000 in
theorem c_X16_lineFactor {w : zM} {g : Nat → Int32} {r : Nat → Value} {qa qb qc qe : Nat → Int32} {g36 : Int32} {g37 : Int32} (m : Nat) (a : Int32) (b : Int32) (c : Int32) (e : Int32) (hm : w m = some (.inl (15, zMo m g r))) (hR_m : zR m w) (hA_m_96 : w (m + 96) = some (.inr (0, 120, .inl qa))) (hA_m_97 : w (m + 97) = some (.inr (0, 120, .inl qb))) (hA_m_98 : w (m + 98) = some (.inr (0, 120, .inl qc))) (hA_m_99 : w (m + 99) = some (.inr (0, 120, .inl qe))) (h_a : zr1 a) (h_b : zr1 b) (h_c : zr1 c) (hln : 0 ≤ g36.toInt ∧ g36.toInt < 120) (hlm : zr1 g37) (hl0 : g37 ≠ 0) (hab9 : a ≠ 0 ∨ b ≠ 0) (hqs : zQs qa qb qc g36.toNatClampNeg) (hg36 : g 36 = g36) (hg37 : g 37 = g37) : zCon 4 zq_X16_lineFactor [.ref m, .int a, .int b, .int c, .int e] w (fun v9 w9' => ∃ L9 : Int32, ∃ N9 : Int32, ∃ Fa : Nat → Int32, ∃ Fb : Nat → Int32, ∃ Fc : Nat → Int32, ∃ Fe : Nat → Int32, zSI w w9' ∧ (∀ x, (x < m ∨ m + 1 ≤ x) ∧ (x < m + 96 ∨ m + 96 + 4 ≤ x) → w9' x = w x) ∧ w9' m = some (.inl (15, zMo m (zs (zs g 36 L9) 37 N9) r)) ∧ w9' (m + 96) = some (.inr (0, 120, .inl Fa)) ∧ w9' (m + 97) = some (.inr (0, 120, .inl Fb)) ∧ w9' (m + 98) = some (.inr (0, 120, .inl Fc)) ∧ w9' (m + 99) = some (.inr (0, 120, .inl Fe)) ∧ ((g36.toInt ≤ L9.toInt ∧ L9.toInt ≤ g36.toInt + 1) ∧ (zr1 N9 ∧ N9 ≠ 0) ∧ zQs Fa Fb Fc L9.toNatClampNeg) ∧ v9 = none) := by
  subst hg36
  subst hg37
  intro d sz hd
  obtain ⟨d, rfl⟩ : ∃ d9, d = d9 + 1 := ⟨d - 1, by omega⟩
  generalize hPost : (fun (r9' : Option (Option Value)) (w9' : zM) (z9 : Nat) => z9 = sz ∧ ∃ v9, r9' = some v9 ∧ (∃ L9 : Int32, ∃ N9 : Int32, ∃ Fa : Nat → Int32, ∃ Fb : Nat → Int32, ∃ Fc : Nat → Int32, ∃ Fe : Nat → Int32, zSI w w9' ∧ (∀ x, (x < m ∨ m + 1 ≤ x) ∧ (x < m + 96 ∨ m + 96 + 4 ≤ x) → w9' x = w x) ∧ w9' m = some (.inl (15, zMo m (zs (zs g 36 L9) 37 N9) r)) ∧ w9' (m + 96) = some (.inr (0, 120, .inl Fa)) ∧ w9' (m + 97) = some (.inr (0, 120, .inl Fb)) ∧ w9' (m + 98) = some (.inr (0, 120, .inl Fc)) ∧ w9' (m + 99) = some (.inr (0, 120, .inl Fe)) ∧ (((g 36).toInt ≤ L9.toInt ∧ L9.toInt ≤ (g 36).toInt + 1) ∧ (zr1 N9 ∧ N9 ≠ 0) ∧ zQs Fa Fb Fc L9.toNatClampNeg) ∧ v9 = none)) = Post
  show zP (d + 1) zq_X16_lineFactor 0 [(0, .ref m), (1, .int a), (2, .int b), (3, .int c), (4, .int e)] [] w sz 0 0 Post
  have k1 := zrng a
  have k2 := zrng b
  have k3 := zrng c
  have k4 := zrng e
  have k5 := zrng (g 36)
  have hz6 : ((g 36).toNatClampNeg : Int) = (g 36).toInt := znat (by first | omega | decide)
  refine zp_seg (pc' := 1) (lv' := [(0, .ref m), (1, .int a), (2, .int b), (3, .int c), (4, .int e)]) (st' := [.int b]) [(0, .iload_n 2)] (by decide +kernel) rfl ?_
  refine zp_if (i := .ifCond .eq 7) (c := b = 0) (t := 8) (e := 4) (lv' := [(0, .ref m), (1, .int a), (2, .int b), (3, .int c), (4, .int e)]) (st' := []) (by decide +kernel) rfl (fun cc1 => ?_) (fun cc1 => ?_)
  ·
    have f8 := zeqI cc1
    rw [show (0 : Int32).toInt = 0 from by decide] at f8
    refine zp_seg (pc' := 13) (lv' := [(5, .int a), (0, .ref m), (1, .int a), (2, .int b), (3, .int c), (4, .int e)]) (st' := [.int a]) [(8, .iload_n 1), (9, .istore 5), (11, .iload 5)] (by decide +kernel) rfl ?_
    refine zp_if (i := .ifCond .ne 21) (c := ¬ a = 0) (t := 34) (e := 16) (lv' := [(5, .int a), (0, .ref m), (1, .int a), (2, .int b), (3, .int c), (4, .int e)]) (st' := []) (by decide +kernel) rfl (fun cc13 => ?_) (fun cc13 => ?_)
    ·
      have f9 := zneI cc13
      rw [show (0 : Int32).toInt = 0 from by decide] at f9
      refine zp_seg (pc' := 36) (lv' := [(5, .int a), (0, .ref m), (1, .int a), (2, .int b), (3, .int c), (4, .int e)]) (st' := [.int a]) [(34, .iload 5)] (by decide +kernel) rfl ?_
      refine zr_callS (idx := 13) (j := 259) (by decide +kernel) (by decide +kernel) (by decide) (show zMe 259 = some zq_X16_inv from rfl) rfl rfl (Nat.le_of_ble_eq_true rfl) rfl rfl (Nat.le_of_ble_eq_true rfl) (Nat.le_of_ble_eq_true rfl) (c_X16_inv (w := w) a (by first | omega | decide | assumption | exact zr1_1 | exact zr1_0 | fail "num")) (by omega) (fun v36 w36 hp36 => ?_)
      obtain ⟨hpw36, r36, rfl, hr36⟩ := hp36
      replace hpw36 := hpw36.symm
      subst hpw36
      have kr36 := zrng r36
      show zP _ _ _ _ [.int r36] _ _ _ _ _
      refine zp_seg (pc' := 43) (lv' := [(6, .int r36), (5, .int a), (0, .ref m), (1, .int a), (2, .int b), (3, .int c), (4, .int e)]) (st' := [.ref m, .ref m]) [(39, .istore 6), (41, .aload_n 0), (42, .aload_n 0)] (by decide +kernel) rfl ?_
      refine zr_get (idx := 613) (k := 37) (v := .int (g 37)) (by decide +kernel) (by decide +kernel) hm rfl ?_
      refine zp_seg (pc' := 50) (lv' := [(6, .int r36), (5, .int a), (0, .ref m), (1, .int a), (2, .int b), (3, .int c), (4, .int e)]) (st' := [.int e, .int a, .int (g 37), .ref m]) [(46, .iload 5), (48, .iload 4)] (by decide +kernel) rfl ?_
      refine zr_callS (idx := 317) (j := 262) (by decide +kernel) (by decide +kernel) (by decide) (show zMe 262 = some zq_X16_power from rfl) rfl rfl (Nat.le_of_ble_eq_true rfl) rfl rfl (Nat.le_of_ble_eq_true rfl) (Nat.le_of_ble_eq_true rfl) (c_X16_power (w := w) a e (by first | omega | decide | assumption | exact zr1_1 | exact zr1_0 | fail "num")) (by omega) (fun v50 w50 hp50 => ?_)
      obtain ⟨hpw50, r50, rfl, hr50⟩ := hp50
      replace hpw50 := hpw50.symm
      subst hpw50
      have kr50 := zrng r50
      show zP _ _ _ _ [.int r50, .int (g 37), .ref m] _ _ _ _ _
      have k10 := zrng (g 37)
      refine zr_callS (idx := 56) (j := 257) (by decide +kernel) (by decide +kernel) (by decide) (show zMe 257 = some zq_X16_mul from rfl) rfl rfl (Nat.le_of_ble_eq_true rfl) rfl rfl (Nat.le_of_ble_eq_true rfl) (Nat.le_of_ble_eq_true rfl) (c_X16_mul (w := w) (g 37) r50 (by exact hlm) (by first | exact hr50.1 | omega | decide | assumption | exact zr1_1 | exact zr1_0 | fail "num")) (by omega) (fun v53 w53 hp53 => ?_)
      obtain ⟨hpw53, r53, rfl, hr53⟩ := hp53
      replace hpw53 := hpw53.symm
      subst hpw53
      have kr53 := zrng r53
      show zP _ _ _ _ [.int r53, .ref m] _ _ _ _ _
      have hN9 : r53 ≠ 0 := by
        first
        | exact zmul_nz hlm hr50.1 hr53.2 hl0 (zpow_nz h_a cc13 hr50.2)
        | exact zmul_nz hlm hr50.1 hr53.2 hl0 (zpow_nz h_b cc13 hr50.2)
      refine zr_put2 (idx := 613) (k := 37) (fs2 := zMo m (zs g 37 r53) r) (by decide +kernel) (by decide +kernel) hm (Nat.le_of_ble_eq_true rfl) rfl rfl rfl ?_
      show zP (d + 1) zq_X16_lineFactor 59 [(6, .int r36), (5, .int a), (0, .ref m), (1, .int a), (2, .int b), (3, .int c), (4, .int e)] [] (zup w m (.inl (15, zMo m (zs g 37 r53) r))) sz 0 0 Post
      obtain ⟨w56, ew56⟩ : ∃ wz9, wz9 = zup w m (.inl (15, zMo m (zs g 37 r53) r)) := ⟨_, rfl⟩
      have hsi56 : zSI w w56 := by rw [ew56]; exact zSI.setG hm _ _
      have heq56 : ∀ x, x ≠ m → w56 x = w x := fun x hx => by rw [ew56]; exact zup_n hx
      have hc56 : w56 m = some (.inl (15, zMo m (zs g 37 r53) r)) := by rw [ew56]; exact zup_s
      rw [← ew56]
      clear ew56
      refine zp_seg (pc' := 62) (lv' := [(6, .int r36), (5, .int a), (0, .ref m), (1, .int a), (2, .int b), (3, .int c), (4, .int e)]) (st' := [.int r36, .int a]) [(59, .iload_n 1), (60, .iload 6)] (by decide +kernel) rfl ?_
      refine zr_callS (idx := 56) (j := 257) (by decide +kernel) (by decide +kernel) (by decide) (show zMe 257 = some zq_X16_mul from rfl) rfl rfl (Nat.le_of_ble_eq_true rfl) rfl rfl (Nat.le_of_ble_eq_true rfl) (Nat.le_of_ble_eq_true rfl) (c_X16_mul (w := w56) a r36 (by first | omega | decide | assumption | exact zr1_1 | exact zr1_0 | fail "num") (by first | exact hr36.1 | omega | decide | assumption | exact zr1_1 | exact zr1_0 | fail "num")) (by omega) (fun v62 w62 hp62 => ?_)
      obtain ⟨hpw62, r62, rfl, hr62⟩ := hp62
      replace hpw62 := hpw62.symm
      subst hpw62
      have kr62 := zrng r62
      show zP _ _ _ _ [.int r62] _ _ _ _ _
      refine zp_seg (pc' := 70) (lv' := [(7, .int r62), (6, .int r36), (5, .int a), (0, .ref m), (1, .int a), (2, .int b), (3, .int c), (4, .int e)]) (st' := [.int r36, .int b]) [(65, .istore 7), (67, .iload_n 2), (68, .iload 6)] (by decide +kernel) rfl ?_
      refine zr_callS (idx := 56) (j := 257) (by decide +kernel) (by decide +kernel) (by decide) (show zMe 257 = some zq_X16_mul from rfl) rfl rfl (Nat.le_of_ble_eq_true rfl) rfl rfl (Nat.le_of_ble_eq_true rfl) (Nat.le_of_ble_eq_true rfl) (c_X16_mul (w := w56) b r36 (by first | omega | decide | assumption | exact zr1_1 | exact zr1_0 | fail "num") (by first | exact hr36.1 | omega | decide | assumption | exact zr1_1 | exact zr1_0 | fail "num")) (by omega) (fun v70 w70 hp70 => ?_)
      obtain ⟨hpw70, r70, rfl, hr70⟩ := hp70
      replace hpw70 := hpw70.symm
      subst hpw70
      have kr70 := zrng r70
      show zP _ _ _ _ [.int r70] _ _ _ _ _
      refine zp_seg (pc' := 78) (lv' := [(8, .int r70), (7, .int r62), (6, .int r36), (5, .int a), (0, .ref m), (1, .int a), (2, .int b), (3, .int c), (4, .int e)]) (st' := [.int r36, .int c]) [(73, .istore 8), (75, .iload_n 3), (76, .iload 6)] (by decide +kernel) rfl ?_
      refine zr_callS (idx := 56) (j := 257) (by decide +kernel) (by decide +kernel) (by decide) (show zMe 257 = some zq_X16_mul from rfl) rfl rfl (Nat.le_of_ble_eq_true rfl) rfl rfl (Nat.le_of_ble_eq_true rfl) (Nat.le_of_ble_eq_true rfl) (c_X16_mul (w := w56) c r36 (by first | omega | decide | assumption | exact zr1_1 | exact zr1_0 | fail "num") (by first | exact hr36.1 | omega | decide | assumption | exact zr1_1 | exact zr1_0 | fail "num")) (by omega) (fun v78 w78 hp78 => ?_)
      obtain ⟨hpw78, r78, rfl, hr78⟩ := hp78
      replace hpw78 := hpw78.symm
      subst hpw78
      have kr78 := zrng r78
      show zP _ _ _ _ [.int r78] _ _ _ _ _
      refine zp_seg (pc' := 86) (lv' := [(10, .int 0), (9, .int r78), (8, .int r70), (7, .int r62), (6, .int r36), (5, .int a), (0, .ref m), (1, .int a), (2, .int b), (3, .int c), (4, .int e)]) (st' := []) [(81, .istore 9), (83, .iconst 0), (84, .istore 10)] (by decide +kernel) rfl ?_
      have hL86 : ∀ (mm86 : Nat) (y10_86 : Int32), (0 ≤ y10_86.toInt) → (y10_86.toInt ≤ (g 36).toInt) → (200 - y10_86.toInt).toNat < mm86 → zP (d + 1) zq_X16_lineFactor 86 [(0, .ref m), (4, .int e), (7, .int r62), (8, .int r70), (9, .int r78), (10, .int y10_86)] [] w56 sz 0 0 Post := by
        intro mm86
        induction mm86 with
        | zero => intros; omega
        | succ mm86 ih86 =>
        intro y10_86 hi86_0 hi86_1 hmu86
        have ky10_86 := zrng y10_86
        have hz11 : (y10_86.toNatClampNeg : Int) = y10_86.toInt := znat (by first | omega | decide)
        refine zp_seg (pc' := 89) (lv' := [(0, .ref m), (4, .int e), (7, .int r62), (8, .int r70), (9, .int r78), (10, .int y10_86)]) (st' := [.ref m, .int y10_86]) [(86, .iload 10), (88, .aload_n 0)] (by decide +kernel) rfl ?_
        refine zr_get (idx := 616) (k := 36) (v := .int (g 36)) (by decide +kernel) (by decide +kernel) hc56 rfl ?_
        have hJ137 : ∀ (_ : True), (0 ≤ y10_86.toInt) → (y10_86.toInt ≤ (g 36).toInt) → zP (d + 1) zq_X16_lineFactor 137 [(0, .ref m), (4, .int e), (7, .int r62), (8, .int r70), (9, .int r78), (10, .int y10_86)] [] w56 sz 0 0 Post := by
          intro _ hi137_0 hi137_1
          refine zp_seg (pc' := 140) (lv' := [(0, .ref m), (4, .int e), (7, .int r62), (8, .int r70), (9, .int r78), (10, .int y10_86)]) (st' := [.ref m, .int y10_86]) [(137, .iload 10), (139, .aload_n 0)] (by decide +kernel) rfl ?_
          refine zr_get (idx := 616) (k := 36) (v := .int (g 36)) (by decide +kernel) (by decide +kernel) hc56 rfl ?_
          refine zp_if (i := .if_icmp .ne 48) (c := ¬ y10_86 = (g 36)) (t := 191) (e := 146) (lv' := [(0, .ref m), (4, .int e), (7, .int r62), (8, .int r70), (9, .int r78), (10, .int y10_86)]) (st' := []) (by decide +kernel) rfl (fun cc143 => ?_) (fun cc143 => ?_)
          ·
            have f12 := zneI cc143
            refine zp_seg (pc' := 192) (lv' := [(0, .ref m), (4, .int e), (7, .int r62), (8, .int r70), (9, .int r78), (10, .int y10_86)]) (st' := [.ref m]) [(191, .aload_n 0)] (by decide +kernel) rfl ?_
            refine zr_get (idx := 480) (k := 35) (v := .ref (m + 99)) (by decide +kernel) (by decide +kernel) hc56 rfl ?_
            refine zp_seg (pc' := 198) (lv' := [(0, .ref m), (4, .int e), (7, .int r62), (8, .int r70), (9, .int r78), (10, .int y10_86)]) (st' := [.int y10_86, .ref (m + 99), .int y10_86, .ref (m + 99)]) [(195, .iload 10), (197, .dup2)] (by decide +kernel) rfl ?_
            have hb13 : w56 (m + 99) = some (.inr (0, 120, .inl qe)) := (heq56 (m + 99) (zx_X16_lineFactor_0)).trans hA_m_99
            refine zr_iald (by decide +kernel) hb13 (zin (by first | omega | decide) (by first | omega | decide)) ?_
            obtain ⟨x198, ex198⟩ : ∃ x9, x9 = qe (y10_86.toNatClampNeg) := ⟨_, rfl⟩
            rw [← ex198]
            have kx198 := zrng x198
            refine zp_seg (pc' := 202) (lv' := [(0, .ref m), (4, .int e), (7, .int r62), (8, .int r70), (9, .int r78), (10, .int y10_86)]) (st' := [.int (x198 + e), .int y10_86, .ref (m + 99)]) [(199, .iload 4), (201, .iadd)] (by decide +kernel) rfl ?_
            have k14 := zaddM x198 e
            generalize ev202 : (x198 + e : Int32) = v202 at k14 ⊢
            have kv202 := zrng v202
            refine zr_iast (by decide +kernel) hb13 (zin (by first | omega | decide) (by first | omega | decide)) ?_
            show zP (d + 1) zq_X16_lineFactor 203 [(0, .ref m), (4, .int e), (7, .int r62), (8, .int r70), (9, .int r78), (10, .int y10_86)] [] (zup w56 (m + 99) (.inr (0, 120, .inl (upd qe (y10_86.toNatClampNeg) v202)))) sz 0 0 Post
            obtain ⟨w202, ew202⟩ : ∃ wz9, wz9 = zup w56 (m + 99) (.inr (0, 120, .inl (upd qe (y10_86.toNatClampNeg) v202))) := ⟨_, rfl⟩
            have hsi202 : zSI w56 w202 := by rw [ew202]; exact zSI.arr _ hb13
            have heq202 : ∀ x, x ≠ m + 99 → w202 x = w56 x := fun x hx => by rw [ew202]; exact zup_n hx
            have hc202 : w202 (m + 99) = some (.inr (0, 120, .inl (upd qe (y10_86.toNatClampNeg) v202))) := by rw [ew202]; exact zup_s
            rw [← ew202]
            clear ew202
            have hb15 : w202 m = some (.inl (15, zMo m (zs g 37 r53) r)) := (heq202 m (zx_X16_lineFactor_1)).trans hc56
            have hb16 : w202 (m + 96) = some (.inr (0, 120, .inl qa)) := ((heq202 (m + 96) (zx_X16_lineFactor_3)).trans (heq56 (m + 96) (zx_X16_lineFactor_2))).trans hA_m_96
            have hb17 : w202 (m + 97) = some (.inr (0, 120, .inl qb)) := ((heq202 (m + 97) (zx_X16_lineFactor_5)).trans (heq56 (m + 97) (zx_X16_lineFactor_4))).trans hA_m_97
            have hb18 : w202 (m + 98) = some (.inr (0, 120, .inl qc)) := ((heq202 (m + 98) (zx_X16_lineFactor_7)).trans (heq56 (m + 98) (zx_X16_lineFactor_6))).trans hA_m_98
            have hoffend : ∀ x, (x < m ∨ m + 1 ≤ x) ∧ (x < m + 96 ∨ m + 96 + 4 ≤ x) → w202 x = w x := fun x hx => ((heq202 x (zx_X16_lineFactor_9 hx.2)).trans (heq56 x (zx_X16_lineFactor_8 hx.1)))
            refine zr_retV (by decide +kernel) rfl ?_
            rw [← hPost]; exact ⟨rfl, _, rfl, (g 36), r53, qa, qb, qc, (upd qe (y10_86.toNatClampNeg) v202), (hsi56.tr hsi202), hoffend, hb15, hb16, hb17, hb18, hc202, (by
                  first
                  | exact ⟨⟨by omega, by omega⟩, ⟨hr53.1, hN9⟩, hqs⟩
                  | (refine ⟨⟨by omega, by omega⟩, ⟨hr53.1, hN9⟩, ?_⟩
                     have e9 : y10_86.toNatClampNeg = (g 36).toNatClampNeg := by rw [cc143]
                     rw [e9]
                     refine zQs_up hqs (by omega) hr62.1 hr70.1 hr78.1 ?_
                     first
                     | exact Or.inl (zmul_nz h_a hr36.1 hr62.2 cc13 (zinv_nz h_a cc13 hr36.2))
                     | exact Or.inr (zmul_nz h_b hr36.1 hr70.2 cc13 (zinv_nz h_b cc13 hr36.2)))), rfl⟩
          ·
            replace cc143 := Classical.not_not.mp cc143
            have f19 := zeqI cc143
            refine zp_seg (pc' := 147) (lv' := [(0, .ref m), (4, .int e), (7, .int r62), (8, .int r70), (9, .int r78), (10, .int y10_86)]) (st' := [.ref m]) [(146, .aload_n 0)] (by decide +kernel) rfl ?_
            refine zr_get (idx := 471) (k := 32) (v := .ref (m + 96)) (by decide +kernel) (by decide +kernel) hc56 rfl ?_
            refine zp_seg (pc' := 154) (lv' := [(0, .ref m), (4, .int e), (7, .int r62), (8, .int r70), (9, .int r78), (10, .int y10_86)]) (st' := [.int r62, .int y10_86, .ref (m + 96)]) [(150, .iload 10), (152, .iload 7)] (by decide +kernel) rfl ?_
            have hb20 : w56 (m + 96) = some (.inr (0, 120, .inl qa)) := (heq56 (m + 96) (zx_X16_lineFactor_2)).trans hA_m_96
            refine zr_iast (by decide +kernel) hb20 (zin (by first | omega | decide) (by first | omega | decide)) ?_
            show zP (d + 1) zq_X16_lineFactor 155 [(0, .ref m), (4, .int e), (7, .int r62), (8, .int r70), (9, .int r78), (10, .int y10_86)] [] (zup w56 (m + 96) (.inr (0, 120, .inl (upd qa (y10_86.toNatClampNeg) r62)))) sz 0 0 Post
            obtain ⟨w154, ew154⟩ : ∃ wz9, wz9 = zup w56 (m + 96) (.inr (0, 120, .inl (upd qa (y10_86.toNatClampNeg) r62))) := ⟨_, rfl⟩
            have hsi154 : zSI w56 w154 := by rw [ew154]; exact zSI.arr _ hb20
            have heq154 : ∀ x, x ≠ m + 96 → w154 x = w56 x := fun x hx => by rw [ew154]; exact zup_n hx
            have hc154 : w154 (m + 96) = some (.inr (0, 120, .inl (upd qa (y10_86.toNatClampNeg) r62))) := by rw [ew154]; exact zup_s
            rw [← ew154]
            clear ew154
            refine zp_seg (pc' := 156) (lv' := [(0, .ref m), (4, .int e), (7, .int r62), (8, .int r70), (9, .int r78), (10, .int y10_86)]) (st' := [.ref m]) [(155, .aload_n 0)] (by decide +kernel) rfl ?_
            have hb21 : w154 m = some (.inl (15, zMo m (zs g 37 r53) r)) := (heq154 m (zx_X16_lineFactor_10)).trans hc56
            refine zr_get (idx := 474) (k := 33) (v := .ref (m + 97)) (by decide +kernel) (by decide +kernel) hb21 rfl ?_
            refine zp_seg (pc' := 163) (lv' := [(0, .ref m), (4, .int e), (7, .int r62), (8, .int r70), (9, .int r78), (10, .int y10_86)]) (st' := [.int r70, .int y10_86, .ref (m + 97)]) [(159, .iload 10), (161, .iload 8)] (by decide +kernel) rfl ?_
            have hb22 : w154 (m + 97) = some (.inr (0, 120, .inl qb)) := ((heq154 (m + 97) (zx_X16_lineFactor_11)).trans (heq56 (m + 97) (zx_X16_lineFactor_4))).trans hA_m_97
            refine zr_iast (by decide +kernel) hb22 (zin (by first | omega | decide) (by first | omega | decide)) ?_
            show zP (d + 1) zq_X16_lineFactor 164 [(0, .ref m), (4, .int e), (7, .int r62), (8, .int r70), (9, .int r78), (10, .int y10_86)] [] (zup w154 (m + 97) (.inr (0, 120, .inl (upd qb (y10_86.toNatClampNeg) r70)))) sz 0 0 Post
            obtain ⟨w163, ew163⟩ : ∃ wz9, wz9 = zup w154 (m + 97) (.inr (0, 120, .inl (upd qb (y10_86.toNatClampNeg) r70))) := ⟨_, rfl⟩
            have hsi163 : zSI w154 w163 := by rw [ew163]; exact zSI.arr _ hb22
            have heq163 : ∀ x, x ≠ m + 97 → w163 x = w154 x := fun x hx => by rw [ew163]; exact zup_n hx
            have hc163 : w163 (m + 97) = some (.inr (0, 120, .inl (upd qb (y10_86.toNatClampNeg) r70))) := by rw [ew163]; exact zup_s
            rw [← ew163]
            clear ew163
            refine zp_seg (pc' := 165) (lv' := [(0, .ref m), (4, .int e), (7, .int r62), (8, .int r70), (9, .int r78), (10, .int y10_86)]) (st' := [.ref m]) [(164, .aload_n 0)] (by decide +kernel) rfl ?_
            have hb23 : w163 m = some (.inl (15, zMo m (zs g 37 r53) r)) := (heq163 m (zx_X16_lineFactor_12)).trans hb21
            refine zr_get (idx := 477) (k := 34) (v := .ref (m + 98)) (by decide +kernel) (by decide +kernel) hb23 rfl ?_
            refine zp_seg (pc' := 172) (lv' := [(0, .ref m), (4, .int e), (7, .int r62), (8, .int r70), (9, .int r78), (10, .int y10_86)]) (st' := [.int r78, .int y10_86, .ref (m + 98)]) [(168, .iload 10), (170, .iload 9)] (by decide +kernel) rfl ?_
            have hb24 : w163 (m + 98) = some (.inr (0, 120, .inl qc)) := ((heq163 (m + 98) (zx_X16_lineFactor_14)).trans ((heq154 (m + 98) (zx_X16_lineFactor_13)).trans (heq56 (m + 98) (zx_X16_lineFactor_6)))).trans hA_m_98
            refine zr_iast (by decide +kernel) hb24 (zin (by first | omega | decide) (by first | omega | decide)) ?_
            show zP (d + 1) zq_X16_lineFactor 173 [(0, .ref m), (4, .int e), (7, .int r62), (8, .int r70), (9, .int r78), (10, .int y10_86)] [] (zup w163 (m + 98) (.inr (0, 120, .inl (upd qc (y10_86.toNatClampNeg) r78)))) sz 0 0 Post
            obtain ⟨w172, ew172⟩ : ∃ wz9, wz9 = zup w163 (m + 98) (.inr (0, 120, .inl (upd qc (y10_86.toNatClampNeg) r78))) := ⟨_, rfl⟩
            have hsi172 : zSI w163 w172 := by rw [ew172]; exact zSI.arr _ hb24
            have heq172 : ∀ x, x ≠ m + 98 → w172 x = w163 x := fun x hx => by rw [ew172]; exact zup_n hx
            have hc172 : w172 (m + 98) = some (.inr (0, 120, .inl (upd qc (y10_86.toNatClampNeg) r78))) := by rw [ew172]; exact zup_s
            rw [← ew172]
            clear ew172
            refine zp_seg (pc' := 174) (lv' := [(0, .ref m), (4, .int e), (7, .int r62), (8, .int r70), (9, .int r78), (10, .int y10_86)]) (st' := [.ref m]) [(173, .aload_n 0)] (by decide +kernel) rfl ?_
            have hb25 : w172 m = some (.inl (15, zMo m (zs g 37 r53) r)) := (heq172 m (zx_X16_lineFactor_15)).trans hb23
            refine zr_get (idx := 480) (k := 35) (v := .ref (m + 99)) (by decide +kernel) (by decide +kernel) hb25 rfl ?_
            refine zp_seg (pc' := 180) (lv' := [(0, .ref m), (4, .int e), (7, .int r62), (8, .int r70), (9, .int r78), (10, .int y10_86)]) (st' := [.int 0, .int y10_86, .ref (m + 99)]) [(177, .iload 10), (179, .iconst 0)] (by decide +kernel) rfl ?_
            have hb26 : w172 (m + 99) = some (.inr (0, 120, .inl qe)) := ((heq172 (m + 99) (zx_X16_lineFactor_18)).trans ((heq163 (m + 99) (zx_X16_lineFactor_17)).trans ((heq154 (m + 99) (zx_X16_lineFactor_16)).trans (heq56 (m + 99) (zx_X16_lineFactor_0))))).trans hA_m_99
            refine zr_iast (by decide +kernel) hb26 (zin (by first | omega | decide) (by first | omega | decide)) ?_
            show zP (d + 1) zq_X16_lineFactor 181 [(0, .ref m), (4, .int e), (7, .int r62), (8, .int r70), (9, .int r78), (10, .int y10_86)] [] (zup w172 (m + 99) (.inr (0, 120, .inl (upd qe (y10_86.toNatClampNeg) 0)))) sz 0 0 Post
            obtain ⟨w180, ew180⟩ : ∃ wz9, wz9 = zup w172 (m + 99) (.inr (0, 120, .inl (upd qe (y10_86.toNatClampNeg) 0))) := ⟨_, rfl⟩
            have hsi180 : zSI w172 w180 := by rw [ew180]; exact zSI.arr _ hb26
            have heq180 : ∀ x, x ≠ m + 99 → w180 x = w172 x := fun x hx => by rw [ew180]; exact zup_n hx
            have hc180 : w180 (m + 99) = some (.inr (0, 120, .inl (upd qe (y10_86.toNatClampNeg) 0))) := by rw [ew180]; exact zup_s
            rw [← ew180]
            clear ew180
            refine zp_seg (pc' := 183) (lv' := [(0, .ref m), (4, .int e), (7, .int r62), (8, .int r70), (9, .int r78), (10, .int y10_86)]) (st' := [.ref m, .ref m]) [(181, .aload_n 0), (182, .dup)] (by decide +kernel) rfl ?_
            have hb27 : w180 m = some (.inl (15, zMo m (zs g 37 r53) r)) := (heq180 m (zx_X16_lineFactor_1)).trans hb25
            refine zr_get (idx := 616) (k := 36) (v := .int (g 36)) (by decide +kernel) (by decide +kernel) hb27 rfl ?_
            refine zp_seg (pc' := 188) (lv' := [(0, .ref m), (4, .int e), (7, .int r62), (8, .int r70), (9, .int r78), (10, .int y10_86)]) (st' := [.int ((g 36) + 1), .ref m]) [(186, .iconst 1), (187, .iadd)] (by decide +kernel) rfl ?_
            have k28 := zaddC ((g 36)) 1 (n := 1) (by decide) (by omega) (by omega)
            generalize ev188 : ((g 36) + 1 : Int32) = v188 at k28 ⊢
            have kv188 := zrng v188
            have hz29 : (v188.toNatClampNeg : Int) = v188.toInt := znat (by first | omega | decide)
            refine zr_put2 (idx := 616) (k := 36) (fs2 := zMo m (zs (zs g 36 v188) 37 r53) r) (by decide +kernel) (by decide +kernel) hb27 (Nat.le_of_ble_eq_true rfl) rfl rfl rfl ?_
            show zP (d + 1) zq_X16_lineFactor 191 [(0, .ref m), (4, .int e), (7, .int r62), (8, .int r70), (9, .int r78), (10, .int y10_86)] [] (zup w180 m (.inl (15, zMo m (zs (zs g 36 v188) 37 r53) r))) sz 0 0 Post
            obtain ⟨w188, ew188⟩ : ∃ wz9, wz9 = zup w180 m (.inl (15, zMo m (zs (zs g 36 v188) 37 r53) r)) := ⟨_, rfl⟩
            have hsi188 : zSI w180 w188 := by rw [ew188]; exact zSI.setG hb27 _ _
            have heq188 : ∀ x, x ≠ m → w188 x = w180 x := fun x hx => by rw [ew188]; exact zup_n hx
            have hc188 : w188 m = some (.inl (15, zMo m (zs (zs g 36 v188) 37 r53) r)) := by rw [ew188]; exact zup_s
            rw [← ew188]
            clear ew188
            refine zp_seg (pc' := 192) (lv' := [(0, .ref m), (4, .int e), (7, .int r62), (8, .int r70), (9, .int r78), (10, .int y10_86)]) (st' := [.ref m]) [(191, .aload_n 0)] (by decide +kernel) rfl ?_
            refine zr_get (idx := 480) (k := 35) (v := .ref (m + 99)) (by decide +kernel) (by decide +kernel) hc188 rfl ?_
            refine zp_seg (pc' := 198) (lv' := [(0, .ref m), (4, .int e), (7, .int r62), (8, .int r70), (9, .int r78), (10, .int y10_86)]) (st' := [.int y10_86, .ref (m + 99), .int y10_86, .ref (m + 99)]) [(195, .iload 10), (197, .dup2)] (by decide +kernel) rfl ?_
            have hb30 : w188 (m + 99) = some (.inr (0, 120, .inl (upd qe (y10_86.toNatClampNeg) 0))) := (heq188 (m + 99) (zx_X16_lineFactor_0)).trans hc180
            refine zr_iald (by decide +kernel) hb30 (zin (by first | omega | decide) (by first | omega | decide)) ?_
            obtain ⟨x198, ex198⟩ : ∃ x9, x9 = (upd qe (y10_86.toNatClampNeg) 0) (y10_86.toNatClampNeg) := ⟨_, rfl⟩
            rw [← ex198]
            have kx198 := zrng x198
            refine zp_seg (pc' := 202) (lv' := [(0, .ref m), (4, .int e), (7, .int r62), (8, .int r70), (9, .int r78), (10, .int y10_86)]) (st' := [.int (x198 + e), .int y10_86, .ref (m + 99)]) [(199, .iload 4), (201, .iadd)] (by decide +kernel) rfl ?_
            have k31 := zaddM x198 e
            generalize ev202 : (x198 + e : Int32) = v202 at k31 ⊢
            have kv202 := zrng v202
            refine zr_iast (by decide +kernel) hb30 (zin (by first | omega | decide) (by first | omega | decide)) ?_
            show zP (d + 1) zq_X16_lineFactor 203 [(0, .ref m), (4, .int e), (7, .int r62), (8, .int r70), (9, .int r78), (10, .int y10_86)] [] (zup w188 (m + 99) (.inr (0, 120, .inl (upd (upd qe (y10_86.toNatClampNeg) 0) (y10_86.toNatClampNeg) v202)))) sz 0 0 Post
            obtain ⟨w202, ew202⟩ : ∃ wz9, wz9 = zup w188 (m + 99) (.inr (0, 120, .inl (upd (upd qe (y10_86.toNatClampNeg) 0) (y10_86.toNatClampNeg) v202))) := ⟨_, rfl⟩
            have hsi202 : zSI w188 w202 := by rw [ew202]; exact zSI.arr _ hb30
            have heq202 : ∀ x, x ≠ m + 99 → w202 x = w188 x := fun x hx => by rw [ew202]; exact zup_n hx
            have hc202 : w202 (m + 99) = some (.inr (0, 120, .inl (upd (upd qe (y10_86.toNatClampNeg) 0) (y10_86.toNatClampNeg) v202))) := by rw [ew202]; exact zup_s
            rw [← ew202]
            clear ew202
            have hb32 : w202 m = some (.inl (15, zMo m (zs (zs g 36 v188) 37 r53) r)) := (heq202 m (zx_X16_lineFactor_1)).trans hc188
            have hb33 : w202 (m + 96) = some (.inr (0, 120, .inl (upd qa (y10_86.toNatClampNeg) r62))) := ((heq202 (m + 96) (zx_X16_lineFactor_3)).trans ((heq188 (m + 96) (zx_X16_lineFactor_2)).trans ((heq180 (m + 96) (zx_X16_lineFactor_3)).trans ((heq172 (m + 96) (zx_X16_lineFactor_20)).trans (heq163 (m + 96) (zx_X16_lineFactor_19)))))).trans hc154
            have hb34 : w202 (m + 97) = some (.inr (0, 120, .inl (upd qb (y10_86.toNatClampNeg) r70))) := ((heq202 (m + 97) (zx_X16_lineFactor_5)).trans ((heq188 (m + 97) (zx_X16_lineFactor_4)).trans ((heq180 (m + 97) (zx_X16_lineFactor_5)).trans (heq172 (m + 97) (zx_X16_lineFactor_21))))).trans hc163
            have hb35 : w202 (m + 98) = some (.inr (0, 120, .inl (upd qc (y10_86.toNatClampNeg) r78))) := ((heq202 (m + 98) (zx_X16_lineFactor_7)).trans ((heq188 (m + 98) (zx_X16_lineFactor_6)).trans (heq180 (m + 98) (zx_X16_lineFactor_7)))).trans hc172
            have hoffend : ∀ x, (x < m ∨ m + 1 ≤ x) ∧ (x < m + 96 ∨ m + 96 + 4 ≤ x) → w202 x = w x := fun x hx => ((heq202 x (zx_X16_lineFactor_9 hx.2)).trans ((heq188 x (zx_X16_lineFactor_8 hx.1)).trans ((heq180 x (zx_X16_lineFactor_9 hx.2)).trans ((heq172 x (zx_X16_lineFactor_24 hx.2)).trans ((heq163 x (zx_X16_lineFactor_23 hx.2)).trans ((heq154 x (zx_X16_lineFactor_22 hx.2)).trans (heq56 x (zx_X16_lineFactor_8 hx.1))))))))
            refine zr_retV (by decide +kernel) rfl ?_
            rw [← hPost]; exact ⟨rfl, _, rfl, v188, r53, (upd qa (y10_86.toNatClampNeg) r62), (upd qb (y10_86.toNatClampNeg) r70), (upd qc (y10_86.toNatClampNeg) r78), (upd (upd qe (y10_86.toNatClampNeg) 0) (y10_86.toNatClampNeg) v202), ((((((hsi56.tr hsi154).tr hsi163).tr hsi172).tr hsi180).tr hsi188).tr hsi202), hoffend, hb32, hb33, hb34, hb35, hc202, (by
                  first
                  | exact ⟨⟨by omega, by omega⟩, ⟨hr53.1, hN9⟩, hqs⟩
                  | (refine ⟨⟨by omega, by omega⟩, ⟨hr53.1, hN9⟩, ?_⟩
                     have e9 : y10_86.toNatClampNeg = (g 36).toNatClampNeg := by rw [cc143]
                     rw [e9]
                     refine zQs_up hqs (by omega) hr62.1 hr70.1 hr78.1 ?_
                     first
                     | exact Or.inl (zmul_nz h_a hr36.1 hr62.2 cc13 (zinv_nz h_a cc13 hr36.2))
                     | exact Or.inr (zmul_nz h_b hr36.1 hr70.2 cc13 (zinv_nz h_b cc13 hr36.2)))), rfl⟩
        refine zp_if (i := .if_icmp .ge 45) (c := (g 36) ≤ y10_86) (t := 137) (e := 95) (lv' := [(0, .ref m), (4, .int e), (7, .int r62), (8, .int r70), (9, .int r78), (10, .int y10_86)]) (st' := []) (by decide +kernel) rfl (fun cc92 => ?_) (fun cc92 => ?_)
        ·
          have f36 := zleI cc92
          exact (hJ137 trivial (by first | assumption | omega | decide) (by first | assumption | omega | decide)).more (zfa1 rfl (zfa1 rfl (zfa1 rfl (zfa1 rfl (zfa1 rfl (zfa1 rfl (zfa0)))))))
        ·
          have f37 := znleI cc92
          refine zp_seg (pc' := 96) (lv' := [(0, .ref m), (4, .int e), (7, .int r62), (8, .int r70), (9, .int r78), (10, .int y10_86)]) (st' := [.ref m]) [(95, .aload_n 0)] (by decide +kernel) rfl ?_
          refine zr_get (idx := 471) (k := 32) (v := .ref (m + 96)) (by decide +kernel) (by decide +kernel) hc56 rfl ?_
          refine zp_seg (pc' := 101) (lv' := [(0, .ref m), (4, .int e), (7, .int r62), (8, .int r70), (9, .int r78), (10, .int y10_86)]) (st' := [.int y10_86, .ref (m + 96)]) [(99, .iload 10)] (by decide +kernel) rfl ?_
          have hb38 : w56 (m + 96) = some (.inr (0, 120, .inl qa)) := (heq56 (m + 96) (zx_X16_lineFactor_2)).trans hA_m_96
          refine zr_iald (by decide +kernel) hb38 (zin (by first | omega | decide) (by first | omega | decide)) ?_
          obtain ⟨x101, ex101⟩ : ∃ x9, x9 = qa (y10_86.toNatClampNeg) := ⟨_, rfl⟩
          rw [← ex101]
          have kx101 := zrng x101
          refine zp_seg (pc' := 104) (lv' := [(0, .ref m), (4, .int e), (7, .int r62), (8, .int r70), (9, .int r78), (10, .int y10_86)]) (st' := [.int r62, .int x101]) [(102, .iload 7)] (by decide +kernel) rfl ?_
          refine zp_if (i := .if_icmp .ne 27) (c := ¬ x101 = r62) (t := 131) (e := 107) (lv' := [(0, .ref m), (4, .int e), (7, .int r62), (8, .int r70), (9, .int r78), (10, .int y10_86)]) (st' := []) (by decide +kernel) rfl (fun cc104 => ?_) (fun cc104 => ?_)
          ·
            have f39 := zneI cc104
            refine zp_seg (pc' := 134) (lv' := [(10, .int (y10_86 + 1)), (0, .ref m), (4, .int e), (7, .int r62), (8, .int r70), (9, .int r78)]) (st' := []) [(131, .iinc 10 1)] (by decide +kernel) rfl ?_
            have k40 := zaddC y10_86 1 (n := 1) (by decide) (by omega) (by omega)
            generalize ev134 : (y10_86 + 1 : Int32) = v134 at k40 ⊢
            have kv134 := zrng v134
            refine zp_seg (pc' := 86) (lv' := [(10, .int v134), (0, .ref m), (4, .int e), (7, .int r62), (8, .int r70), (9, .int r78)]) (st' := []) [(134, .goto (-48))] (by decide +kernel) rfl ?_
            have hz41 : (v134.toNatClampNeg : Int) = v134.toInt := znat (by first | omega | decide)
            exact (ih86 v134 (by first | assumption | omega | decide) (by first | assumption | omega | decide) (by omega)).more (zfa1 rfl (zfa1 rfl (zfa1 rfl (zfa1 rfl (zfa1 rfl (zfa1 rfl (zfa0)))))))
          ·
            replace cc104 := Classical.not_not.mp cc104
            have f42 := zeqI cc104
            refine zp_seg (pc' := 108) (lv' := [(0, .ref m), (4, .int e), (7, .int r62), (8, .int r70), (9, .int r78), (10, .int y10_86)]) (st' := [.ref m]) [(107, .aload_n 0)] (by decide +kernel) rfl ?_
            refine zr_get (idx := 474) (k := 33) (v := .ref (m + 97)) (by decide +kernel) (by decide +kernel) hc56 rfl ?_
            refine zp_seg (pc' := 113) (lv' := [(0, .ref m), (4, .int e), (7, .int r62), (8, .int r70), (9, .int r78), (10, .int y10_86)]) (st' := [.int y10_86, .ref (m + 97)]) [(111, .iload 10)] (by decide +kernel) rfl ?_
            have hb43 : w56 (m + 97) = some (.inr (0, 120, .inl qb)) := (heq56 (m + 97) (zx_X16_lineFactor_4)).trans hA_m_97
            refine zr_iald (by decide +kernel) hb43 (zin (by first | omega | decide) (by first | omega | decide)) ?_
            obtain ⟨x113, ex113⟩ : ∃ x9, x9 = qb (y10_86.toNatClampNeg) := ⟨_, rfl⟩
            rw [← ex113]
            have kx113 := zrng x113
            refine zp_seg (pc' := 116) (lv' := [(0, .ref m), (4, .int e), (7, .int r62), (8, .int r70), (9, .int r78), (10, .int y10_86)]) (st' := [.int r70, .int x113]) [(114, .iload 8)] (by decide +kernel) rfl ?_
            refine zp_if (i := .if_icmp .ne 15) (c := ¬ x113 = r70) (t := 131) (e := 119) (lv' := [(0, .ref m), (4, .int e), (7, .int r62), (8, .int r70), (9, .int r78), (10, .int y10_86)]) (st' := []) (by decide +kernel) rfl (fun cc116 => ?_) (fun cc116 => ?_)
            ·
              have f44 := zneI cc116
              refine zp_seg (pc' := 134) (lv' := [(10, .int (y10_86 + 1)), (0, .ref m), (4, .int e), (7, .int r62), (8, .int r70), (9, .int r78)]) (st' := []) [(131, .iinc 10 1)] (by decide +kernel) rfl ?_
              have k45 := zaddC y10_86 1 (n := 1) (by decide) (by omega) (by omega)
              generalize ev134 : (y10_86 + 1 : Int32) = v134 at k45 ⊢
              have kv134 := zrng v134
              refine zp_seg (pc' := 86) (lv' := [(10, .int v134), (0, .ref m), (4, .int e), (7, .int r62), (8, .int r70), (9, .int r78)]) (st' := []) [(134, .goto (-48))] (by decide +kernel) rfl ?_
              have hz46 : (v134.toNatClampNeg : Int) = v134.toInt := znat (by first | omega | decide)
              exact (ih86 v134 (by first | assumption | omega | decide) (by first | assumption | omega | decide) (by omega)).more (zfa1 rfl (zfa1 rfl (zfa1 rfl (zfa1 rfl (zfa1 rfl (zfa1 rfl (zfa0)))))))
            ·
              replace cc116 := Classical.not_not.mp cc116
              have f47 := zeqI cc116
              refine zp_seg (pc' := 120) (lv' := [(0, .ref m), (4, .int e), (7, .int r62), (8, .int r70), (9, .int r78), (10, .int y10_86)]) (st' := [.ref m]) [(119, .aload_n 0)] (by decide +kernel) rfl ?_
              refine zr_get (idx := 477) (k := 34) (v := .ref (m + 98)) (by decide +kernel) (by decide +kernel) hc56 rfl ?_
              refine zp_seg (pc' := 125) (lv' := [(0, .ref m), (4, .int e), (7, .int r62), (8, .int r70), (9, .int r78), (10, .int y10_86)]) (st' := [.int y10_86, .ref (m + 98)]) [(123, .iload 10)] (by decide +kernel) rfl ?_
              have hb48 : w56 (m + 98) = some (.inr (0, 120, .inl qc)) := (heq56 (m + 98) (zx_X16_lineFactor_6)).trans hA_m_98
              refine zr_iald (by decide +kernel) hb48 (zin (by first | omega | decide) (by first | omega | decide)) ?_
              obtain ⟨x125, ex125⟩ : ∃ x9, x9 = qc (y10_86.toNatClampNeg) := ⟨_, rfl⟩
              rw [← ex125]
              have kx125 := zrng x125
              refine zp_seg (pc' := 128) (lv' := [(0, .ref m), (4, .int e), (7, .int r62), (8, .int r70), (9, .int r78), (10, .int y10_86)]) (st' := [.int r78, .int x125]) [(126, .iload 9)] (by decide +kernel) rfl ?_
              refine zp_if (i := .if_icmp .eq 9) (c := x125 = r78) (t := 137) (e := 131) (lv' := [(0, .ref m), (4, .int e), (7, .int r62), (8, .int r70), (9, .int r78), (10, .int y10_86)]) (st' := []) (by decide +kernel) rfl (fun cc128 => ?_) (fun cc128 => ?_)
              ·
                have f49 := zeqI cc128
                exact (hJ137 trivial (by first | assumption | omega | decide) (by first | assumption | omega | decide)).more (zfa1 rfl (zfa1 rfl (zfa1 rfl (zfa1 rfl (zfa1 rfl (zfa1 rfl (zfa0)))))))
              ·
                have f50 := zneI cc128
                refine zp_seg (pc' := 134) (lv' := [(10, .int (y10_86 + 1)), (0, .ref m), (4, .int e), (7, .int r62), (8, .int r70), (9, .int r78)]) (st' := []) [(131, .iinc 10 1)] (by decide +kernel) rfl ?_
                have k51 := zaddC y10_86 1 (n := 1) (by decide) (by omega) (by omega)
                generalize ev134 : (y10_86 + 1 : Int32) = v134 at k51 ⊢
                have kv134 := zrng v134
                refine zp_seg (pc' := 86) (lv' := [(10, .int v134), (0, .ref m), (4, .int e), (7, .int r62), (8, .int r70), (9, .int r78)]) (st' := []) [(134, .goto (-48))] (by decide +kernel) rfl ?_
                have hz52 : (v134.toNatClampNeg : Int) = v134.toInt := znat (by first | omega | decide)
                exact (ih86 v134 (by first | assumption | omega | decide) (by first | assumption | omega | decide) (by omega)).more (zfa1 rfl (zfa1 rfl (zfa1 rfl (zfa1 rfl (zfa1 rfl (zfa1 rfl (zfa0)))))))
      have hl53 : (0 : Int32).toInt = 0 := by decide
      have hz54 : ((0 : Int32).toNatClampNeg : Int) = 0 := by decide
      exact (hL86 _ 0 (by first | assumption | omega | decide) (by first | assumption | omega | decide) (Nat.lt_succ_self _)).more (zfa1 rfl (zfa1 rfl (zfa1 rfl (zfa1 rfl (zfa1 rfl (zfa1 rfl (zfa0)))))))
    ·
      replace cc13 := Classical.not_not.mp cc13
      have f55 := zeqI cc13
      rw [show (0 : Int32).toInt = 0 from by decide] at f55
      exfalso
      exact hab9.elim (fun h => h cc13) (fun h => h cc1)
  ·
    have f57 := zneI cc1
    rw [show (0 : Int32).toInt = 0 from by decide] at f57
    refine zp_seg (pc' := 13) (lv' := [(5, .int b), (0, .ref m), (1, .int a), (2, .int b), (3, .int c), (4, .int e)]) (st' := [.int b]) [(4, .iload_n 2), (5, .goto 4), (9, .istore 5), (11, .iload 5)] (by decide +kernel) rfl ?_
    refine zp_if (i := .ifCond .ne 21) (c := ¬ b = 0) (t := 34) (e := 16) (lv' := [(5, .int b), (0, .ref m), (1, .int a), (2, .int b), (3, .int c), (4, .int e)]) (st' := []) (by decide +kernel) rfl (fun cc13 => ?_) (fun cc13 => ?_)
    ·
      have f58 := zneI cc13
      rw [show (0 : Int32).toInt = 0 from by decide] at f58
      refine zp_seg (pc' := 36) (lv' := [(5, .int b), (0, .ref m), (1, .int a), (2, .int b), (3, .int c), (4, .int e)]) (st' := [.int b]) [(34, .iload 5)] (by decide +kernel) rfl ?_
      refine zr_callS (idx := 13) (j := 259) (by decide +kernel) (by decide +kernel) (by decide) (show zMe 259 = some zq_X16_inv from rfl) rfl rfl (Nat.le_of_ble_eq_true rfl) rfl rfl (Nat.le_of_ble_eq_true rfl) (Nat.le_of_ble_eq_true rfl) (c_X16_inv (w := w) b (by first | omega | decide | assumption | exact zr1_1 | exact zr1_0 | fail "num")) (by omega) (fun v36 w36 hp36 => ?_)
      obtain ⟨hpw36, r36, rfl, hr36⟩ := hp36
      replace hpw36 := hpw36.symm
      subst hpw36
      have kr36 := zrng r36
      show zP _ _ _ _ [.int r36] _ _ _ _ _
      refine zp_seg (pc' := 43) (lv' := [(6, .int r36), (5, .int b), (0, .ref m), (1, .int a), (2, .int b), (3, .int c), (4, .int e)]) (st' := [.ref m, .ref m]) [(39, .istore 6), (41, .aload_n 0), (42, .aload_n 0)] (by decide +kernel) rfl ?_
      refine zr_get (idx := 613) (k := 37) (v := .int (g 37)) (by decide +kernel) (by decide +kernel) hm rfl ?_
      refine zp_seg (pc' := 50) (lv' := [(6, .int r36), (5, .int b), (0, .ref m), (1, .int a), (2, .int b), (3, .int c), (4, .int e)]) (st' := [.int e, .int b, .int (g 37), .ref m]) [(46, .iload 5), (48, .iload 4)] (by decide +kernel) rfl ?_
      refine zr_callS (idx := 317) (j := 262) (by decide +kernel) (by decide +kernel) (by decide) (show zMe 262 = some zq_X16_power from rfl) rfl rfl (Nat.le_of_ble_eq_true rfl) rfl rfl (Nat.le_of_ble_eq_true rfl) (Nat.le_of_ble_eq_true rfl) (c_X16_power (w := w) b e (by first | omega | decide | assumption | exact zr1_1 | exact zr1_0 | fail "num")) (by omega) (fun v50 w50 hp50 => ?_)
      obtain ⟨hpw50, r50, rfl, hr50⟩ := hp50
      replace hpw50 := hpw50.symm
      subst hpw50
      have kr50 := zrng r50
      show zP _ _ _ _ [.int r50, .int (g 37), .ref m] _ _ _ _ _
      have k59 := zrng (g 37)
      refine zr_callS (idx := 56) (j := 257) (by decide +kernel) (by decide +kernel) (by decide) (show zMe 257 = some zq_X16_mul from rfl) rfl rfl (Nat.le_of_ble_eq_true rfl) rfl rfl (Nat.le_of_ble_eq_true rfl) (Nat.le_of_ble_eq_true rfl) (c_X16_mul (w := w) (g 37) r50 (by exact hlm) (by first | exact hr50.1 | omega | decide | assumption | exact zr1_1 | exact zr1_0 | fail "num")) (by omega) (fun v53 w53 hp53 => ?_)
      obtain ⟨hpw53, r53, rfl, hr53⟩ := hp53
      replace hpw53 := hpw53.symm
      subst hpw53
      have kr53 := zrng r53
      show zP _ _ _ _ [.int r53, .ref m] _ _ _ _ _
      have hN9 : r53 ≠ 0 := by
        first
        | exact zmul_nz hlm hr50.1 hr53.2 hl0 (zpow_nz h_a cc13 hr50.2)
        | exact zmul_nz hlm hr50.1 hr53.2 hl0 (zpow_nz h_b cc13 hr50.2)
      refine zr_put2 (idx := 613) (k := 37) (fs2 := zMo m (zs g 37 r53) r) (by decide +kernel) (by decide +kernel) hm (Nat.le_of_ble_eq_true rfl) rfl rfl rfl ?_
      show zP (d + 1) zq_X16_lineFactor 59 [(6, .int r36), (5, .int b), (0, .ref m), (1, .int a), (2, .int b), (3, .int c), (4, .int e)] [] (zup w m (.inl (15, zMo m (zs g 37 r53) r))) sz 0 0 Post
      obtain ⟨w56, ew56⟩ : ∃ wz9, wz9 = zup w m (.inl (15, zMo m (zs g 37 r53) r)) := ⟨_, rfl⟩
      have hsi56 : zSI w w56 := by rw [ew56]; exact zSI.setG hm _ _
      have heq56 : ∀ x, x ≠ m → w56 x = w x := fun x hx => by rw [ew56]; exact zup_n hx
      have hc56 : w56 m = some (.inl (15, zMo m (zs g 37 r53) r)) := by rw [ew56]; exact zup_s
      rw [← ew56]
      clear ew56
      refine zp_seg (pc' := 62) (lv' := [(6, .int r36), (5, .int b), (0, .ref m), (1, .int a), (2, .int b), (3, .int c), (4, .int e)]) (st' := [.int r36, .int a]) [(59, .iload_n 1), (60, .iload 6)] (by decide +kernel) rfl ?_
      refine zr_callS (idx := 56) (j := 257) (by decide +kernel) (by decide +kernel) (by decide) (show zMe 257 = some zq_X16_mul from rfl) rfl rfl (Nat.le_of_ble_eq_true rfl) rfl rfl (Nat.le_of_ble_eq_true rfl) (Nat.le_of_ble_eq_true rfl) (c_X16_mul (w := w56) a r36 (by first | omega | decide | assumption | exact zr1_1 | exact zr1_0 | fail "num") (by first | exact hr36.1 | omega | decide | assumption | exact zr1_1 | exact zr1_0 | fail "num")) (by omega) (fun v62 w62 hp62 => ?_)
      obtain ⟨hpw62, r62, rfl, hr62⟩ := hp62
      replace hpw62 := hpw62.symm
      subst hpw62
      have kr62 := zrng r62
      show zP _ _ _ _ [.int r62] _ _ _ _ _
      refine zp_seg (pc' := 70) (lv' := [(7, .int r62), (6, .int r36), (5, .int b), (0, .ref m), (1, .int a), (2, .int b), (3, .int c), (4, .int e)]) (st' := [.int r36, .int b]) [(65, .istore 7), (67, .iload_n 2), (68, .iload 6)] (by decide +kernel) rfl ?_
      refine zr_callS (idx := 56) (j := 257) (by decide +kernel) (by decide +kernel) (by decide) (show zMe 257 = some zq_X16_mul from rfl) rfl rfl (Nat.le_of_ble_eq_true rfl) rfl rfl (Nat.le_of_ble_eq_true rfl) (Nat.le_of_ble_eq_true rfl) (c_X16_mul (w := w56) b r36 (by first | omega | decide | assumption | exact zr1_1 | exact zr1_0 | fail "num") (by first | exact hr36.1 | omega | decide | assumption | exact zr1_1 | exact zr1_0 | fail "num")) (by omega) (fun v70 w70 hp70 => ?_)
      obtain ⟨hpw70, r70, rfl, hr70⟩ := hp70
      replace hpw70 := hpw70.symm
      subst hpw70
      have kr70 := zrng r70
      show zP _ _ _ _ [.int r70] _ _ _ _ _
      refine zp_seg (pc' := 78) (lv' := [(8, .int r70), (7, .int r62), (6, .int r36), (5, .int b), (0, .ref m), (1, .int a), (2, .int b), (3, .int c), (4, .int e)]) (st' := [.int r36, .int c]) [(73, .istore 8), (75, .iload_n 3), (76, .iload 6)] (by decide +kernel) rfl ?_
      refine zr_callS (idx := 56) (j := 257) (by decide +kernel) (by decide +kernel) (by decide) (show zMe 257 = some zq_X16_mul from rfl) rfl rfl (Nat.le_of_ble_eq_true rfl) rfl rfl (Nat.le_of_ble_eq_true rfl) (Nat.le_of_ble_eq_true rfl) (c_X16_mul (w := w56) c r36 (by first | omega | decide | assumption | exact zr1_1 | exact zr1_0 | fail "num") (by first | exact hr36.1 | omega | decide | assumption | exact zr1_1 | exact zr1_0 | fail "num")) (by omega) (fun v78 w78 hp78 => ?_)
      obtain ⟨hpw78, r78, rfl, hr78⟩ := hp78
      replace hpw78 := hpw78.symm
      subst hpw78
      have kr78 := zrng r78
      show zP _ _ _ _ [.int r78] _ _ _ _ _
      refine zp_seg (pc' := 86) (lv' := [(10, .int 0), (9, .int r78), (8, .int r70), (7, .int r62), (6, .int r36), (5, .int b), (0, .ref m), (1, .int a), (2, .int b), (3, .int c), (4, .int e)]) (st' := []) [(81, .istore 9), (83, .iconst 0), (84, .istore 10)] (by decide +kernel) rfl ?_
      have hL86 : ∀ (mm86 : Nat) (y10_86 : Int32), (0 ≤ y10_86.toInt) → (y10_86.toInt ≤ (g 36).toInt) → (200 - y10_86.toInt).toNat < mm86 → zP (d + 1) zq_X16_lineFactor 86 [(0, .ref m), (4, .int e), (7, .int r62), (8, .int r70), (9, .int r78), (10, .int y10_86)] [] w56 sz 0 0 Post := by
        intro mm86
        induction mm86 with
        | zero => intros; omega
        | succ mm86 ih86 =>
        intro y10_86 hi86_0 hi86_1 hmu86
        have ky10_86 := zrng y10_86
        have hz60 : (y10_86.toNatClampNeg : Int) = y10_86.toInt := znat (by first | omega | decide)
        refine zp_seg (pc' := 89) (lv' := [(0, .ref m), (4, .int e), (7, .int r62), (8, .int r70), (9, .int r78), (10, .int y10_86)]) (st' := [.ref m, .int y10_86]) [(86, .iload 10), (88, .aload_n 0)] (by decide +kernel) rfl ?_
        refine zr_get (idx := 616) (k := 36) (v := .int (g 36)) (by decide +kernel) (by decide +kernel) hc56 rfl ?_
        have hJ137 : ∀ (_ : True), (0 ≤ y10_86.toInt) → (y10_86.toInt ≤ (g 36).toInt) → zP (d + 1) zq_X16_lineFactor 137 [(0, .ref m), (4, .int e), (7, .int r62), (8, .int r70), (9, .int r78), (10, .int y10_86)] [] w56 sz 0 0 Post := by
          intro _ hi137_0 hi137_1
          refine zp_seg (pc' := 140) (lv' := [(0, .ref m), (4, .int e), (7, .int r62), (8, .int r70), (9, .int r78), (10, .int y10_86)]) (st' := [.ref m, .int y10_86]) [(137, .iload 10), (139, .aload_n 0)] (by decide +kernel) rfl ?_
          refine zr_get (idx := 616) (k := 36) (v := .int (g 36)) (by decide +kernel) (by decide +kernel) hc56 rfl ?_
          refine zp_if (i := .if_icmp .ne 48) (c := ¬ y10_86 = (g 36)) (t := 191) (e := 146) (lv' := [(0, .ref m), (4, .int e), (7, .int r62), (8, .int r70), (9, .int r78), (10, .int y10_86)]) (st' := []) (by decide +kernel) rfl (fun cc143 => ?_) (fun cc143 => ?_)
          ·
            have f61 := zneI cc143
            refine zp_seg (pc' := 192) (lv' := [(0, .ref m), (4, .int e), (7, .int r62), (8, .int r70), (9, .int r78), (10, .int y10_86)]) (st' := [.ref m]) [(191, .aload_n 0)] (by decide +kernel) rfl ?_
            refine zr_get (idx := 480) (k := 35) (v := .ref (m + 99)) (by decide +kernel) (by decide +kernel) hc56 rfl ?_
            refine zp_seg (pc' := 198) (lv' := [(0, .ref m), (4, .int e), (7, .int r62), (8, .int r70), (9, .int r78), (10, .int y10_86)]) (st' := [.int y10_86, .ref (m + 99), .int y10_86, .ref (m + 99)]) [(195, .iload 10), (197, .dup2)] (by decide +kernel) rfl ?_
            have hb62 : w56 (m + 99) = some (.inr (0, 120, .inl qe)) := (heq56 (m + 99) (zx_X16_lineFactor_0)).trans hA_m_99
            refine zr_iald (by decide +kernel) hb62 (zin (by first | omega | decide) (by first | omega | decide)) ?_
            obtain ⟨x198, ex198⟩ : ∃ x9, x9 = qe (y10_86.toNatClampNeg) := ⟨_, rfl⟩
            rw [← ex198]
            have kx198 := zrng x198
            refine zp_seg (pc' := 202) (lv' := [(0, .ref m), (4, .int e), (7, .int r62), (8, .int r70), (9, .int r78), (10, .int y10_86)]) (st' := [.int (x198 + e), .int y10_86, .ref (m + 99)]) [(199, .iload 4), (201, .iadd)] (by decide +kernel) rfl ?_
            have k63 := zaddM x198 e
            generalize ev202 : (x198 + e : Int32) = v202 at k63 ⊢
            have kv202 := zrng v202
            refine zr_iast (by decide +kernel) hb62 (zin (by first | omega | decide) (by first | omega | decide)) ?_
            show zP (d + 1) zq_X16_lineFactor 203 [(0, .ref m), (4, .int e), (7, .int r62), (8, .int r70), (9, .int r78), (10, .int y10_86)] [] (zup w56 (m + 99) (.inr (0, 120, .inl (upd qe (y10_86.toNatClampNeg) v202)))) sz 0 0 Post
            obtain ⟨w202, ew202⟩ : ∃ wz9, wz9 = zup w56 (m + 99) (.inr (0, 120, .inl (upd qe (y10_86.toNatClampNeg) v202))) := ⟨_, rfl⟩
            have hsi202 : zSI w56 w202 := by rw [ew202]; exact zSI.arr _ hb62
            have heq202 : ∀ x, x ≠ m + 99 → w202 x = w56 x := fun x hx => by rw [ew202]; exact zup_n hx
            have hc202 : w202 (m + 99) = some (.inr (0, 120, .inl (upd qe (y10_86.toNatClampNeg) v202))) := by rw [ew202]; exact zup_s
            rw [← ew202]
            clear ew202
            have hb64 : w202 m = some (.inl (15, zMo m (zs g 37 r53) r)) := (heq202 m (zx_X16_lineFactor_1)).trans hc56
            have hb65 : w202 (m + 96) = some (.inr (0, 120, .inl qa)) := ((heq202 (m + 96) (zx_X16_lineFactor_3)).trans (heq56 (m + 96) (zx_X16_lineFactor_2))).trans hA_m_96
            have hb66 : w202 (m + 97) = some (.inr (0, 120, .inl qb)) := ((heq202 (m + 97) (zx_X16_lineFactor_5)).trans (heq56 (m + 97) (zx_X16_lineFactor_4))).trans hA_m_97
            have hb67 : w202 (m + 98) = some (.inr (0, 120, .inl qc)) := ((heq202 (m + 98) (zx_X16_lineFactor_7)).trans (heq56 (m + 98) (zx_X16_lineFactor_6))).trans hA_m_98
            have hoffend : ∀ x, (x < m ∨ m + 1 ≤ x) ∧ (x < m + 96 ∨ m + 96 + 4 ≤ x) → w202 x = w x := fun x hx => ((heq202 x (zx_X16_lineFactor_9 hx.2)).trans (heq56 x (zx_X16_lineFactor_8 hx.1)))
            refine zr_retV (by decide +kernel) rfl ?_
            rw [← hPost]; exact ⟨rfl, _, rfl, (g 36), r53, qa, qb, qc, (upd qe (y10_86.toNatClampNeg) v202), (hsi56.tr hsi202), hoffend, hb64, hb65, hb66, hb67, hc202, (by
                  first
                  | exact ⟨⟨by omega, by omega⟩, ⟨hr53.1, hN9⟩, hqs⟩
                  | (refine ⟨⟨by omega, by omega⟩, ⟨hr53.1, hN9⟩, ?_⟩
                     have e9 : y10_86.toNatClampNeg = (g 36).toNatClampNeg := by rw [cc143]
                     rw [e9]
                     refine zQs_up hqs (by omega) hr62.1 hr70.1 hr78.1 ?_
                     first
                     | exact Or.inl (zmul_nz h_a hr36.1 hr62.2 cc13 (zinv_nz h_a cc13 hr36.2))
                     | exact Or.inr (zmul_nz h_b hr36.1 hr70.2 cc13 (zinv_nz h_b cc13 hr36.2)))), rfl⟩
          ·
            replace cc143 := Classical.not_not.mp cc143
            have f68 := zeqI cc143
            refine zp_seg (pc' := 147) (lv' := [(0, .ref m), (4, .int e), (7, .int r62), (8, .int r70), (9, .int r78), (10, .int y10_86)]) (st' := [.ref m]) [(146, .aload_n 0)] (by decide +kernel) rfl ?_
            refine zr_get (idx := 471) (k := 32) (v := .ref (m + 96)) (by decide +kernel) (by decide +kernel) hc56 rfl ?_
            refine zp_seg (pc' := 154) (lv' := [(0, .ref m), (4, .int e), (7, .int r62), (8, .int r70), (9, .int r78), (10, .int y10_86)]) (st' := [.int r62, .int y10_86, .ref (m + 96)]) [(150, .iload 10), (152, .iload 7)] (by decide +kernel) rfl ?_
            have hb69 : w56 (m + 96) = some (.inr (0, 120, .inl qa)) := (heq56 (m + 96) (zx_X16_lineFactor_2)).trans hA_m_96
            refine zr_iast (by decide +kernel) hb69 (zin (by first | omega | decide) (by first | omega | decide)) ?_
            show zP (d + 1) zq_X16_lineFactor 155 [(0, .ref m), (4, .int e), (7, .int r62), (8, .int r70), (9, .int r78), (10, .int y10_86)] [] (zup w56 (m + 96) (.inr (0, 120, .inl (upd qa (y10_86.toNatClampNeg) r62)))) sz 0 0 Post
            obtain ⟨w154, ew154⟩ : ∃ wz9, wz9 = zup w56 (m + 96) (.inr (0, 120, .inl (upd qa (y10_86.toNatClampNeg) r62))) := ⟨_, rfl⟩
            have hsi154 : zSI w56 w154 := by rw [ew154]; exact zSI.arr _ hb69
            have heq154 : ∀ x, x ≠ m + 96 → w154 x = w56 x := fun x hx => by rw [ew154]; exact zup_n hx
            have hc154 : w154 (m + 96) = some (.inr (0, 120, .inl (upd qa (y10_86.toNatClampNeg) r62))) := by rw [ew154]; exact zup_s
            rw [← ew154]
            clear ew154
            refine zp_seg (pc' := 156) (lv' := [(0, .ref m), (4, .int e), (7, .int r62), (8, .int r70), (9, .int r78), (10, .int y10_86)]) (st' := [.ref m]) [(155, .aload_n 0)] (by decide +kernel) rfl ?_
            have hb70 : w154 m = some (.inl (15, zMo m (zs g 37 r53) r)) := (heq154 m (zx_X16_lineFactor_10)).trans hc56
            refine zr_get (idx := 474) (k := 33) (v := .ref (m + 97)) (by decide +kernel) (by decide +kernel) hb70 rfl ?_
            refine zp_seg (pc' := 163) (lv' := [(0, .ref m), (4, .int e), (7, .int r62), (8, .int r70), (9, .int r78), (10, .int y10_86)]) (st' := [.int r70, .int y10_86, .ref (m + 97)]) [(159, .iload 10), (161, .iload 8)] (by decide +kernel) rfl ?_
            have hb71 : w154 (m + 97) = some (.inr (0, 120, .inl qb)) := ((heq154 (m + 97) (zx_X16_lineFactor_11)).trans (heq56 (m + 97) (zx_X16_lineFactor_4))).trans hA_m_97
            refine zr_iast (by decide +kernel) hb71 (zin (by first | omega | decide) (by first | omega | decide)) ?_
            show zP (d + 1) zq_X16_lineFactor 164 [(0, .ref m), (4, .int e), (7, .int r62), (8, .int r70), (9, .int r78), (10, .int y10_86)] [] (zup w154 (m + 97) (.inr (0, 120, .inl (upd qb (y10_86.toNatClampNeg) r70)))) sz 0 0 Post
            obtain ⟨w163, ew163⟩ : ∃ wz9, wz9 = zup w154 (m + 97) (.inr (0, 120, .inl (upd qb (y10_86.toNatClampNeg) r70))) := ⟨_, rfl⟩
            have hsi163 : zSI w154 w163 := by rw [ew163]; exact zSI.arr _ hb71
            have heq163 : ∀ x, x ≠ m + 97 → w163 x = w154 x := fun x hx => by rw [ew163]; exact zup_n hx
            have hc163 : w163 (m + 97) = some (.inr (0, 120, .inl (upd qb (y10_86.toNatClampNeg) r70))) := by rw [ew163]; exact zup_s
            rw [← ew163]
            clear ew163
            refine zp_seg (pc' := 165) (lv' := [(0, .ref m), (4, .int e), (7, .int r62), (8, .int r70), (9, .int r78), (10, .int y10_86)]) (st' := [.ref m]) [(164, .aload_n 0)] (by decide +kernel) rfl ?_
            have hb72 : w163 m = some (.inl (15, zMo m (zs g 37 r53) r)) := (heq163 m (zx_X16_lineFactor_12)).trans hb70
            refine zr_get (idx := 477) (k := 34) (v := .ref (m + 98)) (by decide +kernel) (by decide +kernel) hb72 rfl ?_
            refine zp_seg (pc' := 172) (lv' := [(0, .ref m), (4, .int e), (7, .int r62), (8, .int r70), (9, .int r78), (10, .int y10_86)]) (st' := [.int r78, .int y10_86, .ref (m + 98)]) [(168, .iload 10), (170, .iload 9)] (by decide +kernel) rfl ?_
            have hb73 : w163 (m + 98) = some (.inr (0, 120, .inl qc)) := ((heq163 (m + 98) (zx_X16_lineFactor_14)).trans ((heq154 (m + 98) (zx_X16_lineFactor_13)).trans (heq56 (m + 98) (zx_X16_lineFactor_6)))).trans hA_m_98
            refine zr_iast (by decide +kernel) hb73 (zin (by first | omega | decide) (by first | omega | decide)) ?_
            show zP (d + 1) zq_X16_lineFactor 173 [(0, .ref m), (4, .int e), (7, .int r62), (8, .int r70), (9, .int r78), (10, .int y10_86)] [] (zup w163 (m + 98) (.inr (0, 120, .inl (upd qc (y10_86.toNatClampNeg) r78)))) sz 0 0 Post
            obtain ⟨w172, ew172⟩ : ∃ wz9, wz9 = zup w163 (m + 98) (.inr (0, 120, .inl (upd qc (y10_86.toNatClampNeg) r78))) := ⟨_, rfl⟩
            have hsi172 : zSI w163 w172 := by rw [ew172]; exact zSI.arr _ hb73
            have heq172 : ∀ x, x ≠ m + 98 → w172 x = w163 x := fun x hx => by rw [ew172]; exact zup_n hx
            have hc172 : w172 (m + 98) = some (.inr (0, 120, .inl (upd qc (y10_86.toNatClampNeg) r78))) := by rw [ew172]; exact zup_s
            rw [← ew172]
            clear ew172
            refine zp_seg (pc' := 174) (lv' := [(0, .ref m), (4, .int e), (7, .int r62), (8, .int r70), (9, .int r78), (10, .int y10_86)]) (st' := [.ref m]) [(173, .aload_n 0)] (by decide +kernel) rfl ?_
            have hb74 : w172 m = some (.inl (15, zMo m (zs g 37 r53) r)) := (heq172 m (zx_X16_lineFactor_15)).trans hb72
            refine zr_get (idx := 480) (k := 35) (v := .ref (m + 99)) (by decide +kernel) (by decide +kernel) hb74 rfl ?_
            refine zp_seg (pc' := 180) (lv' := [(0, .ref m), (4, .int e), (7, .int r62), (8, .int r70), (9, .int r78), (10, .int y10_86)]) (st' := [.int 0, .int y10_86, .ref (m + 99)]) [(177, .iload 10), (179, .iconst 0)] (by decide +kernel) rfl ?_
            have hb75 : w172 (m + 99) = some (.inr (0, 120, .inl qe)) := ((heq172 (m + 99) (zx_X16_lineFactor_18)).trans ((heq163 (m + 99) (zx_X16_lineFactor_17)).trans ((heq154 (m + 99) (zx_X16_lineFactor_16)).trans (heq56 (m + 99) (zx_X16_lineFactor_0))))).trans hA_m_99
            refine zr_iast (by decide +kernel) hb75 (zin (by first | omega | decide) (by first | omega | decide)) ?_
            show zP (d + 1) zq_X16_lineFactor 181 [(0, .ref m), (4, .int e), (7, .int r62), (8, .int r70), (9, .int r78), (10, .int y10_86)] [] (zup w172 (m + 99) (.inr (0, 120, .inl (upd qe (y10_86.toNatClampNeg) 0)))) sz 0 0 Post
            obtain ⟨w180, ew180⟩ : ∃ wz9, wz9 = zup w172 (m + 99) (.inr (0, 120, .inl (upd qe (y10_86.toNatClampNeg) 0))) := ⟨_, rfl⟩
            have hsi180 : zSI w172 w180 := by rw [ew180]; exact zSI.arr _ hb75
            have heq180 : ∀ x, x ≠ m + 99 → w180 x = w172 x := fun x hx => by rw [ew180]; exact zup_n hx
            have hc180 : w180 (m + 99) = some (.inr (0, 120, .inl (upd qe (y10_86.toNatClampNeg) 0))) := by rw [ew180]; exact zup_s
            rw [← ew180]
            clear ew180
            refine zp_seg (pc' := 183) (lv' := [(0, .ref m), (4, .int e), (7, .int r62), (8, .int r70), (9, .int r78), (10, .int y10_86)]) (st' := [.ref m, .ref m]) [(181, .aload_n 0), (182, .dup)] (by decide +kernel) rfl ?_
            have hb76 : w180 m = some (.inl (15, zMo m (zs g 37 r53) r)) := (heq180 m (zx_X16_lineFactor_1)).trans hb74
            refine zr_get (idx := 616) (k := 36) (v := .int (g 36)) (by decide +kernel) (by decide +kernel) hb76 rfl ?_
            refine zp_seg (pc' := 188) (lv' := [(0, .ref m), (4, .int e), (7, .int r62), (8, .int r70), (9, .int r78), (10, .int y10_86)]) (st' := [.int ((g 36) + 1), .ref m]) [(186, .iconst 1), (187, .iadd)] (by decide +kernel) rfl ?_
            have k77 := zaddC ((g 36)) 1 (n := 1) (by decide) (by omega) (by omega)
            generalize ev188 : ((g 36) + 1 : Int32) = v188 at k77 ⊢
            have kv188 := zrng v188
            have hz78 : (v188.toNatClampNeg : Int) = v188.toInt := znat (by first | omega | decide)
            refine zr_put2 (idx := 616) (k := 36) (fs2 := zMo m (zs (zs g 36 v188) 37 r53) r) (by decide +kernel) (by decide +kernel) hb76 (Nat.le_of_ble_eq_true rfl) rfl rfl rfl ?_
            show zP (d + 1) zq_X16_lineFactor 191 [(0, .ref m), (4, .int e), (7, .int r62), (8, .int r70), (9, .int r78), (10, .int y10_86)] [] (zup w180 m (.inl (15, zMo m (zs (zs g 36 v188) 37 r53) r))) sz 0 0 Post
            obtain ⟨w188, ew188⟩ : ∃ wz9, wz9 = zup w180 m (.inl (15, zMo m (zs (zs g 36 v188) 37 r53) r)) := ⟨_, rfl⟩
            have hsi188 : zSI w180 w188 := by rw [ew188]; exact zSI.setG hb76 _ _
            have heq188 : ∀ x, x ≠ m → w188 x = w180 x := fun x hx => by rw [ew188]; exact zup_n hx
            have hc188 : w188 m = some (.inl (15, zMo m (zs (zs g 36 v188) 37 r53) r)) := by rw [ew188]; exact zup_s
            rw [← ew188]
            clear ew188
            refine zp_seg (pc' := 192) (lv' := [(0, .ref m), (4, .int e), (7, .int r62), (8, .int r70), (9, .int r78), (10, .int y10_86)]) (st' := [.ref m]) [(191, .aload_n 0)] (by decide +kernel) rfl ?_
            refine zr_get (idx := 480) (k := 35) (v := .ref (m + 99)) (by decide +kernel) (by decide +kernel) hc188 rfl ?_
            refine zp_seg (pc' := 198) (lv' := [(0, .ref m), (4, .int e), (7, .int r62), (8, .int r70), (9, .int r78), (10, .int y10_86)]) (st' := [.int y10_86, .ref (m + 99), .int y10_86, .ref (m + 99)]) [(195, .iload 10), (197, .dup2)] (by decide +kernel) rfl ?_
            have hb79 : w188 (m + 99) = some (.inr (0, 120, .inl (upd qe (y10_86.toNatClampNeg) 0))) := (heq188 (m + 99) (zx_X16_lineFactor_0)).trans hc180
            refine zr_iald (by decide +kernel) hb79 (zin (by first | omega | decide) (by first | omega | decide)) ?_
            obtain ⟨x198, ex198⟩ : ∃ x9, x9 = (upd qe (y10_86.toNatClampNeg) 0) (y10_86.toNatClampNeg) := ⟨_, rfl⟩
            rw [← ex198]
            have kx198 := zrng x198
            refine zp_seg (pc' := 202) (lv' := [(0, .ref m), (4, .int e), (7, .int r62), (8, .int r70), (9, .int r78), (10, .int y10_86)]) (st' := [.int (x198 + e), .int y10_86, .ref (m + 99)]) [(199, .iload 4), (201, .iadd)] (by decide +kernel) rfl ?_
            have k80 := zaddM x198 e
            generalize ev202 : (x198 + e : Int32) = v202 at k80 ⊢
            have kv202 := zrng v202
            refine zr_iast (by decide +kernel) hb79 (zin (by first | omega | decide) (by first | omega | decide)) ?_
            show zP (d + 1) zq_X16_lineFactor 203 [(0, .ref m), (4, .int e), (7, .int r62), (8, .int r70), (9, .int r78), (10, .int y10_86)] [] (zup w188 (m + 99) (.inr (0, 120, .inl (upd (upd qe (y10_86.toNatClampNeg) 0) (y10_86.toNatClampNeg) v202)))) sz 0 0 Post
            obtain ⟨w202, ew202⟩ : ∃ wz9, wz9 = zup w188 (m + 99) (.inr (0, 120, .inl (upd (upd qe (y10_86.toNatClampNeg) 0) (y10_86.toNatClampNeg) v202))) := ⟨_, rfl⟩
            have hsi202 : zSI w188 w202 := by rw [ew202]; exact zSI.arr _ hb79
            have heq202 : ∀ x, x ≠ m + 99 → w202 x = w188 x := fun x hx => by rw [ew202]; exact zup_n hx
            have hc202 : w202 (m + 99) = some (.inr (0, 120, .inl (upd (upd qe (y10_86.toNatClampNeg) 0) (y10_86.toNatClampNeg) v202))) := by rw [ew202]; exact zup_s
            rw [← ew202]
            clear ew202
            have hb81 : w202 m = some (.inl (15, zMo m (zs (zs g 36 v188) 37 r53) r)) := (heq202 m (zx_X16_lineFactor_1)).trans hc188
            have hb82 : w202 (m + 96) = some (.inr (0, 120, .inl (upd qa (y10_86.toNatClampNeg) r62))) := ((heq202 (m + 96) (zx_X16_lineFactor_3)).trans ((heq188 (m + 96) (zx_X16_lineFactor_2)).trans ((heq180 (m + 96) (zx_X16_lineFactor_3)).trans ((heq172 (m + 96) (zx_X16_lineFactor_20)).trans (heq163 (m + 96) (zx_X16_lineFactor_19)))))).trans hc154
            have hb83 : w202 (m + 97) = some (.inr (0, 120, .inl (upd qb (y10_86.toNatClampNeg) r70))) := ((heq202 (m + 97) (zx_X16_lineFactor_5)).trans ((heq188 (m + 97) (zx_X16_lineFactor_4)).trans ((heq180 (m + 97) (zx_X16_lineFactor_5)).trans (heq172 (m + 97) (zx_X16_lineFactor_21))))).trans hc163
            have hb84 : w202 (m + 98) = some (.inr (0, 120, .inl (upd qc (y10_86.toNatClampNeg) r78))) := ((heq202 (m + 98) (zx_X16_lineFactor_7)).trans ((heq188 (m + 98) (zx_X16_lineFactor_6)).trans (heq180 (m + 98) (zx_X16_lineFactor_7)))).trans hc172
            have hoffend : ∀ x, (x < m ∨ m + 1 ≤ x) ∧ (x < m + 96 ∨ m + 96 + 4 ≤ x) → w202 x = w x := fun x hx => ((heq202 x (zx_X16_lineFactor_9 hx.2)).trans ((heq188 x (zx_X16_lineFactor_8 hx.1)).trans ((heq180 x (zx_X16_lineFactor_9 hx.2)).trans ((heq172 x (zx_X16_lineFactor_24 hx.2)).trans ((heq163 x (zx_X16_lineFactor_23 hx.2)).trans ((heq154 x (zx_X16_lineFactor_22 hx.2)).trans (heq56 x (zx_X16_lineFactor_8 hx.1))))))))
            refine zr_retV (by decide +kernel) rfl ?_
            rw [← hPost]; exact ⟨rfl, _, rfl, v188, r53, (upd qa (y10_86.toNatClampNeg) r62), (upd qb (y10_86.toNatClampNeg) r70), (upd qc (y10_86.toNatClampNeg) r78), (upd (upd qe (y10_86.toNatClampNeg) 0) (y10_86.toNatClampNeg) v202), ((((((hsi56.tr hsi154).tr hsi163).tr hsi172).tr hsi180).tr hsi188).tr hsi202), hoffend, hb81, hb82, hb83, hb84, hc202, (by
                  first
                  | exact ⟨⟨by omega, by omega⟩, ⟨hr53.1, hN9⟩, hqs⟩
                  | (refine ⟨⟨by omega, by omega⟩, ⟨hr53.1, hN9⟩, ?_⟩
                     have e9 : y10_86.toNatClampNeg = (g 36).toNatClampNeg := by rw [cc143]
                     rw [e9]
                     refine zQs_up hqs (by omega) hr62.1 hr70.1 hr78.1 ?_
                     first
                     | exact Or.inl (zmul_nz h_a hr36.1 hr62.2 cc13 (zinv_nz h_a cc13 hr36.2))
                     | exact Or.inr (zmul_nz h_b hr36.1 hr70.2 cc13 (zinv_nz h_b cc13 hr36.2)))), rfl⟩
        refine zp_if (i := .if_icmp .ge 45) (c := (g 36) ≤ y10_86) (t := 137) (e := 95) (lv' := [(0, .ref m), (4, .int e), (7, .int r62), (8, .int r70), (9, .int r78), (10, .int y10_86)]) (st' := []) (by decide +kernel) rfl (fun cc92 => ?_) (fun cc92 => ?_)
        ·
          have f85 := zleI cc92
          exact (hJ137 trivial (by first | assumption | omega | decide) (by first | assumption | omega | decide)).more (zfa1 rfl (zfa1 rfl (zfa1 rfl (zfa1 rfl (zfa1 rfl (zfa1 rfl (zfa0)))))))
        ·
          have f86 := znleI cc92
          refine zp_seg (pc' := 96) (lv' := [(0, .ref m), (4, .int e), (7, .int r62), (8, .int r70), (9, .int r78), (10, .int y10_86)]) (st' := [.ref m]) [(95, .aload_n 0)] (by decide +kernel) rfl ?_
          refine zr_get (idx := 471) (k := 32) (v := .ref (m + 96)) (by decide +kernel) (by decide +kernel) hc56 rfl ?_
          refine zp_seg (pc' := 101) (lv' := [(0, .ref m), (4, .int e), (7, .int r62), (8, .int r70), (9, .int r78), (10, .int y10_86)]) (st' := [.int y10_86, .ref (m + 96)]) [(99, .iload 10)] (by decide +kernel) rfl ?_
          have hb87 : w56 (m + 96) = some (.inr (0, 120, .inl qa)) := (heq56 (m + 96) (zx_X16_lineFactor_2)).trans hA_m_96
          refine zr_iald (by decide +kernel) hb87 (zin (by first | omega | decide) (by first | omega | decide)) ?_
          obtain ⟨x101, ex101⟩ : ∃ x9, x9 = qa (y10_86.toNatClampNeg) := ⟨_, rfl⟩
          rw [← ex101]
          have kx101 := zrng x101
          refine zp_seg (pc' := 104) (lv' := [(0, .ref m), (4, .int e), (7, .int r62), (8, .int r70), (9, .int r78), (10, .int y10_86)]) (st' := [.int r62, .int x101]) [(102, .iload 7)] (by decide +kernel) rfl ?_
          refine zp_if (i := .if_icmp .ne 27) (c := ¬ x101 = r62) (t := 131) (e := 107) (lv' := [(0, .ref m), (4, .int e), (7, .int r62), (8, .int r70), (9, .int r78), (10, .int y10_86)]) (st' := []) (by decide +kernel) rfl (fun cc104 => ?_) (fun cc104 => ?_)
          ·
            have f88 := zneI cc104
            refine zp_seg (pc' := 134) (lv' := [(10, .int (y10_86 + 1)), (0, .ref m), (4, .int e), (7, .int r62), (8, .int r70), (9, .int r78)]) (st' := []) [(131, .iinc 10 1)] (by decide +kernel) rfl ?_
            have k89 := zaddC y10_86 1 (n := 1) (by decide) (by omega) (by omega)
            generalize ev134 : (y10_86 + 1 : Int32) = v134 at k89 ⊢
            have kv134 := zrng v134
            refine zp_seg (pc' := 86) (lv' := [(10, .int v134), (0, .ref m), (4, .int e), (7, .int r62), (8, .int r70), (9, .int r78)]) (st' := []) [(134, .goto (-48))] (by decide +kernel) rfl ?_
            have hz90 : (v134.toNatClampNeg : Int) = v134.toInt := znat (by first | omega | decide)
            exact (ih86 v134 (by first | assumption | omega | decide) (by first | assumption | omega | decide) (by omega)).more (zfa1 rfl (zfa1 rfl (zfa1 rfl (zfa1 rfl (zfa1 rfl (zfa1 rfl (zfa0)))))))
          ·
            replace cc104 := Classical.not_not.mp cc104
            have f91 := zeqI cc104
            refine zp_seg (pc' := 108) (lv' := [(0, .ref m), (4, .int e), (7, .int r62), (8, .int r70), (9, .int r78), (10, .int y10_86)]) (st' := [.ref m]) [(107, .aload_n 0)] (by decide +kernel) rfl ?_
            refine zr_get (idx := 474) (k := 33) (v := .ref (m + 97)) (by decide +kernel) (by decide +kernel) hc56 rfl ?_
            refine zp_seg (pc' := 113) (lv' := [(0, .ref m), (4, .int e), (7, .int r62), (8, .int r70), (9, .int r78), (10, .int y10_86)]) (st' := [.int y10_86, .ref (m + 97)]) [(111, .iload 10)] (by decide +kernel) rfl ?_
            have hb92 : w56 (m + 97) = some (.inr (0, 120, .inl qb)) := (heq56 (m + 97) (zx_X16_lineFactor_4)).trans hA_m_97
            refine zr_iald (by decide +kernel) hb92 (zin (by first | omega | decide) (by first | omega | decide)) ?_
            obtain ⟨x113, ex113⟩ : ∃ x9, x9 = qb (y10_86.toNatClampNeg) := ⟨_, rfl⟩
            rw [← ex113]
            have kx113 := zrng x113
            refine zp_seg (pc' := 116) (lv' := [(0, .ref m), (4, .int e), (7, .int r62), (8, .int r70), (9, .int r78), (10, .int y10_86)]) (st' := [.int r70, .int x113]) [(114, .iload 8)] (by decide +kernel) rfl ?_
            refine zp_if (i := .if_icmp .ne 15) (c := ¬ x113 = r70) (t := 131) (e := 119) (lv' := [(0, .ref m), (4, .int e), (7, .int r62), (8, .int r70), (9, .int r78), (10, .int y10_86)]) (st' := []) (by decide +kernel) rfl (fun cc116 => ?_) (fun cc116 => ?_)
            ·
              have f93 := zneI cc116
              refine zp_seg (pc' := 134) (lv' := [(10, .int (y10_86 + 1)), (0, .ref m), (4, .int e), (7, .int r62), (8, .int r70), (9, .int r78)]) (st' := []) [(131, .iinc 10 1)] (by decide +kernel) rfl ?_
              have k94 := zaddC y10_86 1 (n := 1) (by decide) (by omega) (by omega)
              generalize ev134 : (y10_86 + 1 : Int32) = v134 at k94 ⊢
              have kv134 := zrng v134
              refine zp_seg (pc' := 86) (lv' := [(10, .int v134), (0, .ref m), (4, .int e), (7, .int r62), (8, .int r70), (9, .int r78)]) (st' := []) [(134, .goto (-48))] (by decide +kernel) rfl ?_
              have hz95 : (v134.toNatClampNeg : Int) = v134.toInt := znat (by first | omega | decide)
              exact (ih86 v134 (by first | assumption | omega | decide) (by first | assumption | omega | decide) (by omega)).more (zfa1 rfl (zfa1 rfl (zfa1 rfl (zfa1 rfl (zfa1 rfl (zfa1 rfl (zfa0)))))))
            ·
              replace cc116 := Classical.not_not.mp cc116
              have f96 := zeqI cc116
              refine zp_seg (pc' := 120) (lv' := [(0, .ref m), (4, .int e), (7, .int r62), (8, .int r70), (9, .int r78), (10, .int y10_86)]) (st' := [.ref m]) [(119, .aload_n 0)] (by decide +kernel) rfl ?_
              refine zr_get (idx := 477) (k := 34) (v := .ref (m + 98)) (by decide +kernel) (by decide +kernel) hc56 rfl ?_
              refine zp_seg (pc' := 125) (lv' := [(0, .ref m), (4, .int e), (7, .int r62), (8, .int r70), (9, .int r78), (10, .int y10_86)]) (st' := [.int y10_86, .ref (m + 98)]) [(123, .iload 10)] (by decide +kernel) rfl ?_
              have hb97 : w56 (m + 98) = some (.inr (0, 120, .inl qc)) := (heq56 (m + 98) (zx_X16_lineFactor_6)).trans hA_m_98
              refine zr_iald (by decide +kernel) hb97 (zin (by first | omega | decide) (by first | omega | decide)) ?_
              obtain ⟨x125, ex125⟩ : ∃ x9, x9 = qc (y10_86.toNatClampNeg) := ⟨_, rfl⟩
              rw [← ex125]
              have kx125 := zrng x125
              refine zp_seg (pc' := 128) (lv' := [(0, .ref m), (4, .int e), (7, .int r62), (8, .int r70), (9, .int r78), (10, .int y10_86)]) (st' := [.int r78, .int x125]) [(126, .iload 9)] (by decide +kernel) rfl ?_
              refine zp_if (i := .if_icmp .eq 9) (c := x125 = r78) (t := 137) (e := 131) (lv' := [(0, .ref m), (4, .int e), (7, .int r62), (8, .int r70), (9, .int r78), (10, .int y10_86)]) (st' := []) (by decide +kernel) rfl (fun cc128 => ?_) (fun cc128 => ?_)
              ·
                have f98 := zeqI cc128
                exact (hJ137 trivial (by first | assumption | omega | decide) (by first | assumption | omega | decide)).more (zfa1 rfl (zfa1 rfl (zfa1 rfl (zfa1 rfl (zfa1 rfl (zfa1 rfl (zfa0)))))))
              ·
                have f99 := zneI cc128
                refine zp_seg (pc' := 134) (lv' := [(10, .int (y10_86 + 1)), (0, .ref m), (4, .int e), (7, .int r62), (8, .int r70), (9, .int r78)]) (st' := []) [(131, .iinc 10 1)] (by decide +kernel) rfl ?_
                have k100 := zaddC y10_86 1 (n := 1) (by decide) (by omega) (by omega)
                generalize ev134 : (y10_86 + 1 : Int32) = v134 at k100 ⊢
                have kv134 := zrng v134
                refine zp_seg (pc' := 86) (lv' := [(10, .int v134), (0, .ref m), (4, .int e), (7, .int r62), (8, .int r70), (9, .int r78)]) (st' := []) [(134, .goto (-48))] (by decide +kernel) rfl ?_
                have hz101 : (v134.toNatClampNeg : Int) = v134.toInt := znat (by first | omega | decide)
                exact (ih86 v134 (by first | assumption | omega | decide) (by first | assumption | omega | decide) (by omega)).more (zfa1 rfl (zfa1 rfl (zfa1 rfl (zfa1 rfl (zfa1 rfl (zfa1 rfl (zfa0)))))))
      have hl102 : (0 : Int32).toInt = 0 := by decide
      have hz103 : ((0 : Int32).toNatClampNeg : Int) = 0 := by decide
      exact (hL86 _ 0 (by first | assumption | omega | decide) (by first | assumption | omega | decide) (Nat.lt_succ_self _)).more (zfa1 rfl (zfa1 rfl (zfa1 rfl (zfa1 rfl (zfa1 rfl (zfa1 rfl (zfa0)))))))
    ·
      replace cc13 := Classical.not_not.mp cc13
      exact absurd cc13 cc1
