theorem zx_X16_settle_0 {den num x : Nat} (h0 : den ≤ x) (h1 : x < den + 130) (h2 : num + 130 ≤ den ∨ den + 130 ≤ num) : x < num ∨ num + 130 ≤ x := by omega
theorem zx_X16_settle_1 {den num x : Nat} (h0 : num ≤ x) (h1 : x < num + 130) (h2 : num + 130 ≤ den ∨ den + 130 ≤ num) : x < den ∨ den + 130 ≤ x := by omega
set_option maxHeartbeats 8000000 in
set_option maxRecDepth 100000 in
theorem c_X16_settle {w : zM} {p q : zA2} (num : Nat) (den : Nat) (hB_num : zB w num p) (hB_den : zB w den q) (hnd : num + 130 ≤ den ∨ den + 130 ≤ num) (hq0 : 0 < zrw q) : zCon 4 zq_X16_settle [.ref num, .ref den] w (fun v9 w9' => ∃ P9 : zA2, ∃ Q9 : zA2, zSI w w9' ∧ (∀ x, (x < num ∨ num + 130 ≤ x) ∧ (x < den ∨ den + 130 ≤ x) → w9' x = w x) ∧ zB w9' num P9 ∧ zB w9' den Q9 ∧ (zLe P9 p ∧ zLe Q9 q) ∧ v9 = none) := by
  intro d sz hd
  obtain ⟨d, rfl⟩ : ∃ d9, d = d9 + 1 := ⟨d - 1, by omega⟩
  generalize hPost : (fun (r9' : Option (Option Value)) (w9' : zM) (z9 : Nat) => z9 = sz ∧ ∃ v9, r9' = some v9 ∧ (∃ P9 : zA2, ∃ Q9 : zA2, zSI w w9' ∧ (∀ x, (x < num ∨ num + 130 ≤ x) ∧ (x < den ∨ den + 130 ≤ x) → w9' x = w x) ∧ zB w9' num P9 ∧ zB w9' den Q9 ∧ (zLe P9 p ∧ zLe Q9 q) ∧ v9 = none)) = Post
  show zP (d + 1) zq_X16_settle 0 [(0, .ref num), (1, .ref den)] [] w sz 0 0 Post
  refine zp_seg (pc' := 1) (lv' := [(0, .ref num), (1, .ref den)]) (st' := [.ref num]) [(0, .aload_n 0)] (by decide +kernel) rfl ?_
  obtain ⟨n1, hb2, hb3, hb4, hb5, -⟩ := id hB_num
  have kn1 := zrng n1
  refine zr_get (idx := 93) (k := 1) (v := .int n1) (by decide +kernel) (by decide +kernel) hb2 rfl ?_
  refine zp_if (i := .ifCond .ne 11) (c := ¬ n1 = 0) (t := 15) (e := 7) (lv' := [(0, .ref num), (1, .ref den)]) (st' := []) (by decide +kernel) rfl (fun cc4 => ?_) (fun cc4 => ?_)
  ·
    have f7 := zneI cc4
    rw [show (0 : Int32).toInt = 0 from by decide] at f7
    refine zp_seg (pc' := 16) (lv' := [(0, .ref num), (1, .ref den)]) (st' := [.ref den]) [(15, .aload_n 1)] (by decide +kernel) rfl ?_
    obtain ⟨n8, hb9, hb10, hb11, hb12, -⟩ := id hB_den
    have kn8 := zrng n8
    refine zr_callV (idx := 181) (j := 247) (by decide +kernel) (by decide +kernel) (show zMe 247 = some zq_X12_head from rfl) rfl rfl (Nat.le_of_ble_eq_true rfl) rfl rfl hb9 (Nat.le_of_ble_eq_true rfl) (Nat.le_of_ble_eq_true rfl) (c_X12_head (w := w) den hB_den) (by omega) (fun v16 w16 hp16 => ?_)
    obtain ⟨hpw16, r16, rfl, hr16⟩ := hp16
    replace hpw16 := hpw16.symm
    subst hpw16
    have kr16 := zrng r16
    show zP _ _ _ _ [.int r16] _ _ _ _ _
    refine zr_callS (idx := 13) (j := 259) (by decide +kernel) (by decide +kernel) (by decide) (show zMe 259 = some zq_X16_inv from rfl) rfl rfl (Nat.le_of_ble_eq_true rfl) rfl rfl (Nat.le_of_ble_eq_true rfl) (Nat.le_of_ble_eq_true rfl) (c_X16_inv (w := w) r16 (by first | exact hr16.1 | omega | decide | assumption | exact zr1_1 | exact zr1_0 | fail "num")) (by omega) (fun v19 w19 hp19 => ?_)
    obtain ⟨hpw19, r19, rfl, hr19⟩ := hp19
    replace hpw19 := hpw19.symm
    subst hpw19
    have kr19 := zrng r19
    show zP _ _ _ _ [.int r19] _ _ _ _ _
    refine zp_seg (pc' := 26) (lv' := [(2, .int r19), (0, .ref num), (1, .ref den)]) (st' := [.int r19, .ref num, .ref num]) [(22, .istore_n 2), (23, .aload_n 0), (24, .aload_n 0), (25, .iload_n 2)] (by decide +kernel) rfl ?_
    have ho26_to := zB.o hB_num
    refine zr_callS (idx := 182) (j := 277) (by decide +kernel) (by decide +kernel) (by decide) (show zMe 277 = some zq_X16_scale_ from rfl) rfl rfl (Nat.le_of_ble_eq_true rfl) rfl rfl (Nat.le_of_ble_eq_true rfl) (Nat.le_of_ble_eq_true rfl) (c_X16_scale_ (w := w) num num r19 ho26_to hB_num (by first | omega | decide | assumption | exact zr1_1 | exact zr1_0 | fail "num") (by first | exact hr19.1 | omega | decide | assumption | exact zr1_1 | exact zr1_0 | fail "num")) (by omega) (fun v26 w26 hp26 => ?_)
    obtain ⟨hsi26, heq26, hp26_0, rfl⟩ := hp26
    show zP _ _ _ _ [] _ _ _ _ _
    refine zp_seg (pc' := 32) (lv' := [(2, .int r19), (0, .ref num), (1, .ref den)]) (st' := [.int r19, .ref den, .ref den]) [(29, .aload_n 1), (30, .aload_n 1), (31, .iload_n 2)] (by decide +kernel) rfl ?_
    have hb13 : zB w26 den q := hB_den.ag (fun x hx1 hx2 => (heq26 x (zx_X16_settle_0 hx1 hx2 hnd)))
    have ho32_to := zB.o hb13
    refine zr_callS (idx := 182) (j := 277) (by decide +kernel) (by decide +kernel) (by decide) (show zMe 277 = some zq_X16_scale_ from rfl) rfl rfl (Nat.le_of_ble_eq_true rfl) rfl rfl (Nat.le_of_ble_eq_true rfl) (Nat.le_of_ble_eq_true rfl) (c_X16_scale_ (w := w26) den den r19 ho32_to hb13 (by first | omega | decide | assumption | exact zr1_1 | exact zr1_0 | fail "num") (by first | exact hr19.1 | omega | decide | assumption | exact zr1_1 | exact zr1_0 | fail "num")) (by omega) (fun v32 w32 hp32 => ?_)
    obtain ⟨hsi32, heq32, hp32_0, rfl⟩ := hp32
    show zP _ _ _ _ [] _ _ _ _ _
    have hoffend : ∀ x, (x < num ∨ num + 130 ≤ x) ∧ (x < den ∨ den + 130 ≤ x) → w32 x = w x := fun x hx => ((heq32 x hx.2).trans (heq26 x hx.1))
    have hb14 : zB w32 num (zbM (zbC (zaC (zf r19))) p) := hp26_0.ag (fun x hx1 hx2 => (heq32 x (zx_X16_settle_1 hx1 hx2 hnd)))
    refine zr_retV (by decide +kernel) rfl ?_
    rw [← hPost]; exact ⟨rfl, _, rfl, (zbM (zbC (zaC (zf r19))) p), (zbM (zbC (zaC (zf r19))) q), (hsi26.tr hsi32), hoffend, (by first | exact hb14 | (have z9 := hb14; simpa using z9)), (by first | exact hp32_0 | (have z9 := hp32_0; simpa using z9)), (by
          first
          | exact ⟨zLe.rf, by rw [zf_1]; exact zLe_1 hq0⟩
          | (have hcn9 : zf r19 ≠ 0 := by rw [hr19.2, hr16.2]; exact zinvF_nz (zhB_nz hq0)
             exact ⟨zLe_c hcn9 p, zLe_c hcn9 q⟩)), rfl⟩
  ·
    replace cc4 := Classical.not_not.mp cc4
    have f16 := zeqI cc4
    rw [show (0 : Int32).toInt = 0 from by decide] at f16
    refine zp_seg (pc' := 9) (lv' := [(0, .ref num), (1, .ref den)]) (st' := [.int 1, .ref den]) [(7, .aload_n 1), (8, .iconst 1)] (by decide +kernel) rfl ?_
    have ho9_b := zB.o hB_den
    obtain ⟨n17, hb18, hb19, hb20, hb21, -⟩ := id hB_den
    have kn17 := zrng n17
    refine zr_callV (idx := 158) (j := 245) (by decide +kernel) (by decide +kernel) (show zMe 245 = some zq_X12_number from rfl) rfl rfl (Nat.le_of_ble_eq_true rfl) rfl rfl hb18 (Nat.le_of_ble_eq_true rfl) (Nat.le_of_ble_eq_true rfl) (c_X12_number (w := w) den 1 ho9_b (by exact zr1_1)) (by omega) (fun v9 w9 hp9 => ?_)
    obtain ⟨hsi9, heq9, hp9_0, rfl⟩ := hp9
    show zP _ _ _ _ [] _ _ _ _ _
    refine zp_seg (pc' := 35) (lv' := [(0, .ref num), (1, .ref den)]) (st' := []) [(12, .goto 23)] (by decide +kernel) rfl ?_
    have hoffend : ∀ x, (x < num ∨ num + 130 ≤ x) ∧ (x < den ∨ den + 130 ≤ x) → w9 x = w x := fun x hx => (heq9 x hx.2)
    have hb22 : zB w9 num p := hB_num.ag (fun x hx1 hx2 => (heq9 x (zx_X16_settle_1 hx1 hx2 hnd)))
    refine zr_retV (by decide +kernel) rfl ?_
    rw [← hPost]; exact ⟨rfl, _, rfl, p, (zbC (zaC (zf 1))), hsi9, hoffend, (by first | exact hb22 | (have z9 := hb22; simpa using z9)), (by first | exact hp9_0 | (have z9 := hp9_0; simpa using z9)), (by
          first
          | exact ⟨zLe.rf, by rw [zf_1]; exact zLe_1 hq0⟩
          | (have hcn9 : zf r19 ≠ 0 := by rw [hr19.2, hr16.2]; exact zinvF_nz (zhB_nz hq0)
             exact ⟨zLe_c hcn9 p, zLe_c hcn9 q⟩)), rfl⟩

theorem zx_X16_cancel_0 {G3_0 a m : Nat} (h0 : m + 596 ≤ a ∧ a + 130 ≤ m + 596 + 130 * G3_0) (h1 : G3_0 + 6 ≤ 44) : a < m ∨ m + 1 ≤ a := by omega
theorem zx_X16_cancel_1 {G3_0 a m : Nat} (h0 : m + 596 ≤ a ∧ a + 130 ≤ m + 596 + 130 * G3_0) (h1 : G3_0 + 6 ≤ 44) : a < m + 596 + 130 * G3_0 ∨ m + 596 + 130 * G3_0 + 130 ≤ a := by omega
theorem zx_X16_cancel_2 {G3_0 G3_1 a m : Nat} (h0 : m + 596 ≤ a ∧ a + 130 ≤ m + 596 + 130 * G3_0) (h1 : G3_1 = G3_0 + 1) (h2 : G3_0 + 6 ≤ 44) : a < m + 596 + 130 * G3_1 ∨ m + 596 + 130 * G3_1 + 130 ≤ a := by omega
theorem zx_X16_cancel_3 {m x : Nat} (h0 : x ≠ m) : x < m ∨ m + 1 ≤ x := by omega
theorem zx_X16_cancel_4 {G3_0 b m x : Nat} (h0 : x < b ∨ b + 130 ≤ x) (h1 : x < m + 596 + 130 * G3_0 ∨ m + 596 + 130 * G3_0 + (5720 - 130 * G3_0) ≤ x) (h2 : x < m + 5 ∨ m + 5 + 64 ≤ x) (h3 : m + 596 ≤ b ∧ b + 130 ≤ m + 596 + 130 * G3_0) (h4 : G3_0 + 6 ≤ 44) : x < m + 596 + 130 * G3_0 ∨ m + 596 + 130 * G3_0 + 130 ≤ x := by omega
theorem zx_X16_cancel_5 {G3_0 G3_1 b m x : Nat} (h0 : x < b ∨ b + 130 ≤ x) (h1 : x < m + 596 + 130 * G3_0 ∨ m + 596 + 130 * G3_0 + (5720 - 130 * G3_0) ≤ x) (h2 : x < m + 5 ∨ m + 5 + 64 ≤ x) (h3 : m + 596 ≤ b ∧ b + 130 ≤ m + 596 + 130 * G3_0) (h4 : G3_1 = G3_0 + 1) (h5 : G3_0 + 6 ≤ 44) : x < m + 596 + 130 * G3_1 ∨ m + 596 + 130 * G3_1 + 130 ≤ x := by omega
theorem zx_X16_cancel_6 {G3_0 a m x : Nat} (h0 : a ≤ x) (h1 : x < a + 130) (h2 : m + 596 ≤ a ∧ a + 130 ≤ m + 596 + 130 * G3_0) (h3 : G3_0 + 6 ≤ 44) : x < m ∨ m + 1 ≤ x := by omega
theorem zx_X16_cancel_7 {G3_0 a m x : Nat} (h0 : a ≤ x) (h1 : x < a + 130) (h2 : m + 596 ≤ a ∧ a + 130 ≤ m + 596 + 130 * G3_0) (h3 : G3_0 + 6 ≤ 44) : x < m + 596 + 130 * G3_0 ∨ m + 596 + 130 * G3_0 + 130 ≤ x := by omega
theorem zx_X16_cancel_8 {G3_0 G3_1 a m x : Nat} (h0 : a ≤ x) (h1 : x < a + 130) (h2 : m + 596 ≤ a ∧ a + 130 ≤ m + 596 + 130 * G3_0) (h3 : G3_1 = G3_0 + 1) (h4 : G3_0 + 6 ≤ 44) : x < m + 596 + 130 * G3_1 ∨ m + 596 + 130 * G3_1 + 130 ≤ x := by omega
theorem zx_X16_cancel_9 {G3_0 a m x : Nat} (h0 : a ≤ x) (h1 : x < a + 130) (h2 : m + 596 ≤ a ∧ a + 130 ≤ m + 596 + 130 * G3_0) (h3 : G3_0 + 6 ≤ 44) : x ≠ m := by omega
theorem zx_X16_cancel_10 {G3_0 b m x : Nat} (h0 : b ≤ x) (h1 : x < b + 130) (h2 : m + 596 ≤ b ∧ b + 130 ≤ m + 596 + 130 * G3_0) (h3 : G3_0 + 6 ≤ 44) : x < m ∨ m + 1 ≤ x := by omega
theorem zx_X16_cancel_11 {G3_0 b m x : Nat} (h0 : b ≤ x) (h1 : x < b + 130) (h2 : m + 596 ≤ b ∧ b + 130 ≤ m + 596 + 130 * G3_0) (h3 : G3_0 + 6 ≤ 44) : x < m + 596 + 130 * G3_0 ∨ m + 596 + 130 * G3_0 + 130 ≤ x := by omega
theorem zx_X16_cancel_12 {G3_0 G3_1 b m x : Nat} (h0 : b ≤ x) (h1 : x < b + 130) (h2 : m + 596 ≤ b ∧ b + 130 ≤ m + 596 + 130 * G3_0) (h3 : G3_1 = G3_0 + 1) (h4 : G3_0 + 6 ≤ 44) : x < m + 596 + 130 * G3_1 ∨ m + 596 + 130 * G3_1 + 130 ≤ x := by omega
theorem zx_X16_cancel_13 {G3_0 b m x : Nat} (h0 : b ≤ x) (h1 : x < b + 130) (h2 : m + 596 ≤ b ∧ b + 130 ≤ m + 596 + 130 * G3_0) (h3 : G3_0 + 6 ≤ 44) : x ≠ m := by omega
theorem zx_X16_cancel_14 {G3_0 m x : Nat} (h0 : m + 596 + 130 * G3_0 ≤ x) (h1 : x < m + 596 + 130 * G3_0 + 130) (h2 : G3_0 + 6 ≤ 44) : x < m ∨ m + 1 ≤ x := by omega
theorem zx_X16_cancel_15 {G3_0 G3_1 m x : Nat} (h0 : m + 596 + 130 * G3_0 ≤ x) (h1 : x < m + 596 + 130 * G3_0 + 130) (h2 : G3_1 = G3_0 + 1) (h3 : G3_0 + 6 ≤ 44) : x < m + 596 + 130 * G3_1 ∨ m + 596 + 130 * G3_1 + 130 ≤ x := by omega
theorem zx_X16_cancel_16 {G3_0 m : Nat} (h0 : G3_0 + 6 ≤ 44) : m < m + 596 + 130 * G3_0 ∨ m + 596 + 130 * G3_0 + 130 ≤ m := by omega
theorem zx_X16_cancel_17 {G1_0 m : Nat} (h0 : G1_0 + 9 ≤ 160) : m < m + 276 + 2 * G1_0 ∨ m + 276 + 2 * G1_0 + (320 - 2 * G1_0) ≤ m := by omega
theorem zx_X16_cancel_18 {G3_0 G3_2 m : Nat} (h0 : G3_2 = G3_0 + 2) (h1 : G3_0 + 6 ≤ 44) : m < m + 596 + 130 * G3_2 ∨ m + 596 + 130 * G3_2 + (5720 - 130 * G3_2) ≤ m := by omega
theorem zx_X16_cancel_19 {m : Nat}  : m < m + 3 ∨ m + 3 + 1 ≤ m := by omega
theorem zx_X16_cancel_20 {m : Nat}  : m < m + 5 ∨ m + 5 + 64 ≤ m := by omega
theorem zx_X16_cancel_21 {G3_0 G3_2 b m x : Nat} (h0 : x < b ∨ b + 130 ≤ x) (h1 : x < m + 596 + 130 * G3_0 ∨ m + 596 + 130 * G3_0 + (5720 - 130 * G3_0) ≤ x) (h2 : x < m + 5 ∨ m + 5 + 64 ≤ x) (h3 : m + 596 ≤ b ∧ b + 130 ≤ m + 596 + 130 * G3_0) (h4 : G3_2 = G3_0 + 2) (h5 : G3_0 + 6 ≤ 44) : x < m + 596 + 130 * G3_2 ∨ m + 596 + 130 * G3_2 + (5720 - 130 * G3_2) ≤ x := by omega
theorem zx_X16_cancel_22 {G1_0 G3_0 a m x : Nat} (h0 : a ≤ x) (h1 : x < a + 130) (h2 : m + 596 ≤ a ∧ a + 130 ≤ m + 596 + 130 * G3_0) (h3 : G1_0 + 9 ≤ 160) (h4 : G3_0 + 6 ≤ 44) : x < m + 276 + 2 * G1_0 ∨ m + 276 + 2 * G1_0 + (320 - 2 * G1_0) ≤ x := by omega
theorem zx_X16_cancel_23 {G3_0 G3_2 a m x : Nat} (h0 : a ≤ x) (h1 : x < a + 130) (h2 : m + 596 ≤ a ∧ a + 130 ≤ m + 596 + 130 * G3_0) (h3 : G3_2 = G3_0 + 2) (h4 : G3_0 + 6 ≤ 44) : x < m + 596 + 130 * G3_2 ∨ m + 596 + 130 * G3_2 + (5720 - 130 * G3_2) ≤ x := by omega
theorem zx_X16_cancel_24 {G3_0 a m x : Nat} (h0 : a ≤ x) (h1 : x < a + 130) (h2 : m + 596 ≤ a ∧ a + 130 ≤ m + 596 + 130 * G3_0) (h3 : G3_0 + 6 ≤ 44) : x < m + 3 ∨ m + 3 + 1 ≤ x := by omega
theorem zx_X16_cancel_25 {G3_0 a m x : Nat} (h0 : a ≤ x) (h1 : x < a + 130) (h2 : m + 596 ≤ a ∧ a + 130 ≤ m + 596 + 130 * G3_0) (h3 : G3_0 + 6 ≤ 44) : x < m + 5 ∨ m + 5 + 64 ≤ x := by omega
theorem zx_X16_cancel_26 {G1_0 G3_0 b m x : Nat} (h0 : b ≤ x) (h1 : x < b + 130) (h2 : m + 596 ≤ b ∧ b + 130 ≤ m + 596 + 130 * G3_0) (h3 : G1_0 + 9 ≤ 160) (h4 : G3_0 + 6 ≤ 44) : x < m + 276 + 2 * G1_0 ∨ m + 276 + 2 * G1_0 + (320 - 2 * G1_0) ≤ x := by omega
theorem zx_X16_cancel_27 {G3_0 G3_2 b m x : Nat} (h0 : b ≤ x) (h1 : x < b + 130) (h2 : m + 596 ≤ b ∧ b + 130 ≤ m + 596 + 130 * G3_0) (h3 : G3_2 = G3_0 + 2) (h4 : G3_0 + 6 ≤ 44) : x < m + 596 + 130 * G3_2 ∨ m + 596 + 130 * G3_2 + (5720 - 130 * G3_2) ≤ x := by omega
theorem zx_X16_cancel_28 {G3_0 b m x : Nat} (h0 : b ≤ x) (h1 : x < b + 130) (h2 : m + 596 ≤ b ∧ b + 130 ≤ m + 596 + 130 * G3_0) (h3 : G3_0 + 6 ≤ 44) : x < m + 3 ∨ m + 3 + 1 ≤ x := by omega
theorem zx_X16_cancel_29 {G3_0 b m x : Nat} (h0 : b ≤ x) (h1 : x < b + 130) (h2 : m + 596 ≤ b ∧ b + 130 ≤ m + 596 + 130 * G3_0) (h3 : G3_0 + 6 ≤ 44) : x < m + 5 ∨ m + 5 + 64 ≤ x := by omega
theorem zx_X16_cancel_30 {G3_0 G3_1 m x : Nat} (h0 : m + 596 + 130 * G3_1 ≤ x) (h1 : x < m + 596 + 130 * G3_1 + 130) (h2 : G3_1 = G3_0 + 1) (h3 : G3_0 + 6 ≤ 44) : x < m + 596 + 130 * G3_0 ∨ m + 596 + 130 * G3_0 + 130 ≤ x := by omega
theorem zx_X16_cancel_31 {G1_0 G3_0 G3_1 m x : Nat} (h0 : m + 596 + 130 * G3_1 ≤ x) (h1 : x < m + 596 + 130 * G3_1 + 130) (h2 : G3_1 = G3_0 + 1) (h3 : G1_0 + 9 ≤ 160) (h4 : G3_0 + 6 ≤ 44) : x < m + 276 + 2 * G1_0 ∨ m + 276 + 2 * G1_0 + (320 - 2 * G1_0) ≤ x := by omega
theorem zx_X16_cancel_32 {G3_0 G3_1 G3_2 m x : Nat} (h0 : m + 596 + 130 * G3_1 ≤ x) (h1 : x < m + 596 + 130 * G3_1 + 130) (h2 : G3_1 = G3_0 + 1) (h3 : G3_2 = G3_0 + 2) (h4 : G3_0 + 6 ≤ 44) : x < m + 596 + 130 * G3_2 ∨ m + 596 + 130 * G3_2 + (5720 - 130 * G3_2) ≤ x := by omega
theorem zx_X16_cancel_33 {G3_0 G3_1 m x : Nat} (h0 : m + 596 + 130 * G3_1 ≤ x) (h1 : x < m + 596 + 130 * G3_1 + 130) (h2 : G3_1 = G3_0 + 1) (h3 : G3_0 + 6 ≤ 44) : x < m + 3 ∨ m + 3 + 1 ≤ x := by omega
theorem zx_X16_cancel_34 {G3_0 G3_1 m x : Nat} (h0 : m + 596 + 130 * G3_1 ≤ x) (h1 : x < m + 596 + 130 * G3_1 + 130) (h2 : G3_1 = G3_0 + 1) (h3 : G3_0 + 6 ≤ 44) : x < m + 5 ∨ m + 5 + 64 ≤ x := by omega
theorem zx_X16_cancel_35 {G3_0 G3_1 m : Nat} (h0 : G3_1 = G3_0 + 1) (h1 : G3_0 + 6 ≤ 44) : m < m + 596 + 130 * G3_1 ∨ m + 596 + 130 * G3_1 + 130 ≤ m := by omega
theorem zx_X16_cancel_36 {G3_0 a m : Nat} (h0 : m + 596 ≤ a ∧ a + 130 ≤ m + 596 + 130 * G3_0) (h1 : G3_0 + 6 ≤ 44) : m < a ∨ a + 130 ≤ m := by omega
theorem zx_X16_cancel_37 {G3_0 G3_1 a m x : Nat} (h0 : m + 596 + 130 * G3_1 ≤ x) (h1 : x < m + 596 + 130 * G3_1 + 130) (h2 : m + 596 ≤ a ∧ a + 130 ≤ m + 596 + 130 * G3_0) (h3 : G3_1 = G3_0 + 1) (h4 : G3_0 + 6 ≤ 44) : x < a ∨ a + 130 ≤ x := by omega
theorem zx_X16_cancel_38 {G3_0 a b m x : Nat} (h0 : b ≤ x) (h1 : x < b + 130) (h2 : a + 130 ≤ b ∨ b + 130 ≤ a) (h3 : m + 596 ≤ a ∧ a + 130 ≤ m + 596 + 130 * G3_0) (h4 : m + 596 ≤ b ∧ b + 130 ≤ m + 596 + 130 * G3_0) (h5 : G3_0 + 6 ≤ 44) : x < a ∨ a + 130 ≤ x := by omega
theorem zx_X16_cancel_39 {G1_0 G3_0 m x : Nat} (h0 : m + 596 + 130 * G3_0 ≤ x) (h1 : x < m + 596 + 130 * G3_0 + 130) (h2 : G1_0 + 9 ≤ 160) (h3 : G3_0 + 6 ≤ 44) : x < m + 276 + 2 * G1_0 ∨ m + 276 + 2 * G1_0 + (320 - 2 * G1_0) ≤ x := by omega
theorem zx_X16_cancel_40 {G3_0 G3_2 m x : Nat} (h0 : m + 596 + 130 * G3_0 ≤ x) (h1 : x < m + 596 + 130 * G3_0 + 130) (h2 : G3_2 = G3_0 + 2) (h3 : G3_0 + 6 ≤ 44) : x < m + 596 + 130 * G3_2 ∨ m + 596 + 130 * G3_2 + (5720 - 130 * G3_2) ≤ x := by omega
theorem zx_X16_cancel_41 {G3_0 a m x : Nat} (h0 : m + 596 + 130 * G3_0 ≤ x) (h1 : x < m + 596 + 130 * G3_0 + 130) (h2 : m + 596 ≤ a ∧ a + 130 ≤ m + 596 + 130 * G3_0) (h3 : G3_0 + 6 ≤ 44) : x < a ∨ a + 130 ≤ x := by omega
theorem zx_X16_cancel_42 {G3_0 b m : Nat} (h0 : m + 596 ≤ b ∧ b + 130 ≤ m + 596 + 130 * G3_0) (h1 : G3_0 + 6 ≤ 44) : m < b ∨ b + 130 ≤ m := by omega
theorem zx_X16_cancel_43 {G3_0 a b m x : Nat} (h0 : a ≤ x) (h1 : x < a + 130) (h2 : a + 130 ≤ b ∨ b + 130 ≤ a) (h3 : m + 596 ≤ a ∧ a + 130 ≤ m + 596 + 130 * G3_0) (h4 : m + 596 ≤ b ∧ b + 130 ≤ m + 596 + 130 * G3_0) (h5 : G3_0 + 6 ≤ 44) : x < b ∨ b + 130 ≤ x := by omega
set_option maxHeartbeats 8000000 in
set_option maxRecDepth 100000 in
theorem c_X16_cancel {w : zM} {g : Nat → Int32} {r : Nat → Value} {p q : zA2} {g1 : Int32} {g3 : Int32} (m : Nat) (a : Nat) (b : Nat) (hm : w m = some (.inl (15, zMo m g r))) (hR_m : zR m w) (hB_a : zB w a p) (hB_b : zB w b q) (hut : 0 ≤ g1.toInt ∧ g1.toInt + 9 ≤ 160) (hbt : 0 ≤ g3.toInt ∧ g3.toInt + 6 ≤ 44) (hab : a + 130 ≤ b ∨ b + 130 ≤ a) (hma : m + 596 ≤ a ∧ a + 130 ≤ m + 596 + 130 * g3.toNatClampNeg) (hmb : m + 596 ≤ b ∧ b + 130 ≤ m + 596 + 130 * g3.toNatClampNeg) (hq0 : 0 < zrw q) (hpd : zdn p ≤ 99) (hqd : zdn q ≤ 99) (hpq : zdn p ≤ 50 ∨ zdn q ≤ 50) (hg1 : g 1 = g1) (hg3 : g 3 = g3) : zCon 9 zq_X16_cancel [.ref m, .ref a, .ref b] w (fun v9 w9' => ∃ P9 : zA2, ∃ Q9 : zA2, zSI w w9' ∧ (∀ x, (x < a ∨ a + 130 ≤ x) ∧ (x < b ∨ b + 130 ≤ x) ∧ (x < m + 276 + 2 * g1.toNatClampNeg ∨ m + 276 + 2 * g1.toNatClampNeg + (320 - 2 * g1.toNatClampNeg) ≤ x) ∧ (x < m + 596 + 130 * g3.toNatClampNeg ∨ m + 596 + 130 * g3.toNatClampNeg + (5720 - 130 * g3.toNatClampNeg) ≤ x) ∧ (x < m + 3 ∨ m + 3 + 1 ≤ x) ∧ (x < m + 5 ∨ m + 5 + 64 ≤ x) → w9' x = w x) ∧ zB w9' a P9 ∧ zB w9' b Q9 ∧ (zLe P9 p ∧ zLe Q9 q) ∧ v9 = none) := by
  subst hg1
  subst hg3
  intro d sz hd
  obtain ⟨d, rfl⟩ : ∃ d9, d = d9 + 1 := ⟨d - 1, by omega⟩
  generalize hPost : (fun (r9' : Option (Option Value)) (w9' : zM) (z9 : Nat) => z9 = sz ∧ ∃ v9, r9' = some v9 ∧ (∃ P9 : zA2, ∃ Q9 : zA2, zSI w w9' ∧ (∀ x, (x < a ∨ a + 130 ≤ x) ∧ (x < b ∨ b + 130 ≤ x) ∧ (x < m + 276 + 2 * (g 1).toNatClampNeg ∨ m + 276 + 2 * (g 1).toNatClampNeg + (320 - 2 * (g 1).toNatClampNeg) ≤ x) ∧ (x < m + 596 + 130 * (g 3).toNatClampNeg ∨ m + 596 + 130 * (g 3).toNatClampNeg + (5720 - 130 * (g 3).toNatClampNeg) ≤ x) ∧ (x < m + 3 ∨ m + 3 + 1 ≤ x) ∧ (x < m + 5 ∨ m + 5 + 64 ≤ x) → w9' x = w x) ∧ zB w9' a P9 ∧ zB w9' b Q9 ∧ (zLe P9 p ∧ zLe Q9 q) ∧ v9 = none)) = Post
  show zP (d + 1) zq_X16_cancel 0 [(0, .ref m), (1, .ref a), (2, .ref b)] [] w sz 0 0 Post
  have k1 := zrng (g 1)
  have hz2 : ((g 1).toNatClampNeg : Int) = (g 1).toInt := znat (by first | omega | decide)
  have hgb1 : (g 1).toNatClampNeg + 9 ≤ 160 := by omega
  have k3 := zrng (g 3)
  have hz4 : ((g 3).toNatClampNeg : Int) = (g 3).toInt := znat (by first | omega | decide)
  have hgb3 : (g 3).toNatClampNeg + 6 ≤ 44 := by omega
  have hpq9 : zHid (zdn p ≤ 50 ∨ zdn q ≤ 50) := zHid.i hpq
  clear hpq
  refine zp_seg (pc' := 1) (lv' := [(0, .ref m), (1, .ref a), (2, .ref b)]) (st' := [.ref m]) [(0, .aload_n 0)] (by decide +kernel) rfl ?_
  refine zr_get (idx := 90) (k := 3) (v := .int (g 3)) (by decide +kernel) (by decide +kernel) hm rfl ?_
  refine zp_seg (pc' := 6) (lv' := [(3, .int (g 3)), (0, .ref m), (1, .ref a), (2, .ref b)]) (st' := [.ref m]) [(4, .istore_n 3), (5, .aload_n 0)] (by decide +kernel) rfl ?_
  refine zr_callV (idx := 140) (j := 274) (by decide +kernel) (by decide +kernel) (show zMe 274 = some zq_X16_newB from rfl) rfl rfl (Nat.le_of_ble_eq_true rfl) rfl rfl hm (Nat.le_of_ble_eq_true rfl) (Nat.le_of_ble_eq_true rfl) (c_X16_newB (w := w) (g3 := (g 3)) m hm hR_m (by first | omega | decide | assumption | exact zr1_1 | exact zr1_0 | fail "num") rfl) (by omega) (fun v6 w6 hp6 => ?_)
  obtain ⟨hsi6, heq6, hp6_0, hp6_1, rfl⟩ := hp6
  have hM6 : w6 m = some (.inl (15, zMo m (zs g 3 (g 3 + 1)) r)) := hp6_0
  show zP _ _ _ _ [.ref (m + 596 + 130 * (g 3).toNatClampNeg)] _ _ _ _ _
  refine zp_seg (pc' := 12) (lv' := [(4, .ref (m + 596 + 130 * (g 3).toNatClampNeg)), (3, .int (g 3)), (0, .ref m), (1, .ref a), (2, .ref b)]) (st' := [.ref m]) [(9, .astore 4), (11, .aload_n 0)] (by decide +kernel) rfl ?_
  have k6 := zaddC (g 3) 1 (n := 1) (by decide) (by omega) (by omega)
  have hz7 : ((g 3 + 1).toNatClampNeg : Int) = (g 3 + 1).toInt := znat (by first | omega | decide)
  have hgn3_1 : (g 3 + 1).toNatClampNeg = (g 3).toNatClampNeg + 1 := by omega
  have hb8 := hR_m.si hsi6
  refine zr_callV (idx := 140) (j := 274) (by decide +kernel) (by decide +kernel) (show zMe 274 = some zq_X16_newB from rfl) rfl rfl (Nat.le_of_ble_eq_true rfl) rfl rfl hM6 (Nat.le_of_ble_eq_true rfl) (Nat.le_of_ble_eq_true rfl) (c_X16_newB (w := w6) (g3 := (g 3 + 1)) m hM6 hb8 (by first | omega | decide | assumption | exact zr1_1 | exact zr1_0 | fail "num") rfl) (by omega) (fun v12 w12 hp12 => ?_)
  obtain ⟨hsi12, heq12, hp12_0, hp12_1, rfl⟩ := hp12
  have hM12 : w12 m = some (.inl (15, zMo m (zs g 3 (g 3 + 1 + 1)) r)) := hp12_0
  show zP _ _ _ _ [.ref (m + 596 + 130 * (g 3 + 1).toNatClampNeg)] _ _ _ _ _
  refine zp_seg (pc' := 18) (lv' := [(5, .ref (m + 596 + 130 * (g 3 + 1).toNatClampNeg)), (4, .ref (m + 596 + 130 * (g 3).toNatClampNeg)), (3, .int (g 3)), (0, .ref m), (1, .ref a), (2, .ref b)]) (st' := [.ref a]) [(15, .astore 5), (17, .aload_n 1)] (by decide +kernel) rfl ?_
  obtain ⟨n9, hb10, hb11, hb12, hb13, -⟩ := id hB_a
  have kn9 := zrng n9
  have hb14 : w12 a = some (.inl (11, [.ref (a + 1), .int n9])) := ((heq12 a ⟨(zx_X16_cancel_0 hma hgb3), (zx_X16_cancel_2 hma hgn3_1 hgb3)⟩).trans (heq6 a ⟨(zx_X16_cancel_0 hma hgb3), (zx_X16_cancel_1 hma hgb3)⟩)).trans hb10
  refine zr_get (idx := 93) (k := 1) (v := .int n9) (by decide +kernel) (by decide +kernel) hb14 rfl ?_
  refine zp_if (i := .ifCond .le 53) (c := n9 ≤ 0) (t := 74) (e := 24) (lv' := [(5, .ref (m + 596 + 130 * (g 3 + 1).toNatClampNeg)), (4, .ref (m + 596 + 130 * (g 3).toNatClampNeg)), (3, .int (g 3)), (0, .ref m), (1, .ref a), (2, .ref b)]) (st' := []) (by decide +kernel) rfl (fun cc21 => ?_) (fun cc21 => ?_)
  ·
    have f16 := zleI cc21
    rw [show (0 : Int32).toInt = 0 from by decide] at f16
    have hle9 : zLe p p ∧ zLe q q := by
      first
      | exact ⟨zdiv_le hQ1 hL9.1, zdiv_le hQ2 hL9.1⟩
      | exact ⟨zLe.rf, zLe.rf⟩
    refine zp_seg (pc' := 76) (lv' := [(5, .ref (m + 596 + 130 * (g 3 + 1).toNatClampNeg)), (4, .ref (m + 596 + 130 * (g 3).toNatClampNeg)), (3, .int (g 3)), (0, .ref m), (1, .ref a), (2, .ref b)]) (st' := [.int (g 3), .ref m]) [(74, .aload_n 0), (75, .iload_n 3)] (by decide +kernel) rfl ?_
    refine zr_put2 (idx := 90) (k := 3) (fs2 := zMo m g r) (by decide +kernel) (by decide +kernel) hM12 (Nat.le_of_ble_eq_true rfl) rfl rfl rfl ?_
    show zP (d + 1) zq_X16_cancel 79 [(5, .ref (m + 596 + 130 * (g 3 + 1).toNatClampNeg)), (4, .ref (m + 596 + 130 * (g 3).toNatClampNeg)), (3, .int (g 3)), (0, .ref m), (1, .ref a), (2, .ref b)] [] (zup w12 m (.inl (15, zMo m g r))) sz 0 0 Post
    obtain ⟨w76, ew76⟩ : ∃ wz9, wz9 = zup w12 m (.inl (15, zMo m g r)) := ⟨_, rfl⟩
    have hsi76 : zSI w12 w76 := by rw [ew76]; exact zSI.setG hM12 _ _
    have heq76 : ∀ x, x ≠ m → w76 x = w12 x := fun x hx => by rw [ew76]; exact zup_n hx
    have hc76 : w76 m = some (.inl (15, zMo m g r)) := by rw [ew76]; exact zup_s
    rw [← ew76]
    clear ew76
    have hmend : w76 m = w m := by rw [hc76, hm]
    have hoffend : ∀ x, (x < a ∨ a + 130 ≤ x) ∧ (x < b ∨ b + 130 ≤ x) ∧ (x < m + 276 + 2 * (g 1).toNatClampNeg ∨ m + 276 + 2 * (g 1).toNatClampNeg + (320 - 2 * (g 1).toNatClampNeg) ≤ x) ∧ (x < m + 596 + 130 * (g 3).toNatClampNeg ∨ m + 596 + 130 * (g 3).toNatClampNeg + (5720 - 130 * (g 3).toNatClampNeg) ≤ x) ∧ (x < m + 3 ∨ m + 3 + 1 ≤ x) ∧ (x < m + 5 ∨ m + 5 + 64 ≤ x) → w76 x = w x := fun x hx => by
        by_cases ex : x = m
        · rw [ex]; exact hmend
        · exact ((heq76 x ex).trans ((heq12 x ⟨(zx_X16_cancel_3 ex), (zx_X16_cancel_5 hx.2.1 hx.2.2.2.1 hx.2.2.2.2.2 hmb hgn3_1 hgb3)⟩).trans (heq6 x ⟨(zx_X16_cancel_3 ex), (zx_X16_cancel_4 hx.2.1 hx.2.2.2.1 hx.2.2.2.2.2 hmb hgb3)⟩)))
    have hb17 : zB w76 a p := hB_a.ag (fun x hx1 hx2 => ((heq76 x (zx_X16_cancel_9 hx1 hx2 hma hgb3)).trans ((heq12 x ⟨(zx_X16_cancel_6 hx1 hx2 hma hgb3), (zx_X16_cancel_8 hx1 hx2 hma hgn3_1 hgb3)⟩).trans (heq6 x ⟨(zx_X16_cancel_6 hx1 hx2 hma hgb3), (zx_X16_cancel_7 hx1 hx2 hma hgb3)⟩))))
    have hb18 : zB w76 b q := hB_b.ag (fun x hx1 hx2 => ((heq76 x (zx_X16_cancel_13 hx1 hx2 hmb hgb3)).trans ((heq12 x ⟨(zx_X16_cancel_10 hx1 hx2 hmb hgb3), (zx_X16_cancel_12 hx1 hx2 hmb hgn3_1 hgb3)⟩).trans (heq6 x ⟨(zx_X16_cancel_10 hx1 hx2 hmb hgb3), (zx_X16_cancel_11 hx1 hx2 hmb hgb3)⟩))))
    refine zr_retV (by decide +kernel) rfl ?_
    rw [← hPost]; exact ⟨rfl, _, rfl, p, q, ((hsi6.tr hsi12).tr hsi76), hoffend, (by first | exact hb17 | (have z9 := hb17; simpa using z9)), (by first | exact hb18 | (have z9 := hb18; simpa using z9)), (by
          exact hle9), rfl⟩
  ·
    have f20 := znleI cc21
    rw [show (0 : Int32).toInt = 0 from by decide] at f20
    refine zp_seg (pc' := 29) (lv' := [(5, .ref (m + 596 + 130 * (g 3 + 1).toNatClampNeg)), (4, .ref (m + 596 + 130 * (g 3).toNatClampNeg)), (3, .int (g 3)), (0, .ref m), (1, .ref a), (2, .ref b)]) (st' := [.ref b, .ref a, .ref (m + 596 + 130 * (g 3).toNatClampNeg), .ref m]) [(24, .aload_n 0), (25, .aload 4), (27, .aload_n 1), (28, .aload_n 2)] (by decide +kernel) rfl ?_
    have k21 := zaddC (g 3 + 1) 1 (n := 1) (by decide) (by omega) (by omega)
    have hz22 : ((g 3 + 1 + 1).toNatClampNeg : Int) = (g 3 + 1 + 1).toInt := znat (by first | omega | decide)
    have hgn3_2 : (g 3 + 1 + 1).toNatClampNeg = (g 3).toNatClampNeg + 2 := by omega
    have hb23 := hb8.si hsi12
    have hb24 : zB w12 (m + 596 + 130 * (g 3).toNatClampNeg) zbZ := hp6_1.ag (fun x hx1 hx2 => (heq12 x ⟨(zx_X16_cancel_14 hx1 hx2 hgb3), (zx_X16_cancel_15 hx1 hx2 hgn3_1 hgb3)⟩))
    have ho29_to := zB.o hb24
    have hb25 : zB w12 a p := hB_a.ag (fun x hx1 hx2 => ((heq12 x ⟨(zx_X16_cancel_6 hx1 hx2 hma hgb3), (zx_X16_cancel_8 hx1 hx2 hma hgn3_1 hgb3)⟩).trans (heq6 x ⟨(zx_X16_cancel_6 hx1 hx2 hma hgb3), (zx_X16_cancel_7 hx1 hx2 hma hgb3)⟩)))
    have hb26 : zB w12 b q := hB_b.ag (fun x hx1 hx2 => ((heq12 x ⟨(zx_X16_cancel_10 hx1 hx2 hmb hgb3), (zx_X16_cancel_12 hx1 hx2 hmb hgn3_1 hgb3)⟩).trans (heq6 x ⟨(zx_X16_cancel_10 hx1 hx2 hmb hgb3), (zx_X16_cancel_11 hx1 hx2 hmb hgb3)⟩)))
    refine zr_callV (idx := 185) (j := 291) (by decide +kernel) (by decide +kernel) (show zMe 291 = some zq_X16_gcd_ from rfl) rfl rfl (Nat.le_of_ble_eq_true rfl) rfl rfl hM12 (Nat.le_of_ble_eq_true rfl) (Nat.le_of_ble_eq_true rfl) (c_X16_gcd_ (w := w12) (g1 := (g 1)) (g3 := (g 3 + 1 + 1)) m (m + 596 + 130 * (g 3).toNatClampNeg) a b hM12 hb23 ho29_to hb25 hb26 (by first | omega | decide | assumption | exact zr1_1 | exact zr1_0 | fail "num") (by first | omega | decide | assumption | exact zr1_1 | exact zr1_0 | fail "num") (by first | omega | decide | assumption | exact zr1_1 | exact zr1_0 | fail "num") (by first | omega | decide | assumption | exact zr1_1 | exact zr1_0 | fail "num") (by first | omega | decide | assumption | exact zr1_1 | exact zr1_0 | fail "num") (by first | omega | decide | assumption | exact zr1_1 | exact zr1_0 | fail "num") (by first | omega | decide | assumption | exact zr1_1 | exact zr1_0 | fail "num") (by first | omega | decide | assumption | exact zr1_1 | exact zr1_0 | fail "num") (by first | omega | decide | assumption | exact zr1_1 | exact zr1_0 | fail "num") (by have h9 := hpq9.o; omega) rfl rfl) (by omega) (fun v29 w29 hp29 => ?_)
    obtain ⟨Gn_29, hsi29, heq29, hp29_0, hp29_1, rfl⟩ := hp29
    show zP _ _ _ _ [] _ _ _ _ _
    have hL9 := hp29_1.l (by omega)
    have hR9 := hp29_1.r hq0
    refine zp_seg (pc' := 34) (lv' := [(5, .ref (m + 596 + 130 * (g 3 + 1).toNatClampNeg)), (4, .ref (m + 596 + 130 * (g 3).toNatClampNeg)), (3, .int (g 3)), (0, .ref m), (1, .ref a), (2, .ref b)]) (st' := [.ref (m + 596 + 130 * (g 3).toNatClampNeg)]) [(32, .aload 4)] (by decide +kernel) rfl ?_
    obtain ⟨n27, hb28, hb29, hb30, hb31, -⟩ := id hp29_0
    have kn27 := zrng n27
    refine zr_callV (idx := 187) (j := 250) (by decide +kernel) (by decide +kernel) (show zMe 250 = some zq_X12_isNumber from rfl) rfl rfl (Nat.le_of_ble_eq_true rfl) rfl rfl hb28 (Nat.le_of_ble_eq_true rfl) (Nat.le_of_ble_eq_true rfl) (c_X12_isNumber (w := w29) (m + 596 + 130 * (g 3).toNatClampNeg) hp29_0) (by omega) (fun v34 w34 hp34 => ?_)
    obtain ⟨hpw34, r34, rfl, hrb34, hr34⟩ := hp34
    replace hpw34 := hpw34.symm
    subst hpw34
    have kr34 := zrng r34
    show zP _ _ _ _ [.int r34] _ _ _ _ _
    refine zp_if (i := .ifCond .ne 37) (c := ¬ r34 = 0) (t := 74) (e := 40) (lv' := [(5, .ref (m + 596 + 130 * (g 3 + 1).toNatClampNeg)), (4, .ref (m + 596 + 130 * (g 3).toNatClampNeg)), (3, .int (g 3)), (0, .ref m), (1, .ref a), (2, .ref b)]) (st' := []) (by decide +kernel) rfl (fun cc37 => ?_) (fun cc37 => ?_)
    ·
      have f32 := zneI cc37
      rw [show (0 : Int32).toInt = 0 from by decide] at f32
      have hle9 : zLe p p ∧ zLe q q := by
        first
        | exact ⟨zdiv_le hQ1 hL9.1, zdiv_le hQ2 hL9.1⟩
        | exact ⟨zLe.rf, zLe.rf⟩
      refine zp_seg (pc' := 76) (lv' := [(5, .ref (m + 596 + 130 * (g 3 + 1).toNatClampNeg)), (4, .ref (m + 596 + 130 * (g 3).toNatClampNeg)), (3, .int (g 3)), (0, .ref m), (1, .ref a), (2, .ref b)]) (st' := [.int (g 3), .ref m]) [(74, .aload_n 0), (75, .iload_n 3)] (by decide +kernel) rfl ?_
      have hb33 : w29 m = some (.inl (15, zMo m (zs g 3 (g 3 + 1 + 1)) r)) := (heq29 m ⟨(zx_X16_cancel_16 hgb3), (zx_X16_cancel_17 hgb1), (zx_X16_cancel_18 hgn3_2 hgb3), (zx_X16_cancel_19), (zx_X16_cancel_20)⟩).trans hM12
      refine zr_put2 (idx := 90) (k := 3) (fs2 := zMo m g r) (by decide +kernel) (by decide +kernel) hb33 (Nat.le_of_ble_eq_true rfl) rfl rfl rfl ?_
      show zP (d + 1) zq_X16_cancel 79 [(5, .ref (m + 596 + 130 * (g 3 + 1).toNatClampNeg)), (4, .ref (m + 596 + 130 * (g 3).toNatClampNeg)), (3, .int (g 3)), (0, .ref m), (1, .ref a), (2, .ref b)] [] (zup w29 m (.inl (15, zMo m g r))) sz 0 0 Post
      obtain ⟨w76, ew76⟩ : ∃ wz9, wz9 = zup w29 m (.inl (15, zMo m g r)) := ⟨_, rfl⟩
      have hsi76 : zSI w29 w76 := by rw [ew76]; exact zSI.setG hb33 _ _
      have heq76 : ∀ x, x ≠ m → w76 x = w29 x := fun x hx => by rw [ew76]; exact zup_n hx
      have hc76 : w76 m = some (.inl (15, zMo m g r)) := by rw [ew76]; exact zup_s
      rw [← ew76]
      clear ew76
      have hmend : w76 m = w m := by rw [hc76, hm]
      have hoffend : ∀ x, (x < a ∨ a + 130 ≤ x) ∧ (x < b ∨ b + 130 ≤ x) ∧ (x < m + 276 + 2 * (g 1).toNatClampNeg ∨ m + 276 + 2 * (g 1).toNatClampNeg + (320 - 2 * (g 1).toNatClampNeg) ≤ x) ∧ (x < m + 596 + 130 * (g 3).toNatClampNeg ∨ m + 596 + 130 * (g 3).toNatClampNeg + (5720 - 130 * (g 3).toNatClampNeg) ≤ x) ∧ (x < m + 3 ∨ m + 3 + 1 ≤ x) ∧ (x < m + 5 ∨ m + 5 + 64 ≤ x) → w76 x = w x := fun x hx => by
          by_cases ex : x = m
          · rw [ex]; exact hmend
          · exact ((heq76 x ex).trans ((heq29 x ⟨(zx_X16_cancel_4 hx.2.1 hx.2.2.2.1 hx.2.2.2.2.2 hmb hgb3), hx.2.2.1, (zx_X16_cancel_21 hx.2.1 hx.2.2.2.1 hx.2.2.2.2.2 hmb hgn3_2 hgb3), hx.2.2.2.2.1, hx.2.2.2.2.2⟩).trans ((heq12 x ⟨(zx_X16_cancel_3 ex), (zx_X16_cancel_5 hx.2.1 hx.2.2.2.1 hx.2.2.2.2.2 hmb hgn3_1 hgb3)⟩).trans (heq6 x ⟨(zx_X16_cancel_3 ex), (zx_X16_cancel_4 hx.2.1 hx.2.2.2.1 hx.2.2.2.2.2 hmb hgb3)⟩))))
      have hb34 : zB w76 a p := hb25.ag (fun x hx1 hx2 => ((heq76 x (zx_X16_cancel_9 hx1 hx2 hma hgb3)).trans (heq29 x ⟨(zx_X16_cancel_7 hx1 hx2 hma hgb3), (zx_X16_cancel_22 hx1 hx2 hma hgb1 hgb3), (zx_X16_cancel_23 hx1 hx2 hma hgn3_2 hgb3), (zx_X16_cancel_24 hx1 hx2 hma hgb3), (zx_X16_cancel_25 hx1 hx2 hma hgb3)⟩)))
      have hb35 : zB w76 b q := hb26.ag (fun x hx1 hx2 => ((heq76 x (zx_X16_cancel_13 hx1 hx2 hmb hgb3)).trans (heq29 x ⟨(zx_X16_cancel_11 hx1 hx2 hmb hgb3), (zx_X16_cancel_26 hx1 hx2 hmb hgb1 hgb3), (zx_X16_cancel_27 hx1 hx2 hmb hgn3_2 hgb3), (zx_X16_cancel_28 hx1 hx2 hmb hgb3), (zx_X16_cancel_29 hx1 hx2 hmb hgb3)⟩)))
      refine zr_retV (by decide +kernel) rfl ?_
      rw [← hPost]; exact ⟨rfl, _, rfl, p, q, (((hsi6.tr hsi12).tr hsi29).tr hsi76), hoffend, (by first | exact hb34 | (have z9 := hb34; simpa using z9)), (by first | exact hb35 | (have z9 := hb35; simpa using z9)), (by
            exact hle9), rfl⟩
    ·
      replace cc37 := Classical.not_not.mp cc37
      have f36 := zeqI cc37
      rw [show (0 : Int32).toInt = 0 from by decide] at f36
      refine zp_seg (pc' := 46) (lv' := [(5, .ref (m + 596 + 130 * (g 3 + 1).toNatClampNeg)), (4, .ref (m + 596 + 130 * (g 3).toNatClampNeg)), (3, .int (g 3)), (0, .ref m), (1, .ref a), (2, .ref b)]) (st' := [.ref (m + 596 + 130 * (g 3).toNatClampNeg), .ref a, .ref (m + 596 + 130 * (g 3 + 1).toNatClampNeg), .ref m]) [(40, .aload_n 0), (41, .aload 5), (43, .aload_n 1), (44, .aload 4)] (by decide +kernel) rfl ?_
      have hb37 : w29 m = some (.inl (15, zMo m (zs g 3 (g 3 + 1 + 1)) r)) := (heq29 m ⟨(zx_X16_cancel_16 hgb3), (zx_X16_cancel_17 hgb1), (zx_X16_cancel_18 hgn3_2 hgb3), (zx_X16_cancel_19), (zx_X16_cancel_20)⟩).trans hM12
      have hb38 := hb23.si hsi29
      have hb39 : zB w29 (m + 596 + 130 * (g 3 + 1).toNatClampNeg) zbZ := hp12_1.ag (fun x hx1 hx2 => (heq29 x ⟨(zx_X16_cancel_30 hx1 hx2 hgn3_1 hgb3), (zx_X16_cancel_31 hx1 hx2 hgn3_1 hgb1 hgb3), (zx_X16_cancel_32 hx1 hx2 hgn3_1 hgn3_2 hgb3), (zx_X16_cancel_33 hx1 hx2 hgn3_1 hgb3), (zx_X16_cancel_34 hx1 hx2 hgn3_1 hgb3)⟩))
      have ho46_q := zB.o hb39
      have hb40 : zB w29 a p := hb25.ag (fun x hx1 hx2 => (heq29 x ⟨(zx_X16_cancel_7 hx1 hx2 hma hgb3), (zx_X16_cancel_22 hx1 hx2 hma hgb1 hgb3), (zx_X16_cancel_23 hx1 hx2 hma hgn3_2 hgb3), (zx_X16_cancel_24 hx1 hx2 hma hgb3), (zx_X16_cancel_25 hx1 hx2 hma hgb3)⟩))
      refine zr_callV (idx := 170) (j := 288) (by decide +kernel) (by decide +kernel) (show zMe 288 = some zq_X16_divides from rfl) rfl rfl (Nat.le_of_ble_eq_true rfl) rfl rfl hb37 (Nat.le_of_ble_eq_true rfl) (Nat.le_of_ble_eq_true rfl) (c_X16_divides (w := w29) (g1 := (g 1)) (g3 := (g 3 + 1 + 1)) m (m + 596 + 130 * (g 3 + 1).toNatClampNeg) a (m + 596 + 130 * (g 3).toNatClampNeg) hb37 hb38 ho46_q hb40 hp29_0 (by first | omega | decide | assumption | exact zr1_1 | exact zr1_0 | fail "num") (by first | omega | decide | assumption | exact zr1_1 | exact zr1_0 | fail "num") (by first | omega | decide | assumption | exact zr1_1 | exact zr1_0 | fail "num") (by first | omega | decide | assumption | exact zr1_1 | exact zr1_0 | fail "num") (by first | omega | decide | assumption | exact zr1_1 | exact zr1_0 | fail "num") (by first | omega | decide | assumption | exact zr1_1 | exact zr1_0 | fail "num") (by first | omega | decide | assumption | exact zr1_1 | exact zr1_0 | fail "num") (by first | omega | decide | assumption | exact zr1_1 | exact zr1_0 | fail "num") (by first | omega | decide | assumption | exact zr1_1 | exact zr1_0 | fail "num") rfl rfl) (by omega) (fun v46 w46 hp46 => ?_)
      obtain ⟨Q_46, hsi46, heq46, hp46_0, r46, rfl, hrb46, hr46⟩ := hp46
      have kr46 := zrng r46
      show zP _ _ _ _ [.int r46] _ _ _ _ _
      have hQ1 := hr46.1 (hr46.2 (zdvx hp29_1.1 (by omega) hpd))
      refine zp_seg (pc' := 54) (lv' := [(6, .int r46), (5, .ref (m + 596 + 130 * (g 3 + 1).toNatClampNeg)), (4, .ref (m + 596 + 130 * (g 3).toNatClampNeg)), (3, .int (g 3)), (0, .ref m), (1, .ref a), (2, .ref b)]) (st' := [.ref (m + 596 + 130 * (g 3 + 1).toNatClampNeg), .ref a]) [(49, .istore 6), (51, .aload_n 1), (52, .aload 5)] (by decide +kernel) rfl ?_
      have hb41 : zB w46 a p := hb40.ag (fun x hx1 hx2 => (heq46 x ⟨(zx_X16_cancel_8 hx1 hx2 hma hgn3_1 hgb3), (zx_X16_cancel_22 hx1 hx2 hma hgb1 hgb3), (zx_X16_cancel_23 hx1 hx2 hma hgn3_2 hgb3)⟩))
      have ho54_to := zB.o hb41
      refine zr_callS (idx := 113) (j := 275) (by decide +kernel) (by decide +kernel) (by decide) (show zMe 275 = some zq_X16_set_ from rfl) rfl rfl (Nat.le_of_ble_eq_true rfl) rfl rfl (Nat.le_of_ble_eq_true rfl) (Nat.le_of_ble_eq_true rfl) (c_X16_set_ (w := w46) a (m + 596 + 130 * (g 3 + 1).toNatClampNeg) ho54_to hp46_0 (by first | omega | decide | assumption | exact zr1_1 | exact zr1_0 | fail "num")) (by omega) (fun v54 w54 hp54 => ?_)
      obtain ⟨hsi54, heq54, hp54_0, rfl⟩ := hp54
      show zP _ _ _ _ [] _ _ _ _ _
      refine zp_seg (pc' := 63) (lv' := [(6, .int r46), (5, .ref (m + 596 + 130 * (g 3 + 1).toNatClampNeg)), (4, .ref (m + 596 + 130 * (g 3).toNatClampNeg)), (3, .int (g 3)), (0, .ref m), (1, .ref a), (2, .ref b)]) (st' := [.ref (m + 596 + 130 * (g 3).toNatClampNeg), .ref b, .ref (m + 596 + 130 * (g 3 + 1).toNatClampNeg), .ref m]) [(57, .aload_n 0), (58, .aload 5), (60, .aload_n 2), (61, .aload 4)] (by decide +kernel) rfl ?_
      have hb42 : w54 m = some (.inl (15, zMo m (zs g 3 (g 3 + 1 + 1)) r)) := ((heq54 m (zx_X16_cancel_36 hma hgb3)).trans (heq46 m ⟨(zx_X16_cancel_35 hgn3_1 hgb3), (zx_X16_cancel_17 hgb1), (zx_X16_cancel_18 hgn3_2 hgb3)⟩)).trans hb37
      have hb43 := hb38.si (hsi46.tr hsi54)
      have hb44 : zB w54 (m + 596 + 130 * (g 3 + 1).toNatClampNeg) Q_46 := hp46_0.ag (fun x hx1 hx2 => (heq54 x (zx_X16_cancel_37 hx1 hx2 hma hgn3_1 hgb3)))
      have ho63_q := zB.o hb44
      have hb45 : zB w54 b q := hb26.ag (fun x hx1 hx2 => ((heq54 x (zx_X16_cancel_38 hx1 hx2 hab hma hmb hgb3)).trans ((heq46 x ⟨(zx_X16_cancel_12 hx1 hx2 hmb hgn3_1 hgb3), (zx_X16_cancel_26 hx1 hx2 hmb hgb1 hgb3), (zx_X16_cancel_27 hx1 hx2 hmb hgn3_2 hgb3)⟩).trans (heq29 x ⟨(zx_X16_cancel_11 hx1 hx2 hmb hgb3), (zx_X16_cancel_26 hx1 hx2 hmb hgb1 hgb3), (zx_X16_cancel_27 hx1 hx2 hmb hgn3_2 hgb3), (zx_X16_cancel_28 hx1 hx2 hmb hgb3), (zx_X16_cancel_29 hx1 hx2 hmb hgb3)⟩))))
      have hb46 : zB w54 (m + 596 + 130 * (g 3).toNatClampNeg) Gn_29 := hp29_0.ag (fun x hx1 hx2 => ((heq54 x (zx_X16_cancel_41 hx1 hx2 hma hgb3)).trans (heq46 x ⟨(zx_X16_cancel_15 hx1 hx2 hgn3_1 hgb3), (zx_X16_cancel_39 hx1 hx2 hgb1 hgb3), (zx_X16_cancel_40 hx1 hx2 hgn3_2 hgb3)⟩)))
      refine zr_callV (idx := 170) (j := 288) (by decide +kernel) (by decide +kernel) (show zMe 288 = some zq_X16_divides from rfl) rfl rfl (Nat.le_of_ble_eq_true rfl) rfl rfl hb42 (Nat.le_of_ble_eq_true rfl) (Nat.le_of_ble_eq_true rfl) (c_X16_divides (w := w54) (g1 := (g 1)) (g3 := (g 3 + 1 + 1)) m (m + 596 + 130 * (g 3 + 1).toNatClampNeg) b (m + 596 + 130 * (g 3).toNatClampNeg) hb42 hb43 ho63_q hb45 hb46 (by first | omega | decide | assumption | exact zr1_1 | exact zr1_0 | fail "num") (by first | omega | decide | assumption | exact zr1_1 | exact zr1_0 | fail "num") (by first | omega | decide | assumption | exact zr1_1 | exact zr1_0 | fail "num") (by first | omega | decide | assumption | exact zr1_1 | exact zr1_0 | fail "num") (by first | omega | decide | assumption | exact zr1_1 | exact zr1_0 | fail "num") (by first | omega | decide | assumption | exact zr1_1 | exact zr1_0 | fail "num") (by first | omega | decide | assumption | exact zr1_1 | exact zr1_0 | fail "num") (by first | omega | decide | assumption | exact zr1_1 | exact zr1_0 | fail "num") (by first | omega | decide | assumption | exact zr1_1 | exact zr1_0 | fail "num") rfl rfl) (by omega) (fun v63 w63 hp63 => ?_)
      obtain ⟨Q_63, hsi63, heq63, hp63_0, r63, rfl, hrb63, hr63⟩ := hp63
      have kr63 := zrng r63
      show zP _ _ _ _ [.int r63] _ _ _ _ _
      have hQ2 := hr63.1 (hr63.2 (zdvx hp29_1.2.1 (by omega) hqd))
      refine zp_seg (pc' := 71) (lv' := [(6, .int r63), (5, .ref (m + 596 + 130 * (g 3 + 1).toNatClampNeg)), (4, .ref (m + 596 + 130 * (g 3).toNatClampNeg)), (3, .int (g 3)), (0, .ref m), (1, .ref a), (2, .ref b)]) (st' := [.ref (m + 596 + 130 * (g 3 + 1).toNatClampNeg), .ref b]) [(66, .istore 6), (68, .aload_n 2), (69, .aload 5)] (by decide +kernel) rfl ?_
      have hb47 : zB w63 b q := hb45.ag (fun x hx1 hx2 => (heq63 x ⟨(zx_X16_cancel_12 hx1 hx2 hmb hgn3_1 hgb3), (zx_X16_cancel_26 hx1 hx2 hmb hgb1 hgb3), (zx_X16_cancel_27 hx1 hx2 hmb hgn3_2 hgb3)⟩))
      have ho71_to := zB.o hb47
      refine zr_callS (idx := 113) (j := 275) (by decide +kernel) (by decide +kernel) (by decide) (show zMe 275 = some zq_X16_set_ from rfl) rfl rfl (Nat.le_of_ble_eq_true rfl) rfl rfl (Nat.le_of_ble_eq_true rfl) (Nat.le_of_ble_eq_true rfl) (c_X16_set_ (w := w63) b (m + 596 + 130 * (g 3 + 1).toNatClampNeg) ho71_to hp63_0 (by first | omega | decide | assumption | exact zr1_1 | exact zr1_0 | fail "num")) (by omega) (fun v71 w71 hp71 => ?_)
      obtain ⟨hsi71, heq71, hp71_0, rfl⟩ := hp71
      show zP _ _ _ _ [] _ _ _ _ _
      have hle9 : zLe Q_46 p ∧ zLe Q_63 q := by
        first
        | exact ⟨zdiv_le hQ1 hL9.1, zdiv_le hQ2 hL9.1⟩
        | exact ⟨zLe.rf, zLe.rf⟩
      refine zp_seg (pc' := 76) (lv' := [(6, .int r63), (5, .ref (m + 596 + 130 * (g 3 + 1).toNatClampNeg)), (4, .ref (m + 596 + 130 * (g 3).toNatClampNeg)), (3, .int (g 3)), (0, .ref m), (1, .ref a), (2, .ref b)]) (st' := [.int (g 3), .ref m]) [(74, .aload_n 0), (75, .iload_n 3)] (by decide +kernel) rfl ?_
      have hb48 : w71 m = some (.inl (15, zMo m (zs g 3 (g 3 + 1 + 1)) r)) := ((heq71 m (zx_X16_cancel_42 hmb hgb3)).trans (heq63 m ⟨(zx_X16_cancel_35 hgn3_1 hgb3), (zx_X16_cancel_17 hgb1), (zx_X16_cancel_18 hgn3_2 hgb3)⟩)).trans hb42
      refine zr_put2 (idx := 90) (k := 3) (fs2 := zMo m g r) (by decide +kernel) (by decide +kernel) hb48 (Nat.le_of_ble_eq_true rfl) rfl rfl rfl ?_
      show zP (d + 1) zq_X16_cancel 79 [(6, .int r63), (5, .ref (m + 596 + 130 * (g 3 + 1).toNatClampNeg)), (4, .ref (m + 596 + 130 * (g 3).toNatClampNeg)), (3, .int (g 3)), (0, .ref m), (1, .ref a), (2, .ref b)] [] (zup w71 m (.inl (15, zMo m g r))) sz 0 0 Post
      obtain ⟨w76, ew76⟩ : ∃ wz9, wz9 = zup w71 m (.inl (15, zMo m g r)) := ⟨_, rfl⟩
      have hsi76 : zSI w71 w76 := by rw [ew76]; exact zSI.setG hb48 _ _
      have heq76 : ∀ x, x ≠ m → w76 x = w71 x := fun x hx => by rw [ew76]; exact zup_n hx
      have hc76 : w76 m = some (.inl (15, zMo m g r)) := by rw [ew76]; exact zup_s
      rw [← ew76]
      clear ew76
      have hmend : w76 m = w m := by rw [hc76, hm]
      have hoffend : ∀ x, (x < a ∨ a + 130 ≤ x) ∧ (x < b ∨ b + 130 ≤ x) ∧ (x < m + 276 + 2 * (g 1).toNatClampNeg ∨ m + 276 + 2 * (g 1).toNatClampNeg + (320 - 2 * (g 1).toNatClampNeg) ≤ x) ∧ (x < m + 596 + 130 * (g 3).toNatClampNeg ∨ m + 596 + 130 * (g 3).toNatClampNeg + (5720 - 130 * (g 3).toNatClampNeg) ≤ x) ∧ (x < m + 3 ∨ m + 3 + 1 ≤ x) ∧ (x < m + 5 ∨ m + 5 + 64 ≤ x) → w76 x = w x := fun x hx => by
          by_cases ex : x = m
          · rw [ex]; exact hmend
          · exact ((heq76 x ex).trans ((heq71 x hx.2.1).trans ((heq63 x ⟨(zx_X16_cancel_5 hx.2.1 hx.2.2.2.1 hx.2.2.2.2.2 hmb hgn3_1 hgb3), hx.2.2.1, (zx_X16_cancel_21 hx.2.1 hx.2.2.2.1 hx.2.2.2.2.2 hmb hgn3_2 hgb3)⟩).trans ((heq54 x hx.1).trans ((heq46 x ⟨(zx_X16_cancel_5 hx.2.1 hx.2.2.2.1 hx.2.2.2.2.2 hmb hgn3_1 hgb3), hx.2.2.1, (zx_X16_cancel_21 hx.2.1 hx.2.2.2.1 hx.2.2.2.2.2 hmb hgn3_2 hgb3)⟩).trans ((heq29 x ⟨(zx_X16_cancel_4 hx.2.1 hx.2.2.2.1 hx.2.2.2.2.2 hmb hgb3), hx.2.2.1, (zx_X16_cancel_21 hx.2.1 hx.2.2.2.1 hx.2.2.2.2.2 hmb hgn3_2 hgb3), hx.2.2.2.2.1, hx.2.2.2.2.2⟩).trans ((heq12 x ⟨(zx_X16_cancel_3 ex), (zx_X16_cancel_5 hx.2.1 hx.2.2.2.1 hx.2.2.2.2.2 hmb hgn3_1 hgb3)⟩).trans (heq6 x ⟨(zx_X16_cancel_3 ex), (zx_X16_cancel_4 hx.2.1 hx.2.2.2.1 hx.2.2.2.2.2 hmb hgb3)⟩))))))))
      have hb49 : zB w76 a Q_46 := hp54_0.ag (fun x hx1 hx2 => ((heq76 x (zx_X16_cancel_9 hx1 hx2 hma hgb3)).trans ((heq71 x (zx_X16_cancel_43 hx1 hx2 hab hma hmb hgb3)).trans (heq63 x ⟨(zx_X16_cancel_8 hx1 hx2 hma hgn3_1 hgb3), (zx_X16_cancel_22 hx1 hx2 hma hgb1 hgb3), (zx_X16_cancel_23 hx1 hx2 hma hgn3_2 hgb3)⟩))))
      have hb50 : zB w76 b Q_63 := hp71_0.ag (fun x hx1 hx2 => (heq76 x (zx_X16_cancel_13 hx1 hx2 hmb hgb3)))
      refine zr_retV (by decide +kernel) rfl ?_
      rw [← hPost]; exact ⟨rfl, _, rfl, Q_46, Q_63, (((((((hsi6.tr hsi12).tr hsi29).tr hsi46).tr hsi54).tr hsi63).tr hsi71).tr hsi76), hoffend, (by first | exact hb49 | (have z9 := hb49; simpa using z9)), (by first | exact hb50 | (have z9 := hb50; simpa using z9)), (by
            exact hle9), rfl⟩

theorem zx_X16_reduce_0 {G3_0 m num : Nat} (h0 : m + 596 ≤ num ∧ num + 130 ≤ m + 596 + 130 * G3_0) (h1 : G3_0 + 6 ≤ 44) : num < m ∨ m + 1 ≤ num := by omega
theorem zx_X16_reduce_1 {G3_0 m num : Nat} (h0 : m + 596 ≤ num ∧ num + 130 ≤ m + 596 + 130 * G3_0) (h1 : G3_0 + 6 ≤ 44) : num < m + 596 + 130 * G3_0 ∨ m + 596 + 130 * G3_0 + 130 ≤ num := by omega
theorem zx_X16_reduce_2 {G3_0 G3_1 m num : Nat} (h0 : m + 596 ≤ num ∧ num + 130 ≤ m + 596 + 130 * G3_0) (h1 : G3_1 = G3_0 + 1) (h2 : G3_0 + 6 ≤ 44) : num < m + 596 + 130 * G3_1 ∨ m + 596 + 130 * G3_1 + 130 ≤ num := by omega
theorem zx_X16_reduce_3 {G3_0 m num x : Nat} (h0 : num ≤ x) (h1 : x < num + 130) (h2 : m + 596 ≤ num ∧ num + 130 ≤ m + 596 + 130 * G3_0) (h3 : G3_0 + 6 ≤ 44) : x < m ∨ m + 1 ≤ x := by omega
theorem zx_X16_reduce_4 {G3_0 m num x : Nat} (h0 : num ≤ x) (h1 : x < num + 130) (h2 : m + 596 ≤ num ∧ num + 130 ≤ m + 596 + 130 * G3_0) (h3 : G3_0 + 6 ≤ 44) : x < m + 596 + 130 * G3_0 ∨ m + 596 + 130 * G3_0 + 130 ≤ x := by omega
theorem zx_X16_reduce_5 {G3_0 G3_1 m num x : Nat} (h0 : num ≤ x) (h1 : x < num + 130) (h2 : m + 596 ≤ num ∧ num + 130 ≤ m + 596 + 130 * G3_0) (h3 : G3_1 = G3_0 + 1) (h4 : G3_0 + 6 ≤ 44) : x < m + 596 + 130 * G3_1 ∨ m + 596 + 130 * G3_1 + 130 ≤ x := by omega
theorem zx_X16_reduce_6 {G3_0 den m x : Nat} (h0 : den ≤ x) (h1 : x < den + 130) (h2 : m + 596 ≤ den ∧ den + 130 ≤ m + 596 + 130 * G3_0) (h3 : G3_0 + 6 ≤ 44) : x < m ∨ m + 1 ≤ x := by omega
theorem zx_X16_reduce_7 {G3_0 den m x : Nat} (h0 : den ≤ x) (h1 : x < den + 130) (h2 : m + 596 ≤ den ∧ den + 130 ≤ m + 596 + 130 * G3_0) (h3 : G3_0 + 6 ≤ 44) : x < m + 596 + 130 * G3_0 ∨ m + 596 + 130 * G3_0 + 130 ≤ x := by omega
theorem zx_X16_reduce_8 {G3_0 G3_1 den m x : Nat} (h0 : den ≤ x) (h1 : x < den + 130) (h2 : m + 596 ≤ den ∧ den + 130 ≤ m + 596 + 130 * G3_0) (h3 : G3_1 = G3_0 + 1) (h4 : G3_0 + 6 ≤ 44) : x < m + 596 + 130 * G3_1 ∨ m + 596 + 130 * G3_1 + 130 ≤ x := by omega
theorem zx_X16_reduce_9 {G3_0 m num : Nat} (h0 : m + 596 ≤ num ∧ num + 130 ≤ m + 596 + 130 * G3_0) (h1 : G3_0 + 6 ≤ 44) : m < num ∨ num + 130 ≤ m := by omega
theorem zx_X16_reduce_10 {G3_0 den m : Nat} (h0 : m + 596 ≤ den ∧ den + 130 ≤ m + 596 + 130 * G3_0) (h1 : G3_0 + 6 ≤ 44) : m < den ∨ den + 130 ≤ m := by omega
theorem zx_X16_reduce_11 {m x : Nat} (h0 : x ≠ m) : x < m ∨ m + 1 ≤ x := by omega
theorem zx_X16_reduce_12 {G3_0 m x : Nat} (h0 : x < m + 596 + 130 * G3_0 ∨ m + 596 + 130 * G3_0 + (5720 - 130 * G3_0) ≤ x) (h1 : x < m + 5 ∨ m + 5 + 64 ≤ x) (h2 : G3_0 + 6 ≤ 44) : x < m + 596 + 130 * G3_0 ∨ m + 596 + 130 * G3_0 + 130 ≤ x := by omega
theorem zx_X16_reduce_13 {G3_0 G3_1 m x : Nat} (h0 : x < m + 596 + 130 * G3_0 ∨ m + 596 + 130 * G3_0 + (5720 - 130 * G3_0) ≤ x) (h1 : x < m + 5 ∨ m + 5 + 64 ≤ x) (h2 : G3_1 = G3_0 + 1) (h3 : G3_0 + 6 ≤ 44) : x < m + 596 + 130 * G3_1 ∨ m + 596 + 130 * G3_1 + 130 ≤ x := by omega
theorem zx_X16_reduce_14 {G3_0 m num x : Nat} (h0 : num ≤ x) (h1 : x < num + 130) (h2 : m + 596 ≤ num ∧ num + 130 ≤ m + 596 + 130 * G3_0) (h3 : G3_0 + 6 ≤ 44) : x ≠ m := by omega
theorem zx_X16_reduce_15 {G3_0 den m x : Nat} (h0 : den ≤ x) (h1 : x < den + 130) (h2 : m + 596 ≤ den ∧ den + 130 ≤ m + 596 + 130 * G3_0) (h3 : G3_0 + 6 ≤ 44) : x ≠ m := by omega
theorem zx_X16_reduce_16 {G3_0 m x : Nat} (h0 : m + 596 + 130 * G3_0 ≤ x) (h1 : x < m + 596 + 130 * G3_0 + 130) (h2 : G3_0 + 6 ≤ 44) : x < m ∨ m + 1 ≤ x := by omega
theorem zx_X16_reduce_17 {G3_0 G3_1 m x : Nat} (h0 : m + 596 + 130 * G3_0 ≤ x) (h1 : x < m + 596 + 130 * G3_0 + 130) (h2 : G3_1 = G3_0 + 1) (h3 : G3_0 + 6 ≤ 44) : x < m + 596 + 130 * G3_1 ∨ m + 596 + 130 * G3_1 + 130 ≤ x := by omega
theorem zx_X16_reduce_18 {G1_0 G3_0 m num x : Nat} (h0 : num ≤ x) (h1 : x < num + 130) (h2 : m + 596 ≤ num ∧ num + 130 ≤ m + 596 + 130 * G3_0) (h3 : G1_0 + 9 ≤ 160) (h4 : G3_0 + 6 ≤ 44) : x < m + 276 + 2 * G1_0 ∨ m + 276 + 2 * G1_0 + (320 - 2 * G1_0) ≤ x := by omega
theorem zx_X16_reduce_19 {G3_0 G3_2 m num x : Nat} (h0 : num ≤ x) (h1 : x < num + 130) (h2 : m + 596 ≤ num ∧ num + 130 ≤ m + 596 + 130 * G3_0) (h3 : G3_2 = G3_0 + 2) (h4 : G3_0 + 6 ≤ 44) : x < m + 596 + 130 * G3_2 ∨ m + 596 + 130 * G3_2 + (5720 - 130 * G3_2) ≤ x := by omega
theorem zx_X16_reduce_20 {G3_0 m num x : Nat} (h0 : num ≤ x) (h1 : x < num + 130) (h2 : m + 596 ≤ num ∧ num + 130 ≤ m + 596 + 130 * G3_0) (h3 : G3_0 + 6 ≤ 44) : x < m + 3 ∨ m + 3 + 1 ≤ x := by omega
theorem zx_X16_reduce_21 {G3_0 m num x : Nat} (h0 : num ≤ x) (h1 : x < num + 130) (h2 : m + 596 ≤ num ∧ num + 130 ≤ m + 596 + 130 * G3_0) (h3 : G3_0 + 6 ≤ 44) : x < m + 5 ∨ m + 5 + 64 ≤ x := by omega
theorem zx_X16_reduce_22 {G1_0 G3_0 den m x : Nat} (h0 : den ≤ x) (h1 : x < den + 130) (h2 : m + 596 ≤ den ∧ den + 130 ≤ m + 596 + 130 * G3_0) (h3 : G1_0 + 9 ≤ 160) (h4 : G3_0 + 6 ≤ 44) : x < m + 276 + 2 * G1_0 ∨ m + 276 + 2 * G1_0 + (320 - 2 * G1_0) ≤ x := by omega
theorem zx_X16_reduce_23 {G3_0 G3_2 den m x : Nat} (h0 : den ≤ x) (h1 : x < den + 130) (h2 : m + 596 ≤ den ∧ den + 130 ≤ m + 596 + 130 * G3_0) (h3 : G3_2 = G3_0 + 2) (h4 : G3_0 + 6 ≤ 44) : x < m + 596 + 130 * G3_2 ∨ m + 596 + 130 * G3_2 + (5720 - 130 * G3_2) ≤ x := by omega
theorem zx_X16_reduce_24 {G3_0 den m x : Nat} (h0 : den ≤ x) (h1 : x < den + 130) (h2 : m + 596 ≤ den ∧ den + 130 ≤ m + 596 + 130 * G3_0) (h3 : G3_0 + 6 ≤ 44) : x < m + 3 ∨ m + 3 + 1 ≤ x := by omega
theorem zx_X16_reduce_25 {G3_0 den m x : Nat} (h0 : den ≤ x) (h1 : x < den + 130) (h2 : m + 596 ≤ den ∧ den + 130 ≤ m + 596 + 130 * G3_0) (h3 : G3_0 + 6 ≤ 44) : x < m + 5 ∨ m + 5 + 64 ≤ x := by omega
theorem zx_X16_reduce_26 {G3_0 m : Nat} (h0 : G3_0 + 6 ≤ 44) : m < m + 596 + 130 * G3_0 ∨ m + 596 + 130 * G3_0 + 130 ≤ m := by omega
theorem zx_X16_reduce_27 {G1_0 m : Nat} (h0 : G1_0 + 9 ≤ 160) : m < m + 276 + 2 * G1_0 ∨ m + 276 + 2 * G1_0 + (320 - 2 * G1_0) ≤ m := by omega
theorem zx_X16_reduce_28 {G3_0 G3_2 m : Nat} (h0 : G3_2 = G3_0 + 2) (h1 : G3_0 + 6 ≤ 44) : m < m + 596 + 130 * G3_2 ∨ m + 596 + 130 * G3_2 + (5720 - 130 * G3_2) ≤ m := by omega
theorem zx_X16_reduce_29 {m : Nat}  : m < m + 3 ∨ m + 3 + 1 ≤ m := by omega
theorem zx_X16_reduce_30 {m : Nat}  : m < m + 5 ∨ m + 5 + 64 ≤ m := by omega
theorem zx_X16_reduce_31 {G3_0 G3_2 m x : Nat} (h0 : x < m + 596 + 130 * G3_0 ∨ m + 596 + 130 * G3_0 + (5720 - 130 * G3_0) ≤ x) (h1 : x < m + 5 ∨ m + 5 + 64 ≤ x) (h2 : G3_2 = G3_0 + 2) (h3 : G3_0 + 6 ≤ 44) : x < m + 596 + 130 * G3_2 ∨ m + 596 + 130 * G3_2 + (5720 - 130 * G3_2) ≤ x := by omega
theorem zx_X16_reduce_32 {G3_0 G3_1 m x : Nat} (h0 : m + 596 + 130 * G3_1 ≤ x) (h1 : x < m + 596 + 130 * G3_1 + 130) (h2 : G3_1 = G3_0 + 1) (h3 : G3_0 + 6 ≤ 44) : x < m + 596 + 130 * G3_0 ∨ m + 596 + 130 * G3_0 + 130 ≤ x := by omega
theorem zx_X16_reduce_33 {G1_0 G3_0 G3_1 m x : Nat} (h0 : m + 596 + 130 * G3_1 ≤ x) (h1 : x < m + 596 + 130 * G3_1 + 130) (h2 : G3_1 = G3_0 + 1) (h3 : G1_0 + 9 ≤ 160) (h4 : G3_0 + 6 ≤ 44) : x < m + 276 + 2 * G1_0 ∨ m + 276 + 2 * G1_0 + (320 - 2 * G1_0) ≤ x := by omega
theorem zx_X16_reduce_34 {G3_0 G3_1 G3_2 m x : Nat} (h0 : m + 596 + 130 * G3_1 ≤ x) (h1 : x < m + 596 + 130 * G3_1 + 130) (h2 : G3_1 = G3_0 + 1) (h3 : G3_2 = G3_0 + 2) (h4 : G3_0 + 6 ≤ 44) : x < m + 596 + 130 * G3_2 ∨ m + 596 + 130 * G3_2 + (5720 - 130 * G3_2) ≤ x := by omega
theorem zx_X16_reduce_35 {G3_0 G3_1 m x : Nat} (h0 : m + 596 + 130 * G3_1 ≤ x) (h1 : x < m + 596 + 130 * G3_1 + 130) (h2 : G3_1 = G3_0 + 1) (h3 : G3_0 + 6 ≤ 44) : x < m + 3 ∨ m + 3 + 1 ≤ x := by omega
theorem zx_X16_reduce_36 {G3_0 G3_1 m x : Nat} (h0 : m + 596 + 130 * G3_1 ≤ x) (h1 : x < m + 596 + 130 * G3_1 + 130) (h2 : G3_1 = G3_0 + 1) (h3 : G3_0 + 6 ≤ 44) : x < m + 5 ∨ m + 5 + 64 ≤ x := by omega
theorem zx_X16_reduce_37 {G3_0 G3_1 m : Nat} (h0 : G3_1 = G3_0 + 1) (h1 : G3_0 + 6 ≤ 44) : m < m + 596 + 130 * G3_1 ∨ m + 596 + 130 * G3_1 + 130 ≤ m := by omega
theorem zx_X16_reduce_38 {G3_0 G3_1 m num x : Nat} (h0 : m + 596 + 130 * G3_1 ≤ x) (h1 : x < m + 596 + 130 * G3_1 + 130) (h2 : m + 596 ≤ num ∧ num + 130 ≤ m + 596 + 130 * G3_0) (h3 : G3_1 = G3_0 + 1) (h4 : G3_0 + 6 ≤ 44) : x < num ∨ num + 130 ≤ x := by omega
theorem zx_X16_reduce_39 {G3_0 den m num x : Nat} (h0 : den ≤ x) (h1 : x < den + 130) (h2 : num + 130 ≤ den ∨ den + 130 ≤ num) (h3 : m + 596 ≤ num ∧ num + 130 ≤ m + 596 + 130 * G3_0) (h4 : m + 596 ≤ den ∧ den + 130 ≤ m + 596 + 130 * G3_0) (h5 : G3_0 + 6 ≤ 44) : x < num ∨ num + 130 ≤ x := by omega
theorem zx_X16_reduce_40 {G1_0 G3_0 m x : Nat} (h0 : m + 596 + 130 * G3_0 ≤ x) (h1 : x < m + 596 + 130 * G3_0 + 130) (h2 : G1_0 + 9 ≤ 160) (h3 : G3_0 + 6 ≤ 44) : x < m + 276 + 2 * G1_0 ∨ m + 276 + 2 * G1_0 + (320 - 2 * G1_0) ≤ x := by omega
theorem zx_X16_reduce_41 {G3_0 G3_2 m x : Nat} (h0 : m + 596 + 130 * G3_0 ≤ x) (h1 : x < m + 596 + 130 * G3_0 + 130) (h2 : G3_2 = G3_0 + 2) (h3 : G3_0 + 6 ≤ 44) : x < m + 596 + 130 * G3_2 ∨ m + 596 + 130 * G3_2 + (5720 - 130 * G3_2) ≤ x := by omega
theorem zx_X16_reduce_42 {G3_0 m num x : Nat} (h0 : m + 596 + 130 * G3_0 ≤ x) (h1 : x < m + 596 + 130 * G3_0 + 130) (h2 : m + 596 ≤ num ∧ num + 130 ≤ m + 596 + 130 * G3_0) (h3 : G3_0 + 6 ≤ 44) : x < num ∨ num + 130 ≤ x := by omega
theorem zx_X16_reduce_43 {G3_0 den m num x : Nat} (h0 : num ≤ x) (h1 : x < num + 130) (h2 : num + 130 ≤ den ∨ den + 130 ≤ num) (h3 : m + 596 ≤ num ∧ num + 130 ≤ m + 596 + 130 * G3_0) (h4 : m + 596 ≤ den ∧ den + 130 ≤ m + 596 + 130 * G3_0) (h5 : G3_0 + 6 ≤ 44) : x < den ∨ den + 130 ≤ x := by omega
set_option maxHeartbeats 8000000 in
set_option maxRecDepth 100000 in
theorem c_X16_reduce {w : zM} {g : Nat → Int32} {r : Nat → Value} {p q : zA2} {g1 : Int32} {g3 : Int32} (m : Nat) (num : Nat) (den : Nat) (hm : w m = some (.inl (15, zMo m g r))) (hR_m : zR m w) (hB_num : zB w num p) (hB_den : zB w den q) (hut : 0 ≤ g1.toInt ∧ g1.toInt + 9 ≤ 160) (hbt : 0 ≤ g3.toInt ∧ g3.toInt + 6 ≤ 44) (hab : num + 130 ≤ den ∨ den + 130 ≤ num) (hma : m + 596 ≤ num ∧ num + 130 ≤ m + 596 + 130 * g3.toNatClampNeg) (hmb : m + 596 ≤ den ∧ den + 130 ≤ m + 596 + 130 * g3.toNatClampNeg) (hq0 : 0 < zrw q) (hpd : zdn p ≤ 99) (hqd : zdn q ≤ 99) (hpq : zdn p ≤ 50 ∨ zdn q ≤ 50) (hg1 : g 1 = g1) (hg3 : g 3 = g3) : zCon 9 zq_X16_reduce [.ref m, .ref num, .ref den] w (fun v9 w9' => ∃ P9 : zA2, ∃ Q9 : zA2, zSI w w9' ∧ (∀ x, (x < num ∨ num + 130 ≤ x) ∧ (x < den ∨ den + 130 ≤ x) ∧ (x < m + 276 + 2 * g1.toNatClampNeg ∨ m + 276 + 2 * g1.toNatClampNeg + (320 - 2 * g1.toNatClampNeg) ≤ x) ∧ (x < m + 596 + 130 * g3.toNatClampNeg ∨ m + 596 + 130 * g3.toNatClampNeg + (5720 - 130 * g3.toNatClampNeg) ≤ x) ∧ (x < m + 3 ∨ m + 3 + 1 ≤ x) ∧ (x < m + 5 ∨ m + 5 + 64 ≤ x) → w9' x = w x) ∧ zB w9' num P9 ∧ zB w9' den Q9 ∧ (zLe P9 p ∧ zLe Q9 q) ∧ v9 = none) := by
  subst hg1
  subst hg3
  intro d sz hd
  obtain ⟨d, rfl⟩ : ∃ d9, d = d9 + 1 := ⟨d - 1, by omega⟩
  generalize hPost : (fun (r9' : Option (Option Value)) (w9' : zM) (z9 : Nat) => z9 = sz ∧ ∃ v9, r9' = some v9 ∧ (∃ P9 : zA2, ∃ Q9 : zA2, zSI w w9' ∧ (∀ x, (x < num ∨ num + 130 ≤ x) ∧ (x < den ∨ den + 130 ≤ x) ∧ (x < m + 276 + 2 * (g 1).toNatClampNeg ∨ m + 276 + 2 * (g 1).toNatClampNeg + (320 - 2 * (g 1).toNatClampNeg) ≤ x) ∧ (x < m + 596 + 130 * (g 3).toNatClampNeg ∨ m + 596 + 130 * (g 3).toNatClampNeg + (5720 - 130 * (g 3).toNatClampNeg) ≤ x) ∧ (x < m + 3 ∨ m + 3 + 1 ≤ x) ∧ (x < m + 5 ∨ m + 5 + 64 ≤ x) → w9' x = w x) ∧ zB w9' num P9 ∧ zB w9' den Q9 ∧ (zLe P9 p ∧ zLe Q9 q) ∧ v9 = none)) = Post
  show zP (d + 1) zq_X16_reduce 0 [(0, .ref m), (1, .ref num), (2, .ref den)] [] w sz 0 0 Post
  have k1 := zrng (g 1)
  have hz2 : ((g 1).toNatClampNeg : Int) = (g 1).toInt := znat (by first | omega | decide)
  have hgb1 : (g 1).toNatClampNeg + 9 ≤ 160 := by omega
  have k3 := zrng (g 3)
  have hz4 : ((g 3).toNatClampNeg : Int) = (g 3).toInt := znat (by first | omega | decide)
  have hgb3 : (g 3).toNatClampNeg + 6 ≤ 44 := by omega
  have hpq9 : zHid (zdn p ≤ 50 ∨ zdn q ≤ 50) := zHid.i hpq
  clear hpq
  refine zp_seg (pc' := 1) (lv' := [(0, .ref m), (1, .ref num), (2, .ref den)]) (st' := [.ref m]) [(0, .aload_n 0)] (by decide +kernel) rfl ?_
  refine zr_get (idx := 90) (k := 3) (v := .int (g 3)) (by decide +kernel) (by decide +kernel) hm rfl ?_
  refine zp_seg (pc' := 6) (lv' := [(3, .int (g 3)), (0, .ref m), (1, .ref num), (2, .ref den)]) (st' := [.ref m]) [(4, .istore_n 3), (5, .aload_n 0)] (by decide +kernel) rfl ?_
  refine zr_callV (idx := 140) (j := 274) (by decide +kernel) (by decide +kernel) (show zMe 274 = some zq_X16_newB from rfl) rfl rfl (Nat.le_of_ble_eq_true rfl) rfl rfl hm (Nat.le_of_ble_eq_true rfl) (Nat.le_of_ble_eq_true rfl) (c_X16_newB (w := w) (g3 := (g 3)) m hm hR_m (by first | omega | decide | assumption | exact zr1_1 | exact zr1_0 | fail "num") rfl) (by omega) (fun v6 w6 hp6 => ?_)
  obtain ⟨hsi6, heq6, hp6_0, hp6_1, rfl⟩ := hp6
  have hM6 : w6 m = some (.inl (15, zMo m (zs g 3 (g 3 + 1)) r)) := hp6_0
  show zP _ _ _ _ [.ref (m + 596 + 130 * (g 3).toNatClampNeg)] _ _ _ _ _
  refine zp_seg (pc' := 12) (lv' := [(4, .ref (m + 596 + 130 * (g 3).toNatClampNeg)), (3, .int (g 3)), (0, .ref m), (1, .ref num), (2, .ref den)]) (st' := [.ref m]) [(9, .astore 4), (11, .aload_n 0)] (by decide +kernel) rfl ?_
  have k6 := zaddC (g 3) 1 (n := 1) (by decide) (by omega) (by omega)
  have hz7 : ((g 3 + 1).toNatClampNeg : Int) = (g 3 + 1).toInt := znat (by first | omega | decide)
  have hgn3_1 : (g 3 + 1).toNatClampNeg = (g 3).toNatClampNeg + 1 := by omega
  have hb8 := hR_m.si hsi6
  refine zr_callV (idx := 140) (j := 274) (by decide +kernel) (by decide +kernel) (show zMe 274 = some zq_X16_newB from rfl) rfl rfl (Nat.le_of_ble_eq_true rfl) rfl rfl hM6 (Nat.le_of_ble_eq_true rfl) (Nat.le_of_ble_eq_true rfl) (c_X16_newB (w := w6) (g3 := (g 3 + 1)) m hM6 hb8 (by first | omega | decide | assumption | exact zr1_1 | exact zr1_0 | fail "num") rfl) (by omega) (fun v12 w12 hp12 => ?_)
  obtain ⟨hsi12, heq12, hp12_0, hp12_1, rfl⟩ := hp12
  have hM12 : w12 m = some (.inl (15, zMo m (zs g 3 (g 3 + 1 + 1)) r)) := hp12_0
  show zP _ _ _ _ [.ref (m + 596 + 130 * (g 3 + 1).toNatClampNeg)] _ _ _ _ _
  refine zp_seg (pc' := 18) (lv' := [(5, .ref (m + 596 + 130 * (g 3 + 1).toNatClampNeg)), (4, .ref (m + 596 + 130 * (g 3).toNatClampNeg)), (3, .int (g 3)), (0, .ref m), (1, .ref num), (2, .ref den)]) (st' := [.ref num]) [(15, .astore 5), (17, .aload_n 1)] (by decide +kernel) rfl ?_
  obtain ⟨n9, hb10, hb11, hb12, hb13, -⟩ := id hB_num
  have kn9 := zrng n9
  have hb14 : w12 num = some (.inl (11, [.ref (num + 1), .int n9])) := ((heq12 num ⟨(zx_X16_reduce_0 hma hgb3), (zx_X16_reduce_2 hma hgn3_1 hgb3)⟩).trans (heq6 num ⟨(zx_X16_reduce_0 hma hgb3), (zx_X16_reduce_1 hma hgb3)⟩)).trans hb10
  refine zr_get (idx := 93) (k := 1) (v := .int n9) (by decide +kernel) (by decide +kernel) hb14 rfl ?_
  refine zp_if (i := .ifCond .le 53) (c := n9 ≤ 0) (t := 74) (e := 24) (lv' := [(5, .ref (m + 596 + 130 * (g 3 + 1).toNatClampNeg)), (4, .ref (m + 596 + 130 * (g 3).toNatClampNeg)), (3, .int (g 3)), (0, .ref m), (1, .ref num), (2, .ref den)]) (st' := []) (by decide +kernel) rfl (fun cc21 => ?_) (fun cc21 => ?_)
  ·
    have f16 := zleI cc21
    rw [show (0 : Int32).toInt = 0 from by decide] at f16
    have hle9 : zLe p p ∧ zLe q q := by
      first
      | exact ⟨zdiv_le hQ1 hL9.1, zdiv_le hQ2 hL9.1⟩
      | exact ⟨zLe.rf, zLe.rf⟩
    have hq9 := hle9.2.2.2 hq0
    refine zp_seg (pc' := 76) (lv' := [(5, .ref (m + 596 + 130 * (g 3 + 1).toNatClampNeg)), (4, .ref (m + 596 + 130 * (g 3).toNatClampNeg)), (3, .int (g 3)), (0, .ref m), (1, .ref num), (2, .ref den)]) (st' := [.ref den, .ref num]) [(74, .aload_n 1), (75, .aload_n 2)] (by decide +kernel) rfl ?_
    have hb17 : zB w12 num p := hB_num.ag (fun x hx1 hx2 => ((heq12 x ⟨(zx_X16_reduce_3 hx1 hx2 hma hgb3), (zx_X16_reduce_5 hx1 hx2 hma hgn3_1 hgb3)⟩).trans (heq6 x ⟨(zx_X16_reduce_3 hx1 hx2 hma hgb3), (zx_X16_reduce_4 hx1 hx2 hma hgb3)⟩)))
    have hb18 : zB w12 den q := hB_den.ag (fun x hx1 hx2 => ((heq12 x ⟨(zx_X16_reduce_6 hx1 hx2 hmb hgb3), (zx_X16_reduce_8 hx1 hx2 hmb hgn3_1 hgb3)⟩).trans (heq6 x ⟨(zx_X16_reduce_6 hx1 hx2 hmb hgb3), (zx_X16_reduce_7 hx1 hx2 hmb hgb3)⟩)))
    refine zr_callS (idx := 191) (j := 293) (by decide +kernel) (by decide +kernel) (by decide) (show zMe 293 = some zq_X16_settle from rfl) rfl rfl (Nat.le_of_ble_eq_true rfl) rfl rfl (Nat.le_of_ble_eq_true rfl) (Nat.le_of_ble_eq_true rfl) (c_X16_settle (w := w12) num den hb17 hb18 (by first | omega | decide | assumption | exact zr1_1 | exact zr1_0 | fail "num") (by first | omega | decide | assumption | exact zr1_1 | exact zr1_0 | fail "num")) (by omega) (fun v76 w76 hp76 => ?_)
    obtain ⟨P9_76, Q9_76, hsi76, heq76, hp76_0, hp76_1, hp76_2, rfl⟩ := hp76
    show zP _ _ _ _ [] _ _ _ _ _
    refine zp_seg (pc' := 81) (lv' := [(5, .ref (m + 596 + 130 * (g 3 + 1).toNatClampNeg)), (4, .ref (m + 596 + 130 * (g 3).toNatClampNeg)), (3, .int (g 3)), (0, .ref m), (1, .ref num), (2, .ref den)]) (st' := [.int (g 3), .ref m]) [(79, .aload_n 0), (80, .iload_n 3)] (by decide +kernel) rfl ?_
    have hb19 : w76 m = some (.inl (15, zMo m (zs g 3 (g 3 + 1 + 1)) r)) := (heq76 m ⟨(zx_X16_reduce_9 hma hgb3), (zx_X16_reduce_10 hmb hgb3)⟩).trans hM12
    refine zr_put2 (idx := 90) (k := 3) (fs2 := zMo m g r) (by decide +kernel) (by decide +kernel) hb19 (Nat.le_of_ble_eq_true rfl) rfl rfl rfl ?_
    show zP (d + 1) zq_X16_reduce 84 [(5, .ref (m + 596 + 130 * (g 3 + 1).toNatClampNeg)), (4, .ref (m + 596 + 130 * (g 3).toNatClampNeg)), (3, .int (g 3)), (0, .ref m), (1, .ref num), (2, .ref den)] [] (zup w76 m (.inl (15, zMo m g r))) sz 0 0 Post
    obtain ⟨w81, ew81⟩ : ∃ wz9, wz9 = zup w76 m (.inl (15, zMo m g r)) := ⟨_, rfl⟩
    have hsi81 : zSI w76 w81 := by rw [ew81]; exact zSI.setG hb19 _ _
    have heq81 : ∀ x, x ≠ m → w81 x = w76 x := fun x hx => by rw [ew81]; exact zup_n hx
    have hc81 : w81 m = some (.inl (15, zMo m g r)) := by rw [ew81]; exact zup_s
    rw [← ew81]
    clear ew81
    have hmend : w81 m = w m := by rw [hc81, hm]
    have hoffend : ∀ x, (x < num ∨ num + 130 ≤ x) ∧ (x < den ∨ den + 130 ≤ x) ∧ (x < m + 276 + 2 * (g 1).toNatClampNeg ∨ m + 276 + 2 * (g 1).toNatClampNeg + (320 - 2 * (g 1).toNatClampNeg) ≤ x) ∧ (x < m + 596 + 130 * (g 3).toNatClampNeg ∨ m + 596 + 130 * (g 3).toNatClampNeg + (5720 - 130 * (g 3).toNatClampNeg) ≤ x) ∧ (x < m + 3 ∨ m + 3 + 1 ≤ x) ∧ (x < m + 5 ∨ m + 5 + 64 ≤ x) → w81 x = w x := fun x hx => by
        by_cases ex : x = m
        · rw [ex]; exact hmend
        · exact ((heq81 x ex).trans ((heq76 x ⟨hx.1, hx.2.1⟩).trans ((heq12 x ⟨(zx_X16_reduce_11 ex), (zx_X16_reduce_13 hx.2.2.2.1 hx.2.2.2.2.2 hgn3_1 hgb3)⟩).trans (heq6 x ⟨(zx_X16_reduce_11 ex), (zx_X16_reduce_12 hx.2.2.2.1 hx.2.2.2.2.2 hgb3)⟩))))
    have hb20 : zB w81 num P9_76 := hp76_0.ag (fun x hx1 hx2 => (heq81 x (zx_X16_reduce_14 hx1 hx2 hma hgb3)))
    have hb21 : zB w81 den Q9_76 := hp76_1.ag (fun x hx1 hx2 => (heq81 x (zx_X16_reduce_15 hx1 hx2 hmb hgb3)))
    refine zr_retV (by decide +kernel) rfl ?_
    rw [← hPost]; exact ⟨rfl, _, rfl, P9_76, Q9_76, (((hsi6.tr hsi12).tr hsi76).tr hsi81), hoffend, (by first | exact hb20 | (have z9 := hb20; simpa using z9)), (by first | exact hb21 | (have z9 := hb21; simpa using z9)), (by
          exact ⟨hp76_2.1.tr hle9.1, hp76_2.2.tr hle9.2⟩), rfl⟩
  ·
    have f23 := znleI cc21
    rw [show (0 : Int32).toInt = 0 from by decide] at f23
    refine zp_seg (pc' := 29) (lv' := [(5, .ref (m + 596 + 130 * (g 3 + 1).toNatClampNeg)), (4, .ref (m + 596 + 130 * (g 3).toNatClampNeg)), (3, .int (g 3)), (0, .ref m), (1, .ref num), (2, .ref den)]) (st' := [.ref den, .ref num, .ref (m + 596 + 130 * (g 3).toNatClampNeg), .ref m]) [(24, .aload_n 0), (25, .aload 4), (27, .aload_n 1), (28, .aload_n 2)] (by decide +kernel) rfl ?_
    have k24 := zaddC (g 3 + 1) 1 (n := 1) (by decide) (by omega) (by omega)
    have hz25 : ((g 3 + 1 + 1).toNatClampNeg : Int) = (g 3 + 1 + 1).toInt := znat (by first | omega | decide)
    have hgn3_2 : (g 3 + 1 + 1).toNatClampNeg = (g 3).toNatClampNeg + 2 := by omega
    have hb26 := hb8.si hsi12
    have hb27 : zB w12 (m + 596 + 130 * (g 3).toNatClampNeg) zbZ := hp6_1.ag (fun x hx1 hx2 => (heq12 x ⟨(zx_X16_reduce_16 hx1 hx2 hgb3), (zx_X16_reduce_17 hx1 hx2 hgn3_1 hgb3)⟩))
    have ho29_to := zB.o hb27
    have hb28 : zB w12 num p := hB_num.ag (fun x hx1 hx2 => ((heq12 x ⟨(zx_X16_reduce_3 hx1 hx2 hma hgb3), (zx_X16_reduce_5 hx1 hx2 hma hgn3_1 hgb3)⟩).trans (heq6 x ⟨(zx_X16_reduce_3 hx1 hx2 hma hgb3), (zx_X16_reduce_4 hx1 hx2 hma hgb3)⟩)))
    have hb29 : zB w12 den q := hB_den.ag (fun x hx1 hx2 => ((heq12 x ⟨(zx_X16_reduce_6 hx1 hx2 hmb hgb3), (zx_X16_reduce_8 hx1 hx2 hmb hgn3_1 hgb3)⟩).trans (heq6 x ⟨(zx_X16_reduce_6 hx1 hx2 hmb hgb3), (zx_X16_reduce_7 hx1 hx2 hmb hgb3)⟩)))
    refine zr_callV (idx := 185) (j := 291) (by decide +kernel) (by decide +kernel) (show zMe 291 = some zq_X16_gcd_ from rfl) rfl rfl (Nat.le_of_ble_eq_true rfl) rfl rfl hM12 (Nat.le_of_ble_eq_true rfl) (Nat.le_of_ble_eq_true rfl) (c_X16_gcd_ (w := w12) (g1 := (g 1)) (g3 := (g 3 + 1 + 1)) m (m + 596 + 130 * (g 3).toNatClampNeg) num den hM12 hb26 ho29_to hb28 hb29 (by first | omega | decide | assumption | exact zr1_1 | exact zr1_0 | fail "num") (by first | omega | decide | assumption | exact zr1_1 | exact zr1_0 | fail "num") (by first | omega | decide | assumption | exact zr1_1 | exact zr1_0 | fail "num") (by first | omega | decide | assumption | exact zr1_1 | exact zr1_0 | fail "num") (by first | omega | decide | assumption | exact zr1_1 | exact zr1_0 | fail "num") (by first | omega | decide | assumption | exact zr1_1 | exact zr1_0 | fail "num") (by first | omega | decide | assumption | exact zr1_1 | exact zr1_0 | fail "num") (by first | omega | decide | assumption | exact zr1_1 | exact zr1_0 | fail "num") (by first | omega | decide | assumption | exact zr1_1 | exact zr1_0 | fail "num") (by have h9 := hpq9.o; omega) rfl rfl) (by omega) (fun v29 w29 hp29 => ?_)
    obtain ⟨Gn_29, hsi29, heq29, hp29_0, hp29_1, rfl⟩ := hp29
    show zP _ _ _ _ [] _ _ _ _ _
    have hL9 := hp29_1.l (by omega)
    have hR9 := hp29_1.r hq0
    refine zp_seg (pc' := 34) (lv' := [(5, .ref (m + 596 + 130 * (g 3 + 1).toNatClampNeg)), (4, .ref (m + 596 + 130 * (g 3).toNatClampNeg)), (3, .int (g 3)), (0, .ref m), (1, .ref num), (2, .ref den)]) (st' := [.ref (m + 596 + 130 * (g 3).toNatClampNeg)]) [(32, .aload 4)] (by decide +kernel) rfl ?_
    obtain ⟨n30, hb31, hb32, hb33, hb34, -⟩ := id hp29_0
    have kn30 := zrng n30
    refine zr_callV (idx := 187) (j := 250) (by decide +kernel) (by decide +kernel) (show zMe 250 = some zq_X12_isNumber from rfl) rfl rfl (Nat.le_of_ble_eq_true rfl) rfl rfl hb31 (Nat.le_of_ble_eq_true rfl) (Nat.le_of_ble_eq_true rfl) (c_X12_isNumber (w := w29) (m + 596 + 130 * (g 3).toNatClampNeg) hp29_0) (by omega) (fun v34 w34 hp34 => ?_)
    obtain ⟨hpw34, r34, rfl, hrb34, hr34⟩ := hp34
    replace hpw34 := hpw34.symm
    subst hpw34
    have kr34 := zrng r34
    show zP _ _ _ _ [.int r34] _ _ _ _ _
    refine zp_if (i := .ifCond .ne 37) (c := ¬ r34 = 0) (t := 74) (e := 40) (lv' := [(5, .ref (m + 596 + 130 * (g 3 + 1).toNatClampNeg)), (4, .ref (m + 596 + 130 * (g 3).toNatClampNeg)), (3, .int (g 3)), (0, .ref m), (1, .ref num), (2, .ref den)]) (st' := []) (by decide +kernel) rfl (fun cc37 => ?_) (fun cc37 => ?_)
    ·
      have f35 := zneI cc37
      rw [show (0 : Int32).toInt = 0 from by decide] at f35
      have hle9 : zLe p p ∧ zLe q q := by
        first
        | exact ⟨zdiv_le hQ1 hL9.1, zdiv_le hQ2 hL9.1⟩
        | exact ⟨zLe.rf, zLe.rf⟩
      have hq9 := hle9.2.2.2 hq0
      refine zp_seg (pc' := 76) (lv' := [(5, .ref (m + 596 + 130 * (g 3 + 1).toNatClampNeg)), (4, .ref (m + 596 + 130 * (g 3).toNatClampNeg)), (3, .int (g 3)), (0, .ref m), (1, .ref num), (2, .ref den)]) (st' := [.ref den, .ref num]) [(74, .aload_n 1), (75, .aload_n 2)] (by decide +kernel) rfl ?_
      have hb36 : zB w29 num p := hb28.ag (fun x hx1 hx2 => (heq29 x ⟨(zx_X16_reduce_4 hx1 hx2 hma hgb3), (zx_X16_reduce_18 hx1 hx2 hma hgb1 hgb3), (zx_X16_reduce_19 hx1 hx2 hma hgn3_2 hgb3), (zx_X16_reduce_20 hx1 hx2 hma hgb3), (zx_X16_reduce_21 hx1 hx2 hma hgb3)⟩))
      have hb37 : zB w29 den q := hb29.ag (fun x hx1 hx2 => (heq29 x ⟨(zx_X16_reduce_7 hx1 hx2 hmb hgb3), (zx_X16_reduce_22 hx1 hx2 hmb hgb1 hgb3), (zx_X16_reduce_23 hx1 hx2 hmb hgn3_2 hgb3), (zx_X16_reduce_24 hx1 hx2 hmb hgb3), (zx_X16_reduce_25 hx1 hx2 hmb hgb3)⟩))
      refine zr_callS (idx := 191) (j := 293) (by decide +kernel) (by decide +kernel) (by decide) (show zMe 293 = some zq_X16_settle from rfl) rfl rfl (Nat.le_of_ble_eq_true rfl) rfl rfl (Nat.le_of_ble_eq_true rfl) (Nat.le_of_ble_eq_true rfl) (c_X16_settle (w := w29) num den hb36 hb37 (by first | omega | decide | assumption | exact zr1_1 | exact zr1_0 | fail "num") (by first | omega | decide | assumption | exact zr1_1 | exact zr1_0 | fail "num")) (by omega) (fun v76 w76 hp76 => ?_)
      obtain ⟨P9_76, Q9_76, hsi76, heq76, hp76_0, hp76_1, hp76_2, rfl⟩ := hp76
      show zP _ _ _ _ [] _ _ _ _ _
      refine zp_seg (pc' := 81) (lv' := [(5, .ref (m + 596 + 130 * (g 3 + 1).toNatClampNeg)), (4, .ref (m + 596 + 130 * (g 3).toNatClampNeg)), (3, .int (g 3)), (0, .ref m), (1, .ref num), (2, .ref den)]) (st' := [.int (g 3), .ref m]) [(79, .aload_n 0), (80, .iload_n 3)] (by decide +kernel) rfl ?_
      have hb38 : w76 m = some (.inl (15, zMo m (zs g 3 (g 3 + 1 + 1)) r)) := ((heq76 m ⟨(zx_X16_reduce_9 hma hgb3), (zx_X16_reduce_10 hmb hgb3)⟩).trans (heq29 m ⟨(zx_X16_reduce_26 hgb3), (zx_X16_reduce_27 hgb1), (zx_X16_reduce_28 hgn3_2 hgb3), (zx_X16_reduce_29), (zx_X16_reduce_30)⟩)).trans hM12
      refine zr_put2 (idx := 90) (k := 3) (fs2 := zMo m g r) (by decide +kernel) (by decide +kernel) hb38 (Nat.le_of_ble_eq_true rfl) rfl rfl rfl ?_
      show zP (d + 1) zq_X16_reduce 84 [(5, .ref (m + 596 + 130 * (g 3 + 1).toNatClampNeg)), (4, .ref (m + 596 + 130 * (g 3).toNatClampNeg)), (3, .int (g 3)), (0, .ref m), (1, .ref num), (2, .ref den)] [] (zup w76 m (.inl (15, zMo m g r))) sz 0 0 Post
      obtain ⟨w81, ew81⟩ : ∃ wz9, wz9 = zup w76 m (.inl (15, zMo m g r)) := ⟨_, rfl⟩
      have hsi81 : zSI w76 w81 := by rw [ew81]; exact zSI.setG hb38 _ _
      have heq81 : ∀ x, x ≠ m → w81 x = w76 x := fun x hx => by rw [ew81]; exact zup_n hx
      have hc81 : w81 m = some (.inl (15, zMo m g r)) := by rw [ew81]; exact zup_s
      rw [← ew81]
      clear ew81
      have hmend : w81 m = w m := by rw [hc81, hm]
      have hoffend : ∀ x, (x < num ∨ num + 130 ≤ x) ∧ (x < den ∨ den + 130 ≤ x) ∧ (x < m + 276 + 2 * (g 1).toNatClampNeg ∨ m + 276 + 2 * (g 1).toNatClampNeg + (320 - 2 * (g 1).toNatClampNeg) ≤ x) ∧ (x < m + 596 + 130 * (g 3).toNatClampNeg ∨ m + 596 + 130 * (g 3).toNatClampNeg + (5720 - 130 * (g 3).toNatClampNeg) ≤ x) ∧ (x < m + 3 ∨ m + 3 + 1 ≤ x) ∧ (x < m + 5 ∨ m + 5 + 64 ≤ x) → w81 x = w x := fun x hx => by
          by_cases ex : x = m
          · rw [ex]; exact hmend
          · exact ((heq81 x ex).trans ((heq76 x ⟨hx.1, hx.2.1⟩).trans ((heq29 x ⟨(zx_X16_reduce_12 hx.2.2.2.1 hx.2.2.2.2.2 hgb3), hx.2.2.1, (zx_X16_reduce_31 hx.2.2.2.1 hx.2.2.2.2.2 hgn3_2 hgb3), hx.2.2.2.2.1, hx.2.2.2.2.2⟩).trans ((heq12 x ⟨(zx_X16_reduce_11 ex), (zx_X16_reduce_13 hx.2.2.2.1 hx.2.2.2.2.2 hgn3_1 hgb3)⟩).trans (heq6 x ⟨(zx_X16_reduce_11 ex), (zx_X16_reduce_12 hx.2.2.2.1 hx.2.2.2.2.2 hgb3)⟩)))))
      have hb39 : zB w81 num P9_76 := hp76_0.ag (fun x hx1 hx2 => (heq81 x (zx_X16_reduce_14 hx1 hx2 hma hgb3)))
      have hb40 : zB w81 den Q9_76 := hp76_1.ag (fun x hx1 hx2 => (heq81 x (zx_X16_reduce_15 hx1 hx2 hmb hgb3)))
      refine zr_retV (by decide +kernel) rfl ?_
      rw [← hPost]; exact ⟨rfl, _, rfl, P9_76, Q9_76, ((((hsi6.tr hsi12).tr hsi29).tr hsi76).tr hsi81), hoffend, (by first | exact hb39 | (have z9 := hb39; simpa using z9)), (by first | exact hb40 | (have z9 := hb40; simpa using z9)), (by
            exact ⟨hp76_2.1.tr hle9.1, hp76_2.2.tr hle9.2⟩), rfl⟩
    ·
      replace cc37 := Classical.not_not.mp cc37
      have f41 := zeqI cc37
      rw [show (0 : Int32).toInt = 0 from by decide] at f41
      refine zp_seg (pc' := 46) (lv' := [(5, .ref (m + 596 + 130 * (g 3 + 1).toNatClampNeg)), (4, .ref (m + 596 + 130 * (g 3).toNatClampNeg)), (3, .int (g 3)), (0, .ref m), (1, .ref num), (2, .ref den)]) (st' := [.ref (m + 596 + 130 * (g 3).toNatClampNeg), .ref num, .ref (m + 596 + 130 * (g 3 + 1).toNatClampNeg), .ref m]) [(40, .aload_n 0), (41, .aload 5), (43, .aload_n 1), (44, .aload 4)] (by decide +kernel) rfl ?_
      have hb42 : w29 m = some (.inl (15, zMo m (zs g 3 (g 3 + 1 + 1)) r)) := (heq29 m ⟨(zx_X16_reduce_26 hgb3), (zx_X16_reduce_27 hgb1), (zx_X16_reduce_28 hgn3_2 hgb3), (zx_X16_reduce_29), (zx_X16_reduce_30)⟩).trans hM12
      have hb43 := hb26.si hsi29
      have hb44 : zB w29 (m + 596 + 130 * (g 3 + 1).toNatClampNeg) zbZ := hp12_1.ag (fun x hx1 hx2 => (heq29 x ⟨(zx_X16_reduce_32 hx1 hx2 hgn3_1 hgb3), (zx_X16_reduce_33 hx1 hx2 hgn3_1 hgb1 hgb3), (zx_X16_reduce_34 hx1 hx2 hgn3_1 hgn3_2 hgb3), (zx_X16_reduce_35 hx1 hx2 hgn3_1 hgb3), (zx_X16_reduce_36 hx1 hx2 hgn3_1 hgb3)⟩))
      have ho46_q := zB.o hb44
      have hb45 : zB w29 num p := hb28.ag (fun x hx1 hx2 => (heq29 x ⟨(zx_X16_reduce_4 hx1 hx2 hma hgb3), (zx_X16_reduce_18 hx1 hx2 hma hgb1 hgb3), (zx_X16_reduce_19 hx1 hx2 hma hgn3_2 hgb3), (zx_X16_reduce_20 hx1 hx2 hma hgb3), (zx_X16_reduce_21 hx1 hx2 hma hgb3)⟩))
      refine zr_callV (idx := 170) (j := 288) (by decide +kernel) (by decide +kernel) (show zMe 288 = some zq_X16_divides from rfl) rfl rfl (Nat.le_of_ble_eq_true rfl) rfl rfl hb42 (Nat.le_of_ble_eq_true rfl) (Nat.le_of_ble_eq_true rfl) (c_X16_divides (w := w29) (g1 := (g 1)) (g3 := (g 3 + 1 + 1)) m (m + 596 + 130 * (g 3 + 1).toNatClampNeg) num (m + 596 + 130 * (g 3).toNatClampNeg) hb42 hb43 ho46_q hb45 hp29_0 (by first | omega | decide | assumption | exact zr1_1 | exact zr1_0 | fail "num") (by first | omega | decide | assumption | exact zr1_1 | exact zr1_0 | fail "num") (by first | omega | decide | assumption | exact zr1_1 | exact zr1_0 | fail "num") (by first | omega | decide | assumption | exact zr1_1 | exact zr1_0 | fail "num") (by first | omega | decide | assumption | exact zr1_1 | exact zr1_0 | fail "num") (by first | omega | decide | assumption | exact zr1_1 | exact zr1_0 | fail "num") (by first | omega | decide | assumption | exact zr1_1 | exact zr1_0 | fail "num") (by first | omega | decide | assumption | exact zr1_1 | exact zr1_0 | fail "num") (by first | omega | decide | assumption | exact zr1_1 | exact zr1_0 | fail "num") rfl rfl) (by omega) (fun v46 w46 hp46 => ?_)
      obtain ⟨Q_46, hsi46, heq46, hp46_0, r46, rfl, hrb46, hr46⟩ := hp46
      have kr46 := zrng r46
      show zP _ _ _ _ [.int r46] _ _ _ _ _
      have hQ1 := hr46.1 (hr46.2 (zdvx hp29_1.1 (by omega) hpd))
      refine zp_seg (pc' := 54) (lv' := [(6, .int r46), (5, .ref (m + 596 + 130 * (g 3 + 1).toNatClampNeg)), (4, .ref (m + 596 + 130 * (g 3).toNatClampNeg)), (3, .int (g 3)), (0, .ref m), (1, .ref num), (2, .ref den)]) (st' := [.ref (m + 596 + 130 * (g 3 + 1).toNatClampNeg), .ref num]) [(49, .istore 6), (51, .aload_n 1), (52, .aload 5)] (by decide +kernel) rfl ?_
      have hb46 : zB w46 num p := hb45.ag (fun x hx1 hx2 => (heq46 x ⟨(zx_X16_reduce_5 hx1 hx2 hma hgn3_1 hgb3), (zx_X16_reduce_18 hx1 hx2 hma hgb1 hgb3), (zx_X16_reduce_19 hx1 hx2 hma hgn3_2 hgb3)⟩))
      have ho54_to := zB.o hb46
      refine zr_callS (idx := 113) (j := 275) (by decide +kernel) (by decide +kernel) (by decide) (show zMe 275 = some zq_X16_set_ from rfl) rfl rfl (Nat.le_of_ble_eq_true rfl) rfl rfl (Nat.le_of_ble_eq_true rfl) (Nat.le_of_ble_eq_true rfl) (c_X16_set_ (w := w46) num (m + 596 + 130 * (g 3 + 1).toNatClampNeg) ho54_to hp46_0 (by first | omega | decide | assumption | exact zr1_1 | exact zr1_0 | fail "num")) (by omega) (fun v54 w54 hp54 => ?_)
      obtain ⟨hsi54, heq54, hp54_0, rfl⟩ := hp54
      show zP _ _ _ _ [] _ _ _ _ _
      refine zp_seg (pc' := 63) (lv' := [(6, .int r46), (5, .ref (m + 596 + 130 * (g 3 + 1).toNatClampNeg)), (4, .ref (m + 596 + 130 * (g 3).toNatClampNeg)), (3, .int (g 3)), (0, .ref m), (1, .ref num), (2, .ref den)]) (st' := [.ref (m + 596 + 130 * (g 3).toNatClampNeg), .ref den, .ref (m + 596 + 130 * (g 3 + 1).toNatClampNeg), .ref m]) [(57, .aload_n 0), (58, .aload 5), (60, .aload_n 2), (61, .aload 4)] (by decide +kernel) rfl ?_
      have hb47 : w54 m = some (.inl (15, zMo m (zs g 3 (g 3 + 1 + 1)) r)) := ((heq54 m (zx_X16_reduce_9 hma hgb3)).trans (heq46 m ⟨(zx_X16_reduce_37 hgn3_1 hgb3), (zx_X16_reduce_27 hgb1), (zx_X16_reduce_28 hgn3_2 hgb3)⟩)).trans hb42
      have hb48 := hb43.si (hsi46.tr hsi54)
      have hb49 : zB w54 (m + 596 + 130 * (g 3 + 1).toNatClampNeg) Q_46 := hp46_0.ag (fun x hx1 hx2 => (heq54 x (zx_X16_reduce_38 hx1 hx2 hma hgn3_1 hgb3)))
      have ho63_q := zB.o hb49
      have hb50 : zB w54 den q := hb29.ag (fun x hx1 hx2 => ((heq54 x (zx_X16_reduce_39 hx1 hx2 hab hma hmb hgb3)).trans ((heq46 x ⟨(zx_X16_reduce_8 hx1 hx2 hmb hgn3_1 hgb3), (zx_X16_reduce_22 hx1 hx2 hmb hgb1 hgb3), (zx_X16_reduce_23 hx1 hx2 hmb hgn3_2 hgb3)⟩).trans (heq29 x ⟨(zx_X16_reduce_7 hx1 hx2 hmb hgb3), (zx_X16_reduce_22 hx1 hx2 hmb hgb1 hgb3), (zx_X16_reduce_23 hx1 hx2 hmb hgn3_2 hgb3), (zx_X16_reduce_24 hx1 hx2 hmb hgb3), (zx_X16_reduce_25 hx1 hx2 hmb hgb3)⟩))))
      have hb51 : zB w54 (m + 596 + 130 * (g 3).toNatClampNeg) Gn_29 := hp29_0.ag (fun x hx1 hx2 => ((heq54 x (zx_X16_reduce_42 hx1 hx2 hma hgb3)).trans (heq46 x ⟨(zx_X16_reduce_17 hx1 hx2 hgn3_1 hgb3), (zx_X16_reduce_40 hx1 hx2 hgb1 hgb3), (zx_X16_reduce_41 hx1 hx2 hgn3_2 hgb3)⟩)))
      refine zr_callV (idx := 170) (j := 288) (by decide +kernel) (by decide +kernel) (show zMe 288 = some zq_X16_divides from rfl) rfl rfl (Nat.le_of_ble_eq_true rfl) rfl rfl hb47 (Nat.le_of_ble_eq_true rfl) (Nat.le_of_ble_eq_true rfl) (c_X16_divides (w := w54) (g1 := (g 1)) (g3 := (g 3 + 1 + 1)) m (m + 596 + 130 * (g 3 + 1).toNatClampNeg) den (m + 596 + 130 * (g 3).toNatClampNeg) hb47 hb48 ho63_q hb50 hb51 (by first | omega | decide | assumption | exact zr1_1 | exact zr1_0 | fail "num") (by first | omega | decide | assumption | exact zr1_1 | exact zr1_0 | fail "num") (by first | omega | decide | assumption | exact zr1_1 | exact zr1_0 | fail "num") (by first | omega | decide | assumption | exact zr1_1 | exact zr1_0 | fail "num") (by first | omega | decide | assumption | exact zr1_1 | exact zr1_0 | fail "num") (by first | omega | decide | assumption | exact zr1_1 | exact zr1_0 | fail "num") (by first | omega | decide | assumption | exact zr1_1 | exact zr1_0 | fail "num") (by first | omega | decide | assumption | exact zr1_1 | exact zr1_0 | fail "num") (by first | omega | decide | assumption | exact zr1_1 | exact zr1_0 | fail "num") rfl rfl) (by omega) (fun v63 w63 hp63 => ?_)
      obtain ⟨Q_63, hsi63, heq63, hp63_0, r63, rfl, hrb63, hr63⟩ := hp63
      have kr63 := zrng r63
      show zP _ _ _ _ [.int r63] _ _ _ _ _
      have hQ2 := hr63.1 (hr63.2 (zdvx hp29_1.2.1 (by omega) hqd))
      refine zp_seg (pc' := 71) (lv' := [(6, .int r63), (5, .ref (m + 596 + 130 * (g 3 + 1).toNatClampNeg)), (4, .ref (m + 596 + 130 * (g 3).toNatClampNeg)), (3, .int (g 3)), (0, .ref m), (1, .ref num), (2, .ref den)]) (st' := [.ref (m + 596 + 130 * (g 3 + 1).toNatClampNeg), .ref den]) [(66, .istore 6), (68, .aload_n 2), (69, .aload 5)] (by decide +kernel) rfl ?_
      have hb52 : zB w63 den q := hb50.ag (fun x hx1 hx2 => (heq63 x ⟨(zx_X16_reduce_8 hx1 hx2 hmb hgn3_1 hgb3), (zx_X16_reduce_22 hx1 hx2 hmb hgb1 hgb3), (zx_X16_reduce_23 hx1 hx2 hmb hgn3_2 hgb3)⟩))
      have ho71_to := zB.o hb52
      refine zr_callS (idx := 113) (j := 275) (by decide +kernel) (by decide +kernel) (by decide) (show zMe 275 = some zq_X16_set_ from rfl) rfl rfl (Nat.le_of_ble_eq_true rfl) rfl rfl (Nat.le_of_ble_eq_true rfl) (Nat.le_of_ble_eq_true rfl) (c_X16_set_ (w := w63) den (m + 596 + 130 * (g 3 + 1).toNatClampNeg) ho71_to hp63_0 (by first | omega | decide | assumption | exact zr1_1 | exact zr1_0 | fail "num")) (by omega) (fun v71 w71 hp71 => ?_)
      obtain ⟨hsi71, heq71, hp71_0, rfl⟩ := hp71
      show zP _ _ _ _ [] _ _ _ _ _
      have hle9 : zLe Q_46 p ∧ zLe Q_63 q := by
        first
        | exact ⟨zdiv_le hQ1 hL9.1, zdiv_le hQ2 hL9.1⟩
        | exact ⟨zLe.rf, zLe.rf⟩
      have hq9 := hle9.2.2.2 hq0
      refine zp_seg (pc' := 76) (lv' := [(6, .int r63), (5, .ref (m + 596 + 130 * (g 3 + 1).toNatClampNeg)), (4, .ref (m + 596 + 130 * (g 3).toNatClampNeg)), (3, .int (g 3)), (0, .ref m), (1, .ref num), (2, .ref den)]) (st' := [.ref den, .ref num]) [(74, .aload_n 1), (75, .aload_n 2)] (by decide +kernel) rfl ?_
      have hb53 : zB w71 num Q_46 := hp54_0.ag (fun x hx1 hx2 => ((heq71 x (zx_X16_reduce_43 hx1 hx2 hab hma hmb hgb3)).trans (heq63 x ⟨(zx_X16_reduce_5 hx1 hx2 hma hgn3_1 hgb3), (zx_X16_reduce_18 hx1 hx2 hma hgb1 hgb3), (zx_X16_reduce_19 hx1 hx2 hma hgn3_2 hgb3)⟩)))
      refine zr_callS (idx := 191) (j := 293) (by decide +kernel) (by decide +kernel) (by decide) (show zMe 293 = some zq_X16_settle from rfl) rfl rfl (Nat.le_of_ble_eq_true rfl) rfl rfl (Nat.le_of_ble_eq_true rfl) (Nat.le_of_ble_eq_true rfl) (c_X16_settle (w := w71) num den hb53 hp71_0 (by first | omega | decide | assumption | exact zr1_1 | exact zr1_0 | fail "num") (by first | omega | decide | assumption | exact zr1_1 | exact zr1_0 | fail "num")) (by omega) (fun v76 w76 hp76 => ?_)
      obtain ⟨P9_76, Q9_76, hsi76, heq76, hp76_0, hp76_1, hp76_2, rfl⟩ := hp76
      show zP _ _ _ _ [] _ _ _ _ _
      refine zp_seg (pc' := 81) (lv' := [(6, .int r63), (5, .ref (m + 596 + 130 * (g 3 + 1).toNatClampNeg)), (4, .ref (m + 596 + 130 * (g 3).toNatClampNeg)), (3, .int (g 3)), (0, .ref m), (1, .ref num), (2, .ref den)]) (st' := [.int (g 3), .ref m]) [(79, .aload_n 0), (80, .iload_n 3)] (by decide +kernel) rfl ?_
      have hb54 : w76 m = some (.inl (15, zMo m (zs g 3 (g 3 + 1 + 1)) r)) := ((heq76 m ⟨(zx_X16_reduce_9 hma hgb3), (zx_X16_reduce_10 hmb hgb3)⟩).trans ((heq71 m (zx_X16_reduce_10 hmb hgb3)).trans (heq63 m ⟨(zx_X16_reduce_37 hgn3_1 hgb3), (zx_X16_reduce_27 hgb1), (zx_X16_reduce_28 hgn3_2 hgb3)⟩))).trans hb47
      refine zr_put2 (idx := 90) (k := 3) (fs2 := zMo m g r) (by decide +kernel) (by decide +kernel) hb54 (Nat.le_of_ble_eq_true rfl) rfl rfl rfl ?_
      show zP (d + 1) zq_X16_reduce 84 [(6, .int r63), (5, .ref (m + 596 + 130 * (g 3 + 1).toNatClampNeg)), (4, .ref (m + 596 + 130 * (g 3).toNatClampNeg)), (3, .int (g 3)), (0, .ref m), (1, .ref num), (2, .ref den)] [] (zup w76 m (.inl (15, zMo m g r))) sz 0 0 Post
      obtain ⟨w81, ew81⟩ : ∃ wz9, wz9 = zup w76 m (.inl (15, zMo m g r)) := ⟨_, rfl⟩
      have hsi81 : zSI w76 w81 := by rw [ew81]; exact zSI.setG hb54 _ _
      have heq81 : ∀ x, x ≠ m → w81 x = w76 x := fun x hx => by rw [ew81]; exact zup_n hx
      have hc81 : w81 m = some (.inl (15, zMo m g r)) := by rw [ew81]; exact zup_s
      rw [← ew81]
      clear ew81
      have hmend : w81 m = w m := by rw [hc81, hm]
      have hoffend : ∀ x, (x < num ∨ num + 130 ≤ x) ∧ (x < den ∨ den + 130 ≤ x) ∧ (x < m + 276 + 2 * (g 1).toNatClampNeg ∨ m + 276 + 2 * (g 1).toNatClampNeg + (320 - 2 * (g 1).toNatClampNeg) ≤ x) ∧ (x < m + 596 + 130 * (g 3).toNatClampNeg ∨ m + 596 + 130 * (g 3).toNatClampNeg + (5720 - 130 * (g 3).toNatClampNeg) ≤ x) ∧ (x < m + 3 ∨ m + 3 + 1 ≤ x) ∧ (x < m + 5 ∨ m + 5 + 64 ≤ x) → w81 x = w x := fun x hx => by
          by_cases ex : x = m
          · rw [ex]; exact hmend
          · exact ((heq81 x ex).trans ((heq76 x ⟨hx.1, hx.2.1⟩).trans ((heq71 x hx.2.1).trans ((heq63 x ⟨(zx_X16_reduce_13 hx.2.2.2.1 hx.2.2.2.2.2 hgn3_1 hgb3), hx.2.2.1, (zx_X16_reduce_31 hx.2.2.2.1 hx.2.2.2.2.2 hgn3_2 hgb3)⟩).trans ((heq54 x hx.1).trans ((heq46 x ⟨(zx_X16_reduce_13 hx.2.2.2.1 hx.2.2.2.2.2 hgn3_1 hgb3), hx.2.2.1, (zx_X16_reduce_31 hx.2.2.2.1 hx.2.2.2.2.2 hgn3_2 hgb3)⟩).trans ((heq29 x ⟨(zx_X16_reduce_12 hx.2.2.2.1 hx.2.2.2.2.2 hgb3), hx.2.2.1, (zx_X16_reduce_31 hx.2.2.2.1 hx.2.2.2.2.2 hgn3_2 hgb3), hx.2.2.2.2.1, hx.2.2.2.2.2⟩).trans ((heq12 x ⟨(zx_X16_reduce_11 ex), (zx_X16_reduce_13 hx.2.2.2.1 hx.2.2.2.2.2 hgn3_1 hgb3)⟩).trans (heq6 x ⟨(zx_X16_reduce_11 ex), (zx_X16_reduce_12 hx.2.2.2.1 hx.2.2.2.2.2 hgb3)⟩)))))))))
      have hb55 : zB w81 num P9_76 := hp76_0.ag (fun x hx1 hx2 => (heq81 x (zx_X16_reduce_14 hx1 hx2 hma hgb3)))
      have hb56 : zB w81 den Q9_76 := hp76_1.ag (fun x hx1 hx2 => (heq81 x (zx_X16_reduce_15 hx1 hx2 hmb hgb3)))
      refine zr_retV (by decide +kernel) rfl ?_
      rw [← hPost]; exact ⟨rfl, _, rfl, P9_76, Q9_76, ((((((((hsi6.tr hsi12).tr hsi29).tr hsi46).tr hsi54).tr hsi63).tr hsi71).tr hsi76).tr hsi81), hoffend, (by first | exact hb55 | (have z9 := hb55; simpa using z9)), (by first | exact hb56 | (have z9 := hb56; simpa using z9)), (by
            exact ⟨hp76_2.1.tr hle9.1, hp76_2.2.tr hle9.2⟩), rfl⟩
