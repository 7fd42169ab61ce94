theorem zx_X16_moved_0 {m num : Nat} (h0 : m + 596 ≤ num ∧ num + 130 ≤ m + 6316) : (m + 83) < num ∨ num + 130 ≤ (m + 83) := by omega
theorem zx_X16_moved_1 {den m : Nat} (h0 : m + 596 ≤ den ∧ den + 130 ≤ m + 6316) : (m + 83) < den ∨ den + 130 ≤ (m + 83) := by omega
theorem zx_X16_moved_2 {m : Nat}  : (m + 83) ≠ m := by omega
theorem zx_X16_moved_3 {den m num x : Nat} (h0 : den ≤ x) (h1 : x < den + 130) (h2 : num + 130 ≤ den ∨ den + 130 ≤ num) (h3 : m + 596 ≤ num ∧ num + 130 ≤ m + 6316) (h4 : m + 596 ≤ den ∧ den + 130 ≤ m + 6316) : x < num ∨ num + 130 ≤ x := by omega
theorem zx_X16_moved_4 {den m x : Nat} (h0 : den ≤ x) (h1 : x < den + 130) (h2 : m + 596 ≤ den ∧ den + 130 ≤ m + 6316) : x < m + 83 ∨ m + 83 + 9 ≤ x := by omega
theorem zx_X16_moved_5 {den m x : Nat} (h0 : den ≤ x) (h1 : x < den + 130) (h2 : m + 596 ≤ den ∧ den + 130 ≤ m + 6316) : x ≠ m := by omega
theorem zx_X16_moved_6 {m num : Nat} (h0 : m + 596 ≤ num ∧ num + 130 ≤ m + 6316) : m < num ∨ num + 130 ≤ m := by omega
theorem zx_X16_moved_7 {den m : Nat} (h0 : m + 596 ≤ den ∧ den + 130 ≤ m + 6316) : m < den ∨ den + 130 ≤ m := by omega
theorem zx_X16_moved_8 {m num : Nat} (h0 : m + 596 ≤ num ∧ num + 130 ≤ m + 6316) : (m + 83 + 1) < num ∨ num + 130 ≤ (m + 83 + 1) := by omega
theorem zx_X16_moved_9 {den m : Nat} (h0 : m + 596 ≤ den ∧ den + 130 ≤ m + 6316) : (m + 83 + 1) < den ∨ den + 130 ≤ (m + 83 + 1) := by omega
theorem zx_X16_moved_10 {m num : Nat} (h0 : m + 596 ≤ num ∧ num + 130 ≤ m + 6316) : (m + 83 + 2) < num ∨ num + 130 ≤ (m + 83 + 2) := by omega
theorem zx_X16_moved_11 {den m : Nat} (h0 : m + 596 ≤ den ∧ den + 130 ≤ m + 6316) : (m + 83 + 2) < den ∨ den + 130 ≤ (m + 83 + 2) := by omega
theorem zx_X16_moved_12 {m : Nat}  : (m + 83) < m + 83 + 1 ∨ m + 83 + 1 + 2 ≤ (m + 83) := by omega
theorem zx_X16_moved_13 {m num : Nat} (h0 : m + 596 ≤ num ∧ num + 130 ≤ m + 6316) : (m + 83 + 3) < num ∨ num + 130 ≤ (m + 83 + 3) := by omega
theorem zx_X16_moved_14 {den m : Nat} (h0 : m + 596 ≤ den ∧ den + 130 ≤ m + 6316) : (m + 83 + 3) < den ∨ den + 130 ≤ (m + 83 + 3) := by omega
theorem zx_X16_moved_15 {m : Nat}  : (m + 83 + 3) < m + 83 + 1 ∨ m + 83 + 1 + 2 ≤ (m + 83 + 3) := by omega
theorem zx_X16_moved_16 {m num : Nat} (h0 : m + 596 ≤ num ∧ num + 130 ≤ m + 6316) : (m + 83 + 4) < num ∨ num + 130 ≤ (m + 83 + 4) := by omega
theorem zx_X16_moved_17 {den m : Nat} (h0 : m + 596 ≤ den ∧ den + 130 ≤ m + 6316) : (m + 83 + 4) < den ∨ den + 130 ≤ (m + 83 + 4) := by omega
theorem zx_X16_moved_18 {m : Nat}  : (m + 83 + 4) < m + 83 + 1 ∨ m + 83 + 1 + 2 ≤ (m + 83 + 4) := by omega
theorem zx_X16_moved_19 {m num : Nat} (h0 : m + 596 ≤ num ∧ num + 130 ≤ m + 6316) : (m + 83 + 5) < num ∨ num + 130 ≤ (m + 83 + 5) := by omega
theorem zx_X16_moved_20 {den m : Nat} (h0 : m + 596 ≤ den ∧ den + 130 ≤ m + 6316) : (m + 83 + 5) < den ∨ den + 130 ≤ (m + 83 + 5) := by omega
theorem zx_X16_moved_21 {m : Nat}  : (m + 83 + 5) < m + 83 + 1 ∨ m + 83 + 1 + 2 ≤ (m + 83 + 5) := by omega
theorem zx_X16_moved_22 {m num : Nat} (h0 : m + 596 ≤ num ∧ num + 130 ≤ m + 6316) : (m + 83 + 6) < num ∨ num + 130 ≤ (m + 83 + 6) := by omega
theorem zx_X16_moved_23 {den m : Nat} (h0 : m + 596 ≤ den ∧ den + 130 ≤ m + 6316) : (m + 83 + 6) < den ∨ den + 130 ≤ (m + 83 + 6) := by omega
theorem zx_X16_moved_24 {m : Nat}  : (m + 83 + 6) < m + 83 + 1 ∨ m + 83 + 1 + 2 ≤ (m + 83 + 6) := by omega
theorem zx_X16_moved_25 {m num : Nat} (h0 : m + 596 ≤ num ∧ num + 130 ≤ m + 6316) : (m + 83 + 7) < num ∨ num + 130 ≤ (m + 83 + 7) := by omega
theorem zx_X16_moved_26 {den m : Nat} (h0 : m + 596 ≤ den ∧ den + 130 ≤ m + 6316) : (m + 83 + 7) < den ∨ den + 130 ≤ (m + 83 + 7) := by omega
theorem zx_X16_moved_27 {m : Nat}  : (m + 83 + 7) < m + 83 + 1 ∨ m + 83 + 1 + 2 ≤ (m + 83 + 7) := by omega
theorem zx_X16_moved_28 {m num : Nat} (h0 : m + 596 ≤ num ∧ num + 130 ≤ m + 6316) : (m + 83 + 8) < num ∨ num + 130 ≤ (m + 83 + 8) := by omega
theorem zx_X16_moved_29 {den m : Nat} (h0 : m + 596 ≤ den ∧ den + 130 ≤ m + 6316) : (m + 83 + 8) < den ∨ den + 130 ≤ (m + 83 + 8) := by omega
theorem zx_X16_moved_30 {m : Nat}  : (m + 83 + 8) < m + 83 + 1 ∨ m + 83 + 1 + 2 ≤ (m + 83 + 8) := by omega
theorem zx_X16_moved_31 {m : Nat}  : m < m + 83 + 1 ∨ m + 83 + 1 + 2 ≤ m := by omega
theorem zx_X16_moved_32 {m x : Nat} (h0 : x < m + 83 ∨ m + 83 + 9 ≤ x) : x < m + 83 + 1 ∨ m + 83 + 1 + 2 ≤ x := by omega
theorem zx_X16_moved_33 {m : Nat}  : (m + 83 + 1) ≠ m := by omega
theorem zx_X16_moved_34 {m : Nat}  : (m + 83 + 2) ≠ m := by omega
theorem zx_X16_moved_35 {m : Nat}  : (m + 83 + 3) ≠ m := by omega
theorem zx_X16_moved_36 {m : Nat}  : (m + 83 + 4) ≠ m := by omega
theorem zx_X16_moved_37 {m : Nat}  : (m + 83 + 5) ≠ m := by omega
theorem zx_X16_moved_38 {m : Nat}  : (m + 83 + 6) ≠ m := by omega
theorem zx_X16_moved_39 {m : Nat}  : (m + 83 + 7) ≠ m := by omega
theorem zx_X16_moved_40 {m : Nat}  : (m + 83 + 8) ≠ m := by omega
theorem zx_X16_moved_41 {m : Nat}  : (m + 83) < m + 83 + 5 ∨ m + 83 + 5 + 1 ≤ (m + 83) := by omega
theorem zx_X16_moved_42 {m x : Nat} (h0 : x < m + 83 ∨ m + 83 + 9 ≤ x) : x < m + 83 + 5 ∨ m + 83 + 5 + 1 ≤ x := by omega
theorem zx_X16_moved_43 {m num x : Nat} (h0 : num ≤ x) (h1 : x < num + 130) (h2 : m + 596 ≤ num ∧ num + 130 ≤ m + 6316) : x < m + 83 + 5 ∨ m + 83 + 5 + 1 ≤ x := by omega
theorem zx_X16_moved_44 {m num x : Nat} (h0 : num ≤ x) (h1 : x < num + 130) (h2 : m + 596 ≤ num ∧ num + 130 ≤ m + 6316) : x ≠ m := by omega
theorem zx_X16_moved_45 {m : Nat}  : (m + 83 + 1) < m + 83 + 5 ∨ m + 83 + 5 + 1 ≤ (m + 83 + 1) := by omega
theorem zx_X16_moved_46 {m : Nat}  : (m + 83 + 2) < m + 83 + 5 ∨ m + 83 + 5 + 1 ≤ (m + 83 + 2) := by omega
theorem zx_X16_moved_47 {m : Nat}  : (m + 83 + 3) < m + 83 + 5 ∨ m + 83 + 5 + 1 ≤ (m + 83 + 3) := by omega
theorem zx_X16_moved_48 {m : Nat}  : (m + 83 + 4) < m + 83 + 5 ∨ m + 83 + 5 + 1 ≤ (m + 83 + 4) := by omega
theorem zx_X16_moved_49 {m : Nat}  : (m + 83 + 6) < m + 83 + 5 ∨ m + 83 + 5 + 1 ≤ (m + 83 + 6) := by omega
theorem zx_X16_moved_50 {m : Nat}  : (m + 83 + 7) < m + 83 + 5 ∨ m + 83 + 5 + 1 ≤ (m + 83 + 7) := by omega
theorem zx_X16_moved_51 {m : Nat}  : (m + 83 + 8) < m + 83 + 5 ∨ m + 83 + 5 + 1 ≤ (m + 83 + 8) := by omega
theorem zx_X16_moved_52 {m x : Nat} (h0 : x < m + 83 + 5 ∨ m + 83 + 5 + 1 ≤ x) : x ≠ m + 83 + 5 := by omega
theorem zx_X16_moved_53 {m : Nat}  : m ≠ m + 83 + 5 := by omega
theorem zx_X16_moved_54 {den m num x : Nat} (h0 : num ≤ x) (h1 : x < num + 130) (h2 : num + 130 ≤ den ∨ den + 130 ≤ num) (h3 : m + 596 ≤ num ∧ num + 130 ≤ m + 6316) (h4 : m + 596 ≤ den ∧ den + 130 ≤ m + 6316) : x < den ∨ den + 130 ≤ x := by omega
set_option maxHeartbeats 8000000 in
set_option maxRecDepth 100000 in
theorem c_X16_moved {w : zM} {g : Nat → Int32} {r : Nat → Value} {k k9 : Int32} {p q : zA2} (m : Nat) (op : Int32) (num : Nat) (den : Nat) (v : Int32) (to : Int32) (hm : w m = some (.inl (15, zMo m g r))) (hR_m : zR m w) (hTi_m_83 : zTi w (m + 83) k) (hTi_m_7486_9_to_toNatClampNeg : zTi w (m + 7486 + 9 * to.toNatClampNeg) k9) (hB_num : zB w num p) (hB_den : zB w den q) (h_v : zr1 v) (hk : k = 1 ∨ k = 2) (hto : 0 ≤ to.toInt ∧ to.toInt < 12) (hnd : num + 130 ≤ den ∨ den + 130 ≤ num) (hmn : m + 596 ≤ num ∧ num + 130 ≤ m + 6316) (hmd : m + 596 ≤ den ∧ den + 130 ≤ m + 6316) (hsz : (zrw p ≤ 13 ∧ zdn p ≤ 24 ∧ zrw q ≤ 13 ∧ zdn q ≤ 24) ∧ 0 < zrw q ∧ (k = 2 → 0 < zrw p)) : zCon 5 zq_X16_moved [.ref m, .int op, .ref num, .ref den, .int v, .int to] w (fun v9 w9' => ∃ K9 : Int32, ∃ L9 : Int32, zSI w w9' ∧ (∀ x, (x < num ∨ num + 130 ≤ x) ∧ (x < den ∨ den + 130 ≤ x) ∧ (x < m + 83 ∨ m + 83 + 9 ≤ x) ∧ (x < m + 7486 + 9 * to.toNatClampNeg ∨ m + 7486 + 9 * to.toNatClampNeg + 9 ≤ x) → w9' x = w x) ∧ zTi w9' (m + 83) K9 ∧ zTi w9' (m + 7486 + 9 * to.toNatClampNeg) L9 ∧ ∃ r9 : Int32, v9 = some (.int r9) ∧ True) := by
  intro d sz hd
  obtain ⟨d, rfl⟩ : ∃ d9, d = d9 + 1 := ⟨d - 1, by omega⟩
  generalize hPost : (fun (r9' : Option (Option Value)) (w9' : zM) (z9 : Nat) => z9 = sz ∧ ∃ v9, r9' = some v9 ∧ (∃ K9 : Int32, ∃ L9 : Int32, zSI w w9' ∧ (∀ x, (x < num ∨ num + 130 ≤ x) ∧ (x < den ∨ den + 130 ≤ x) ∧ (x < m + 83 ∨ m + 83 + 9 ≤ x) ∧ (x < m + 7486 + 9 * to.toNatClampNeg ∨ m + 7486 + 9 * to.toNatClampNeg + 9 ≤ x) → w9' x = w x) ∧ zTi w9' (m + 83) K9 ∧ zTi w9' (m + 7486 + 9 * to.toNatClampNeg) L9 ∧ ∃ r9 : Int32, v9 = some (.int r9) ∧ True)) = Post
  show zP (d + 1) zq_X16_moved 0 [(0, .ref m), (1, .int op), (2, .ref num), (3, .ref den), (4, .int v), (5, .int to)] [] w sz 0 0 Post
  have k1 := zrng op
  have k2 := zrng v
  have k3 := zrng to
  have hz4 : (to.toNatClampNeg : Int) = to.toInt := znat (by first | omega | decide)
  have r_v : 0 ≤ v.toInt ∧ v.toInt < 2147483647 := h_v
  obtain ⟨g1, fn1, fd1, fa1, fb1, fc1, fe1, fr1, fu1, hT1, hAn1, hAd1, hAa1, hAb1, hAc1, hAe1, hAr1, hAu1, hK1⟩ := id hTi_m_83
  obtain ⟨hK10, hKn1, hKd1, hKx1, hKm1, hKl1, hKr1, hKu1, hKk1⟩ := id hK1
  have k5 := zrng (g1 5)
  have hz6 : ((g1 5).toNatClampNeg : Int) = (g1 5).toInt := znat (by first | omega | decide)
  refine zp_seg (pc' := 1) (lv' := [(0, .ref m), (1, .int op), (2, .ref num), (3, .ref den), (4, .int v), (5, .int to)]) (st' := [.int op]) [(0, .iload_n 1)] (by decide +kernel) rfl ?_
  have hJ35 : ∀ (wL35 : zM) (P : zA2) (Q : zA2), (zSI w wL35) → (∀ x, ((x < num ∨ num + 130 ≤ x) ∧ (x < den ∨ den + 130 ≤ x)) ∧ x ≠ m → wL35 x = w x) → (zB wL35 num P) → (zB wL35 den Q) → (wL35 m = some (.inl (15, zMo m g r))) → ((zrw P ≤ 13 ∧ zdn P ≤ 24 ∧ zrw Q ≤ 13 ∧ zdn Q ≤ 24) ∧ 0 < zrw Q ∧ (k = 2 → 0 < zrw P)) → zP (d + 1) zq_X16_moved 35 [(0, .ref m), (1, .int op), (2, .ref num), (3, .ref den), (4, .int v), (5, .int to)] [] wL35 sz 0 0 Post := by
    intro wL35 P Q hsiL35 heqL35 hBP hBQ hmL35 hS
    refine zp_seg (pc' := 36) (lv' := [(0, .ref m), (1, .int op), (2, .ref num), (3, .ref den), (4, .int v), (5, .int to)]) (st' := [.ref m]) [(35, .aload_n 0)] (by decide +kernel) rfl ?_
    refine zr_get (idx := 453) (k := 21) (v := .ref (m + 83)) (by decide +kernel) (by decide +kernel) hmL35 rfl ?_
    have hb7 : wL35 (m + 83) = some (.inl (13, zTo (m + 83) g1)) := (heqL35 (m + 83) ⟨⟨(zx_X16_moved_0 hmn), (zx_X16_moved_1 hmd)⟩, (zx_X16_moved_2)⟩).trans hT1
    refine zr_get (idx := 202) (k := 0) (v := .int (g1 0)) (by decide +kernel) (by decide +kernel) hb7 rfl ?_
    refine zp_seg (pc' := 43) (lv' := [(0, .ref m), (1, .int op), (2, .ref num), (3, .ref den), (4, .int v), (5, .int to)]) (st' := [.int 2, .int (g1 0)]) [(42, .iconst 2)] (by decide +kernel) rfl ?_
    have hJ185 : ∀ (wL185 : zM) (R : zA2) (fc : Nat → Int32), (zSI wL35 wL185) → (∀ x, ((x < num ∨ num + 130 ≤ x) ∧ (x < m + 83 ∨ m + 83 + 9 ≤ x)) ∧ x ≠ m → wL185 x = wL35 x) → (zB wL185 num R) → (wL185 (m + 83) = some (.inl (13, zTo (m + 83) g1))) → (wL185 (m + 83 + 1) = some (.inr (0, 325, .inl fn1))) → (wL185 (m + 83 + 2) = some (.inr (0, 325, .inl fd1))) → (wL185 (m + 83 + 3) = some (.inr (0, 13, .inl fa1))) → (wL185 (m + 83 + 4) = some (.inr (0, 13, .inl fb1))) → (wL185 (m + 83 + 5) = some (.inr (0, 13, .inl fc))) → (wL185 (m + 83 + 6) = some (.inr (0, 13, .inl fe1))) → (wL185 (m + 83 + 7) = some (.inr (0, 175, .inl fr1))) → (wL185 (m + 83 + 8) = some (.inr (0, 361, .inl fu1))) → (wL185 m = some (.inl (15, zMo m g r))) → ((zrw R ≤ 13 ∧ zdn R ≤ 24) ∧ (k = 2 → 0 < zrw R) ∧ zLn fa1 fb1 fc (g1 5).toNatClampNeg) → zP (d + 1) zq_X16_moved 185 [(0, .ref m), (2, .ref num), (3, .ref den), (5, .int to)] [] wL185 sz 0 0 Post := by
      intro wL185 R fc hsiL185 heqL185 hBR hT9 hA9n hA9d hA9a hA9b hA9c hA9e hA9r hA9u hmL185 hcR
      refine zp_seg (pc' := 187) (lv' := [(0, .ref m), (2, .ref num), (3, .ref den), (5, .int to)]) (st' := [.ref den, .ref num]) [(185, .aload_n 2), (186, .aload_n 3)] (by decide +kernel) rfl ?_
      have hb8 : zB wL185 den Q := hBQ.ag (fun x hx1 hx2 => (heqL185 x ⟨⟨(zx_X16_moved_3 hx1 hx2 hnd hmn hmd), (zx_X16_moved_4 hx1 hx2 hmd)⟩, (zx_X16_moved_5 hx1 hx2 hmd)⟩))
      refine zr_callS (idx := 191) (j := 293) (by decide +kernel) (by decide +kernel) (by decide) (show zMe 293 = some zq_X16_settle from rfl) rfl rfl (Nat.le_of_ble_eq_true rfl) rfl rfl (Nat.le_of_ble_eq_true rfl) (Nat.le_of_ble_eq_true rfl) (c_X16_settle (w := wL185) num den hBR hb8 (by first | omega | decide | assumption | exact zr1_1 | exact zr1_0 | fail "num") (by exact hS.2.1)) (by omega) (fun v187 w187 hp187 => ?_)
      obtain ⟨P9_187, Q9_187, hsi187, heq187, hp187_0, hp187_1, hp187_2, rfl⟩ := hp187
      show zP _ _ _ _ [] _ _ _ _ _
      have hs9 := hp187_2
      refine zp_seg (pc' := 191) (lv' := [(0, .ref m), (2, .ref num), (3, .ref den), (5, .int to)]) (st' := [.ref m]) [(190, .aload_n 0)] (by decide +kernel) rfl ?_
      have hb9 : w187 m = some (.inl (15, zMo m g r)) := (heq187 m ⟨(zx_X16_moved_6 hmn), (zx_X16_moved_7 hmd)⟩).trans hmL185
      refine zr_get (idx := 453) (k := 21) (v := .ref (m + 83)) (by decide +kernel) (by decide +kernel) hb9 rfl ?_
      refine zp_seg (pc' := 196) (lv' := [(0, .ref m), (2, .ref num), (3, .ref den), (5, .int to)]) (st' := [.ref den, .ref num, .ref (m + 83)]) [(194, .aload_n 2), (195, .aload_n 3)] (by decide +kernel) rfl ?_
      have hb10 : w187 (m + 83) = some (.inl (13, zTo (m + 83) g1)) := (heq187 (m + 83) ⟨(zx_X16_moved_0 hmn), (zx_X16_moved_1 hmd)⟩).trans hT9
      have hb11 : w187 (m + 83 + 1) = some (.inr (0, 325, .inl fn1)) := (heq187 (m + 83 + 1) ⟨(zx_X16_moved_8 hmn), (zx_X16_moved_9 hmd)⟩).trans hA9n
      have hb12 : w187 (m + 83 + 2) = some (.inr (0, 325, .inl fd1)) := (heq187 (m + 83 + 2) ⟨(zx_X16_moved_10 hmn), (zx_X16_moved_11 hmd)⟩).trans hA9d
      refine zr_callS (idx := 261) (j := 303) (by decide +kernel) (by decide +kernel) (by decide) (show zMe 303 = some zq_X16_put from rfl) rfl rfl (Nat.le_of_ble_eq_true rfl) rfl rfl (Nat.le_of_ble_eq_true rfl) (Nat.le_of_ble_eq_true rfl) (c_X16_put (w := w187) (m + 83) num den hb10 hb11 hb12 hp187_0 hp187_1 (by first | omega | decide | assumption | exact zr1_1 | exact zr1_0 | fail "num") (by first | omega | decide | assumption | exact zr1_1 | exact zr1_0 | fail "num")) (by omega) (fun v196 w196 hp196 => ?_)
      obtain ⟨Fn_196, Fd_196, hsi196, heq196, hp196_0, hp196_1, r196, rfl, hrb196, hr196⟩ := hp196
      have kr196 := zrng r196
      show zP _ _ _ _ [.int r196] _ _ _ _ _
      have hpp9 : (zCr Fn_196 ∧ zCr Fd_196) ∧ 0 < zrw (zbT Fd_196) ∧ (k = 2 → 0 < zrw (zbT Fn_196)) := by
        rcases hrb196 with e | e
        · have h9 := hr196.1 e
          rw [h9.1, h9.2]
          exact ⟨⟨hKn1, hKd1⟩, hKk1.2.1 (hk.elim Or.inl (fun e => Or.inr (Or.inl e))), hKk1.2.2.1⟩
        · have h9 := hr196.2.1 e
          rw [h9.2.2.1, h9.2.2.2]
          exact ⟨⟨h9.1, h9.2.1⟩, hp187_2.2.2.2 hS.2.1, fun e => hp187_2.1.2.2 (hcR.2.1 e)⟩
      have hb13 : w196 (m + 83) = some (.inl (13, zTo (m + 83) g1)) := (heq196 (m + 83) (zx_X16_moved_12)).trans hb10
      have hb14 : w196 (m + 83 + 3) = some (.inr (0, 13, .inl fa1)) := ((heq196 (m + 83 + 3) (zx_X16_moved_15)).trans (heq187 (m + 83 + 3) ⟨(zx_X16_moved_13 hmn), (zx_X16_moved_14 hmd)⟩)).trans hA9a
      have hb15 : w196 (m + 83 + 4) = some (.inr (0, 13, .inl fb1)) := ((heq196 (m + 83 + 4) (zx_X16_moved_18)).trans (heq187 (m + 83 + 4) ⟨(zx_X16_moved_16 hmn), (zx_X16_moved_17 hmd)⟩)).trans hA9b
      have hb16 : w196 (m + 83 + 5) = some (.inr (0, 13, .inl fc)) := ((heq196 (m + 83 + 5) (zx_X16_moved_21)).trans (heq187 (m + 83 + 5) ⟨(zx_X16_moved_19 hmn), (zx_X16_moved_20 hmd)⟩)).trans hA9c
      have hb17 : w196 (m + 83 + 6) = some (.inr (0, 13, .inl fe1)) := ((heq196 (m + 83 + 6) (zx_X16_moved_24)).trans (heq187 (m + 83 + 6) ⟨(zx_X16_moved_22 hmn), (zx_X16_moved_23 hmd)⟩)).trans hA9e
      have hb18 : w196 (m + 83 + 7) = some (.inr (0, 175, .inl fr1)) := ((heq196 (m + 83 + 7) (zx_X16_moved_27)).trans (heq187 (m + 83 + 7) ⟨(zx_X16_moved_25 hmn), (zx_X16_moved_26 hmd)⟩)).trans hA9r
      have hb19 : w196 (m + 83 + 8) = some (.inr (0, 361, .inl fu1)) := ((heq196 (m + 83 + 8) (zx_X16_moved_30)).trans (heq187 (m + 83 + 8) ⟨(zx_X16_moved_28 hmn), (zx_X16_moved_29 hmd)⟩)).trans hA9u
      have hTi9 : zTi w196 (m + 83) k := ⟨_, _, _, _, _, _, _, _, _, hb13, hp196_0, hp196_1, hb14, hb15, hb16, hb17, hb18, hb19, ⟨hK10, hpp9.1.1, hpp9.1.2, hKx1, hKm1, hcR.2.2, hKr1, hKu1, hk.elim (fun e => by rw [e]; exact zKk_12 (Or.inl rfl) hpp9.2.1 (fun k9 => absurd k9 (by decide)) (hKk1.2.2.2.1 (Or.inl e))) (fun e => by rw [e]; exact zKk_12 (Or.inr rfl) hpp9.2.1 (fun _ => hpp9.2.2 e) (hKk1.2.2.2.1 (Or.inr e)))⟩⟩
      refine zp_if (i := .ifCond .eq 12) (c := r196 = 0) (t := 211) (e := 202) (lv' := [(0, .ref m), (2, .ref num), (3, .ref den), (5, .int to)]) (st' := []) (by decide +kernel) rfl (fun cc199 => ?_) (fun cc199 => ?_)
      ·
        have f21 := zeqI cc199
        rw [show (0 : Int32).toInt = 0 from by decide] at f21
        refine zp_seg (pc' := 213) (lv' := [(0, .ref m), (2, .ref num), (3, .ref den), (5, .int to)]) (st' := [.int (Int32.ofInt (-2))]) [(211, .bipush (-2))] (by decide +kernel) rfl ?_
        have hb22 : w196 m = some (.inl (15, zMo m g r)) := (heq196 m (zx_X16_moved_31)).trans hb9
        have hmend : w196 m = w m := by rw [hb22, hm]
        have hoffend : ∀ x, (x < num ∨ num + 130 ≤ x) ∧ (x < den ∨ den + 130 ≤ x) ∧ (x < m + 83 ∨ m + 83 + 9 ≤ x) ∧ (x < m + 7486 + 9 * to.toNatClampNeg ∨ m + 7486 + 9 * to.toNatClampNeg + 9 ≤ x) → w196 x = w x := fun x hx => by
            by_cases ex : x = m
            · rw [ex]; exact hmend
            · exact ((heq196 x (zx_X16_moved_32 hx.2.2.1)).trans ((heq187 x ⟨hx.1, hx.2.1⟩).trans ((heqL185 x ⟨⟨hx.1, hx.2.2.1⟩, ex⟩).trans (heqL35 x ⟨⟨hx.1, hx.2.1⟩, ex⟩))))
        have hb23 : zTi w196 (m + 7486 + 9 * to.toNatClampNeg) k9 := hTi_m_7486_9_to_toNatClampNeg.ag (fun x hx1 hx2 => ((heq196 x (by omega)).trans ((heq187 x (by omega)).trans ((heqL185 x (by omega)).trans (heqL35 x (by omega))))))
        refine zr_retI (by decide +kernel) rfl ?_
        rw [← hPost]; exact ⟨rfl, _, rfl, k, k9, (((hsiL35.tr hsiL185).tr hsi187).tr hsi196), hoffend, (by first | exact hTi9 | (have z9 := hTi9; simpa using z9)), (by first | exact hb23 | (have z9 := hb23; simpa using z9)), _, rfl, trivial⟩
      ·
        have f26 := zneI cc199
        rw [show (0 : Int32).toInt = 0 from by decide] at f26
        refine zp_seg (pc' := 205) (lv' := [(0, .ref m), (2, .ref num), (3, .ref den), (5, .int to)]) (st' := [.int to, .ref m]) [(202, .aload_n 0), (203, .iload 5)] (by decide +kernel) rfl ?_
        have hb27 : w196 m = some (.inl (15, zMo m g r)) := (heq196 m (zx_X16_moved_31)).trans hb9
        have hb28 := hR_m.si (((hsiL35.tr hsiL185).tr hsi187).tr hsi196)
        have hb29 : zTi w196 (m + 7486 + 9 * to.toNatClampNeg) k9 := hTi_m_7486_9_to_toNatClampNeg.ag (fun x hx1 hx2 => ((heq196 x (by omega)).trans ((heq187 x (by omega)).trans ((heqL185 x (by omega)).trans (heqL35 x (by omega))))))
        refine zr_callV (idx := 558) (j := 338) (by decide +kernel) (by decide +kernel) (show zMe 338 = some zq_X16_keep from rfl) rfl rfl (Nat.le_of_ble_eq_true rfl) rfl rfl hb27 (Nat.le_of_ble_eq_true rfl) (Nat.le_of_ble_eq_true rfl) (c_X16_keep (w := w196) m to hb27 hb28 hTi9 hb29 (by first | omega | decide | assumption | exact zr1_1 | exact zr1_0 | fail "num")) (by omega) (fun v205 w205 hp205 => ?_)
        obtain ⟨hsi205, heq205, hp205_0, r205, rfl, hr205⟩ := hp205
        have kr205 := zrng r205
        show zP _ _ _ _ [.int r205] _ _ _ _ _
        refine zp_seg (pc' := 213) (lv' := [(0, .ref m), (2, .ref num), (3, .ref den), (5, .int to)]) (st' := [.int r205]) [(208, .goto 5)] (by decide +kernel) rfl ?_
        have hb30 : w205 m = some (.inl (15, zMo m g r)) := (heq205 m (by omega)).trans hb27
        have hmend : w205 m = w m := by rw [hb30, hm]
        have hoffend : ∀ x, (x < num ∨ num + 130 ≤ x) ∧ (x < den ∨ den + 130 ≤ x) ∧ (x < m + 83 ∨ m + 83 + 9 ≤ x) ∧ (x < m + 7486 + 9 * to.toNatClampNeg ∨ m + 7486 + 9 * to.toNatClampNeg + 9 ≤ x) → w205 x = w x := fun x hx => by
            by_cases ex : x = m
            · rw [ex]; exact hmend
            · exact ((heq205 x hx.2.2.2).trans ((heq196 x (zx_X16_moved_32 hx.2.2.1)).trans ((heq187 x ⟨hx.1, hx.2.1⟩).trans ((heqL185 x ⟨⟨hx.1, hx.2.2.1⟩, ex⟩).trans (heqL35 x ⟨⟨hx.1, hx.2.1⟩, ex⟩)))))
        have hb31 : zTi w205 (m + 83) k := hTi9.ag (fun x hx1 hx2 => (heq205 x (by omega)))
        refine zr_retI (by decide +kernel) rfl ?_
        rw [← hPost]; exact ⟨rfl, _, rfl, k, k, ((((hsiL35.tr hsiL185).tr hsi187).tr hsi196).tr hsi205), hoffend, (by first | exact hb31 | (have z9 := hb31; simpa using z9)), (by first | exact hp205_0 | (have z9 := hp205_0; simpa using z9)), _, rfl, trivial⟩
    refine zp_if (i := .if_icmp .ne 142) (c := ¬ (g1 0) = 2) (t := 185) (e := 46) (lv' := [(0, .ref m), (1, .int op), (2, .ref num), (3, .ref den), (4, .int v), (5, .int to)]) (st' := []) (by decide +kernel) rfl (fun cc43 => ?_) (fun cc43 => ?_)
    ·
      have k32 := zrng (g1 0)
      have f34 := zneI cc43
      rw [show (2 : Int32).toInt = 2 from by decide] at f34
      have hb35 : wL35 (m + 83 + 1) = some (.inr (0, 325, .inl fn1)) := (heqL35 (m + 83 + 1) ⟨⟨(zx_X16_moved_8 hmn), (zx_X16_moved_9 hmd)⟩, (zx_X16_moved_33)⟩).trans hAn1
      have hb36 : wL35 (m + 83 + 2) = some (.inr (0, 325, .inl fd1)) := (heqL35 (m + 83 + 2) ⟨⟨(zx_X16_moved_10 hmn), (zx_X16_moved_11 hmd)⟩, (zx_X16_moved_34)⟩).trans hAd1
      have hb37 : wL35 (m + 83 + 3) = some (.inr (0, 13, .inl fa1)) := (heqL35 (m + 83 + 3) ⟨⟨(zx_X16_moved_13 hmn), (zx_X16_moved_14 hmd)⟩, (zx_X16_moved_35)⟩).trans hAa1
      have hb38 : wL35 (m + 83 + 4) = some (.inr (0, 13, .inl fb1)) := (heqL35 (m + 83 + 4) ⟨⟨(zx_X16_moved_16 hmn), (zx_X16_moved_17 hmd)⟩, (zx_X16_moved_36)⟩).trans hAb1
      have hb39 : wL35 (m + 83 + 5) = some (.inr (0, 13, .inl fc1)) := (heqL35 (m + 83 + 5) ⟨⟨(zx_X16_moved_19 hmn), (zx_X16_moved_20 hmd)⟩, (zx_X16_moved_37)⟩).trans hAc1
      have hb40 : wL35 (m + 83 + 6) = some (.inr (0, 13, .inl fe1)) := (heqL35 (m + 83 + 6) ⟨⟨(zx_X16_moved_22 hmn), (zx_X16_moved_23 hmd)⟩, (zx_X16_moved_38)⟩).trans hAe1
      have hb41 : wL35 (m + 83 + 7) = some (.inr (0, 175, .inl fr1)) := (heqL35 (m + 83 + 7) ⟨⟨(zx_X16_moved_25 hmn), (zx_X16_moved_26 hmd)⟩, (zx_X16_moved_39)⟩).trans hAr1
      have hb42 : wL35 (m + 83 + 8) = some (.inr (0, 361, .inl fu1)) := (heqL35 (m + 83 + 8) ⟨⟨(zx_X16_moved_28 hmn), (zx_X16_moved_29 hmd)⟩, (zx_X16_moved_40)⟩).trans hAu1
      exact (hJ185 wL35 (P) (fc1) zSI.rf (fun _ _ => rfl) hBP hb7 hb35 hb36 hb37 hb38 hb39 hb40 hb41 hb42 hmL35 (by
            first | exact ⟨by omega, hS.2.2, hKl1⟩ | exact ⟨by omega, fun e => hle9.2.2 (hS.2.2 e), hlc⟩)).more (zfa1 rfl (zfa1 rfl (zfa1 rfl (zfa1 rfl (zfa0)))))
    ·
      replace cc43 := Classical.not_not.mp cc43
      have k43 := zrng (g1 0)
      have f45 := zeqI cc43
      rw [show (2 : Int32).toInt = 2 from by decide] at f45
      refine zp_seg (pc' := 48) (lv' := [(0, .ref m), (1, .int op), (2, .ref num), (3, .ref den), (4, .int v), (5, .int to)]) (st' := [.int v]) [(46, .iload 4)] (by decide +kernel) rfl ?_
      refine zr_callS (idx := 390) (j := 261) (by decide +kernel) (by decide +kernel) (by decide) (show zMe 261 = some zq_X16_small from rfl) rfl rfl (Nat.le_of_ble_eq_true rfl) rfl rfl (Nat.le_of_ble_eq_true rfl) (Nat.le_of_ble_eq_true rfl) (c_X16_small (w := wL35) v (by first | omega | decide | assumption | exact zr1_1 | exact zr1_0 | fail "num")) (by omega) (fun v48 w48 hp48 => ?_)
      obtain ⟨hpw48, r48, rfl, hr48⟩ := hp48
      replace hpw48 := hpw48.symm
      subst hpw48
      have kr48 := zrng r48
      show zP _ _ _ _ [.int r48] _ _ _ _ _
      refine zp_seg (pc' := 56) (lv' := [(6, .int r48), (0, .ref m), (1, .int op), (2, .ref num), (3, .ref den), (4, .int v), (5, .int to)]) (st' := [.int op, .ref num, .ref num]) [(51, .istore 6), (53, .aload_n 2), (54, .aload_n 2), (55, .iload_n 1)] (by decide +kernel) rfl ?_
      have hJ76 : ∀ (z0_76 : Int32), (zr1 z0_76 ∧ z0_76 ≠ 0) → zP (d + 1) zq_X16_moved 76 [(0, .ref m), (1, .int op), (2, .ref num), (3, .ref den), (5, .int to), (6, .int r48)] [.int z0_76, .ref num, .ref num] wL35 sz 0 0 Post := by
        intro z0_76 hx9
        have kz0_76 := zrng z0_76
        refine zp_seg (pc' := 78) (lv' := [(0, .ref m), (1, .int op), (2, .ref num), (3, .ref den), (5, .int to), (6, .int r48)]) (st' := [.int r48, .int z0_76, .ref num, .ref num]) [(76, .iload 6)] (by decide +kernel) rfl ?_
        refine zr_callS (idx := 317) (j := 262) (by decide +kernel) (by decide +kernel) (by decide) (show zMe 262 = some zq_X16_power from rfl) rfl rfl (Nat.le_of_ble_eq_true rfl) rfl rfl (Nat.le_of_ble_eq_true rfl) (Nat.le_of_ble_eq_true rfl) (c_X16_power (w := wL35) z0_76 r48 (by exact hx9.1)) (by omega) (fun v78 w78 hp78 => ?_)
        obtain ⟨hpw78, r78, rfl, hr78⟩ := hp78
        replace hpw78 := hpw78.symm
        subst hpw78
        have kr78 := zrng r78
        show zP _ _ _ _ [.int r78, .ref num, .ref num] _ _ _ _ _
        have ho81_to := zB.o hBP
        refine zr_callS (idx := 182) (j := 277) (by decide +kernel) (by decide +kernel) (by decide) (show zMe 277 = some zq_X16_scale_ from rfl) rfl rfl (Nat.le_of_ble_eq_true rfl) rfl rfl (Nat.le_of_ble_eq_true rfl) (Nat.le_of_ble_eq_true rfl) (c_X16_scale_ (w := wL35) num num r78 ho81_to hBP (by first | omega | decide | assumption | exact zr1_1 | exact zr1_0 | fail "num") (by exact hr78.1)) (by omega) (fun v81 w81 hp81 => ?_)
        obtain ⟨hsi81, heq81, hp81_0, rfl⟩ := hp81
        show zP _ _ _ _ [] _ _ _ _ _
        have hle9 := zLe_c (zf_nz hr78.1 (fun e => hr78.2 (zf_nz hx9.1 hx9.2) (by rw [e]; exact zf_0))) P
        have hle8 := hle9.1
        have hle7 := hle9.2.1
        refine zp_seg (pc' := 87) (lv' := [(7, .int 0), (0, .ref m), (1, .int op), (2, .ref num), (3, .ref den), (5, .int to), (6, .int r48)]) (st' := []) [(84, .iconst 0), (85, .istore 7)] (by decide +kernel) rfl ?_
        have hb46 : w81 m = some (.inl (15, zMo m g r)) := (heq81 m (zx_X16_moved_6 hmn)).trans hmL35
        have hL87 : ∀ (mm87 : Nat) (wL87 : zM) (y7_87 : Int32) (lc : Nat → Int32), (zSI w81 wL87) → (∀ x, ((x < m + 83 + 5 ∨ m + 83 + 5 + 1 ≤ x)) ∧ x ≠ m → wL87 x = w81 x) → (0 ≤ y7_87.toInt) → (y7_87.toInt ≤ (g1 5).toInt) → (wL87 (m + 83 + 5) = some (.inr (0, 13, .inl lc))) → (wL87 m = some (.inl (15, zMo m g r))) → (zLn fa1 fb1 lc (g1 5).toNatClampNeg) → (20 - y7_87.toInt).toNat < mm87 → zP (d + 1) zq_X16_moved 87 [(0, .ref m), (1, .int op), (2, .ref num), (3, .ref den), (5, .int to), (6, .int r48), (7, .int y7_87)] [] wL87 sz 0 0 Post := by
          intro mm87
          induction mm87 with
          | zero => intros; omega
          | succ mm87 ih87 =>
          intro wL87 y7_87 lc hsiL87 heqL87 hi87_0 hi87_1 hAl hmL87 hlc hmu87
          have ky7_87 := zrng y7_87
          have hz47 : (y7_87.toNatClampNeg : Int) = y7_87.toInt := znat (by first | omega | decide)
          refine zp_seg (pc' := 90) (lv' := [(0, .ref m), (1, .int op), (2, .ref num), (3, .ref den), (5, .int to), (6, .int r48), (7, .int y7_87)]) (st' := [.ref m, .int y7_87]) [(87, .iload 7), (89, .aload_n 0)] (by decide +kernel) rfl ?_
          refine zr_get (idx := 453) (k := 21) (v := .ref (m + 83)) (by decide +kernel) (by decide +kernel) hmL87 rfl ?_
          have hb48 : wL87 (m + 83) = some (.inl (13, zTo (m + 83) g1)) := ((heqL87 (m + 83) ⟨(zx_X16_moved_41), (zx_X16_moved_2)⟩).trans (heq81 (m + 83) (zx_X16_moved_0 hmn))).trans hb7
          refine zr_get (idx := 219) (k := 5) (v := .int (g1 5)) (by decide +kernel) (by decide +kernel) hb48 rfl ?_
          refine zp_if (i := .if_icmp .ge 89) (c := (g1 5) ≤ y7_87) (t := 185) (e := 99) (lv' := [(0, .ref m), (1, .int op), (2, .ref num), (3, .ref den), (5, .int to), (6, .int r48), (7, .int y7_87)]) (st' := []) (by decide +kernel) rfl (fun cc96 => ?_) (fun cc96 => ?_)
          ·
            have f49 := zleI cc96
            have hb50 : zB wL87 num (zbM (zbC (zaC (zf r78))) P) := hp81_0.ag (fun x hx1 hx2 => (heqL87 x ⟨(zx_X16_moved_43 hx1 hx2 hmn), (zx_X16_moved_44 hx1 hx2 hmn)⟩))
            have hb51 : wL87 (m + 83 + 1) = some (.inr (0, 325, .inl fn1)) := ((heqL87 (m + 83 + 1) ⟨(zx_X16_moved_45), (zx_X16_moved_33)⟩).trans ((heq81 (m + 83 + 1) (zx_X16_moved_8 hmn)).trans (heqL35 (m + 83 + 1) ⟨⟨(zx_X16_moved_8 hmn), (zx_X16_moved_9 hmd)⟩, (zx_X16_moved_33)⟩))).trans hAn1
            have hb52 : wL87 (m + 83 + 2) = some (.inr (0, 325, .inl fd1)) := ((heqL87 (m + 83 + 2) ⟨(zx_X16_moved_46), (zx_X16_moved_34)⟩).trans ((heq81 (m + 83 + 2) (zx_X16_moved_10 hmn)).trans (heqL35 (m + 83 + 2) ⟨⟨(zx_X16_moved_10 hmn), (zx_X16_moved_11 hmd)⟩, (zx_X16_moved_34)⟩))).trans hAd1
            have hb53 : wL87 (m + 83 + 3) = some (.inr (0, 13, .inl fa1)) := ((heqL87 (m + 83 + 3) ⟨(zx_X16_moved_47), (zx_X16_moved_35)⟩).trans ((heq81 (m + 83 + 3) (zx_X16_moved_13 hmn)).trans (heqL35 (m + 83 + 3) ⟨⟨(zx_X16_moved_13 hmn), (zx_X16_moved_14 hmd)⟩, (zx_X16_moved_35)⟩))).trans hAa1
            have hb54 : wL87 (m + 83 + 4) = some (.inr (0, 13, .inl fb1)) := ((heqL87 (m + 83 + 4) ⟨(zx_X16_moved_48), (zx_X16_moved_36)⟩).trans ((heq81 (m + 83 + 4) (zx_X16_moved_16 hmn)).trans (heqL35 (m + 83 + 4) ⟨⟨(zx_X16_moved_16 hmn), (zx_X16_moved_17 hmd)⟩, (zx_X16_moved_36)⟩))).trans hAb1
            have hb55 : wL87 (m + 83 + 6) = some (.inr (0, 13, .inl fe1)) := ((heqL87 (m + 83 + 6) ⟨(zx_X16_moved_49), (zx_X16_moved_38)⟩).trans ((heq81 (m + 83 + 6) (zx_X16_moved_22 hmn)).trans (heqL35 (m + 83 + 6) ⟨⟨(zx_X16_moved_22 hmn), (zx_X16_moved_23 hmd)⟩, (zx_X16_moved_38)⟩))).trans hAe1
            have hb56 : wL87 (m + 83 + 7) = some (.inr (0, 175, .inl fr1)) := ((heqL87 (m + 83 + 7) ⟨(zx_X16_moved_50), (zx_X16_moved_39)⟩).trans ((heq81 (m + 83 + 7) (zx_X16_moved_25 hmn)).trans (heqL35 (m + 83 + 7) ⟨⟨(zx_X16_moved_25 hmn), (zx_X16_moved_26 hmd)⟩, (zx_X16_moved_39)⟩))).trans hAr1
            have hb57 : wL87 (m + 83 + 8) = some (.inr (0, 361, .inl fu1)) := ((heqL87 (m + 83 + 8) ⟨(zx_X16_moved_51), (zx_X16_moved_40)⟩).trans ((heq81 (m + 83 + 8) (zx_X16_moved_28 hmn)).trans (heqL35 (m + 83 + 8) ⟨⟨(zx_X16_moved_28 hmn), (zx_X16_moved_29 hmd)⟩, (zx_X16_moved_40)⟩))).trans hAu1
            exact (hJ185 wL87 ((zbM (zbC (zaC (zf r78))) P)) (lc) (hsi81.tr hsiL87) (fun x hx => ((heqL87 x ⟨(zx_X16_moved_42 hx.1.2), hx.2⟩).trans (heq81 x hx.1.1))) hb50 hb48 hb51 hb52 hb53 hb54 hAl hb55 hb56 hb57 hmL87 (by
                  first | exact ⟨by omega, hS.2.2, hKl1⟩ | exact ⟨by omega, fun e => hle9.2.2 (hS.2.2 e), hlc⟩)).more (zfa1 rfl (zfa1 rfl (zfa1 rfl (zfa1 rfl (zfa0)))))
          ·
            have f58 := znleI cc96
            refine zp_seg (pc' := 100) (lv' := [(0, .ref m), (1, .int op), (2, .ref num), (3, .ref den), (5, .int to), (6, .int r48), (7, .int y7_87)]) (st' := [.ref m]) [(99, .aload_n 0)] (by decide +kernel) rfl ?_
            refine zr_get (idx := 453) (k := 21) (v := .ref (m + 83)) (by decide +kernel) (by decide +kernel) hmL87 rfl ?_
            refine zr_get (idx := 228) (k := 8) (v := .ref (m + 83 + 5)) (by decide +kernel) (by decide +kernel) hb48 rfl ?_
            refine zp_seg (pc' := 108) (lv' := [(0, .ref m), (1, .int op), (2, .ref num), (3, .ref den), (5, .int to), (6, .int r48), (7, .int y7_87)]) (st' := [.int y7_87, .ref (m + 83 + 5)]) [(106, .iload 7)] (by decide +kernel) rfl ?_
            refine zr_iald (by decide +kernel) hAl (zin (by first | omega | decide) (by first | omega | decide)) ?_
            obtain ⟨x108, ex108⟩ : ∃ x9, x9 = lc (y7_87.toNatClampNeg) := ⟨_, rfl⟩
            rw [← ex108]
            have kx108 := zrng x108
            refine zp_seg (pc' := 110) (lv' := [(0, .ref m), (1, .int op), (2, .ref num), (3, .ref den), (5, .int to), (6, .int r48), (7, .int y7_87)]) (st' := [.long (x108.toInt64)]) [(109, .i2l)] (by decide +kernel) rfl ?_
            have k59 := zi2lM x108
            generalize ev110 : (x108.toInt64 : Int64) = v110 at k59 ⊢
            have kv110 := zrngL v110
            refine zp_seg (pc' := 111) (lv' := [(0, .ref m), (1, .int op), (2, .ref num), (3, .ref den), (5, .int to), (6, .int r48), (7, .int y7_87)]) (st' := [.int op, .long v110]) [(110, .iload_n 1)] (by decide +kernel) rfl ?_
            have hJ137 : ∀ (z0_137 : Int32) (z1_137 : Int64), zP (d + 1) zq_X16_moved 137 [(0, .ref m), (1, .int op), (2, .ref num), (3, .ref den), (5, .int to), (6, .int r48), (7, .int y7_87)] [.int z0_137, .long z1_137] wL87 sz 0 0 Post := by
              intro z0_137 z1_137
              have kz0_137 := zrng z0_137
              have kz1_137 := zrngL z1_137
              refine zp_seg (pc' := 138) (lv' := [(0, .ref m), (1, .int op), (2, .ref num), (3, .ref den), (5, .int to), (6, .int r48), (7, .int y7_87)]) (st' := [.long (z0_137.toInt64), .long z1_137]) [(137, .i2l)] (by decide +kernel) rfl ?_
              have k60 := zi2lM z0_137
              generalize ev138 : (z0_137.toInt64 : Int64) = v138 at k60 ⊢
              have kv138 := zrngL v138
              refine zp_seg (pc' := 141) (lv' := [(0, .ref m), (1, .int op), (2, .ref num), (3, .ref den), (5, .int to), (6, .int r48), (7, .int y7_87)]) (st' := [.long (r48.toInt64), .long v138, .long z1_137]) [(138, .iload 6), (140, .i2l)] (by decide +kernel) rfl ?_
              have k61 := zi2lM r48
              generalize ev141 : (r48.toInt64 : Int64) = v141 at k61 ⊢
              have kv141 := zrngL v141
              refine zp_seg (pc' := 142) (lv' := [(0, .ref m), (1, .int op), (2, .ref num), (3, .ref den), (5, .int to), (6, .int r48), (7, .int y7_87)]) (st' := [.long (v138 * v141), .long z1_137]) [(141, .lmul)] (by decide +kernel) rfl ?_
              have k62 := True.intro
              generalize ev142 : (v138 * v141 : Int64) = v142 at k62 ⊢
              have kv142 := zrngL v142
              refine zp_seg (pc' := 143) (lv' := [(0, .ref m), (1, .int op), (2, .ref num), (3, .ref den), (5, .int to), (6, .int r48), (7, .int y7_87)]) (st' := [.long (z1_137 + v142)]) [(142, .ladd)] (by decide +kernel) rfl ?_
              have k63 := zaddL z1_137 v142
              generalize ev143 : (z1_137 + v142 : Int64) = v143 at k63 ⊢
              have kv143 := zrngL v143
              refine zp_seg (pc' := 147) (lv' := [(8, .long v143), (0, .ref m), (1, .int op), (2, .ref num), (3, .ref den), (5, .int to), (6, .int r48), (7, .int y7_87)]) (st' := [.long v143]) [(143, .lstore 8), (145, .lload 8)] (by decide +kernel) rfl ?_
              refine zr_ldc2 (idx := 666) (v := -50) (by decide +kernel) (by decide +kernel) ?_
              refine zp_seg (pc' := 151) (lv' := [(8, .long v143), (0, .ref m), (1, .int op), (2, .ref num), (3, .ref den), (5, .int to), (6, .int r48), (7, .int y7_87)]) (st' := [.int (lg_cmp v143 (-50))]) [(150, .lcmp)] (by decide +kernel) rfl ?_
              have k64 := zcmpI v143 (-50)
              rw [show (-50 : Int64).toInt = -50 from by decide] at k64
              generalize ev151 : (lg_cmp v143 (-50) : Int32) = v151 at k64 ⊢
              have kv151 := zrng v151
              refine zp_if (i := .ifCond .lt 12) (c := v151 < 0) (t := 163) (e := 154) (lv' := [(8, .long v143), (0, .ref m), (1, .int op), (2, .ref num), (3, .ref den), (5, .int to), (6, .int r48), (7, .int y7_87)]) (st' := []) (by decide +kernel) rfl (fun cc151 => ?_) (fun cc151 => ?_)
              ·
                have f66 := zltI cc151
                rw [show (0 : Int32).toInt = 0 from by decide] at f66
                have hb67 : wL87 (m + 83 + 1) = some (.inr (0, 325, .inl fn1)) := ((heqL87 (m + 83 + 1) ⟨(zx_X16_moved_45), (zx_X16_moved_33)⟩).trans ((heq81 (m + 83 + 1) (zx_X16_moved_8 hmn)).trans (heqL35 (m + 83 + 1) ⟨⟨(zx_X16_moved_8 hmn), (zx_X16_moved_9 hmd)⟩, (zx_X16_moved_33)⟩))).trans hAn1
                have hb68 : wL87 (m + 83 + 2) = some (.inr (0, 325, .inl fd1)) := ((heqL87 (m + 83 + 2) ⟨(zx_X16_moved_46), (zx_X16_moved_34)⟩).trans ((heq81 (m + 83 + 2) (zx_X16_moved_10 hmn)).trans (heqL35 (m + 83 + 2) ⟨⟨(zx_X16_moved_10 hmn), (zx_X16_moved_11 hmd)⟩, (zx_X16_moved_34)⟩))).trans hAd1
                have hb69 : wL87 (m + 83 + 3) = some (.inr (0, 13, .inl fa1)) := ((heqL87 (m + 83 + 3) ⟨(zx_X16_moved_47), (zx_X16_moved_35)⟩).trans ((heq81 (m + 83 + 3) (zx_X16_moved_13 hmn)).trans (heqL35 (m + 83 + 3) ⟨⟨(zx_X16_moved_13 hmn), (zx_X16_moved_14 hmd)⟩, (zx_X16_moved_35)⟩))).trans hAa1
                have hb70 : wL87 (m + 83 + 4) = some (.inr (0, 13, .inl fb1)) := ((heqL87 (m + 83 + 4) ⟨(zx_X16_moved_48), (zx_X16_moved_36)⟩).trans ((heq81 (m + 83 + 4) (zx_X16_moved_16 hmn)).trans (heqL35 (m + 83 + 4) ⟨⟨(zx_X16_moved_16 hmn), (zx_X16_moved_17 hmd)⟩, (zx_X16_moved_36)⟩))).trans hAb1
                have hb71 : wL87 (m + 83 + 6) = some (.inr (0, 13, .inl fe1)) := ((heqL87 (m + 83 + 6) ⟨(zx_X16_moved_49), (zx_X16_moved_38)⟩).trans ((heq81 (m + 83 + 6) (zx_X16_moved_22 hmn)).trans (heqL35 (m + 83 + 6) ⟨⟨(zx_X16_moved_22 hmn), (zx_X16_moved_23 hmd)⟩, (zx_X16_moved_38)⟩))).trans hAe1
                have hb72 : wL87 (m + 83 + 7) = some (.inr (0, 175, .inl fr1)) := ((heqL87 (m + 83 + 7) ⟨(zx_X16_moved_50), (zx_X16_moved_39)⟩).trans ((heq81 (m + 83 + 7) (zx_X16_moved_25 hmn)).trans (heqL35 (m + 83 + 7) ⟨⟨(zx_X16_moved_25 hmn), (zx_X16_moved_26 hmd)⟩, (zx_X16_moved_39)⟩))).trans hAr1
                have hb73 : wL87 (m + 83 + 8) = some (.inr (0, 361, .inl fu1)) := ((heqL87 (m + 83 + 8) ⟨(zx_X16_moved_51), (zx_X16_moved_40)⟩).trans ((heq81 (m + 83 + 8) (zx_X16_moved_28 hmn)).trans (heqL35 (m + 83 + 8) ⟨⟨(zx_X16_moved_28 hmn), (zx_X16_moved_29 hmd)⟩, (zx_X16_moved_40)⟩))).trans hAu1
                have hTi9 : zTi wL87 (m + 83) k := ⟨_, _, _, _, _, _, _, _, _, hb48, hb67, hb68, hb69, hb70, hAl, hb71, hb72, hb73, ⟨hK10, hKn1, hKd1, hKx1, hKm1, hlc, hKr1, hKu1, hKk1⟩⟩
                refine zp_seg (pc' := 165) (lv' := [(8, .long v143), (0, .ref m), (1, .int op), (2, .ref num), (3, .ref den), (5, .int to), (6, .int r48), (7, .int y7_87)]) (st' := [.int (Int32.ofInt (-2))]) [(163, .bipush (-2))] (by decide +kernel) rfl ?_
                have hmend : wL87 m = w m := by rw [hmL87, hm]
                have hoffend : ∀ x, (x < num ∨ num + 130 ≤ x) ∧ (x < den ∨ den + 130 ≤ x) ∧ (x < m + 83 ∨ m + 83 + 9 ≤ x) ∧ (x < m + 7486 + 9 * to.toNatClampNeg ∨ m + 7486 + 9 * to.toNatClampNeg + 9 ≤ x) → wL87 x = w x := fun x hx => by
                    by_cases ex : x = m
                    · rw [ex]; exact hmend
                    · exact ((heqL87 x ⟨(zx_X16_moved_42 hx.2.2.1), ex⟩).trans ((heq81 x hx.1).trans (heqL35 x ⟨⟨hx.1, hx.2.1⟩, ex⟩)))
                have hb74 : zTi wL87 (m + 7486 + 9 * to.toNatClampNeg) k9 := hTi_m_7486_9_to_toNatClampNeg.ag (fun x hx1 hx2 => ((heqL87 x (by omega)).trans ((heq81 x (by omega)).trans (heqL35 x (by omega)))))
                refine zr_retI (by decide +kernel) rfl ?_
                rw [← hPost]; exact ⟨rfl, _, rfl, k, k9, ((hsiL35.tr hsi81).tr hsiL87), hoffend, (by first | exact hTi9 | (have z9 := hTi9; simpa using z9)), (by first | exact hb74 | (have z9 := hb74; simpa using z9)), _, rfl, trivial⟩
              ·
                have f77 := znltI cc151
                rw [show (0 : Int32).toInt = 0 from by decide] at f77
                refine zp_seg (pc' := 156) (lv' := [(8, .long v143), (0, .ref m), (1, .int op), (2, .ref num), (3, .ref den), (5, .int to), (6, .int r48), (7, .int y7_87)]) (st' := [.long v143]) [(154, .lload 8)] (by decide +kernel) rfl ?_
                refine zr_ldc2 (idx := 668) (v := 50) (by decide +kernel) (by decide +kernel) ?_
                refine zp_seg (pc' := 160) (lv' := [(8, .long v143), (0, .ref m), (1, .int op), (2, .ref num), (3, .ref den), (5, .int to), (6, .int r48), (7, .int y7_87)]) (st' := [.int (lg_cmp v143 50)]) [(159, .lcmp)] (by decide +kernel) rfl ?_
                have k78 := zcmpI v143 50
                rw [show (50 : Int64).toInt = 50 from by decide] at k78
                generalize ev160 : (lg_cmp v143 50 : Int32) = v160 at k78 ⊢
                have kv160 := zrng v160
                refine zp_if (i := .ifCond .le 6) (c := v160 ≤ 0) (t := 166) (e := 163) (lv' := [(8, .long v143), (0, .ref m), (1, .int op), (2, .ref num), (3, .ref den), (5, .int to), (6, .int r48), (7, .int y7_87)]) (st' := []) (by decide +kernel) rfl (fun cc160 => ?_) (fun cc160 => ?_)
                ·
                  have f79 := zleI cc160
                  rw [show (0 : Int32).toInt = 0 from by decide] at f79
                  refine zp_seg (pc' := 167) (lv' := [(8, .long v143), (0, .ref m), (1, .int op), (2, .ref num), (3, .ref den), (5, .int to), (6, .int r48), (7, .int y7_87)]) (st' := [.ref m]) [(166, .aload_n 0)] (by decide +kernel) rfl ?_
                  refine zr_get (idx := 453) (k := 21) (v := .ref (m + 83)) (by decide +kernel) (by decide +kernel) hmL87 rfl ?_
                  refine zr_get (idx := 228) (k := 8) (v := .ref (m + 83 + 5)) (by decide +kernel) (by decide +kernel) hb48 rfl ?_
                  refine zp_seg (pc' := 178) (lv' := [(8, .long v143), (0, .ref m), (1, .int op), (2, .ref num), (3, .ref den), (5, .int to), (6, .int r48), (7, .int y7_87)]) (st' := [.int (v143.toInt32), .int y7_87, .ref (m + 83 + 5)]) [(173, .iload 7), (175, .lload 8), (177, .l2i)] (by decide +kernel) rfl ?_
                  have k80 := zl2iE v143 (by omega) (by omega)
                  generalize ev178 : (v143.toInt32 : Int32) = v178 at k80 ⊢
                  have kv178 := zrng v178
                  refine zr_iast (by decide +kernel) hAl (zin (by first | omega | decide) (by first | omega | decide)) ?_
                  show zP (d + 1) zq_X16_moved 179 [(8, .long v143), (0, .ref m), (1, .int op), (2, .ref num), (3, .ref den), (5, .int to), (6, .int r48), (7, .int y7_87)] [] (zup wL87 (m + 83 + 5) (.inr (0, 13, .inl (upd lc (y7_87.toNatClampNeg) v178)))) sz 0 0 Post
                  obtain ⟨w178, ew178⟩ : ∃ wz9, wz9 = zup wL87 (m + 83 + 5) (.inr (0, 13, .inl (upd lc (y7_87.toNatClampNeg) v178))) := ⟨_, rfl⟩
                  have hsi178 : zSI wL87 w178 := by rw [ew178]; exact zSI.arr _ hAl
                  have heq178 : ∀ x, x ≠ m + 83 + 5 → w178 x = wL87 x := fun x hx => by rw [ew178]; exact zup_n hx
                  have hc178 : w178 (m + 83 + 5) = some (.inr (0, 13, .inl (upd lc (y7_87.toNatClampNeg) v178))) := by rw [ew178]; exact zup_s
                  rw [← ew178]
                  clear ew178
                  refine zp_seg (pc' := 182) (lv' := [(7, .int (y7_87 + 1)), (8, .long v143), (0, .ref m), (1, .int op), (2, .ref num), (3, .ref den), (5, .int to), (6, .int r48)]) (st' := []) [(179, .iinc 7 1)] (by decide +kernel) rfl ?_
                  have k81 := zaddC y7_87 1 (n := 1) (by decide) (by omega) (by omega)
                  generalize ev182 : (y7_87 + 1 : Int32) = v182 at k81 ⊢
                  have kv182 := zrng v182
                  refine zp_seg (pc' := 87) (lv' := [(7, .int v182), (8, .long v143), (0, .ref m), (1, .int op), (2, .ref num), (3, .ref den), (5, .int to), (6, .int r48)]) (st' := []) [(182, .goto (-95))] (by decide +kernel) rfl ?_
                  have hz82 : (v182.toNatClampNeg : Int) = v182.toInt := znat (by first | omega | decide)
                  have hb83 : w178 m = some (.inl (15, zMo m g r)) := (heq178 m (zx_X16_moved_53)).trans hmL87
                  exact (ih87 w178 v182 ((upd lc (y7_87.toNatClampNeg) v178)) (hsiL87.tr hsi178) (fun x hx => ((heq178 x (zx_X16_moved_52 hx.1)).trans (heqL87 x ⟨hx.1, hx.2⟩))) (by first | assumption | omega | decide) (by first | assumption | omega | decide) hc178 hb83 (by
                        exact zLn_c hlc (by omega)) (by omega)).more (zfa1 rfl (zfa1 rfl (zfa1 rfl (zfa1 rfl (zfa1 rfl (zfa1 rfl (zfa1 rfl (zfa0))))))))
                ·
                  have f84 := znleI cc160
                  rw [show (0 : Int32).toInt = 0 from by decide] at f84
                  have hb85 : wL87 (m + 83 + 1) = some (.inr (0, 325, .inl fn1)) := ((heqL87 (m + 83 + 1) ⟨(zx_X16_moved_45), (zx_X16_moved_33)⟩).trans ((heq81 (m + 83 + 1) (zx_X16_moved_8 hmn)).trans (heqL35 (m + 83 + 1) ⟨⟨(zx_X16_moved_8 hmn), (zx_X16_moved_9 hmd)⟩, (zx_X16_moved_33)⟩))).trans hAn1
                  have hb86 : wL87 (m + 83 + 2) = some (.inr (0, 325, .inl fd1)) := ((heqL87 (m + 83 + 2) ⟨(zx_X16_moved_46), (zx_X16_moved_34)⟩).trans ((heq81 (m + 83 + 2) (zx_X16_moved_10 hmn)).trans (heqL35 (m + 83 + 2) ⟨⟨(zx_X16_moved_10 hmn), (zx_X16_moved_11 hmd)⟩, (zx_X16_moved_34)⟩))).trans hAd1
                  have hb87 : wL87 (m + 83 + 3) = some (.inr (0, 13, .inl fa1)) := ((heqL87 (m + 83 + 3) ⟨(zx_X16_moved_47), (zx_X16_moved_35)⟩).trans ((heq81 (m + 83 + 3) (zx_X16_moved_13 hmn)).trans (heqL35 (m + 83 + 3) ⟨⟨(zx_X16_moved_13 hmn), (zx_X16_moved_14 hmd)⟩, (zx_X16_moved_35)⟩))).trans hAa1
                  have hb88 : wL87 (m + 83 + 4) = some (.inr (0, 13, .inl fb1)) := ((heqL87 (m + 83 + 4) ⟨(zx_X16_moved_48), (zx_X16_moved_36)⟩).trans ((heq81 (m + 83 + 4) (zx_X16_moved_16 hmn)).trans (heqL35 (m + 83 + 4) ⟨⟨(zx_X16_moved_16 hmn), (zx_X16_moved_17 hmd)⟩, (zx_X16_moved_36)⟩))).trans hAb1
                  have hb89 : wL87 (m + 83 + 6) = some (.inr (0, 13, .inl fe1)) := ((heqL87 (m + 83 + 6) ⟨(zx_X16_moved_49), (zx_X16_moved_38)⟩).trans ((heq81 (m + 83 + 6) (zx_X16_moved_22 hmn)).trans (heqL35 (m + 83 + 6) ⟨⟨(zx_X16_moved_22 hmn), (zx_X16_moved_23 hmd)⟩, (zx_X16_moved_38)⟩))).trans hAe1
                  have hb90 : wL87 (m + 83 + 7) = some (.inr (0, 175, .inl fr1)) := ((heqL87 (m + 83 + 7) ⟨(zx_X16_moved_50), (zx_X16_moved_39)⟩).trans ((heq81 (m + 83 + 7) (zx_X16_moved_25 hmn)).trans (heqL35 (m + 83 + 7) ⟨⟨(zx_X16_moved_25 hmn), (zx_X16_moved_26 hmd)⟩, (zx_X16_moved_39)⟩))).trans hAr1
                  have hb91 : wL87 (m + 83 + 8) = some (.inr (0, 361, .inl fu1)) := ((heqL87 (m + 83 + 8) ⟨(zx_X16_moved_51), (zx_X16_moved_40)⟩).trans ((heq81 (m + 83 + 8) (zx_X16_moved_28 hmn)).trans (heqL35 (m + 83 + 8) ⟨⟨(zx_X16_moved_28 hmn), (zx_X16_moved_29 hmd)⟩, (zx_X16_moved_40)⟩))).trans hAu1
                  have hTi9 : zTi wL87 (m + 83) k := ⟨_, _, _, _, _, _, _, _, _, hb48, hb85, hb86, hb87, hb88, hAl, hb89, hb90, hb91, ⟨hK10, hKn1, hKd1, hKx1, hKm1, hlc, hKr1, hKu1, hKk1⟩⟩
                  refine zp_seg (pc' := 165) (lv' := [(8, .long v143), (0, .ref m), (1, .int op), (2, .ref num), (3, .ref den), (5, .int to), (6, .int r48), (7, .int y7_87)]) (st' := [.int (Int32.ofInt (-2))]) [(163, .bipush (-2))] (by decide +kernel) rfl ?_
                  have hmend : wL87 m = w m := by rw [hmL87, hm]
                  have hoffend : ∀ x, (x < num ∨ num + 130 ≤ x) ∧ (x < den ∨ den + 130 ≤ x) ∧ (x < m + 83 ∨ m + 83 + 9 ≤ x) ∧ (x < m + 7486 + 9 * to.toNatClampNeg ∨ m + 7486 + 9 * to.toNatClampNeg + 9 ≤ x) → wL87 x = w x := fun x hx => by
                      by_cases ex : x = m
                      · rw [ex]; exact hmend
                      · exact ((heqL87 x ⟨(zx_X16_moved_42 hx.2.2.1), ex⟩).trans ((heq81 x hx.1).trans (heqL35 x ⟨⟨hx.1, hx.2.1⟩, ex⟩)))
                  have hb92 : zTi wL87 (m + 7486 + 9 * to.toNatClampNeg) k9 := hTi_m_7486_9_to_toNatClampNeg.ag (fun x hx1 hx2 => ((heqL87 x (by omega)).trans ((heq81 x (by omega)).trans (heqL35 x (by omega)))))
                  refine zr_retI (by decide +kernel) rfl ?_
                  rw [← hPost]; exact ⟨rfl, _, rfl, k, k9, ((hsiL35.tr hsi81).tr hsiL87), hoffend, (by first | exact hTi9 | (have z9 := hTi9; simpa using z9)), (by first | exact hb92 | (have z9 := hb92; simpa using z9)), _, rfl, trivial⟩
            refine zp_if (i := .ifCond .ne 16) (c := ¬ op = 0) (t := 127) (e := 114) (lv' := [(0, .ref m), (1, .int op), (2, .ref num), (3, .ref den), (5, .int to), (6, .int r48), (7, .int y7_87)]) (st' := [.long v110]) (by decide +kernel) rfl (fun cc111 => ?_) (fun cc111 => ?_)
            ·
              have f95 := zneI cc111
              rw [show (0 : Int32).toInt = 0 from by decide] at f95
              refine zp_seg (pc' := 128) (lv' := [(0, .ref m), (1, .int op), (2, .ref num), (3, .ref den), (5, .int to), (6, .int r48), (7, .int y7_87)]) (st' := [.ref m, .long v110]) [(127, .aload_n 0)] (by decide +kernel) rfl ?_
              refine zr_get (idx := 453) (k := 21) (v := .ref (m + 83)) (by decide +kernel) (by decide +kernel) hmL87 rfl ?_
              refine zr_get (idx := 225) (k := 7) (v := .ref (m + 83 + 4)) (by decide +kernel) (by decide +kernel) hb48 rfl ?_
              refine zp_seg (pc' := 136) (lv' := [(0, .ref m), (1, .int op), (2, .ref num), (3, .ref den), (5, .int to), (6, .int r48), (7, .int y7_87)]) (st' := [.int y7_87, .ref (m + 83 + 4), .long v110]) [(134, .iload 7)] (by decide +kernel) rfl ?_
              have hb96 : wL87 (m + 83 + 4) = some (.inr (0, 13, .inl fb1)) := ((heqL87 (m + 83 + 4) ⟨(zx_X16_moved_48), (zx_X16_moved_36)⟩).trans ((heq81 (m + 83 + 4) (zx_X16_moved_16 hmn)).trans (heqL35 (m + 83 + 4) ⟨⟨(zx_X16_moved_16 hmn), (zx_X16_moved_17 hmd)⟩, (zx_X16_moved_36)⟩))).trans hAb1
              refine zr_iald (by decide +kernel) hb96 (zin (by first | omega | decide) (by first | omega | decide)) ?_
              obtain ⟨x136, ex136⟩ : ∃ x9, x9 = fb1 (y7_87.toNatClampNeg) := ⟨_, rfl⟩
              rw [← ex136]
              have kx136 := zrng x136
              exact (hJ137 x136 v110 ).more (zfa1 rfl (zfa1 rfl (zfa1 rfl (zfa1 rfl (zfa1 rfl (zfa1 rfl (zfa1 rfl (zfa0))))))))
            ·
              replace cc111 := Classical.not_not.mp cc111
              have f98 := zeqI cc111
              rw [show (0 : Int32).toInt = 0 from by decide] at f98
              refine zp_seg (pc' := 115) (lv' := [(0, .ref m), (1, .int op), (2, .ref num), (3, .ref den), (5, .int to), (6, .int r48), (7, .int y7_87)]) (st' := [.ref m, .long v110]) [(114, .aload_n 0)] (by decide +kernel) rfl ?_
              refine zr_get (idx := 453) (k := 21) (v := .ref (m + 83)) (by decide +kernel) (by decide +kernel) hmL87 rfl ?_
              refine zr_get (idx := 222) (k := 6) (v := .ref (m + 83 + 3)) (by decide +kernel) (by decide +kernel) hb48 rfl ?_
              refine zp_seg (pc' := 123) (lv' := [(0, .ref m), (1, .int op), (2, .ref num), (3, .ref den), (5, .int to), (6, .int r48), (7, .int y7_87)]) (st' := [.int y7_87, .ref (m + 83 + 3), .long v110]) [(121, .iload 7)] (by decide +kernel) rfl ?_
              have hb99 : wL87 (m + 83 + 3) = some (.inr (0, 13, .inl fa1)) := ((heqL87 (m + 83 + 3) ⟨(zx_X16_moved_47), (zx_X16_moved_35)⟩).trans ((heq81 (m + 83 + 3) (zx_X16_moved_13 hmn)).trans (heqL35 (m + 83 + 3) ⟨⟨(zx_X16_moved_13 hmn), (zx_X16_moved_14 hmd)⟩, (zx_X16_moved_35)⟩))).trans hAa1
              refine zr_iald (by decide +kernel) hb99 (zin (by first | omega | decide) (by first | omega | decide)) ?_
              obtain ⟨x123, ex123⟩ : ∃ x9, x9 = fa1 (y7_87.toNatClampNeg) := ⟨_, rfl⟩
              rw [← ex123]
              have kx123 := zrng x123
              refine zp_seg (pc' := 137) (lv' := [(0, .ref m), (1, .int op), (2, .ref num), (3, .ref den), (5, .int to), (6, .int r48), (7, .int y7_87)]) (st' := [.int x123, .long v110]) [(124, .goto 13)] (by decide +kernel) rfl ?_
              exact (hJ137 x123 v110 ).more (zfa1 rfl (zfa1 rfl (zfa1 rfl (zfa1 rfl (zfa1 rfl (zfa1 rfl (zfa1 rfl (zfa0))))))))
        have hl100 : (0 : Int32).toInt = 0 := by decide
        have hz101 : ((0 : Int32).toNatClampNeg : Int) = 0 := by decide
        have hb102 : w81 (m + 83 + 5) = some (.inr (0, 13, .inl fc1)) := ((heq81 (m + 83 + 5) (zx_X16_moved_19 hmn)).trans (heqL35 (m + 83 + 5) ⟨⟨(zx_X16_moved_19 hmn), (zx_X16_moved_20 hmd)⟩, (zx_X16_moved_37)⟩)).trans hAc1
        exact (hL87 _ w81 0 (fc1) zSI.rf (fun _ _ => rfl) (by first | assumption | omega | decide) (by first | assumption | omega | decide) hb102 hb46 (by
              exact hKl1) (Nat.lt_succ_self _)).more (zfa1 rfl (zfa1 rfl (zfa1 rfl (zfa1 rfl (zfa1 rfl (zfa1 rfl (zfa1 rfl (zfa0))))))))
      refine zp_if (i := .ifCond .ne 13) (c := ¬ op = 0) (t := 69) (e := 59) (lv' := [(6, .int r48), (0, .ref m), (1, .int op), (2, .ref num), (3, .ref den), (4, .int v), (5, .int to)]) (st' := [.ref num, .ref num]) (by decide +kernel) rfl (fun cc56 => ?_) (fun cc56 => ?_)
      ·
        have f104 := zneI cc56
        rw [show (0 : Int32).toInt = 0 from by decide] at f104
        refine zp_seg (pc' := 70) (lv' := [(6, .int r48), (0, .ref m), (1, .int op), (2, .ref num), (3, .ref den), (4, .int v), (5, .int to)]) (st' := [.ref m, .ref num, .ref num]) [(69, .aload_n 0)] (by decide +kernel) rfl ?_
        refine zr_get (idx := 453) (k := 21) (v := .ref (m + 83)) (by decide +kernel) (by decide +kernel) hmL35 rfl ?_
        refine zr_get (idx := 216) (k := 4) (v := .int (g1 4)) (by decide +kernel) (by decide +kernel) hb7 rfl ?_
        have k105 := zrng (g1 4)
        exact (hJ76 (g1 4) (by
              first | exact ⟨hKx1.1, (hKk1.2.2.2.1 hk).1⟩ | exact ⟨hKx1.2, (hKk1.2.2.2.1 hk).2⟩)).more (zfa1 rfl (zfa1 rfl (zfa1 rfl (zfa1 rfl (zfa1 rfl (zfa1 rfl (zfa0)))))))
      ·
        replace cc56 := Classical.not_not.mp cc56
        have f107 := zeqI cc56
        rw [show (0 : Int32).toInt = 0 from by decide] at f107
        refine zp_seg (pc' := 60) (lv' := [(6, .int r48), (0, .ref m), (1, .int op), (2, .ref num), (3, .ref den), (4, .int v), (5, .int to)]) (st' := [.ref m, .ref num, .ref num]) [(59, .aload_n 0)] (by decide +kernel) rfl ?_
        refine zr_get (idx := 453) (k := 21) (v := .ref (m + 83)) (by decide +kernel) (by decide +kernel) hmL35 rfl ?_
        refine zr_get (idx := 213) (k := 3) (v := .int (g1 3)) (by decide +kernel) (by decide +kernel) hb7 rfl ?_
        refine zp_seg (pc' := 76) (lv' := [(6, .int r48), (0, .ref m), (1, .int op), (2, .ref num), (3, .ref den), (4, .int v), (5, .int to)]) (st' := [.int (g1 3), .ref num, .ref num]) [(66, .goto 10)] (by decide +kernel) rfl ?_
        have k108 := zrng (g1 3)
        exact (hJ76 (g1 3) (by
              first | exact ⟨hKx1.1, (hKk1.2.2.2.1 hk).1⟩ | exact ⟨hKx1.2, (hKk1.2.2.2.1 hk).2⟩)).more (zfa1 rfl (zfa1 rfl (zfa1 rfl (zfa1 rfl (zfa1 rfl (zfa1 rfl (zfa0)))))))
  refine zp_if (i := .ifCond .ne 20) (c := ¬ op = 0) (t := 21) (e := 4) (lv' := [(0, .ref m), (1, .int op), (2, .ref num), (3, .ref den), (4, .int v), (5, .int to)]) (st' := []) (by decide +kernel) rfl (fun cc1 => ?_) (fun cc1 => ?_)
  ·
    have f110 := zneI cc1
    rw [show (0 : Int32).toInt = 0 from by decide] at f110
    refine zp_seg (pc' := 25) (lv' := [(0, .ref m), (1, .int op), (2, .ref num), (3, .ref den), (4, .int v), (5, .int to)]) (st' := [.int v, .ref num, .ref num]) [(21, .aload_n 2), (22, .aload_n 2), (23, .iload 4)] (by decide +kernel) rfl ?_
    refine zr_callS (idx := 626) (j := 281) (by decide +kernel) (by decide +kernel) (by decide) (show zMe 281 = some zq_X16_shiftK from rfl) rfl rfl (Nat.le_of_ble_eq_true rfl) rfl rfl (Nat.le_of_ble_eq_true rfl) (Nat.le_of_ble_eq_true rfl) (c_X16_shiftKS (w := w) num  v hB_num (by first | omega | decide | assumption | exact zr1_1 | exact zr1_0 | fail "num")) (by omega) (fun v25 w25 hp25 => ?_)
    obtain ⟨hsi25, heq25, hp25_0, rfl⟩ := hp25
    show zP _ _ _ _ [] _ _ _ _ _
    refine zp_seg (pc' := 32) (lv' := [(0, .ref m), (1, .int op), (2, .ref num), (3, .ref den), (4, .int v), (5, .int to)]) (st' := [.int v, .ref den, .ref den]) [(28, .aload_n 3), (29, .aload_n 3), (30, .iload 4)] (by decide +kernel) rfl ?_
    have hb111 : zB w25 den q := hB_den.ag (fun x hx1 hx2 => (heq25 x (zx_X16_moved_3 hx1 hx2 hnd hmn hmd)))
    refine zr_callS (idx := 626) (j := 281) (by decide +kernel) (by decide +kernel) (by decide) (show zMe 281 = some zq_X16_shiftK from rfl) rfl rfl (Nat.le_of_ble_eq_true rfl) rfl rfl (Nat.le_of_ble_eq_true rfl) (Nat.le_of_ble_eq_true rfl) (c_X16_shiftKS (w := w25) den  v hb111 (by first | omega | decide | assumption | exact zr1_1 | exact zr1_0 | fail "num")) (by omega) (fun v32 w32 hp32 => ?_)
    obtain ⟨hsi32, heq32, hp32_0, rfl⟩ := hp32
    show zP _ _ _ _ [] _ _ _ _ _
    have hb112 : zB w32 num (zsh (zf v) p) := hp25_0.ag (fun x hx1 hx2 => (heq32 x (zx_X16_moved_54 hx1 hx2 hnd hmn hmd)))
    have hb113 : w32 m = some (.inl (15, zMo m g r)) := ((heq32 m (zx_X16_moved_7 hmd)).trans (heq25 m (zx_X16_moved_6 hmn))).trans hm
    exact (hJ35 w32 ((zsh (zf v) p)) ((zsh (zf v) q)) (hsi25.tr hsi32) (fun x hx => ((heq32 x hx.1.2).trans (heq25 x hx.1.1))) hb112 hp32_0 hb113 (by
          first
          | (have e1 := hp8_1
             have e2 := hp15_1
             exact ⟨by omega, by omega, fun e => by have := hsz.2.2 e; omega⟩)
          | (have e1 := zsh_rw (zf v) p
             have e2 := zsh_rw (zf v) q
             exact ⟨by omega, by omega, fun e => by have := hsz.2.2 e; omega⟩))).more (zfa1 rfl (zfa1 rfl (zfa1 rfl (zfa1 rfl (zfa1 rfl (zfa1 rfl (zfa0)))))))
  ·
    replace cc1 := Classical.not_not.mp cc1
    have f115 := zeqI cc1
    rw [show (0 : Int32).toInt = 0 from by decide] at f115
    refine zp_seg (pc' := 8) (lv' := [(0, .ref m), (1, .int op), (2, .ref num), (3, .ref den), (4, .int v), (5, .int to)]) (st' := [.int v, .ref num, .ref num]) [(4, .aload_n 2), (5, .aload_n 2), (6, .iload 4)] (by decide +kernel) rfl ?_
    refine zr_callS (idx := 623) (j := 282) (by decide +kernel) (by decide +kernel) (by decide) (show zMe 282 = some zq_X16_shiftN from rfl) rfl rfl (Nat.le_of_ble_eq_true rfl) rfl rfl (Nat.le_of_ble_eq_true rfl) (Nat.le_of_ble_eq_true rfl) (c_X16_shiftNS (w := w) num  v hB_num (by first | omega | decide | assumption | exact zr1_1 | exact zr1_0 | fail "num")) (by omega) (fun v8 w8 hp8 => ?_)
    obtain ⟨P9_8, hsi8, heq8, hp8_0, hp8_1, rfl⟩ := hp8
    show zP _ _ _ _ [] _ _ _ _ _
    refine zp_seg (pc' := 15) (lv' := [(0, .ref m), (1, .int op), (2, .ref num), (3, .ref den), (4, .int v), (5, .int to)]) (st' := [.int v, .ref den, .ref den]) [(11, .aload_n 3), (12, .aload_n 3), (13, .iload 4)] (by decide +kernel) rfl ?_
    have hb116 : zB w8 den q := hB_den.ag (fun x hx1 hx2 => (heq8 x (zx_X16_moved_3 hx1 hx2 hnd hmn hmd)))
    refine zr_callS (idx := 623) (j := 282) (by decide +kernel) (by decide +kernel) (by decide) (show zMe 282 = some zq_X16_shiftN from rfl) rfl rfl (Nat.le_of_ble_eq_true rfl) rfl rfl (Nat.le_of_ble_eq_true rfl) (Nat.le_of_ble_eq_true rfl) (c_X16_shiftNS (w := w8) den  v hb116 (by first | omega | decide | assumption | exact zr1_1 | exact zr1_0 | fail "num")) (by omega) (fun v15 w15 hp15 => ?_)
    obtain ⟨P9_15, hsi15, heq15, hp15_0, hp15_1, rfl⟩ := hp15
    show zP _ _ _ _ [] _ _ _ _ _
    refine zp_seg (pc' := 35) (lv' := [(0, .ref m), (1, .int op), (2, .ref num), (3, .ref den), (4, .int v), (5, .int to)]) (st' := []) [(18, .goto 17)] (by decide +kernel) rfl ?_
    have hb117 : zB w15 num P9_8 := hp8_0.ag (fun x hx1 hx2 => (heq15 x (zx_X16_moved_54 hx1 hx2 hnd hmn hmd)))
    have hb118 : w15 m = some (.inl (15, zMo m g r)) := ((heq15 m (zx_X16_moved_7 hmd)).trans (heq8 m (zx_X16_moved_6 hmn))).trans hm
    exact (hJ35 w15 (P9_8) (P9_15) (hsi8.tr hsi15) (fun x hx => ((heq15 x hx.1.2).trans (heq8 x hx.1.1))) hb117 hp15_0 hb118 (by
          first
          | (have e1 := hp8_1
             have e2 := hp15_1
             exact ⟨by omega, by omega, fun e => by have := hsz.2.2 e; omega⟩)
          | (have e1 := zsh_rw (zf v) p
             have e2 := zsh_rw (zf v) q
             exact ⟨by omega, by omega, fun e => by have := hsz.2.2 e; omega⟩))).more (zfa1 rfl (zfa1 rfl (zfa1 rfl (zfa1 rfl (zfa1 rfl (zfa1 rfl (zfa0)))))))
