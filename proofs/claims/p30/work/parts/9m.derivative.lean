theorem zx_X16_derivative_0 {G3_0 m x : Nat} (h0 : m + 596 + 130 * G3_0 ≤ x) (h1 : x < m + 596 + 130 * G3_0 + 130) (h2 : G3_0 + 8 ≤ 44) : x < m ∨ m + 1 ≤ x := by omega
theorem zx_X16_derivative_1 {G3_0 G3_1 m x : Nat} (h0 : m + 596 + 130 * G3_0 ≤ x) (h1 : x < m + 596 + 130 * G3_0 + 130) (h2 : G3_1 = G3_0 + 1) (h3 : G3_0 + 8 ≤ 44) : x < m + 596 + 130 * G3_1 ∨ m + 596 + 130 * G3_1 + 130 ≤ x := by omega
theorem zx_X16_derivative_2 {G3_0 m num x : Nat} (h0 : num ≤ x) (h1 : x < num + 130) (h2 : m + 596 ≤ num ∧ num + 130 ≤ m + 596 + 130 * G3_0) (h3 : G3_0 + 8 ≤ 44) : x < m ∨ m + 1 ≤ x := by omega
theorem zx_X16_derivative_3 {G3_0 m num x : Nat} (h0 : num ≤ x) (h1 : x < num + 130) (h2 : m + 596 ≤ num ∧ num + 130 ≤ m + 596 + 130 * G3_0) (h3 : G3_0 + 8 ≤ 44) : x < m + 596 + 130 * G3_0 ∨ m + 596 + 130 * G3_0 + 130 ≤ x := by omega
theorem zx_X16_derivative_4 {G3_0 G3_1 m num x : Nat} (h0 : num ≤ x) (h1 : x < num + 130) (h2 : m + 596 ≤ num ∧ num + 130 ≤ m + 596 + 130 * G3_0) (h3 : G3_1 = G3_0 + 1) (h4 : G3_0 + 8 ≤ 44) : x < m + 596 + 130 * G3_1 ∨ m + 596 + 130 * G3_1 + 130 ≤ x := by omega
theorem zx_X16_derivative_5 {G3_0 m : Nat} (h0 : G3_0 + 8 ≤ 44) : m < m + 596 + 130 * G3_0 ∨ m + 596 + 130 * G3_0 + 130 ≤ m := by omega
theorem zx_X16_derivative_6 {G3_0 den m x : Nat} (h0 : den ≤ x) (h1 : x < den + 130) (h2 : m + 596 ≤ den ∧ den + 130 ≤ m + 596 + 130 * G3_0) (h3 : G3_0 + 8 ≤ 44) : x < m ∨ m + 1 ≤ x := by omega
theorem zx_X16_derivative_7 {G3_0 den m x : Nat} (h0 : den ≤ x) (h1 : x < den + 130) (h2 : m + 596 ≤ den ∧ den + 130 ≤ m + 596 + 130 * G3_0) (h3 : G3_0 + 8 ≤ 44) : x < m + 596 + 130 * G3_0 ∨ m + 596 + 130 * G3_0 + 130 ≤ x := by omega
theorem zx_X16_derivative_8 {G3_0 G3_1 den m x : Nat} (h0 : den ≤ x) (h1 : x < den + 130) (h2 : m + 596 ≤ den ∧ den + 130 ≤ m + 596 + 130 * G3_0) (h3 : G3_1 = G3_0 + 1) (h4 : G3_0 + 8 ≤ 44) : x < m + 596 + 130 * G3_1 ∨ m + 596 + 130 * G3_1 + 130 ≤ x := by omega
theorem zx_X16_derivative_9 {G3_0 m u x : Nat} (h0 : m + 596 + 130 * G3_0 ≤ x) (h1 : x < m + 596 + 130 * G3_0 + 130) (h2 : m + 596 ≤ u ∧ u + 130 ≤ m + 596 + 130 * G3_0) (h3 : G3_0 + 8 ≤ 44) : x < u ∨ u + 130 ≤ x := by omega
theorem zx_X16_derivative_10 {G1_0 G3_0 m x : Nat} (h0 : m + 596 + 130 * G3_0 ≤ x) (h1 : x < m + 596 + 130 * G3_0 + 130) (h2 : G1_0 + 9 ≤ 160) (h3 : G3_0 + 8 ≤ 44) : x < m + 276 + 2 * G1_0 ∨ m + 276 + 2 * G1_0 + (320 - 2 * G1_0) ≤ x := by omega
theorem zx_X16_derivative_11 {G3_0 den m u x : Nat} (h0 : den ≤ x) (h1 : x < den + 130) (h2 : u + 130 ≤ den ∨ den + 130 ≤ u) (h3 : m + 596 ≤ u ∧ u + 130 ≤ m + 596 + 130 * G3_0) (h4 : m + 596 ≤ den ∧ den + 130 ≤ m + 596 + 130 * G3_0) (h5 : G3_0 + 8 ≤ 44) : x < u ∨ u + 130 ≤ x := by omega
theorem zx_X16_derivative_12 {G1_0 G3_0 den m x : Nat} (h0 : den ≤ x) (h1 : x < den + 130) (h2 : m + 596 ≤ den ∧ den + 130 ≤ m + 596 + 130 * G3_0) (h3 : G1_0 + 9 ≤ 160) (h4 : G3_0 + 8 ≤ 44) : x < m + 276 + 2 * G1_0 ∨ m + 276 + 2 * G1_0 + (320 - 2 * G1_0) ≤ x := by omega
theorem zx_X16_derivative_13 {G3_0 m u : Nat} (h0 : m + 596 ≤ u ∧ u + 130 ≤ m + 596 + 130 * G3_0) (h1 : G3_0 + 8 ≤ 44) : m < u ∨ u + 130 ≤ m := by omega
theorem zx_X16_derivative_14 {G1_0 m : Nat} (h0 : G1_0 + 9 ≤ 160) : m < m + 276 + 2 * G1_0 ∨ m + 276 + 2 * G1_0 + (320 - 2 * G1_0) ≤ m := by omega
theorem zx_X16_derivative_15 {G3_0 G3_1 m x : Nat} (h0 : m + 596 + 130 * G3_1 ≤ x) (h1 : x < m + 596 + 130 * G3_1 + 130) (h2 : G3_1 = G3_0 + 1) (h3 : G3_0 + 8 ≤ 44) : x < m + 596 + 130 * G3_0 ∨ m + 596 + 130 * G3_0 + 130 ≤ x := by omega
theorem zx_X16_derivative_16 {G3_0 G3_1 m u x : Nat} (h0 : m + 596 + 130 * G3_1 ≤ x) (h1 : x < m + 596 + 130 * G3_1 + 130) (h2 : m + 596 ≤ u ∧ u + 130 ≤ m + 596 + 130 * G3_0) (h3 : G3_1 = G3_0 + 1) (h4 : G3_0 + 8 ≤ 44) : x < u ∨ u + 130 ≤ x := by omega
theorem zx_X16_derivative_17 {G1_0 G3_0 G3_1 m x : Nat} (h0 : m + 596 + 130 * G3_1 ≤ x) (h1 : x < m + 596 + 130 * G3_1 + 130) (h2 : G3_1 = G3_0 + 1) (h3 : G1_0 + 9 ≤ 160) (h4 : G3_0 + 8 ≤ 44) : x < m + 276 + 2 * G1_0 ∨ m + 276 + 2 * G1_0 + (320 - 2 * G1_0) ≤ x := by omega
theorem zx_X16_derivative_18 {G3_0 m num u x : Nat} (h0 : num ≤ x) (h1 : x < num + 130) (h2 : u + 130 ≤ num ∨ num + 130 ≤ u) (h3 : m + 596 ≤ u ∧ u + 130 ≤ m + 596 + 130 * G3_0) (h4 : m + 596 ≤ num ∧ num + 130 ≤ m + 596 + 130 * G3_0) (h5 : G3_0 + 8 ≤ 44) : x < u ∨ u + 130 ≤ x := by omega
theorem zx_X16_derivative_19 {G1_0 G3_0 m num x : Nat} (h0 : num ≤ x) (h1 : x < num + 130) (h2 : m + 596 ≤ num ∧ num + 130 ≤ m + 596 + 130 * G3_0) (h3 : G1_0 + 9 ≤ 160) (h4 : G3_0 + 8 ≤ 44) : x < m + 276 + 2 * G1_0 ∨ m + 276 + 2 * G1_0 + (320 - 2 * G1_0) ≤ x := by omega
theorem zx_X16_derivative_20 {G3_0 m u x : Nat} (h0 : u ≤ x) (h1 : x < u + 130) (h2 : m + 596 ≤ u ∧ u + 130 ≤ m + 596 + 130 * G3_0) (h3 : G3_0 + 8 ≤ 44) : x < m + 596 + 130 * G3_0 ∨ m + 596 + 130 * G3_0 + 130 ≤ x := by omega
theorem zx_X16_derivative_21 {G3_0 G3_1 m u x : Nat} (h0 : u ≤ x) (h1 : x < u + 130) (h2 : m + 596 ≤ u ∧ u + 130 ≤ m + 596 + 130 * G3_0) (h3 : G3_1 = G3_0 + 1) (h4 : G3_0 + 8 ≤ 44) : x < m + 596 + 130 * G3_1 ∨ m + 596 + 130 * G3_1 + 130 ≤ x := by omega
theorem zx_X16_derivative_22 {G1_0 G3_0 m u x : Nat} (h0 : u ≤ x) (h1 : x < u + 130) (h2 : m + 596 ≤ u ∧ u + 130 ≤ m + 596 + 130 * G3_0) (h3 : G1_0 + 9 ≤ 160) (h4 : G3_0 + 8 ≤ 44) : x < m + 276 + 2 * G1_0 ∨ m + 276 + 2 * G1_0 + (320 - 2 * G1_0) ≤ x := by omega
theorem zx_X16_derivative_23 {G3_0 G3_1 m : Nat} (h0 : G3_1 = G3_0 + 1) (h1 : G3_0 + 8 ≤ 44) : m < m + 596 + 130 * G3_1 ∨ m + 596 + 130 * G3_1 + 130 ≤ m := by omega
theorem zx_X16_derivative_24 {G3_0 m v : Nat} (h0 : m + 596 ≤ v ∧ v + 130 ≤ m + 596 + 130 * G3_0) (h1 : G3_0 + 8 ≤ 44) : m < v ∨ v + 130 ≤ m := by omega
theorem zx_X16_derivative_25 {G3_0 m u v x : Nat} (h0 : u ≤ x) (h1 : x < u + 130) (h2 : u + 130 ≤ v ∨ v + 130 ≤ u) (h3 : m + 596 ≤ u ∧ u + 130 ≤ m + 596 + 130 * G3_0) (h4 : m + 596 ≤ v ∧ v + 130 ≤ m + 596 + 130 * G3_0) (h5 : G3_0 + 8 ≤ 44) : x < v ∨ v + 130 ≤ x := by omega
theorem zx_X16_derivative_26 {G3_0 G3_2 m : Nat} (h0 : G3_2 = G3_0 + 2) (h1 : G3_0 + 8 ≤ 44) : m < m + 596 + 130 * G3_2 ∨ m + 596 + 130 * G3_2 + (5720 - 130 * G3_2) ≤ m := by omega
theorem zx_X16_derivative_27 {m : Nat}  : m < m + 3 ∨ m + 3 + 1 ≤ m := by omega
theorem zx_X16_derivative_28 {m : Nat}  : m < m + 5 ∨ m + 5 + 64 ≤ m := by omega
theorem zx_X16_derivative_29 {m x : Nat} (h0 : x ≠ m) : x < m ∨ m + 1 ≤ x := by omega
theorem zx_X16_derivative_30 {G3_0 m x : Nat} (h0 : x < m + 596 + 130 * G3_0 ∨ m + 596 + 130 * G3_0 + (5720 - 130 * G3_0) ≤ x) (h1 : G3_0 + 8 ≤ 44) : x < m + 596 + 130 * G3_0 ∨ m + 596 + 130 * G3_0 + 130 ≤ x := by omega
theorem zx_X16_derivative_31 {G3_0 G3_1 m x : Nat} (h0 : x < m + 596 + 130 * G3_0 ∨ m + 596 + 130 * G3_0 + (5720 - 130 * G3_0) ≤ x) (h1 : G3_1 = G3_0 + 1) (h2 : G3_0 + 8 ≤ 44) : x < m + 596 + 130 * G3_1 ∨ m + 596 + 130 * G3_1 + 130 ≤ x := by omega
theorem zx_X16_derivative_32 {G3_0 G3_2 m x : Nat} (h0 : x < m + 596 + 130 * G3_0 ∨ m + 596 + 130 * G3_0 + (5720 - 130 * G3_0) ≤ x) (h1 : G3_2 = G3_0 + 2) (h2 : G3_0 + 8 ≤ 44) : x < m + 596 + 130 * G3_2 ∨ m + 596 + 130 * G3_2 + (5720 - 130 * G3_2) ≤ x := by omega
theorem zx_X16_derivative_33 {G3_0 m u x : Nat} (h0 : u ≤ x) (h1 : x < u + 130) (h2 : m + 596 ≤ u ∧ u + 130 ≤ m + 596 + 130 * G3_0) (h3 : G3_0 + 8 ≤ 44) : x ≠ m := by omega
theorem zx_X16_derivative_34 {G3_0 m v x : Nat} (h0 : v ≤ x) (h1 : x < v + 130) (h2 : m + 596 ≤ v ∧ v + 130 ≤ m + 596 + 130 * G3_0) (h3 : G3_0 + 8 ≤ 44) : x ≠ m := by omega
set_option maxHeartbeats 8000000 in
set_option maxRecDepth 100000 in
theorem c_X16_derivative {w : zM} {g : Nat → Int32} {r : Nat → Value} {p q : zA2} {g1 : Int32} {g3 : Int32} (m : Nat) (u : Nat) (v : Nat) (num : Nat) (den : Nat) (way : Int32) (hm : w m = some (.inl (15, zMo m g r))) (hR_m : zR m w) (hBo_u : zBo w u) (hBo_v : zBo w v) (hB_num : zB w num p) (hB_den : zB w den q) (hut : 0 ≤ g1.toInt ∧ g1.toInt + 9 ≤ 160) (hbt : 0 ≤ g3.toInt ∧ g3.toInt + 8 ≤ 44) (hxy : u + 130 ≤ v ∨ v + 130 ≤ u) (hxn : u + 130 ≤ num ∨ num + 130 ≤ u) (hxd : u + 130 ≤ den ∨ den + 130 ≤ u) (hyn : v + 130 ≤ num ∨ num + 130 ≤ v) (hyd : v + 130 ≤ den ∨ den + 130 ≤ v) (hmu : m + 596 ≤ u ∧ u + 130 ≤ m + 596 + 130 * g3.toNatClampNeg) (hmv : m + 596 ≤ v ∧ v + 130 ≤ m + 596 + 130 * g3.toNatClampNeg) (hmnum : m + 596 ≤ num ∧ num + 130 ≤ m + 596 + 130 * g3.toNatClampNeg) (hmden : m + 596 ≤ den ∧ den + 130 ≤ m + 596 + 130 * g3.toNatClampNeg) (hsz : zrw p ≤ 13 ∧ zdn p ≤ 24 ∧ zrw q ≤ 13 ∧ zdn q ≤ 24) (hq0 : 0 < zrw q) (hz_way : way = 0 ∨ way = 1) (hg1 : g 1 = g1) (hg3 : g 3 = g3) : zCon 10 zq_X16_derivative [.ref m, .ref u, .ref v, .ref num, .ref den, .int way] w (fun v9 w9' => ∃ P9 : zA2, ∃ Q9 : zA2, zSI w w9' ∧ (∀ x, (x < u ∨ u + 130 ≤ x) ∧ (x < v ∨ v + 130 ≤ x) ∧ (x < m + 276 + 2 * g1.toNatClampNeg ∨ m + 276 + 2 * g1.toNatClampNeg + (320 - 2 * g1.toNatClampNeg) ≤ x) ∧ (x < m + 596 + 130 * g3.toNatClampNeg ∨ m + 596 + 130 * g3.toNatClampNeg + (5720 - 130 * g3.toNatClampNeg) ≤ x) ∧ (x < m + 3 ∨ m + 3 + 1 ≤ x) ∧ (x < m + 5 ∨ m + 5 + 64 ≤ x) → w9' x = w x) ∧ zB w9' u P9 ∧ zB w9' v Q9 ∧ (zrw P9 ≤ 25 ∧ zdn P9 ≤ 48 ∧ 0 < zrw Q9 ∧ zrw Q9 ≤ 25 ∧ zdn Q9 ≤ 48) ∧ v9 = none) := by
  subst hg1
  subst hg3
  intro d sz hd
  obtain ⟨d, rfl⟩ : ∃ d9, d = d9 + 1 := ⟨d - 1, by omega⟩
  generalize hPost : (fun (r9' : Option (Option Value)) (w9' : zM) (z9 : Nat) => z9 = sz ∧ ∃ v9, r9' = some v9 ∧ (∃ P9 : zA2, ∃ Q9 : zA2, zSI w w9' ∧ (∀ x, (x < u ∨ u + 130 ≤ x) ∧ (x < v ∨ v + 130 ≤ x) ∧ (x < m + 276 + 2 * (g 1).toNatClampNeg ∨ m + 276 + 2 * (g 1).toNatClampNeg + (320 - 2 * (g 1).toNatClampNeg) ≤ x) ∧ (x < m + 596 + 130 * (g 3).toNatClampNeg ∨ m + 596 + 130 * (g 3).toNatClampNeg + (5720 - 130 * (g 3).toNatClampNeg) ≤ x) ∧ (x < m + 3 ∨ m + 3 + 1 ≤ x) ∧ (x < m + 5 ∨ m + 5 + 64 ≤ x) → w9' x = w x) ∧ zB w9' u P9 ∧ zB w9' v Q9 ∧ (zrw P9 ≤ 25 ∧ zdn P9 ≤ 48 ∧ 0 < zrw Q9 ∧ zrw Q9 ≤ 25 ∧ zdn Q9 ≤ 48) ∧ v9 = none)) = Post
  show zP (d + 1) zq_X16_derivative 0 [(0, .ref m), (1, .ref u), (2, .ref v), (3, .ref num), (4, .ref den), (5, .int way)] [] w sz 0 0 Post
  have k1 := zrng way
  have k2 := zrng (g 1)
  have hz3 : ((g 1).toNatClampNeg : Int) = (g 1).toInt := znat (by first | omega | decide)
  have hgb1 : (g 1).toNatClampNeg + 9 ≤ 160 := by omega
  have k4 := zrng (g 3)
  have hz5 : ((g 3).toNatClampNeg : Int) = (g 3).toInt := znat (by first | omega | decide)
  have hgb3 : (g 3).toNatClampNeg + 8 ≤ 44 := by omega
  refine zp_seg (pc' := 1) (lv' := [(0, .ref m), (1, .ref u), (2, .ref v), (3, .ref num), (4, .ref den), (5, .int way)]) (st' := [.ref m]) [(0, .aload_n 0)] (by decide +kernel) rfl ?_
  refine zr_get (idx := 90) (k := 3) (v := .int (g 3)) (by decide +kernel) (by decide +kernel) hm rfl ?_
  refine zp_seg (pc' := 7) (lv' := [(6, .int (g 3)), (0, .ref m), (1, .ref u), (2, .ref v), (3, .ref num), (4, .ref den), (5, .int way)]) (st' := [.ref m]) [(4, .istore 6), (6, .aload_n 0)] (by decide +kernel) rfl ?_
  refine zr_callV (idx := 140) (j := 274) (by decide +kernel) (by decide +kernel) (show zMe 274 = some zq_X16_newB from rfl) rfl rfl (Nat.le_of_ble_eq_true rfl) rfl rfl hm (Nat.le_of_ble_eq_true rfl) (Nat.le_of_ble_eq_true rfl) (c_X16_newB (w := w) (g3 := (g 3)) m hm hR_m (by first | omega | decide | assumption | exact zr1_1 | exact zr1_0 | fail "num") rfl) (by omega) (fun v7 w7 hp7 => ?_)
  obtain ⟨hsi7, heq7, hp7_0, hp7_1, rfl⟩ := hp7
  have hM7 : w7 m = some (.inl (15, zMo m (zs g 3 (g 3 + 1)) r)) := hp7_0
  show zP _ _ _ _ [.ref (m + 596 + 130 * (g 3).toNatClampNeg)] _ _ _ _ _
  refine zp_seg (pc' := 13) (lv' := [(7, .ref (m + 596 + 130 * (g 3).toNatClampNeg)), (6, .int (g 3)), (0, .ref m), (1, .ref u), (2, .ref v), (3, .ref num), (4, .ref den), (5, .int way)]) (st' := [.ref m]) [(10, .astore 7), (12, .aload_n 0)] (by decide +kernel) rfl ?_
  have k7 := zaddC (g 3) 1 (n := 1) (by decide) (by omega) (by omega)
  have hz8 : ((g 3 + 1).toNatClampNeg : Int) = (g 3 + 1).toInt := znat (by first | omega | decide)
  have hgn3_1 : (g 3 + 1).toNatClampNeg = (g 3).toNatClampNeg + 1 := by omega
  have hb9 := hR_m.si hsi7
  refine zr_callV (idx := 140) (j := 274) (by decide +kernel) (by decide +kernel) (show zMe 274 = some zq_X16_newB from rfl) rfl rfl (Nat.le_of_ble_eq_true rfl) rfl rfl hM7 (Nat.le_of_ble_eq_true rfl) (Nat.le_of_ble_eq_true rfl) (c_X16_newB (w := w7) (g3 := (g 3 + 1)) m hM7 hb9 (by first | omega | decide | assumption | exact zr1_1 | exact zr1_0 | fail "num") rfl) (by omega) (fun v13 w13 hp13 => ?_)
  obtain ⟨hsi13, heq13, hp13_0, hp13_1, rfl⟩ := hp13
  have hM13 : w13 m = some (.inl (15, zMo m (zs g 3 (g 3 + 1 + 1)) r)) := hp13_0
  show zP _ _ _ _ [.ref (m + 596 + 130 * (g 3 + 1).toNatClampNeg)] _ _ _ _ _
  refine zp_seg (pc' := 23) (lv' := [(8, .ref (m + 596 + 130 * (g 3 + 1).toNatClampNeg)), (7, .ref (m + 596 + 130 * (g 3).toNatClampNeg)), (6, .int (g 3)), (0, .ref m), (1, .ref u), (2, .ref v), (3, .ref num), (4, .ref den), (5, .int way)]) (st' := [.int way, .ref num, .ref (m + 596 + 130 * (g 3).toNatClampNeg)]) [(16, .astore 8), (18, .aload 7), (20, .aload_n 3), (21, .iload 5)] (by decide +kernel) rfl ?_
  have hb10 : zB w13 (m + 596 + 130 * (g 3).toNatClampNeg) zbZ := hp7_1.ag (fun x hx1 hx2 => (heq13 x ⟨(zx_X16_derivative_0 hx1 hx2 hgb3), (zx_X16_derivative_1 hx1 hx2 hgn3_1 hgb3)⟩))
  have ho23_to := zB.o hb10
  have hb11 : zB w13 num p := hB_num.ag (fun x hx1 hx2 => ((heq13 x ⟨(zx_X16_derivative_2 hx1 hx2 hmnum hgb3), (zx_X16_derivative_4 hx1 hx2 hmnum hgn3_1 hgb3)⟩).trans (heq7 x ⟨(zx_X16_derivative_2 hx1 hx2 hmnum hgb3), (zx_X16_derivative_3 hx1 hx2 hmnum hgb3)⟩)))
  refine zr_callS (idx := 670) (j := 371) (by decide +kernel) (by decide +kernel) (by decide) (show zMe 371 = some zq_X16_slope from rfl) rfl rfl (Nat.le_of_ble_eq_true rfl) rfl rfl (Nat.le_of_ble_eq_true rfl) (Nat.le_of_ble_eq_true rfl) (c_X16_slope (w := w13) (m + 596 + 130 * (g 3).toNatClampNeg) num way ho23_to hb11 (by first | omega | decide | assumption | exact zr1_1 | exact zr1_0 | fail "num") (by first | omega | decide | assumption | exact zr1_1 | exact zr1_0 | fail "num")) (by omega) (fun v23 w23 hp23 => ?_)
  obtain ⟨P9_23, hsi23, heq23, hp23_0, hp23_1, rfl⟩ := hp23
  show zP _ _ _ _ [] _ _ _ _ _
  have e1 := hp23_1
  refine zp_seg (pc' := 32) (lv' := [(8, .ref (m + 596 + 130 * (g 3 + 1).toNatClampNeg)), (7, .ref (m + 596 + 130 * (g 3).toNatClampNeg)), (6, .int (g 3)), (0, .ref m), (1, .ref u), (2, .ref v), (3, .ref num), (4, .ref den), (5, .int way)]) (st' := [.ref den, .ref (m + 596 + 130 * (g 3).toNatClampNeg), .ref u, .ref m]) [(26, .aload_n 0), (27, .aload_n 1), (28, .aload 7), (30, .aload 4)] (by decide +kernel) rfl ?_
  have hb12 : w23 m = some (.inl (15, zMo m (zs g 3 (g 3 + 1 + 1)) r)) := (heq23 m (zx_X16_derivative_5 hgb3)).trans hM13
  have hb13 := hb9.si (hsi13.tr hsi23)
  have hb14 := hBo_u.si ((hsi7.tr hsi13).tr hsi23)
  have hb15 : zB w23 den q := hB_den.ag (fun x hx1 hx2 => ((heq23 x (zx_X16_derivative_7 hx1 hx2 hmden hgb3)).trans ((heq13 x ⟨(zx_X16_derivative_6 hx1 hx2 hmden hgb3), (zx_X16_derivative_8 hx1 hx2 hmden hgn3_1 hgb3)⟩).trans (heq7 x ⟨(zx_X16_derivative_6 hx1 hx2 hmden hgb3), (zx_X16_derivative_7 hx1 hx2 hmden hgb3)⟩))))
  refine zr_callV (idx := 197) (j := 278) (by decide +kernel) (by decide +kernel) (show zMe 278 = some zq_X16_times_ from rfl) rfl rfl (Nat.le_of_ble_eq_true rfl) rfl rfl hb12 (Nat.le_of_ble_eq_true rfl) (Nat.le_of_ble_eq_true rfl) (c_X16_times_ (w := w23) (g1 := (g 1)) m u (m + 596 + 130 * (g 3).toNatClampNeg) den hb12 hb13 hb14 hp23_0 hb15 (by first | omega | decide | assumption | exact zr1_1 | exact zr1_0 | fail "num") (by first | omega | decide | assumption | exact zr1_1 | exact zr1_0 | fail "num") (by first | omega | decide | assumption | exact zr1_1 | exact zr1_0 | fail "num") (by first | omega | decide | assumption | exact zr1_1 | exact zr1_0 | fail "num") (by first | omega | decide | assumption | exact zr1_1 | exact zr1_0 | fail "num") (by first | omega | decide | assumption | exact zr1_1 | exact zr1_0 | fail "num") (by first | omega | decide | assumption | exact zr1_1 | exact zr1_0 | fail "num") (by first | omega | decide | assumption | exact zr1_1 | exact zr1_0 | fail "num") rfl) (by omega) (fun v32 w32 hp32 => ?_)
  obtain ⟨hsi32, heq32, hp32_0, rfl⟩ := hp32
  show zP _ _ _ _ [] _ _ _ _ _
  have e2 := zMs_M P9_23 q
  have e3 := e2.1
  have e4 := e2.2.1
  refine zp_seg (pc' := 41) (lv' := [(8, .ref (m + 596 + 130 * (g 3 + 1).toNatClampNeg)), (7, .ref (m + 596 + 130 * (g 3).toNatClampNeg)), (6, .int (g 3)), (0, .ref m), (1, .ref u), (2, .ref v), (3, .ref num), (4, .ref den), (5, .int way)]) (st' := [.int way, .ref den, .ref (m + 596 + 130 * (g 3).toNatClampNeg)]) [(35, .aload 7), (37, .aload 4), (39, .iload 5)] (by decide +kernel) rfl ?_
  have hb16 : zB w32 (m + 596 + 130 * (g 3).toNatClampNeg) P9_23 := hp23_0.ag (fun x hx1 hx2 => (heq32 x ⟨(zx_X16_derivative_9 hx1 hx2 hmu hgb3), (zx_X16_derivative_10 hx1 hx2 hgb1 hgb3)⟩))
  have ho41_to := zB.o hb16
  have hb17 : zB w32 den q := hb15.ag (fun x hx1 hx2 => (heq32 x ⟨(zx_X16_derivative_11 hx1 hx2 hxd hmu hmden hgb3), (zx_X16_derivative_12 hx1 hx2 hmden hgb1 hgb3)⟩))
  refine zr_callS (idx := 670) (j := 371) (by decide +kernel) (by decide +kernel) (by decide) (show zMe 371 = some zq_X16_slope from rfl) rfl rfl (Nat.le_of_ble_eq_true rfl) rfl rfl (Nat.le_of_ble_eq_true rfl) (Nat.le_of_ble_eq_true rfl) (c_X16_slope (w := w32) (m + 596 + 130 * (g 3).toNatClampNeg) den way ho41_to hb17 (by first | omega | decide | assumption | exact zr1_1 | exact zr1_0 | fail "num") (by first | omega | decide | assumption | exact zr1_1 | exact zr1_0 | fail "num")) (by omega) (fun v41 w41 hp41 => ?_)
  obtain ⟨P9_41, hsi41, heq41, hp41_0, hp41_1, rfl⟩ := hp41
  show zP _ _ _ _ [] _ _ _ _ _
  have e5 := hp41_1
  refine zp_seg (pc' := 50) (lv' := [(8, .ref (m + 596 + 130 * (g 3 + 1).toNatClampNeg)), (7, .ref (m + 596 + 130 * (g 3).toNatClampNeg)), (6, .int (g 3)), (0, .ref m), (1, .ref u), (2, .ref v), (3, .ref num), (4, .ref den), (5, .int way)]) (st' := [.ref num, .ref (m + 596 + 130 * (g 3).toNatClampNeg), .ref (m + 596 + 130 * (g 3 + 1).toNatClampNeg), .ref m]) [(44, .aload_n 0), (45, .aload 8), (47, .aload 7), (49, .aload_n 3)] (by decide +kernel) rfl ?_
  have hb18 : w41 m = some (.inl (15, zMo m (zs g 3 (g 3 + 1 + 1)) r)) := ((heq41 m (zx_X16_derivative_5 hgb3)).trans (heq32 m ⟨(zx_X16_derivative_13 hmu hgb3), (zx_X16_derivative_14 hgb1)⟩)).trans hb12
  have hb19 := hb13.si (hsi32.tr hsi41)
  have hb20 : zB w41 (m + 596 + 130 * (g 3 + 1).toNatClampNeg) zbZ := hp13_1.ag (fun x hx1 hx2 => ((heq41 x (zx_X16_derivative_15 hx1 hx2 hgn3_1 hgb3)).trans ((heq32 x ⟨(zx_X16_derivative_16 hx1 hx2 hmu hgn3_1 hgb3), (zx_X16_derivative_17 hx1 hx2 hgn3_1 hgb1 hgb3)⟩).trans (heq23 x (zx_X16_derivative_15 hx1 hx2 hgn3_1 hgb3)))))
  have ho50_to := zB.o hb20
  have hb21 : zB w41 num p := hb11.ag (fun x hx1 hx2 => ((heq41 x (zx_X16_derivative_3 hx1 hx2 hmnum hgb3)).trans ((heq32 x ⟨(zx_X16_derivative_18 hx1 hx2 hxn hmu hmnum hgb3), (zx_X16_derivative_19 hx1 hx2 hmnum hgb1 hgb3)⟩).trans (heq23 x (zx_X16_derivative_3 hx1 hx2 hmnum hgb3)))))
  refine zr_callV (idx := 197) (j := 278) (by decide +kernel) (by decide +kernel) (show zMe 278 = some zq_X16_times_ from rfl) rfl rfl (Nat.le_of_ble_eq_true rfl) rfl rfl hb18 (Nat.le_of_ble_eq_true rfl) (Nat.le_of_ble_eq_true rfl) (c_X16_times_ (w := w41) (g1 := (g 1)) m (m + 596 + 130 * (g 3 + 1).toNatClampNeg) (m + 596 + 130 * (g 3).toNatClampNeg) num hb18 hb19 ho50_to hp41_0 hb21 (by first | omega | decide | assumption | exact zr1_1 | exact zr1_0 | fail "num") (by first | omega | decide | assumption | exact zr1_1 | exact zr1_0 | fail "num") (by first | omega | decide | assumption | exact zr1_1 | exact zr1_0 | fail "num") (by first | omega | decide | assumption | exact zr1_1 | exact zr1_0 | fail "num") (by first | omega | decide | assumption | exact zr1_1 | exact zr1_0 | fail "num") (by first | omega | decide | assumption | exact zr1_1 | exact zr1_0 | fail "num") (by first | omega | decide | assumption | exact zr1_1 | exact zr1_0 | fail "num") (by first | omega | decide | assumption | exact zr1_1 | exact zr1_0 | fail "num") rfl) (by omega) (fun v50 w50 hp50 => ?_)
  obtain ⟨hsi50, heq50, hp50_0, rfl⟩ := hp50
  show zP _ _ _ _ [] _ _ _ _ _
  have e6 := zMs_M P9_41 p
  have e7 := e6.1
  have e8 := e6.2.1
  refine zp_seg (pc' := 58) (lv' := [(8, .ref (m + 596 + 130 * (g 3 + 1).toNatClampNeg)), (7, .ref (m + 596 + 130 * (g 3).toNatClampNeg)), (6, .int (g 3)), (0, .ref m), (1, .ref u), (2, .ref v), (3, .ref num), (4, .ref den), (5, .int way)]) (st' := [.int 1, .ref (m + 596 + 130 * (g 3 + 1).toNatClampNeg), .ref u, .ref u]) [(53, .aload_n 1), (54, .aload_n 1), (55, .aload 8), (57, .iconst 1)] (by decide +kernel) rfl ?_
  have hb22 : zB w50 u (zbM P9_23 q) := hp32_0.ag (fun x hx1 hx2 => ((heq50 x ⟨(zx_X16_derivative_21 hx1 hx2 hmu hgn3_1 hgb3), (zx_X16_derivative_22 hx1 hx2 hmu hgb1 hgb3)⟩).trans (heq41 x (zx_X16_derivative_20 hx1 hx2 hmu hgb3))))
  refine zr_callS (idx := 199) (j := 276) (by decide +kernel) (by decide +kernel) (by decide) (show zMe 276 = some zq_X16_plus_ from rfl) rfl rfl (Nat.le_of_ble_eq_true rfl) rfl rfl (Nat.le_of_ble_eq_true rfl) (Nat.le_of_ble_eq_true rfl) (c_X16_plus_Sa (w := w50) u  (m + 596 + 130 * (g 3 + 1).toNatClampNeg)  hb22 hp50_0 (by first | omega | decide | assumption | exact zr1_1 | exact zr1_0 | fail "num")) (by omega) (fun v58 w58 hp58 => ?_)
  obtain ⟨hsi58, heq58, hp58_0, hp58_1, rfl⟩ := hp58
  show zP _ _ _ _ [] _ _ _ _ _
  have e9 := zrw_S (zbM P9_23 q) (zbM P9_41 p)
  have e10 := zdn_S (zbM P9_23 q) (zbM P9_41 p)
  have e11 : zrw (zbS (zbM P9_23 q) (zbM P9_41 p)) ≤ 25 ∧ zdn (zbS (zbM P9_23 q) (zbM P9_41 p)) ≤ 48 := by omega
  clear e9 e10
  refine zp_seg (pc' := 67) (lv' := [(8, .ref (m + 596 + 130 * (g 3 + 1).toNatClampNeg)), (7, .ref (m + 596 + 130 * (g 3).toNatClampNeg)), (6, .int (g 3)), (0, .ref m), (1, .ref u), (2, .ref v), (3, .ref num), (4, .ref den), (5, .int way)]) (st' := [.ref den, .ref den, .ref v, .ref m]) [(61, .aload_n 0), (62, .aload_n 2), (63, .aload 4), (65, .aload 4)] (by decide +kernel) rfl ?_
  have hb23 : w58 m = some (.inl (15, zMo m (zs g 3 (g 3 + 1 + 1)) r)) := ((heq58 m ⟨(zx_X16_derivative_13 hmu hgb3), (zx_X16_derivative_23 hgn3_1 hgb3)⟩).trans (heq50 m ⟨(zx_X16_derivative_23 hgn3_1 hgb3), (zx_X16_derivative_14 hgb1)⟩)).trans hb18
  have hb24 := hb19.si (hsi50.tr hsi58)
  have hb25 := hBo_v.si ((((((hsi7.tr hsi13).tr hsi23).tr hsi32).tr hsi41).tr hsi50).tr hsi58)
  have hb26 : zB w58 den q := hb17.ag (fun x hx1 hx2 => ((heq58 x ⟨(zx_X16_derivative_11 hx1 hx2 hxd hmu hmden hgb3), (zx_X16_derivative_8 hx1 hx2 hmden hgn3_1 hgb3)⟩).trans ((heq50 x ⟨(zx_X16_derivative_8 hx1 hx2 hmden hgn3_1 hgb3), (zx_X16_derivative_12 hx1 hx2 hmden hgb1 hgb3)⟩).trans (heq41 x (zx_X16_derivative_7 hx1 hx2 hmden hgb3)))))
  refine zr_callV (idx := 197) (j := 278) (by decide +kernel) (by decide +kernel) (show zMe 278 = some zq_X16_times_ from rfl) rfl rfl (Nat.le_of_ble_eq_true rfl) rfl rfl hb23 (Nat.le_of_ble_eq_true rfl) (Nat.le_of_ble_eq_true rfl) (c_X16_times_ (w := w58) (g1 := (g 1)) m v den den hb23 hb24 hb25 hb26 hb26 (by first | omega | decide | assumption | exact zr1_1 | exact zr1_0 | fail "num") (by first | omega | decide | assumption | exact zr1_1 | exact zr1_0 | fail "num") (by first | omega | decide | assumption | exact zr1_1 | exact zr1_0 | fail "num") (by first | omega | decide | assumption | exact zr1_1 | exact zr1_0 | fail "num") (by first | omega | decide | assumption | exact zr1_1 | exact zr1_0 | fail "num") (by first | omega | decide | assumption | exact zr1_1 | exact zr1_0 | fail "num") (by first | omega | decide | assumption | exact zr1_1 | exact zr1_0 | fail "num") (by first | omega | decide | assumption | exact zr1_1 | exact zr1_0 | fail "num") rfl) (by omega) (fun v67 w67 hp67 => ?_)
  obtain ⟨hsi67, heq67, hp67_0, rfl⟩ := hp67
  show zP _ _ _ _ [] _ _ _ _ _
  have f1 := zMs_M q q
  have f2 := f1.1
  have f3 := f1.2.1
  have f4 := f1.2.2 hq0 hq0
  refine zp_seg (pc' := 73) (lv' := [(8, .ref (m + 596 + 130 * (g 3 + 1).toNatClampNeg)), (7, .ref (m + 596 + 130 * (g 3).toNatClampNeg)), (6, .int (g 3)), (0, .ref m), (1, .ref u), (2, .ref v), (3, .ref num), (4, .ref den), (5, .int way)]) (st' := [.ref v, .ref u, .ref m]) [(70, .aload_n 0), (71, .aload_n 1), (72, .aload_n 2)] (by decide +kernel) rfl ?_
  have hb27 : w67 m = some (.inl (15, zMo m (zs g 3 (g 3 + 1 + 1)) r)) := (heq67 m ⟨(zx_X16_derivative_24 hmv hgb3), (zx_X16_derivative_14 hgb1)⟩).trans hb23
  have k28 := zaddC (g 3 + 1) 1 (n := 1) (by decide) (by omega) (by omega)
  have hz29 : ((g 3 + 1 + 1).toNatClampNeg : Int) = (g 3 + 1 + 1).toInt := znat (by first | omega | decide)
  have hgn3_2 : (g 3 + 1 + 1).toNatClampNeg = (g 3).toNatClampNeg + 2 := by omega
  have hb30 := hb24.si hsi67
  have hb31 : zB w67 u (zbS (zbM P9_23 q) (zbM P9_41 p)) := hp58_0.ag (fun x hx1 hx2 => (heq67 x ⟨(zx_X16_derivative_25 hx1 hx2 hxy hmu hmv hgb3), (zx_X16_derivative_22 hx1 hx2 hmu hgb1 hgb3)⟩))
  refine zr_callV (idx := 659) (j := 294) (by decide +kernel) (by decide +kernel) (show zMe 294 = some zq_X16_reduce from rfl) rfl rfl (Nat.le_of_ble_eq_true rfl) rfl rfl hb27 (Nat.le_of_ble_eq_true rfl) (Nat.le_of_ble_eq_true rfl) (c_X16_reduce (w := w67) (g1 := (g 1)) (g3 := (g 3 + 1 + 1)) m u v hb27 hb30 hb31 hp67_0 (by first | omega | decide | assumption | exact zr1_1 | exact zr1_0 | fail "num") (by first | omega | decide | assumption | exact zr1_1 | exact zr1_0 | fail "num") (by first | omega | decide | assumption | exact zr1_1 | exact zr1_0 | fail "num") (by first | omega | decide | assumption | exact zr1_1 | exact zr1_0 | fail "num") (by first | omega | decide | assumption | exact zr1_1 | exact zr1_0 | fail "num") (by first | omega | decide | assumption | exact zr1_1 | exact zr1_0 | fail "num") (by first | omega | decide | assumption | exact zr1_1 | exact zr1_0 | fail "num") (by first | omega | decide | assumption | exact zr1_1 | exact zr1_0 | fail "num") (by first | omega | decide | assumption | exact zr1_1 | exact zr1_0 | fail "num") rfl rfl) (by omega) (fun v73 w73 hp73 => ?_)
  obtain ⟨P9_73, Q9_73, hsi73, heq73, hp73_0, hp73_1, hp73_2, rfl⟩ := hp73
  show zP _ _ _ _ [] _ _ _ _ _
  have f5 := hp73_2.1
  have f6 := f5.1
  have f7 := f5.2.1
  have f8 := hp73_2.2.1
  have f9 := hp73_2.2.2.1
  have f10 := hp73_2.2.2.2 f4
  refine zp_seg (pc' := 79) (lv' := [(8, .ref (m + 596 + 130 * (g 3 + 1).toNatClampNeg)), (7, .ref (m + 596 + 130 * (g 3).toNatClampNeg)), (6, .int (g 3)), (0, .ref m), (1, .ref u), (2, .ref v), (3, .ref num), (4, .ref den), (5, .int way)]) (st' := [.int (g 3), .ref m]) [(76, .aload_n 0), (77, .iload 6)] (by decide +kernel) rfl ?_
  have hb32 : w73 m = some (.inl (15, zMo m (zs g 3 (g 3 + 1 + 1)) r)) := (heq73 m ⟨(zx_X16_derivative_13 hmu hgb3), (zx_X16_derivative_24 hmv hgb3), (zx_X16_derivative_14 hgb1), (zx_X16_derivative_26 hgn3_2 hgb3), (zx_X16_derivative_27), (zx_X16_derivative_28)⟩).trans hb27
  refine zr_put2 (idx := 90) (k := 3) (fs2 := zMo m g r) (by decide +kernel) (by decide +kernel) hb32 (Nat.le_of_ble_eq_true rfl) rfl rfl rfl ?_
  show zP (d + 1) zq_X16_derivative 82 [(8, .ref (m + 596 + 130 * (g 3 + 1).toNatClampNeg)), (7, .ref (m + 596 + 130 * (g 3).toNatClampNeg)), (6, .int (g 3)), (0, .ref m), (1, .ref u), (2, .ref v), (3, .ref num), (4, .ref den), (5, .int way)] [] (zup w73 m (.inl (15, zMo m g r))) sz 0 0 Post
  obtain ⟨w79, ew79⟩ : ∃ wz9, wz9 = zup w73 m (.inl (15, zMo m g r)) := ⟨_, rfl⟩
  have hsi79 : zSI w73 w79 := by rw [ew79]; exact zSI.setG hb32 _ _
  have heq79 : ∀ x, x ≠ m → w79 x = w73 x := fun x hx => by rw [ew79]; exact zup_n hx
  have hc79 : w79 m = some (.inl (15, zMo m g r)) := by rw [ew79]; exact zup_s
  rw [← ew79]
  clear ew79
  have hmend : w79 m = w m := by rw [hc79, hm]
  have hoffend : ∀ x, (x < u ∨ u + 130 ≤ x) ∧ (x < v ∨ v + 130 ≤ x) ∧ (x < m + 276 + 2 * (g 1).toNatClampNeg ∨ m + 276 + 2 * (g 1).toNatClampNeg + (320 - 2 * (g 1).toNatClampNeg) ≤ x) ∧ (x < m + 596 + 130 * (g 3).toNatClampNeg ∨ m + 596 + 130 * (g 3).toNatClampNeg + (5720 - 130 * (g 3).toNatClampNeg) ≤ x) ∧ (x < m + 3 ∨ m + 3 + 1 ≤ x) ∧ (x < m + 5 ∨ m + 5 + 64 ≤ x) → w79 x = w x := fun x hx => by
      by_cases ex : x = m
      · rw [ex]; exact hmend
      · exact ((heq79 x ex).trans ((heq73 x ⟨hx.1, hx.2.1, hx.2.2.1, (zx_X16_derivative_32 hx.2.2.2.1 hgn3_2 hgb3), hx.2.2.2.2.1, hx.2.2.2.2.2⟩).trans ((heq67 x ⟨hx.2.1, hx.2.2.1⟩).trans ((heq58 x ⟨hx.1, (zx_X16_derivative_31 hx.2.2.2.1 hgn3_1 hgb3)⟩).trans ((heq50 x ⟨(zx_X16_derivative_31 hx.2.2.2.1 hgn3_1 hgb3), hx.2.2.1⟩).trans ((heq41 x (zx_X16_derivative_30 hx.2.2.2.1 hgb3)).trans ((heq32 x ⟨hx.1, hx.2.2.1⟩).trans ((heq23 x (zx_X16_derivative_30 hx.2.2.2.1 hgb3)).trans ((heq13 x ⟨(zx_X16_derivative_29 ex), (zx_X16_derivative_31 hx.2.2.2.1 hgn3_1 hgb3)⟩).trans (heq7 x ⟨(zx_X16_derivative_29 ex), (zx_X16_derivative_30 hx.2.2.2.1 hgb3)⟩))))))))))
  have hb33 : zB w79 u P9_73 := hp73_0.ag (fun x hx1 hx2 => (heq79 x (zx_X16_derivative_33 hx1 hx2 hmu hgb3)))
  have hb34 : zB w79 v Q9_73 := hp73_1.ag (fun x hx1 hx2 => (heq79 x (zx_X16_derivative_34 hx1 hx2 hmv hgb3)))
  refine zr_retV (by decide +kernel) rfl ?_
  rw [← hPost]; exact ⟨rfl, _, rfl, P9_73, Q9_73, (((((((((hsi7.tr hsi13).tr hsi23).tr hsi32).tr hsi41).tr hsi50).tr hsi58).tr hsi67).tr hsi73).tr hsi79), hoffend, (by first | exact hb33 | (have z9 := hb33; simpa using z9)), (by first | exact hb34 | (have z9 := hb34; simpa using z9)), (by
        exact ⟨by omega, by omega, f10, by omega, by omega⟩), rfl⟩
