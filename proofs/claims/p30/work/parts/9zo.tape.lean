theorem zx_X16_type_0 {m x : Nat} (h0 : x < m + 0 ∨ m + 0 + 8322 ≤ x) : x < m ∨ m + 1 ≤ x := by omega
theorem zx_X16_type_1 {m x : Nat} (h0 : x < m + 0 ∨ m + 0 + 8322 ≤ x) : x < m + 80 ∨ m + 80 + 1 ≤ x := by omega
theorem zx_X16_type_2 {m x : Nat} (h0 : x < m + 0 ∨ m + 0 + 8322 ≤ x) : x ≠ m := by omega
theorem zx_X16_type_3 {m x : Nat} (h0 : m + 7486 ≤ x) (h1 : x < m + 7486 + 108) : x < m ∨ m + 1 ≤ x := by omega
theorem zx_X16_type_4 {m x : Nat} (h0 : m + 7486 ≤ x) (h1 : x < m + 7486 + 108) : x < m + 80 ∨ m + 80 + 1 ≤ x := by omega
theorem zx_X16_type_5 {m x : Nat} (h0 : m + 7486 ≤ x) (h1 : x < m + 7486 + 108) : x ≠ m := by omega
theorem zx_X16_type_6 {m x : Nat} (h0 : m + 83 ≤ x) (h1 : x < m + 83 + 9) : x < m ∨ m + 1 ≤ x := by omega
theorem zx_X16_type_7 {m x : Nat} (h0 : m + 83 ≤ x) (h1 : x < m + 83 + 9) : x < m + 80 ∨ m + 80 + 1 ≤ x := by omega
theorem zx_X16_type_8 {m x : Nat} (h0 : m + 83 ≤ x) (h1 : x < m + 83 + 9) : x ≠ m := by omega
theorem zx_X16_type_9 {m x : Nat} (h0 : m + 6316 ≤ x) (h1 : x < m + 6316 + 1170) : x < m ∨ m + 1 ≤ x := by omega
theorem zx_X16_type_10 {m x : Nat} (h0 : m + 6316 ≤ x) (h1 : x < m + 6316 + 1170) : x < m + 80 ∨ m + 80 + 1 ≤ x := by omega
theorem zx_X16_type_11 {m x : Nat} (h0 : m + 6316 ≤ x) (h1 : x < m + 6316 + 1170) : x ≠ m := by omega
theorem zx_X16_type_12 {m x : Nat} (h0 : m + 92 ≤ x) (h1 : x < m + 92 + 1) : x < m ∨ m + 1 ≤ x := by omega
theorem zx_X16_type_13 {m x : Nat} (h0 : m + 92 ≤ x) (h1 : x < m + 92 + 1) : x < m + 80 ∨ m + 80 + 1 ≤ x := by omega
theorem zx_X16_type_14 {m x : Nat} (h0 : m + 92 ≤ x) (h1 : x < m + 92 + 1) : x ≠ m := by omega
theorem zx_X16_type_15 {m x : Nat} (h0 : m + 93 ≤ x) (h1 : x < m + 93 + 1) : x < m ∨ m + 1 ≤ x := by omega
theorem zx_X16_type_16 {m x : Nat} (h0 : m + 93 ≤ x) (h1 : x < m + 93 + 1) : x < m + 80 ∨ m + 80 + 1 ≤ x := by omega
theorem zx_X16_type_17 {m x : Nat} (h0 : m + 93 ≤ x) (h1 : x < m + 93 + 1) : x ≠ m := by omega
theorem zx_X16_type_18 {m x : Nat} (h0 : m + 100 ≤ x) (h1 : x < m + 100 + 49) : x < m ∨ m + 1 ≤ x := by omega
theorem zx_X16_type_19 {m x : Nat} (h0 : m + 100 ≤ x) (h1 : x < m + 100 + 49) : x < m + 80 ∨ m + 80 + 1 ≤ x := by omega
theorem zx_X16_type_20 {m x : Nat} (h0 : m + 100 ≤ x) (h1 : x < m + 100 + 49) : x ≠ m := by omega
theorem zx_X16_type_21 {m x : Nat} (h0 : m + 212 ≤ x) (h1 : x < m + 212 + 61) : x < m ∨ m + 1 ≤ x := by omega
theorem zx_X16_type_22 {m x : Nat} (h0 : m + 212 ≤ x) (h1 : x < m + 212 + 61) : x < m + 80 ∨ m + 80 + 1 ≤ x := by omega
theorem zx_X16_type_23 {m x : Nat} (h0 : m + 212 ≤ x) (h1 : x < m + 212 + 61) : x ≠ m := by omega
theorem zx_X16_type_24 {m x : Nat} (h0 : m + 149 ≤ x) (h1 : x < m + 149 + 27) : x < m ∨ m + 1 ≤ x := by omega
theorem zx_X16_type_25 {m x : Nat} (h0 : m + 149 ≤ x) (h1 : x < m + 149 + 27) : x < m + 80 ∨ m + 80 + 1 ≤ x := by omega
theorem zx_X16_type_26 {m x : Nat} (h0 : m + 149 ≤ x) (h1 : x < m + 149 + 27) : x ≠ m := by omega
theorem zx_X16_type_27 {m : Nat}  : (m + 94) < m ∨ m + 1 ≤ (m + 94) := by omega
theorem zx_X16_type_28 {m : Nat}  : (m + 94) < m + 80 ∨ m + 80 + 1 ≤ (m + 94) := by omega
theorem zx_X16_type_29 {m : Nat}  : (m + 94) ≠ m := by omega
theorem zx_X16_type_30 {m x : Nat} (h0 : x < m + 80 ∨ m + 80 + 1 ≤ x) : x ≠ m + 80 := by omega
theorem zx_X16_type_31 {m : Nat}  : m ≠ m + 80 := by omega
set_option maxHeartbeats 8000000 in
set_option maxRecDepth 100000 in
theorem c_X16_type {w : zM} {n9 : Int32} (m : Nat) (bytes : Int64) (n : Int32) (hI : zInv w m n9) : zCon 1 zq_X16_type [.ref m, .long bytes, .int n] w (fun v9 w9' => zSI w w9' ∧ (∀ x, (x < m + 0 ∨ m + 0 + 8322 ≤ x) → w9' x = w x) ∧ zInv w9' m n9 ∧ ∃ r9 : Int32, v9 = some (.int r9) ∧ True) := by
  intro d sz hd
  obtain ⟨d, rfl⟩ : ∃ d9, d = d9 + 1 := ⟨d - 1, by omega⟩
  generalize hPost : (fun (r9' : Option (Option Value)) (w9' : zM) (z9 : Nat) => z9 = sz ∧ ∃ v9, r9' = some v9 ∧ (zSI w w9' ∧ (∀ x, (x < m + 0 ∨ m + 0 + 8322 ≤ x) → w9' x = w x) ∧ zInv w9' m n9 ∧ ∃ r9 : Int32, v9 = some (.int r9) ∧ True)) = Post
  show zP (d + 1) zq_X16_type 0 [(0, .ref m), (1, .long bytes), (3, .int n)] [] w sz 0 0 Post
  have kbytes := zrngL bytes
  have k1 := zrng n
  obtain ⟨g, r, hm, hR_m, hSl0, hMd0, hPl0, ⟨ff, hAf0, hff⟩, hBo0, hBl0, hGa0, hGb0, hBd0, hI12, hI24, hI29, hI31, hIn⟩ := hI
  have k2 := zrng (g 12)
  have hz3 : ((g 12).toNatClampNeg : Int) = (g 12).toInt := znat (by first | omega | decide)
  have k4 := zrng (g 24)
  have hz5 : ((g 24).toNatClampNeg : Int) = (g 24).toInt := znat (by first | omega | decide)
  have k6 := zrng (g 29)
  have hz7 : ((g 29).toNatClampNeg : Int) = (g 29).toInt := znat (by first | omega | decide)
  have k8 := zrng (g 31)
  have hz9 : ((g 31).toNatClampNeg : Int) = (g 31).toInt := znat (by first | omega | decide)
  refine zp_seg (pc' := 2) (lv' := [(0, .ref m), (1, .long bytes), (3, .int n)]) (st' := [.int 1, .int n]) [(0, .iload_n 3), (1, .iconst 1)] (by decide +kernel) rfl ?_
  refine zp_if (i := .if_icmp .lt 21) (c := n < 1) (t := 23) (e := 5) (lv' := [(0, .ref m), (1, .long bytes), (3, .int n)]) (st' := []) (by decide +kernel) rfl (fun cc2 => ?_) (fun cc2 => ?_)
  ·
    have f11 := zltI cc2
    rw [show (1 : Int32).toInt = 1 from by decide] at f11
    refine zp_seg (pc' := 24) (lv' := [(0, .ref m), (1, .long bytes), (3, .int n)]) (st' := [.int (Int32.ofInt (-1))]) [(23, .iconst (-1))] (by decide +kernel) rfl ?_
    have hoffend : ∀ x, (x < m + 0 ∨ m + 0 + 8322 ≤ x) → w x = w x := fun x hx => rfl
    refine zr_retI (by decide +kernel) rfl ?_
    rw [← hPost]; exact ⟨rfl, _, rfl, zSI.rf, hoffend, ⟨_, _, hm, hR_m, hSl0, hMd0, hPl0, ⟨_, hAf0, hff⟩, hBo0, hBl0, hGa0, hGb0, hBd0, hI12, hI24, hI29, hI31, hIn⟩, _, rfl, trivial⟩
  ·
    have f14 := znltI cc2
    rw [show (1 : Int32).toInt = 1 from by decide] at f14
    refine zp_seg (pc' := 8) (lv' := [(0, .ref m), (1, .long bytes), (3, .int n)]) (st' := [.int 8, .int n]) [(5, .iload_n 3), (6, .bipush 8)] (by decide +kernel) rfl ?_
    refine zp_if (i := .if_icmp .gt 15) (c := 8 < n) (t := 23) (e := 11) (lv' := [(0, .ref m), (1, .long bytes), (3, .int n)]) (st' := []) (by decide +kernel) rfl (fun cc8 => ?_) (fun cc8 => ?_)
    ·
      have f16 := zltI cc8
      rw [show (8 : Int32).toInt = 8 from by decide] at f16
      refine zp_seg (pc' := 24) (lv' := [(0, .ref m), (1, .long bytes), (3, .int n)]) (st' := [.int (Int32.ofInt (-1))]) [(23, .iconst (-1))] (by decide +kernel) rfl ?_
      have hoffend : ∀ x, (x < m + 0 ∨ m + 0 + 8322 ≤ x) → w x = w x := fun x hx => rfl
      refine zr_retI (by decide +kernel) rfl ?_
      rw [← hPost]; exact ⟨rfl, _, rfl, zSI.rf, hoffend, ⟨_, _, hm, hR_m, hSl0, hMd0, hPl0, ⟨_, hAf0, hff⟩, hBo0, hBl0, hGa0, hGb0, hBd0, hI12, hI24, hI29, hI31, hIn⟩, _, rfl, trivial⟩
    ·
      have f19 := znltI cc8
      rw [show (8 : Int32).toInt = 8 from by decide] at f19
      refine zp_seg (pc' := 12) (lv' := [(0, .ref m), (1, .long bytes), (3, .int n)]) (st' := [.ref m]) [(11, .aload_n 0)] (by decide +kernel) rfl ?_
      refine zr_get (idx := 336) (k := 12) (v := .int (g 12)) (by decide +kernel) (by decide +kernel) hm rfl ?_
      refine zp_seg (pc' := 17) (lv' := [(0, .ref m), (1, .long bytes), (3, .int n)]) (st' := [.int ((g 12) + n)]) [(15, .iload_n 3), (16, .iadd)] (by decide +kernel) rfl ?_
      have k20 := zadd ((g 12)) n (by omega) (by omega)
      generalize ev17 : ((g 12) + n : Int32) = v17 at k20 ⊢
      have kv17 := zrng v17
      refine zp_seg (pc' := 20) (lv' := [(0, .ref m), (1, .long bytes), (3, .int n)]) (st' := [.int 400, .int v17]) [(17, .sipush 400)] (by decide +kernel) rfl ?_
      refine zp_if (i := .if_icmp .le 5) (c := v17 ≤ 400) (t := 25) (e := 23) (lv' := [(0, .ref m), (1, .long bytes), (3, .int n)]) (st' := []) (by decide +kernel) rfl (fun cc20 => ?_) (fun cc20 => ?_)
      ·
        have f22 := zleI cc20
        rw [show (400 : Int32).toInt = 400 from by decide] at f22
        refine zp_seg (pc' := 28) (lv' := [(0, .ref m), (1, .long bytes), (3, .int n)]) (st' := [.int (n - 1)]) [(25, .iload_n 3), (26, .iconst 1), (27, .isub)] (by decide +kernel) rfl ?_
        have k23 := zsubC n 1 (n := 1) (by decide) (by omega) (by omega)
        generalize ev28 : (n - 1 : Int32) = v28 at k23 ⊢
        have kv28 := zrng v28
        refine zp_seg (pc' := 30) (lv' := [(4, .int v28), (0, .ref m), (1, .long bytes), (3, .int n)]) (st' := []) [(28, .istore 4)] (by decide +kernel) rfl ?_
        have hL30 : ∀ (mm30 : Nat) (wL30 : zM) (y4_30 : Int32) (xL : Int32), (zSI w wL30) → (∀ x, ((x < m ∨ m + 1 ≤ x) ∧ (x < m + 80 ∨ m + 80 + 1 ≤ x)) ∧ x ≠ m → wL30 x = w x) → (-1 ≤ y4_30.toInt) → (y4_30.toInt ≤ 7) → (wL30 m = some (.inl (15, zMo m (zs g 12 xL) r))) → (0 ≤ xL.toInt ∧ xL.toInt + y4_30.toInt + 1 ≤ 400) → (y4_30.toInt + 1).toNat < mm30 → zP (d + 1) zq_X16_type 30 [(0, .ref m), (1, .long bytes), (4, .int y4_30)] [] wL30 sz 0 0 Post := by
          intro mm30
          induction mm30 with
          | zero => intros; omega
          | succ mm30 ih30 =>
          intro wL30 y4_30 xL hsiL30 heqL30 hi30_0 hi30_1 hxM hxL hmu30
          have ky4_30 := zrng y4_30
          refine zp_seg (pc' := 32) (lv' := [(0, .ref m), (1, .long bytes), (4, .int y4_30)]) (st' := [.int y4_30]) [(30, .iload 4)] (by decide +kernel) rfl ?_
          refine zp_if (i := .ifCond .lt 34) (c := y4_30 < 0) (t := 66) (e := 35) (lv' := [(0, .ref m), (1, .long bytes), (4, .int y4_30)]) (st' := []) (by decide +kernel) rfl (fun cc32 => ?_) (fun cc32 => ?_)
          ·
            have f25 := zltI cc32
            rw [show (0 : Int32).toInt = 0 from by decide] at f25
            refine zp_seg (pc' := 67) (lv' := [(0, .ref m), (1, .long bytes), (4, .int y4_30)]) (st' := [.ref m]) [(66, .aload_n 0)] (by decide +kernel) rfl ?_
            refine zr_get (idx := 336) (k := 12) (v := .int xL) (by decide +kernel) (by decide +kernel) hxM rfl ?_
            have hoffend : ∀ x, (x < m + 0 ∨ m + 0 + 8322 ≤ x) → wL30 x = w x := fun x hx => (heqL30 x ⟨⟨(zx_X16_type_0 hx), (zx_X16_type_1 hx)⟩, (zx_X16_type_2 hx)⟩)
            have hb26 := hR_m.si hsiL30
            have hb27 : zSlo wL30 (m + 7486) := hSl0.ag (fun x hx1 hx2 => (heqL30 x ⟨⟨(zx_X16_type_3 hx1 hx2), (zx_X16_type_4 hx1 hx2)⟩, (zx_X16_type_5 hx1 hx2)⟩))
            have hb28 : zTm wL30 (m + 83) := hMd0.ag (fun x hx1 hx2 => (heqL30 x ⟨⟨(zx_X16_type_6 hx1 hx2), (zx_X16_type_7 hx1 hx2)⟩, (zx_X16_type_8 hx1 hx2)⟩))
            have hb29 : zPil wL30 (m + 6316) := hPl0.ag (fun x hx1 hx2 => (heqL30 x ⟨⟨(zx_X16_type_9 hx1 hx2), (zx_X16_type_10 hx1 hx2)⟩, (zx_X16_type_11 hx1 hx2)⟩))
            have hb30 : zBya wL30 (m + 92) 4000 := hBo0.ag (fun x hx1 hx2 => (heqL30 x ⟨⟨(zx_X16_type_12 hx1 hx2), (zx_X16_type_13 hx1 hx2)⟩, (zx_X16_type_14 hx1 hx2)⟩))
            have hb31 : zBya wL30 (m + 93) 4000 := hBl0.ag (fun x hx1 hx2 => (heqL30 x ⟨⟨(zx_X16_type_15 hx1 hx2), (zx_X16_type_16 hx1 hx2)⟩, (zx_X16_type_17 hx1 hx2)⟩))
            have hb32 : zGr wL30 (m + 100) 48 48 := hGa0.ag (fun x hx1 hx2 => (heqL30 x ⟨⟨(zx_X16_type_18 hx1 hx2), (zx_X16_type_19 hx1 hx2)⟩, (zx_X16_type_20 hx1 hx2)⟩))
            have hb33 : zGr wL30 (m + 212) 60 46 := hGb0.ag (fun x hx1 hx2 => (heqL30 x ⟨⟨(zx_X16_type_21 hx1 hx2), (zx_X16_type_22 hx1 hx2)⟩, (zx_X16_type_23 hx1 hx2)⟩))
            have hb34 : zBd wL30 (m + 149) := hBd0.ag (fun x hx1 hx2 => (heqL30 x ⟨⟨(zx_X16_type_24 hx1 hx2), (zx_X16_type_25 hx1 hx2)⟩, (zx_X16_type_26 hx1 hx2)⟩))
            have hb35 : wL30 (m + 94) = some (.inr (0, 60, .inl ff)) := (heqL30 (m + 94) ⟨⟨(zx_X16_type_27), (zx_X16_type_28)⟩, (zx_X16_type_29)⟩).trans hAf0
            have k36 := zrng xL
            refine zr_retI (by decide +kernel) rfl ?_
            rw [← hPost]; exact ⟨rfl, _, rfl, hsiL30, hoffend, ⟨_, _, hxM, hb26, hb27, hb28, hb29, ⟨_, hb35, hff⟩, hb30, hb31, hb32, hb33, hb34, (show 0 ≤ (xL).toInt ∧ (xL).toInt ≤ 400 by omega), hI24, hI29, hI31, hIn⟩, _, rfl, trivial⟩
          ·
            have f38 := znltI cc32
            rw [show (0 : Int32).toInt = 0 from by decide] at f38
            refine zp_seg (pc' := 36) (lv' := [(0, .ref m), (1, .long bytes), (4, .int y4_30)]) (st' := [.ref m]) [(35, .aload_n 0)] (by decide +kernel) rfl ?_
            refine zr_get (idx := 339) (k := 11) (v := .ref (m + 80)) (by decide +kernel) (by decide +kernel) hxM rfl ?_
            refine zp_seg (pc' := 41) (lv' := [(0, .ref m), (1, .long bytes), (4, .int y4_30)]) (st' := [.ref m, .ref m, .ref (m + 80)]) [(39, .aload_n 0), (40, .dup)] (by decide +kernel) rfl ?_
            refine zr_get (idx := 336) (k := 12) (v := .int xL) (by decide +kernel) (by decide +kernel) hxM rfl ?_
            refine zp_seg (pc' := 47) (lv' := [(0, .ref m), (1, .long bytes), (4, .int y4_30)]) (st' := [.int (xL + 1), .ref m, .int xL, .ref (m + 80)]) [(44, .dup_x1), (45, .iconst 1), (46, .iadd)] (by decide +kernel) rfl ?_
            have k39 := zrng xL
            have k40 := zaddC xL 1 (n := 1) (by decide) (by omega) (by omega)
            generalize ev47 : (xL + 1 : Int32) = v47 at k40 ⊢
            have kv47 := zrng v47
            have hzL := znat (x := xL) (by omega)
            refine zr_put2 (idx := 336) (k := 12) (fs2 := zMo m (zs g 12 v47) r) (by decide +kernel) (by decide +kernel) hxM (Nat.le_of_ble_eq_true rfl) rfl rfl rfl ?_
            show zP (d + 1) zq_X16_type 50 [(0, .ref m), (1, .long bytes), (4, .int y4_30)] [.int xL, .ref (m + 80)] (zup wL30 m (.inl (15, zMo m (zs g 12 v47) r))) sz 0 0 Post
            obtain ⟨w47, ew47⟩ : ∃ wz9, wz9 = zup wL30 m (.inl (15, zMo m (zs g 12 v47) r)) := ⟨_, rfl⟩
            have hsi47 : zSI wL30 w47 := by rw [ew47]; exact zSI.setG hxM _ _
            have heq47 : ∀ x, x ≠ m → w47 x = wL30 x := fun x hx => by rw [ew47]; exact zup_n hx
            have hc47 : w47 m = some (.inl (15, zMo m (zs g 12 v47) r)) := by rw [ew47]; exact zup_s
            rw [← ew47]
            clear ew47
            refine zp_seg (pc' := 56) (lv' := [(0, .ref m), (1, .long bytes), (4, .int y4_30)]) (st' := [.int (8 * y4_30), .long bytes, .int xL, .ref (m + 80)]) [(50, .lload_n 1), (51, .bipush 8), (53, .iload 4), (55, .imul)] (by decide +kernel) rfl ?_
            have k41 := zmulM 8 y4_30
            generalize ev56 : (8 * y4_30 : Int32) = v56 at k41 ⊢
            have kv56 := zrng v56
            refine zp_seg (pc' := 57) (lv' := [(0, .ref m), (1, .long bytes), (4, .int y4_30)]) (st' := [.long (bytes >>> (v56.toInt64 &&& 63)), .int xL, .ref (m + 80)]) [(56, .lshr)] (by decide +kernel) rfl ?_
            generalize ev57 : (bytes >>> (v56.toInt64 &&& 63) : Int64) = v57
            have kv57 := zrngL v57
            refine zp_seg (pc' := 58) (lv' := [(0, .ref m), (1, .long bytes), (4, .int y4_30)]) (st' := [.int (v57.toInt32), .int xL, .ref (m + 80)]) [(57, .l2i)] (by decide +kernel) rfl ?_
            have k42 := zl2iM v57
            generalize ev58 : (v57.toInt32 : Int32) = v58 at k42 ⊢
            have kv58 := zrng v58
            refine zp_seg (pc' := 59) (lv' := [(0, .ref m), (1, .long bytes), (4, .int y4_30)]) (st' := [.int (v58.toInt8.toInt32), .int xL, .ref (m + 80)]) [(58, .i2b)] (by decide +kernel) rfl ?_
            generalize ev59 : (v58.toInt8.toInt32 : Int32) = v59
            have kv59 := zrng v59
            have hb43 := hR_m.si (hsiL30.tr hsi47)
            obtain ⟨f44, hb45⟩ := hb43.ia_80
            have hz46 : (xL.toNatClampNeg : Int) = xL.toInt := znat (by first | omega | decide)
            refine zr_bast (by decide +kernel) hb45 (zin (by first | omega | decide) (by first | omega | decide)) ?_
            show zP (d + 1) zq_X16_type 60 [(0, .ref m), (1, .long bytes), (4, .int y4_30)] [] (zup w47 (m + 80) (.inr (1, 400, .inl (upd f44 (xL.toNatClampNeg) (vp_nar .byte v59))))) sz 0 0 Post
            obtain ⟨w59, ew59⟩ : ∃ wz9, wz9 = zup w47 (m + 80) (.inr (1, 400, .inl (upd f44 (xL.toNatClampNeg) (vp_nar .byte v59)))) := ⟨_, rfl⟩
            have hsi59 : zSI w47 w59 := by rw [ew59]; exact zSI.arr _ hb45
            have heq59 : ∀ x, x ≠ m + 80 → w59 x = w47 x := fun x hx => by rw [ew59]; exact zup_n hx
            have hc59 : w59 (m + 80) = some (.inr (1, 400, .inl (upd f44 (xL.toNatClampNeg) (vp_nar .byte v59)))) := by rw [ew59]; exact zup_s
            rw [← ew59]
            clear ew59
            refine zp_seg (pc' := 63) (lv' := [(4, .int (y4_30 + (Int32.ofInt (-1)))), (0, .ref m), (1, .long bytes)]) (st' := []) [(60, .iinc 4 (-1))] (by decide +kernel) rfl ?_
            have k47 := zaddC y4_30 ((Int32.ofInt (-1))) (n := (-1)) (by decide) (by omega) (by omega)
            generalize ev63 : (y4_30 + (Int32.ofInt (-1)) : Int32) = v63 at k47 ⊢
            have kv63 := zrng v63
            refine zp_seg (pc' := 30) (lv' := [(4, .int v63), (0, .ref m), (1, .long bytes)]) (st' := []) [(63, .goto (-33))] (by decide +kernel) rfl ?_
            have hb48 : w59 m = some (.inl (15, zMo m (zs g 12 v47) r)) := (heq59 m (zx_X16_type_31)).trans hc47
            exact (ih30 w59 v63 (v47) ((hsiL30.tr hsi47).tr hsi59) (fun x hx => ((heq59 x (zx_X16_type_30 hx.1.2)).trans ((heq47 x hx.2).trans (heqL30 x ⟨⟨hx.1.1, hx.1.2⟩, hx.2⟩)))) (by first | assumption | omega | decide) (by first | assumption | omega | decide) (by
                  exact hb48) (by
                  omega) (by omega)).more (zfa1 rfl (zfa1 rfl (zfa1 rfl (zfa0))))
        exact (hL30 _ w v28 ((g 12)) zSI.rf (fun _ _ => rfl) (by first | assumption | omega | decide) (by first | assumption | omega | decide) (by
              exact hm) (by
              omega) (Nat.lt_succ_self _)).more (zfa1 rfl (zfa1 rfl (zfa1 rfl (zfa0))))
      ·
        have f50 := znleI cc20
        rw [show (400 : Int32).toInt = 400 from by decide] at f50
        refine zp_seg (pc' := 24) (lv' := [(0, .ref m), (1, .long bytes), (3, .int n)]) (st' := [.int (Int32.ofInt (-1))]) [(23, .iconst (-1))] (by decide +kernel) rfl ?_
        have hoffend : ∀ x, (x < m + 0 ∨ m + 0 + 8322 ≤ x) → w x = w x := fun x hx => rfl
        refine zr_retI (by decide +kernel) rfl ?_
        rw [← hPost]; exact ⟨rfl, _, rfl, zSI.rf, hoffend, ⟨_, _, hm, hR_m, hSl0, hMd0, hPl0, ⟨_, hAf0, hff⟩, hBo0, hBl0, hGa0, hGb0, hBd0, hI12, hI24, hI29, hI31, hIn⟩, _, rfl, trivial⟩

theorem zx_X16_again_0 {m : Nat}  : m ≠ m + 80 := by omega
theorem zx_X16_again_1 {m x : Nat} (h0 : x < m + 0 ∨ m + 0 + 8322 ≤ x) : x ≠ m + 80 := by omega
theorem zx_X16_again_2 {m x : Nat} (h0 : x < m + 0 ∨ m + 0 + 8322 ≤ x) : x ≠ m := by omega
theorem zx_X16_again_3 {m x : Nat} (h0 : m + 7486 ≤ x) (h1 : x < m + 7486 + 108) : x ≠ m + 80 := by omega
theorem zx_X16_again_4 {m x : Nat} (h0 : m + 7486 ≤ x) (h1 : x < m + 7486 + 108) : x ≠ m := by omega
theorem zx_X16_again_5 {m x : Nat} (h0 : m + 83 ≤ x) (h1 : x < m + 83 + 9) : x ≠ m + 80 := by omega
theorem zx_X16_again_6 {m x : Nat} (h0 : m + 83 ≤ x) (h1 : x < m + 83 + 9) : x ≠ m := by omega
theorem zx_X16_again_7 {m x : Nat} (h0 : m + 6316 ≤ x) (h1 : x < m + 6316 + 1170) : x ≠ m + 80 := by omega
theorem zx_X16_again_8 {m x : Nat} (h0 : m + 6316 ≤ x) (h1 : x < m + 6316 + 1170) : x ≠ m := by omega
theorem zx_X16_again_9 {m x : Nat} (h0 : m + 92 ≤ x) (h1 : x < m + 92 + 1) : x ≠ m + 80 := by omega
theorem zx_X16_again_10 {m x : Nat} (h0 : m + 92 ≤ x) (h1 : x < m + 92 + 1) : x ≠ m := by omega
theorem zx_X16_again_11 {m x : Nat} (h0 : m + 93 ≤ x) (h1 : x < m + 93 + 1) : x ≠ m + 80 := by omega
theorem zx_X16_again_12 {m x : Nat} (h0 : m + 93 ≤ x) (h1 : x < m + 93 + 1) : x ≠ m := by omega
theorem zx_X16_again_13 {m x : Nat} (h0 : m + 100 ≤ x) (h1 : x < m + 100 + 49) : x ≠ m + 80 := by omega
theorem zx_X16_again_14 {m x : Nat} (h0 : m + 100 ≤ x) (h1 : x < m + 100 + 49) : x ≠ m := by omega
theorem zx_X16_again_15 {m x : Nat} (h0 : m + 212 ≤ x) (h1 : x < m + 212 + 61) : x ≠ m + 80 := by omega
theorem zx_X16_again_16 {m x : Nat} (h0 : m + 212 ≤ x) (h1 : x < m + 212 + 61) : x ≠ m := by omega
theorem zx_X16_again_17 {m x : Nat} (h0 : m + 149 ≤ x) (h1 : x < m + 149 + 27) : x ≠ m + 80 := by omega
theorem zx_X16_again_18 {m x : Nat} (h0 : m + 149 ≤ x) (h1 : x < m + 149 + 27) : x ≠ m := by omega
theorem zx_X16_again_19 {m : Nat}  : (m + 94) ≠ m + 80 := by omega
theorem zx_X16_again_20 {m : Nat}  : (m + 94) ≠ m := by omega
set_option maxHeartbeats 8000000 in
set_option maxRecDepth 100000 in
theorem c_X16_again {w : zM} {n9 : Int32} (m : Nat) (hI : zInv w m n9) : zCon 1 zq_X16_again [.ref m] w (fun v9 w9' => zSI w w9' ∧ (∀ x, (x < m + 0 ∨ m + 0 + 8322 ≤ x) → w9' x = w x) ∧ zInv w9' m n9 ∧ ∃ r9 : Int32, v9 = some (.int r9) ∧ True) := by
  intro d sz hd
  obtain ⟨d, rfl⟩ : ∃ d9, d = d9 + 1 := ⟨d - 1, by omega⟩
  generalize hPost : (fun (r9' : Option (Option Value)) (w9' : zM) (z9 : Nat) => z9 = sz ∧ ∃ v9, r9' = some v9 ∧ (zSI w w9' ∧ (∀ x, (x < m + 0 ∨ m + 0 + 8322 ≤ x) → w9' x = w x) ∧ zInv w9' m n9 ∧ ∃ r9 : Int32, v9 = some (.int r9) ∧ True)) = Post
  show zP (d + 1) zq_X16_again 0 [(0, .ref m)] [] w sz 0 0 Post
  obtain ⟨g, r, hm, hR_m, hSl0, hMd0, hPl0, ⟨ff, hAf0, hff⟩, hBo0, hBl0, hGa0, hGb0, hBd0, hI12, hI24, hI29, hI31, hIn⟩ := hI
  have k1 := zrng (g 12)
  have hz2 : ((g 12).toNatClampNeg : Int) = (g 12).toInt := znat (by first | omega | decide)
  have k3 := zrng (g 24)
  have hz4 : ((g 24).toNatClampNeg : Int) = (g 24).toInt := znat (by first | omega | decide)
  have k5 := zrng (g 29)
  have hz6 : ((g 29).toNatClampNeg : Int) = (g 29).toInt := znat (by first | omega | decide)
  have k7 := zrng (g 31)
  have hz8 : ((g 31).toNatClampNeg : Int) = (g 31).toInt := znat (by first | omega | decide)
  refine zp_seg (pc' := 1) (lv' := [(0, .ref m)]) (st' := [.ref m]) [(0, .aload_n 0)] (by decide +kernel) rfl ?_
  refine zr_get (idx := 597) (k := 24) (v := .int (g 24)) (by decide +kernel) (by decide +kernel) hm rfl ?_
  refine zp_seg (pc' := 7) (lv' := [(0, .ref m)]) (st' := [.int 400, .int (g 24)]) [(4, .sipush 400)] (by decide +kernel) rfl ?_
  refine zp_if (i := .if_icmp .le 6) (c := (g 24) ≤ 400) (t := 13) (e := 10) (lv' := [(0, .ref m)]) (st' := []) (by decide +kernel) rfl (fun cc7 => ?_) (fun cc7 => ?_)
  ·
    have f10 := zleI cc7
    rw [show (400 : Int32).toInt = 400 from by decide] at f10
    refine zp_seg (pc' := 14) (lv' := [(0, .ref m)]) (st' := [.ref m]) [(13, .aload_n 0)] (by decide +kernel) rfl ?_
    refine zr_get (idx := 459) (k := 23) (v := .ref (m + 92)) (by decide +kernel) (by decide +kernel) hm rfl ?_
    refine zp_seg (pc' := 19) (lv' := [(0, .ref m)]) (st' := [.ref m, .int 0, .ref (m + 92)]) [(17, .iconst 0), (18, .aload_n 0)] (by decide +kernel) rfl ?_
    refine zr_get (idx := 339) (k := 11) (v := .ref (m + 80)) (by decide +kernel) (by decide +kernel) hm rfl ?_
    refine zp_seg (pc' := 24) (lv' := [(0, .ref m)]) (st' := [.ref m, .int 0, .ref (m + 80), .int 0, .ref (m + 92)]) [(22, .iconst 0), (23, .aload_n 0)] (by decide +kernel) rfl ?_
    refine zr_get (idx := 597) (k := 24) (v := .int (g 24)) (by decide +kernel) (by decide +kernel) hm rfl ?_
    obtain ⟨f11, hb12, hby13⟩ := id hBo0
    obtain ⟨f14, hb15⟩ := hR_m.ia_80
    have hl16 : (0 : Int32).toInt = 0 := by decide
    refine zr_acpyB (idx := 34) (by decide +kernel) (by decide +kernel) hb12 hb15 hby13 (by first | omega | decide) (by first | omega | decide) (by first | omega | decide) (by first | omega | decide) (by first | omega | decide) (by omega) (Nat.le_of_ble_eq_true rfl) ?_
    show zP (d + 1) zq_X16_again 30 [(0, .ref m)] [] (zup w (m + 80) (.inr (1, 400, .inl (va_cpy f11 f14 ((0 : Int32).toNatClampNeg) ((0 : Int32).toNatClampNeg) ((g 24).toNatClampNeg))))) sz 0 0 Post
    obtain ⟨w27, ew27⟩ : ∃ wz9, wz9 = zup w (m + 80) (.inr (1, 400, .inl (va_cpy f11 f14 ((0 : Int32).toNatClampNeg) ((0 : Int32).toNatClampNeg) ((g 24).toNatClampNeg)))) := ⟨_, rfl⟩
    have hsi27 : zSI w w27 := by rw [ew27]; exact zSI.arr _ hb15
    have heq27 : ∀ x, x ≠ m + 80 → w27 x = w x := fun x hx => by rw [ew27]; exact zup_n hx
    have hc27 : w27 (m + 80) = some (.inr (1, 400, .inl (va_cpy f11 f14 ((0 : Int32).toNatClampNeg) ((0 : Int32).toNatClampNeg) ((g 24).toNatClampNeg)))) := by rw [ew27]; exact zup_s
    rw [← ew27]
    clear ew27
    refine zp_seg (pc' := 32) (lv' := [(0, .ref m)]) (st' := [.ref m, .ref m]) [(30, .aload_n 0), (31, .aload_n 0)] (by decide +kernel) rfl ?_
    have hb17 : w27 m = some (.inl (15, zMo m g r)) := (heq27 m (zx_X16_again_0)).trans hm
    refine zr_get (idx := 597) (k := 24) (v := .int (g 24)) (by decide +kernel) (by decide +kernel) hb17 rfl ?_
    refine zr_put2 (idx := 336) (k := 12) (fs2 := zMo m (zs g 12 (g 24)) r) (by decide +kernel) (by decide +kernel) hb17 (Nat.le_of_ble_eq_true rfl) rfl rfl rfl ?_
    show zP (d + 1) zq_X16_again 38 [(0, .ref m)] [] (zup w27 m (.inl (15, zMo m (zs g 12 (g 24)) r))) sz 0 0 Post
    obtain ⟨w35, ew35⟩ : ∃ wz9, wz9 = zup w27 m (.inl (15, zMo m (zs g 12 (g 24)) r)) := ⟨_, rfl⟩
    have hsi35 : zSI w27 w35 := by rw [ew35]; exact zSI.setG hb17 _ _
    have heq35 : ∀ x, x ≠ m → w35 x = w27 x := fun x hx => by rw [ew35]; exact zup_n hx
    have hc35 : w35 m = some (.inl (15, zMo m (zs g 12 (g 24)) r)) := by rw [ew35]; exact zup_s
    rw [← ew35]
    clear ew35
    refine zp_seg (pc' := 39) (lv' := [(0, .ref m)]) (st' := [.ref m]) [(38, .aload_n 0)] (by decide +kernel) rfl ?_
    refine zr_get (idx := 336) (k := 12) (v := .int ((g 24))) (by decide +kernel) (by decide +kernel) hc35 rfl ?_
    have hoffend : ∀ x, (x < m + 0 ∨ m + 0 + 8322 ≤ x) → w35 x = w x := fun x hx => ((heq35 x (zx_X16_again_2 hx)).trans (heq27 x (zx_X16_again_1 hx)))
    have hb18 := hR_m.si (hsi27.tr hsi35)
    have hb19 : zSlo w35 (m + 7486) := hSl0.ag (fun x hx1 hx2 => ((heq35 x (zx_X16_again_4 hx1 hx2)).trans (heq27 x (zx_X16_again_3 hx1 hx2))))
    have hb20 : zTm w35 (m + 83) := hMd0.ag (fun x hx1 hx2 => ((heq35 x (zx_X16_again_6 hx1 hx2)).trans (heq27 x (zx_X16_again_5 hx1 hx2))))
    have hb21 : zPil w35 (m + 6316) := hPl0.ag (fun x hx1 hx2 => ((heq35 x (zx_X16_again_8 hx1 hx2)).trans (heq27 x (zx_X16_again_7 hx1 hx2))))
    have hb22 : zBya w35 (m + 92) 4000 := hBo0.ag (fun x hx1 hx2 => ((heq35 x (zx_X16_again_10 hx1 hx2)).trans (heq27 x (zx_X16_again_9 hx1 hx2))))
    have hb23 : zBya w35 (m + 93) 4000 := hBl0.ag (fun x hx1 hx2 => ((heq35 x (zx_X16_again_12 hx1 hx2)).trans (heq27 x (zx_X16_again_11 hx1 hx2))))
    have hb24 : zGr w35 (m + 100) 48 48 := hGa0.ag (fun x hx1 hx2 => ((heq35 x (zx_X16_again_14 hx1 hx2)).trans (heq27 x (zx_X16_again_13 hx1 hx2))))
    have hb25 : zGr w35 (m + 212) 60 46 := hGb0.ag (fun x hx1 hx2 => ((heq35 x (zx_X16_again_16 hx1 hx2)).trans (heq27 x (zx_X16_again_15 hx1 hx2))))
    have hb26 : zBd w35 (m + 149) := hBd0.ag (fun x hx1 hx2 => ((heq35 x (zx_X16_again_18 hx1 hx2)).trans (heq27 x (zx_X16_again_17 hx1 hx2))))
    have hb27 : w35 (m + 94) = some (.inr (0, 60, .inl ff)) := ((heq35 (m + 94) (zx_X16_again_20)).trans (heq27 (m + 94) (zx_X16_again_19))).trans hAf0
    refine zr_retI (by decide +kernel) rfl ?_
    rw [← hPost]; exact ⟨rfl, _, rfl, (hsi27.tr hsi35), hoffend, ⟨_, _, hc35, hb18, hb19, hb20, hb21, ⟨_, hb27, hff⟩, hb22, hb23, hb24, hb25, hb26, (show 0 ≤ (g 24).toInt ∧ (g 24).toInt ≤ 400 by omega), hI24, hI29, hI31, hIn⟩, _, rfl, trivial⟩
  ·
    have f29 := znleI cc7
    rw [show (400 : Int32).toInt = 400 from by decide] at f29
    refine zp_seg (pc' := 12) (lv' := [(0, .ref m)]) (st' := [.int (Int32.ofInt (-2))]) [(10, .bipush (-2))] (by decide +kernel) rfl ?_
    have hoffend : ∀ x, (x < m + 0 ∨ m + 0 + 8322 ≤ x) → w x = w x := fun x hx => rfl
    refine zr_retI (by decide +kernel) rfl ?_
    rw [← hPost]; exact ⟨rfl, _, rfl, zSI.rf, hoffend, ⟨_, _, hm, hR_m, hSl0, hMd0, hPl0, ⟨_, hAf0, hff⟩, hBo0, hBl0, hGa0, hGb0, hBd0, hI12, hI24, hI29, hI31, hIn⟩, _, rfl, trivial⟩

set_option maxHeartbeats 8000000 in
set_option maxRecDepth 100000 in
theorem c_X16_count {w : zM} {n9 : Int32} (m : Nat) (what : Int32) (hI : zInv w m n9) : zCon 1 zq_X16_count [.ref m, .int what] w (fun v9 w9' => zSI w w9' ∧ (∀ x, (x < m + 0 ∨ m + 0 + 8322 ≤ x) → w9' x = w x) ∧ zInv w9' m n9 ∧ ∃ r9 : Int32, v9 = some (.int r9) ∧ True) := by
  intro d sz hd
  obtain ⟨d, rfl⟩ : ∃ d9, d = d9 + 1 := ⟨d - 1, by omega⟩
  generalize hPost : (fun (r9' : Option (Option Value)) (w9' : zM) (z9 : Nat) => z9 = sz ∧ ∃ v9, r9' = some v9 ∧ (zSI w w9' ∧ (∀ x, (x < m + 0 ∨ m + 0 + 8322 ≤ x) → w9' x = w x) ∧ zInv w9' m n9 ∧ ∃ r9 : Int32, v9 = some (.int r9) ∧ True)) = Post
  show zP (d + 1) zq_X16_count 0 [(0, .ref m), (1, .int what)] [] w sz 0 0 Post
  have k1 := zrng what
  obtain ⟨g, r, hm, hR_m, hSl0, hMd0, hPl0, ⟨ff, hAf0, hff⟩, hBo0, hBl0, hGa0, hGb0, hBd0, hI12, hI24, hI29, hI31, hIn⟩ := hI
  have k2 := zrng (g 12)
  have hz3 : ((g 12).toNatClampNeg : Int) = (g 12).toInt := znat (by first | omega | decide)
  have k4 := zrng (g 24)
  have hz5 : ((g 24).toNatClampNeg : Int) = (g 24).toInt := znat (by first | omega | decide)
  have k6 := zrng (g 29)
  have hz7 : ((g 29).toNatClampNeg : Int) = (g 29).toInt := znat (by first | omega | decide)
  have k8 := zrng (g 31)
  have hz9 : ((g 31).toNatClampNeg : Int) = (g 31).toInt := znat (by first | omega | decide)
  refine zp_seg (pc' := 7) (lv' := [(4, .int 0), (3, .int 0), (2, .int 0), (0, .ref m), (1, .int what)]) (st' := []) [(0, .iconst 0), (1, .istore_n 2), (2, .iconst 0), (3, .istore_n 3), (4, .iconst 0), (5, .istore 4)] (by decide +kernel) rfl ?_
  have hL7 : ∀ (mm7 : Nat) (y2_7 : Int32) (y3_7 : Int32) (y4_7 : Int32), (0 ≤ y4_7.toInt) → (y4_7.toInt ≤ 12) → (20 - y4_7.toInt).toNat < mm7 → zP (d + 1) zq_X16_count 7 [(0, .ref m), (1, .int what), (2, .int y2_7), (3, .int y3_7), (4, .int y4_7)] [] w sz 0 0 Post := by
    intro mm7
    induction mm7 with
    | zero => intros; omega
    | succ mm7 ih7 =>
    intro y2_7 y3_7 y4_7 hi7_0 hi7_1 hmu7
    have ky2_7 := zrng y2_7
    have ky3_7 := zrng y3_7
    have ky4_7 := zrng y4_7
    have hz10 : (y4_7.toNatClampNeg : Int) = y4_7.toInt := znat (by first | omega | decide)
    refine zp_seg (pc' := 11) (lv' := [(0, .ref m), (1, .int what), (2, .int y2_7), (3, .int y3_7), (4, .int y4_7)]) (st' := [.int 12, .int y4_7]) [(7, .iload 4), (9, .bipush 12)] (by decide +kernel) rfl ?_
    refine zp_if (i := .if_icmp .ge 52) (c := 12 ≤ y4_7) (t := 63) (e := 14) (lv' := [(0, .ref m), (1, .int what), (2, .int y2_7), (3, .int y3_7), (4, .int y4_7)]) (st' := []) (by decide +kernel) rfl (fun cc11 => ?_) (fun cc11 => ?_)
    ·
      have f12 := zleI cc11
      rw [show (12 : Int32).toInt = 12 from by decide] at f12
      refine zp_seg (pc' := 64) (lv' := [(0, .ref m), (1, .int what), (2, .int y2_7), (3, .int y3_7), (4, .int y4_7)]) (st' := [.int what]) [(63, .iload_n 1)] (by decide +kernel) rfl ?_
      by_cases hsw64_0 : what.toInt = 0
      ·
        refine zr_tsw (dflt := 64) (lo := 0) (hi := 5) (offs := #[40, 45, 50, 55, 60, 62]) (t := 104) (by decide +kernel) (by unfold zsw; rw [hsw64_0]; decide) ?_
        refine zp_seg (pc' := 105) (lv' := [(0, .ref m), (1, .int what), (2, .int y2_7), (3, .int y3_7), (4, .int y4_7)]) (st' := [.ref m]) [(104, .aload_n 0)] (by decide +kernel) rfl ?_
        refine zr_get (idx := 336) (k := 12) (v := .int (g 12)) (by decide +kernel) (by decide +kernel) hm rfl ?_
        have hoffend : ∀ x, (x < m + 0 ∨ m + 0 + 8322 ≤ x) → w x = w x := fun x hx => rfl
        refine zr_retI (by decide +kernel) rfl ?_
        rw [← hPost]; exact ⟨rfl, _, rfl, zSI.rf, hoffend, ⟨_, _, hm, hR_m, hSl0, hMd0, hPl0, ⟨_, hAf0, hff⟩, hBo0, hBl0, hGa0, hGb0, hBd0, hI12, hI24, hI29, hI31, hIn⟩, _, rfl, trivial⟩
      ·
        by_cases hsw64_1 : what.toInt = 1
        ·
          refine zr_tsw (dflt := 64) (lo := 0) (hi := 5) (offs := #[40, 45, 50, 55, 60, 62]) (t := 109) (by decide +kernel) (by unfold zsw; rw [hsw64_1]; decide) ?_
          refine zp_seg (pc' := 110) (lv' := [(0, .ref m), (1, .int what), (2, .int y2_7), (3, .int y3_7), (4, .int y4_7)]) (st' := [.ref m]) [(109, .aload_n 0)] (by decide +kernel) rfl ?_
          refine zr_get (idx := 597) (k := 24) (v := .int (g 24)) (by decide +kernel) (by decide +kernel) hm rfl ?_
          have hoffend : ∀ x, (x < m + 0 ∨ m + 0 + 8322 ≤ x) → w x = w x := fun x hx => rfl
          refine zr_retI (by decide +kernel) rfl ?_
          rw [← hPost]; exact ⟨rfl, _, rfl, zSI.rf, hoffend, ⟨_, _, hm, hR_m, hSl0, hMd0, hPl0, ⟨_, hAf0, hff⟩, hBo0, hBl0, hGa0, hGb0, hBd0, hI12, hI24, hI29, hI31, hIn⟩, _, rfl, trivial⟩
        ·
          by_cases hsw64_2 : what.toInt = 2
          ·
            refine zr_tsw (dflt := 64) (lo := 0) (hi := 5) (offs := #[40, 45, 50, 55, 60, 62]) (t := 114) (by decide +kernel) (by unfold zsw; rw [hsw64_2]; decide) ?_
            refine zp_seg (pc' := 115) (lv' := [(0, .ref m), (1, .int what), (2, .int y2_7), (3, .int y3_7), (4, .int y4_7)]) (st' := [.ref m]) [(114, .aload_n 0)] (by decide +kernel) rfl ?_
            refine zr_get (idx := 607) (k := 29) (v := .int (g 29)) (by decide +kernel) (by decide +kernel) hm rfl ?_
            have hoffend : ∀ x, (x < m + 0 ∨ m + 0 + 8322 ≤ x) → w x = w x := fun x hx => rfl
            refine zr_retI (by decide +kernel) rfl ?_
            rw [← hPost]; exact ⟨rfl, _, rfl, zSI.rf, hoffend, ⟨_, _, hm, hR_m, hSl0, hMd0, hPl0, ⟨_, hAf0, hff⟩, hBo0, hBl0, hGa0, hGb0, hBd0, hI12, hI24, hI29, hI31, hIn⟩, _, rfl, trivial⟩
          ·
            by_cases hsw64_3 : what.toInt = 3
            ·
              refine zr_tsw (dflt := 64) (lo := 0) (hi := 5) (offs := #[40, 45, 50, 55, 60, 62]) (t := 119) (by decide +kernel) (by unfold zsw; rw [hsw64_3]; decide) ?_
              refine zp_seg (pc' := 120) (lv' := [(0, .ref m), (1, .int what), (2, .int y2_7), (3, .int y3_7), (4, .int y4_7)]) (st' := [.ref m]) [(119, .aload_n 0)] (by decide +kernel) rfl ?_
              refine zr_get (idx := 610) (k := 31) (v := .int (g 31)) (by decide +kernel) (by decide +kernel) hm rfl ?_
              have hoffend : ∀ x, (x < m + 0 ∨ m + 0 + 8322 ≤ x) → w x = w x := fun x hx => rfl
              refine zr_retI (by decide +kernel) rfl ?_
              rw [← hPost]; exact ⟨rfl, _, rfl, zSI.rf, hoffend, ⟨_, _, hm, hR_m, hSl0, hMd0, hPl0, ⟨_, hAf0, hff⟩, hBo0, hBl0, hGa0, hGb0, hBd0, hI12, hI24, hI29, hI31, hIn⟩, _, rfl, trivial⟩
            ·
              by_cases hsw64_4 : what.toInt = 4
              ·
                refine zr_tsw (dflt := 64) (lo := 0) (hi := 5) (offs := #[40, 45, 50, 55, 60, 62]) (t := 124) (by decide +kernel) (by unfold zsw; rw [hsw64_4]; decide) ?_
                refine zp_seg (pc' := 125) (lv' := [(0, .ref m), (1, .int what), (2, .int y2_7), (3, .int y3_7), (4, .int y4_7)]) (st' := [.int y2_7]) [(124, .iload_n 2)] (by decide +kernel) rfl ?_
                have hoffend : ∀ x, (x < m + 0 ∨ m + 0 + 8322 ≤ x) → w x = w x := fun x hx => rfl
                refine zr_retI (by decide +kernel) rfl ?_
                rw [← hPost]; exact ⟨rfl, _, rfl, zSI.rf, hoffend, ⟨_, _, hm, hR_m, hSl0, hMd0, hPl0, ⟨_, hAf0, hff⟩, hBo0, hBl0, hGa0, hGb0, hBd0, hI12, hI24, hI29, hI31, hIn⟩, _, rfl, trivial⟩
              ·
                by_cases hsw64_5 : what.toInt = 5
                ·
                  refine zr_tsw (dflt := 64) (lo := 0) (hi := 5) (offs := #[40, 45, 50, 55, 60, 62]) (t := 126) (by decide +kernel) (by unfold zsw; rw [hsw64_5]; decide) ?_
                  refine zp_seg (pc' := 127) (lv' := [(0, .ref m), (1, .int what), (2, .int y2_7), (3, .int y3_7), (4, .int y4_7)]) (st' := [.int y3_7]) [(126, .iload_n 3)] (by decide +kernel) rfl ?_
                  have hoffend : ∀ x, (x < m + 0 ∨ m + 0 + 8322 ≤ x) → w x = w x := fun x hx => rfl
                  refine zr_retI (by decide +kernel) rfl ?_
                  rw [← hPost]; exact ⟨rfl, _, rfl, zSI.rf, hoffend, ⟨_, _, hm, hR_m, hSl0, hMd0, hPl0, ⟨_, hAf0, hff⟩, hBo0, hBl0, hGa0, hGb0, hBd0, hI12, hI24, hI29, hI31, hIn⟩, _, rfl, trivial⟩
                ·
                  refine zr_tsw (dflt := 64) (lo := 0) (hi := 5) (offs := #[40, 45, 50, 55, 60, 62]) (t := 128) (by decide +kernel) (by unfold zsw; rw [if_pos (by omega)]; decide) ?_
                  refine zp_seg (pc' := 129) (lv' := [(0, .ref m), (1, .int what), (2, .int y2_7), (3, .int y3_7), (4, .int y4_7)]) (st' := [.int (Int32.ofInt (-1))]) [(128, .iconst (-1))] (by decide +kernel) rfl ?_
                  have hoffend : ∀ x, (x < m + 0 ∨ m + 0 + 8322 ≤ x) → w x = w x := fun x hx => rfl
                  refine zr_retI (by decide +kernel) rfl ?_
                  rw [← hPost]; exact ⟨rfl, _, rfl, zSI.rf, hoffend, ⟨_, _, hm, hR_m, hSl0, hMd0, hPl0, ⟨_, hAf0, hff⟩, hBo0, hBl0, hGa0, hGb0, hBd0, hI12, hI24, hI29, hI31, hIn⟩, _, rfl, trivial⟩
    ·
      have f15 := znleI cc11
      rw [show (12 : Int32).toInt = 12 from by decide] at f15
      refine zp_seg (pc' := 16) (lv' := [(0, .ref m), (1, .int what), (2, .int y2_7), (3, .int y3_7), (4, .int y4_7)]) (st' := [.ref m, .int y2_7]) [(14, .iload_n 2), (15, .aload_n 0)] (by decide +kernel) rfl ?_
      refine zr_get (idx := 450) (k := 20) (v := .ref (m + 82)) (by decide +kernel) (by decide +kernel) hm rfl ?_
      refine zp_seg (pc' := 21) (lv' := [(0, .ref m), (1, .int what), (2, .int y2_7), (3, .int y3_7), (4, .int y4_7)]) (st' := [.int y4_7, .ref (m + 82), .int y2_7]) [(19, .iload 4)] (by decide +kernel) rfl ?_
      have hb17 := hR_m.slots
      refine zr_aald (v := .ref (m + 7486 + 9 * y4_7.toNatClampNeg)) (by decide +kernel) hb17 (by decide) (zin (by first | omega | decide) (by first | omega | decide)) (zsl_at (by omega)) ?_
      obtain ⟨kS1, hkS1⟩ := hSl0 y4_7.toNatClampNeg (by omega)
      obtain ⟨g1, fn1, fd1, fa1, fb1, fc1, fe1, fr1, fu1, hT1, hAn1, hAd1, hAa1, hAb1, hAc1, hAe1, hAr1, hAu1, hK1⟩ := id hkS1
      obtain ⟨hK10, hKn1, hKd1, hKx1, hKm1, hKl1, hKr1, hKu1, hKk1⟩ := id hK1
      refine zr_get (idx := 202) (k := 0) (v := .int (g1 0)) (by decide +kernel) (by decide +kernel) hT1 rfl ?_
      refine zp_if (i := .ifCond .eq 7) (c := (g1 0) = 0) (t := 32) (e := 28) (lv' := [(0, .ref m), (1, .int what), (2, .int y2_7), (3, .int y3_7), (4, .int y4_7)]) (st' := [.int y2_7]) (by decide +kernel) rfl (fun cc25 => ?_) (fun cc25 => ?_)
      ·
        have k18 := zrng (g1 0)
        have f20 := zeqI cc25
        rw [show (0 : Int32).toInt = 0 from by decide] at f20
        refine zp_seg (pc' := 34) (lv' := [(0, .ref m), (1, .int what), (2, .int y2_7), (3, .int y3_7), (4, .int y4_7)]) (st' := [.int (y2_7 + 0)]) [(32, .iconst 0), (33, .iadd)] (by decide +kernel) rfl ?_
        have k21 := zaddM y2_7 0
        generalize ev34 : (y2_7 + 0 : Int32) = v34 at k21 ⊢
        have kv34 := zrng v34
        refine zp_seg (pc' := 37) (lv' := [(2, .int v34), (0, .ref m), (1, .int what), (3, .int y3_7), (4, .int y4_7)]) (st' := [.ref m, .int y3_7]) [(34, .istore_n 2), (35, .iload_n 3), (36, .aload_n 0)] (by decide +kernel) rfl ?_
        refine zr_get (idx := 450) (k := 20) (v := .ref (m + 82)) (by decide +kernel) (by decide +kernel) hm rfl ?_
        refine zp_seg (pc' := 42) (lv' := [(2, .int v34), (0, .ref m), (1, .int what), (3, .int y3_7), (4, .int y4_7)]) (st' := [.int y4_7, .ref (m + 82), .int y3_7]) [(40, .iload 4)] (by decide +kernel) rfl ?_
        refine zr_aald (v := .ref (m + 7486 + 9 * y4_7.toNatClampNeg)) (by decide +kernel) hb17 (by decide) (zin (by first | omega | decide) (by first | omega | decide)) (zsl_at (by omega)) ?_
        refine zr_get (idx := 202) (k := 0) (v := .int (g1 0)) (by decide +kernel) (by decide +kernel) hT1 rfl ?_
        refine zp_seg (pc' := 47) (lv' := [(2, .int v34), (0, .ref m), (1, .int what), (3, .int y3_7), (4, .int y4_7)]) (st' := [.int 3, .int (g1 0), .int y3_7]) [(46, .iconst 3)] (by decide +kernel) rfl ?_
        refine zp_if (i := .if_icmp .ne 7) (c := ¬ (g1 0) = 3) (t := 54) (e := 50) (lv' := [(2, .int v34), (0, .ref m), (1, .int what), (3, .int y3_7), (4, .int y4_7)]) (st' := [.int y3_7]) (by decide +kernel) rfl (fun cc47 => ?_) (fun cc47 => ?_)
        ·
          have f23 := zneI cc47
          rw [show (3 : Int32).toInt = 3 from by decide] at f23
          refine zp_seg (pc' := 56) (lv' := [(2, .int v34), (0, .ref m), (1, .int what), (3, .int y3_7), (4, .int y4_7)]) (st' := [.int (y3_7 + 0)]) [(54, .iconst 0), (55, .iadd)] (by decide +kernel) rfl ?_
          have k24 := zaddM y3_7 0
          generalize ev56 : (y3_7 + 0 : Int32) = v56 at k24 ⊢
          have kv56 := zrng v56
          refine zp_seg (pc' := 60) (lv' := [(4, .int (y4_7 + 1)), (3, .int v56), (2, .int v34), (0, .ref m), (1, .int what)]) (st' := []) [(56, .istore_n 3), (57, .iinc 4 1)] (by decide +kernel) rfl ?_
          have k25 := zaddC y4_7 1 (n := 1) (by decide) (by omega) (by omega)
          generalize ev60 : (y4_7 + 1 : Int32) = v60 at k25 ⊢
          have kv60 := zrng v60
          refine zp_seg (pc' := 7) (lv' := [(4, .int v60), (3, .int v56), (2, .int v34), (0, .ref m), (1, .int what)]) (st' := []) [(60, .goto (-53))] (by decide +kernel) rfl ?_
          have hz26 : (v60.toNatClampNeg : Int) = v60.toInt := znat (by first | omega | decide)
          exact (ih7 v34 v56 v60 (by first | assumption | omega | decide) (by first | assumption | omega | decide) (by omega)).more (zfa1 rfl (zfa1 rfl (zfa1 rfl (zfa1 rfl (zfa1 rfl (zfa0))))))
        ·
          replace cc47 := Classical.not_not.mp cc47
          have f28 := zeqI cc47
          rw [show (3 : Int32).toInt = 3 from by decide] at f28
          refine zp_seg (pc' := 56) (lv' := [(2, .int v34), (0, .ref m), (1, .int what), (3, .int y3_7), (4, .int y4_7)]) (st' := [.int (y3_7 + 1)]) [(50, .iconst 1), (51, .goto 4), (55, .iadd)] (by decide +kernel) rfl ?_
          have k29 := zaddM y3_7 1
          generalize ev56 : (y3_7 + 1 : Int32) = v56 at k29 ⊢
          have kv56 := zrng v56
          refine zp_seg (pc' := 60) (lv' := [(4, .int (y4_7 + 1)), (3, .int v56), (2, .int v34), (0, .ref m), (1, .int what)]) (st' := []) [(56, .istore_n 3), (57, .iinc 4 1)] (by decide +kernel) rfl ?_
          have k30 := zaddC y4_7 1 (n := 1) (by decide) (by omega) (by omega)
          generalize ev60 : (y4_7 + 1 : Int32) = v60 at k30 ⊢
          have kv60 := zrng v60
          refine zp_seg (pc' := 7) (lv' := [(4, .int v60), (3, .int v56), (2, .int v34), (0, .ref m), (1, .int what)]) (st' := []) [(60, .goto (-53))] (by decide +kernel) rfl ?_
          have hz31 : (v60.toNatClampNeg : Int) = v60.toInt := znat (by first | omega | decide)
          exact (ih7 v34 v56 v60 (by first | assumption | omega | decide) (by first | assumption | omega | decide) (by omega)).more (zfa1 rfl (zfa1 rfl (zfa1 rfl (zfa1 rfl (zfa1 rfl (zfa0))))))
      ·
        have k32 := zrng (g1 0)
        have f34 := zneI cc25
        rw [show (0 : Int32).toInt = 0 from by decide] at f34
        refine zp_seg (pc' := 34) (lv' := [(0, .ref m), (1, .int what), (2, .int y2_7), (3, .int y3_7), (4, .int y4_7)]) (st' := [.int (y2_7 + 1)]) [(28, .iconst 1), (29, .goto 4), (33, .iadd)] (by decide +kernel) rfl ?_
        have k35 := zaddM y2_7 1
        generalize ev34 : (y2_7 + 1 : Int32) = v34 at k35 ⊢
        have kv34 := zrng v34
        refine zp_seg (pc' := 37) (lv' := [(2, .int v34), (0, .ref m), (1, .int what), (3, .int y3_7), (4, .int y4_7)]) (st' := [.ref m, .int y3_7]) [(34, .istore_n 2), (35, .iload_n 3), (36, .aload_n 0)] (by decide +kernel) rfl ?_
        refine zr_get (idx := 450) (k := 20) (v := .ref (m + 82)) (by decide +kernel) (by decide +kernel) hm rfl ?_
        refine zp_seg (pc' := 42) (lv' := [(2, .int v34), (0, .ref m), (1, .int what), (3, .int y3_7), (4, .int y4_7)]) (st' := [.int y4_7, .ref (m + 82), .int y3_7]) [(40, .iload 4)] (by decide +kernel) rfl ?_
        refine zr_aald (v := .ref (m + 7486 + 9 * y4_7.toNatClampNeg)) (by decide +kernel) hb17 (by decide) (zin (by first | omega | decide) (by first | omega | decide)) (zsl_at (by omega)) ?_
        refine zr_get (idx := 202) (k := 0) (v := .int (g1 0)) (by decide +kernel) (by decide +kernel) hT1 rfl ?_
        refine zp_seg (pc' := 47) (lv' := [(2, .int v34), (0, .ref m), (1, .int what), (3, .int y3_7), (4, .int y4_7)]) (st' := [.int 3, .int (g1 0), .int y3_7]) [(46, .iconst 3)] (by decide +kernel) rfl ?_
        refine zp_if (i := .if_icmp .ne 7) (c := ¬ (g1 0) = 3) (t := 54) (e := 50) (lv' := [(2, .int v34), (0, .ref m), (1, .int what), (3, .int y3_7), (4, .int y4_7)]) (st' := [.int y3_7]) (by decide +kernel) rfl (fun cc47 => ?_) (fun cc47 => ?_)
        ·
          have f37 := zneI cc47
          rw [show (3 : Int32).toInt = 3 from by decide] at f37
          refine zp_seg (pc' := 56) (lv' := [(2, .int v34), (0, .ref m), (1, .int what), (3, .int y3_7), (4, .int y4_7)]) (st' := [.int (y3_7 + 0)]) [(54, .iconst 0), (55, .iadd)] (by decide +kernel) rfl ?_
          have k38 := zaddM y3_7 0
          generalize ev56 : (y3_7 + 0 : Int32) = v56 at k38 ⊢
          have kv56 := zrng v56
          refine zp_seg (pc' := 60) (lv' := [(4, .int (y4_7 + 1)), (3, .int v56), (2, .int v34), (0, .ref m), (1, .int what)]) (st' := []) [(56, .istore_n 3), (57, .iinc 4 1)] (by decide +kernel) rfl ?_
          have k39 := zaddC y4_7 1 (n := 1) (by decide) (by omega) (by omega)
          generalize ev60 : (y4_7 + 1 : Int32) = v60 at k39 ⊢
          have kv60 := zrng v60
          refine zp_seg (pc' := 7) (lv' := [(4, .int v60), (3, .int v56), (2, .int v34), (0, .ref m), (1, .int what)]) (st' := []) [(60, .goto (-53))] (by decide +kernel) rfl ?_
          have hz40 : (v60.toNatClampNeg : Int) = v60.toInt := znat (by first | omega | decide)
          exact (ih7 v34 v56 v60 (by first | assumption | omega | decide) (by first | assumption | omega | decide) (by omega)).more (zfa1 rfl (zfa1 rfl (zfa1 rfl (zfa1 rfl (zfa1 rfl (zfa0))))))
        ·
          replace cc47 := Classical.not_not.mp cc47
          have f42 := zeqI cc47
          rw [show (3 : Int32).toInt = 3 from by decide] at f42
          refine zp_seg (pc' := 56) (lv' := [(2, .int v34), (0, .ref m), (1, .int what), (3, .int y3_7), (4, .int y4_7)]) (st' := [.int (y3_7 + 1)]) [(50, .iconst 1), (51, .goto 4), (55, .iadd)] (by decide +kernel) rfl ?_
          have k43 := zaddM y3_7 1
          generalize ev56 : (y3_7 + 1 : Int32) = v56 at k43 ⊢
          have kv56 := zrng v56
          refine zp_seg (pc' := 60) (lv' := [(4, .int (y4_7 + 1)), (3, .int v56), (2, .int v34), (0, .ref m), (1, .int what)]) (st' := []) [(56, .istore_n 3), (57, .iinc 4 1)] (by decide +kernel) rfl ?_
          have k44 := zaddC y4_7 1 (n := 1) (by decide) (by omega) (by omega)
          generalize ev60 : (y4_7 + 1 : Int32) = v60 at k44 ⊢
          have kv60 := zrng v60
          refine zp_seg (pc' := 7) (lv' := [(4, .int v60), (3, .int v56), (2, .int v34), (0, .ref m), (1, .int what)]) (st' := []) [(60, .goto (-53))] (by decide +kernel) rfl ?_
          have hz45 : (v60.toNatClampNeg : Int) = v60.toInt := znat (by first | omega | decide)
          exact (ih7 v34 v56 v60 (by first | assumption | omega | decide) (by first | assumption | omega | decide) (by omega)).more (zfa1 rfl (zfa1 rfl (zfa1 rfl (zfa1 rfl (zfa1 rfl (zfa0))))))
  have hl46 : (0 : Int32).toInt = 0 := by decide
  have hz47 : ((0 : Int32).toNatClampNeg : Int) = 0 := by decide
  exact (hL7 _ 0 0 0 (by first | assumption | omega | decide) (by first | assumption | omega | decide) (Nat.lt_succ_self _)).more (zfa1 rfl (zfa1 rfl (zfa1 rfl (zfa1 rfl (zfa1 rfl (zfa0))))))
