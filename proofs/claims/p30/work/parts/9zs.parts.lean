theorem zx_X16_part__0 {m x : Nat} (h0 : m + 83 ≤ x) (h1 : x < m + 83 + 9) : x < m ∨ m + 1 ≤ x := by omega
theorem zx_X16_part__1 {m : Nat}  : m < m + 83 ∨ m + 83 + 9 ≤ m := by omega
theorem zx_X16_part__2 {GZ9_102_0 m : Nat} (h0 : GZ9_102_0 = 0) : m < m + 596 + 130 * GZ9_102_0 ∨ m + 596 + 130 * GZ9_102_0 + (5720 - 130 * GZ9_102_0) ≤ m := by omega
theorem zx_X16_part__3 {m : Nat}  : (m + 83) ≠ m + 83 + 1 := by omega
theorem zx_X16_part__4 {m : Nat}  : (m + 83 + 2) ≠ m + 83 + 1 := by omega
theorem zx_X16_part__5 {m : Nat}  : (m + 83 + 3) ≠ m + 83 + 1 := by omega
theorem zx_X16_part__6 {m : Nat}  : (m + 83 + 4) ≠ m + 83 + 1 := by omega
theorem zx_X16_part__7 {m : Nat}  : (m + 83 + 5) ≠ m + 83 + 1 := by omega
theorem zx_X16_part__8 {m : Nat}  : (m + 83 + 6) ≠ m + 83 + 1 := by omega
theorem zx_X16_part__9 {m : Nat}  : (m + 83 + 7) ≠ m + 83 + 1 := by omega
theorem zx_X16_part__10 {m : Nat}  : (m + 83 + 8) ≠ m + 83 + 1 := by omega
theorem zx_X16_part__11 {m x : Nat} (h0 : m + 7486 ≤ x) (h1 : x < m + 7486 + 108) : x < m ∨ m + 1 ≤ x := by omega
theorem zx_X16_part__12 {m x : Nat} (h0 : m + 7486 ≤ x) (h1 : x < m + 7486 + 108) : x < m + 83 ∨ m + 83 + 9 ≤ x := by omega
theorem zx_X16_part__13 {GZ9_102_0 m x : Nat} (h0 : m + 7486 ≤ x) (h1 : x < m + 7486 + 108) (h2 : GZ9_102_0 = 0) : x < m + 596 + 130 * GZ9_102_0 ∨ m + 596 + 130 * GZ9_102_0 + (5720 - 130 * GZ9_102_0) ≤ x := by omega
theorem zx_X16_part__14 {m x : Nat} (h0 : m + 7486 ≤ x) (h1 : x < m + 7486 + 108) : x ≠ m + 83 + 1 := by omega
theorem zx_X16_part__15 {m : Nat}  : m ≠ m + 83 + 1 := by omega
theorem zx_X16_part__16 {m x : Nat} (h0 : x < m + 0 ∨ m + 0 + 8322 ≤ x) : x < m ∨ m + 1 ≤ x := by omega
theorem zx_X16_part__17 {m x : Nat} (h0 : x < m + 0 ∨ m + 0 + 8322 ≤ x) : x < m + 83 ∨ m + 83 + 9 ≤ x := by omega
theorem zx_X16_part__18 {GZ9_102_0 m x : Nat} (h0 : x < m + 0 ∨ m + 0 + 8322 ≤ x) (h1 : GZ9_102_0 = 0) : x < m + 596 + 130 * GZ9_102_0 ∨ m + 596 + 130 * GZ9_102_0 + (5720 - 130 * GZ9_102_0) ≤ x := by omega
theorem zx_X16_part__19 {m x : Nat} (h0 : x < m + 0 ∨ m + 0 + 8322 ≤ x) : x ≠ m + 83 + 1 := by omega
theorem zx_X16_part__20 {m x : Nat} (h0 : m + 6316 ≤ x) (h1 : x < m + 6316 + 1170) : x < m ∨ m + 1 ≤ x := by omega
theorem zx_X16_part__21 {m x : Nat} (h0 : m + 6316 ≤ x) (h1 : x < m + 6316 + 1170) : x < m + 83 ∨ m + 83 + 9 ≤ x := by omega
theorem zx_X16_part__22 {GZ9_102_0 m x : Nat} (h0 : m + 6316 ≤ x) (h1 : x < m + 6316 + 1170) (h2 : GZ9_102_0 = 0) : x < m + 596 + 130 * GZ9_102_0 ∨ m + 596 + 130 * GZ9_102_0 + (5720 - 130 * GZ9_102_0) ≤ x := by omega
theorem zx_X16_part__23 {m x : Nat} (h0 : m + 6316 ≤ x) (h1 : x < m + 6316 + 1170) : x ≠ m + 83 + 1 := by omega
theorem zx_X16_part__24 {m x : Nat} (h0 : m + 92 ≤ x) (h1 : x < m + 92 + 1) : x < m ∨ m + 1 ≤ x := by omega
theorem zx_X16_part__25 {m x : Nat} (h0 : m + 92 ≤ x) (h1 : x < m + 92 + 1) : x < m + 83 ∨ m + 83 + 9 ≤ x := by omega
theorem zx_X16_part__26 {GZ9_102_0 m x : Nat} (h0 : m + 92 ≤ x) (h1 : x < m + 92 + 1) (h2 : GZ9_102_0 = 0) : x < m + 596 + 130 * GZ9_102_0 ∨ m + 596 + 130 * GZ9_102_0 + (5720 - 130 * GZ9_102_0) ≤ x := by omega
theorem zx_X16_part__27 {m x : Nat} (h0 : m + 92 ≤ x) (h1 : x < m + 92 + 1) : x ≠ m + 83 + 1 := by omega
theorem zx_X16_part__28 {m x : Nat} (h0 : m + 93 ≤ x) (h1 : x < m + 93 + 1) : x < m ∨ m + 1 ≤ x := by omega
theorem zx_X16_part__29 {m x : Nat} (h0 : m + 93 ≤ x) (h1 : x < m + 93 + 1) : x < m + 83 ∨ m + 83 + 9 ≤ x := by omega
theorem zx_X16_part__30 {GZ9_102_0 m x : Nat} (h0 : m + 93 ≤ x) (h1 : x < m + 93 + 1) (h2 : GZ9_102_0 = 0) : x < m + 596 + 130 * GZ9_102_0 ∨ m + 596 + 130 * GZ9_102_0 + (5720 - 130 * GZ9_102_0) ≤ x := by omega
theorem zx_X16_part__31 {m x : Nat} (h0 : m + 93 ≤ x) (h1 : x < m + 93 + 1) : x ≠ m + 83 + 1 := by omega
theorem zx_X16_part__32 {m x : Nat} (h0 : m + 100 ≤ x) (h1 : x < m + 100 + 49) : x < m ∨ m + 1 ≤ x := by omega
theorem zx_X16_part__33 {m x : Nat} (h0 : m + 100 ≤ x) (h1 : x < m + 100 + 49) : x < m + 83 ∨ m + 83 + 9 ≤ x := by omega
theorem zx_X16_part__34 {GZ9_102_0 m x : Nat} (h0 : m + 100 ≤ x) (h1 : x < m + 100 + 49) (h2 : GZ9_102_0 = 0) : x < m + 596 + 130 * GZ9_102_0 ∨ m + 596 + 130 * GZ9_102_0 + (5720 - 130 * GZ9_102_0) ≤ x := by omega
theorem zx_X16_part__35 {m x : Nat} (h0 : m + 100 ≤ x) (h1 : x < m + 100 + 49) : x ≠ m + 83 + 1 := by omega
theorem zx_X16_part__36 {m x : Nat} (h0 : m + 212 ≤ x) (h1 : x < m + 212 + 61) : x < m ∨ m + 1 ≤ x := by omega
theorem zx_X16_part__37 {m x : Nat} (h0 : m + 212 ≤ x) (h1 : x < m + 212 + 61) : x < m + 83 ∨ m + 83 + 9 ≤ x := by omega
theorem zx_X16_part__38 {GZ9_102_0 m x : Nat} (h0 : m + 212 ≤ x) (h1 : x < m + 212 + 61) (h2 : GZ9_102_0 = 0) : x < m + 596 + 130 * GZ9_102_0 ∨ m + 596 + 130 * GZ9_102_0 + (5720 - 130 * GZ9_102_0) ≤ x := by omega
theorem zx_X16_part__39 {m x : Nat} (h0 : m + 212 ≤ x) (h1 : x < m + 212 + 61) : x ≠ m + 83 + 1 := by omega
theorem zx_X16_part__40 {m x : Nat} (h0 : m + 149 ≤ x) (h1 : x < m + 149 + 27) : x < m ∨ m + 1 ≤ x := by omega
theorem zx_X16_part__41 {m x : Nat} (h0 : m + 149 ≤ x) (h1 : x < m + 149 + 27) : x < m + 83 ∨ m + 83 + 9 ≤ x := by omega
theorem zx_X16_part__42 {GZ9_102_0 m x : Nat} (h0 : m + 149 ≤ x) (h1 : x < m + 149 + 27) (h2 : GZ9_102_0 = 0) : x < m + 596 + 130 * GZ9_102_0 ∨ m + 596 + 130 * GZ9_102_0 + (5720 - 130 * GZ9_102_0) ≤ x := by omega
theorem zx_X16_part__43 {m x : Nat} (h0 : m + 149 ≤ x) (h1 : x < m + 149 + 27) : x ≠ m + 83 + 1 := by omega
theorem zx_X16_part__44 {m : Nat}  : (m + 94) < m ∨ m + 1 ≤ (m + 94) := by omega
theorem zx_X16_part__45 {m : Nat}  : (m + 94) < m + 83 ∨ m + 83 + 9 ≤ (m + 94) := by omega
theorem zx_X16_part__46 {GZ9_102_0 m : Nat} (h0 : GZ9_102_0 = 0) : (m + 94) < m + 596 + 130 * GZ9_102_0 ∨ m + 596 + 130 * GZ9_102_0 + (5720 - 130 * GZ9_102_0) ≤ (m + 94) := by omega
theorem zx_X16_part__47 {m : Nat}  : (m + 94) ≠ m + 83 + 1 := by omega
theorem zx_X16_part__48 {m : Nat}  : (m + 83 + 1) < m + 83 ∨ m + 83 + 1 ≤ (m + 83 + 1) := by omega
theorem zx_X16_part__49 {m : Nat}  : (m + 83 + 2) < m + 83 ∨ m + 83 + 1 ≤ (m + 83 + 2) := by omega
theorem zx_X16_part__50 {m : Nat}  : (m + 83 + 3) < m + 83 ∨ m + 83 + 1 ≤ (m + 83 + 3) := by omega
theorem zx_X16_part__51 {m : Nat}  : (m + 83 + 4) < m + 83 ∨ m + 83 + 1 ≤ (m + 83 + 4) := by omega
theorem zx_X16_part__52 {m : Nat}  : (m + 83 + 5) < m + 83 ∨ m + 83 + 1 ≤ (m + 83 + 5) := by omega
theorem zx_X16_part__53 {m : Nat}  : (m + 83 + 6) < m + 83 ∨ m + 83 + 1 ≤ (m + 83 + 6) := by omega
theorem zx_X16_part__54 {m : Nat}  : (m + 83 + 7) < m + 83 ∨ m + 83 + 1 ≤ (m + 83 + 7) := by omega
theorem zx_X16_part__55 {m : Nat}  : (m + 83 + 8) < m + 83 ∨ m + 83 + 1 ≤ (m + 83 + 8) := by omega
theorem zx_X16_part__56 {m x : Nat} (h0 : m + 7486 ≤ x) (h1 : x < m + 7486 + 108) : x < m + 83 ∨ m + 83 + 1 ≤ x := by omega
theorem zx_X16_part__57 {m : Nat}  : m < m + 83 ∨ m + 83 + 1 ≤ m := by omega
theorem zx_X16_part__58 {m x : Nat} (h0 : x < m + 0 ∨ m + 0 + 8322 ≤ x) : x < m + 83 ∨ m + 83 + 1 ≤ x := by omega
theorem zx_X16_part__59 {m x : Nat} (h0 : m + 6316 ≤ x) (h1 : x < m + 6316 + 1170) : x < m + 83 ∨ m + 83 + 1 ≤ x := by omega
theorem zx_X16_part__60 {m x : Nat} (h0 : m + 92 ≤ x) (h1 : x < m + 92 + 1) : x < m + 83 ∨ m + 83 + 1 ≤ x := by omega
theorem zx_X16_part__61 {m x : Nat} (h0 : m + 93 ≤ x) (h1 : x < m + 93 + 1) : x < m + 83 ∨ m + 83 + 1 ≤ x := by omega
theorem zx_X16_part__62 {m x : Nat} (h0 : m + 100 ≤ x) (h1 : x < m + 100 + 49) : x < m + 83 ∨ m + 83 + 1 ≤ x := by omega
theorem zx_X16_part__63 {m x : Nat} (h0 : m + 212 ≤ x) (h1 : x < m + 212 + 61) : x < m + 83 ∨ m + 83 + 1 ≤ x := by omega
theorem zx_X16_part__64 {m x : Nat} (h0 : m + 149 ≤ x) (h1 : x < m + 149 + 27) : x < m + 83 ∨ m + 83 + 1 ≤ x := by omega
theorem zx_X16_part__65 {m : Nat}  : (m + 94) < m + 83 ∨ m + 83 + 1 ≤ (m + 94) := by omega
set_option maxHeartbeats 8000000 in
set_option maxRecDepth 100000 in
theorem c_X16_part_ {w : zM} {n9 : Int32} (m : Nat) (s9 : Int32) (part : Int32) (to : Int32) (hI : zInv w m n9) : zCon 5 zq_X16_part_ [.ref m, .int s9, .int part, .int to] w (fun v9 w9' => zSI w w9' ∧ (∀ x, (x < m + 0 ∨ m + 0 + 8322 ≤ x) → w9' x = w x) ∧ zInv w9' m n9 ∧ ∃ r9 : Int32, v9 = some (.int r9) ∧ True) := by
  intro d sz hd
  obtain ⟨d, rfl⟩ : ∃ d9, d = d9 + 1 := ⟨d - 1, by omega⟩
  generalize hPost : (fun (r9' : Option (Option Value)) (w9' : zM) (z9 : Nat) => z9 = sz ∧ ∃ v9, r9' = some v9 ∧ (zSI w w9' ∧ (∀ x, (x < m + 0 ∨ m + 0 + 8322 ≤ x) → w9' x = w x) ∧ zInv w9' m n9 ∧ ∃ r9 : Int32, v9 = some (.int r9) ∧ True)) = Post
  show zP (d + 1) zq_X16_part_ 0 [(0, .ref m), (1, .int s9), (2, .int part), (3, .int to)] [] w sz 0 0 Post
  have k1 := zrng s9
  have k2 := zrng part
  have k3 := zrng to
  obtain ⟨g, r, hm, hR_m, hSl0, hMd0, hPl0, ⟨ff, hAf0, hff⟩, hBo0, hBl0, hGa0, hGb0, hBd0, hI12, hI24, hI29, hI31, hIn⟩ := hI
  have k4 := zrng (g 12)
  have hz5 : ((g 12).toNatClampNeg : Int) = (g 12).toInt := znat (by first | omega | decide)
  have k6 := zrng (g 24)
  have hz7 : ((g 24).toNatClampNeg : Int) = (g 24).toInt := znat (by first | omega | decide)
  have k8 := zrng (g 29)
  have hz9 : ((g 29).toNatClampNeg : Int) = (g 29).toInt := znat (by first | omega | decide)
  have k10 := zrng (g 31)
  have hz11 : ((g 31).toNatClampNeg : Int) = (g 31).toInt := znat (by first | omega | decide)
  refine zp_seg (pc' := 1) (lv' := [(0, .ref m), (1, .int s9), (2, .int part), (3, .int to)]) (st' := [.int s9]) [(0, .iload_n 1)] (by decide +kernel) rfl ?_
  refine zr_callS (idx := 551) (j := 336) (by decide +kernel) (by decide +kernel) (by decide) (show zMe 336 = some zq_X16_isSlot from rfl) rfl rfl (Nat.le_of_ble_eq_true rfl) rfl rfl (Nat.le_of_ble_eq_true rfl) (Nat.le_of_ble_eq_true rfl) (c_X16_isSlot (w := w) s9 ) (by omega) (fun v1 w1 hp1 => ?_)
  obtain ⟨hpw1, r1, rfl, hrb1, hr1⟩ := hp1
  replace hpw1 := hpw1.symm
  subst hpw1
  have kr1 := zrng r1
  show zP _ _ _ _ [.int r1] _ _ _ _ _
  refine zp_if (i := .ifCond .eq 10) (c := r1 = 0) (t := 14) (e := 7) (lv' := [(0, .ref m), (1, .int s9), (2, .int part), (3, .int to)]) (st' := []) (by decide +kernel) rfl (fun cc4 => ?_) (fun cc4 => ?_)
  ·
    have f13 := zeqI cc4
    rw [show (0 : Int32).toInt = 0 from by decide] at f13
    refine zp_seg (pc' := 15) (lv' := [(0, .ref m), (1, .int s9), (2, .int part), (3, .int to)]) (st' := [.int (Int32.ofInt (-1))]) [(14, .iconst (-1))] (by decide +kernel) rfl ?_
    have hoffend : ∀ x, (x < m + 0 ∨ m + 0 + 8322 ≤ x) → w x = w x := fun x hx => rfl
    refine zr_retI (by decide +kernel) rfl ?_
    rw [← hPost]; exact ⟨rfl, _, rfl, zSI.rf, hoffend, ⟨_, _, hm, hR_m, hSl0, hMd0, hPl0, ⟨_, hAf0, hff⟩, hBo0, hBl0, hGa0, hGb0, hBd0, hI12, hI24, hI29, hI31, hIn⟩, _, rfl, trivial⟩
  ·
    have f16 := zneI cc4
    rw [show (0 : Int32).toInt = 0 from by decide] at f16
    refine zp_seg (pc' := 8) (lv' := [(0, .ref m), (1, .int s9), (2, .int part), (3, .int to)]) (st' := [.int to]) [(7, .iload_n 3)] (by decide +kernel) rfl ?_
    refine zr_callS (idx := 551) (j := 336) (by decide +kernel) (by decide +kernel) (by decide) (show zMe 336 = some zq_X16_isSlot from rfl) rfl rfl (Nat.le_of_ble_eq_true rfl) rfl rfl (Nat.le_of_ble_eq_true rfl) (Nat.le_of_ble_eq_true rfl) (c_X16_isSlot (w := w) to ) (by omega) (fun v8 w8 hp8 => ?_)
    obtain ⟨hpw8, r8, rfl, hrb8, hr8⟩ := hp8
    replace hpw8 := hpw8.symm
    subst hpw8
    have kr8 := zrng r8
    show zP _ _ _ _ [.int r8] _ _ _ _ _
    refine zp_if (i := .ifCond .ne 5) (c := ¬ r8 = 0) (t := 16) (e := 14) (lv' := [(0, .ref m), (1, .int s9), (2, .int part), (3, .int to)]) (st' := []) (by decide +kernel) rfl (fun cc11 => ?_) (fun cc11 => ?_)
    ·
      have f17 := zneI cc11
      rw [show (0 : Int32).toInt = 0 from by decide] at f17
      have his1 := hr1 (hrb1.resolve_left cc4)
      have his2 := hr8 (hrb8.resolve_left cc11)
      refine zp_seg (pc' := 17) (lv' := [(0, .ref m), (1, .int s9), (2, .int part), (3, .int to)]) (st' := [.ref m]) [(16, .aload_n 0)] (by decide +kernel) rfl ?_
      refine zr_get (idx := 450) (k := 20) (v := .ref (m + 82)) (by decide +kernel) (by decide +kernel) hm rfl ?_
      refine zp_seg (pc' := 21) (lv' := [(0, .ref m), (1, .int s9), (2, .int part), (3, .int to)]) (st' := [.int s9, .ref (m + 82)]) [(20, .iload_n 1)] (by decide +kernel) rfl ?_
      have hb19 := hR_m.slots
      have hz20 : (s9.toNatClampNeg : Int) = s9.toInt := znat (by first | omega | decide)
      refine zr_aald (v := .ref (m + 7486 + 9 * s9.toNatClampNeg)) (by decide +kernel) hb19 (by decide) (zin (by first | omega | decide) (by first | omega | decide)) (zsl_at (by omega)) ?_
      obtain ⟨kS1, hkS1⟩ := hSl0 s9.toNatClampNeg (by omega)
      obtain ⟨g1, fn1, fd1, fa1, fb1, fc1, fe1, fr1, fu1, hT1, hAn1, hAd1, hAa1, hAb1, hAc1, hAe1, hAr1, hAu1, hK1⟩ := id hkS1
      obtain ⟨hK10, hKn1, hKd1, hKx1, hKm1, hKl1, hKr1, hKu1, hKk1⟩ := id hK1
      refine zp_seg (pc' := 26) (lv' := [(4, .ref (m + 7486 + 9 * s9.toNatClampNeg)), (0, .ref m), (1, .int s9), (2, .int part), (3, .int to)]) (st' := [.ref (m + 7486 + 9 * s9.toNatClampNeg)]) [(22, .astore 4), (24, .aload 4)] (by decide +kernel) rfl ?_
      refine zr_get (idx := 202) (k := 0) (v := .int (g1 0)) (by decide +kernel) (by decide +kernel) hT1 rfl ?_
      refine zp_seg (pc' := 30) (lv' := [(4, .ref (m + 7486 + 9 * s9.toNatClampNeg)), (0, .ref m), (1, .int s9), (2, .int part), (3, .int to)]) (st' := [.int 3, .int (g1 0)]) [(29, .iconst 3)] (by decide +kernel) rfl ?_
      refine zp_if (i := .if_icmp .eq 15) (c := (g1 0) = 3) (t := 45) (e := 33) (lv' := [(4, .ref (m + 7486 + 9 * s9.toNatClampNeg)), (0, .ref m), (1, .int s9), (2, .int part), (3, .int to)]) (st' := []) (by decide +kernel) rfl (fun cc30 => ?_) (fun cc30 => ?_)
      ·
        have k21 := zrng (g1 0)
        have f23 := zeqI cc30
        rw [show (3 : Int32).toInt = 3 from by decide] at f23
        refine zp_seg (pc' := 48) (lv' := [(4, .ref (m + 7486 + 9 * s9.toNatClampNeg)), (0, .ref m), (1, .int s9), (2, .int part), (3, .int to)]) (st' := [.ref (m + 7486 + 9 * s9.toNatClampNeg), .int part]) [(45, .iload_n 2), (46, .aload 4)] (by decide +kernel) rfl ?_
        refine zr_get (idx := 202) (k := 0) (v := .int (g1 0)) (by decide +kernel) (by decide +kernel) hT1 rfl ?_
        refine zp_seg (pc' := 52) (lv' := [(4, .ref (m + 7486 + 9 * s9.toNatClampNeg)), (0, .ref m), (1, .int s9), (2, .int part), (3, .int to)]) (st' := [.int 3, .int (g1 0), .int part]) [(51, .iconst 3)] (by decide +kernel) rfl ?_
        refine zp_if (i := .if_icmp .ne 7) (c := ¬ (g1 0) = 3) (t := 59) (e := 55) (lv' := [(4, .ref (m + 7486 + 9 * s9.toNatClampNeg)), (0, .ref m), (1, .int s9), (2, .int part), (3, .int to)]) (st' := [.int part]) (by decide +kernel) rfl (fun cc52 => ?_) (fun cc52 => ?_)
        ·
          exact absurd cc30 cc52
        ·
          replace cc52 := Classical.not_not.mp cc52
          have f24 := zeqI cc52
          rw [show (3 : Int32).toInt = 3 from by decide] at f24
          refine zp_seg (pc' := 60) (lv' := [(4, .ref (m + 7486 + 9 * s9.toNatClampNeg)), (0, .ref m), (1, .int s9), (2, .int part), (3, .int to)]) (st' := [.int (Int32.ofInt (-1)), .int part]) [(55, .iconst (-1)), (56, .goto 4)] (by decide +kernel) rfl ?_
          refine zp_if (i := .if_icmp .lt 12) (c := part < (Int32.ofInt (-1))) (t := 72) (e := 63) (lv' := [(4, .ref (m + 7486 + 9 * s9.toNatClampNeg)), (0, .ref m), (1, .int s9), (2, .int part), (3, .int to)]) (st' := []) (by decide +kernel) rfl (fun cc60 => ?_) (fun cc60 => ?_)
          ·
            have f26 := zltI cc60
            rw [show (Int32.ofInt (-1) : Int32).toInt = (-1) from by decide] at f26
            refine zp_seg (pc' := 73) (lv' := [(4, .ref (m + 7486 + 9 * s9.toNatClampNeg)), (0, .ref m), (1, .int s9), (2, .int part), (3, .int to)]) (st' := [.int (Int32.ofInt (-1))]) [(72, .iconst (-1))] (by decide +kernel) rfl ?_
            have hoffend : ∀ x, (x < m + 0 ∨ m + 0 + 8322 ≤ x) → w x = w x := fun x hx => rfl
            refine zr_retI (by decide +kernel) rfl ?_
            rw [← hPost]; exact ⟨rfl, _, rfl, zSI.rf, hoffend, ⟨_, _, hm, hR_m, hSl0, hMd0, hPl0, ⟨_, hAf0, hff⟩, hBo0, hBl0, hGa0, hGb0, hBd0, hI12, hI24, hI29, hI31, hIn⟩, _, rfl, trivial⟩
          ·
            have f28 := znltI cc60
            rw [show (Int32.ofInt (-1) : Int32).toInt = (-1) from by decide] at f28
            refine zp_seg (pc' := 66) (lv' := [(4, .ref (m + 7486 + 9 * s9.toNatClampNeg)), (0, .ref m), (1, .int s9), (2, .int part), (3, .int to)]) (st' := [.ref (m + 7486 + 9 * s9.toNatClampNeg), .int part]) [(63, .iload_n 2), (64, .aload 4)] (by decide +kernel) rfl ?_
            refine zr_get (idx := 234) (k := 10) (v := .int (g1 10)) (by decide +kernel) (by decide +kernel) hT1 rfl ?_
            refine zp_if (i := .if_icmp .le 5) (c := part ≤ (g1 10)) (t := 74) (e := 72) (lv' := [(4, .ref (m + 7486 + 9 * s9.toNatClampNeg)), (0, .ref m), (1, .int s9), (2, .int part), (3, .int to)]) (st' := []) (by decide +kernel) rfl (fun cc69 => ?_) (fun cc69 => ?_)
            ·
              have k29 := zrng (g1 10)
              have f30 := zleI cc69
              have hord9 : 0 ≤ (g1 10).toInt ∧ (g1 10).toInt ≤ 6 := by
                first
                | (have h9 := hKk1.2.2.2.2.1 (hK10.symm.trans cc30)
                   exact ⟨by omega, by omega⟩)
                | (have h9 := (hKk1.2.2.2.2.2 (hK10.symm.trans cc39)).1
                   exact ⟨by omega, by omega⟩)
              refine zp_seg (pc' := 76) (lv' := [(4, .ref (m + 7486 + 9 * s9.toNatClampNeg)), (0, .ref m), (1, .int s9), (2, .int part), (3, .int to)]) (st' := [.int (Int32.ofInt (-1)), .int part]) [(74, .iload_n 2), (75, .iconst (-1))] (by decide +kernel) rfl ?_
              refine zp_if (i := .if_icmp .ne 25) (c := ¬ part = (Int32.ofInt (-1))) (t := 101) (e := 79) (lv' := [(4, .ref (m + 7486 + 9 * s9.toNatClampNeg)), (0, .ref m), (1, .int s9), (2, .int part), (3, .int to)]) (st' := []) (by decide +kernel) rfl (fun cc76 => ?_) (fun cc76 => ?_)
              ·
                have f31 := zneI cc76
                rw [show (Int32.ofInt (-1) : Int32).toInt = (-1) from by decide] at f31
                refine zp_seg (pc' := 102) (lv' := [(4, .ref (m + 7486 + 9 * s9.toNatClampNeg)), (0, .ref m), (1, .int s9), (2, .int part), (3, .int to)]) (st' := [.ref m]) [(101, .aload_n 0)] (by decide +kernel) rfl ?_
                refine zr_callV (idx := 555) (j := 337) (by decide +kernel) (by decide +kernel) (show zMe 337 = some zq_X16_begin from rfl) rfl rfl (Nat.le_of_ble_eq_true rfl) rfl rfl hm (Nat.le_of_ble_eq_true rfl) (Nat.le_of_ble_eq_true rfl) (c_X16_beginZ (w := w) m hm hR_m) (by omega) (fun v102 w102 hp102 => ?_)
                obtain ⟨Z9_102, hsi102, heq102, hp102_0, hp102_1, rfl⟩ := hp102
                have hM102 : w102 m = some (.inl (15, zMo m (zs (zs (zs g 1 Z9_102) 3 Z9_102) 16 Z9_102) r)) := hp102_0
                show zP _ _ _ _ [] _ _ _ _ _
                have k32 := zrng Z9_102
                have hz33 : (Z9_102.toNatClampNeg : Int) = Z9_102.toInt := znat (by first | omega | decide)
                have hgzZ9_102_0 : Z9_102.toNatClampNeg = 0 := by omega
                refine zp_seg (pc' := 107) (lv' := [(4, .ref (m + 7486 + 9 * s9.toNatClampNeg)), (0, .ref m), (1, .int s9), (2, .int part), (3, .int to)]) (st' := [.ref m, .ref m]) [(105, .aload_n 0), (106, .aload_n 0)] (by decide +kernel) rfl ?_
                refine zr_get (idx := 453) (k := 21) (v := .ref (m + 83)) (by decide +kernel) (by decide +kernel) hM102 rfl ?_
                refine zp_seg (pc' := 111) (lv' := [(4, .ref (m + 7486 + 9 * s9.toNatClampNeg)), (0, .ref m), (1, .int s9), (2, .int part), (3, .int to)]) (st' := [.int 0, .ref (m + 83), .ref m]) [(110, .iconst 0)] (by decide +kernel) rfl ?_
                have hb34 := hR_m.si hsi102
                have hb35 : zTm w102 (m + 83) := hMd0.ag (fun x hx1 hx2 => (heq102 x (zx_X16_part__0 hx1 hx2)))
                refine zr_callV (idx := 292) (j := 305) (by decide +kernel) (by decide +kernel) (show zMe 305 = some zq_X16_number from rfl) rfl rfl (Nat.le_of_ble_eq_true rfl) rfl rfl hM102 (Nat.le_of_ble_eq_true rfl) (Nat.le_of_ble_eq_true rfl) (c_X16_numberM (w := w102) (g3 := Z9_102) m (m + 83) 0 hM102 hb34 hb35 (by first | omega | decide | assumption | exact zr1_1 | exact zr1_0 | fail "num") (by exact zr1_0) (by first | omega | decide | assumption | exact zr1_1 | exact zr1_0 | fail "num") rfl) (by omega) (fun v111 w111 hp111 => ?_)
                obtain ⟨hsi111, heq111, hp111_0, rfl⟩ := hp111
                show zP _ _ _ _ [] _ _ _ _ _
                obtain ⟨g3, fn3, fd3, fa3, fb3, fc3, fe3, fr3, fu3, hT3, hAn3, hAd3, hAa3, hAb3, hAc3, hAe3, hAr3, hAu3, hK3⟩ := id hp111_0
                obtain ⟨hK30, hKn3, hKd3, hKx3, hKm3, hKl3, hKr3, hKu3, hKk3⟩ := id hK3
                have k37 := zmulCl 25 part (n := 25) (by decide) (by omega) (by omega)
                refine zp_seg (pc' := 116) (lv' := [(4, .ref (m + 7486 + 9 * s9.toNatClampNeg)), (0, .ref m), (1, .int s9), (2, .int part), (3, .int to)]) (st' := [.ref (m + 7486 + 9 * s9.toNatClampNeg)]) [(114, .aload 4)] (by decide +kernel) rfl ?_
                have hb38 : w111 (m + 7486 + 9 * s9.toNatClampNeg) = some (.inl (13, zTo (m + 7486 + 9 * s9.toNatClampNeg) g1)) := ((heq111 (m + 7486 + 9 * s9.toNatClampNeg) (by omega)).trans (heq102 (m + 7486 + 9 * s9.toNatClampNeg) (by omega))).trans hT1
                refine zr_get (idx := 237) (k := 11) (v := .ref (m + 7486 + 9 * s9.toNatClampNeg + 7)) (by decide +kernel) (by decide +kernel) hb38 rfl ?_
                refine zp_seg (pc' := 123) (lv' := [(4, .ref (m + 7486 + 9 * s9.toNatClampNeg)), (0, .ref m), (1, .int s9), (2, .int part), (3, .int to)]) (st' := [.int (25 * part), .ref (m + 7486 + 9 * s9.toNatClampNeg + 7)]) [(119, .bipush 25), (121, .iload_n 2), (122, .imul)] (by decide +kernel) rfl ?_
                have k39 := zmulCl 25 part (n := 25) (by decide) (by omega) (by omega)
                generalize ev123 : (25 * part : Int32) = v123 at k39 ⊢
                have kv123 := zrng v123
                refine zp_seg (pc' := 124) (lv' := [(4, .ref (m + 7486 + 9 * s9.toNatClampNeg)), (0, .ref m), (1, .int s9), (2, .int part), (3, .int to)]) (st' := [.ref m, .int v123, .ref (m + 7486 + 9 * s9.toNatClampNeg + 7)]) [(123, .aload_n 0)] (by decide +kernel) rfl ?_
                have hb40 : w111 m = some (.inl (15, zMo m (zs (zs (zs g 1 Z9_102) 3 Z9_102) 16 Z9_102) r)) := (heq111 m ⟨(zx_X16_part__1), (zx_X16_part__2 hgzZ9_102_0)⟩).trans hM102
                refine zr_get (idx := 453) (k := 21) (v := .ref (m + 83)) (by decide +kernel) (by decide +kernel) hb40 rfl ?_
                refine zr_get (idx := 207) (k := 1) (v := .ref (m + 83 + 1)) (by decide +kernel) (by decide +kernel) hT3 rfl ?_
                refine zp_seg (pc' := 133) (lv' := [(4, .ref (m + 7486 + 9 * s9.toNatClampNeg)), (0, .ref m), (1, .int s9), (2, .int part), (3, .int to)]) (st' := [.int 25, .int 0, .ref (m + 83 + 1), .int v123, .ref (m + 7486 + 9 * s9.toNatClampNeg + 7)]) [(130, .iconst 0), (131, .bipush 25)] (by decide +kernel) rfl ?_
                have hb41 : w111 (m + 7486 + 9 * s9.toNatClampNeg + 7) = some (.inr (0, 175, .inl fr1)) := ((heq111 (m + 7486 + 9 * s9.toNatClampNeg + 7) (by omega)).trans (heq102 (m + 7486 + 9 * s9.toNatClampNeg + 7) (by omega))).trans hAr1
                have hl42 : (25 : Int32).toInt = 25 := by decide
                have hl43 : (0 : Int32).toInt = 0 := by decide
                have hz44 : (v123.toNatClampNeg : Int) = v123.toInt := znat (by first | omega | decide)
                refine zr_acpy (idx := 34) (by decide +kernel) (by decide +kernel) hb41 hAn3 (rfl) (by first | omega | decide) (by first | omega | decide) (by first | omega | decide) (by first | omega | decide) (by first | omega | decide) (by omega) (Nat.le_of_ble_eq_true rfl) ?_
                show zP (d + 1) zq_X16_part_ 136 [(4, .ref (m + 7486 + 9 * s9.toNatClampNeg)), (0, .ref m), (1, .int s9), (2, .int part), (3, .int to)] [] (zup w111 (m + 83 + 1) (.inr (0, 325, .inl (va_cpy fr1 fn3 (v123.toNatClampNeg) ((0 : Int32).toNatClampNeg) ((25 : Int32).toNatClampNeg))))) sz 0 0 Post
                obtain ⟨w133, ew133⟩ : ∃ wz9, wz9 = zup w111 (m + 83 + 1) (.inr (0, 325, .inl (va_cpy fr1 fn3 (v123.toNatClampNeg) ((0 : Int32).toNatClampNeg) ((25 : Int32).toNatClampNeg)))) := ⟨_, rfl⟩
                have hsi133 : zSI w111 w133 := by rw [ew133]; exact zSI.arr _ hAn3
                have heq133 : ∀ x, x ≠ m + 83 + 1 → w133 x = w111 x := fun x hx => by rw [ew133]; exact zup_n hx
                have hc133 : w133 (m + 83 + 1) = some (.inr (0, 325, .inl (va_cpy fr1 fn3 (v123.toNatClampNeg) ((0 : Int32).toNatClampNeg) ((25 : Int32).toNatClampNeg)))) := by rw [ew133]; exact zup_s
                rw [← ew133]
                clear ew133
                have hb45 : w133 (m + 83) = some (.inl (13, zTo (m + 83) g3)) := (heq133 (m + 83) (zx_X16_part__3)).trans hT3
                have hb46 : w133 (m + 83 + 2) = some (.inr (0, 325, .inl fd3)) := (heq133 (m + 83 + 2) (zx_X16_part__4)).trans hAd3
                have hb47 : w133 (m + 83 + 3) = some (.inr (0, 13, .inl fa3)) := (heq133 (m + 83 + 3) (zx_X16_part__5)).trans hAa3
                have hb48 : w133 (m + 83 + 4) = some (.inr (0, 13, .inl fb3)) := (heq133 (m + 83 + 4) (zx_X16_part__6)).trans hAb3
                have hb49 : w133 (m + 83 + 5) = some (.inr (0, 13, .inl fc3)) := (heq133 (m + 83 + 5) (zx_X16_part__7)).trans hAc3
                have hb50 : w133 (m + 83 + 6) = some (.inr (0, 13, .inl fe3)) := (heq133 (m + 83 + 6) (zx_X16_part__8)).trans hAe3
                have hb51 : w133 (m + 83 + 7) = some (.inr (0, 175, .inl fr3)) := (heq133 (m + 83 + 7) (zx_X16_part__9)).trans hAr3
                have hb52 : w133 (m + 83 + 8) = some (.inr (0, 361, .inl fu3)) := (heq133 (m + 83 + 8) (zx_X16_part__10)).trans hAu3
                have hTi9 : zTi w133 (m + 83) 1 := ⟨_, _, _, _, _, _, _, _, _, hb45, hc133, hb46, hb47, hb48, hb49, hb50, hb51, hb52, ⟨hK30, zCr_cpy3 hKn3 hKr1 (by omega), hKd3, hKx3, hKm3, hKl3, hKr3, hKu3, zKk_12 (Or.inl rfl) (hKk3.2.1 (Or.inl rfl)) (fun e => absurd e (by decide)) (hKk3.2.2.2.1 (Or.inl rfl))⟩⟩
                have hz53 : (to.toNatClampNeg : Int) = to.toInt := znat (by first | omega | decide)
                have hb54 : zSlo w133 (m + 7486) := hSl0.ag (fun x hx1 hx2 => ((heq133 x (zx_X16_part__14 hx1 hx2)).trans ((heq111 x ⟨(zx_X16_part__12 hx1 hx2), (zx_X16_part__13 hx1 hx2 hgzZ9_102_0)⟩).trans (heq102 x (zx_X16_part__11 hx1 hx2)))))
                obtain ⟨kU, hkU⟩ := hb54 to.toNatClampNeg (by omega)
                refine zp_seg (pc' := 138) (lv' := [(4, .ref (m + 7486 + 9 * s9.toNatClampNeg)), (0, .ref m), (1, .int s9), (2, .int part), (3, .int to)]) (st' := [.int to, .ref m]) [(136, .aload_n 0), (137, .iload_n 3)] (by decide +kernel) rfl ?_
                have hb55 : w133 m = some (.inl (15, zMo m (zs (zs (zs g 1 Z9_102) 3 Z9_102) 16 Z9_102) r)) := (heq133 m (zx_X16_part__15)).trans hb40
                have hb56 := hb34.si (hsi111.tr hsi133)
                refine zr_callV (idx := 558) (j := 338) (by decide +kernel) (by decide +kernel) (show zMe 338 = some zq_X16_keep from rfl) rfl rfl (Nat.le_of_ble_eq_true rfl) rfl rfl hb55 (Nat.le_of_ble_eq_true rfl) (Nat.le_of_ble_eq_true rfl) (c_X16_keep (w := w133) m to hb55 hb56 hTi9 hkU (by first | omega | decide | assumption | exact zr1_1 | exact zr1_0 | fail "num")) (by omega) (fun v138 w138 hp138 => ?_)
                obtain ⟨hsi138, heq138, hp138_0, r138, rfl, hr138⟩ := hp138
                have kr138 := zrng r138
                show zP _ _ _ _ [.int r138] _ _ _ _ _
                have hSl141 := hSl0.up (w' := w138) to.toNatClampNeg hp138_0 (fun x h1 h2 h3 => ((heq138 x (by omega)).trans ((heq133 x (by omega)).trans ((heq111 x (by omega)).trans (heq102 x (by omega))))))
                have hb57 : w138 m = some (.inl (15, zMo m (zs (zs (zs g 1 Z9_102) 3 Z9_102) 16 Z9_102) r)) := (heq138 m (by omega)).trans hb55
                have hoffend : ∀ x, (x < m + 0 ∨ m + 0 + 8322 ≤ x) → w138 x = w x := fun x hx => ((heq138 x (by omega)).trans ((heq133 x (zx_X16_part__19 hx)).trans ((heq111 x ⟨(zx_X16_part__17 hx), (zx_X16_part__18 hx hgzZ9_102_0)⟩).trans (heq102 x (zx_X16_part__16 hx)))))
                have hb58 := hb56.si hsi138
                have hb59 : zTi w138 (m + 83) 1 := hTi9.ag (fun x hx1 hx2 => (heq138 x (by omega)))
                have hb60 : zPil w138 (m + 6316) := hPl0.ag (fun x hx1 hx2 => ((heq138 x (by omega)).trans ((heq133 x (zx_X16_part__23 hx1 hx2)).trans ((heq111 x ⟨(zx_X16_part__21 hx1 hx2), (zx_X16_part__22 hx1 hx2 hgzZ9_102_0)⟩).trans (heq102 x (zx_X16_part__20 hx1 hx2))))))
                have hb61 : zBya w138 (m + 92) 4000 := hBo0.ag (fun x hx1 hx2 => ((heq138 x (by omega)).trans ((heq133 x (zx_X16_part__27 hx1 hx2)).trans ((heq111 x ⟨(zx_X16_part__25 hx1 hx2), (zx_X16_part__26 hx1 hx2 hgzZ9_102_0)⟩).trans (heq102 x (zx_X16_part__24 hx1 hx2))))))
                have hb62 : zBya w138 (m + 93) 4000 := hBl0.ag (fun x hx1 hx2 => ((heq138 x (by omega)).trans ((heq133 x (zx_X16_part__31 hx1 hx2)).trans ((heq111 x ⟨(zx_X16_part__29 hx1 hx2), (zx_X16_part__30 hx1 hx2 hgzZ9_102_0)⟩).trans (heq102 x (zx_X16_part__28 hx1 hx2))))))
                have hb63 : zGr w138 (m + 100) 48 48 := hGa0.ag (fun x hx1 hx2 => ((heq138 x (by omega)).trans ((heq133 x (zx_X16_part__35 hx1 hx2)).trans ((heq111 x ⟨(zx_X16_part__33 hx1 hx2), (zx_X16_part__34 hx1 hx2 hgzZ9_102_0)⟩).trans (heq102 x (zx_X16_part__32 hx1 hx2))))))
                have hb64 : zGr w138 (m + 212) 60 46 := hGb0.ag (fun x hx1 hx2 => ((heq138 x (by omega)).trans ((heq133 x (zx_X16_part__39 hx1 hx2)).trans ((heq111 x ⟨(zx_X16_part__37 hx1 hx2), (zx_X16_part__38 hx1 hx2 hgzZ9_102_0)⟩).trans (heq102 x (zx_X16_part__36 hx1 hx2))))))
                have hb65 : zBd w138 (m + 149) := hBd0.ag (fun x hx1 hx2 => ((heq138 x (by omega)).trans ((heq133 x (zx_X16_part__43 hx1 hx2)).trans ((heq111 x ⟨(zx_X16_part__41 hx1 hx2), (zx_X16_part__42 hx1 hx2 hgzZ9_102_0)⟩).trans (heq102 x (zx_X16_part__40 hx1 hx2))))))
                have hb66 : w138 (m + 94) = some (.inr (0, 60, .inl ff)) := ((heq138 (m + 94) (by omega)).trans ((heq133 (m + 94) (zx_X16_part__47)).trans ((heq111 (m + 94) ⟨(zx_X16_part__45), (zx_X16_part__46 hgzZ9_102_0)⟩).trans (heq102 (m + 94) (zx_X16_part__44))))).trans hAf0
                refine zr_retI (by decide +kernel) rfl ?_
                rw [← hPost]; exact ⟨rfl, _, rfl, (((hsi102.tr hsi111).tr hsi133).tr hsi138), hoffend, ⟨_, _, hb57, hb58, hSl141, (zTi.m hb59), hb60, ⟨_, hb66, hff⟩, hb61, hb62, hb63, hb64, hb65, hI12, hI24, hI29, hI31, hIn⟩, _, rfl, trivial⟩
              ·
                replace cc76 := Classical.not_not.mp cc76
                have f67 := zeqI cc76
                rw [show (Int32.ofInt (-1) : Int32).toInt = (-1) from by decide] at f67
                have hk39 : kS1 = 3 := by
                  first
                  | exact hK10.symm.trans cc30
                  | (exfalso; omega)
                refine zp_seg (pc' := 80) (lv' := [(4, .ref (m + 7486 + 9 * s9.toNatClampNeg)), (0, .ref m), (1, .int s9), (2, .int part), (3, .int to)]) (st' := [.ref m]) [(79, .aload_n 0)] (by decide +kernel) rfl ?_
                refine zr_get (idx := 453) (k := 21) (v := .ref (m + 83)) (by decide +kernel) (by decide +kernel) hm rfl ?_
                refine zp_seg (pc' := 85) (lv' := [(4, .ref (m + 7486 + 9 * s9.toNatClampNeg)), (0, .ref m), (1, .int s9), (2, .int part), (3, .int to)]) (st' := [.ref (m + 7486 + 9 * s9.toNatClampNeg), .ref (m + 83)]) [(83, .aload 4)] (by decide +kernel) rfl ?_
                refine zr_callS (idx := 547) (j := 298) (by decide +kernel) (by decide +kernel) (by decide) (show zMe 298 = some zq_X16_copy from rfl) rfl rfl (Nat.le_of_ble_eq_true rfl) rfl rfl (Nat.le_of_ble_eq_true rfl) (Nat.le_of_ble_eq_true rfl) (c_X16_copyM (w := w) (m + 83) (m + 7486 + 9 * s9.toNatClampNeg) hMd0 hkS1 (by first | omega | decide | assumption | exact zr1_1 | exact zr1_0 | fail "num")) (by omega) (fun v85 w85 hp85 => ?_)
                obtain ⟨hsi85, heq85, hp85_0, rfl⟩ := hp85
                show zP _ _ _ _ [] _ _ _ _ _
                obtain ⟨g2, fn2, fd2, fa2, fb2, fc2, fe2, fr2, fu2, hT2, hAn2, hAd2, hAa2, hAb2, hAc2, hAe2, hAr2, hAu2, hK2⟩ := id hp85_0
                obtain ⟨hK20, hKn2, hKd2, hKx2, hKm2, hKl2, hKr2, hKu2, hKk2⟩ := id hK2
                refine zp_seg (pc' := 89) (lv' := [(4, .ref (m + 7486 + 9 * s9.toNatClampNeg)), (0, .ref m), (1, .int s9), (2, .int part), (3, .int to)]) (st' := [.ref m]) [(88, .aload_n 0)] (by decide +kernel) rfl ?_
                have hb68 : w85 m = some (.inl (15, zMo m g r)) := (heq85 m (zx_X16_part__1)).trans hm
                refine zr_get (idx := 453) (k := 21) (v := .ref (m + 83)) (by decide +kernel) (by decide +kernel) hb68 rfl ?_
                refine zr_callS (idx := 257) (j := 304) (by decide +kernel) (by decide +kernel) (by decide) (show zMe 304 = some zq_X16_plain from rfl) rfl rfl (Nat.le_of_ble_eq_true rfl) rfl rfl (Nat.le_of_ble_eq_true rfl) (Nat.le_of_ble_eq_true rfl) (c_X16_plain (w := w85) (m + 83) hT2) (by omega) (fun v92 w92 hp92 => ?_)
                obtain ⟨hsi92, heq92, hp92_0, rfl⟩ := hp92
                have hT92 : w92 (m + 83) = some (.inl (13, zTo (m + 83) (zs (zs (zs (zs g2 0 1) 3 1) 4 1) 5 0))) := hp92_0
                show zP _ _ _ _ [] _ _ _ _ _
                have hb69 : w92 (m + 83 + 1) = some (.inr (0, 325, .inl fn2)) := (heq92 (m + 83 + 1) (zx_X16_part__48)).trans hAn2
                have hb70 : w92 (m + 83 + 2) = some (.inr (0, 325, .inl fd2)) := (heq92 (m + 83 + 2) (zx_X16_part__49)).trans hAd2
                have hb71 : w92 (m + 83 + 3) = some (.inr (0, 13, .inl fa2)) := (heq92 (m + 83 + 3) (zx_X16_part__50)).trans hAa2
                have hb72 : w92 (m + 83 + 4) = some (.inr (0, 13, .inl fb2)) := (heq92 (m + 83 + 4) (zx_X16_part__51)).trans hAb2
                have hb73 : w92 (m + 83 + 5) = some (.inr (0, 13, .inl fc2)) := (heq92 (m + 83 + 5) (zx_X16_part__52)).trans hAc2
                have hb74 : w92 (m + 83 + 6) = some (.inr (0, 13, .inl fe2)) := (heq92 (m + 83 + 6) (zx_X16_part__53)).trans hAe2
                have hb75 : w92 (m + 83 + 7) = some (.inr (0, 175, .inl fr2)) := (heq92 (m + 83 + 7) (zx_X16_part__54)).trans hAr2
                have hb76 : w92 (m + 83 + 8) = some (.inr (0, 361, .inl fu2)) := (heq92 (m + 83 + 8) (zx_X16_part__55)).trans hAu2
                have hTi9 : zTi w92 (m + 83) 1 := ⟨_, _, _, _, _, _, _, _, _, hT92, hb69, hb70, hb71, hb72, hb73, hb74, hb75, hb76, ⟨rfl, hKn2, hKd2, ⟨zr1_1, zr1_1⟩, ⟨show 0 ≤ (0 : Int32).toInt by decide, show (0 : Int32).toInt ≤ 13 by decide⟩, fun i hi => absurd hi (Nat.not_lt_zero _), hKr2, hKu2, zKk_12 (Or.inl rfl) (hKk2.2.1 (Or.inr (Or.inr hk39))) (fun e => absurd e (by decide)) ⟨show (1 : Int32) ≠ 0 by decide, show (1 : Int32) ≠ 0 by decide⟩⟩⟩
                have hz77 : (to.toNatClampNeg : Int) = to.toInt := znat (by first | omega | decide)
                have hb78 : zSlo w92 (m + 7486) := hSl0.ag (fun x hx1 hx2 => ((heq92 x (zx_X16_part__56 hx1 hx2)).trans (heq85 x (zx_X16_part__12 hx1 hx2))))
                obtain ⟨kT, hkT⟩ := hb78 to.toNatClampNeg (by omega)
                refine zp_seg (pc' := 97) (lv' := [(4, .ref (m + 7486 + 9 * s9.toNatClampNeg)), (0, .ref m), (1, .int s9), (2, .int part), (3, .int to)]) (st' := [.int to, .ref m]) [(95, .aload_n 0), (96, .iload_n 3)] (by decide +kernel) rfl ?_
                have hb79 : w92 m = some (.inl (15, zMo m g r)) := (heq92 m (zx_X16_part__57)).trans hb68
                have hb80 := hR_m.si (hsi85.tr hsi92)
                refine zr_callV (idx := 558) (j := 338) (by decide +kernel) (by decide +kernel) (show zMe 338 = some zq_X16_keep from rfl) rfl rfl (Nat.le_of_ble_eq_true rfl) rfl rfl hb79 (Nat.le_of_ble_eq_true rfl) (Nat.le_of_ble_eq_true rfl) (c_X16_keep (w := w92) m to hb79 hb80 hTi9 hkT (by first | omega | decide | assumption | exact zr1_1 | exact zr1_0 | fail "num")) (by omega) (fun v97 w97 hp97 => ?_)
                obtain ⟨hsi97, heq97, hp97_0, r97, rfl, hr97⟩ := hp97
                have kr97 := zrng r97
                show zP _ _ _ _ [.int r97] _ _ _ _ _
                have hSl100 := hSl0.up (w' := w97) to.toNatClampNeg hp97_0 (fun x h1 h2 h3 => ((heq97 x (by omega)).trans ((heq92 x (by omega)).trans (heq85 x (by omega)))))
                have hb81 : w97 m = some (.inl (15, zMo m g r)) := (heq97 m (by omega)).trans hb79
                have hoffend : ∀ x, (x < m + 0 ∨ m + 0 + 8322 ≤ x) → w97 x = w x := fun x hx => ((heq97 x (by omega)).trans ((heq92 x (zx_X16_part__58 hx)).trans (heq85 x (zx_X16_part__17 hx))))
                have hb82 := hb80.si hsi97
                have hb83 : zTi w97 (m + 83) 1 := hTi9.ag (fun x hx1 hx2 => (heq97 x (by omega)))
                have hb84 : zPil w97 (m + 6316) := hPl0.ag (fun x hx1 hx2 => ((heq97 x (by omega)).trans ((heq92 x (zx_X16_part__59 hx1 hx2)).trans (heq85 x (zx_X16_part__21 hx1 hx2)))))
                have hb85 : zBya w97 (m + 92) 4000 := hBo0.ag (fun x hx1 hx2 => ((heq97 x (by omega)).trans ((heq92 x (zx_X16_part__60 hx1 hx2)).trans (heq85 x (zx_X16_part__25 hx1 hx2)))))
                have hb86 : zBya w97 (m + 93) 4000 := hBl0.ag (fun x hx1 hx2 => ((heq97 x (by omega)).trans ((heq92 x (zx_X16_part__61 hx1 hx2)).trans (heq85 x (zx_X16_part__29 hx1 hx2)))))
                have hb87 : zGr w97 (m + 100) 48 48 := hGa0.ag (fun x hx1 hx2 => ((heq97 x (by omega)).trans ((heq92 x (zx_X16_part__62 hx1 hx2)).trans (heq85 x (zx_X16_part__33 hx1 hx2)))))
                have hb88 : zGr w97 (m + 212) 60 46 := hGb0.ag (fun x hx1 hx2 => ((heq97 x (by omega)).trans ((heq92 x (zx_X16_part__63 hx1 hx2)).trans (heq85 x (zx_X16_part__37 hx1 hx2)))))
                have hb89 : zBd w97 (m + 149) := hBd0.ag (fun x hx1 hx2 => ((heq97 x (by omega)).trans ((heq92 x (zx_X16_part__64 hx1 hx2)).trans (heq85 x (zx_X16_part__41 hx1 hx2)))))
                have hb90 : w97 (m + 94) = some (.inr (0, 60, .inl ff)) := ((heq97 (m + 94) (by omega)).trans ((heq92 (m + 94) (zx_X16_part__65)).trans (heq85 (m + 94) (zx_X16_part__45)))).trans hAf0
                refine zr_retI (by decide +kernel) rfl ?_
                rw [← hPost]; exact ⟨rfl, _, rfl, ((hsi85.tr hsi92).tr hsi97), hoffend, ⟨_, _, hb81, hb82, hSl100, (zTi.m hb83), hb84, ⟨_, hb90, hff⟩, hb85, hb86, hb87, hb88, hb89, hI12, hI24, hI29, hI31, hIn⟩, _, rfl, trivial⟩
            ·
              have k91 := zrng (g1 10)
              have f92 := znleI cc69
              refine zp_seg (pc' := 73) (lv' := [(4, .ref (m + 7486 + 9 * s9.toNatClampNeg)), (0, .ref m), (1, .int s9), (2, .int part), (3, .int to)]) (st' := [.int (Int32.ofInt (-1))]) [(72, .iconst (-1))] (by decide +kernel) rfl ?_
              have hoffend : ∀ x, (x < m + 0 ∨ m + 0 + 8322 ≤ x) → w x = w x := fun x hx => rfl
              refine zr_retI (by decide +kernel) rfl ?_
              rw [← hPost]; exact ⟨rfl, _, rfl, zSI.rf, hoffend, ⟨_, _, hm, hR_m, hSl0, hMd0, hPl0, ⟨_, hAf0, hff⟩, hBo0, hBl0, hGa0, hGb0, hBd0, hI12, hI24, hI29, hI31, hIn⟩, _, rfl, trivial⟩
      ·
        have k93 := zrng (g1 0)
        have f95 := zneI cc30
        rw [show (3 : Int32).toInt = 3 from by decide] at f95
        refine zp_seg (pc' := 35) (lv' := [(4, .ref (m + 7486 + 9 * s9.toNatClampNeg)), (0, .ref m), (1, .int s9), (2, .int part), (3, .int to)]) (st' := [.ref (m + 7486 + 9 * s9.toNatClampNeg)]) [(33, .aload 4)] (by decide +kernel) rfl ?_
        refine zr_get (idx := 202) (k := 0) (v := .int (g1 0)) (by decide +kernel) (by decide +kernel) hT1 rfl ?_
        refine zp_seg (pc' := 39) (lv' := [(4, .ref (m + 7486 + 9 * s9.toNatClampNeg)), (0, .ref m), (1, .int s9), (2, .int part), (3, .int to)]) (st' := [.int 4, .int (g1 0)]) [(38, .iconst 4)] (by decide +kernel) rfl ?_
        refine zp_if (i := .if_icmp .eq 6) (c := (g1 0) = 4) (t := 45) (e := 42) (lv' := [(4, .ref (m + 7486 + 9 * s9.toNatClampNeg)), (0, .ref m), (1, .int s9), (2, .int part), (3, .int to)]) (st' := []) (by decide +kernel) rfl (fun cc39 => ?_) (fun cc39 => ?_)
        ·
          have f97 := zeqI cc39
          rw [show (4 : Int32).toInt = 4 from by decide] at f97
          refine zp_seg (pc' := 48) (lv' := [(4, .ref (m + 7486 + 9 * s9.toNatClampNeg)), (0, .ref m), (1, .int s9), (2, .int part), (3, .int to)]) (st' := [.ref (m + 7486 + 9 * s9.toNatClampNeg), .int part]) [(45, .iload_n 2), (46, .aload 4)] (by decide +kernel) rfl ?_
          refine zr_get (idx := 202) (k := 0) (v := .int (g1 0)) (by decide +kernel) (by decide +kernel) hT1 rfl ?_
          refine zp_seg (pc' := 52) (lv' := [(4, .ref (m + 7486 + 9 * s9.toNatClampNeg)), (0, .ref m), (1, .int s9), (2, .int part), (3, .int to)]) (st' := [.int 3, .int (g1 0), .int part]) [(51, .iconst 3)] (by decide +kernel) rfl ?_
          refine zp_if (i := .if_icmp .ne 7) (c := ¬ (g1 0) = 3) (t := 59) (e := 55) (lv' := [(4, .ref (m + 7486 + 9 * s9.toNatClampNeg)), (0, .ref m), (1, .int s9), (2, .int part), (3, .int to)]) (st' := [.int part]) (by decide +kernel) rfl (fun cc52 => ?_) (fun cc52 => ?_)
          ·
            have f98 := zneI cc52
            rw [show (3 : Int32).toInt = 3 from by decide] at f98
            refine zp_seg (pc' := 60) (lv' := [(4, .ref (m + 7486 + 9 * s9.toNatClampNeg)), (0, .ref m), (1, .int s9), (2, .int part), (3, .int to)]) (st' := [.int 0, .int part]) [(59, .iconst 0)] (by decide +kernel) rfl ?_
            refine zp_if (i := .if_icmp .lt 12) (c := part < 0) (t := 72) (e := 63) (lv' := [(4, .ref (m + 7486 + 9 * s9.toNatClampNeg)), (0, .ref m), (1, .int s9), (2, .int part), (3, .int to)]) (st' := []) (by decide +kernel) rfl (fun cc60 => ?_) (fun cc60 => ?_)
            ·
              have f99 := zltI cc60
              rw [show (0 : Int32).toInt = 0 from by decide] at f99
              refine zp_seg (pc' := 73) (lv' := [(4, .ref (m + 7486 + 9 * s9.toNatClampNeg)), (0, .ref m), (1, .int s9), (2, .int part), (3, .int to)]) (st' := [.int (Int32.ofInt (-1))]) [(72, .iconst (-1))] (by decide +kernel) rfl ?_
              have hoffend : ∀ x, (x < m + 0 ∨ m + 0 + 8322 ≤ x) → w x = w x := fun x hx => rfl
              refine zr_retI (by decide +kernel) rfl ?_
              rw [← hPost]; exact ⟨rfl, _, rfl, zSI.rf, hoffend, ⟨_, _, hm, hR_m, hSl0, hMd0, hPl0, ⟨_, hAf0, hff⟩, hBo0, hBl0, hGa0, hGb0, hBd0, hI12, hI24, hI29, hI31, hIn⟩, _, rfl, trivial⟩
            ·
              have f101 := znltI cc60
              rw [show (0 : Int32).toInt = 0 from by decide] at f101
              refine zp_seg (pc' := 66) (lv' := [(4, .ref (m + 7486 + 9 * s9.toNatClampNeg)), (0, .ref m), (1, .int s9), (2, .int part), (3, .int to)]) (st' := [.ref (m + 7486 + 9 * s9.toNatClampNeg), .int part]) [(63, .iload_n 2), (64, .aload 4)] (by decide +kernel) rfl ?_
              refine zr_get (idx := 234) (k := 10) (v := .int (g1 10)) (by decide +kernel) (by decide +kernel) hT1 rfl ?_
              refine zp_if (i := .if_icmp .le 5) (c := part ≤ (g1 10)) (t := 74) (e := 72) (lv' := [(4, .ref (m + 7486 + 9 * s9.toNatClampNeg)), (0, .ref m), (1, .int s9), (2, .int part), (3, .int to)]) (st' := []) (by decide +kernel) rfl (fun cc69 => ?_) (fun cc69 => ?_)
              ·
                have k102 := zrng (g1 10)
                have f103 := zleI cc69
                have hord9 : 0 ≤ (g1 10).toInt ∧ (g1 10).toInt ≤ 6 := by
                  first
                  | (have h9 := hKk1.2.2.2.2.1 (hK10.symm.trans cc30)
                     exact ⟨by omega, by omega⟩)
                  | (have h9 := (hKk1.2.2.2.2.2 (hK10.symm.trans cc39)).1
                     exact ⟨by omega, by omega⟩)
                refine zp_seg (pc' := 76) (lv' := [(4, .ref (m + 7486 + 9 * s9.toNatClampNeg)), (0, .ref m), (1, .int s9), (2, .int part), (3, .int to)]) (st' := [.int (Int32.ofInt (-1)), .int part]) [(74, .iload_n 2), (75, .iconst (-1))] (by decide +kernel) rfl ?_
                refine zp_if (i := .if_icmp .ne 25) (c := ¬ part = (Int32.ofInt (-1))) (t := 101) (e := 79) (lv' := [(4, .ref (m + 7486 + 9 * s9.toNatClampNeg)), (0, .ref m), (1, .int s9), (2, .int part), (3, .int to)]) (st' := []) (by decide +kernel) rfl (fun cc76 => ?_) (fun cc76 => ?_)
                ·
                  have f105 := zneI cc76
                  rw [show (Int32.ofInt (-1) : Int32).toInt = (-1) from by decide] at f105
                  refine zp_seg (pc' := 102) (lv' := [(4, .ref (m + 7486 + 9 * s9.toNatClampNeg)), (0, .ref m), (1, .int s9), (2, .int part), (3, .int to)]) (st' := [.ref m]) [(101, .aload_n 0)] (by decide +kernel) rfl ?_
                  refine zr_callV (idx := 555) (j := 337) (by decide +kernel) (by decide +kernel) (show zMe 337 = some zq_X16_begin from rfl) rfl rfl (Nat.le_of_ble_eq_true rfl) rfl rfl hm (Nat.le_of_ble_eq_true rfl) (Nat.le_of_ble_eq_true rfl) (c_X16_beginZ (w := w) m hm hR_m) (by omega) (fun v102 w102 hp102 => ?_)
                  obtain ⟨Z9_102, hsi102, heq102, hp102_0, hp102_1, rfl⟩ := hp102
                  have hM102 : w102 m = some (.inl (15, zMo m (zs (zs (zs g 1 Z9_102) 3 Z9_102) 16 Z9_102) r)) := hp102_0
                  show zP _ _ _ _ [] _ _ _ _ _
                  have k106 := zrng Z9_102
                  have hz107 : (Z9_102.toNatClampNeg : Int) = Z9_102.toInt := znat (by first | omega | decide)
                  have hgzZ9_102_0 : Z9_102.toNatClampNeg = 0 := by omega
                  refine zp_seg (pc' := 107) (lv' := [(4, .ref (m + 7486 + 9 * s9.toNatClampNeg)), (0, .ref m), (1, .int s9), (2, .int part), (3, .int to)]) (st' := [.ref m, .ref m]) [(105, .aload_n 0), (106, .aload_n 0)] (by decide +kernel) rfl ?_
                  refine zr_get (idx := 453) (k := 21) (v := .ref (m + 83)) (by decide +kernel) (by decide +kernel) hM102 rfl ?_
                  refine zp_seg (pc' := 111) (lv' := [(4, .ref (m + 7486 + 9 * s9.toNatClampNeg)), (0, .ref m), (1, .int s9), (2, .int part), (3, .int to)]) (st' := [.int 0, .ref (m + 83), .ref m]) [(110, .iconst 0)] (by decide +kernel) rfl ?_
                  have hb108 := hR_m.si hsi102
                  have hb109 : zTm w102 (m + 83) := hMd0.ag (fun x hx1 hx2 => (heq102 x (zx_X16_part__0 hx1 hx2)))
                  refine zr_callV (idx := 292) (j := 305) (by decide +kernel) (by decide +kernel) (show zMe 305 = some zq_X16_number from rfl) rfl rfl (Nat.le_of_ble_eq_true rfl) rfl rfl hM102 (Nat.le_of_ble_eq_true rfl) (Nat.le_of_ble_eq_true rfl) (c_X16_numberM (w := w102) (g3 := Z9_102) m (m + 83) 0 hM102 hb108 hb109 (by first | omega | decide | assumption | exact zr1_1 | exact zr1_0 | fail "num") (by exact zr1_0) (by first | omega | decide | assumption | exact zr1_1 | exact zr1_0 | fail "num") rfl) (by omega) (fun v111 w111 hp111 => ?_)
                  obtain ⟨hsi111, heq111, hp111_0, rfl⟩ := hp111
                  show zP _ _ _ _ [] _ _ _ _ _
                  obtain ⟨g3, fn3, fd3, fa3, fb3, fc3, fe3, fr3, fu3, hT3, hAn3, hAd3, hAa3, hAb3, hAc3, hAe3, hAr3, hAu3, hK3⟩ := id hp111_0
                  obtain ⟨hK30, hKn3, hKd3, hKx3, hKm3, hKl3, hKr3, hKu3, hKk3⟩ := id hK3
                  have k111 := zmulCl 25 part (n := 25) (by decide) (by omega) (by omega)
                  refine zp_seg (pc' := 116) (lv' := [(4, .ref (m + 7486 + 9 * s9.toNatClampNeg)), (0, .ref m), (1, .int s9), (2, .int part), (3, .int to)]) (st' := [.ref (m + 7486 + 9 * s9.toNatClampNeg)]) [(114, .aload 4)] (by decide +kernel) rfl ?_
                  have hb112 : w111 (m + 7486 + 9 * s9.toNatClampNeg) = some (.inl (13, zTo (m + 7486 + 9 * s9.toNatClampNeg) g1)) := ((heq111 (m + 7486 + 9 * s9.toNatClampNeg) (by omega)).trans (heq102 (m + 7486 + 9 * s9.toNatClampNeg) (by omega))).trans hT1
                  refine zr_get (idx := 237) (k := 11) (v := .ref (m + 7486 + 9 * s9.toNatClampNeg + 7)) (by decide +kernel) (by decide +kernel) hb112 rfl ?_
                  refine zp_seg (pc' := 123) (lv' := [(4, .ref (m + 7486 + 9 * s9.toNatClampNeg)), (0, .ref m), (1, .int s9), (2, .int part), (3, .int to)]) (st' := [.int (25 * part), .ref (m + 7486 + 9 * s9.toNatClampNeg + 7)]) [(119, .bipush 25), (121, .iload_n 2), (122, .imul)] (by decide +kernel) rfl ?_
                  have k113 := zmulCl 25 part (n := 25) (by decide) (by omega) (by omega)
                  generalize ev123 : (25 * part : Int32) = v123 at k113 ⊢
                  have kv123 := zrng v123
                  refine zp_seg (pc' := 124) (lv' := [(4, .ref (m + 7486 + 9 * s9.toNatClampNeg)), (0, .ref m), (1, .int s9), (2, .int part), (3, .int to)]) (st' := [.ref m, .int v123, .ref (m + 7486 + 9 * s9.toNatClampNeg + 7)]) [(123, .aload_n 0)] (by decide +kernel) rfl ?_
                  have hb114 : w111 m = some (.inl (15, zMo m (zs (zs (zs g 1 Z9_102) 3 Z9_102) 16 Z9_102) r)) := (heq111 m ⟨(zx_X16_part__1), (zx_X16_part__2 hgzZ9_102_0)⟩).trans hM102
                  refine zr_get (idx := 453) (k := 21) (v := .ref (m + 83)) (by decide +kernel) (by decide +kernel) hb114 rfl ?_
                  refine zr_get (idx := 207) (k := 1) (v := .ref (m + 83 + 1)) (by decide +kernel) (by decide +kernel) hT3 rfl ?_
                  refine zp_seg (pc' := 133) (lv' := [(4, .ref (m + 7486 + 9 * s9.toNatClampNeg)), (0, .ref m), (1, .int s9), (2, .int part), (3, .int to)]) (st' := [.int 25, .int 0, .ref (m + 83 + 1), .int v123, .ref (m + 7486 + 9 * s9.toNatClampNeg + 7)]) [(130, .iconst 0), (131, .bipush 25)] (by decide +kernel) rfl ?_
                  have hb115 : w111 (m + 7486 + 9 * s9.toNatClampNeg + 7) = some (.inr (0, 175, .inl fr1)) := ((heq111 (m + 7486 + 9 * s9.toNatClampNeg + 7) (by omega)).trans (heq102 (m + 7486 + 9 * s9.toNatClampNeg + 7) (by omega))).trans hAr1
                  have hl116 : (25 : Int32).toInt = 25 := by decide
                  have hl117 : (0 : Int32).toInt = 0 := by decide
                  have hz118 : (v123.toNatClampNeg : Int) = v123.toInt := znat (by first | omega | decide)
                  refine zr_acpy (idx := 34) (by decide +kernel) (by decide +kernel) hb115 hAn3 (rfl) (by first | omega | decide) (by first | omega | decide) (by first | omega | decide) (by first | omega | decide) (by first | omega | decide) (by omega) (Nat.le_of_ble_eq_true rfl) ?_
                  show zP (d + 1) zq_X16_part_ 136 [(4, .ref (m + 7486 + 9 * s9.toNatClampNeg)), (0, .ref m), (1, .int s9), (2, .int part), (3, .int to)] [] (zup w111 (m + 83 + 1) (.inr (0, 325, .inl (va_cpy fr1 fn3 (v123.toNatClampNeg) ((0 : Int32).toNatClampNeg) ((25 : Int32).toNatClampNeg))))) sz 0 0 Post
                  obtain ⟨w133, ew133⟩ : ∃ wz9, wz9 = zup w111 (m + 83 + 1) (.inr (0, 325, .inl (va_cpy fr1 fn3 (v123.toNatClampNeg) ((0 : Int32).toNatClampNeg) ((25 : Int32).toNatClampNeg)))) := ⟨_, rfl⟩
                  have hsi133 : zSI w111 w133 := by rw [ew133]; exact zSI.arr _ hAn3
                  have heq133 : ∀ x, x ≠ m + 83 + 1 → w133 x = w111 x := fun x hx => by rw [ew133]; exact zup_n hx
                  have hc133 : w133 (m + 83 + 1) = some (.inr (0, 325, .inl (va_cpy fr1 fn3 (v123.toNatClampNeg) ((0 : Int32).toNatClampNeg) ((25 : Int32).toNatClampNeg)))) := by rw [ew133]; exact zup_s
                  rw [← ew133]
                  clear ew133
                  have hb119 : w133 (m + 83) = some (.inl (13, zTo (m + 83) g3)) := (heq133 (m + 83) (zx_X16_part__3)).trans hT3
                  have hb120 : w133 (m + 83 + 2) = some (.inr (0, 325, .inl fd3)) := (heq133 (m + 83 + 2) (zx_X16_part__4)).trans hAd3
                  have hb121 : w133 (m + 83 + 3) = some (.inr (0, 13, .inl fa3)) := (heq133 (m + 83 + 3) (zx_X16_part__5)).trans hAa3
                  have hb122 : w133 (m + 83 + 4) = some (.inr (0, 13, .inl fb3)) := (heq133 (m + 83 + 4) (zx_X16_part__6)).trans hAb3
                  have hb123 : w133 (m + 83 + 5) = some (.inr (0, 13, .inl fc3)) := (heq133 (m + 83 + 5) (zx_X16_part__7)).trans hAc3
                  have hb124 : w133 (m + 83 + 6) = some (.inr (0, 13, .inl fe3)) := (heq133 (m + 83 + 6) (zx_X16_part__8)).trans hAe3
                  have hb125 : w133 (m + 83 + 7) = some (.inr (0, 175, .inl fr3)) := (heq133 (m + 83 + 7) (zx_X16_part__9)).trans hAr3
                  have hb126 : w133 (m + 83 + 8) = some (.inr (0, 361, .inl fu3)) := (heq133 (m + 83 + 8) (zx_X16_part__10)).trans hAu3
                  have hTi9 : zTi w133 (m + 83) 1 := ⟨_, _, _, _, _, _, _, _, _, hb119, hc133, hb120, hb121, hb122, hb123, hb124, hb125, hb126, ⟨hK30, zCr_cpy3 hKn3 hKr1 (by omega), hKd3, hKx3, hKm3, hKl3, hKr3, hKu3, zKk_12 (Or.inl rfl) (hKk3.2.1 (Or.inl rfl)) (fun e => absurd e (by decide)) (hKk3.2.2.2.1 (Or.inl rfl))⟩⟩
                  have hz127 : (to.toNatClampNeg : Int) = to.toInt := znat (by first | omega | decide)
                  have hb128 : zSlo w133 (m + 7486) := hSl0.ag (fun x hx1 hx2 => ((heq133 x (zx_X16_part__14 hx1 hx2)).trans ((heq111 x ⟨(zx_X16_part__12 hx1 hx2), (zx_X16_part__13 hx1 hx2 hgzZ9_102_0)⟩).trans (heq102 x (zx_X16_part__11 hx1 hx2)))))
                  obtain ⟨kU, hkU⟩ := hb128 to.toNatClampNeg (by omega)
                  refine zp_seg (pc' := 138) (lv' := [(4, .ref (m + 7486 + 9 * s9.toNatClampNeg)), (0, .ref m), (1, .int s9), (2, .int part), (3, .int to)]) (st' := [.int to, .ref m]) [(136, .aload_n 0), (137, .iload_n 3)] (by decide +kernel) rfl ?_
                  have hb129 : w133 m = some (.inl (15, zMo m (zs (zs (zs g 1 Z9_102) 3 Z9_102) 16 Z9_102) r)) := (heq133 m (zx_X16_part__15)).trans hb114
                  have hb130 := hb108.si (hsi111.tr hsi133)
                  refine zr_callV (idx := 558) (j := 338) (by decide +kernel) (by decide +kernel) (show zMe 338 = some zq_X16_keep from rfl) rfl rfl (Nat.le_of_ble_eq_true rfl) rfl rfl hb129 (Nat.le_of_ble_eq_true rfl) (Nat.le_of_ble_eq_true rfl) (c_X16_keep (w := w133) m to hb129 hb130 hTi9 hkU (by first | omega | decide | assumption | exact zr1_1 | exact zr1_0 | fail "num")) (by omega) (fun v138 w138 hp138 => ?_)
                  obtain ⟨hsi138, heq138, hp138_0, r138, rfl, hr138⟩ := hp138
                  have kr138 := zrng r138
                  show zP _ _ _ _ [.int r138] _ _ _ _ _
                  have hSl141 := hSl0.up (w' := w138) to.toNatClampNeg hp138_0 (fun x h1 h2 h3 => ((heq138 x (by omega)).trans ((heq133 x (by omega)).trans ((heq111 x (by omega)).trans (heq102 x (by omega))))))
                  have hb131 : w138 m = some (.inl (15, zMo m (zs (zs (zs g 1 Z9_102) 3 Z9_102) 16 Z9_102) r)) := (heq138 m (by omega)).trans hb129
                  have hoffend : ∀ x, (x < m + 0 ∨ m + 0 + 8322 ≤ x) → w138 x = w x := fun x hx => ((heq138 x (by omega)).trans ((heq133 x (zx_X16_part__19 hx)).trans ((heq111 x ⟨(zx_X16_part__17 hx), (zx_X16_part__18 hx hgzZ9_102_0)⟩).trans (heq102 x (zx_X16_part__16 hx)))))
                  have hb132 := hb130.si hsi138
                  have hb133 : zTi w138 (m + 83) 1 := hTi9.ag (fun x hx1 hx2 => (heq138 x (by omega)))
                  have hb134 : zPil w138 (m + 6316) := hPl0.ag (fun x hx1 hx2 => ((heq138 x (by omega)).trans ((heq133 x (zx_X16_part__23 hx1 hx2)).trans ((heq111 x ⟨(zx_X16_part__21 hx1 hx2), (zx_X16_part__22 hx1 hx2 hgzZ9_102_0)⟩).trans (heq102 x (zx_X16_part__20 hx1 hx2))))))
                  have hb135 : zBya w138 (m + 92) 4000 := hBo0.ag (fun x hx1 hx2 => ((heq138 x (by omega)).trans ((heq133 x (zx_X16_part__27 hx1 hx2)).trans ((heq111 x ⟨(zx_X16_part__25 hx1 hx2), (zx_X16_part__26 hx1 hx2 hgzZ9_102_0)⟩).trans (heq102 x (zx_X16_part__24 hx1 hx2))))))
                  have hb136 : zBya w138 (m + 93) 4000 := hBl0.ag (fun x hx1 hx2 => ((heq138 x (by omega)).trans ((heq133 x (zx_X16_part__31 hx1 hx2)).trans ((heq111 x ⟨(zx_X16_part__29 hx1 hx2), (zx_X16_part__30 hx1 hx2 hgzZ9_102_0)⟩).trans (heq102 x (zx_X16_part__28 hx1 hx2))))))
                  have hb137 : zGr w138 (m + 100) 48 48 := hGa0.ag (fun x hx1 hx2 => ((heq138 x (by omega)).trans ((heq133 x (zx_X16_part__35 hx1 hx2)).trans ((heq111 x ⟨(zx_X16_part__33 hx1 hx2), (zx_X16_part__34 hx1 hx2 hgzZ9_102_0)⟩).trans (heq102 x (zx_X16_part__32 hx1 hx2))))))
                  have hb138 : zGr w138 (m + 212) 60 46 := hGb0.ag (fun x hx1 hx2 => ((heq138 x (by omega)).trans ((heq133 x (zx_X16_part__39 hx1 hx2)).trans ((heq111 x ⟨(zx_X16_part__37 hx1 hx2), (zx_X16_part__38 hx1 hx2 hgzZ9_102_0)⟩).trans (heq102 x (zx_X16_part__36 hx1 hx2))))))
                  have hb139 : zBd w138 (m + 149) := hBd0.ag (fun x hx1 hx2 => ((heq138 x (by omega)).trans ((heq133 x (zx_X16_part__43 hx1 hx2)).trans ((heq111 x ⟨(zx_X16_part__41 hx1 hx2), (zx_X16_part__42 hx1 hx2 hgzZ9_102_0)⟩).trans (heq102 x (zx_X16_part__40 hx1 hx2))))))
                  have hb140 : w138 (m + 94) = some (.inr (0, 60, .inl ff)) := ((heq138 (m + 94) (by omega)).trans ((heq133 (m + 94) (zx_X16_part__47)).trans ((heq111 (m + 94) ⟨(zx_X16_part__45), (zx_X16_part__46 hgzZ9_102_0)⟩).trans (heq102 (m + 94) (zx_X16_part__44))))).trans hAf0
                  refine zr_retI (by decide +kernel) rfl ?_
                  rw [← hPost]; exact ⟨rfl, _, rfl, (((hsi102.tr hsi111).tr hsi133).tr hsi138), hoffend, ⟨_, _, hb131, hb132, hSl141, (zTi.m hb133), hb134, ⟨_, hb140, hff⟩, hb135, hb136, hb137, hb138, hb139, hI12, hI24, hI29, hI31, hIn⟩, _, rfl, trivial⟩
                ·
                  replace cc76 := Classical.not_not.mp cc76
                  have f142 := zeqI cc76
                  rw [show (Int32.ofInt (-1) : Int32).toInt = (-1) from by decide] at f142
                  have hk39 : kS1 = 3 := by
                    first
                    | exact hK10.symm.trans cc30
                    | (exfalso; omega)
                  refine zp_seg (pc' := 80) (lv' := [(4, .ref (m + 7486 + 9 * s9.toNatClampNeg)), (0, .ref m), (1, .int s9), (2, .int part), (3, .int to)]) (st' := [.ref m]) [(79, .aload_n 0)] (by decide +kernel) rfl ?_
                  refine zr_get (idx := 453) (k := 21) (v := .ref (m + 83)) (by decide +kernel) (by decide +kernel) hm rfl ?_
                  refine zp_seg (pc' := 85) (lv' := [(4, .ref (m + 7486 + 9 * s9.toNatClampNeg)), (0, .ref m), (1, .int s9), (2, .int part), (3, .int to)]) (st' := [.ref (m + 7486 + 9 * s9.toNatClampNeg), .ref (m + 83)]) [(83, .aload 4)] (by decide +kernel) rfl ?_
                  refine zr_callS (idx := 547) (j := 298) (by decide +kernel) (by decide +kernel) (by decide) (show zMe 298 = some zq_X16_copy from rfl) rfl rfl (Nat.le_of_ble_eq_true rfl) rfl rfl (Nat.le_of_ble_eq_true rfl) (Nat.le_of_ble_eq_true rfl) (c_X16_copyM (w := w) (m + 83) (m + 7486 + 9 * s9.toNatClampNeg) hMd0 hkS1 (by first | omega | decide | assumption | exact zr1_1 | exact zr1_0 | fail "num")) (by omega) (fun v85 w85 hp85 => ?_)
                  obtain ⟨hsi85, heq85, hp85_0, rfl⟩ := hp85
                  show zP _ _ _ _ [] _ _ _ _ _
                  obtain ⟨g2, fn2, fd2, fa2, fb2, fc2, fe2, fr2, fu2, hT2, hAn2, hAd2, hAa2, hAb2, hAc2, hAe2, hAr2, hAu2, hK2⟩ := id hp85_0
                  obtain ⟨hK20, hKn2, hKd2, hKx2, hKm2, hKl2, hKr2, hKu2, hKk2⟩ := id hK2
                  refine zp_seg (pc' := 89) (lv' := [(4, .ref (m + 7486 + 9 * s9.toNatClampNeg)), (0, .ref m), (1, .int s9), (2, .int part), (3, .int to)]) (st' := [.ref m]) [(88, .aload_n 0)] (by decide +kernel) rfl ?_
                  have hb143 : w85 m = some (.inl (15, zMo m g r)) := (heq85 m (zx_X16_part__1)).trans hm
                  refine zr_get (idx := 453) (k := 21) (v := .ref (m + 83)) (by decide +kernel) (by decide +kernel) hb143 rfl ?_
                  refine zr_callS (idx := 257) (j := 304) (by decide +kernel) (by decide +kernel) (by decide) (show zMe 304 = some zq_X16_plain from rfl) rfl rfl (Nat.le_of_ble_eq_true rfl) rfl rfl (Nat.le_of_ble_eq_true rfl) (Nat.le_of_ble_eq_true rfl) (c_X16_plain (w := w85) (m + 83) hT2) (by omega) (fun v92 w92 hp92 => ?_)
                  obtain ⟨hsi92, heq92, hp92_0, rfl⟩ := hp92
                  have hT92 : w92 (m + 83) = some (.inl (13, zTo (m + 83) (zs (zs (zs (zs g2 0 1) 3 1) 4 1) 5 0))) := hp92_0
                  show zP _ _ _ _ [] _ _ _ _ _
                  have hb144 : w92 (m + 83 + 1) = some (.inr (0, 325, .inl fn2)) := (heq92 (m + 83 + 1) (zx_X16_part__48)).trans hAn2
                  have hb145 : w92 (m + 83 + 2) = some (.inr (0, 325, .inl fd2)) := (heq92 (m + 83 + 2) (zx_X16_part__49)).trans hAd2
                  have hb146 : w92 (m + 83 + 3) = some (.inr (0, 13, .inl fa2)) := (heq92 (m + 83 + 3) (zx_X16_part__50)).trans hAa2
                  have hb147 : w92 (m + 83 + 4) = some (.inr (0, 13, .inl fb2)) := (heq92 (m + 83 + 4) (zx_X16_part__51)).trans hAb2
                  have hb148 : w92 (m + 83 + 5) = some (.inr (0, 13, .inl fc2)) := (heq92 (m + 83 + 5) (zx_X16_part__52)).trans hAc2
                  have hb149 : w92 (m + 83 + 6) = some (.inr (0, 13, .inl fe2)) := (heq92 (m + 83 + 6) (zx_X16_part__53)).trans hAe2
                  have hb150 : w92 (m + 83 + 7) = some (.inr (0, 175, .inl fr2)) := (heq92 (m + 83 + 7) (zx_X16_part__54)).trans hAr2
                  have hb151 : w92 (m + 83 + 8) = some (.inr (0, 361, .inl fu2)) := (heq92 (m + 83 + 8) (zx_X16_part__55)).trans hAu2
                  have hTi9 : zTi w92 (m + 83) 1 := ⟨_, _, _, _, _, _, _, _, _, hT92, hb144, hb145, hb146, hb147, hb148, hb149, hb150, hb151, ⟨rfl, hKn2, hKd2, ⟨zr1_1, zr1_1⟩, ⟨show 0 ≤ (0 : Int32).toInt by decide, show (0 : Int32).toInt ≤ 13 by decide⟩, fun i hi => absurd hi (Nat.not_lt_zero _), hKr2, hKu2, zKk_12 (Or.inl rfl) (hKk2.2.1 (Or.inr (Or.inr hk39))) (fun e => absurd e (by decide)) ⟨show (1 : Int32) ≠ 0 by decide, show (1 : Int32) ≠ 0 by decide⟩⟩⟩
                  have hz152 : (to.toNatClampNeg : Int) = to.toInt := znat (by first | omega | decide)
                  have hb153 : zSlo w92 (m + 7486) := hSl0.ag (fun x hx1 hx2 => ((heq92 x (zx_X16_part__56 hx1 hx2)).trans (heq85 x (zx_X16_part__12 hx1 hx2))))
                  obtain ⟨kT, hkT⟩ := hb153 to.toNatClampNeg (by omega)
                  refine zp_seg (pc' := 97) (lv' := [(4, .ref (m + 7486 + 9 * s9.toNatClampNeg)), (0, .ref m), (1, .int s9), (2, .int part), (3, .int to)]) (st' := [.int to, .ref m]) [(95, .aload_n 0), (96, .iload_n 3)] (by decide +kernel) rfl ?_
                  have hb154 : w92 m = some (.inl (15, zMo m g r)) := (heq92 m (zx_X16_part__57)).trans hb143
                  have hb155 := hR_m.si (hsi85.tr hsi92)
                  refine zr_callV (idx := 558) (j := 338) (by decide +kernel) (by decide +kernel) (show zMe 338 = some zq_X16_keep from rfl) rfl rfl (Nat.le_of_ble_eq_true rfl) rfl rfl hb154 (Nat.le_of_ble_eq_true rfl) (Nat.le_of_ble_eq_true rfl) (c_X16_keep (w := w92) m to hb154 hb155 hTi9 hkT (by first | omega | decide | assumption | exact zr1_1 | exact zr1_0 | fail "num")) (by omega) (fun v97 w97 hp97 => ?_)
                  obtain ⟨hsi97, heq97, hp97_0, r97, rfl, hr97⟩ := hp97
                  have kr97 := zrng r97
                  show zP _ _ _ _ [.int r97] _ _ _ _ _
                  have hSl100 := hSl0.up (w' := w97) to.toNatClampNeg hp97_0 (fun x h1 h2 h3 => ((heq97 x (by omega)).trans ((heq92 x (by omega)).trans (heq85 x (by omega)))))
                  have hb156 : w97 m = some (.inl (15, zMo m g r)) := (heq97 m (by omega)).trans hb154
                  have hoffend : ∀ x, (x < m + 0 ∨ m + 0 + 8322 ≤ x) → w97 x = w x := fun x hx => ((heq97 x (by omega)).trans ((heq92 x (zx_X16_part__58 hx)).trans (heq85 x (zx_X16_part__17 hx))))
                  have hb157 := hb155.si hsi97
                  have hb158 : zTi w97 (m + 83) 1 := hTi9.ag (fun x hx1 hx2 => (heq97 x (by omega)))
                  have hb159 : zPil w97 (m + 6316) := hPl0.ag (fun x hx1 hx2 => ((heq97 x (by omega)).trans ((heq92 x (zx_X16_part__59 hx1 hx2)).trans (heq85 x (zx_X16_part__21 hx1 hx2)))))
                  have hb160 : zBya w97 (m + 92) 4000 := hBo0.ag (fun x hx1 hx2 => ((heq97 x (by omega)).trans ((heq92 x (zx_X16_part__60 hx1 hx2)).trans (heq85 x (zx_X16_part__25 hx1 hx2)))))
                  have hb161 : zBya w97 (m + 93) 4000 := hBl0.ag (fun x hx1 hx2 => ((heq97 x (by omega)).trans ((heq92 x (zx_X16_part__61 hx1 hx2)).trans (heq85 x (zx_X16_part__29 hx1 hx2)))))
                  have hb162 : zGr w97 (m + 100) 48 48 := hGa0.ag (fun x hx1 hx2 => ((heq97 x (by omega)).trans ((heq92 x (zx_X16_part__62 hx1 hx2)).trans (heq85 x (zx_X16_part__33 hx1 hx2)))))
                  have hb163 : zGr w97 (m + 212) 60 46 := hGb0.ag (fun x hx1 hx2 => ((heq97 x (by omega)).trans ((heq92 x (zx_X16_part__63 hx1 hx2)).trans (heq85 x (zx_X16_part__37 hx1 hx2)))))
                  have hb164 : zBd w97 (m + 149) := hBd0.ag (fun x hx1 hx2 => ((heq97 x (by omega)).trans ((heq92 x (zx_X16_part__64 hx1 hx2)).trans (heq85 x (zx_X16_part__41 hx1 hx2)))))
                  have hb165 : w97 (m + 94) = some (.inr (0, 60, .inl ff)) := ((heq97 (m + 94) (by omega)).trans ((heq92 (m + 94) (zx_X16_part__65)).trans (heq85 (m + 94) (zx_X16_part__45)))).trans hAf0
                  refine zr_retI (by decide +kernel) rfl ?_
                  rw [← hPost]; exact ⟨rfl, _, rfl, ((hsi85.tr hsi92).tr hsi97), hoffend, ⟨_, _, hb156, hb157, hSl100, (zTi.m hb158), hb159, ⟨_, hb165, hff⟩, hb160, hb161, hb162, hb163, hb164, hI12, hI24, hI29, hI31, hIn⟩, _, rfl, trivial⟩
              ·
                have k166 := zrng (g1 10)
                have f167 := znleI cc69
                refine zp_seg (pc' := 73) (lv' := [(4, .ref (m + 7486 + 9 * s9.toNatClampNeg)), (0, .ref m), (1, .int s9), (2, .int part), (3, .int to)]) (st' := [.int (Int32.ofInt (-1))]) [(72, .iconst (-1))] (by decide +kernel) rfl ?_
                have hoffend : ∀ x, (x < m + 0 ∨ m + 0 + 8322 ≤ x) → w x = w x := fun x hx => rfl
                refine zr_retI (by decide +kernel) rfl ?_
                rw [← hPost]; exact ⟨rfl, _, rfl, zSI.rf, hoffend, ⟨_, _, hm, hR_m, hSl0, hMd0, hPl0, ⟨_, hAf0, hff⟩, hBo0, hBl0, hGa0, hGb0, hBd0, hI12, hI24, hI29, hI31, hIn⟩, _, rfl, trivial⟩
          ·
            replace cc52 := Classical.not_not.mp cc52
            exact absurd cc52 cc30
        ·
          have f170 := zneI cc39
          rw [show (4 : Int32).toInt = 4 from by decide] at f170
          refine zp_seg (pc' := 44) (lv' := [(4, .ref (m + 7486 + 9 * s9.toNatClampNeg)), (0, .ref m), (1, .int s9), (2, .int part), (3, .int to)]) (st' := [.int (Int32.ofInt (-3))]) [(42, .bipush (-3))] (by decide +kernel) rfl ?_
          have hoffend : ∀ x, (x < m + 0 ∨ m + 0 + 8322 ≤ x) → w x = w x := fun x hx => rfl
          refine zr_retI (by decide +kernel) rfl ?_
          rw [← hPost]; exact ⟨rfl, _, rfl, zSI.rf, hoffend, ⟨_, _, hm, hR_m, hSl0, hMd0, hPl0, ⟨_, hAf0, hff⟩, hBo0, hBl0, hGa0, hGb0, hBd0, hI12, hI24, hI29, hI31, hIn⟩, _, rfl, trivial⟩
    ·
      replace cc11 := Classical.not_not.mp cc11
      have f172 := zeqI cc11
      rw [show (0 : Int32).toInt = 0 from by decide] at f172
      refine zp_seg (pc' := 15) (lv' := [(0, .ref m), (1, .int s9), (2, .int part), (3, .int to)]) (st' := [.int (Int32.ofInt (-1))]) [(14, .iconst (-1))] (by decide +kernel) rfl ?_
      have hoffend : ∀ x, (x < m + 0 ∨ m + 0 + 8322 ≤ x) → w x = w x := fun x hx => rfl
      refine zr_retI (by decide +kernel) rfl ?_
      rw [← hPost]; exact ⟨rfl, _, rfl, zSI.rf, hoffend, ⟨_, _, hm, hR_m, hSl0, hMd0, hPl0, ⟨_, hAf0, hff⟩, hBo0, hBl0, hGa0, hGb0, hBd0, hI12, hI24, hI29, hI31, hIn⟩, _, rfl, trivial⟩

set_option maxHeartbeats 8000000 in
set_option maxRecDepth 100000 in
theorem c_X16_first {w : zM} {n9 : Int32} (m : Nat) (s9 : Int32) (v : Int32) (hI : zInv w m n9) : zCon 4 zq_X16_first [.ref m, .int s9, .int v] w (fun v9 w9' => zSI w w9' ∧ (∀ x, (x < m + 0 ∨ m + 0 + 8322 ≤ x) → w9' x = w x) ∧ zInv w9' m n9 ∧ ∃ r9 : Int32, v9 = some (.int r9) ∧ True) := by
  intro d sz hd
  obtain ⟨d, rfl⟩ : ∃ d9, d = d9 + 1 := ⟨d - 1, by omega⟩
  generalize hPost : (fun (r9' : Option (Option Value)) (w9' : zM) (z9 : Nat) => z9 = sz ∧ ∃ v9, r9' = some v9 ∧ (zSI w w9' ∧ (∀ x, (x < m + 0 ∨ m + 0 + 8322 ≤ x) → w9' x = w x) ∧ zInv w9' m n9 ∧ ∃ r9 : Int32, v9 = some (.int r9) ∧ True)) = Post
  show zP (d + 1) zq_X16_first 0 [(0, .ref m), (1, .int s9), (2, .int v)] [] w sz 0 0 Post
  have k1 := zrng s9
  have k2 := zrng v
  obtain ⟨g, r, hm, hR_m, hSl0, hMd0, hPl0, ⟨ff, hAf0, hff⟩, hBo0, hBl0, hGa0, hGb0, hBd0, hI12, hI24, hI29, hI31, hIn⟩ := hI
  have k3 := zrng (g 12)
  have hz4 : ((g 12).toNatClampNeg : Int) = (g 12).toInt := znat (by first | omega | decide)
  have k5 := zrng (g 24)
  have hz6 : ((g 24).toNatClampNeg : Int) = (g 24).toInt := znat (by first | omega | decide)
  have k7 := zrng (g 29)
  have hz8 : ((g 29).toNatClampNeg : Int) = (g 29).toInt := znat (by first | omega | decide)
  have k9 := zrng (g 31)
  have hz10 : ((g 31).toNatClampNeg : Int) = (g 31).toInt := znat (by first | omega | decide)
  refine zp_seg (pc' := 1) (lv' := [(0, .ref m), (1, .int s9), (2, .int v)]) (st' := [.int s9]) [(0, .iload_n 1)] (by decide +kernel) rfl ?_
  refine zr_callS (idx := 551) (j := 336) (by decide +kernel) (by decide +kernel) (by decide) (show zMe 336 = some zq_X16_isSlot from rfl) rfl rfl (Nat.le_of_ble_eq_true rfl) rfl rfl (Nat.le_of_ble_eq_true rfl) (Nat.le_of_ble_eq_true rfl) (c_X16_isSlot (w := w) s9 ) (by omega) (fun v1 w1 hp1 => ?_)
  obtain ⟨hpw1, r1, rfl, hrb1, hr1⟩ := hp1
  replace hpw1 := hpw1.symm
  subst hpw1
  have kr1 := zrng r1
  show zP _ _ _ _ [.int r1] _ _ _ _ _
  refine zp_if (i := .ifCond .ne 5) (c := ¬ r1 = 0) (t := 9) (e := 7) (lv' := [(0, .ref m), (1, .int s9), (2, .int v)]) (st' := []) (by decide +kernel) rfl (fun cc4 => ?_) (fun cc4 => ?_)
  ·
    have f12 := zneI cc4
    rw [show (0 : Int32).toInt = 0 from by decide] at f12
    have his1 := hr1 (hrb1.resolve_left cc4)
    refine zp_seg (pc' := 10) (lv' := [(0, .ref m), (1, .int s9), (2, .int v)]) (st' := [.ref m]) [(9, .aload_n 0)] (by decide +kernel) rfl ?_
    refine zr_get (idx := 450) (k := 20) (v := .ref (m + 82)) (by decide +kernel) (by decide +kernel) hm rfl ?_
    refine zp_seg (pc' := 14) (lv' := [(0, .ref m), (1, .int s9), (2, .int v)]) (st' := [.int s9, .ref (m + 82)]) [(13, .iload_n 1)] (by decide +kernel) rfl ?_
    have hb14 := hR_m.slots
    have hz15 : (s9.toNatClampNeg : Int) = s9.toInt := znat (by first | omega | decide)
    refine zr_aald (v := .ref (m + 7486 + 9 * s9.toNatClampNeg)) (by decide +kernel) hb14 (by decide) (zin (by first | omega | decide) (by first | omega | decide)) (zsl_at (by omega)) ?_
    refine zp_seg (pc' := 16) (lv' := [(3, .ref (m + 7486 + 9 * s9.toNatClampNeg)), (0, .ref m), (1, .int s9), (2, .int v)]) (st' := []) [(15, .astore_n 3)] (by decide +kernel) rfl ?_
    obtain ⟨kS1, hkS1⟩ := hSl0 s9.toNatClampNeg (by omega)
    obtain ⟨g1, fn1, fd1, fa1, fb1, fc1, fe1, fr1, fu1, hT1, hAn1, hAd1, hAa1, hAb1, hAc1, hAe1, hAr1, hAu1, hK1⟩ := id hkS1
    obtain ⟨hK10, hKn1, hKd1, hKx1, hKm1, hKl1, hKr1, hKu1, hKk1⟩ := id hK1
    refine zp_seg (pc' := 17) (lv' := [(3, .ref (m + 7486 + 9 * s9.toNatClampNeg)), (0, .ref m), (1, .int s9), (2, .int v)]) (st' := [.ref (m + 7486 + 9 * s9.toNatClampNeg)]) [(16, .aload_n 3)] (by decide +kernel) rfl ?_
    refine zr_get (idx := 202) (k := 0) (v := .int (g1 0)) (by decide +kernel) (by decide +kernel) hT1 rfl ?_
    refine zp_seg (pc' := 21) (lv' := [(3, .ref (m + 7486 + 9 * s9.toNatClampNeg)), (0, .ref m), (1, .int s9), (2, .int v)]) (st' := [.int 4, .int (g1 0)]) [(20, .iconst 4)] (by decide +kernel) rfl ?_
    refine zp_if (i := .if_icmp .eq 6) (c := (g1 0) = 4) (t := 27) (e := 24) (lv' := [(3, .ref (m + 7486 + 9 * s9.toNatClampNeg)), (0, .ref m), (1, .int s9), (2, .int v)]) (st' := []) (by decide +kernel) rfl (fun cc21 => ?_) (fun cc21 => ?_)
    ·
      have k16 := zrng (g1 0)
      have f18 := zeqI cc21
      rw [show (4 : Int32).toInt = 4 from by decide] at f18
      refine zp_seg (pc' := 28) (lv' := [(3, .ref (m + 7486 + 9 * s9.toNatClampNeg)), (0, .ref m), (1, .int s9), (2, .int v)]) (st' := [.ref (m + 7486 + 9 * s9.toNatClampNeg)]) [(27, .aload_n 3)] (by decide +kernel) rfl ?_
      refine zr_get (idx := 243) (k := 13) (v := .int (g1 13)) (by decide +kernel) (by decide +kernel) hT1 rfl ?_
      refine zp_seg (pc' := 32) (lv' := [(3, .ref (m + 7486 + 9 * s9.toNatClampNeg)), (0, .ref m), (1, .int s9), (2, .int v)]) (st' := [.ref (m + 7486 + 9 * s9.toNatClampNeg), .int (g1 13)]) [(31, .aload_n 3)] (by decide +kernel) rfl ?_
      refine zr_get (idx := 240) (k := 12) (v := .int (g1 12)) (by decide +kernel) (by decide +kernel) hT1 rfl ?_
      refine zp_if (i := .if_icmp .ne 5) (c := ¬ (g1 13) = (g1 12)) (t := 40) (e := 38) (lv' := [(3, .ref (m + 7486 + 9 * s9.toNatClampNeg)), (0, .ref m), (1, .int s9), (2, .int v)]) (st' := []) (by decide +kernel) rfl (fun cc35 => ?_) (fun cc35 => ?_)
      ·
        have k19 := zrng (g1 13)
        have k20 := zrng (g1 12)
        have f21 := zneI cc35
        have hk49 : kS1 = 4 := hK10.symm.trans cc21
        have hrow9 := (hKk1.2.2.2.2.2 hk49).1
        have hlt9 : (g1 13).toInt < (g1 12).toInt := by
          have h9 : ¬ (g1 13).toInt = (g1 12).toInt := fun e => cc35 (Int32.toInt_inj.mp e)
          omega
        have hz22 : ((g1 13).toNatClampNeg : Int) = (g1 13).toInt := znat (by first | omega | decide)
        refine zp_seg (pc' := 41) (lv' := [(3, .ref (m + 7486 + 9 * s9.toNatClampNeg)), (0, .ref m), (1, .int s9), (2, .int v)]) (st' := [.ref (m + 7486 + 9 * s9.toNatClampNeg)]) [(40, .aload_n 3)] (by decide +kernel) rfl ?_
        refine zr_get (idx := 246) (k := 14) (v := .ref (m + 7486 + 9 * s9.toNatClampNeg + 8)) (by decide +kernel) (by decide +kernel) hT1 rfl ?_
        refine zp_seg (pc' := 46) (lv' := [(3, .ref (m + 7486 + 9 * s9.toNatClampNeg)), (0, .ref m), (1, .int s9), (2, .int v)]) (st' := [.ref (m + 7486 + 9 * s9.toNatClampNeg), .ref (m + 7486 + 9 * s9.toNatClampNeg), .ref (m + 7486 + 9 * s9.toNatClampNeg + 8)]) [(44, .aload_n 3), (45, .dup)] (by decide +kernel) rfl ?_
        refine zr_get (idx := 243) (k := 13) (v := .int (g1 13)) (by decide +kernel) (by decide +kernel) hT1 rfl ?_
        refine zp_seg (pc' := 52) (lv' := [(3, .ref (m + 7486 + 9 * s9.toNatClampNeg)), (0, .ref m), (1, .int s9), (2, .int v)]) (st' := [.int ((g1 13) + 1), .ref (m + 7486 + 9 * s9.toNatClampNeg), .int (g1 13), .ref (m + 7486 + 9 * s9.toNatClampNeg + 8)]) [(49, .dup_x1), (50, .iconst 1), (51, .iadd)] (by decide +kernel) rfl ?_
        have k23 := zaddC ((g1 13)) 1 (n := 1) (by decide) (by omega) (by omega)
        generalize ev52 : ((g1 13) + 1 : Int32) = v52 at k23 ⊢
        have kv52 := zrng v52
        refine zr_put2 (idx := 243) (k := 13) (fs2 := zTo (m + 7486 + 9 * s9.toNatClampNeg) (zs g1 13 v52)) (by decide +kernel) (by decide +kernel) hT1 (Nat.le_of_ble_eq_true rfl) rfl rfl rfl ?_
        show zP (d + 1) zq_X16_first 55 [(3, .ref (m + 7486 + 9 * s9.toNatClampNeg)), (0, .ref m), (1, .int s9), (2, .int v)] [.int (g1 13), .ref (m + 7486 + 9 * s9.toNatClampNeg + 8)] (zup w (m + 7486 + 9 * s9.toNatClampNeg) (.inl (13, zTo (m + 7486 + 9 * s9.toNatClampNeg) (zs g1 13 v52)))) sz 0 0 Post
        obtain ⟨w52, ew52⟩ : ∃ wz9, wz9 = zup w (m + 7486 + 9 * s9.toNatClampNeg) (.inl (13, zTo (m + 7486 + 9 * s9.toNatClampNeg) (zs g1 13 v52))) := ⟨_, rfl⟩
        have hsi52 : zSI w w52 := by rw [ew52]; exact zSI.setT hT1 _
        have heq52 : ∀ x, x ≠ m + 7486 + 9 * s9.toNatClampNeg → w52 x = w x := fun x hx => by rw [ew52]; exact zup_n hx
        have hc52 : w52 (m + 7486 + 9 * s9.toNatClampNeg) = some (.inl (13, zTo (m + 7486 + 9 * s9.toNatClampNeg) (zs g1 13 v52))) := by rw [ew52]; exact zup_s
        rw [← ew52]
        clear ew52
        refine zp_seg (pc' := 56) (lv' := [(3, .ref (m + 7486 + 9 * s9.toNatClampNeg)), (0, .ref m), (1, .int s9), (2, .int v)]) (st' := [.int v, .int (g1 13), .ref (m + 7486 + 9 * s9.toNatClampNeg + 8)]) [(55, .iload_n 2)] (by decide +kernel) rfl ?_
        refine zr_callS (idx := 600) (j := 260) (by decide +kernel) (by decide +kernel) (by decide) (show zMe 260 = some zq_X16_rest from rfl) rfl rfl (Nat.le_of_ble_eq_true rfl) rfl rfl (Nat.le_of_ble_eq_true rfl) (Nat.le_of_ble_eq_true rfl) (c_X16_rest (w := w52) v ) (by omega) (fun v56 w56 hp56 => ?_)
        obtain ⟨hpw56, r56, rfl, hr56⟩ := hp56
        replace hpw56 := hpw56.symm
        subst hpw56
        have kr56 := zrng r56
        show zP _ _ _ _ [.int r56, .int (g1 13), .ref (m + 7486 + 9 * s9.toNatClampNeg + 8)] _ _ _ _ _
        have hb24 : w52 (m + 7486 + 9 * s9.toNatClampNeg + 8) = some (.inr (0, 361, .inl fu1)) := (heq52 (m + 7486 + 9 * s9.toNatClampNeg + 8) (by omega)).trans hAu1
        refine zr_iast (by decide +kernel) hb24 (zin (by first | omega | decide) (by first | omega | decide)) ?_
        show zP (d + 1) zq_X16_first 60 [(3, .ref (m + 7486 + 9 * s9.toNatClampNeg)), (0, .ref m), (1, .int s9), (2, .int v)] [] (zup w52 (m + 7486 + 9 * s9.toNatClampNeg + 8) (.inr (0, 361, .inl (upd fu1 ((g1 13).toNatClampNeg) r56)))) sz 0 0 Post
        obtain ⟨w59, ew59⟩ : ∃ wz9, wz9 = zup w52 (m + 7486 + 9 * s9.toNatClampNeg + 8) (.inr (0, 361, .inl (upd fu1 ((g1 13).toNatClampNeg) r56))) := ⟨_, rfl⟩
        have hsi59 : zSI w52 w59 := by rw [ew59]; exact zSI.arr _ hb24
        have heq59 : ∀ x, x ≠ m + 7486 + 9 * s9.toNatClampNeg + 8 → w59 x = w52 x := fun x hx => by rw [ew59]; exact zup_n hx
        have hc59 : w59 (m + 7486 + 9 * s9.toNatClampNeg + 8) = some (.inr (0, 361, .inl (upd fu1 ((g1 13).toNatClampNeg) r56))) := by rw [ew59]; exact zup_s
        rw [← ew59]
        clear ew59
        have hb25 : w59 (m + 7486 + 9 * s9.toNatClampNeg) = some (.inl (13, zTo (m + 7486 + 9 * s9.toNatClampNeg) (zs g1 13 v52))) := (heq59 (m + 7486 + 9 * s9.toNatClampNeg) (by omega)).trans hc52
        have hb26 : w59 (m + 7486 + 9 * s9.toNatClampNeg + 1) = some (.inr (0, 325, .inl fn1)) := ((heq59 (m + 7486 + 9 * s9.toNatClampNeg + 1) (by omega)).trans (heq52 (m + 7486 + 9 * s9.toNatClampNeg + 1) (by omega))).trans hAn1
        have hb27 : w59 (m + 7486 + 9 * s9.toNatClampNeg + 2) = some (.inr (0, 325, .inl fd1)) := ((heq59 (m + 7486 + 9 * s9.toNatClampNeg + 2) (by omega)).trans (heq52 (m + 7486 + 9 * s9.toNatClampNeg + 2) (by omega))).trans hAd1
        have hb28 : w59 (m + 7486 + 9 * s9.toNatClampNeg + 3) = some (.inr (0, 13, .inl fa1)) := ((heq59 (m + 7486 + 9 * s9.toNatClampNeg + 3) (by omega)).trans (heq52 (m + 7486 + 9 * s9.toNatClampNeg + 3) (by omega))).trans hAa1
        have hb29 : w59 (m + 7486 + 9 * s9.toNatClampNeg + 4) = some (.inr (0, 13, .inl fb1)) := ((heq59 (m + 7486 + 9 * s9.toNatClampNeg + 4) (by omega)).trans (heq52 (m + 7486 + 9 * s9.toNatClampNeg + 4) (by omega))).trans hAb1
        have hb30 : w59 (m + 7486 + 9 * s9.toNatClampNeg + 5) = some (.inr (0, 13, .inl fc1)) := ((heq59 (m + 7486 + 9 * s9.toNatClampNeg + 5) (by omega)).trans (heq52 (m + 7486 + 9 * s9.toNatClampNeg + 5) (by omega))).trans hAc1
        have hb31 : w59 (m + 7486 + 9 * s9.toNatClampNeg + 6) = some (.inr (0, 13, .inl fe1)) := ((heq59 (m + 7486 + 9 * s9.toNatClampNeg + 6) (by omega)).trans (heq52 (m + 7486 + 9 * s9.toNatClampNeg + 6) (by omega))).trans hAe1
        have hb32 : w59 (m + 7486 + 9 * s9.toNatClampNeg + 7) = some (.inr (0, 175, .inl fr1)) := ((heq59 (m + 7486 + 9 * s9.toNatClampNeg + 7) (by omega)).trans (heq52 (m + 7486 + 9 * s9.toNatClampNeg + 7) (by omega))).trans hAr1
        have hTi9 : zTi w59 (m + 7486 + 9 * s9.toNatClampNeg) 4 := ⟨_, _, _, _, _, _, _, _, _, hb25, hb26, hb27, hb28, hb29, hb30, hb31, hb32, hc59, ⟨hK10.trans hk49, hKn1, hKd1, hKx1, hKm1, hKl1, hKr1, zall_up hKu1 hr56.1, ⟨by simp, fun e => absurd e (by decide), fun e => absurd e (by decide), fun e => absurd e (by decide), fun e => absurd e (by decide), fun _ => ⟨⟨hrow9.1, hrow9.2.1, hrow9.2.2.1, hrow9.2.2.2.1, (show 0 ≤ (v52).toInt by omega), (show (v52).toInt ≤ (g1 12).toInt by omega)⟩, (hKk1.2.2.2.2.2 hk49).2⟩⟩⟩⟩
        refine zp_seg (pc' := 61) (lv' := [(3, .ref (m + 7486 + 9 * s9.toNatClampNeg)), (0, .ref m), (1, .int s9), (2, .int v)]) (st' := [.ref (m + 7486 + 9 * s9.toNatClampNeg)]) [(60, .aload_n 3)] (by decide +kernel) rfl ?_
        refine zr_callS (idx := 784) (j := 404) (by decide +kernel) (by decide +kernel) (by decide) (show zMe 404 = some zq_X16_fill from rfl) rfl rfl (Nat.le_of_ble_eq_true rfl) rfl rfl (Nat.le_of_ble_eq_true rfl) (Nat.le_of_ble_eq_true rfl) (c_X16_fill (w := w59) (m + 7486 + 9 * s9.toNatClampNeg) hTi9) (by omega) (fun v61 w61 hp61 => ?_)
        obtain ⟨hsi61, heq61, hp61_0, rfl⟩ := hp61
        show zP _ _ _ _ [] _ _ _ _ _
        refine zp_seg (pc' := 65) (lv' := [(3, .ref (m + 7486 + 9 * s9.toNatClampNeg)), (0, .ref m), (1, .int s9), (2, .int v)]) (st' := [.ref (m + 7486 + 9 * s9.toNatClampNeg)]) [(64, .aload_n 3)] (by decide +kernel) rfl ?_
        obtain ⟨g2, fn2, fd2, fa2, fb2, fc2, fe2, fr2, fu2, hT2, hAn2, hAd2, hAa2, hAb2, hAc2, hAe2, hAr2, hAu2, hK2⟩ := id hp61_0
        obtain ⟨hK20, hKn2, hKd2, hKx2, hKm2, hKl2, hKr2, hKu2, hKk2⟩ := id hK2
        have hSl65 := hSl0.up (w' := w61) s9.toNatClampNeg hp61_0 (fun x h1 h2 h3 => ((heq61 x (by omega)).trans ((heq59 x (by omega)).trans (heq52 x (by omega)))))
        have hb33 : w61 (m + 7486 + 9 * s9.toNatClampNeg) = some (.inl (13, zTo (m + 7486 + 9 * s9.toNatClampNeg) (zs g1 13 v52))) := (heq61 (m + 7486 + 9 * s9.toNatClampNeg) (by omega)).trans hb25
        refine zr_get (idx := 243) (k := 13) (v := .int v52) (by decide +kernel) (by decide +kernel) hb33 rfl ?_
        have hb34 : w61 m = some (.inl (15, zMo m g r)) := ((heq61 m (by omega)).trans ((heq59 m (by omega)).trans (heq52 m (by omega)))).trans hm
        have hoffend : ∀ x, (x < m + 0 ∨ m + 0 + 8322 ≤ x) → w61 x = w x := fun x hx => ((heq61 x (by omega)).trans ((heq59 x (by omega)).trans (heq52 x (by omega))))
        have hb35 := hR_m.si ((hsi52.tr hsi59).tr hsi61)
        have hb36 : zTm w61 (m + 83) := hMd0.ag (fun x hx1 hx2 => ((heq61 x (by omega)).trans ((heq59 x (by omega)).trans (heq52 x (by omega)))))
        have hb37 : zPil w61 (m + 6316) := hPl0.ag (fun x hx1 hx2 => ((heq61 x (by omega)).trans ((heq59 x (by omega)).trans (heq52 x (by omega)))))
        have hb38 : zBya w61 (m + 92) 4000 := hBo0.ag (fun x hx1 hx2 => ((heq61 x (by omega)).trans ((heq59 x (by omega)).trans (heq52 x (by omega)))))
        have hb39 : zBya w61 (m + 93) 4000 := hBl0.ag (fun x hx1 hx2 => ((heq61 x (by omega)).trans ((heq59 x (by omega)).trans (heq52 x (by omega)))))
        have hb40 : zGr w61 (m + 100) 48 48 := hGa0.ag (fun x hx1 hx2 => ((heq61 x (by omega)).trans ((heq59 x (by omega)).trans (heq52 x (by omega)))))
        have hb41 : zGr w61 (m + 212) 60 46 := hGb0.ag (fun x hx1 hx2 => ((heq61 x (by omega)).trans ((heq59 x (by omega)).trans (heq52 x (by omega)))))
        have hb42 : zBd w61 (m + 149) := hBd0.ag (fun x hx1 hx2 => ((heq61 x (by omega)).trans ((heq59 x (by omega)).trans (heq52 x (by omega)))))
        have hb43 : w61 (m + 94) = some (.inr (0, 60, .inl ff)) := ((heq61 (m + 94) (by omega)).trans ((heq59 (m + 94) (by omega)).trans (heq52 (m + 94) (by omega)))).trans hAf0
        refine zr_retI (by decide +kernel) rfl ?_
        rw [← hPost]; exact ⟨rfl, _, rfl, ((hsi52.tr hsi59).tr hsi61), hoffend, ⟨_, _, hb34, hb35, hSl65, hb36, hb37, ⟨_, hb43, hff⟩, hb38, hb39, hb40, hb41, hb42, hI12, hI24, hI29, hI31, hIn⟩, _, rfl, trivial⟩
      ·
        replace cc35 := Classical.not_not.mp cc35
        have k44 := zrng (g1 13)
        have k45 := zrng (g1 12)
        have f46 := zeqI cc35
        refine zp_seg (pc' := 39) (lv' := [(3, .ref (m + 7486 + 9 * s9.toNatClampNeg)), (0, .ref m), (1, .int s9), (2, .int v)]) (st' := [.int (Int32.ofInt (-1))]) [(38, .iconst (-1))] (by decide +kernel) rfl ?_
        have hoffend : ∀ x, (x < m + 0 ∨ m + 0 + 8322 ≤ x) → w x = w x := fun x hx => rfl
        refine zr_retI (by decide +kernel) rfl ?_
        rw [← hPost]; exact ⟨rfl, _, rfl, zSI.rf, hoffend, ⟨_, _, hm, hR_m, hSl0, hMd0, hPl0, ⟨_, hAf0, hff⟩, hBo0, hBl0, hGa0, hGb0, hBd0, hI12, hI24, hI29, hI31, hIn⟩, _, rfl, trivial⟩
    ·
      have k48 := zrng (g1 0)
      have f50 := zneI cc21
      rw [show (4 : Int32).toInt = 4 from by decide] at f50
      refine zp_seg (pc' := 26) (lv' := [(3, .ref (m + 7486 + 9 * s9.toNatClampNeg)), (0, .ref m), (1, .int s9), (2, .int v)]) (st' := [.int (Int32.ofInt (-3))]) [(24, .bipush (-3))] (by decide +kernel) rfl ?_
      have hoffend : ∀ x, (x < m + 0 ∨ m + 0 + 8322 ≤ x) → w x = w x := fun x hx => rfl
      refine zr_retI (by decide +kernel) rfl ?_
      rw [← hPost]; exact ⟨rfl, _, rfl, zSI.rf, hoffend, ⟨_, _, hm, hR_m, hSl0, hMd0, hPl0, ⟨_, hAf0, hff⟩, hBo0, hBl0, hGa0, hGb0, hBd0, hI12, hI24, hI29, hI31, hIn⟩, _, rfl, trivial⟩
  ·
    replace cc4 := Classical.not_not.mp cc4
    have f53 := zeqI cc4
    rw [show (0 : Int32).toInt = 0 from by decide] at f53
    refine zp_seg (pc' := 8) (lv' := [(0, .ref m), (1, .int s9), (2, .int v)]) (st' := [.int (Int32.ofInt (-1))]) [(7, .iconst (-1))] (by decide +kernel) rfl ?_
    have hoffend : ∀ x, (x < m + 0 ∨ m + 0 + 8322 ≤ x) → w x = w x := fun x hx => rfl
    refine zr_retI (by decide +kernel) rfl ?_
    rw [← hPost]; exact ⟨rfl, _, rfl, zSI.rf, hoffend, ⟨_, _, hm, hR_m, hSl0, hMd0, hPl0, ⟨_, hAf0, hff⟩, hBo0, hBl0, hGa0, hGb0, hBd0, hI12, hI24, hI29, hI31, hIn⟩, _, rfl, trivial⟩
