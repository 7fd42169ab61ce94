set_option maxHeartbeats 8000000 in
set_option maxRecDepth 100000 in
theorem c_X16_isSlot {w : zM}  (s9 : Int32) : zCon 1 zq_X16_isSlot [.int s9] w (fun v9 w9' => w9' = w ∧ ∃ r9 : Int32, v9 = some (.int r9) ∧ (r9 = 0 ∨ r9 = 1) ∧ (r9 = 1 → 0 ≤ s9.toInt ∧ s9.toInt < 12)) := by
  intro d sz hd
  obtain ⟨d, rfl⟩ : ∃ d9, d = d9 + 1 := ⟨d - 1, by omega⟩
  generalize hPost : (fun (r9' : Option (Option Value)) (w9' : zM) (z9 : Nat) => z9 = sz ∧ ∃ v9, r9' = some v9 ∧ (w9' = w ∧ ∃ r9 : Int32, v9 = some (.int r9) ∧ (r9 = 0 ∨ r9 = 1) ∧ (r9 = 1 → 0 ≤ s9.toInt ∧ s9.toInt < 12))) = Post
  show zP (d + 1) zq_X16_isSlot 0 [(0, .int s9)] [] w sz 0 0 Post
  have k1 := zrng s9
  refine zp_seg (pc' := 1) (lv' := [(0, .int s9)]) (st' := [.int s9]) [(0, .iload_n 0)] (by decide +kernel) rfl ?_
  refine zp_if (i := .ifCond .lt 13) (c := s9 < 0) (t := 14) (e := 4) (lv' := [(0, .int s9)]) (st' := []) (by decide +kernel) rfl (fun cc1 => ?_) (fun cc1 => ?_)
  ·
    have f3 := zltI cc1
    rw [show (0 : Int32).toInt = 0 from by decide] at f3
    refine zp_seg (pc' := 15) (lv' := [(0, .int s9)]) (st' := [.int 0]) [(14, .iconst 0)] (by decide +kernel) rfl ?_
    refine zr_retB (by decide +kernel) rfl (by decide) ?_
    rw [← hPost]; exact ⟨rfl, _, rfl, rfl, _, rfl, (by decide), (by
          first | exact fun e => absurd e (by decide) | exact fun _ => ⟨by omega, by omega⟩)⟩
  ·
    have f5 := znltI cc1
    rw [show (0 : Int32).toInt = 0 from by decide] at f5
    refine zp_seg (pc' := 7) (lv' := [(0, .int s9)]) (st' := [.int 12, .int s9]) [(4, .iload_n 0), (5, .bipush 12)] (by decide +kernel) rfl ?_
    refine zp_if (i := .if_icmp .ge 7) (c := 12 ≤ s9) (t := 14) (e := 10) (lv' := [(0, .int s9)]) (st' := []) (by decide +kernel) rfl (fun cc7 => ?_) (fun cc7 => ?_)
    ·
      have f7 := zleI cc7
      rw [show (12 : Int32).toInt = 12 from by decide] at f7
      refine zp_seg (pc' := 15) (lv' := [(0, .int s9)]) (st' := [.int 0]) [(14, .iconst 0)] (by decide +kernel) rfl ?_
      refine zr_retB (by decide +kernel) rfl (by decide) ?_
      rw [← hPost]; exact ⟨rfl, _, rfl, rfl, _, rfl, (by decide), (by
            first | exact fun e => absurd e (by decide) | exact fun _ => ⟨by omega, by omega⟩)⟩
    ·
      have f9 := znleI cc7
      rw [show (12 : Int32).toInt = 12 from by decide] at f9
      refine zp_seg (pc' := 15) (lv' := [(0, .int s9)]) (st' := [.int 1]) [(10, .iconst 1), (11, .goto 4)] (by decide +kernel) rfl ?_
      refine zr_retB (by decide +kernel) rfl (by decide) ?_
      rw [← hPost]; exact ⟨rfl, _, rfl, rfl, _, rfl, (by decide), (by
            first | exact fun e => absurd e (by decide) | exact fun _ => ⟨by omega, by omega⟩)⟩

set_option maxHeartbeats 8000000 in
set_option maxRecDepth 100000 in
theorem c_X16_kind {w : zM} {g : Nat → Int32} {r : Nat → Value}  (m : Nat) (s9 : Int32) (hm : w m = some (.inl (15, zMo m g r))) (hR_m : zR m w) (hsl : ∀ i, i < 12 → ∃ k, zTi w (m + 7486 + 9 * i) k) : zCon 2 zq_X16_kind [.ref m, .int s9] w (fun v9 w9' => w9' = w ∧ ∃ r9 : Int32, v9 = some (.int r9) ∧ True) := by
  intro d sz hd
  obtain ⟨d, rfl⟩ : ∃ d9, d = d9 + 1 := ⟨d - 1, by omega⟩
  generalize hPost : (fun (r9' : Option (Option Value)) (w9' : zM) (z9 : Nat) => z9 = sz ∧ ∃ v9, r9' = some v9 ∧ (w9' = w ∧ ∃ r9 : Int32, v9 = some (.int r9) ∧ True)) = Post
  show zP (d + 1) zq_X16_kind 0 [(0, .ref m), (1, .int s9)] [] w sz 0 0 Post
  have k1 := zrng s9
  refine zp_seg (pc' := 1) (lv' := [(0, .ref m), (1, .int s9)]) (st' := [.int s9]) [(0, .iload_n 1)] (by decide +kernel) rfl ?_
  refine zr_callS (idx := 551) (j := 336) (by decide +kernel) (by decide +kernel) (by decide) (show zMe 336 = some zq_X16_isSlot from rfl) rfl rfl (Nat.le_of_ble_eq_true rfl) rfl rfl (Nat.le_of_ble_eq_true rfl) (Nat.le_of_ble_eq_true rfl) (c_X16_isSlot (w := w) s9 ) (by omega) (fun v1 w1 hp1 => ?_)
  obtain ⟨hpw1, r1, rfl, hrb1, hr1⟩ := hp1
  replace hpw1 := hpw1.symm
  subst hpw1
  have kr1 := zrng r1
  show zP _ _ _ _ [.int r1] _ _ _ _ _
  refine zp_if (i := .ifCond .eq 15) (c := r1 = 0) (t := 19) (e := 7) (lv' := [(0, .ref m), (1, .int s9)]) (st' := []) (by decide +kernel) rfl (fun cc4 => ?_) (fun cc4 => ?_)
  ·
    have f3 := zeqI cc4
    rw [show (0 : Int32).toInt = 0 from by decide] at f3
    refine zp_seg (pc' := 20) (lv' := [(0, .ref m), (1, .int s9)]) (st' := [.int (Int32.ofInt (-1))]) [(19, .iconst (-1))] (by decide +kernel) rfl ?_
    refine zr_retI (by decide +kernel) rfl ?_
    rw [← hPost]; exact ⟨rfl, _, rfl, rfl, _, rfl, trivial⟩
  ·
    have f6 := zneI cc4
    rw [show (0 : Int32).toInt = 0 from by decide] at f6
    have his7 := hr1 (hrb1.resolve_left cc4)
    refine zp_seg (pc' := 8) (lv' := [(0, .ref m), (1, .int s9)]) (st' := [.ref m]) [(7, .aload_n 0)] (by decide +kernel) rfl ?_
    refine zr_get (idx := 450) (k := 20) (v := .ref (m + 82)) (by decide +kernel) (by decide +kernel) hm rfl ?_
    refine zp_seg (pc' := 12) (lv' := [(0, .ref m), (1, .int s9)]) (st' := [.int s9, .ref (m + 82)]) [(11, .iload_n 1)] (by decide +kernel) rfl ?_
    have hb8 := hR_m.slots
    have hz9 : (s9.toNatClampNeg : Int) = s9.toInt := znat (by first | omega | decide)
    refine zr_aald (v := .ref (m + 7486 + 9 * s9.toNatClampNeg)) (by decide +kernel) hb8 (by decide) (zin (by first | omega | decide) (by first | omega | decide)) (zsl_at (by omega)) ?_
    obtain ⟨kS1, hkS1⟩ := hsl s9.toNatClampNeg (by omega)
    obtain ⟨g1, fn1, fd1, fa1, fb1, fc1, fe1, fr1, fu1, hT1, hAn1, hAd1, hAa1, hAb1, hAc1, hAe1, hAr1, hAu1, hK1⟩ := id hkS1
    obtain ⟨hK10, hKn1, hKd1, hKx1, hKm1, hKl1, hKr1, hKu1, hKk1⟩ := id hK1
    refine zr_get (idx := 202) (k := 0) (v := .int (g1 0)) (by decide +kernel) (by decide +kernel) hT1 rfl ?_
    refine zp_seg (pc' := 20) (lv' := [(0, .ref m), (1, .int s9)]) (st' := [.int (g1 0)]) [(16, .goto 4)] (by decide +kernel) rfl ?_
    have k10 := zrng (g1 0)
    refine zr_retI (by decide +kernel) rfl ?_
    rw [← hPost]; exact ⟨rfl, _, rfl, rfl, _, rfl, trivial⟩

set_option maxHeartbeats 8000000 in
set_option maxRecDepth 100000 in
theorem c_X16_told {w : zM} {g : Nat → Int32} {r : Nat → Value}  (m : Nat) (s9 : Int32) (what : Int32) (hm : w m = some (.inl (15, zMo m g r))) (hR_m : zR m w) (hsl : ∀ i, i < 12 → ∃ k, zTi w (m + 7486 + 9 * i) k) : zCon 2 zq_X16_told [.ref m, .int s9, .int what] w (fun v9 w9' => w9' = w ∧ ∃ r9 : Int32, v9 = some (.int r9) ∧ True) := by
  intro d sz hd
  obtain ⟨d, rfl⟩ : ∃ d9, d = d9 + 1 := ⟨d - 1, by omega⟩
  generalize hPost : (fun (r9' : Option (Option Value)) (w9' : zM) (z9 : Nat) => z9 = sz ∧ ∃ v9, r9' = some v9 ∧ (w9' = w ∧ ∃ r9 : Int32, v9 = some (.int r9) ∧ True)) = Post
  show zP (d + 1) zq_X16_told 0 [(0, .ref m), (1, .int s9), (2, .int what)] [] w sz 0 0 Post
  have k1 := zrng s9
  have k2 := zrng what
  refine zp_seg (pc' := 1) (lv' := [(0, .ref m), (1, .int s9), (2, .int what)]) (st' := [.int s9]) [(0, .iload_n 1)] (by decide +kernel) rfl ?_
  refine zr_callS (idx := 551) (j := 336) (by decide +kernel) (by decide +kernel) (by decide) (show zMe 336 = some zq_X16_isSlot from rfl) rfl rfl (Nat.le_of_ble_eq_true rfl) rfl rfl (Nat.le_of_ble_eq_true rfl) (Nat.le_of_ble_eq_true rfl) (c_X16_isSlot (w := w) s9 ) (by omega) (fun v1 w1 hp1 => ?_)
  obtain ⟨hpw1, r1, rfl, hrb1, hr1⟩ := hp1
  replace hpw1 := hpw1.symm
  subst hpw1
  have kr1 := zrng r1
  show zP _ _ _ _ [.int r1] _ _ _ _ _
  refine zp_if (i := .ifCond .ne 5) (c := ¬ r1 = 0) (t := 9) (e := 7) (lv' := [(0, .ref m), (1, .int s9), (2, .int what)]) (st' := []) (by decide +kernel) rfl (fun cc4 => ?_) (fun cc4 => ?_)
  ·
    have f4 := zneI cc4
    rw [show (0 : Int32).toInt = 0 from by decide] at f4
    have his9 := hr1 (hrb1.resolve_left cc4)
    refine zp_seg (pc' := 10) (lv' := [(0, .ref m), (1, .int s9), (2, .int what)]) (st' := [.ref m]) [(9, .aload_n 0)] (by decide +kernel) rfl ?_
    refine zr_get (idx := 450) (k := 20) (v := .ref (m + 82)) (by decide +kernel) (by decide +kernel) hm rfl ?_
    refine zp_seg (pc' := 14) (lv' := [(0, .ref m), (1, .int s9), (2, .int what)]) (st' := [.int s9, .ref (m + 82)]) [(13, .iload_n 1)] (by decide +kernel) rfl ?_
    have hb6 := hR_m.slots
    have hz7 : (s9.toNatClampNeg : Int) = s9.toInt := znat (by first | omega | decide)
    refine zr_aald (v := .ref (m + 7486 + 9 * s9.toNatClampNeg)) (by decide +kernel) hb6 (by decide) (zin (by first | omega | decide) (by first | omega | decide)) (zsl_at (by omega)) ?_
    obtain ⟨kS1, hkS1⟩ := hsl s9.toNatClampNeg (by omega)
    obtain ⟨g1, fn1, fd1, fa1, fb1, fc1, fe1, fr1, fu1, hT1, hAn1, hAd1, hAa1, hAb1, hAc1, hAe1, hAr1, hAu1, hK1⟩ := id hkS1
    obtain ⟨hK10, hKn1, hKd1, hKx1, hKm1, hKl1, hKr1, hKu1, hKk1⟩ := id hK1
    refine zp_seg (pc' := 18) (lv' := [(3, .ref (m + 7486 + 9 * s9.toNatClampNeg)), (0, .ref m), (1, .int s9), (2, .int what)]) (st' := [.int 2, .int what]) [(15, .astore_n 3), (16, .iload_n 2), (17, .iconst 2)] (by decide +kernel) rfl ?_
    refine zp_if (i := .if_icmp .gt 19) (c := 2 < what) (t := 37) (e := 21) (lv' := [(3, .ref (m + 7486 + 9 * s9.toNatClampNeg)), (0, .ref m), (1, .int s9), (2, .int what)]) (st' := []) (by decide +kernel) rfl (fun cc18 => ?_) (fun cc18 => ?_)
    ·
      have f9 := zltI cc18
      rw [show (2 : Int32).toInt = 2 from by decide] at f9
      refine zp_seg (pc' := 39) (lv' := [(3, .ref (m + 7486 + 9 * s9.toNatClampNeg)), (0, .ref m), (1, .int s9), (2, .int what)]) (st' := [.int 3, .int what]) [(37, .iload_n 2), (38, .iconst 3)] (by decide +kernel) rfl ?_
      refine zp_if (i := .if_icmp .ne 27) (c := ¬ what = 3) (t := 66) (e := 42) (lv' := [(3, .ref (m + 7486 + 9 * s9.toNatClampNeg)), (0, .ref m), (1, .int s9), (2, .int what)]) (st' := []) (by decide +kernel) rfl (fun cc39 => ?_) (fun cc39 => ?_)
      ·
        have f11 := zneI cc39
        rw [show (3 : Int32).toInt = 3 from by decide] at f11
        refine zp_seg (pc' := 67) (lv' := [(3, .ref (m + 7486 + 9 * s9.toNatClampNeg)), (0, .ref m), (1, .int s9), (2, .int what)]) (st' := [.ref (m + 7486 + 9 * s9.toNatClampNeg)]) [(66, .aload_n 3)] (by decide +kernel) rfl ?_
        refine zr_get (idx := 202) (k := 0) (v := .int (g1 0)) (by decide +kernel) (by decide +kernel) hT1 rfl ?_
        refine zp_seg (pc' := 71) (lv' := [(3, .ref (m + 7486 + 9 * s9.toNatClampNeg)), (0, .ref m), (1, .int s9), (2, .int what)]) (st' := [.int 4, .int (g1 0)]) [(70, .iconst 4)] (by decide +kernel) rfl ?_
        refine zp_if (i := .if_icmp .ne 7) (c := ¬ (g1 0) = 4) (t := 78) (e := 74) (lv' := [(3, .ref (m + 7486 + 9 * s9.toNatClampNeg)), (0, .ref m), (1, .int s9), (2, .int what)]) (st' := []) (by decide +kernel) rfl (fun cc71 => ?_) (fun cc71 => ?_)
        ·
          have k12 := zrng (g1 0)
          have f14 := zneI cc71
          rw [show (4 : Int32).toInt = 4 from by decide] at f14
          refine zp_seg (pc' := 82) (lv' := [(4, .int 0), (3, .ref (m + 7486 + 9 * s9.toNatClampNeg)), (0, .ref m), (1, .int s9), (2, .int what)]) (st' := [.int what]) [(78, .iconst 0), (79, .istore 4), (81, .iload_n 2)] (by decide +kernel) rfl ?_
          refine zp_if (i := .ifCond .lt 8) (c := what < 0) (t := 90) (e := 85) (lv' := [(4, .int 0), (3, .ref (m + 7486 + 9 * s9.toNatClampNeg)), (0, .ref m), (1, .int s9), (2, .int what)]) (st' := []) (by decide +kernel) rfl (fun cc82 => ?_) (fun cc82 => ?_)
          ·
            have f15 := zltI cc82
            rw [show (0 : Int32).toInt = 0 from by decide] at f15
            refine zp_seg (pc' := 91) (lv' := [(4, .int 0), (3, .ref (m + 7486 + 9 * s9.toNatClampNeg)), (0, .ref m), (1, .int s9), (2, .int what)]) (st' := [.int (Int32.ofInt (-1))]) [(90, .iconst (-1))] (by decide +kernel) rfl ?_
            refine zr_retI (by decide +kernel) rfl ?_
            rw [← hPost]; exact ⟨rfl, _, rfl, rfl, _, rfl, trivial⟩
          ·
            have f17 := znltI cc82
            rw [show (0 : Int32).toInt = 0 from by decide] at f17
            refine zp_seg (pc' := 87) (lv' := [(4, .int 0), (3, .ref (m + 7486 + 9 * s9.toNatClampNeg)), (0, .ref m), (1, .int s9), (2, .int what)]) (st' := [.int 4, .int what]) [(85, .iload_n 2), (86, .iconst 4)] (by decide +kernel) rfl ?_
            refine zp_if (i := .if_icmp .le 5) (c := what ≤ 4) (t := 92) (e := 90) (lv' := [(4, .int 0), (3, .ref (m + 7486 + 9 * s9.toNatClampNeg)), (0, .ref m), (1, .int s9), (2, .int what)]) (st' := []) (by decide +kernel) rfl (fun cc87 => ?_) (fun cc87 => ?_)
            ·
              have f18 := zleI cc87
              rw [show (4 : Int32).toInt = 4 from by decide] at f18
              refine zp_seg (pc' := 94) (lv' := [(4, .int 0), (3, .ref (m + 7486 + 9 * s9.toNatClampNeg)), (0, .ref m), (1, .int s9), (2, .int what)]) (st' := [.int 0]) [(92, .iload 4)] (by decide +kernel) rfl ?_
              refine zp_pure (pc' := 97) (lv' := [(4, .int 0), (3, .ref (m + 7486 + 9 * s9.toNatClampNeg)), (0, .ref m), (1, .int s9), (2, .int what)]) (st' := []) (i := .ifCond .ne 6) (by decide +kernel) rfl ?_
              refine zp_seg (pc' := 99) (lv' := [(4, .int 0), (3, .ref (m + 7486 + 9 * s9.toNatClampNeg)), (0, .ref m), (1, .int s9), (2, .int what)]) (st' := [.int (Int32.ofInt (-3))]) [(97, .bipush (-3))] (by decide +kernel) rfl ?_
              refine zr_retI (by decide +kernel) rfl ?_
              rw [← hPost]; exact ⟨rfl, _, rfl, rfl, _, rfl, trivial⟩
            ·
              have f20 := znleI cc87
              rw [show (4 : Int32).toInt = 4 from by decide] at f20
              refine zp_seg (pc' := 91) (lv' := [(4, .int 0), (3, .ref (m + 7486 + 9 * s9.toNatClampNeg)), (0, .ref m), (1, .int s9), (2, .int what)]) (st' := [.int (Int32.ofInt (-1))]) [(90, .iconst (-1))] (by decide +kernel) rfl ?_
              refine zr_retI (by decide +kernel) rfl ?_
              rw [← hPost]; exact ⟨rfl, _, rfl, rfl, _, rfl, trivial⟩
        ·
          replace cc71 := Classical.not_not.mp cc71
          have k22 := zrng (g1 0)
          have f24 := zeqI cc71
          rw [show (4 : Int32).toInt = 4 from by decide] at f24
          refine zp_seg (pc' := 82) (lv' := [(4, .int 1), (3, .ref (m + 7486 + 9 * s9.toNatClampNeg)), (0, .ref m), (1, .int s9), (2, .int what)]) (st' := [.int what]) [(74, .iconst 1), (75, .goto 4), (79, .istore 4), (81, .iload_n 2)] (by decide +kernel) rfl ?_
          refine zp_if (i := .ifCond .lt 8) (c := what < 0) (t := 90) (e := 85) (lv' := [(4, .int 1), (3, .ref (m + 7486 + 9 * s9.toNatClampNeg)), (0, .ref m), (1, .int s9), (2, .int what)]) (st' := []) (by decide +kernel) rfl (fun cc82 => ?_) (fun cc82 => ?_)
          ·
            have f25 := zltI cc82
            rw [show (0 : Int32).toInt = 0 from by decide] at f25
            refine zp_seg (pc' := 91) (lv' := [(4, .int 1), (3, .ref (m + 7486 + 9 * s9.toNatClampNeg)), (0, .ref m), (1, .int s9), (2, .int what)]) (st' := [.int (Int32.ofInt (-1))]) [(90, .iconst (-1))] (by decide +kernel) rfl ?_
            refine zr_retI (by decide +kernel) rfl ?_
            rw [← hPost]; exact ⟨rfl, _, rfl, rfl, _, rfl, trivial⟩
          ·
            have f27 := znltI cc82
            rw [show (0 : Int32).toInt = 0 from by decide] at f27
            refine zp_seg (pc' := 87) (lv' := [(4, .int 1), (3, .ref (m + 7486 + 9 * s9.toNatClampNeg)), (0, .ref m), (1, .int s9), (2, .int what)]) (st' := [.int 4, .int what]) [(85, .iload_n 2), (86, .iconst 4)] (by decide +kernel) rfl ?_
            refine zp_if (i := .if_icmp .le 5) (c := what ≤ 4) (t := 92) (e := 90) (lv' := [(4, .int 1), (3, .ref (m + 7486 + 9 * s9.toNatClampNeg)), (0, .ref m), (1, .int s9), (2, .int what)]) (st' := []) (by decide +kernel) rfl (fun cc87 => ?_) (fun cc87 => ?_)
            ·
              have f28 := zleI cc87
              rw [show (4 : Int32).toInt = 4 from by decide] at f28
              refine zp_seg (pc' := 94) (lv' := [(4, .int 1), (3, .ref (m + 7486 + 9 * s9.toNatClampNeg)), (0, .ref m), (1, .int s9), (2, .int what)]) (st' := [.int 1]) [(92, .iload 4)] (by decide +kernel) rfl ?_
              refine zp_pure (pc' := 100) (lv' := [(4, .int 1), (3, .ref (m + 7486 + 9 * s9.toNatClampNeg)), (0, .ref m), (1, .int s9), (2, .int what)]) (st' := []) (i := .ifCond .ne 6) (by decide +kernel) rfl ?_
              refine zp_seg (pc' := 101) (lv' := [(4, .int 1), (3, .ref (m + 7486 + 9 * s9.toNatClampNeg)), (0, .ref m), (1, .int s9), (2, .int what)]) (st' := [.int what]) [(100, .iload_n 2)] (by decide +kernel) rfl ?_
              refine zp_if (i := .ifCond .ne 10) (c := ¬ what = 0) (t := 111) (e := 104) (lv' := [(4, .int 1), (3, .ref (m + 7486 + 9 * s9.toNatClampNeg)), (0, .ref m), (1, .int s9), (2, .int what)]) (st' := []) (by decide +kernel) rfl (fun cc101 => ?_) (fun cc101 => ?_)
              ·
                have f29 := zneI cc101
                rw [show (0 : Int32).toInt = 0 from by decide] at f29
                refine zp_seg (pc' := 113) (lv' := [(4, .int 1), (3, .ref (m + 7486 + 9 * s9.toNatClampNeg)), (0, .ref m), (1, .int s9), (2, .int what)]) (st' := [.int 1, .int what]) [(111, .iload_n 2), (112, .iconst 1)] (by decide +kernel) rfl ?_
                refine zp_if (i := .if_icmp .ne 10) (c := ¬ what = 1) (t := 123) (e := 116) (lv' := [(4, .int 1), (3, .ref (m + 7486 + 9 * s9.toNatClampNeg)), (0, .ref m), (1, .int s9), (2, .int what)]) (st' := []) (by decide +kernel) rfl (fun cc113 => ?_) (fun cc113 => ?_)
                ·
                  have f31 := zneI cc113
                  rw [show (1 : Int32).toInt = 1 from by decide] at f31
                  refine zp_seg (pc' := 125) (lv' := [(4, .int 1), (3, .ref (m + 7486 + 9 * s9.toNatClampNeg)), (0, .ref m), (1, .int s9), (2, .int what)]) (st' := [.int 2, .int what]) [(123, .iload_n 2), (124, .iconst 2)] (by decide +kernel) rfl ?_
                  refine zp_if (i := .if_icmp .ne 10) (c := ¬ what = 2) (t := 135) (e := 128) (lv' := [(4, .int 1), (3, .ref (m + 7486 + 9 * s9.toNatClampNeg)), (0, .ref m), (1, .int s9), (2, .int what)]) (st' := []) (by decide +kernel) rfl (fun cc125 => ?_) (fun cc125 => ?_)
                  ·
                    have f32 := zneI cc125
                    rw [show (2 : Int32).toInt = 2 from by decide] at f32
                    refine zp_seg (pc' := 137) (lv' := [(4, .int 1), (3, .ref (m + 7486 + 9 * s9.toNatClampNeg)), (0, .ref m), (1, .int s9), (2, .int what)]) (st' := [.int 3, .int what]) [(135, .iload_n 2), (136, .iconst 3)] (by decide +kernel) rfl ?_
                    refine zp_if (i := .if_icmp .ne 10) (c := ¬ what = 3) (t := 147) (e := 140) (lv' := [(4, .int 1), (3, .ref (m + 7486 + 9 * s9.toNatClampNeg)), (0, .ref m), (1, .int s9), (2, .int what)]) (st' := []) (by decide +kernel) rfl (fun cc137 => ?_) (fun cc137 => ?_)
                    ·
                      have f33 := zneI cc137
                      rw [show (3 : Int32).toInt = 3 from by decide] at f33
                      refine zp_seg (pc' := 148) (lv' := [(4, .int 1), (3, .ref (m + 7486 + 9 * s9.toNatClampNeg)), (0, .ref m), (1, .int s9), (2, .int what)]) (st' := [.ref (m + 7486 + 9 * s9.toNatClampNeg)]) [(147, .aload_n 3)] (by decide +kernel) rfl ?_
                      refine zr_get (idx := 240) (k := 12) (v := .int (g1 12)) (by decide +kernel) (by decide +kernel) hT1 rfl ?_
                      have k34 := zrng (g1 12)
                      refine zr_retI (by decide +kernel) rfl ?_
                      rw [← hPost]; exact ⟨rfl, _, rfl, rfl, _, rfl, trivial⟩
                    ·
                      replace cc137 := Classical.not_not.mp cc137
                      exact absurd cc137 cc39
                  ·
                    replace cc125 := Classical.not_not.mp cc125
                    have f35 := zeqI cc125
                    rw [show (2 : Int32).toInt = 2 from by decide] at f35
                    refine zp_seg (pc' := 129) (lv' := [(4, .int 1), (3, .ref (m + 7486 + 9 * s9.toNatClampNeg)), (0, .ref m), (1, .int s9), (2, .int what)]) (st' := [.ref (m + 7486 + 9 * s9.toNatClampNeg)]) [(128, .aload_n 3)] (by decide +kernel) rfl ?_
                    refine zr_get (idx := 219) (k := 5) (v := .int (g1 5)) (by decide +kernel) (by decide +kernel) hT1 rfl ?_
                    refine zp_seg (pc' := 151) (lv' := [(4, .int 1), (3, .ref (m + 7486 + 9 * s9.toNatClampNeg)), (0, .ref m), (1, .int s9), (2, .int what)]) (st' := [.int (g1 5)]) [(132, .goto 19)] (by decide +kernel) rfl ?_
                    have k36 := zrng (g1 5)
                    refine zr_retI (by decide +kernel) rfl ?_
                    rw [← hPost]; exact ⟨rfl, _, rfl, rfl, _, rfl, trivial⟩
                ·
                  replace cc113 := Classical.not_not.mp cc113
                  have f38 := zeqI cc113
                  rw [show (1 : Int32).toInt = 1 from by decide] at f38
                  refine zp_seg (pc' := 117) (lv' := [(4, .int 1), (3, .ref (m + 7486 + 9 * s9.toNatClampNeg)), (0, .ref m), (1, .int s9), (2, .int what)]) (st' := [.ref (m + 7486 + 9 * s9.toNatClampNeg)]) [(116, .aload_n 3)] (by decide +kernel) rfl ?_
                  refine zr_get (idx := 216) (k := 4) (v := .int (g1 4)) (by decide +kernel) (by decide +kernel) hT1 rfl ?_
                  refine zp_seg (pc' := 151) (lv' := [(4, .int 1), (3, .ref (m + 7486 + 9 * s9.toNatClampNeg)), (0, .ref m), (1, .int s9), (2, .int what)]) (st' := [.int (g1 4)]) [(120, .goto 31)] (by decide +kernel) rfl ?_
                  have k39 := zrng (g1 4)
                  refine zr_retI (by decide +kernel) rfl ?_
                  rw [← hPost]; exact ⟨rfl, _, rfl, rfl, _, rfl, trivial⟩
              ·
                replace cc101 := Classical.not_not.mp cc101
                have f40 := zeqI cc101
                rw [show (0 : Int32).toInt = 0 from by decide] at f40
                refine zp_seg (pc' := 105) (lv' := [(4, .int 1), (3, .ref (m + 7486 + 9 * s9.toNatClampNeg)), (0, .ref m), (1, .int s9), (2, .int what)]) (st' := [.ref (m + 7486 + 9 * s9.toNatClampNeg)]) [(104, .aload_n 3)] (by decide +kernel) rfl ?_
                refine zr_get (idx := 213) (k := 3) (v := .int (g1 3)) (by decide +kernel) (by decide +kernel) hT1 rfl ?_
                refine zp_seg (pc' := 151) (lv' := [(4, .int 1), (3, .ref (m + 7486 + 9 * s9.toNatClampNeg)), (0, .ref m), (1, .int s9), (2, .int what)]) (st' := [.int (g1 3)]) [(108, .goto 43)] (by decide +kernel) rfl ?_
                have k41 := zrng (g1 3)
                refine zr_retI (by decide +kernel) rfl ?_
                rw [← hPost]; exact ⟨rfl, _, rfl, rfl, _, rfl, trivial⟩
            ·
              have f42 := znleI cc87
              rw [show (4 : Int32).toInt = 4 from by decide] at f42
              refine zp_seg (pc' := 91) (lv' := [(4, .int 1), (3, .ref (m + 7486 + 9 * s9.toNatClampNeg)), (0, .ref m), (1, .int s9), (2, .int what)]) (st' := [.int (Int32.ofInt (-1))]) [(90, .iconst (-1))] (by decide +kernel) rfl ?_
              refine zr_retI (by decide +kernel) rfl ?_
              rw [← hPost]; exact ⟨rfl, _, rfl, rfl, _, rfl, trivial⟩
      ·
        replace cc39 := Classical.not_not.mp cc39
        have f45 := zeqI cc39
        rw [show (3 : Int32).toInt = 3 from by decide] at f45
        refine zp_seg (pc' := 43) (lv' := [(3, .ref (m + 7486 + 9 * s9.toNatClampNeg)), (0, .ref m), (1, .int s9), (2, .int what)]) (st' := [.ref (m + 7486 + 9 * s9.toNatClampNeg)]) [(42, .aload_n 3)] (by decide +kernel) rfl ?_
        refine zr_get (idx := 202) (k := 0) (v := .int (g1 0)) (by decide +kernel) (by decide +kernel) hT1 rfl ?_
        refine zp_seg (pc' := 47) (lv' := [(3, .ref (m + 7486 + 9 * s9.toNatClampNeg)), (0, .ref m), (1, .int s9), (2, .int what)]) (st' := [.int 3, .int (g1 0)]) [(46, .iconst 3)] (by decide +kernel) rfl ?_
        refine zp_if (i := .if_icmp .eq 11) (c := (g1 0) = 3) (t := 58) (e := 50) (lv' := [(3, .ref (m + 7486 + 9 * s9.toNatClampNeg)), (0, .ref m), (1, .int s9), (2, .int what)]) (st' := []) (by decide +kernel) rfl (fun cc47 => ?_) (fun cc47 => ?_)
        ·
          have k46 := zrng (g1 0)
          have f47 := zeqI cc47
          rw [show (3 : Int32).toInt = 3 from by decide] at f47
          refine zp_seg (pc' := 82) (lv' := [(4, .int 1), (3, .ref (m + 7486 + 9 * s9.toNatClampNeg)), (0, .ref m), (1, .int s9), (2, .int what)]) (st' := [.int what]) [(58, .iconst 1), (59, .goto 20), (79, .istore 4), (81, .iload_n 2)] (by decide +kernel) rfl ?_
          refine zp_if (i := .ifCond .lt 8) (c := what < 0) (t := 90) (e := 85) (lv' := [(4, .int 1), (3, .ref (m + 7486 + 9 * s9.toNatClampNeg)), (0, .ref m), (1, .int s9), (2, .int what)]) (st' := []) (by decide +kernel) rfl (fun cc82 => ?_) (fun cc82 => ?_)
          ·
            have f48 := zltI cc82
            rw [show (0 : Int32).toInt = 0 from by decide] at f48
            refine zp_seg (pc' := 91) (lv' := [(4, .int 1), (3, .ref (m + 7486 + 9 * s9.toNatClampNeg)), (0, .ref m), (1, .int s9), (2, .int what)]) (st' := [.int (Int32.ofInt (-1))]) [(90, .iconst (-1))] (by decide +kernel) rfl ?_
            refine zr_retI (by decide +kernel) rfl ?_
            rw [← hPost]; exact ⟨rfl, _, rfl, rfl, _, rfl, trivial⟩
          ·
            have f50 := znltI cc82
            rw [show (0 : Int32).toInt = 0 from by decide] at f50
            refine zp_seg (pc' := 87) (lv' := [(4, .int 1), (3, .ref (m + 7486 + 9 * s9.toNatClampNeg)), (0, .ref m), (1, .int s9), (2, .int what)]) (st' := [.int 4, .int what]) [(85, .iload_n 2), (86, .iconst 4)] (by decide +kernel) rfl ?_
            refine zp_if (i := .if_icmp .le 5) (c := what ≤ 4) (t := 92) (e := 90) (lv' := [(4, .int 1), (3, .ref (m + 7486 + 9 * s9.toNatClampNeg)), (0, .ref m), (1, .int s9), (2, .int what)]) (st' := []) (by decide +kernel) rfl (fun cc87 => ?_) (fun cc87 => ?_)
            ·
              have f52 := zleI cc87
              rw [show (4 : Int32).toInt = 4 from by decide] at f52
              refine zp_seg (pc' := 94) (lv' := [(4, .int 1), (3, .ref (m + 7486 + 9 * s9.toNatClampNeg)), (0, .ref m), (1, .int s9), (2, .int what)]) (st' := [.int 1]) [(92, .iload 4)] (by decide +kernel) rfl ?_
              refine zp_pure (pc' := 100) (lv' := [(4, .int 1), (3, .ref (m + 7486 + 9 * s9.toNatClampNeg)), (0, .ref m), (1, .int s9), (2, .int what)]) (st' := []) (i := .ifCond .ne 6) (by decide +kernel) rfl ?_
              refine zp_seg (pc' := 101) (lv' := [(4, .int 1), (3, .ref (m + 7486 + 9 * s9.toNatClampNeg)), (0, .ref m), (1, .int s9), (2, .int what)]) (st' := [.int what]) [(100, .iload_n 2)] (by decide +kernel) rfl ?_
              refine zp_if (i := .ifCond .ne 10) (c := ¬ what = 0) (t := 111) (e := 104) (lv' := [(4, .int 1), (3, .ref (m + 7486 + 9 * s9.toNatClampNeg)), (0, .ref m), (1, .int s9), (2, .int what)]) (st' := []) (by decide +kernel) rfl (fun cc101 => ?_) (fun cc101 => ?_)
              ·
                have f53 := zneI cc101
                rw [show (0 : Int32).toInt = 0 from by decide] at f53
                refine zp_seg (pc' := 113) (lv' := [(4, .int 1), (3, .ref (m + 7486 + 9 * s9.toNatClampNeg)), (0, .ref m), (1, .int s9), (2, .int what)]) (st' := [.int 1, .int what]) [(111, .iload_n 2), (112, .iconst 1)] (by decide +kernel) rfl ?_
                refine zp_if (i := .if_icmp .ne 10) (c := ¬ what = 1) (t := 123) (e := 116) (lv' := [(4, .int 1), (3, .ref (m + 7486 + 9 * s9.toNatClampNeg)), (0, .ref m), (1, .int s9), (2, .int what)]) (st' := []) (by decide +kernel) rfl (fun cc113 => ?_) (fun cc113 => ?_)
                ·
                  have f55 := zneI cc113
                  rw [show (1 : Int32).toInt = 1 from by decide] at f55
                  refine zp_seg (pc' := 125) (lv' := [(4, .int 1), (3, .ref (m + 7486 + 9 * s9.toNatClampNeg)), (0, .ref m), (1, .int s9), (2, .int what)]) (st' := [.int 2, .int what]) [(123, .iload_n 2), (124, .iconst 2)] (by decide +kernel) rfl ?_
                  refine zp_if (i := .if_icmp .ne 10) (c := ¬ what = 2) (t := 135) (e := 128) (lv' := [(4, .int 1), (3, .ref (m + 7486 + 9 * s9.toNatClampNeg)), (0, .ref m), (1, .int s9), (2, .int what)]) (st' := []) (by decide +kernel) rfl (fun cc125 => ?_) (fun cc125 => ?_)
                  ·
                    have f56 := zneI cc125
                    rw [show (2 : Int32).toInt = 2 from by decide] at f56
                    refine zp_seg (pc' := 137) (lv' := [(4, .int 1), (3, .ref (m + 7486 + 9 * s9.toNatClampNeg)), (0, .ref m), (1, .int s9), (2, .int what)]) (st' := [.int 3, .int what]) [(135, .iload_n 2), (136, .iconst 3)] (by decide +kernel) rfl ?_
                    refine zp_if (i := .if_icmp .ne 10) (c := ¬ what = 3) (t := 147) (e := 140) (lv' := [(4, .int 1), (3, .ref (m + 7486 + 9 * s9.toNatClampNeg)), (0, .ref m), (1, .int s9), (2, .int what)]) (st' := []) (by decide +kernel) rfl (fun cc137 => ?_) (fun cc137 => ?_)
                    ·
                      exact absurd cc39 cc137
                    ·
                      replace cc137 := Classical.not_not.mp cc137
                      have f57 := zeqI cc137
                      rw [show (3 : Int32).toInt = 3 from by decide] at f57
                      refine zp_seg (pc' := 141) (lv' := [(4, .int 1), (3, .ref (m + 7486 + 9 * s9.toNatClampNeg)), (0, .ref m), (1, .int s9), (2, .int what)]) (st' := [.ref (m + 7486 + 9 * s9.toNatClampNeg)]) [(140, .aload_n 3)] (by decide +kernel) rfl ?_
                      refine zr_get (idx := 234) (k := 10) (v := .int (g1 10)) (by decide +kernel) (by decide +kernel) hT1 rfl ?_
                      refine zp_seg (pc' := 151) (lv' := [(4, .int 1), (3, .ref (m + 7486 + 9 * s9.toNatClampNeg)), (0, .ref m), (1, .int s9), (2, .int what)]) (st' := [.int (g1 10)]) [(144, .goto 7)] (by decide +kernel) rfl ?_
                      have k58 := zrng (g1 10)
                      refine zr_retI (by decide +kernel) rfl ?_
                      rw [← hPost]; exact ⟨rfl, _, rfl, rfl, _, rfl, trivial⟩
                  ·
                    replace cc125 := Classical.not_not.mp cc125
                    have f59 := zeqI cc125
                    rw [show (2 : Int32).toInt = 2 from by decide] at f59
                    refine zp_seg (pc' := 129) (lv' := [(4, .int 1), (3, .ref (m + 7486 + 9 * s9.toNatClampNeg)), (0, .ref m), (1, .int s9), (2, .int what)]) (st' := [.ref (m + 7486 + 9 * s9.toNatClampNeg)]) [(128, .aload_n 3)] (by decide +kernel) rfl ?_
                    refine zr_get (idx := 219) (k := 5) (v := .int (g1 5)) (by decide +kernel) (by decide +kernel) hT1 rfl ?_
                    refine zp_seg (pc' := 151) (lv' := [(4, .int 1), (3, .ref (m + 7486 + 9 * s9.toNatClampNeg)), (0, .ref m), (1, .int s9), (2, .int what)]) (st' := [.int (g1 5)]) [(132, .goto 19)] (by decide +kernel) rfl ?_
                    have k60 := zrng (g1 5)
                    refine zr_retI (by decide +kernel) rfl ?_
                    rw [← hPost]; exact ⟨rfl, _, rfl, rfl, _, rfl, trivial⟩
                ·
                  replace cc113 := Classical.not_not.mp cc113
                  have f62 := zeqI cc113
                  rw [show (1 : Int32).toInt = 1 from by decide] at f62
                  refine zp_seg (pc' := 117) (lv' := [(4, .int 1), (3, .ref (m + 7486 + 9 * s9.toNatClampNeg)), (0, .ref m), (1, .int s9), (2, .int what)]) (st' := [.ref (m + 7486 + 9 * s9.toNatClampNeg)]) [(116, .aload_n 3)] (by decide +kernel) rfl ?_
                  refine zr_get (idx := 216) (k := 4) (v := .int (g1 4)) (by decide +kernel) (by decide +kernel) hT1 rfl ?_
                  refine zp_seg (pc' := 151) (lv' := [(4, .int 1), (3, .ref (m + 7486 + 9 * s9.toNatClampNeg)), (0, .ref m), (1, .int s9), (2, .int what)]) (st' := [.int (g1 4)]) [(120, .goto 31)] (by decide +kernel) rfl ?_
                  have k63 := zrng (g1 4)
                  refine zr_retI (by decide +kernel) rfl ?_
                  rw [← hPost]; exact ⟨rfl, _, rfl, rfl, _, rfl, trivial⟩
              ·
                replace cc101 := Classical.not_not.mp cc101
                have f64 := zeqI cc101
                rw [show (0 : Int32).toInt = 0 from by decide] at f64
                refine zp_seg (pc' := 105) (lv' := [(4, .int 1), (3, .ref (m + 7486 + 9 * s9.toNatClampNeg)), (0, .ref m), (1, .int s9), (2, .int what)]) (st' := [.ref (m + 7486 + 9 * s9.toNatClampNeg)]) [(104, .aload_n 3)] (by decide +kernel) rfl ?_
                refine zr_get (idx := 213) (k := 3) (v := .int (g1 3)) (by decide +kernel) (by decide +kernel) hT1 rfl ?_
                refine zp_seg (pc' := 151) (lv' := [(4, .int 1), (3, .ref (m + 7486 + 9 * s9.toNatClampNeg)), (0, .ref m), (1, .int s9), (2, .int what)]) (st' := [.int (g1 3)]) [(108, .goto 43)] (by decide +kernel) rfl ?_
                have k65 := zrng (g1 3)
                refine zr_retI (by decide +kernel) rfl ?_
                rw [← hPost]; exact ⟨rfl, _, rfl, rfl, _, rfl, trivial⟩
            ·
              have f67 := znleI cc87
              rw [show (4 : Int32).toInt = 4 from by decide] at f67
              refine zp_seg (pc' := 91) (lv' := [(4, .int 1), (3, .ref (m + 7486 + 9 * s9.toNatClampNeg)), (0, .ref m), (1, .int s9), (2, .int what)]) (st' := [.int (Int32.ofInt (-1))]) [(90, .iconst (-1))] (by decide +kernel) rfl ?_
              refine zr_retI (by decide +kernel) rfl ?_
              rw [← hPost]; exact ⟨rfl, _, rfl, rfl, _, rfl, trivial⟩
        ·
          have k69 := zrng (g1 0)
          have f70 := zneI cc47
          rw [show (3 : Int32).toInt = 3 from by decide] at f70
          refine zp_seg (pc' := 51) (lv' := [(3, .ref (m + 7486 + 9 * s9.toNatClampNeg)), (0, .ref m), (1, .int s9), (2, .int what)]) (st' := [.ref (m + 7486 + 9 * s9.toNatClampNeg)]) [(50, .aload_n 3)] (by decide +kernel) rfl ?_
          refine zr_get (idx := 202) (k := 0) (v := .int (g1 0)) (by decide +kernel) (by decide +kernel) hT1 rfl ?_
          refine zp_seg (pc' := 55) (lv' := [(3, .ref (m + 7486 + 9 * s9.toNatClampNeg)), (0, .ref m), (1, .int s9), (2, .int what)]) (st' := [.int 4, .int (g1 0)]) [(54, .iconst 4)] (by decide +kernel) rfl ?_
          refine zp_if (i := .if_icmp .ne 7) (c := ¬ (g1 0) = 4) (t := 62) (e := 58) (lv' := [(3, .ref (m + 7486 + 9 * s9.toNatClampNeg)), (0, .ref m), (1, .int s9), (2, .int what)]) (st' := []) (by decide +kernel) rfl (fun cc55 => ?_) (fun cc55 => ?_)
          ·
            have f72 := zneI cc55
            rw [show (4 : Int32).toInt = 4 from by decide] at f72
            refine zp_seg (pc' := 82) (lv' := [(4, .int 0), (3, .ref (m + 7486 + 9 * s9.toNatClampNeg)), (0, .ref m), (1, .int s9), (2, .int what)]) (st' := [.int what]) [(62, .iconst 0), (63, .goto 16), (79, .istore 4), (81, .iload_n 2)] (by decide +kernel) rfl ?_
            refine zp_if (i := .ifCond .lt 8) (c := what < 0) (t := 90) (e := 85) (lv' := [(4, .int 0), (3, .ref (m + 7486 + 9 * s9.toNatClampNeg)), (0, .ref m), (1, .int s9), (2, .int what)]) (st' := []) (by decide +kernel) rfl (fun cc82 => ?_) (fun cc82 => ?_)
            ·
              have f73 := zltI cc82
              rw [show (0 : Int32).toInt = 0 from by decide] at f73
              refine zp_seg (pc' := 91) (lv' := [(4, .int 0), (3, .ref (m + 7486 + 9 * s9.toNatClampNeg)), (0, .ref m), (1, .int s9), (2, .int what)]) (st' := [.int (Int32.ofInt (-1))]) [(90, .iconst (-1))] (by decide +kernel) rfl ?_
              refine zr_retI (by decide +kernel) rfl ?_
              rw [← hPost]; exact ⟨rfl, _, rfl, rfl, _, rfl, trivial⟩
            ·
              have f75 := znltI cc82
              rw [show (0 : Int32).toInt = 0 from by decide] at f75
              refine zp_seg (pc' := 87) (lv' := [(4, .int 0), (3, .ref (m + 7486 + 9 * s9.toNatClampNeg)), (0, .ref m), (1, .int s9), (2, .int what)]) (st' := [.int 4, .int what]) [(85, .iload_n 2), (86, .iconst 4)] (by decide +kernel) rfl ?_
              refine zp_if (i := .if_icmp .le 5) (c := what ≤ 4) (t := 92) (e := 90) (lv' := [(4, .int 0), (3, .ref (m + 7486 + 9 * s9.toNatClampNeg)), (0, .ref m), (1, .int s9), (2, .int what)]) (st' := []) (by decide +kernel) rfl (fun cc87 => ?_) (fun cc87 => ?_)
              ·
                have f76 := zleI cc87
                rw [show (4 : Int32).toInt = 4 from by decide] at f76
                refine zp_seg (pc' := 94) (lv' := [(4, .int 0), (3, .ref (m + 7486 + 9 * s9.toNatClampNeg)), (0, .ref m), (1, .int s9), (2, .int what)]) (st' := [.int 0]) [(92, .iload 4)] (by decide +kernel) rfl ?_
                refine zp_pure (pc' := 97) (lv' := [(4, .int 0), (3, .ref (m + 7486 + 9 * s9.toNatClampNeg)), (0, .ref m), (1, .int s9), (2, .int what)]) (st' := []) (i := .ifCond .ne 6) (by decide +kernel) rfl ?_
                refine zp_seg (pc' := 99) (lv' := [(4, .int 0), (3, .ref (m + 7486 + 9 * s9.toNatClampNeg)), (0, .ref m), (1, .int s9), (2, .int what)]) (st' := [.int (Int32.ofInt (-3))]) [(97, .bipush (-3))] (by decide +kernel) rfl ?_
                refine zr_retI (by decide +kernel) rfl ?_
                rw [← hPost]; exact ⟨rfl, _, rfl, rfl, _, rfl, trivial⟩
              ·
                have f78 := znleI cc87
                rw [show (4 : Int32).toInt = 4 from by decide] at f78
                refine zp_seg (pc' := 91) (lv' := [(4, .int 0), (3, .ref (m + 7486 + 9 * s9.toNatClampNeg)), (0, .ref m), (1, .int s9), (2, .int what)]) (st' := [.int (Int32.ofInt (-1))]) [(90, .iconst (-1))] (by decide +kernel) rfl ?_
                refine zr_retI (by decide +kernel) rfl ?_
                rw [← hPost]; exact ⟨rfl, _, rfl, rfl, _, rfl, trivial⟩
          ·
            replace cc55 := Classical.not_not.mp cc55
            have f81 := zeqI cc55
            rw [show (4 : Int32).toInt = 4 from by decide] at f81
            refine zp_seg (pc' := 82) (lv' := [(4, .int 1), (3, .ref (m + 7486 + 9 * s9.toNatClampNeg)), (0, .ref m), (1, .int s9), (2, .int what)]) (st' := [.int what]) [(58, .iconst 1), (59, .goto 20), (79, .istore 4), (81, .iload_n 2)] (by decide +kernel) rfl ?_
            refine zp_if (i := .ifCond .lt 8) (c := what < 0) (t := 90) (e := 85) (lv' := [(4, .int 1), (3, .ref (m + 7486 + 9 * s9.toNatClampNeg)), (0, .ref m), (1, .int s9), (2, .int what)]) (st' := []) (by decide +kernel) rfl (fun cc82 => ?_) (fun cc82 => ?_)
            ·
              have f82 := zltI cc82
              rw [show (0 : Int32).toInt = 0 from by decide] at f82
              refine zp_seg (pc' := 91) (lv' := [(4, .int 1), (3, .ref (m + 7486 + 9 * s9.toNatClampNeg)), (0, .ref m), (1, .int s9), (2, .int what)]) (st' := [.int (Int32.ofInt (-1))]) [(90, .iconst (-1))] (by decide +kernel) rfl ?_
              refine zr_retI (by decide +kernel) rfl ?_
              rw [← hPost]; exact ⟨rfl, _, rfl, rfl, _, rfl, trivial⟩
            ·
              have f84 := znltI cc82
              rw [show (0 : Int32).toInt = 0 from by decide] at f84
              refine zp_seg (pc' := 87) (lv' := [(4, .int 1), (3, .ref (m + 7486 + 9 * s9.toNatClampNeg)), (0, .ref m), (1, .int s9), (2, .int what)]) (st' := [.int 4, .int what]) [(85, .iload_n 2), (86, .iconst 4)] (by decide +kernel) rfl ?_
              refine zp_if (i := .if_icmp .le 5) (c := what ≤ 4) (t := 92) (e := 90) (lv' := [(4, .int 1), (3, .ref (m + 7486 + 9 * s9.toNatClampNeg)), (0, .ref m), (1, .int s9), (2, .int what)]) (st' := []) (by decide +kernel) rfl (fun cc87 => ?_) (fun cc87 => ?_)
              ·
                have f85 := zleI cc87
                rw [show (4 : Int32).toInt = 4 from by decide] at f85
                refine zp_seg (pc' := 94) (lv' := [(4, .int 1), (3, .ref (m + 7486 + 9 * s9.toNatClampNeg)), (0, .ref m), (1, .int s9), (2, .int what)]) (st' := [.int 1]) [(92, .iload 4)] (by decide +kernel) rfl ?_
                refine zp_pure (pc' := 100) (lv' := [(4, .int 1), (3, .ref (m + 7486 + 9 * s9.toNatClampNeg)), (0, .ref m), (1, .int s9), (2, .int what)]) (st' := []) (i := .ifCond .ne 6) (by decide +kernel) rfl ?_
                refine zp_seg (pc' := 101) (lv' := [(4, .int 1), (3, .ref (m + 7486 + 9 * s9.toNatClampNeg)), (0, .ref m), (1, .int s9), (2, .int what)]) (st' := [.int what]) [(100, .iload_n 2)] (by decide +kernel) rfl ?_
                refine zp_if (i := .ifCond .ne 10) (c := ¬ what = 0) (t := 111) (e := 104) (lv' := [(4, .int 1), (3, .ref (m + 7486 + 9 * s9.toNatClampNeg)), (0, .ref m), (1, .int s9), (2, .int what)]) (st' := []) (by decide +kernel) rfl (fun cc101 => ?_) (fun cc101 => ?_)
                ·
                  have f86 := zneI cc101
                  rw [show (0 : Int32).toInt = 0 from by decide] at f86
                  refine zp_seg (pc' := 113) (lv' := [(4, .int 1), (3, .ref (m + 7486 + 9 * s9.toNatClampNeg)), (0, .ref m), (1, .int s9), (2, .int what)]) (st' := [.int 1, .int what]) [(111, .iload_n 2), (112, .iconst 1)] (by decide +kernel) rfl ?_
                  refine zp_if (i := .if_icmp .ne 10) (c := ¬ what = 1) (t := 123) (e := 116) (lv' := [(4, .int 1), (3, .ref (m + 7486 + 9 * s9.toNatClampNeg)), (0, .ref m), (1, .int s9), (2, .int what)]) (st' := []) (by decide +kernel) rfl (fun cc113 => ?_) (fun cc113 => ?_)
                  ·
                    have f88 := zneI cc113
                    rw [show (1 : Int32).toInt = 1 from by decide] at f88
                    refine zp_seg (pc' := 125) (lv' := [(4, .int 1), (3, .ref (m + 7486 + 9 * s9.toNatClampNeg)), (0, .ref m), (1, .int s9), (2, .int what)]) (st' := [.int 2, .int what]) [(123, .iload_n 2), (124, .iconst 2)] (by decide +kernel) rfl ?_
                    refine zp_if (i := .if_icmp .ne 10) (c := ¬ what = 2) (t := 135) (e := 128) (lv' := [(4, .int 1), (3, .ref (m + 7486 + 9 * s9.toNatClampNeg)), (0, .ref m), (1, .int s9), (2, .int what)]) (st' := []) (by decide +kernel) rfl (fun cc125 => ?_) (fun cc125 => ?_)
                    ·
                      have f89 := zneI cc125
                      rw [show (2 : Int32).toInt = 2 from by decide] at f89
                      refine zp_seg (pc' := 137) (lv' := [(4, .int 1), (3, .ref (m + 7486 + 9 * s9.toNatClampNeg)), (0, .ref m), (1, .int s9), (2, .int what)]) (st' := [.int 3, .int what]) [(135, .iload_n 2), (136, .iconst 3)] (by decide +kernel) rfl ?_
                      refine zp_if (i := .if_icmp .ne 10) (c := ¬ what = 3) (t := 147) (e := 140) (lv' := [(4, .int 1), (3, .ref (m + 7486 + 9 * s9.toNatClampNeg)), (0, .ref m), (1, .int s9), (2, .int what)]) (st' := []) (by decide +kernel) rfl (fun cc137 => ?_) (fun cc137 => ?_)
                      ·
                        exact absurd cc39 cc137
                      ·
                        replace cc137 := Classical.not_not.mp cc137
                        have f90 := zeqI cc137
                        rw [show (3 : Int32).toInt = 3 from by decide] at f90
                        refine zp_seg (pc' := 141) (lv' := [(4, .int 1), (3, .ref (m + 7486 + 9 * s9.toNatClampNeg)), (0, .ref m), (1, .int s9), (2, .int what)]) (st' := [.ref (m + 7486 + 9 * s9.toNatClampNeg)]) [(140, .aload_n 3)] (by decide +kernel) rfl ?_
                        refine zr_get (idx := 234) (k := 10) (v := .int (g1 10)) (by decide +kernel) (by decide +kernel) hT1 rfl ?_
                        refine zp_seg (pc' := 151) (lv' := [(4, .int 1), (3, .ref (m + 7486 + 9 * s9.toNatClampNeg)), (0, .ref m), (1, .int s9), (2, .int what)]) (st' := [.int (g1 10)]) [(144, .goto 7)] (by decide +kernel) rfl ?_
                        have k91 := zrng (g1 10)
                        refine zr_retI (by decide +kernel) rfl ?_
                        rw [← hPost]; exact ⟨rfl, _, rfl, rfl, _, rfl, trivial⟩
                    ·
                      replace cc125 := Classical.not_not.mp cc125
                      have f92 := zeqI cc125
                      rw [show (2 : Int32).toInt = 2 from by decide] at f92
                      refine zp_seg (pc' := 129) (lv' := [(4, .int 1), (3, .ref (m + 7486 + 9 * s9.toNatClampNeg)), (0, .ref m), (1, .int s9), (2, .int what)]) (st' := [.ref (m + 7486 + 9 * s9.toNatClampNeg)]) [(128, .aload_n 3)] (by decide +kernel) rfl ?_
                      refine zr_get (idx := 219) (k := 5) (v := .int (g1 5)) (by decide +kernel) (by decide +kernel) hT1 rfl ?_
                      refine zp_seg (pc' := 151) (lv' := [(4, .int 1), (3, .ref (m + 7486 + 9 * s9.toNatClampNeg)), (0, .ref m), (1, .int s9), (2, .int what)]) (st' := [.int (g1 5)]) [(132, .goto 19)] (by decide +kernel) rfl ?_
                      have k93 := zrng (g1 5)
                      refine zr_retI (by decide +kernel) rfl ?_
                      rw [← hPost]; exact ⟨rfl, _, rfl, rfl, _, rfl, trivial⟩
                  ·
                    replace cc113 := Classical.not_not.mp cc113
                    have f95 := zeqI cc113
                    rw [show (1 : Int32).toInt = 1 from by decide] at f95
                    refine zp_seg (pc' := 117) (lv' := [(4, .int 1), (3, .ref (m + 7486 + 9 * s9.toNatClampNeg)), (0, .ref m), (1, .int s9), (2, .int what)]) (st' := [.ref (m + 7486 + 9 * s9.toNatClampNeg)]) [(116, .aload_n 3)] (by decide +kernel) rfl ?_
                    refine zr_get (idx := 216) (k := 4) (v := .int (g1 4)) (by decide +kernel) (by decide +kernel) hT1 rfl ?_
                    refine zp_seg (pc' := 151) (lv' := [(4, .int 1), (3, .ref (m + 7486 + 9 * s9.toNatClampNeg)), (0, .ref m), (1, .int s9), (2, .int what)]) (st' := [.int (g1 4)]) [(120, .goto 31)] (by decide +kernel) rfl ?_
                    have k96 := zrng (g1 4)
                    refine zr_retI (by decide +kernel) rfl ?_
                    rw [← hPost]; exact ⟨rfl, _, rfl, rfl, _, rfl, trivial⟩
                ·
                  replace cc101 := Classical.not_not.mp cc101
                  have f97 := zeqI cc101
                  rw [show (0 : Int32).toInt = 0 from by decide] at f97
                  refine zp_seg (pc' := 105) (lv' := [(4, .int 1), (3, .ref (m + 7486 + 9 * s9.toNatClampNeg)), (0, .ref m), (1, .int s9), (2, .int what)]) (st' := [.ref (m + 7486 + 9 * s9.toNatClampNeg)]) [(104, .aload_n 3)] (by decide +kernel) rfl ?_
                  refine zr_get (idx := 213) (k := 3) (v := .int (g1 3)) (by decide +kernel) (by decide +kernel) hT1 rfl ?_
                  refine zp_seg (pc' := 151) (lv' := [(4, .int 1), (3, .ref (m + 7486 + 9 * s9.toNatClampNeg)), (0, .ref m), (1, .int s9), (2, .int what)]) (st' := [.int (g1 3)]) [(108, .goto 43)] (by decide +kernel) rfl ?_
                  have k98 := zrng (g1 3)
                  refine zr_retI (by decide +kernel) rfl ?_
                  rw [← hPost]; exact ⟨rfl, _, rfl, rfl, _, rfl, trivial⟩
              ·
                have f99 := znleI cc87
                rw [show (4 : Int32).toInt = 4 from by decide] at f99
                refine zp_seg (pc' := 91) (lv' := [(4, .int 1), (3, .ref (m + 7486 + 9 * s9.toNatClampNeg)), (0, .ref m), (1, .int s9), (2, .int what)]) (st' := [.int (Int32.ofInt (-1))]) [(90, .iconst (-1))] (by decide +kernel) rfl ?_
                refine zr_retI (by decide +kernel) rfl ?_
                rw [← hPost]; exact ⟨rfl, _, rfl, rfl, _, rfl, trivial⟩
    ·
      have f102 := znltI cc18
      rw [show (2 : Int32).toInt = 2 from by decide] at f102
      refine zp_seg (pc' := 22) (lv' := [(3, .ref (m + 7486 + 9 * s9.toNatClampNeg)), (0, .ref m), (1, .int s9), (2, .int what)]) (st' := [.ref (m + 7486 + 9 * s9.toNatClampNeg)]) [(21, .aload_n 3)] (by decide +kernel) rfl ?_
      refine zr_get (idx := 202) (k := 0) (v := .int (g1 0)) (by decide +kernel) (by decide +kernel) hT1 rfl ?_
      refine zp_seg (pc' := 26) (lv' := [(3, .ref (m + 7486 + 9 * s9.toNatClampNeg)), (0, .ref m), (1, .int s9), (2, .int what)]) (st' := [.int 2, .int (g1 0)]) [(25, .iconst 2)] (by decide +kernel) rfl ?_
      refine zp_if (i := .if_icmp .ne 7) (c := ¬ (g1 0) = 2) (t := 33) (e := 29) (lv' := [(3, .ref (m + 7486 + 9 * s9.toNatClampNeg)), (0, .ref m), (1, .int s9), (2, .int what)]) (st' := []) (by decide +kernel) rfl (fun cc26 => ?_) (fun cc26 => ?_)
      ·
        have k103 := zrng (g1 0)
        have f104 := zneI cc26
        rw [show (2 : Int32).toInt = 2 from by decide] at f104
        refine zp_seg (pc' := 82) (lv' := [(4, .int 0), (3, .ref (m + 7486 + 9 * s9.toNatClampNeg)), (0, .ref m), (1, .int s9), (2, .int what)]) (st' := [.int what]) [(33, .iconst 0), (34, .goto 45), (79, .istore 4), (81, .iload_n 2)] (by decide +kernel) rfl ?_
        refine zp_if (i := .ifCond .lt 8) (c := what < 0) (t := 90) (e := 85) (lv' := [(4, .int 0), (3, .ref (m + 7486 + 9 * s9.toNatClampNeg)), (0, .ref m), (1, .int s9), (2, .int what)]) (st' := []) (by decide +kernel) rfl (fun cc82 => ?_) (fun cc82 => ?_)
        ·
          have f105 := zltI cc82
          rw [show (0 : Int32).toInt = 0 from by decide] at f105
          refine zp_seg (pc' := 91) (lv' := [(4, .int 0), (3, .ref (m + 7486 + 9 * s9.toNatClampNeg)), (0, .ref m), (1, .int s9), (2, .int what)]) (st' := [.int (Int32.ofInt (-1))]) [(90, .iconst (-1))] (by decide +kernel) rfl ?_
          refine zr_retI (by decide +kernel) rfl ?_
          rw [← hPost]; exact ⟨rfl, _, rfl, rfl, _, rfl, trivial⟩
        ·
          have f107 := znltI cc82
          rw [show (0 : Int32).toInt = 0 from by decide] at f107
          refine zp_seg (pc' := 87) (lv' := [(4, .int 0), (3, .ref (m + 7486 + 9 * s9.toNatClampNeg)), (0, .ref m), (1, .int s9), (2, .int what)]) (st' := [.int 4, .int what]) [(85, .iload_n 2), (86, .iconst 4)] (by decide +kernel) rfl ?_
          refine zp_if (i := .if_icmp .le 5) (c := what ≤ 4) (t := 92) (e := 90) (lv' := [(4, .int 0), (3, .ref (m + 7486 + 9 * s9.toNatClampNeg)), (0, .ref m), (1, .int s9), (2, .int what)]) (st' := []) (by decide +kernel) rfl (fun cc87 => ?_) (fun cc87 => ?_)
          ·
            have f109 := zleI cc87
            rw [show (4 : Int32).toInt = 4 from by decide] at f109
            refine zp_seg (pc' := 94) (lv' := [(4, .int 0), (3, .ref (m + 7486 + 9 * s9.toNatClampNeg)), (0, .ref m), (1, .int s9), (2, .int what)]) (st' := [.int 0]) [(92, .iload 4)] (by decide +kernel) rfl ?_
            refine zp_pure (pc' := 97) (lv' := [(4, .int 0), (3, .ref (m + 7486 + 9 * s9.toNatClampNeg)), (0, .ref m), (1, .int s9), (2, .int what)]) (st' := []) (i := .ifCond .ne 6) (by decide +kernel) rfl ?_
            refine zp_seg (pc' := 99) (lv' := [(4, .int 0), (3, .ref (m + 7486 + 9 * s9.toNatClampNeg)), (0, .ref m), (1, .int s9), (2, .int what)]) (st' := [.int (Int32.ofInt (-3))]) [(97, .bipush (-3))] (by decide +kernel) rfl ?_
            refine zr_retI (by decide +kernel) rfl ?_
            rw [← hPost]; exact ⟨rfl, _, rfl, rfl, _, rfl, trivial⟩
          ·
            have f112 := znleI cc87
            rw [show (4 : Int32).toInt = 4 from by decide] at f112
            refine zp_seg (pc' := 91) (lv' := [(4, .int 0), (3, .ref (m + 7486 + 9 * s9.toNatClampNeg)), (0, .ref m), (1, .int s9), (2, .int what)]) (st' := [.int (Int32.ofInt (-1))]) [(90, .iconst (-1))] (by decide +kernel) rfl ?_
            refine zr_retI (by decide +kernel) rfl ?_
            rw [← hPost]; exact ⟨rfl, _, rfl, rfl, _, rfl, trivial⟩
      ·
        replace cc26 := Classical.not_not.mp cc26
        have k114 := zrng (g1 0)
        have f115 := zeqI cc26
        rw [show (2 : Int32).toInt = 2 from by decide] at f115
        refine zp_seg (pc' := 82) (lv' := [(4, .int 1), (3, .ref (m + 7486 + 9 * s9.toNatClampNeg)), (0, .ref m), (1, .int s9), (2, .int what)]) (st' := [.int what]) [(29, .iconst 1), (30, .goto 49), (79, .istore 4), (81, .iload_n 2)] (by decide +kernel) rfl ?_
        refine zp_if (i := .ifCond .lt 8) (c := what < 0) (t := 90) (e := 85) (lv' := [(4, .int 1), (3, .ref (m + 7486 + 9 * s9.toNatClampNeg)), (0, .ref m), (1, .int s9), (2, .int what)]) (st' := []) (by decide +kernel) rfl (fun cc82 => ?_) (fun cc82 => ?_)
        ·
          have f116 := zltI cc82
          rw [show (0 : Int32).toInt = 0 from by decide] at f116
          refine zp_seg (pc' := 91) (lv' := [(4, .int 1), (3, .ref (m + 7486 + 9 * s9.toNatClampNeg)), (0, .ref m), (1, .int s9), (2, .int what)]) (st' := [.int (Int32.ofInt (-1))]) [(90, .iconst (-1))] (by decide +kernel) rfl ?_
          refine zr_retI (by decide +kernel) rfl ?_
          rw [← hPost]; exact ⟨rfl, _, rfl, rfl, _, rfl, trivial⟩
        ·
          have f118 := znltI cc82
          rw [show (0 : Int32).toInt = 0 from by decide] at f118
          refine zp_seg (pc' := 87) (lv' := [(4, .int 1), (3, .ref (m + 7486 + 9 * s9.toNatClampNeg)), (0, .ref m), (1, .int s9), (2, .int what)]) (st' := [.int 4, .int what]) [(85, .iload_n 2), (86, .iconst 4)] (by decide +kernel) rfl ?_
          refine zp_if (i := .if_icmp .le 5) (c := what ≤ 4) (t := 92) (e := 90) (lv' := [(4, .int 1), (3, .ref (m + 7486 + 9 * s9.toNatClampNeg)), (0, .ref m), (1, .int s9), (2, .int what)]) (st' := []) (by decide +kernel) rfl (fun cc87 => ?_) (fun cc87 => ?_)
          ·
            have f120 := zleI cc87
            rw [show (4 : Int32).toInt = 4 from by decide] at f120
            refine zp_seg (pc' := 94) (lv' := [(4, .int 1), (3, .ref (m + 7486 + 9 * s9.toNatClampNeg)), (0, .ref m), (1, .int s9), (2, .int what)]) (st' := [.int 1]) [(92, .iload 4)] (by decide +kernel) rfl ?_
            refine zp_pure (pc' := 100) (lv' := [(4, .int 1), (3, .ref (m + 7486 + 9 * s9.toNatClampNeg)), (0, .ref m), (1, .int s9), (2, .int what)]) (st' := []) (i := .ifCond .ne 6) (by decide +kernel) rfl ?_
            refine zp_seg (pc' := 101) (lv' := [(4, .int 1), (3, .ref (m + 7486 + 9 * s9.toNatClampNeg)), (0, .ref m), (1, .int s9), (2, .int what)]) (st' := [.int what]) [(100, .iload_n 2)] (by decide +kernel) rfl ?_
            refine zp_if (i := .ifCond .ne 10) (c := ¬ what = 0) (t := 111) (e := 104) (lv' := [(4, .int 1), (3, .ref (m + 7486 + 9 * s9.toNatClampNeg)), (0, .ref m), (1, .int s9), (2, .int what)]) (st' := []) (by decide +kernel) rfl (fun cc101 => ?_) (fun cc101 => ?_)
            ·
              have f121 := zneI cc101
              rw [show (0 : Int32).toInt = 0 from by decide] at f121
              refine zp_seg (pc' := 113) (lv' := [(4, .int 1), (3, .ref (m + 7486 + 9 * s9.toNatClampNeg)), (0, .ref m), (1, .int s9), (2, .int what)]) (st' := [.int 1, .int what]) [(111, .iload_n 2), (112, .iconst 1)] (by decide +kernel) rfl ?_
              refine zp_if (i := .if_icmp .ne 10) (c := ¬ what = 1) (t := 123) (e := 116) (lv' := [(4, .int 1), (3, .ref (m + 7486 + 9 * s9.toNatClampNeg)), (0, .ref m), (1, .int s9), (2, .int what)]) (st' := []) (by decide +kernel) rfl (fun cc113 => ?_) (fun cc113 => ?_)
              ·
                have f123 := zneI cc113
                rw [show (1 : Int32).toInt = 1 from by decide] at f123
                refine zp_seg (pc' := 125) (lv' := [(4, .int 1), (3, .ref (m + 7486 + 9 * s9.toNatClampNeg)), (0, .ref m), (1, .int s9), (2, .int what)]) (st' := [.int 2, .int what]) [(123, .iload_n 2), (124, .iconst 2)] (by decide +kernel) rfl ?_
                refine zp_if (i := .if_icmp .ne 10) (c := ¬ what = 2) (t := 135) (e := 128) (lv' := [(4, .int 1), (3, .ref (m + 7486 + 9 * s9.toNatClampNeg)), (0, .ref m), (1, .int s9), (2, .int what)]) (st' := []) (by decide +kernel) rfl (fun cc125 => ?_) (fun cc125 => ?_)
                ·
                  have f124 := zneI cc125
                  rw [show (2 : Int32).toInt = 2 from by decide] at f124
                  refine zp_seg (pc' := 137) (lv' := [(4, .int 1), (3, .ref (m + 7486 + 9 * s9.toNatClampNeg)), (0, .ref m), (1, .int s9), (2, .int what)]) (st' := [.int 3, .int what]) [(135, .iload_n 2), (136, .iconst 3)] (by decide +kernel) rfl ?_
                  refine zp_if (i := .if_icmp .ne 10) (c := ¬ what = 3) (t := 147) (e := 140) (lv' := [(4, .int 1), (3, .ref (m + 7486 + 9 * s9.toNatClampNeg)), (0, .ref m), (1, .int s9), (2, .int what)]) (st' := []) (by decide +kernel) rfl (fun cc137 => ?_) (fun cc137 => ?_)
                  ·
                    have f126 := zneI cc137
                    rw [show (3 : Int32).toInt = 3 from by decide] at f126
                    refine zp_seg (pc' := 148) (lv' := [(4, .int 1), (3, .ref (m + 7486 + 9 * s9.toNatClampNeg)), (0, .ref m), (1, .int s9), (2, .int what)]) (st' := [.ref (m + 7486 + 9 * s9.toNatClampNeg)]) [(147, .aload_n 3)] (by decide +kernel) rfl ?_
                    refine zr_get (idx := 240) (k := 12) (v := .int (g1 12)) (by decide +kernel) (by decide +kernel) hT1 rfl ?_
                    have k127 := zrng (g1 12)
                    refine zr_retI (by decide +kernel) rfl ?_
                    rw [← hPost]; exact ⟨rfl, _, rfl, rfl, _, rfl, trivial⟩
                  ·
                    replace cc137 := Classical.not_not.mp cc137
                    have f129 := zeqI cc137
                    rw [show (3 : Int32).toInt = 3 from by decide] at f129
                    refine zp_seg (pc' := 141) (lv' := [(4, .int 1), (3, .ref (m + 7486 + 9 * s9.toNatClampNeg)), (0, .ref m), (1, .int s9), (2, .int what)]) (st' := [.ref (m + 7486 + 9 * s9.toNatClampNeg)]) [(140, .aload_n 3)] (by decide +kernel) rfl ?_
                    refine zr_get (idx := 234) (k := 10) (v := .int (g1 10)) (by decide +kernel) (by decide +kernel) hT1 rfl ?_
                    refine zp_seg (pc' := 151) (lv' := [(4, .int 1), (3, .ref (m + 7486 + 9 * s9.toNatClampNeg)), (0, .ref m), (1, .int s9), (2, .int what)]) (st' := [.int (g1 10)]) [(144, .goto 7)] (by decide +kernel) rfl ?_
                    have k130 := zrng (g1 10)
                    refine zr_retI (by decide +kernel) rfl ?_
                    rw [← hPost]; exact ⟨rfl, _, rfl, rfl, _, rfl, trivial⟩
                ·
                  replace cc125 := Classical.not_not.mp cc125
                  have f131 := zeqI cc125
                  rw [show (2 : Int32).toInt = 2 from by decide] at f131
                  refine zp_seg (pc' := 129) (lv' := [(4, .int 1), (3, .ref (m + 7486 + 9 * s9.toNatClampNeg)), (0, .ref m), (1, .int s9), (2, .int what)]) (st' := [.ref (m + 7486 + 9 * s9.toNatClampNeg)]) [(128, .aload_n 3)] (by decide +kernel) rfl ?_
                  refine zr_get (idx := 219) (k := 5) (v := .int (g1 5)) (by decide +kernel) (by decide +kernel) hT1 rfl ?_
                  refine zp_seg (pc' := 151) (lv' := [(4, .int 1), (3, .ref (m + 7486 + 9 * s9.toNatClampNeg)), (0, .ref m), (1, .int s9), (2, .int what)]) (st' := [.int (g1 5)]) [(132, .goto 19)] (by decide +kernel) rfl ?_
                  have k132 := zrng (g1 5)
                  refine zr_retI (by decide +kernel) rfl ?_
                  rw [← hPost]; exact ⟨rfl, _, rfl, rfl, _, rfl, trivial⟩
              ·
                replace cc113 := Classical.not_not.mp cc113
                have f134 := zeqI cc113
                rw [show (1 : Int32).toInt = 1 from by decide] at f134
                refine zp_seg (pc' := 117) (lv' := [(4, .int 1), (3, .ref (m + 7486 + 9 * s9.toNatClampNeg)), (0, .ref m), (1, .int s9), (2, .int what)]) (st' := [.ref (m + 7486 + 9 * s9.toNatClampNeg)]) [(116, .aload_n 3)] (by decide +kernel) rfl ?_
                refine zr_get (idx := 216) (k := 4) (v := .int (g1 4)) (by decide +kernel) (by decide +kernel) hT1 rfl ?_
                refine zp_seg (pc' := 151) (lv' := [(4, .int 1), (3, .ref (m + 7486 + 9 * s9.toNatClampNeg)), (0, .ref m), (1, .int s9), (2, .int what)]) (st' := [.int (g1 4)]) [(120, .goto 31)] (by decide +kernel) rfl ?_
                have k135 := zrng (g1 4)
                refine zr_retI (by decide +kernel) rfl ?_
                rw [← hPost]; exact ⟨rfl, _, rfl, rfl, _, rfl, trivial⟩
            ·
              replace cc101 := Classical.not_not.mp cc101
              have f136 := zeqI cc101
              rw [show (0 : Int32).toInt = 0 from by decide] at f136
              refine zp_seg (pc' := 105) (lv' := [(4, .int 1), (3, .ref (m + 7486 + 9 * s9.toNatClampNeg)), (0, .ref m), (1, .int s9), (2, .int what)]) (st' := [.ref (m + 7486 + 9 * s9.toNatClampNeg)]) [(104, .aload_n 3)] (by decide +kernel) rfl ?_
              refine zr_get (idx := 213) (k := 3) (v := .int (g1 3)) (by decide +kernel) (by decide +kernel) hT1 rfl ?_
              refine zp_seg (pc' := 151) (lv' := [(4, .int 1), (3, .ref (m + 7486 + 9 * s9.toNatClampNeg)), (0, .ref m), (1, .int s9), (2, .int what)]) (st' := [.int (g1 3)]) [(108, .goto 43)] (by decide +kernel) rfl ?_
              have k137 := zrng (g1 3)
              refine zr_retI (by decide +kernel) rfl ?_
              rw [← hPost]; exact ⟨rfl, _, rfl, rfl, _, rfl, trivial⟩
          ·
            have f139 := znleI cc87
            rw [show (4 : Int32).toInt = 4 from by decide] at f139
            refine zp_seg (pc' := 91) (lv' := [(4, .int 1), (3, .ref (m + 7486 + 9 * s9.toNatClampNeg)), (0, .ref m), (1, .int s9), (2, .int what)]) (st' := [.int (Int32.ofInt (-1))]) [(90, .iconst (-1))] (by decide +kernel) rfl ?_
            refine zr_retI (by decide +kernel) rfl ?_
            rw [← hPost]; exact ⟨rfl, _, rfl, rfl, _, rfl, trivial⟩
  ·
    replace cc4 := Classical.not_not.mp cc4
    have f142 := zeqI cc4
    rw [show (0 : Int32).toInt = 0 from by decide] at f142
    refine zp_seg (pc' := 8) (lv' := [(0, .ref m), (1, .int s9), (2, .int what)]) (st' := [.int (Int32.ofInt (-1))]) [(7, .iconst (-1))] (by decide +kernel) rfl ?_
    refine zr_retI (by decide +kernel) rfl ?_
    rw [← hPost]; exact ⟨rfl, _, rfl, rfl, _, rfl, trivial⟩

set_option maxHeartbeats 8000000 in
set_option maxRecDepth 100000 in
theorem c_X16_factorial_ {w : zM} {g : Nat → Int32} {r : Nat → Value}  (m : Nat) (s9 : Int32) (i : Int32) (what : Int32) (hm : w m = some (.inl (15, zMo m g r))) (hR_m : zR m w) (hsl : ∀ i, i < 12 → ∃ k, zTi w (m + 7486 + 9 * i) k) : zCon 2 zq_X16_factorial_ [.ref m, .int s9, .int i, .int what] w (fun v9 w9' => w9' = w ∧ ∃ r9 : Int32, v9 = some (.int r9) ∧ True) := by
  intro d sz hd
  obtain ⟨d, rfl⟩ : ∃ d9, d = d9 + 1 := ⟨d - 1, by omega⟩
  generalize hPost : (fun (r9' : Option (Option Value)) (w9' : zM) (z9 : Nat) => z9 = sz ∧ ∃ v9, r9' = some v9 ∧ (w9' = w ∧ ∃ r9 : Int32, v9 = some (.int r9) ∧ True)) = Post
  show zP (d + 1) zq_X16_factorial_ 0 [(0, .ref m), (1, .int s9), (2, .int i), (3, .int what)] [] w sz 0 0 Post
  have k1 := zrng s9
  have k2 := zrng i
  have k3 := zrng what
  refine zp_seg (pc' := 1) (lv' := [(0, .ref m), (1, .int s9), (2, .int i), (3, .int what)]) (st' := [.int s9]) [(0, .iload_n 1)] (by decide +kernel) rfl ?_
  refine zr_callS (idx := 551) (j := 336) (by decide +kernel) (by decide +kernel) (by decide) (show zMe 336 = some zq_X16_isSlot from rfl) rfl rfl (Nat.le_of_ble_eq_true rfl) rfl rfl (Nat.le_of_ble_eq_true rfl) (Nat.le_of_ble_eq_true rfl) (c_X16_isSlot (w := w) s9 ) (by omega) (fun v1 w1 hp1 => ?_)
  obtain ⟨hpw1, r1, rfl, hrb1, hr1⟩ := hp1
  replace hpw1 := hpw1.symm
  subst hpw1
  have kr1 := zrng r1
  show zP _ _ _ _ [.int r1] _ _ _ _ _
  refine zp_if (i := .ifCond .ne 5) (c := ¬ r1 = 0) (t := 9) (e := 7) (lv' := [(0, .ref m), (1, .int s9), (2, .int i), (3, .int what)]) (st' := []) (by decide +kernel) rfl (fun cc4 => ?_) (fun cc4 => ?_)
  ·
    have f5 := zneI cc4
    rw [show (0 : Int32).toInt = 0 from by decide] at f5
    have his9 := hr1 (hrb1.resolve_left cc4)
    refine zp_seg (pc' := 10) (lv' := [(0, .ref m), (1, .int s9), (2, .int i), (3, .int what)]) (st' := [.ref m]) [(9, .aload_n 0)] (by decide +kernel) rfl ?_
    refine zr_get (idx := 450) (k := 20) (v := .ref (m + 82)) (by decide +kernel) (by decide +kernel) hm rfl ?_
    refine zp_seg (pc' := 14) (lv' := [(0, .ref m), (1, .int s9), (2, .int i), (3, .int what)]) (st' := [.int s9, .ref (m + 82)]) [(13, .iload_n 1)] (by decide +kernel) rfl ?_
    have hb7 := hR_m.slots
    have hz8 : (s9.toNatClampNeg : Int) = s9.toInt := znat (by first | omega | decide)
    refine zr_aald (v := .ref (m + 7486 + 9 * s9.toNatClampNeg)) (by decide +kernel) hb7 (by decide) (zin (by first | omega | decide) (by first | omega | decide)) (zsl_at (by omega)) ?_
    obtain ⟨kS1, hkS1⟩ := hsl s9.toNatClampNeg (by omega)
    obtain ⟨g1, fn1, fd1, fa1, fb1, fc1, fe1, fr1, fu1, hT1, hAn1, hAd1, hAa1, hAb1, hAc1, hAe1, hAr1, hAu1, hK1⟩ := id hkS1
    obtain ⟨hK10, hKn1, hKd1, hKx1, hKm1, hKl1, hKr1, hKu1, hKk1⟩ := id hK1
    refine zp_seg (pc' := 19) (lv' := [(4, .ref (m + 7486 + 9 * s9.toNatClampNeg)), (0, .ref m), (1, .int s9), (2, .int i), (3, .int what)]) (st' := [.ref (m + 7486 + 9 * s9.toNatClampNeg)]) [(15, .astore 4), (17, .aload 4)] (by decide +kernel) rfl ?_
    refine zr_get (idx := 202) (k := 0) (v := .int (g1 0)) (by decide +kernel) (by decide +kernel) hT1 rfl ?_
    refine zp_seg (pc' := 23) (lv' := [(4, .ref (m + 7486 + 9 * s9.toNatClampNeg)), (0, .ref m), (1, .int s9), (2, .int i), (3, .int what)]) (st' := [.int 2, .int (g1 0)]) [(22, .iconst 2)] (by decide +kernel) rfl ?_
    refine zp_if (i := .if_icmp .ne 25) (c := ¬ (g1 0) = 2) (t := 48) (e := 26) (lv' := [(4, .ref (m + 7486 + 9 * s9.toNatClampNeg)), (0, .ref m), (1, .int s9), (2, .int i), (3, .int what)]) (st' := []) (by decide +kernel) rfl (fun cc23 => ?_) (fun cc23 => ?_)
    ·
      have k9 := zrng (g1 0)
      have f11 := zneI cc23
      rw [show (2 : Int32).toInt = 2 from by decide] at f11
      refine zp_seg (pc' := 49) (lv' := [(4, .ref (m + 7486 + 9 * s9.toNatClampNeg)), (0, .ref m), (1, .int s9), (2, .int i), (3, .int what)]) (st' := [.int 0]) [(48, .iconst 0)] (by decide +kernel) rfl ?_
      refine zr_retI (by decide +kernel) rfl ?_
      rw [← hPost]; exact ⟨rfl, _, rfl, rfl, _, rfl, trivial⟩
    ·
      replace cc23 := Classical.not_not.mp cc23
      have k12 := zrng (g1 0)
      have f14 := zeqI cc23
      rw [show (2 : Int32).toInt = 2 from by decide] at f14
      refine zp_seg (pc' := 27) (lv' := [(4, .ref (m + 7486 + 9 * s9.toNatClampNeg)), (0, .ref m), (1, .int s9), (2, .int i), (3, .int what)]) (st' := [.int i]) [(26, .iload_n 2)] (by decide +kernel) rfl ?_
      refine zp_if (i := .ifCond .lt 21) (c := i < 0) (t := 48) (e := 30) (lv' := [(4, .ref (m + 7486 + 9 * s9.toNatClampNeg)), (0, .ref m), (1, .int s9), (2, .int i), (3, .int what)]) (st' := []) (by decide +kernel) rfl (fun cc27 => ?_) (fun cc27 => ?_)
      ·
        have f15 := zltI cc27
        rw [show (0 : Int32).toInt = 0 from by decide] at f15
        refine zp_seg (pc' := 49) (lv' := [(4, .ref (m + 7486 + 9 * s9.toNatClampNeg)), (0, .ref m), (1, .int s9), (2, .int i), (3, .int what)]) (st' := [.int 0]) [(48, .iconst 0)] (by decide +kernel) rfl ?_
        refine zr_retI (by decide +kernel) rfl ?_
        rw [← hPost]; exact ⟨rfl, _, rfl, rfl, _, rfl, trivial⟩
      ·
        have f16 := znltI cc27
        rw [show (0 : Int32).toInt = 0 from by decide] at f16
        refine zp_seg (pc' := 33) (lv' := [(4, .ref (m + 7486 + 9 * s9.toNatClampNeg)), (0, .ref m), (1, .int s9), (2, .int i), (3, .int what)]) (st' := [.ref (m + 7486 + 9 * s9.toNatClampNeg), .int i]) [(30, .iload_n 2), (31, .aload 4)] (by decide +kernel) rfl ?_
        refine zr_get (idx := 219) (k := 5) (v := .int (g1 5)) (by decide +kernel) (by decide +kernel) hT1 rfl ?_
        refine zp_if (i := .if_icmp .ge 12) (c := (g1 5) ≤ i) (t := 48) (e := 39) (lv' := [(4, .ref (m + 7486 + 9 * s9.toNatClampNeg)), (0, .ref m), (1, .int s9), (2, .int i), (3, .int what)]) (st' := []) (by decide +kernel) rfl (fun cc36 => ?_) (fun cc36 => ?_)
        ·
          have k17 := zrng (g1 5)
          have f18 := zleI cc36
          refine zp_seg (pc' := 49) (lv' := [(4, .ref (m + 7486 + 9 * s9.toNatClampNeg)), (0, .ref m), (1, .int s9), (2, .int i), (3, .int what)]) (st' := [.int 0]) [(48, .iconst 0)] (by decide +kernel) rfl ?_
          refine zr_retI (by decide +kernel) rfl ?_
          rw [← hPost]; exact ⟨rfl, _, rfl, rfl, _, rfl, trivial⟩
        ·
          have k19 := zrng (g1 5)
          have f20 := znleI cc36
          refine zp_seg (pc' := 40) (lv' := [(4, .ref (m + 7486 + 9 * s9.toNatClampNeg)), (0, .ref m), (1, .int s9), (2, .int i), (3, .int what)]) (st' := [.int what]) [(39, .iload_n 3)] (by decide +kernel) rfl ?_
          refine zp_if (i := .ifCond .lt 8) (c := what < 0) (t := 48) (e := 43) (lv' := [(4, .ref (m + 7486 + 9 * s9.toNatClampNeg)), (0, .ref m), (1, .int s9), (2, .int i), (3, .int what)]) (st' := []) (by decide +kernel) rfl (fun cc40 => ?_) (fun cc40 => ?_)
          ·
            have f21 := zltI cc40
            rw [show (0 : Int32).toInt = 0 from by decide] at f21
            refine zp_seg (pc' := 49) (lv' := [(4, .ref (m + 7486 + 9 * s9.toNatClampNeg)), (0, .ref m), (1, .int s9), (2, .int i), (3, .int what)]) (st' := [.int 0]) [(48, .iconst 0)] (by decide +kernel) rfl ?_
            refine zr_retI (by decide +kernel) rfl ?_
            rw [← hPost]; exact ⟨rfl, _, rfl, rfl, _, rfl, trivial⟩
          ·
            have f22 := znltI cc40
            rw [show (0 : Int32).toInt = 0 from by decide] at f22
            refine zp_seg (pc' := 45) (lv' := [(4, .ref (m + 7486 + 9 * s9.toNatClampNeg)), (0, .ref m), (1, .int s9), (2, .int i), (3, .int what)]) (st' := [.int 3, .int what]) [(43, .iload_n 3), (44, .iconst 3)] (by decide +kernel) rfl ?_
            refine zp_if (i := .if_icmp .le 5) (c := what ≤ 3) (t := 50) (e := 48) (lv' := [(4, .ref (m + 7486 + 9 * s9.toNatClampNeg)), (0, .ref m), (1, .int s9), (2, .int i), (3, .int what)]) (st' := []) (by decide +kernel) rfl (fun cc45 => ?_) (fun cc45 => ?_)
            ·
              have f24 := zleI cc45
              rw [show (3 : Int32).toInt = 3 from by decide] at f24
              refine zp_seg (pc' := 51) (lv' := [(4, .ref (m + 7486 + 9 * s9.toNatClampNeg)), (0, .ref m), (1, .int s9), (2, .int i), (3, .int what)]) (st' := [.int what]) [(50, .iload_n 3)] (by decide +kernel) rfl ?_
              refine zp_if (i := .ifCond .ne 13) (c := ¬ what = 0) (t := 64) (e := 54) (lv' := [(4, .ref (m + 7486 + 9 * s9.toNatClampNeg)), (0, .ref m), (1, .int s9), (2, .int i), (3, .int what)]) (st' := []) (by decide +kernel) rfl (fun cc51 => ?_) (fun cc51 => ?_)
              ·
                have f25 := zneI cc51
                rw [show (0 : Int32).toInt = 0 from by decide] at f25
                refine zp_seg (pc' := 66) (lv' := [(4, .ref (m + 7486 + 9 * s9.toNatClampNeg)), (0, .ref m), (1, .int s9), (2, .int i), (3, .int what)]) (st' := [.int 1, .int what]) [(64, .iload_n 3), (65, .iconst 1)] (by decide +kernel) rfl ?_
                refine zp_if (i := .if_icmp .ne 13) (c := ¬ what = 1) (t := 79) (e := 69) (lv' := [(4, .ref (m + 7486 + 9 * s9.toNatClampNeg)), (0, .ref m), (1, .int s9), (2, .int i), (3, .int what)]) (st' := []) (by decide +kernel) rfl (fun cc66 => ?_) (fun cc66 => ?_)
                ·
                  have f27 := zneI cc66
                  rw [show (1 : Int32).toInt = 1 from by decide] at f27
                  refine zp_seg (pc' := 81) (lv' := [(4, .ref (m + 7486 + 9 * s9.toNatClampNeg)), (0, .ref m), (1, .int s9), (2, .int i), (3, .int what)]) (st' := [.int 2, .int what]) [(79, .iload_n 3), (80, .iconst 2)] (by decide +kernel) rfl ?_
                  refine zp_if (i := .if_icmp .ne 13) (c := ¬ what = 2) (t := 94) (e := 84) (lv' := [(4, .ref (m + 7486 + 9 * s9.toNatClampNeg)), (0, .ref m), (1, .int s9), (2, .int i), (3, .int what)]) (st' := []) (by decide +kernel) rfl (fun cc81 => ?_) (fun cc81 => ?_)
                  ·
                    have f28 := zneI cc81
                    rw [show (2 : Int32).toInt = 2 from by decide] at f28
                    refine zp_seg (pc' := 96) (lv' := [(4, .ref (m + 7486 + 9 * s9.toNatClampNeg)), (0, .ref m), (1, .int s9), (2, .int i), (3, .int what)]) (st' := [.ref (m + 7486 + 9 * s9.toNatClampNeg)]) [(94, .aload 4)] (by decide +kernel) rfl ?_
                    refine zr_get (idx := 231) (k := 9) (v := .ref (m + 7486 + 9 * s9.toNatClampNeg + 6)) (by decide +kernel) (by decide +kernel) hT1 rfl ?_
                    refine zp_seg (pc' := 100) (lv' := [(4, .ref (m + 7486 + 9 * s9.toNatClampNeg)), (0, .ref m), (1, .int s9), (2, .int i), (3, .int what)]) (st' := [.int i, .ref (m + 7486 + 9 * s9.toNatClampNeg + 6)]) [(99, .iload_n 2)] (by decide +kernel) rfl ?_
                    refine zr_iald (by decide +kernel) hAe1 (zin (by first | omega | decide) (by first | omega | decide)) ?_
                    have hz29 : (i.toNatClampNeg : Int) = i.toInt := znat (by first | omega | decide)
                    obtain ⟨x100, ex100⟩ : ∃ x9, x9 = fe1 (i.toNatClampNeg) := ⟨_, rfl⟩
                    rw [← ex100]
                    have kx100 := zrng x100
                    refine zr_retI (by decide +kernel) rfl ?_
                    rw [← hPost]; exact ⟨rfl, _, rfl, rfl, _, rfl, trivial⟩
                  ·
                    replace cc81 := Classical.not_not.mp cc81
                    have f30 := zeqI cc81
                    rw [show (2 : Int32).toInt = 2 from by decide] at f30
                    refine zp_seg (pc' := 86) (lv' := [(4, .ref (m + 7486 + 9 * s9.toNatClampNeg)), (0, .ref m), (1, .int s9), (2, .int i), (3, .int what)]) (st' := [.ref (m + 7486 + 9 * s9.toNatClampNeg)]) [(84, .aload 4)] (by decide +kernel) rfl ?_
                    refine zr_get (idx := 228) (k := 8) (v := .ref (m + 7486 + 9 * s9.toNatClampNeg + 5)) (by decide +kernel) (by decide +kernel) hT1 rfl ?_
                    refine zp_seg (pc' := 90) (lv' := [(4, .ref (m + 7486 + 9 * s9.toNatClampNeg)), (0, .ref m), (1, .int s9), (2, .int i), (3, .int what)]) (st' := [.int i, .ref (m + 7486 + 9 * s9.toNatClampNeg + 5)]) [(89, .iload_n 2)] (by decide +kernel) rfl ?_
                    refine zr_iald (by decide +kernel) hAc1 (zin (by first | omega | decide) (by first | omega | decide)) ?_
                    have hz31 : (i.toNatClampNeg : Int) = i.toInt := znat (by first | omega | decide)
                    obtain ⟨x90, ex90⟩ : ∃ x9, x9 = fc1 (i.toNatClampNeg) := ⟨_, rfl⟩
                    rw [← ex90]
                    have kx90 := zrng x90
                    refine zp_seg (pc' := 101) (lv' := [(4, .ref (m + 7486 + 9 * s9.toNatClampNeg)), (0, .ref m), (1, .int s9), (2, .int i), (3, .int what)]) (st' := [.int x90]) [(91, .goto 10)] (by decide +kernel) rfl ?_
                    refine zr_retI (by decide +kernel) rfl ?_
                    rw [← hPost]; exact ⟨rfl, _, rfl, rfl, _, rfl, trivial⟩
                ·
                  replace cc66 := Classical.not_not.mp cc66
                  have f33 := zeqI cc66
                  rw [show (1 : Int32).toInt = 1 from by decide] at f33
                  refine zp_seg (pc' := 71) (lv' := [(4, .ref (m + 7486 + 9 * s9.toNatClampNeg)), (0, .ref m), (1, .int s9), (2, .int i), (3, .int what)]) (st' := [.ref (m + 7486 + 9 * s9.toNatClampNeg)]) [(69, .aload 4)] (by decide +kernel) rfl ?_
                  refine zr_get (idx := 225) (k := 7) (v := .ref (m + 7486 + 9 * s9.toNatClampNeg + 4)) (by decide +kernel) (by decide +kernel) hT1 rfl ?_
                  refine zp_seg (pc' := 75) (lv' := [(4, .ref (m + 7486 + 9 * s9.toNatClampNeg)), (0, .ref m), (1, .int s9), (2, .int i), (3, .int what)]) (st' := [.int i, .ref (m + 7486 + 9 * s9.toNatClampNeg + 4)]) [(74, .iload_n 2)] (by decide +kernel) rfl ?_
                  refine zr_iald (by decide +kernel) hAb1 (zin (by first | omega | decide) (by first | omega | decide)) ?_
                  have hz34 : (i.toNatClampNeg : Int) = i.toInt := znat (by first | omega | decide)
                  obtain ⟨x75, ex75⟩ : ∃ x9, x9 = fb1 (i.toNatClampNeg) := ⟨_, rfl⟩
                  rw [← ex75]
                  have kx75 := zrng x75
                  refine zp_seg (pc' := 101) (lv' := [(4, .ref (m + 7486 + 9 * s9.toNatClampNeg)), (0, .ref m), (1, .int s9), (2, .int i), (3, .int what)]) (st' := [.int x75]) [(76, .goto 25)] (by decide +kernel) rfl ?_
                  refine zr_retI (by decide +kernel) rfl ?_
                  rw [← hPost]; exact ⟨rfl, _, rfl, rfl, _, rfl, trivial⟩
              ·
                replace cc51 := Classical.not_not.mp cc51
                have f35 := zeqI cc51
                rw [show (0 : Int32).toInt = 0 from by decide] at f35
                refine zp_seg (pc' := 56) (lv' := [(4, .ref (m + 7486 + 9 * s9.toNatClampNeg)), (0, .ref m), (1, .int s9), (2, .int i), (3, .int what)]) (st' := [.ref (m + 7486 + 9 * s9.toNatClampNeg)]) [(54, .aload 4)] (by decide +kernel) rfl ?_
                refine zr_get (idx := 222) (k := 6) (v := .ref (m + 7486 + 9 * s9.toNatClampNeg + 3)) (by decide +kernel) (by decide +kernel) hT1 rfl ?_
                refine zp_seg (pc' := 60) (lv' := [(4, .ref (m + 7486 + 9 * s9.toNatClampNeg)), (0, .ref m), (1, .int s9), (2, .int i), (3, .int what)]) (st' := [.int i, .ref (m + 7486 + 9 * s9.toNatClampNeg + 3)]) [(59, .iload_n 2)] (by decide +kernel) rfl ?_
                refine zr_iald (by decide +kernel) hAa1 (zin (by first | omega | decide) (by first | omega | decide)) ?_
                have hz36 : (i.toNatClampNeg : Int) = i.toInt := znat (by first | omega | decide)
                obtain ⟨x60, ex60⟩ : ∃ x9, x9 = fa1 (i.toNatClampNeg) := ⟨_, rfl⟩
                rw [← ex60]
                have kx60 := zrng x60
                refine zp_seg (pc' := 101) (lv' := [(4, .ref (m + 7486 + 9 * s9.toNatClampNeg)), (0, .ref m), (1, .int s9), (2, .int i), (3, .int what)]) (st' := [.int x60]) [(61, .goto 40)] (by decide +kernel) rfl ?_
                refine zr_retI (by decide +kernel) rfl ?_
                rw [← hPost]; exact ⟨rfl, _, rfl, rfl, _, rfl, trivial⟩
            ·
              have f38 := znleI cc45
              rw [show (3 : Int32).toInt = 3 from by decide] at f38
              refine zp_seg (pc' := 49) (lv' := [(4, .ref (m + 7486 + 9 * s9.toNatClampNeg)), (0, .ref m), (1, .int s9), (2, .int i), (3, .int what)]) (st' := [.int 0]) [(48, .iconst 0)] (by decide +kernel) rfl ?_
              refine zr_retI (by decide +kernel) rfl ?_
              rw [← hPost]; exact ⟨rfl, _, rfl, rfl, _, rfl, trivial⟩
  ·
    replace cc4 := Classical.not_not.mp cc4
    have f40 := zeqI cc4
    rw [show (0 : Int32).toInt = 0 from by decide] at f40
    refine zp_seg (pc' := 8) (lv' := [(0, .ref m), (1, .int s9), (2, .int i), (3, .int what)]) (st' := [.int (Int32.ofInt (-1))]) [(7, .iconst (-1))] (by decide +kernel) rfl ?_
    refine zr_retI (by decide +kernel) rfl ?_
    rw [← hPost]; exact ⟨rfl, _, rfl, rfl, _, rfl, trivial⟩

set_option maxHeartbeats 8000000 in
set_option maxRecDepth 100000 in
theorem c_X16_number_ {w : zM} {g : Nat → Int32} {r : Nat → Value}  (m : Nat) (s9 : Int32) (what : Int32) (i : Int32) (j : Int32) (hm : w m = some (.inl (15, zMo m g r))) (hR_m : zR m w) (hsl : ∀ i, i < 12 → ∃ k, zTi w (m + 7486 + 9 * i) k) : zCon 2 zq_X16_number_ [.ref m, .int s9, .int what, .int i, .int j] w (fun v9 w9' => w9' = w ∧ ∃ r9 : Int32, v9 = some (.int r9) ∧ True) := by
  intro d sz hd
  obtain ⟨d, rfl⟩ : ∃ d9, d = d9 + 1 := ⟨d - 1, by omega⟩
  generalize hPost : (fun (r9' : Option (Option Value)) (w9' : zM) (z9 : Nat) => z9 = sz ∧ ∃ v9, r9' = some v9 ∧ (w9' = w ∧ ∃ r9 : Int32, v9 = some (.int r9) ∧ True)) = Post
  show zP (d + 1) zq_X16_number_ 0 [(0, .ref m), (1, .int s9), (2, .int what), (3, .int i), (4, .int j)] [] w sz 0 0 Post
  have k1 := zrng s9
  have k2 := zrng what
  have k3 := zrng i
  have k4 := zrng j
  refine zp_seg (pc' := 1) (lv' := [(0, .ref m), (1, .int s9), (2, .int what), (3, .int i), (4, .int j)]) (st' := [.int s9]) [(0, .iload_n 1)] (by decide +kernel) rfl ?_
  refine zr_callS (idx := 551) (j := 336) (by decide +kernel) (by decide +kernel) (by decide) (show zMe 336 = some zq_X16_isSlot from rfl) rfl rfl (Nat.le_of_ble_eq_true rfl) rfl rfl (Nat.le_of_ble_eq_true rfl) (Nat.le_of_ble_eq_true rfl) (c_X16_isSlot (w := w) s9 ) (by omega) (fun v1 w1 hp1 => ?_)
  obtain ⟨hpw1, r1, rfl, hrb1, hr1⟩ := hp1
  replace hpw1 := hpw1.symm
  subst hpw1
  have kr1 := zrng r1
  show zP _ _ _ _ [.int r1] _ _ _ _ _
  refine zp_if (i := .ifCond .ne 5) (c := ¬ r1 = 0) (t := 9) (e := 7) (lv' := [(0, .ref m), (1, .int s9), (2, .int what), (3, .int i), (4, .int j)]) (st' := []) (by decide +kernel) rfl (fun cc4 => ?_) (fun cc4 => ?_)
  ·
    have f6 := zneI cc4
    rw [show (0 : Int32).toInt = 0 from by decide] at f6
    have his9 := hr1 (hrb1.resolve_left cc4)
    refine zp_seg (pc' := 10) (lv' := [(0, .ref m), (1, .int s9), (2, .int what), (3, .int i), (4, .int j)]) (st' := [.ref m]) [(9, .aload_n 0)] (by decide +kernel) rfl ?_
    refine zr_get (idx := 450) (k := 20) (v := .ref (m + 82)) (by decide +kernel) (by decide +kernel) hm rfl ?_
    refine zp_seg (pc' := 14) (lv' := [(0, .ref m), (1, .int s9), (2, .int what), (3, .int i), (4, .int j)]) (st' := [.int s9, .ref (m + 82)]) [(13, .iload_n 1)] (by decide +kernel) rfl ?_
    have hb8 := hR_m.slots
    have hz9 : (s9.toNatClampNeg : Int) = s9.toInt := znat (by first | omega | decide)
    refine zr_aald (v := .ref (m + 7486 + 9 * s9.toNatClampNeg)) (by decide +kernel) hb8 (by decide) (zin (by first | omega | decide) (by first | omega | decide)) (zsl_at (by omega)) ?_
    obtain ⟨kS1, hkS1⟩ := hsl s9.toNatClampNeg (by omega)
    obtain ⟨g1, fn1, fd1, fa1, fb1, fc1, fe1, fr1, fu1, hT1, hAn1, hAd1, hAa1, hAb1, hAc1, hAe1, hAr1, hAu1, hK1⟩ := id hkS1
    obtain ⟨hK10, hKn1, hKd1, hKx1, hKm1, hKl1, hKr1, hKu1, hKk1⟩ := id hK1
    refine zp_seg (pc' := 19) (lv' := [(5, .ref (m + 7486 + 9 * s9.toNatClampNeg)), (0, .ref m), (1, .int s9), (2, .int what), (3, .int i), (4, .int j)]) (st' := [.ref (m + 7486 + 9 * s9.toNatClampNeg)]) [(15, .astore 5), (17, .aload 5)] (by decide +kernel) rfl ?_
    refine zr_get (idx := 202) (k := 0) (v := .int (g1 0)) (by decide +kernel) (by decide +kernel) hT1 rfl ?_
    refine zp_seg (pc' := 23) (lv' := [(5, .ref (m + 7486 + 9 * s9.toNatClampNeg)), (0, .ref m), (1, .int s9), (2, .int what), (3, .int i), (4, .int j)]) (st' := [.int 3, .int (g1 0)]) [(22, .iconst 3)] (by decide +kernel) rfl ?_
    refine zp_if (i := .if_icmp .eq 12) (c := (g1 0) = 3) (t := 35) (e := 26) (lv' := [(5, .ref (m + 7486 + 9 * s9.toNatClampNeg)), (0, .ref m), (1, .int s9), (2, .int what), (3, .int i), (4, .int j)]) (st' := []) (by decide +kernel) rfl (fun cc23 => ?_) (fun cc23 => ?_)
    ·
      have k10 := zrng (g1 0)
      have f12 := zeqI cc23
      rw [show (3 : Int32).toInt = 3 from by decide] at f12
      refine zp_seg (pc' := 44) (lv' := [(6, .int 1), (5, .ref (m + 7486 + 9 * s9.toNatClampNeg)), (0, .ref m), (1, .int s9), (2, .int what), (3, .int i), (4, .int j)]) (st' := [.ref (m + 7486 + 9 * s9.toNatClampNeg)]) [(35, .iconst 1), (36, .goto 4), (40, .istore 6), (42, .aload 5)] (by decide +kernel) rfl ?_
      refine zr_get (idx := 202) (k := 0) (v := .int (g1 0)) (by decide +kernel) (by decide +kernel) hT1 rfl ?_
      refine zp_if (i := .ifCond .eq 31) (c := (g1 0) = 0) (t := 78) (e := 50) (lv' := [(6, .int 1), (5, .ref (m + 7486 + 9 * s9.toNatClampNeg)), (0, .ref m), (1, .int s9), (2, .int what), (3, .int i), (4, .int j)]) (st' := []) (by decide +kernel) rfl (fun cc47 => ?_) (fun cc47 => ?_)
      ·
        have f13 := zeqI cc47
        rw [show (0 : Int32).toInt = 0 from by decide] at f13
        refine zp_seg (pc' := 80) (lv' := [(6, .int 1), (5, .ref (m + 7486 + 9 * s9.toNatClampNeg)), (0, .ref m), (1, .int s9), (2, .int what), (3, .int i), (4, .int j)]) (st' := [.int (Int32.ofInt (-3))]) [(78, .bipush (-3))] (by decide +kernel) rfl ?_
        refine zr_retI (by decide +kernel) rfl ?_
        rw [← hPost]; exact ⟨rfl, _, rfl, rfl, _, rfl, trivial⟩
      ·
        have f15 := zneI cc47
        rw [show (0 : Int32).toInt = 0 from by decide] at f15
        refine zp_seg (pc' := 52) (lv' := [(6, .int 1), (5, .ref (m + 7486 + 9 * s9.toNatClampNeg)), (0, .ref m), (1, .int s9), (2, .int what), (3, .int i), (4, .int j)]) (st' := [.ref (m + 7486 + 9 * s9.toNatClampNeg)]) [(50, .aload 5)] (by decide +kernel) rfl ?_
        refine zr_get (idx := 202) (k := 0) (v := .int (g1 0)) (by decide +kernel) (by decide +kernel) hT1 rfl ?_
        refine zp_seg (pc' := 56) (lv' := [(6, .int 1), (5, .ref (m + 7486 + 9 * s9.toNatClampNeg)), (0, .ref m), (1, .int s9), (2, .int what), (3, .int i), (4, .int j)]) (st' := [.int 4, .int (g1 0)]) [(55, .iconst 4)] (by decide +kernel) rfl ?_
        refine zp_if (i := .if_icmp .ne 12) (c := ¬ (g1 0) = 4) (t := 68) (e := 59) (lv' := [(6, .int 1), (5, .ref (m + 7486 + 9 * s9.toNatClampNeg)), (0, .ref m), (1, .int s9), (2, .int what), (3, .int i), (4, .int j)]) (st' := []) (by decide +kernel) rfl (fun cc56 => ?_) (fun cc56 => ?_)
        ·
          have f17 := zneI cc56
          rw [show (4 : Int32).toInt = 4 from by decide] at f17
          refine zp_seg (pc' := 70) (lv' := [(6, .int 1), (5, .ref (m + 7486 + 9 * s9.toNatClampNeg)), (0, .ref m), (1, .int s9), (2, .int what), (3, .int i), (4, .int j)]) (st' := [.int 1]) [(68, .iload 6)] (by decide +kernel) rfl ?_
          refine zp_pure (pc' := 81) (lv' := [(6, .int 1), (5, .ref (m + 7486 + 9 * s9.toNatClampNeg)), (0, .ref m), (1, .int s9), (2, .int what), (3, .int i), (4, .int j)]) (st' := []) (i := .ifCond .ne 11) (by decide +kernel) rfl ?_
          refine zp_seg (pc' := 82) (lv' := [(6, .int 1), (5, .ref (m + 7486 + 9 * s9.toNatClampNeg)), (0, .ref m), (1, .int s9), (2, .int what), (3, .int i), (4, .int j)]) (st' := [.int what]) [(81, .iload_n 2)] (by decide +kernel) rfl ?_
          refine zp_if (i := .ifCond .lt 19) (c := what < 0) (t := 101) (e := 85) (lv' := [(6, .int 1), (5, .ref (m + 7486 + 9 * s9.toNatClampNeg)), (0, .ref m), (1, .int s9), (2, .int what), (3, .int i), (4, .int j)]) (st' := []) (by decide +kernel) rfl (fun cc82 => ?_) (fun cc82 => ?_)
          ·
            have f18 := zltI cc82
            rw [show (0 : Int32).toInt = 0 from by decide] at f18
            refine zp_seg (pc' := 102) (lv' := [(6, .int 1), (5, .ref (m + 7486 + 9 * s9.toNatClampNeg)), (0, .ref m), (1, .int s9), (2, .int what), (3, .int i), (4, .int j)]) (st' := [.int (Int32.ofInt (-1))]) [(101, .iconst (-1))] (by decide +kernel) rfl ?_
            refine zr_retI (by decide +kernel) rfl ?_
            rw [← hPost]; exact ⟨rfl, _, rfl, rfl, _, rfl, trivial⟩
          ·
            have f20 := znltI cc82
            rw [show (0 : Int32).toInt = 0 from by decide] at f20
            refine zp_seg (pc' := 87) (lv' := [(6, .int 1), (5, .ref (m + 7486 + 9 * s9.toNatClampNeg)), (0, .ref m), (1, .int s9), (2, .int what), (3, .int i), (4, .int j)]) (st' := [.int 1, .int what]) [(85, .iload_n 2), (86, .iconst 1)] (by decide +kernel) rfl ?_
            refine zp_if (i := .if_icmp .le 16) (c := what ≤ 1) (t := 103) (e := 90) (lv' := [(6, .int 1), (5, .ref (m + 7486 + 9 * s9.toNatClampNeg)), (0, .ref m), (1, .int s9), (2, .int what), (3, .int i), (4, .int j)]) (st' := []) (by decide +kernel) rfl (fun cc87 => ?_) (fun cc87 => ?_)
            ·
              have f22 := zleI cc87
              rw [show (1 : Int32).toInt = 1 from by decide] at f22
              refine zp_seg (pc' := 105) (lv' := [(6, .int 1), (5, .ref (m + 7486 + 9 * s9.toNatClampNeg)), (0, .ref m), (1, .int s9), (2, .int what), (3, .int i), (4, .int j)]) (st' := [.int 1, .int what]) [(103, .iload_n 2), (104, .iconst 1)] (by decide +kernel) rfl ?_
              refine zp_if (i := .if_icmp .le 37) (c := what ≤ 1) (t := 142) (e := 108) (lv' := [(6, .int 1), (5, .ref (m + 7486 + 9 * s9.toNatClampNeg)), (0, .ref m), (1, .int s9), (2, .int what), (3, .int i), (4, .int j)]) (st' := []) (by decide +kernel) rfl (fun cc105 => ?_) (fun cc105 => ?_)
              ·
                have f23 := zleI cc105
                rw [show (1 : Int32).toInt = 1 from by decide] at f23
                refine zp_seg (pc' := 143) (lv' := [(6, .int 1), (5, .ref (m + 7486 + 9 * s9.toNatClampNeg)), (0, .ref m), (1, .int s9), (2, .int what), (3, .int i), (4, .int j)]) (st' := [.int i]) [(142, .iload_n 3)] (by decide +kernel) rfl ?_
                refine zp_if (i := .ifCond .lt 21) (c := i < 0) (t := 164) (e := 146) (lv' := [(6, .int 1), (5, .ref (m + 7486 + 9 * s9.toNatClampNeg)), (0, .ref m), (1, .int s9), (2, .int what), (3, .int i), (4, .int j)]) (st' := []) (by decide +kernel) rfl (fun cc143 => ?_) (fun cc143 => ?_)
                ·
                  have f24 := zltI cc143
                  rw [show (0 : Int32).toInt = 0 from by decide] at f24
                  refine zp_seg (pc' := 193) (lv' := [(6, .int 1), (5, .ref (m + 7486 + 9 * s9.toNatClampNeg)), (0, .ref m), (1, .int s9), (2, .int what), (3, .int i), (4, .int j)]) (st' := [.int 0]) [(164, .iconst 0), (165, .goto 28)] (by decide +kernel) rfl ?_
                  refine zr_retI (by decide +kernel) rfl ?_
                  rw [← hPost]; exact ⟨rfl, _, rfl, rfl, _, rfl, trivial⟩
                ·
                  have f25 := znltI cc143
                  rw [show (0 : Int32).toInt = 0 from by decide] at f25
                  refine zp_seg (pc' := 149) (lv' := [(6, .int 1), (5, .ref (m + 7486 + 9 * s9.toNatClampNeg)), (0, .ref m), (1, .int s9), (2, .int what), (3, .int i), (4, .int j)]) (st' := [.int 24, .int i]) [(146, .iload_n 3), (147, .bipush 24)] (by decide +kernel) rfl ?_
                  refine zp_if (i := .if_icmp .gt 15) (c := 24 < i) (t := 164) (e := 152) (lv' := [(6, .int 1), (5, .ref (m + 7486 + 9 * s9.toNatClampNeg)), (0, .ref m), (1, .int s9), (2, .int what), (3, .int i), (4, .int j)]) (st' := []) (by decide +kernel) rfl (fun cc149 => ?_) (fun cc149 => ?_)
                  ·
                    have f27 := zltI cc149
                    rw [show (24 : Int32).toInt = 24 from by decide] at f27
                    refine zp_seg (pc' := 193) (lv' := [(6, .int 1), (5, .ref (m + 7486 + 9 * s9.toNatClampNeg)), (0, .ref m), (1, .int s9), (2, .int what), (3, .int i), (4, .int j)]) (st' := [.int 0]) [(164, .iconst 0), (165, .goto 28)] (by decide +kernel) rfl ?_
                    refine zr_retI (by decide +kernel) rfl ?_
                    rw [← hPost]; exact ⟨rfl, _, rfl, rfl, _, rfl, trivial⟩
                  ·
                    have f29 := znltI cc149
                    rw [show (24 : Int32).toInt = 24 from by decide] at f29
                    refine zp_seg (pc' := 154) (lv' := [(6, .int 1), (5, .ref (m + 7486 + 9 * s9.toNatClampNeg)), (0, .ref m), (1, .int s9), (2, .int what), (3, .int i), (4, .int j)]) (st' := [.int j]) [(152, .iload 4)] (by decide +kernel) rfl ?_
                    refine zp_if (i := .ifCond .lt 10) (c := j < 0) (t := 164) (e := 157) (lv' := [(6, .int 1), (5, .ref (m + 7486 + 9 * s9.toNatClampNeg)), (0, .ref m), (1, .int s9), (2, .int what), (3, .int i), (4, .int j)]) (st' := []) (by decide +kernel) rfl (fun cc154 => ?_) (fun cc154 => ?_)
                    ·
                      have f30 := zltI cc154
                      rw [show (0 : Int32).toInt = 0 from by decide] at f30
                      refine zp_seg (pc' := 193) (lv' := [(6, .int 1), (5, .ref (m + 7486 + 9 * s9.toNatClampNeg)), (0, .ref m), (1, .int s9), (2, .int what), (3, .int i), (4, .int j)]) (st' := [.int 0]) [(164, .iconst 0), (165, .goto 28)] (by decide +kernel) rfl ?_
                      refine zr_retI (by decide +kernel) rfl ?_
                      rw [← hPost]; exact ⟨rfl, _, rfl, rfl, _, rfl, trivial⟩
                    ·
                      have f31 := znltI cc154
                      rw [show (0 : Int32).toInt = 0 from by decide] at f31
                      refine zp_seg (pc' := 161) (lv' := [(6, .int 1), (5, .ref (m + 7486 + 9 * s9.toNatClampNeg)), (0, .ref m), (1, .int s9), (2, .int what), (3, .int i), (4, .int j)]) (st' := [.int 12, .int j]) [(157, .iload 4), (159, .bipush 12)] (by decide +kernel) rfl ?_
                      refine zp_if (i := .if_icmp .le 7) (c := j ≤ 12) (t := 168) (e := 164) (lv' := [(6, .int 1), (5, .ref (m + 7486 + 9 * s9.toNatClampNeg)), (0, .ref m), (1, .int s9), (2, .int what), (3, .int i), (4, .int j)]) (st' := []) (by decide +kernel) rfl (fun cc161 => ?_) (fun cc161 => ?_)
                      ·
                        have f33 := zleI cc161
                        rw [show (12 : Int32).toInt = 12 from by decide] at f33
                        refine zp_seg (pc' := 169) (lv' := [(6, .int 1), (5, .ref (m + 7486 + 9 * s9.toNatClampNeg)), (0, .ref m), (1, .int s9), (2, .int what), (3, .int i), (4, .int j)]) (st' := [.int what]) [(168, .iload_n 2)] (by decide +kernel) rfl ?_
                        refine zp_if (i := .ifCond .ne 11) (c := ¬ what = 0) (t := 180) (e := 172) (lv' := [(6, .int 1), (5, .ref (m + 7486 + 9 * s9.toNatClampNeg)), (0, .ref m), (1, .int s9), (2, .int what), (3, .int i), (4, .int j)]) (st' := []) (by decide +kernel) rfl (fun cc169 => ?_) (fun cc169 => ?_)
                        ·
                          have f34 := zneI cc169
                          rw [show (0 : Int32).toInt = 0 from by decide] at f34
                          refine zp_seg (pc' := 182) (lv' := [(6, .int 1), (5, .ref (m + 7486 + 9 * s9.toNatClampNeg)), (0, .ref m), (1, .int s9), (2, .int what), (3, .int i), (4, .int j)]) (st' := [.ref (m + 7486 + 9 * s9.toNatClampNeg)]) [(180, .aload 5)] (by decide +kernel) rfl ?_
                          refine zr_get (idx := 210) (k := 2) (v := .ref (m + 7486 + 9 * s9.toNatClampNeg + 2)) (by decide +kernel) (by decide +kernel) hT1 rfl ?_
                          refine zp_seg (pc' := 190) (lv' := [(6, .int 1), (5, .ref (m + 7486 + 9 * s9.toNatClampNeg)), (0, .ref m), (1, .int s9), (2, .int what), (3, .int i), (4, .int j)]) (st' := [.int (25 * j), .ref (m + 7486 + 9 * s9.toNatClampNeg + 2)]) [(185, .bipush 25), (187, .iload 4), (189, .imul)] (by decide +kernel) rfl ?_
                          have k35 := zmulCl 25 j (n := 25) (by decide) (by omega) (by omega)
                          generalize ev190 : (25 * j : Int32) = v190 at k35 ⊢
                          have kv190 := zrng v190
                          refine zp_seg (pc' := 192) (lv' := [(6, .int 1), (5, .ref (m + 7486 + 9 * s9.toNatClampNeg)), (0, .ref m), (1, .int s9), (2, .int what), (3, .int i), (4, .int j)]) (st' := [.int (v190 + i), .ref (m + 7486 + 9 * s9.toNatClampNeg + 2)]) [(190, .iload_n 3), (191, .iadd)] (by decide +kernel) rfl ?_
                          have k36 := zadd v190 i (by omega) (by omega)
                          generalize ev192 : (v190 + i : Int32) = v192 at k36 ⊢
                          have kv192 := zrng v192
                          refine zr_iald (by decide +kernel) hAd1 (zin (by first | omega | decide) (by first | omega | decide)) ?_
                          have hz37 : (v192.toNatClampNeg : Int) = v192.toInt := znat (by first | omega | decide)
                          obtain ⟨x192, ex192⟩ : ∃ x9, x9 = fd1 (v192.toNatClampNeg) := ⟨_, rfl⟩
                          rw [← ex192]
                          have kx192 := zrng x192
                          refine zr_retI (by decide +kernel) rfl ?_
                          rw [← hPost]; exact ⟨rfl, _, rfl, rfl, _, rfl, trivial⟩
                        ·
                          replace cc169 := Classical.not_not.mp cc169
                          have f38 := zeqI cc169
                          rw [show (0 : Int32).toInt = 0 from by decide] at f38
                          refine zp_seg (pc' := 174) (lv' := [(6, .int 1), (5, .ref (m + 7486 + 9 * s9.toNatClampNeg)), (0, .ref m), (1, .int s9), (2, .int what), (3, .int i), (4, .int j)]) (st' := [.ref (m + 7486 + 9 * s9.toNatClampNeg)]) [(172, .aload 5)] (by decide +kernel) rfl ?_
                          refine zr_get (idx := 207) (k := 1) (v := .ref (m + 7486 + 9 * s9.toNatClampNeg + 1)) (by decide +kernel) (by decide +kernel) hT1 rfl ?_
                          refine zp_seg (pc' := 190) (lv' := [(6, .int 1), (5, .ref (m + 7486 + 9 * s9.toNatClampNeg)), (0, .ref m), (1, .int s9), (2, .int what), (3, .int i), (4, .int j)]) (st' := [.int (25 * j), .ref (m + 7486 + 9 * s9.toNatClampNeg + 1)]) [(177, .goto 8), (185, .bipush 25), (187, .iload 4), (189, .imul)] (by decide +kernel) rfl ?_
                          have k39 := zmulCl 25 j (n := 25) (by decide) (by omega) (by omega)
                          generalize ev190 : (25 * j : Int32) = v190 at k39 ⊢
                          have kv190 := zrng v190
                          refine zp_seg (pc' := 192) (lv' := [(6, .int 1), (5, .ref (m + 7486 + 9 * s9.toNatClampNeg)), (0, .ref m), (1, .int s9), (2, .int what), (3, .int i), (4, .int j)]) (st' := [.int (v190 + i), .ref (m + 7486 + 9 * s9.toNatClampNeg + 1)]) [(190, .iload_n 3), (191, .iadd)] (by decide +kernel) rfl ?_
                          have k40 := zadd v190 i (by omega) (by omega)
                          generalize ev192 : (v190 + i : Int32) = v192 at k40 ⊢
                          have kv192 := zrng v192
                          refine zr_iald (by decide +kernel) hAn1 (zin (by first | omega | decide) (by first | omega | decide)) ?_
                          have hz41 : (v192.toNatClampNeg : Int) = v192.toInt := znat (by first | omega | decide)
                          obtain ⟨x192, ex192⟩ : ∃ x9, x9 = fn1 (v192.toNatClampNeg) := ⟨_, rfl⟩
                          rw [← ex192]
                          have kx192 := zrng x192
                          refine zr_retI (by decide +kernel) rfl ?_
                          rw [← hPost]; exact ⟨rfl, _, rfl, rfl, _, rfl, trivial⟩
                      ·
                        have f43 := znleI cc161
                        rw [show (12 : Int32).toInt = 12 from by decide] at f43
                        refine zp_seg (pc' := 193) (lv' := [(6, .int 1), (5, .ref (m + 7486 + 9 * s9.toNatClampNeg)), (0, .ref m), (1, .int s9), (2, .int what), (3, .int i), (4, .int j)]) (st' := [.int 0]) [(164, .iconst 0), (165, .goto 28)] (by decide +kernel) rfl ?_
                        refine zr_retI (by decide +kernel) rfl ?_
                        rw [← hPost]; exact ⟨rfl, _, rfl, rfl, _, rfl, trivial⟩
              ·
                exact absurd cc87 cc105
            ·
              have f45 := znleI cc87
              rw [show (1 : Int32).toInt = 1 from by decide] at f45
              refine zp_seg (pc' := 93) (lv' := [(6, .int 1), (5, .ref (m + 7486 + 9 * s9.toNatClampNeg)), (0, .ref m), (1, .int s9), (2, .int what), (3, .int i), (4, .int j)]) (st' := [.int (what - 2)]) [(90, .iload_n 2), (91, .iconst 2), (92, .isub)] (by decide +kernel) rfl ?_
              have k46 := zsubC what 2 (n := 2) (by decide) (by omega) (by omega)
              generalize ev93 : (what - 2 : Int32) = v93 at k46 ⊢
              have kv93 := zrng v93
              refine zp_seg (pc' := 95) (lv' := [(6, .int 1), (5, .ref (m + 7486 + 9 * s9.toNatClampNeg)), (0, .ref m), (1, .int s9), (2, .int what), (3, .int i), (4, .int j)]) (st' := [.ref (m + 7486 + 9 * s9.toNatClampNeg), .int v93]) [(93, .aload 5)] (by decide +kernel) rfl ?_
              refine zr_get (idx := 234) (k := 10) (v := .int (g1 10)) (by decide +kernel) (by decide +kernel) hT1 rfl ?_
              refine zp_if (i := .if_icmp .le 5) (c := v93 ≤ (g1 10)) (t := 103) (e := 101) (lv' := [(6, .int 1), (5, .ref (m + 7486 + 9 * s9.toNatClampNeg)), (0, .ref m), (1, .int s9), (2, .int what), (3, .int i), (4, .int j)]) (st' := []) (by decide +kernel) rfl (fun cc98 => ?_) (fun cc98 => ?_)
              ·
                have k47 := zrng (g1 10)
                have f48 := zleI cc98
                refine zp_seg (pc' := 105) (lv' := [(6, .int 1), (5, .ref (m + 7486 + 9 * s9.toNatClampNeg)), (0, .ref m), (1, .int s9), (2, .int what), (3, .int i), (4, .int j)]) (st' := [.int 1, .int what]) [(103, .iload_n 2), (104, .iconst 1)] (by decide +kernel) rfl ?_
                refine zp_if (i := .if_icmp .le 37) (c := what ≤ 1) (t := 142) (e := 108) (lv' := [(6, .int 1), (5, .ref (m + 7486 + 9 * s9.toNatClampNeg)), (0, .ref m), (1, .int s9), (2, .int what), (3, .int i), (4, .int j)]) (st' := []) (by decide +kernel) rfl (fun cc105 => ?_) (fun cc105 => ?_)
                ·
                  exact absurd cc105 cc87
                ·
                  have f49 := znleI cc105
                  rw [show (1 : Int32).toInt = 1 from by decide] at f49
                  refine zp_seg (pc' := 110) (lv' := [(6, .int 1), (5, .ref (m + 7486 + 9 * s9.toNatClampNeg)), (0, .ref m), (1, .int s9), (2, .int what), (3, .int i), (4, .int j)]) (st' := [.int j]) [(108, .iload 4)] (by decide +kernel) rfl ?_
                  refine zp_if (i := .ifCond .ne 30) (c := ¬ j = 0) (t := 140) (e := 113) (lv' := [(6, .int 1), (5, .ref (m + 7486 + 9 * s9.toNatClampNeg)), (0, .ref m), (1, .int s9), (2, .int what), (3, .int i), (4, .int j)]) (st' := []) (by decide +kernel) rfl (fun cc110 => ?_) (fun cc110 => ?_)
                  ·
                    have f50 := zneI cc110
                    rw [show (0 : Int32).toInt = 0 from by decide] at f50
                    refine zp_seg (pc' := 141) (lv' := [(6, .int 1), (5, .ref (m + 7486 + 9 * s9.toNatClampNeg)), (0, .ref m), (1, .int s9), (2, .int what), (3, .int i), (4, .int j)]) (st' := [.int 0]) [(140, .iconst 0)] (by decide +kernel) rfl ?_
                    refine zr_retI (by decide +kernel) rfl ?_
                    rw [← hPost]; exact ⟨rfl, _, rfl, rfl, _, rfl, trivial⟩
                  ·
                    replace cc110 := Classical.not_not.mp cc110
                    have f51 := zeqI cc110
                    rw [show (0 : Int32).toInt = 0 from by decide] at f51
                    refine zp_seg (pc' := 114) (lv' := [(6, .int 1), (5, .ref (m + 7486 + 9 * s9.toNatClampNeg)), (0, .ref m), (1, .int s9), (2, .int what), (3, .int i), (4, .int j)]) (st' := [.int i]) [(113, .iload_n 3)] (by decide +kernel) rfl ?_
                    refine zp_if (i := .ifCond .lt 26) (c := i < 0) (t := 140) (e := 117) (lv' := [(6, .int 1), (5, .ref (m + 7486 + 9 * s9.toNatClampNeg)), (0, .ref m), (1, .int s9), (2, .int what), (3, .int i), (4, .int j)]) (st' := []) (by decide +kernel) rfl (fun cc114 => ?_) (fun cc114 => ?_)
                    ·
                      have f52 := zltI cc114
                      rw [show (0 : Int32).toInt = 0 from by decide] at f52
                      refine zp_seg (pc' := 141) (lv' := [(6, .int 1), (5, .ref (m + 7486 + 9 * s9.toNatClampNeg)), (0, .ref m), (1, .int s9), (2, .int what), (3, .int i), (4, .int j)]) (st' := [.int 0]) [(140, .iconst 0)] (by decide +kernel) rfl ?_
                      refine zr_retI (by decide +kernel) rfl ?_
                      rw [← hPost]; exact ⟨rfl, _, rfl, rfl, _, rfl, trivial⟩
                    ·
                      have f53 := znltI cc114
                      rw [show (0 : Int32).toInt = 0 from by decide] at f53
                      refine zp_seg (pc' := 120) (lv' := [(6, .int 1), (5, .ref (m + 7486 + 9 * s9.toNatClampNeg)), (0, .ref m), (1, .int s9), (2, .int what), (3, .int i), (4, .int j)]) (st' := [.int 24, .int i]) [(117, .iload_n 3), (118, .bipush 24)] (by decide +kernel) rfl ?_
                      refine zp_if (i := .if_icmp .gt 20) (c := 24 < i) (t := 140) (e := 123) (lv' := [(6, .int 1), (5, .ref (m + 7486 + 9 * s9.toNatClampNeg)), (0, .ref m), (1, .int s9), (2, .int what), (3, .int i), (4, .int j)]) (st' := []) (by decide +kernel) rfl (fun cc120 => ?_) (fun cc120 => ?_)
                      ·
                        have f55 := zltI cc120
                        rw [show (24 : Int32).toInt = 24 from by decide] at f55
                        refine zp_seg (pc' := 141) (lv' := [(6, .int 1), (5, .ref (m + 7486 + 9 * s9.toNatClampNeg)), (0, .ref m), (1, .int s9), (2, .int what), (3, .int i), (4, .int j)]) (st' := [.int 0]) [(140, .iconst 0)] (by decide +kernel) rfl ?_
                        refine zr_retI (by decide +kernel) rfl ?_
                        rw [← hPost]; exact ⟨rfl, _, rfl, rfl, _, rfl, trivial⟩
                      ·
                        have f57 := znltI cc120
                        rw [show (24 : Int32).toInt = 24 from by decide] at f57
                        have hord : (g1 10).toInt ≤ 6 := by
                          first
                          | exact (hKk1.2.2.2.2.2 (hK10.symm.trans cc32)).1.2.1
                          | (have h9 := hKk1.2.2.2.2.1 (hK10.symm.trans cc23)
                             omega)
                        refine zp_seg (pc' := 125) (lv' := [(6, .int 1), (5, .ref (m + 7486 + 9 * s9.toNatClampNeg)), (0, .ref m), (1, .int s9), (2, .int what), (3, .int i), (4, .int j)]) (st' := [.ref (m + 7486 + 9 * s9.toNatClampNeg)]) [(123, .aload 5)] (by decide +kernel) rfl ?_
                        refine zr_get (idx := 237) (k := 11) (v := .ref (m + 7486 + 9 * s9.toNatClampNeg + 7)) (by decide +kernel) (by decide +kernel) hT1 rfl ?_
                        refine zp_seg (pc' := 133) (lv' := [(6, .int 1), (5, .ref (m + 7486 + 9 * s9.toNatClampNeg)), (0, .ref m), (1, .int s9), (2, .int what), (3, .int i), (4, .int j)]) (st' := [.int (what - 2), .int 25, .ref (m + 7486 + 9 * s9.toNatClampNeg + 7)]) [(128, .bipush 25), (130, .iload_n 2), (131, .iconst 2), (132, .isub)] (by decide +kernel) rfl ?_
                        have k58 := zsubC what 2 (n := 2) (by decide) (by omega) (by omega)
                        generalize ev133 : (what - 2 : Int32) = v133 at k58 ⊢
                        have kv133 := zrng v133
                        refine zp_seg (pc' := 134) (lv' := [(6, .int 1), (5, .ref (m + 7486 + 9 * s9.toNatClampNeg)), (0, .ref m), (1, .int s9), (2, .int what), (3, .int i), (4, .int j)]) (st' := [.int (25 * v133), .ref (m + 7486 + 9 * s9.toNatClampNeg + 7)]) [(133, .imul)] (by decide +kernel) rfl ?_
                        have k59 := zmulCl 25 v133 (n := 25) (by decide) (by omega) (by omega)
                        generalize ev134 : (25 * v133 : Int32) = v134 at k59 ⊢
                        have kv134 := zrng v134
                        refine zp_seg (pc' := 136) (lv' := [(6, .int 1), (5, .ref (m + 7486 + 9 * s9.toNatClampNeg)), (0, .ref m), (1, .int s9), (2, .int what), (3, .int i), (4, .int j)]) (st' := [.int (v134 + i), .ref (m + 7486 + 9 * s9.toNatClampNeg + 7)]) [(134, .iload_n 3), (135, .iadd)] (by decide +kernel) rfl ?_
                        have k60 := zadd v134 i (by omega) (by omega)
                        generalize ev136 : (v134 + i : Int32) = v136 at k60 ⊢
                        have kv136 := zrng v136
                        refine zr_iald (by decide +kernel) hAr1 (zin (by first | omega | decide) (by first | omega | decide)) ?_
                        have hz61 : (v136.toNatClampNeg : Int) = v136.toInt := znat (by first | omega | decide)
                        obtain ⟨x136, ex136⟩ : ∃ x9, x9 = fr1 (v136.toNatClampNeg) := ⟨_, rfl⟩
                        rw [← ex136]
                        have kx136 := zrng x136
                        refine zp_seg (pc' := 141) (lv' := [(6, .int 1), (5, .ref (m + 7486 + 9 * s9.toNatClampNeg)), (0, .ref m), (1, .int s9), (2, .int what), (3, .int i), (4, .int j)]) (st' := [.int x136]) [(137, .goto 4)] (by decide +kernel) rfl ?_
                        refine zr_retI (by decide +kernel) rfl ?_
                        rw [← hPost]; exact ⟨rfl, _, rfl, rfl, _, rfl, trivial⟩
              ·
                have k62 := zrng (g1 10)
                have f63 := znleI cc98
                refine zp_seg (pc' := 102) (lv' := [(6, .int 1), (5, .ref (m + 7486 + 9 * s9.toNatClampNeg)), (0, .ref m), (1, .int s9), (2, .int what), (3, .int i), (4, .int j)]) (st' := [.int (Int32.ofInt (-1))]) [(101, .iconst (-1))] (by decide +kernel) rfl ?_
                refine zr_retI (by decide +kernel) rfl ?_
                rw [← hPost]; exact ⟨rfl, _, rfl, rfl, _, rfl, trivial⟩
        ·
          replace cc56 := Classical.not_not.mp cc56
          have f66 := zeqI cc56
          rw [show (4 : Int32).toInt = 4 from by decide] at f66
          refine zp_seg (pc' := 60) (lv' := [(6, .int 1), (5, .ref (m + 7486 + 9 * s9.toNatClampNeg)), (0, .ref m), (1, .int s9), (2, .int what), (3, .int i), (4, .int j)]) (st' := [.int what]) [(59, .iload_n 2)] (by decide +kernel) rfl ?_
          refine zp_if (i := .ifCond .eq 18) (c := what = 0) (t := 78) (e := 63) (lv' := [(6, .int 1), (5, .ref (m + 7486 + 9 * s9.toNatClampNeg)), (0, .ref m), (1, .int s9), (2, .int what), (3, .int i), (4, .int j)]) (st' := []) (by decide +kernel) rfl (fun cc60 => ?_) (fun cc60 => ?_)
          ·
            have f67 := zeqI cc60
            rw [show (0 : Int32).toInt = 0 from by decide] at f67
            refine zp_seg (pc' := 80) (lv' := [(6, .int 1), (5, .ref (m + 7486 + 9 * s9.toNatClampNeg)), (0, .ref m), (1, .int s9), (2, .int what), (3, .int i), (4, .int j)]) (st' := [.int (Int32.ofInt (-3))]) [(78, .bipush (-3))] (by decide +kernel) rfl ?_
            refine zr_retI (by decide +kernel) rfl ?_
            rw [← hPost]; exact ⟨rfl, _, rfl, rfl, _, rfl, trivial⟩
          ·
            have f69 := zneI cc60
            rw [show (0 : Int32).toInt = 0 from by decide] at f69
            refine zp_seg (pc' := 65) (lv' := [(6, .int 1), (5, .ref (m + 7486 + 9 * s9.toNatClampNeg)), (0, .ref m), (1, .int s9), (2, .int what), (3, .int i), (4, .int j)]) (st' := [.int 1, .int what]) [(63, .iload_n 2), (64, .iconst 1)] (by decide +kernel) rfl ?_
            refine zp_if (i := .if_icmp .eq 13) (c := what = 1) (t := 78) (e := 68) (lv' := [(6, .int 1), (5, .ref (m + 7486 + 9 * s9.toNatClampNeg)), (0, .ref m), (1, .int s9), (2, .int what), (3, .int i), (4, .int j)]) (st' := []) (by decide +kernel) rfl (fun cc65 => ?_) (fun cc65 => ?_)
            ·
              have f71 := zeqI cc65
              rw [show (1 : Int32).toInt = 1 from by decide] at f71
              refine zp_seg (pc' := 80) (lv' := [(6, .int 1), (5, .ref (m + 7486 + 9 * s9.toNatClampNeg)), (0, .ref m), (1, .int s9), (2, .int what), (3, .int i), (4, .int j)]) (st' := [.int (Int32.ofInt (-3))]) [(78, .bipush (-3))] (by decide +kernel) rfl ?_
              refine zr_retI (by decide +kernel) rfl ?_
              rw [← hPost]; exact ⟨rfl, _, rfl, rfl, _, rfl, trivial⟩
            ·
              have f74 := zneI cc65
              rw [show (1 : Int32).toInt = 1 from by decide] at f74
              refine zp_seg (pc' := 70) (lv' := [(6, .int 1), (5, .ref (m + 7486 + 9 * s9.toNatClampNeg)), (0, .ref m), (1, .int s9), (2, .int what), (3, .int i), (4, .int j)]) (st' := [.int 1]) [(68, .iload 6)] (by decide +kernel) rfl ?_
              refine zp_pure (pc' := 81) (lv' := [(6, .int 1), (5, .ref (m + 7486 + 9 * s9.toNatClampNeg)), (0, .ref m), (1, .int s9), (2, .int what), (3, .int i), (4, .int j)]) (st' := []) (i := .ifCond .ne 11) (by decide +kernel) rfl ?_
              refine zp_seg (pc' := 82) (lv' := [(6, .int 1), (5, .ref (m + 7486 + 9 * s9.toNatClampNeg)), (0, .ref m), (1, .int s9), (2, .int what), (3, .int i), (4, .int j)]) (st' := [.int what]) [(81, .iload_n 2)] (by decide +kernel) rfl ?_
              refine zp_if (i := .ifCond .lt 19) (c := what < 0) (t := 101) (e := 85) (lv' := [(6, .int 1), (5, .ref (m + 7486 + 9 * s9.toNatClampNeg)), (0, .ref m), (1, .int s9), (2, .int what), (3, .int i), (4, .int j)]) (st' := []) (by decide +kernel) rfl (fun cc82 => ?_) (fun cc82 => ?_)
              ·
                have f75 := zltI cc82
                rw [show (0 : Int32).toInt = 0 from by decide] at f75
                refine zp_seg (pc' := 102) (lv' := [(6, .int 1), (5, .ref (m + 7486 + 9 * s9.toNatClampNeg)), (0, .ref m), (1, .int s9), (2, .int what), (3, .int i), (4, .int j)]) (st' := [.int (Int32.ofInt (-1))]) [(101, .iconst (-1))] (by decide +kernel) rfl ?_
                refine zr_retI (by decide +kernel) rfl ?_
                rw [← hPost]; exact ⟨rfl, _, rfl, rfl, _, rfl, trivial⟩
              ·
                have f77 := znltI cc82
                rw [show (0 : Int32).toInt = 0 from by decide] at f77
                refine zp_seg (pc' := 87) (lv' := [(6, .int 1), (5, .ref (m + 7486 + 9 * s9.toNatClampNeg)), (0, .ref m), (1, .int s9), (2, .int what), (3, .int i), (4, .int j)]) (st' := [.int 1, .int what]) [(85, .iload_n 2), (86, .iconst 1)] (by decide +kernel) rfl ?_
                refine zp_if (i := .if_icmp .le 16) (c := what ≤ 1) (t := 103) (e := 90) (lv' := [(6, .int 1), (5, .ref (m + 7486 + 9 * s9.toNatClampNeg)), (0, .ref m), (1, .int s9), (2, .int what), (3, .int i), (4, .int j)]) (st' := []) (by decide +kernel) rfl (fun cc87 => ?_) (fun cc87 => ?_)
                ·
                  have f78 := zleI cc87
                  rw [show (1 : Int32).toInt = 1 from by decide] at f78
                  refine zp_seg (pc' := 105) (lv' := [(6, .int 1), (5, .ref (m + 7486 + 9 * s9.toNatClampNeg)), (0, .ref m), (1, .int s9), (2, .int what), (3, .int i), (4, .int j)]) (st' := [.int 1, .int what]) [(103, .iload_n 2), (104, .iconst 1)] (by decide +kernel) rfl ?_
                  refine zp_if (i := .if_icmp .le 37) (c := what ≤ 1) (t := 142) (e := 108) (lv' := [(6, .int 1), (5, .ref (m + 7486 + 9 * s9.toNatClampNeg)), (0, .ref m), (1, .int s9), (2, .int what), (3, .int i), (4, .int j)]) (st' := []) (by decide +kernel) rfl (fun cc105 => ?_) (fun cc105 => ?_)
                  ·
                    have f79 := zleI cc105
                    rw [show (1 : Int32).toInt = 1 from by decide] at f79
                    refine zp_seg (pc' := 143) (lv' := [(6, .int 1), (5, .ref (m + 7486 + 9 * s9.toNatClampNeg)), (0, .ref m), (1, .int s9), (2, .int what), (3, .int i), (4, .int j)]) (st' := [.int i]) [(142, .iload_n 3)] (by decide +kernel) rfl ?_
                    refine zp_if (i := .ifCond .lt 21) (c := i < 0) (t := 164) (e := 146) (lv' := [(6, .int 1), (5, .ref (m + 7486 + 9 * s9.toNatClampNeg)), (0, .ref m), (1, .int s9), (2, .int what), (3, .int i), (4, .int j)]) (st' := []) (by decide +kernel) rfl (fun cc143 => ?_) (fun cc143 => ?_)
                    ·
                      have f80 := zltI cc143
                      rw [show (0 : Int32).toInt = 0 from by decide] at f80
                      refine zp_seg (pc' := 193) (lv' := [(6, .int 1), (5, .ref (m + 7486 + 9 * s9.toNatClampNeg)), (0, .ref m), (1, .int s9), (2, .int what), (3, .int i), (4, .int j)]) (st' := [.int 0]) [(164, .iconst 0), (165, .goto 28)] (by decide +kernel) rfl ?_
                      refine zr_retI (by decide +kernel) rfl ?_
                      rw [← hPost]; exact ⟨rfl, _, rfl, rfl, _, rfl, trivial⟩
                    ·
                      have f81 := znltI cc143
                      rw [show (0 : Int32).toInt = 0 from by decide] at f81
                      refine zp_seg (pc' := 149) (lv' := [(6, .int 1), (5, .ref (m + 7486 + 9 * s9.toNatClampNeg)), (0, .ref m), (1, .int s9), (2, .int what), (3, .int i), (4, .int j)]) (st' := [.int 24, .int i]) [(146, .iload_n 3), (147, .bipush 24)] (by decide +kernel) rfl ?_
                      refine zp_if (i := .if_icmp .gt 15) (c := 24 < i) (t := 164) (e := 152) (lv' := [(6, .int 1), (5, .ref (m + 7486 + 9 * s9.toNatClampNeg)), (0, .ref m), (1, .int s9), (2, .int what), (3, .int i), (4, .int j)]) (st' := []) (by decide +kernel) rfl (fun cc149 => ?_) (fun cc149 => ?_)
                      ·
                        have f83 := zltI cc149
                        rw [show (24 : Int32).toInt = 24 from by decide] at f83
                        refine zp_seg (pc' := 193) (lv' := [(6, .int 1), (5, .ref (m + 7486 + 9 * s9.toNatClampNeg)), (0, .ref m), (1, .int s9), (2, .int what), (3, .int i), (4, .int j)]) (st' := [.int 0]) [(164, .iconst 0), (165, .goto 28)] (by decide +kernel) rfl ?_
                        refine zr_retI (by decide +kernel) rfl ?_
                        rw [← hPost]; exact ⟨rfl, _, rfl, rfl, _, rfl, trivial⟩
                      ·
                        have f85 := znltI cc149
                        rw [show (24 : Int32).toInt = 24 from by decide] at f85
                        refine zp_seg (pc' := 154) (lv' := [(6, .int 1), (5, .ref (m + 7486 + 9 * s9.toNatClampNeg)), (0, .ref m), (1, .int s9), (2, .int what), (3, .int i), (4, .int j)]) (st' := [.int j]) [(152, .iload 4)] (by decide +kernel) rfl ?_
                        refine zp_if (i := .ifCond .lt 10) (c := j < 0) (t := 164) (e := 157) (lv' := [(6, .int 1), (5, .ref (m + 7486 + 9 * s9.toNatClampNeg)), (0, .ref m), (1, .int s9), (2, .int what), (3, .int i), (4, .int j)]) (st' := []) (by decide +kernel) rfl (fun cc154 => ?_) (fun cc154 => ?_)
                        ·
                          have f86 := zltI cc154
                          rw [show (0 : Int32).toInt = 0 from by decide] at f86
                          refine zp_seg (pc' := 193) (lv' := [(6, .int 1), (5, .ref (m + 7486 + 9 * s9.toNatClampNeg)), (0, .ref m), (1, .int s9), (2, .int what), (3, .int i), (4, .int j)]) (st' := [.int 0]) [(164, .iconst 0), (165, .goto 28)] (by decide +kernel) rfl ?_
                          refine zr_retI (by decide +kernel) rfl ?_
                          rw [← hPost]; exact ⟨rfl, _, rfl, rfl, _, rfl, trivial⟩
                        ·
                          have f87 := znltI cc154
                          rw [show (0 : Int32).toInt = 0 from by decide] at f87
                          refine zp_seg (pc' := 161) (lv' := [(6, .int 1), (5, .ref (m + 7486 + 9 * s9.toNatClampNeg)), (0, .ref m), (1, .int s9), (2, .int what), (3, .int i), (4, .int j)]) (st' := [.int 12, .int j]) [(157, .iload 4), (159, .bipush 12)] (by decide +kernel) rfl ?_
                          refine zp_if (i := .if_icmp .le 7) (c := j ≤ 12) (t := 168) (e := 164) (lv' := [(6, .int 1), (5, .ref (m + 7486 + 9 * s9.toNatClampNeg)), (0, .ref m), (1, .int s9), (2, .int what), (3, .int i), (4, .int j)]) (st' := []) (by decide +kernel) rfl (fun cc161 => ?_) (fun cc161 => ?_)
                          ·
                            have f89 := zleI cc161
                            rw [show (12 : Int32).toInt = 12 from by decide] at f89
                            refine zp_seg (pc' := 169) (lv' := [(6, .int 1), (5, .ref (m + 7486 + 9 * s9.toNatClampNeg)), (0, .ref m), (1, .int s9), (2, .int what), (3, .int i), (4, .int j)]) (st' := [.int what]) [(168, .iload_n 2)] (by decide +kernel) rfl ?_
                            refine zp_if (i := .ifCond .ne 11) (c := ¬ what = 0) (t := 180) (e := 172) (lv' := [(6, .int 1), (5, .ref (m + 7486 + 9 * s9.toNatClampNeg)), (0, .ref m), (1, .int s9), (2, .int what), (3, .int i), (4, .int j)]) (st' := []) (by decide +kernel) rfl (fun cc169 => ?_) (fun cc169 => ?_)
                            ·
                              have f90 := zneI cc169
                              rw [show (0 : Int32).toInt = 0 from by decide] at f90
                              refine zp_seg (pc' := 182) (lv' := [(6, .int 1), (5, .ref (m + 7486 + 9 * s9.toNatClampNeg)), (0, .ref m), (1, .int s9), (2, .int what), (3, .int i), (4, .int j)]) (st' := [.ref (m + 7486 + 9 * s9.toNatClampNeg)]) [(180, .aload 5)] (by decide +kernel) rfl ?_
                              refine zr_get (idx := 210) (k := 2) (v := .ref (m + 7486 + 9 * s9.toNatClampNeg + 2)) (by decide +kernel) (by decide +kernel) hT1 rfl ?_
                              refine zp_seg (pc' := 190) (lv' := [(6, .int 1), (5, .ref (m + 7486 + 9 * s9.toNatClampNeg)), (0, .ref m), (1, .int s9), (2, .int what), (3, .int i), (4, .int j)]) (st' := [.int (25 * j), .ref (m + 7486 + 9 * s9.toNatClampNeg + 2)]) [(185, .bipush 25), (187, .iload 4), (189, .imul)] (by decide +kernel) rfl ?_
                              have k91 := zmulCl 25 j (n := 25) (by decide) (by omega) (by omega)
                              generalize ev190 : (25 * j : Int32) = v190 at k91 ⊢
                              have kv190 := zrng v190
                              refine zp_seg (pc' := 192) (lv' := [(6, .int 1), (5, .ref (m + 7486 + 9 * s9.toNatClampNeg)), (0, .ref m), (1, .int s9), (2, .int what), (3, .int i), (4, .int j)]) (st' := [.int (v190 + i), .ref (m + 7486 + 9 * s9.toNatClampNeg + 2)]) [(190, .iload_n 3), (191, .iadd)] (by decide +kernel) rfl ?_
                              have k92 := zadd v190 i (by omega) (by omega)
                              generalize ev192 : (v190 + i : Int32) = v192 at k92 ⊢
                              have kv192 := zrng v192
                              refine zr_iald (by decide +kernel) hAd1 (zin (by first | omega | decide) (by first | omega | decide)) ?_
                              have hz93 : (v192.toNatClampNeg : Int) = v192.toInt := znat (by first | omega | decide)
                              obtain ⟨x192, ex192⟩ : ∃ x9, x9 = fd1 (v192.toNatClampNeg) := ⟨_, rfl⟩
                              rw [← ex192]
                              have kx192 := zrng x192
                              refine zr_retI (by decide +kernel) rfl ?_
                              rw [← hPost]; exact ⟨rfl, _, rfl, rfl, _, rfl, trivial⟩
                            ·
                              replace cc169 := Classical.not_not.mp cc169
                              exact absurd cc169 cc60
                          ·
                            have f95 := znleI cc161
                            rw [show (12 : Int32).toInt = 12 from by decide] at f95
                            refine zp_seg (pc' := 193) (lv' := [(6, .int 1), (5, .ref (m + 7486 + 9 * s9.toNatClampNeg)), (0, .ref m), (1, .int s9), (2, .int what), (3, .int i), (4, .int j)]) (st' := [.int 0]) [(164, .iconst 0), (165, .goto 28)] (by decide +kernel) rfl ?_
                            refine zr_retI (by decide +kernel) rfl ?_
                            rw [← hPost]; exact ⟨rfl, _, rfl, rfl, _, rfl, trivial⟩
                  ·
                    exact absurd cc87 cc105
                ·
                  have f96 := znleI cc87
                  rw [show (1 : Int32).toInt = 1 from by decide] at f96
                  refine zp_seg (pc' := 93) (lv' := [(6, .int 1), (5, .ref (m + 7486 + 9 * s9.toNatClampNeg)), (0, .ref m), (1, .int s9), (2, .int what), (3, .int i), (4, .int j)]) (st' := [.int (what - 2)]) [(90, .iload_n 2), (91, .iconst 2), (92, .isub)] (by decide +kernel) rfl ?_
                  have k97 := zsubC what 2 (n := 2) (by decide) (by omega) (by omega)
                  generalize ev93 : (what - 2 : Int32) = v93 at k97 ⊢
                  have kv93 := zrng v93
                  refine zp_seg (pc' := 95) (lv' := [(6, .int 1), (5, .ref (m + 7486 + 9 * s9.toNatClampNeg)), (0, .ref m), (1, .int s9), (2, .int what), (3, .int i), (4, .int j)]) (st' := [.ref (m + 7486 + 9 * s9.toNatClampNeg), .int v93]) [(93, .aload 5)] (by decide +kernel) rfl ?_
                  refine zr_get (idx := 234) (k := 10) (v := .int (g1 10)) (by decide +kernel) (by decide +kernel) hT1 rfl ?_
                  refine zp_if (i := .if_icmp .le 5) (c := v93 ≤ (g1 10)) (t := 103) (e := 101) (lv' := [(6, .int 1), (5, .ref (m + 7486 + 9 * s9.toNatClampNeg)), (0, .ref m), (1, .int s9), (2, .int what), (3, .int i), (4, .int j)]) (st' := []) (by decide +kernel) rfl (fun cc98 => ?_) (fun cc98 => ?_)
                  ·
                    have k98 := zrng (g1 10)
                    have f99 := zleI cc98
                    refine zp_seg (pc' := 105) (lv' := [(6, .int 1), (5, .ref (m + 7486 + 9 * s9.toNatClampNeg)), (0, .ref m), (1, .int s9), (2, .int what), (3, .int i), (4, .int j)]) (st' := [.int 1, .int what]) [(103, .iload_n 2), (104, .iconst 1)] (by decide +kernel) rfl ?_
                    refine zp_if (i := .if_icmp .le 37) (c := what ≤ 1) (t := 142) (e := 108) (lv' := [(6, .int 1), (5, .ref (m + 7486 + 9 * s9.toNatClampNeg)), (0, .ref m), (1, .int s9), (2, .int what), (3, .int i), (4, .int j)]) (st' := []) (by decide +kernel) rfl (fun cc105 => ?_) (fun cc105 => ?_)
                    ·
                      exact absurd cc105 cc87
                    ·
                      have f100 := znleI cc105
                      rw [show (1 : Int32).toInt = 1 from by decide] at f100
                      refine zp_seg (pc' := 110) (lv' := [(6, .int 1), (5, .ref (m + 7486 + 9 * s9.toNatClampNeg)), (0, .ref m), (1, .int s9), (2, .int what), (3, .int i), (4, .int j)]) (st' := [.int j]) [(108, .iload 4)] (by decide +kernel) rfl ?_
                      refine zp_if (i := .ifCond .ne 30) (c := ¬ j = 0) (t := 140) (e := 113) (lv' := [(6, .int 1), (5, .ref (m + 7486 + 9 * s9.toNatClampNeg)), (0, .ref m), (1, .int s9), (2, .int what), (3, .int i), (4, .int j)]) (st' := []) (by decide +kernel) rfl (fun cc110 => ?_) (fun cc110 => ?_)
                      ·
                        have f101 := zneI cc110
                        rw [show (0 : Int32).toInt = 0 from by decide] at f101
                        refine zp_seg (pc' := 141) (lv' := [(6, .int 1), (5, .ref (m + 7486 + 9 * s9.toNatClampNeg)), (0, .ref m), (1, .int s9), (2, .int what), (3, .int i), (4, .int j)]) (st' := [.int 0]) [(140, .iconst 0)] (by decide +kernel) rfl ?_
                        refine zr_retI (by decide +kernel) rfl ?_
                        rw [← hPost]; exact ⟨rfl, _, rfl, rfl, _, rfl, trivial⟩
                      ·
                        replace cc110 := Classical.not_not.mp cc110
                        have f102 := zeqI cc110
                        rw [show (0 : Int32).toInt = 0 from by decide] at f102
                        refine zp_seg (pc' := 114) (lv' := [(6, .int 1), (5, .ref (m + 7486 + 9 * s9.toNatClampNeg)), (0, .ref m), (1, .int s9), (2, .int what), (3, .int i), (4, .int j)]) (st' := [.int i]) [(113, .iload_n 3)] (by decide +kernel) rfl ?_
                        refine zp_if (i := .ifCond .lt 26) (c := i < 0) (t := 140) (e := 117) (lv' := [(6, .int 1), (5, .ref (m + 7486 + 9 * s9.toNatClampNeg)), (0, .ref m), (1, .int s9), (2, .int what), (3, .int i), (4, .int j)]) (st' := []) (by decide +kernel) rfl (fun cc114 => ?_) (fun cc114 => ?_)
                        ·
                          have f103 := zltI cc114
                          rw [show (0 : Int32).toInt = 0 from by decide] at f103
                          refine zp_seg (pc' := 141) (lv' := [(6, .int 1), (5, .ref (m + 7486 + 9 * s9.toNatClampNeg)), (0, .ref m), (1, .int s9), (2, .int what), (3, .int i), (4, .int j)]) (st' := [.int 0]) [(140, .iconst 0)] (by decide +kernel) rfl ?_
                          refine zr_retI (by decide +kernel) rfl ?_
                          rw [← hPost]; exact ⟨rfl, _, rfl, rfl, _, rfl, trivial⟩
                        ·
                          have f104 := znltI cc114
                          rw [show (0 : Int32).toInt = 0 from by decide] at f104
                          refine zp_seg (pc' := 120) (lv' := [(6, .int 1), (5, .ref (m + 7486 + 9 * s9.toNatClampNeg)), (0, .ref m), (1, .int s9), (2, .int what), (3, .int i), (4, .int j)]) (st' := [.int 24, .int i]) [(117, .iload_n 3), (118, .bipush 24)] (by decide +kernel) rfl ?_
                          refine zp_if (i := .if_icmp .gt 20) (c := 24 < i) (t := 140) (e := 123) (lv' := [(6, .int 1), (5, .ref (m + 7486 + 9 * s9.toNatClampNeg)), (0, .ref m), (1, .int s9), (2, .int what), (3, .int i), (4, .int j)]) (st' := []) (by decide +kernel) rfl (fun cc120 => ?_) (fun cc120 => ?_)
                          ·
                            have f106 := zltI cc120
                            rw [show (24 : Int32).toInt = 24 from by decide] at f106
                            refine zp_seg (pc' := 141) (lv' := [(6, .int 1), (5, .ref (m + 7486 + 9 * s9.toNatClampNeg)), (0, .ref m), (1, .int s9), (2, .int what), (3, .int i), (4, .int j)]) (st' := [.int 0]) [(140, .iconst 0)] (by decide +kernel) rfl ?_
                            refine zr_retI (by decide +kernel) rfl ?_
                            rw [← hPost]; exact ⟨rfl, _, rfl, rfl, _, rfl, trivial⟩
                          ·
                            have f108 := znltI cc120
                            rw [show (24 : Int32).toInt = 24 from by decide] at f108
                            have hord : (g1 10).toInt ≤ 6 := by
                              first
                              | exact (hKk1.2.2.2.2.2 (hK10.symm.trans cc32)).1.2.1
                              | (have h9 := hKk1.2.2.2.2.1 (hK10.symm.trans cc23)
                                 omega)
                            refine zp_seg (pc' := 125) (lv' := [(6, .int 1), (5, .ref (m + 7486 + 9 * s9.toNatClampNeg)), (0, .ref m), (1, .int s9), (2, .int what), (3, .int i), (4, .int j)]) (st' := [.ref (m + 7486 + 9 * s9.toNatClampNeg)]) [(123, .aload 5)] (by decide +kernel) rfl ?_
                            refine zr_get (idx := 237) (k := 11) (v := .ref (m + 7486 + 9 * s9.toNatClampNeg + 7)) (by decide +kernel) (by decide +kernel) hT1 rfl ?_
                            refine zp_seg (pc' := 133) (lv' := [(6, .int 1), (5, .ref (m + 7486 + 9 * s9.toNatClampNeg)), (0, .ref m), (1, .int s9), (2, .int what), (3, .int i), (4, .int j)]) (st' := [.int (what - 2), .int 25, .ref (m + 7486 + 9 * s9.toNatClampNeg + 7)]) [(128, .bipush 25), (130, .iload_n 2), (131, .iconst 2), (132, .isub)] (by decide +kernel) rfl ?_
                            have k109 := zsubC what 2 (n := 2) (by decide) (by omega) (by omega)
                            generalize ev133 : (what - 2 : Int32) = v133 at k109 ⊢
                            have kv133 := zrng v133
                            refine zp_seg (pc' := 134) (lv' := [(6, .int 1), (5, .ref (m + 7486 + 9 * s9.toNatClampNeg)), (0, .ref m), (1, .int s9), (2, .int what), (3, .int i), (4, .int j)]) (st' := [.int (25 * v133), .ref (m + 7486 + 9 * s9.toNatClampNeg + 7)]) [(133, .imul)] (by decide +kernel) rfl ?_
                            have k110 := zmulCl 25 v133 (n := 25) (by decide) (by omega) (by omega)
                            generalize ev134 : (25 * v133 : Int32) = v134 at k110 ⊢
                            have kv134 := zrng v134
                            refine zp_seg (pc' := 136) (lv' := [(6, .int 1), (5, .ref (m + 7486 + 9 * s9.toNatClampNeg)), (0, .ref m), (1, .int s9), (2, .int what), (3, .int i), (4, .int j)]) (st' := [.int (v134 + i), .ref (m + 7486 + 9 * s9.toNatClampNeg + 7)]) [(134, .iload_n 3), (135, .iadd)] (by decide +kernel) rfl ?_
                            have k111 := zadd v134 i (by omega) (by omega)
                            generalize ev136 : (v134 + i : Int32) = v136 at k111 ⊢
                            have kv136 := zrng v136
                            refine zr_iald (by decide +kernel) hAr1 (zin (by first | omega | decide) (by first | omega | decide)) ?_
                            have hz112 : (v136.toNatClampNeg : Int) = v136.toInt := znat (by first | omega | decide)
                            obtain ⟨x136, ex136⟩ : ∃ x9, x9 = fr1 (v136.toNatClampNeg) := ⟨_, rfl⟩
                            rw [← ex136]
                            have kx136 := zrng x136
                            refine zp_seg (pc' := 141) (lv' := [(6, .int 1), (5, .ref (m + 7486 + 9 * s9.toNatClampNeg)), (0, .ref m), (1, .int s9), (2, .int what), (3, .int i), (4, .int j)]) (st' := [.int x136]) [(137, .goto 4)] (by decide +kernel) rfl ?_
                            refine zr_retI (by decide +kernel) rfl ?_
                            rw [← hPost]; exact ⟨rfl, _, rfl, rfl, _, rfl, trivial⟩
                  ·
                    have k113 := zrng (g1 10)
                    have f114 := znleI cc98
                    refine zp_seg (pc' := 102) (lv' := [(6, .int 1), (5, .ref (m + 7486 + 9 * s9.toNatClampNeg)), (0, .ref m), (1, .int s9), (2, .int what), (3, .int i), (4, .int j)]) (st' := [.int (Int32.ofInt (-1))]) [(101, .iconst (-1))] (by decide +kernel) rfl ?_
                    refine zr_retI (by decide +kernel) rfl ?_
                    rw [← hPost]; exact ⟨rfl, _, rfl, rfl, _, rfl, trivial⟩
    ·
      have k116 := zrng (g1 0)
      have f118 := zneI cc23
      rw [show (3 : Int32).toInt = 3 from by decide] at f118
      refine zp_seg (pc' := 28) (lv' := [(5, .ref (m + 7486 + 9 * s9.toNatClampNeg)), (0, .ref m), (1, .int s9), (2, .int what), (3, .int i), (4, .int j)]) (st' := [.ref (m + 7486 + 9 * s9.toNatClampNeg)]) [(26, .aload 5)] (by decide +kernel) rfl ?_
      refine zr_get (idx := 202) (k := 0) (v := .int (g1 0)) (by decide +kernel) (by decide +kernel) hT1 rfl ?_
      refine zp_seg (pc' := 32) (lv' := [(5, .ref (m + 7486 + 9 * s9.toNatClampNeg)), (0, .ref m), (1, .int s9), (2, .int what), (3, .int i), (4, .int j)]) (st' := [.int 4, .int (g1 0)]) [(31, .iconst 4)] (by decide +kernel) rfl ?_
      refine zp_if (i := .if_icmp .ne 7) (c := ¬ (g1 0) = 4) (t := 39) (e := 35) (lv' := [(5, .ref (m + 7486 + 9 * s9.toNatClampNeg)), (0, .ref m), (1, .int s9), (2, .int what), (3, .int i), (4, .int j)]) (st' := []) (by decide +kernel) rfl (fun cc32 => ?_) (fun cc32 => ?_)
      ·
        have f120 := zneI cc32
        rw [show (4 : Int32).toInt = 4 from by decide] at f120
        refine zp_seg (pc' := 44) (lv' := [(6, .int 0), (5, .ref (m + 7486 + 9 * s9.toNatClampNeg)), (0, .ref m), (1, .int s9), (2, .int what), (3, .int i), (4, .int j)]) (st' := [.ref (m + 7486 + 9 * s9.toNatClampNeg)]) [(39, .iconst 0), (40, .istore 6), (42, .aload 5)] (by decide +kernel) rfl ?_
        refine zr_get (idx := 202) (k := 0) (v := .int (g1 0)) (by decide +kernel) (by decide +kernel) hT1 rfl ?_
        refine zp_if (i := .ifCond .eq 31) (c := (g1 0) = 0) (t := 78) (e := 50) (lv' := [(6, .int 0), (5, .ref (m + 7486 + 9 * s9.toNatClampNeg)), (0, .ref m), (1, .int s9), (2, .int what), (3, .int i), (4, .int j)]) (st' := []) (by decide +kernel) rfl (fun cc47 => ?_) (fun cc47 => ?_)
        ·
          have f121 := zeqI cc47
          rw [show (0 : Int32).toInt = 0 from by decide] at f121
          refine zp_seg (pc' := 80) (lv' := [(6, .int 0), (5, .ref (m + 7486 + 9 * s9.toNatClampNeg)), (0, .ref m), (1, .int s9), (2, .int what), (3, .int i), (4, .int j)]) (st' := [.int (Int32.ofInt (-3))]) [(78, .bipush (-3))] (by decide +kernel) rfl ?_
          refine zr_retI (by decide +kernel) rfl ?_
          rw [← hPost]; exact ⟨rfl, _, rfl, rfl, _, rfl, trivial⟩
        ·
          have f123 := zneI cc47
          rw [show (0 : Int32).toInt = 0 from by decide] at f123
          refine zp_seg (pc' := 52) (lv' := [(6, .int 0), (5, .ref (m + 7486 + 9 * s9.toNatClampNeg)), (0, .ref m), (1, .int s9), (2, .int what), (3, .int i), (4, .int j)]) (st' := [.ref (m + 7486 + 9 * s9.toNatClampNeg)]) [(50, .aload 5)] (by decide +kernel) rfl ?_
          refine zr_get (idx := 202) (k := 0) (v := .int (g1 0)) (by decide +kernel) (by decide +kernel) hT1 rfl ?_
          refine zp_seg (pc' := 56) (lv' := [(6, .int 0), (5, .ref (m + 7486 + 9 * s9.toNatClampNeg)), (0, .ref m), (1, .int s9), (2, .int what), (3, .int i), (4, .int j)]) (st' := [.int 4, .int (g1 0)]) [(55, .iconst 4)] (by decide +kernel) rfl ?_
          refine zp_if (i := .if_icmp .ne 12) (c := ¬ (g1 0) = 4) (t := 68) (e := 59) (lv' := [(6, .int 0), (5, .ref (m + 7486 + 9 * s9.toNatClampNeg)), (0, .ref m), (1, .int s9), (2, .int what), (3, .int i), (4, .int j)]) (st' := []) (by decide +kernel) rfl (fun cc56 => ?_) (fun cc56 => ?_)
          ·
            have f124 := zneI cc56
            rw [show (4 : Int32).toInt = 4 from by decide] at f124
            refine zp_seg (pc' := 70) (lv' := [(6, .int 0), (5, .ref (m + 7486 + 9 * s9.toNatClampNeg)), (0, .ref m), (1, .int s9), (2, .int what), (3, .int i), (4, .int j)]) (st' := [.int 0]) [(68, .iload 6)] (by decide +kernel) rfl ?_
            refine zp_pure (pc' := 73) (lv' := [(6, .int 0), (5, .ref (m + 7486 + 9 * s9.toNatClampNeg)), (0, .ref m), (1, .int s9), (2, .int what), (3, .int i), (4, .int j)]) (st' := []) (i := .ifCond .ne 11) (by decide +kernel) rfl ?_
            refine zp_seg (pc' := 75) (lv' := [(6, .int 0), (5, .ref (m + 7486 + 9 * s9.toNatClampNeg)), (0, .ref m), (1, .int s9), (2, .int what), (3, .int i), (4, .int j)]) (st' := [.int 1, .int what]) [(73, .iload_n 2), (74, .iconst 1)] (by decide +kernel) rfl ?_
            refine zp_if (i := .if_icmp .le 6) (c := what ≤ 1) (t := 81) (e := 78) (lv' := [(6, .int 0), (5, .ref (m + 7486 + 9 * s9.toNatClampNeg)), (0, .ref m), (1, .int s9), (2, .int what), (3, .int i), (4, .int j)]) (st' := []) (by decide +kernel) rfl (fun cc75 => ?_) (fun cc75 => ?_)
            ·
              have f126 := zleI cc75
              rw [show (1 : Int32).toInt = 1 from by decide] at f126
              refine zp_seg (pc' := 82) (lv' := [(6, .int 0), (5, .ref (m + 7486 + 9 * s9.toNatClampNeg)), (0, .ref m), (1, .int s9), (2, .int what), (3, .int i), (4, .int j)]) (st' := [.int what]) [(81, .iload_n 2)] (by decide +kernel) rfl ?_
              refine zp_if (i := .ifCond .lt 19) (c := what < 0) (t := 101) (e := 85) (lv' := [(6, .int 0), (5, .ref (m + 7486 + 9 * s9.toNatClampNeg)), (0, .ref m), (1, .int s9), (2, .int what), (3, .int i), (4, .int j)]) (st' := []) (by decide +kernel) rfl (fun cc82 => ?_) (fun cc82 => ?_)
              ·
                have f127 := zltI cc82
                rw [show (0 : Int32).toInt = 0 from by decide] at f127
                refine zp_seg (pc' := 102) (lv' := [(6, .int 0), (5, .ref (m + 7486 + 9 * s9.toNatClampNeg)), (0, .ref m), (1, .int s9), (2, .int what), (3, .int i), (4, .int j)]) (st' := [.int (Int32.ofInt (-1))]) [(101, .iconst (-1))] (by decide +kernel) rfl ?_
                refine zr_retI (by decide +kernel) rfl ?_
                rw [← hPost]; exact ⟨rfl, _, rfl, rfl, _, rfl, trivial⟩
              ·
                have f129 := znltI cc82
                rw [show (0 : Int32).toInt = 0 from by decide] at f129
                refine zp_seg (pc' := 87) (lv' := [(6, .int 0), (5, .ref (m + 7486 + 9 * s9.toNatClampNeg)), (0, .ref m), (1, .int s9), (2, .int what), (3, .int i), (4, .int j)]) (st' := [.int 1, .int what]) [(85, .iload_n 2), (86, .iconst 1)] (by decide +kernel) rfl ?_
                refine zp_if (i := .if_icmp .le 16) (c := what ≤ 1) (t := 103) (e := 90) (lv' := [(6, .int 0), (5, .ref (m + 7486 + 9 * s9.toNatClampNeg)), (0, .ref m), (1, .int s9), (2, .int what), (3, .int i), (4, .int j)]) (st' := []) (by decide +kernel) rfl (fun cc87 => ?_) (fun cc87 => ?_)
                ·
                  have f130 := zleI cc87
                  rw [show (1 : Int32).toInt = 1 from by decide] at f130
                  refine zp_seg (pc' := 105) (lv' := [(6, .int 0), (5, .ref (m + 7486 + 9 * s9.toNatClampNeg)), (0, .ref m), (1, .int s9), (2, .int what), (3, .int i), (4, .int j)]) (st' := [.int 1, .int what]) [(103, .iload_n 2), (104, .iconst 1)] (by decide +kernel) rfl ?_
                  refine zp_if (i := .if_icmp .le 37) (c := what ≤ 1) (t := 142) (e := 108) (lv' := [(6, .int 0), (5, .ref (m + 7486 + 9 * s9.toNatClampNeg)), (0, .ref m), (1, .int s9), (2, .int what), (3, .int i), (4, .int j)]) (st' := []) (by decide +kernel) rfl (fun cc105 => ?_) (fun cc105 => ?_)
                  ·
                    have f131 := zleI cc105
                    rw [show (1 : Int32).toInt = 1 from by decide] at f131
                    refine zp_seg (pc' := 143) (lv' := [(6, .int 0), (5, .ref (m + 7486 + 9 * s9.toNatClampNeg)), (0, .ref m), (1, .int s9), (2, .int what), (3, .int i), (4, .int j)]) (st' := [.int i]) [(142, .iload_n 3)] (by decide +kernel) rfl ?_
                    refine zp_if (i := .ifCond .lt 21) (c := i < 0) (t := 164) (e := 146) (lv' := [(6, .int 0), (5, .ref (m + 7486 + 9 * s9.toNatClampNeg)), (0, .ref m), (1, .int s9), (2, .int what), (3, .int i), (4, .int j)]) (st' := []) (by decide +kernel) rfl (fun cc143 => ?_) (fun cc143 => ?_)
                    ·
                      have f132 := zltI cc143
                      rw [show (0 : Int32).toInt = 0 from by decide] at f132
                      refine zp_seg (pc' := 193) (lv' := [(6, .int 0), (5, .ref (m + 7486 + 9 * s9.toNatClampNeg)), (0, .ref m), (1, .int s9), (2, .int what), (3, .int i), (4, .int j)]) (st' := [.int 0]) [(164, .iconst 0), (165, .goto 28)] (by decide +kernel) rfl ?_
                      refine zr_retI (by decide +kernel) rfl ?_
                      rw [← hPost]; exact ⟨rfl, _, rfl, rfl, _, rfl, trivial⟩
                    ·
                      have f133 := znltI cc143
                      rw [show (0 : Int32).toInt = 0 from by decide] at f133
                      refine zp_seg (pc' := 149) (lv' := [(6, .int 0), (5, .ref (m + 7486 + 9 * s9.toNatClampNeg)), (0, .ref m), (1, .int s9), (2, .int what), (3, .int i), (4, .int j)]) (st' := [.int 24, .int i]) [(146, .iload_n 3), (147, .bipush 24)] (by decide +kernel) rfl ?_
                      refine zp_if (i := .if_icmp .gt 15) (c := 24 < i) (t := 164) (e := 152) (lv' := [(6, .int 0), (5, .ref (m + 7486 + 9 * s9.toNatClampNeg)), (0, .ref m), (1, .int s9), (2, .int what), (3, .int i), (4, .int j)]) (st' := []) (by decide +kernel) rfl (fun cc149 => ?_) (fun cc149 => ?_)
                      ·
                        have f135 := zltI cc149
                        rw [show (24 : Int32).toInt = 24 from by decide] at f135
                        refine zp_seg (pc' := 193) (lv' := [(6, .int 0), (5, .ref (m + 7486 + 9 * s9.toNatClampNeg)), (0, .ref m), (1, .int s9), (2, .int what), (3, .int i), (4, .int j)]) (st' := [.int 0]) [(164, .iconst 0), (165, .goto 28)] (by decide +kernel) rfl ?_
                        refine zr_retI (by decide +kernel) rfl ?_
                        rw [← hPost]; exact ⟨rfl, _, rfl, rfl, _, rfl, trivial⟩
                      ·
                        have f137 := znltI cc149
                        rw [show (24 : Int32).toInt = 24 from by decide] at f137
                        refine zp_seg (pc' := 154) (lv' := [(6, .int 0), (5, .ref (m + 7486 + 9 * s9.toNatClampNeg)), (0, .ref m), (1, .int s9), (2, .int what), (3, .int i), (4, .int j)]) (st' := [.int j]) [(152, .iload 4)] (by decide +kernel) rfl ?_
                        refine zp_if (i := .ifCond .lt 10) (c := j < 0) (t := 164) (e := 157) (lv' := [(6, .int 0), (5, .ref (m + 7486 + 9 * s9.toNatClampNeg)), (0, .ref m), (1, .int s9), (2, .int what), (3, .int i), (4, .int j)]) (st' := []) (by decide +kernel) rfl (fun cc154 => ?_) (fun cc154 => ?_)
                        ·
                          have f138 := zltI cc154
                          rw [show (0 : Int32).toInt = 0 from by decide] at f138
                          refine zp_seg (pc' := 193) (lv' := [(6, .int 0), (5, .ref (m + 7486 + 9 * s9.toNatClampNeg)), (0, .ref m), (1, .int s9), (2, .int what), (3, .int i), (4, .int j)]) (st' := [.int 0]) [(164, .iconst 0), (165, .goto 28)] (by decide +kernel) rfl ?_
                          refine zr_retI (by decide +kernel) rfl ?_
                          rw [← hPost]; exact ⟨rfl, _, rfl, rfl, _, rfl, trivial⟩
                        ·
                          have f139 := znltI cc154
                          rw [show (0 : Int32).toInt = 0 from by decide] at f139
                          refine zp_seg (pc' := 161) (lv' := [(6, .int 0), (5, .ref (m + 7486 + 9 * s9.toNatClampNeg)), (0, .ref m), (1, .int s9), (2, .int what), (3, .int i), (4, .int j)]) (st' := [.int 12, .int j]) [(157, .iload 4), (159, .bipush 12)] (by decide +kernel) rfl ?_
                          refine zp_if (i := .if_icmp .le 7) (c := j ≤ 12) (t := 168) (e := 164) (lv' := [(6, .int 0), (5, .ref (m + 7486 + 9 * s9.toNatClampNeg)), (0, .ref m), (1, .int s9), (2, .int what), (3, .int i), (4, .int j)]) (st' := []) (by decide +kernel) rfl (fun cc161 => ?_) (fun cc161 => ?_)
                          ·
                            have f141 := zleI cc161
                            rw [show (12 : Int32).toInt = 12 from by decide] at f141
                            refine zp_seg (pc' := 169) (lv' := [(6, .int 0), (5, .ref (m + 7486 + 9 * s9.toNatClampNeg)), (0, .ref m), (1, .int s9), (2, .int what), (3, .int i), (4, .int j)]) (st' := [.int what]) [(168, .iload_n 2)] (by decide +kernel) rfl ?_
                            refine zp_if (i := .ifCond .ne 11) (c := ¬ what = 0) (t := 180) (e := 172) (lv' := [(6, .int 0), (5, .ref (m + 7486 + 9 * s9.toNatClampNeg)), (0, .ref m), (1, .int s9), (2, .int what), (3, .int i), (4, .int j)]) (st' := []) (by decide +kernel) rfl (fun cc169 => ?_) (fun cc169 => ?_)
                            ·
                              have f142 := zneI cc169
                              rw [show (0 : Int32).toInt = 0 from by decide] at f142
                              refine zp_seg (pc' := 182) (lv' := [(6, .int 0), (5, .ref (m + 7486 + 9 * s9.toNatClampNeg)), (0, .ref m), (1, .int s9), (2, .int what), (3, .int i), (4, .int j)]) (st' := [.ref (m + 7486 + 9 * s9.toNatClampNeg)]) [(180, .aload 5)] (by decide +kernel) rfl ?_
                              refine zr_get (idx := 210) (k := 2) (v := .ref (m + 7486 + 9 * s9.toNatClampNeg + 2)) (by decide +kernel) (by decide +kernel) hT1 rfl ?_
                              refine zp_seg (pc' := 190) (lv' := [(6, .int 0), (5, .ref (m + 7486 + 9 * s9.toNatClampNeg)), (0, .ref m), (1, .int s9), (2, .int what), (3, .int i), (4, .int j)]) (st' := [.int (25 * j), .ref (m + 7486 + 9 * s9.toNatClampNeg + 2)]) [(185, .bipush 25), (187, .iload 4), (189, .imul)] (by decide +kernel) rfl ?_
                              have k143 := zmulCl 25 j (n := 25) (by decide) (by omega) (by omega)
                              generalize ev190 : (25 * j : Int32) = v190 at k143 ⊢
                              have kv190 := zrng v190
                              refine zp_seg (pc' := 192) (lv' := [(6, .int 0), (5, .ref (m + 7486 + 9 * s9.toNatClampNeg)), (0, .ref m), (1, .int s9), (2, .int what), (3, .int i), (4, .int j)]) (st' := [.int (v190 + i), .ref (m + 7486 + 9 * s9.toNatClampNeg + 2)]) [(190, .iload_n 3), (191, .iadd)] (by decide +kernel) rfl ?_
                              have k144 := zadd v190 i (by omega) (by omega)
                              generalize ev192 : (v190 + i : Int32) = v192 at k144 ⊢
                              have kv192 := zrng v192
                              refine zr_iald (by decide +kernel) hAd1 (zin (by first | omega | decide) (by first | omega | decide)) ?_
                              have hz145 : (v192.toNatClampNeg : Int) = v192.toInt := znat (by first | omega | decide)
                              obtain ⟨x192, ex192⟩ : ∃ x9, x9 = fd1 (v192.toNatClampNeg) := ⟨_, rfl⟩
                              rw [← ex192]
                              have kx192 := zrng x192
                              refine zr_retI (by decide +kernel) rfl ?_
                              rw [← hPost]; exact ⟨rfl, _, rfl, rfl, _, rfl, trivial⟩
                            ·
                              replace cc169 := Classical.not_not.mp cc169
                              have f146 := zeqI cc169
                              rw [show (0 : Int32).toInt = 0 from by decide] at f146
                              refine zp_seg (pc' := 174) (lv' := [(6, .int 0), (5, .ref (m + 7486 + 9 * s9.toNatClampNeg)), (0, .ref m), (1, .int s9), (2, .int what), (3, .int i), (4, .int j)]) (st' := [.ref (m + 7486 + 9 * s9.toNatClampNeg)]) [(172, .aload 5)] (by decide +kernel) rfl ?_
                              refine zr_get (idx := 207) (k := 1) (v := .ref (m + 7486 + 9 * s9.toNatClampNeg + 1)) (by decide +kernel) (by decide +kernel) hT1 rfl ?_
                              refine zp_seg (pc' := 190) (lv' := [(6, .int 0), (5, .ref (m + 7486 + 9 * s9.toNatClampNeg)), (0, .ref m), (1, .int s9), (2, .int what), (3, .int i), (4, .int j)]) (st' := [.int (25 * j), .ref (m + 7486 + 9 * s9.toNatClampNeg + 1)]) [(177, .goto 8), (185, .bipush 25), (187, .iload 4), (189, .imul)] (by decide +kernel) rfl ?_
                              have k147 := zmulCl 25 j (n := 25) (by decide) (by omega) (by omega)
                              generalize ev190 : (25 * j : Int32) = v190 at k147 ⊢
                              have kv190 := zrng v190
                              refine zp_seg (pc' := 192) (lv' := [(6, .int 0), (5, .ref (m + 7486 + 9 * s9.toNatClampNeg)), (0, .ref m), (1, .int s9), (2, .int what), (3, .int i), (4, .int j)]) (st' := [.int (v190 + i), .ref (m + 7486 + 9 * s9.toNatClampNeg + 1)]) [(190, .iload_n 3), (191, .iadd)] (by decide +kernel) rfl ?_
                              have k148 := zadd v190 i (by omega) (by omega)
                              generalize ev192 : (v190 + i : Int32) = v192 at k148 ⊢
                              have kv192 := zrng v192
                              refine zr_iald (by decide +kernel) hAn1 (zin (by first | omega | decide) (by first | omega | decide)) ?_
                              have hz149 : (v192.toNatClampNeg : Int) = v192.toInt := znat (by first | omega | decide)
                              obtain ⟨x192, ex192⟩ : ∃ x9, x9 = fn1 (v192.toNatClampNeg) := ⟨_, rfl⟩
                              rw [← ex192]
                              have kx192 := zrng x192
                              refine zr_retI (by decide +kernel) rfl ?_
                              rw [← hPost]; exact ⟨rfl, _, rfl, rfl, _, rfl, trivial⟩
                          ·
                            have f151 := znleI cc161
                            rw [show (12 : Int32).toInt = 12 from by decide] at f151
                            refine zp_seg (pc' := 193) (lv' := [(6, .int 0), (5, .ref (m + 7486 + 9 * s9.toNatClampNeg)), (0, .ref m), (1, .int s9), (2, .int what), (3, .int i), (4, .int j)]) (st' := [.int 0]) [(164, .iconst 0), (165, .goto 28)] (by decide +kernel) rfl ?_
                            refine zr_retI (by decide +kernel) rfl ?_
                            rw [← hPost]; exact ⟨rfl, _, rfl, rfl, _, rfl, trivial⟩
                  ·
                    exact absurd cc87 cc105
                ·
                  exact absurd cc75 cc87
            ·
              have f153 := znleI cc75
              rw [show (1 : Int32).toInt = 1 from by decide] at f153
              refine zp_seg (pc' := 80) (lv' := [(6, .int 0), (5, .ref (m + 7486 + 9 * s9.toNatClampNeg)), (0, .ref m), (1, .int s9), (2, .int what), (3, .int i), (4, .int j)]) (st' := [.int (Int32.ofInt (-3))]) [(78, .bipush (-3))] (by decide +kernel) rfl ?_
              refine zr_retI (by decide +kernel) rfl ?_
              rw [← hPost]; exact ⟨rfl, _, rfl, rfl, _, rfl, trivial⟩
          ·
            replace cc56 := Classical.not_not.mp cc56
            exact absurd cc56 cc32
      ·
        replace cc32 := Classical.not_not.mp cc32
        have f156 := zeqI cc32
        rw [show (4 : Int32).toInt = 4 from by decide] at f156
        refine zp_seg (pc' := 44) (lv' := [(6, .int 1), (5, .ref (m + 7486 + 9 * s9.toNatClampNeg)), (0, .ref m), (1, .int s9), (2, .int what), (3, .int i), (4, .int j)]) (st' := [.ref (m + 7486 + 9 * s9.toNatClampNeg)]) [(35, .iconst 1), (36, .goto 4), (40, .istore 6), (42, .aload 5)] (by decide +kernel) rfl ?_
        refine zr_get (idx := 202) (k := 0) (v := .int (g1 0)) (by decide +kernel) (by decide +kernel) hT1 rfl ?_
        refine zp_if (i := .ifCond .eq 31) (c := (g1 0) = 0) (t := 78) (e := 50) (lv' := [(6, .int 1), (5, .ref (m + 7486 + 9 * s9.toNatClampNeg)), (0, .ref m), (1, .int s9), (2, .int what), (3, .int i), (4, .int j)]) (st' := []) (by decide +kernel) rfl (fun cc47 => ?_) (fun cc47 => ?_)
        ·
          have f157 := zeqI cc47
          rw [show (0 : Int32).toInt = 0 from by decide] at f157
          refine zp_seg (pc' := 80) (lv' := [(6, .int 1), (5, .ref (m + 7486 + 9 * s9.toNatClampNeg)), (0, .ref m), (1, .int s9), (2, .int what), (3, .int i), (4, .int j)]) (st' := [.int (Int32.ofInt (-3))]) [(78, .bipush (-3))] (by decide +kernel) rfl ?_
          refine zr_retI (by decide +kernel) rfl ?_
          rw [← hPost]; exact ⟨rfl, _, rfl, rfl, _, rfl, trivial⟩
        ·
          have f159 := zneI cc47
          rw [show (0 : Int32).toInt = 0 from by decide] at f159
          refine zp_seg (pc' := 52) (lv' := [(6, .int 1), (5, .ref (m + 7486 + 9 * s9.toNatClampNeg)), (0, .ref m), (1, .int s9), (2, .int what), (3, .int i), (4, .int j)]) (st' := [.ref (m + 7486 + 9 * s9.toNatClampNeg)]) [(50, .aload 5)] (by decide +kernel) rfl ?_
          refine zr_get (idx := 202) (k := 0) (v := .int (g1 0)) (by decide +kernel) (by decide +kernel) hT1 rfl ?_
          refine zp_seg (pc' := 56) (lv' := [(6, .int 1), (5, .ref (m + 7486 + 9 * s9.toNatClampNeg)), (0, .ref m), (1, .int s9), (2, .int what), (3, .int i), (4, .int j)]) (st' := [.int 4, .int (g1 0)]) [(55, .iconst 4)] (by decide +kernel) rfl ?_
          refine zp_if (i := .if_icmp .ne 12) (c := ¬ (g1 0) = 4) (t := 68) (e := 59) (lv' := [(6, .int 1), (5, .ref (m + 7486 + 9 * s9.toNatClampNeg)), (0, .ref m), (1, .int s9), (2, .int what), (3, .int i), (4, .int j)]) (st' := []) (by decide +kernel) rfl (fun cc56 => ?_) (fun cc56 => ?_)
          ·
            exact absurd cc32 cc56
          ·
            replace cc56 := Classical.not_not.mp cc56
            have f160 := zeqI cc56
            rw [show (4 : Int32).toInt = 4 from by decide] at f160
            refine zp_seg (pc' := 60) (lv' := [(6, .int 1), (5, .ref (m + 7486 + 9 * s9.toNatClampNeg)), (0, .ref m), (1, .int s9), (2, .int what), (3, .int i), (4, .int j)]) (st' := [.int what]) [(59, .iload_n 2)] (by decide +kernel) rfl ?_
            refine zp_if (i := .ifCond .eq 18) (c := what = 0) (t := 78) (e := 63) (lv' := [(6, .int 1), (5, .ref (m + 7486 + 9 * s9.toNatClampNeg)), (0, .ref m), (1, .int s9), (2, .int what), (3, .int i), (4, .int j)]) (st' := []) (by decide +kernel) rfl (fun cc60 => ?_) (fun cc60 => ?_)
            ·
              have f161 := zeqI cc60
              rw [show (0 : Int32).toInt = 0 from by decide] at f161
              refine zp_seg (pc' := 80) (lv' := [(6, .int 1), (5, .ref (m + 7486 + 9 * s9.toNatClampNeg)), (0, .ref m), (1, .int s9), (2, .int what), (3, .int i), (4, .int j)]) (st' := [.int (Int32.ofInt (-3))]) [(78, .bipush (-3))] (by decide +kernel) rfl ?_
              refine zr_retI (by decide +kernel) rfl ?_
              rw [← hPost]; exact ⟨rfl, _, rfl, rfl, _, rfl, trivial⟩
            ·
              have f163 := zneI cc60
              rw [show (0 : Int32).toInt = 0 from by decide] at f163
              refine zp_seg (pc' := 65) (lv' := [(6, .int 1), (5, .ref (m + 7486 + 9 * s9.toNatClampNeg)), (0, .ref m), (1, .int s9), (2, .int what), (3, .int i), (4, .int j)]) (st' := [.int 1, .int what]) [(63, .iload_n 2), (64, .iconst 1)] (by decide +kernel) rfl ?_
              refine zp_if (i := .if_icmp .eq 13) (c := what = 1) (t := 78) (e := 68) (lv' := [(6, .int 1), (5, .ref (m + 7486 + 9 * s9.toNatClampNeg)), (0, .ref m), (1, .int s9), (2, .int what), (3, .int i), (4, .int j)]) (st' := []) (by decide +kernel) rfl (fun cc65 => ?_) (fun cc65 => ?_)
              ·
                have f165 := zeqI cc65
                rw [show (1 : Int32).toInt = 1 from by decide] at f165
                refine zp_seg (pc' := 80) (lv' := [(6, .int 1), (5, .ref (m + 7486 + 9 * s9.toNatClampNeg)), (0, .ref m), (1, .int s9), (2, .int what), (3, .int i), (4, .int j)]) (st' := [.int (Int32.ofInt (-3))]) [(78, .bipush (-3))] (by decide +kernel) rfl ?_
                refine zr_retI (by decide +kernel) rfl ?_
                rw [← hPost]; exact ⟨rfl, _, rfl, rfl, _, rfl, trivial⟩
              ·
                have f168 := zneI cc65
                rw [show (1 : Int32).toInt = 1 from by decide] at f168
                refine zp_seg (pc' := 70) (lv' := [(6, .int 1), (5, .ref (m + 7486 + 9 * s9.toNatClampNeg)), (0, .ref m), (1, .int s9), (2, .int what), (3, .int i), (4, .int j)]) (st' := [.int 1]) [(68, .iload 6)] (by decide +kernel) rfl ?_
                refine zp_pure (pc' := 81) (lv' := [(6, .int 1), (5, .ref (m + 7486 + 9 * s9.toNatClampNeg)), (0, .ref m), (1, .int s9), (2, .int what), (3, .int i), (4, .int j)]) (st' := []) (i := .ifCond .ne 11) (by decide +kernel) rfl ?_
                refine zp_seg (pc' := 82) (lv' := [(6, .int 1), (5, .ref (m + 7486 + 9 * s9.toNatClampNeg)), (0, .ref m), (1, .int s9), (2, .int what), (3, .int i), (4, .int j)]) (st' := [.int what]) [(81, .iload_n 2)] (by decide +kernel) rfl ?_
                refine zp_if (i := .ifCond .lt 19) (c := what < 0) (t := 101) (e := 85) (lv' := [(6, .int 1), (5, .ref (m + 7486 + 9 * s9.toNatClampNeg)), (0, .ref m), (1, .int s9), (2, .int what), (3, .int i), (4, .int j)]) (st' := []) (by decide +kernel) rfl (fun cc82 => ?_) (fun cc82 => ?_)
                ·
                  have f169 := zltI cc82
                  rw [show (0 : Int32).toInt = 0 from by decide] at f169
                  refine zp_seg (pc' := 102) (lv' := [(6, .int 1), (5, .ref (m + 7486 + 9 * s9.toNatClampNeg)), (0, .ref m), (1, .int s9), (2, .int what), (3, .int i), (4, .int j)]) (st' := [.int (Int32.ofInt (-1))]) [(101, .iconst (-1))] (by decide +kernel) rfl ?_
                  refine zr_retI (by decide +kernel) rfl ?_
                  rw [← hPost]; exact ⟨rfl, _, rfl, rfl, _, rfl, trivial⟩
                ·
                  have f171 := znltI cc82
                  rw [show (0 : Int32).toInt = 0 from by decide] at f171
                  refine zp_seg (pc' := 87) (lv' := [(6, .int 1), (5, .ref (m + 7486 + 9 * s9.toNatClampNeg)), (0, .ref m), (1, .int s9), (2, .int what), (3, .int i), (4, .int j)]) (st' := [.int 1, .int what]) [(85, .iload_n 2), (86, .iconst 1)] (by decide +kernel) rfl ?_
                  refine zp_if (i := .if_icmp .le 16) (c := what ≤ 1) (t := 103) (e := 90) (lv' := [(6, .int 1), (5, .ref (m + 7486 + 9 * s9.toNatClampNeg)), (0, .ref m), (1, .int s9), (2, .int what), (3, .int i), (4, .int j)]) (st' := []) (by decide +kernel) rfl (fun cc87 => ?_) (fun cc87 => ?_)
                  ·
                    have f172 := zleI cc87
                    rw [show (1 : Int32).toInt = 1 from by decide] at f172
                    refine zp_seg (pc' := 105) (lv' := [(6, .int 1), (5, .ref (m + 7486 + 9 * s9.toNatClampNeg)), (0, .ref m), (1, .int s9), (2, .int what), (3, .int i), (4, .int j)]) (st' := [.int 1, .int what]) [(103, .iload_n 2), (104, .iconst 1)] (by decide +kernel) rfl ?_
                    refine zp_if (i := .if_icmp .le 37) (c := what ≤ 1) (t := 142) (e := 108) (lv' := [(6, .int 1), (5, .ref (m + 7486 + 9 * s9.toNatClampNeg)), (0, .ref m), (1, .int s9), (2, .int what), (3, .int i), (4, .int j)]) (st' := []) (by decide +kernel) rfl (fun cc105 => ?_) (fun cc105 => ?_)
                    ·
                      have f173 := zleI cc105
                      rw [show (1 : Int32).toInt = 1 from by decide] at f173
                      refine zp_seg (pc' := 143) (lv' := [(6, .int 1), (5, .ref (m + 7486 + 9 * s9.toNatClampNeg)), (0, .ref m), (1, .int s9), (2, .int what), (3, .int i), (4, .int j)]) (st' := [.int i]) [(142, .iload_n 3)] (by decide +kernel) rfl ?_
                      refine zp_if (i := .ifCond .lt 21) (c := i < 0) (t := 164) (e := 146) (lv' := [(6, .int 1), (5, .ref (m + 7486 + 9 * s9.toNatClampNeg)), (0, .ref m), (1, .int s9), (2, .int what), (3, .int i), (4, .int j)]) (st' := []) (by decide +kernel) rfl (fun cc143 => ?_) (fun cc143 => ?_)
                      ·
                        have f174 := zltI cc143
                        rw [show (0 : Int32).toInt = 0 from by decide] at f174
                        refine zp_seg (pc' := 193) (lv' := [(6, .int 1), (5, .ref (m + 7486 + 9 * s9.toNatClampNeg)), (0, .ref m), (1, .int s9), (2, .int what), (3, .int i), (4, .int j)]) (st' := [.int 0]) [(164, .iconst 0), (165, .goto 28)] (by decide +kernel) rfl ?_
                        refine zr_retI (by decide +kernel) rfl ?_
                        rw [← hPost]; exact ⟨rfl, _, rfl, rfl, _, rfl, trivial⟩
                      ·
                        have f175 := znltI cc143
                        rw [show (0 : Int32).toInt = 0 from by decide] at f175
                        refine zp_seg (pc' := 149) (lv' := [(6, .int 1), (5, .ref (m + 7486 + 9 * s9.toNatClampNeg)), (0, .ref m), (1, .int s9), (2, .int what), (3, .int i), (4, .int j)]) (st' := [.int 24, .int i]) [(146, .iload_n 3), (147, .bipush 24)] (by decide +kernel) rfl ?_
                        refine zp_if (i := .if_icmp .gt 15) (c := 24 < i) (t := 164) (e := 152) (lv' := [(6, .int 1), (5, .ref (m + 7486 + 9 * s9.toNatClampNeg)), (0, .ref m), (1, .int s9), (2, .int what), (3, .int i), (4, .int j)]) (st' := []) (by decide +kernel) rfl (fun cc149 => ?_) (fun cc149 => ?_)
                        ·
                          have f177 := zltI cc149
                          rw [show (24 : Int32).toInt = 24 from by decide] at f177
                          refine zp_seg (pc' := 193) (lv' := [(6, .int 1), (5, .ref (m + 7486 + 9 * s9.toNatClampNeg)), (0, .ref m), (1, .int s9), (2, .int what), (3, .int i), (4, .int j)]) (st' := [.int 0]) [(164, .iconst 0), (165, .goto 28)] (by decide +kernel) rfl ?_
                          refine zr_retI (by decide +kernel) rfl ?_
                          rw [← hPost]; exact ⟨rfl, _, rfl, rfl, _, rfl, trivial⟩
                        ·
                          have f179 := znltI cc149
                          rw [show (24 : Int32).toInt = 24 from by decide] at f179
                          refine zp_seg (pc' := 154) (lv' := [(6, .int 1), (5, .ref (m + 7486 + 9 * s9.toNatClampNeg)), (0, .ref m), (1, .int s9), (2, .int what), (3, .int i), (4, .int j)]) (st' := [.int j]) [(152, .iload 4)] (by decide +kernel) rfl ?_
                          refine zp_if (i := .ifCond .lt 10) (c := j < 0) (t := 164) (e := 157) (lv' := [(6, .int 1), (5, .ref (m + 7486 + 9 * s9.toNatClampNeg)), (0, .ref m), (1, .int s9), (2, .int what), (3, .int i), (4, .int j)]) (st' := []) (by decide +kernel) rfl (fun cc154 => ?_) (fun cc154 => ?_)
                          ·
                            have f180 := zltI cc154
                            rw [show (0 : Int32).toInt = 0 from by decide] at f180
                            refine zp_seg (pc' := 193) (lv' := [(6, .int 1), (5, .ref (m + 7486 + 9 * s9.toNatClampNeg)), (0, .ref m), (1, .int s9), (2, .int what), (3, .int i), (4, .int j)]) (st' := [.int 0]) [(164, .iconst 0), (165, .goto 28)] (by decide +kernel) rfl ?_
                            refine zr_retI (by decide +kernel) rfl ?_
                            rw [← hPost]; exact ⟨rfl, _, rfl, rfl, _, rfl, trivial⟩
                          ·
                            have f181 := znltI cc154
                            rw [show (0 : Int32).toInt = 0 from by decide] at f181
                            refine zp_seg (pc' := 161) (lv' := [(6, .int 1), (5, .ref (m + 7486 + 9 * s9.toNatClampNeg)), (0, .ref m), (1, .int s9), (2, .int what), (3, .int i), (4, .int j)]) (st' := [.int 12, .int j]) [(157, .iload 4), (159, .bipush 12)] (by decide +kernel) rfl ?_
                            refine zp_if (i := .if_icmp .le 7) (c := j ≤ 12) (t := 168) (e := 164) (lv' := [(6, .int 1), (5, .ref (m + 7486 + 9 * s9.toNatClampNeg)), (0, .ref m), (1, .int s9), (2, .int what), (3, .int i), (4, .int j)]) (st' := []) (by decide +kernel) rfl (fun cc161 => ?_) (fun cc161 => ?_)
                            ·
                              have f183 := zleI cc161
                              rw [show (12 : Int32).toInt = 12 from by decide] at f183
                              refine zp_seg (pc' := 169) (lv' := [(6, .int 1), (5, .ref (m + 7486 + 9 * s9.toNatClampNeg)), (0, .ref m), (1, .int s9), (2, .int what), (3, .int i), (4, .int j)]) (st' := [.int what]) [(168, .iload_n 2)] (by decide +kernel) rfl ?_
                              refine zp_if (i := .ifCond .ne 11) (c := ¬ what = 0) (t := 180) (e := 172) (lv' := [(6, .int 1), (5, .ref (m + 7486 + 9 * s9.toNatClampNeg)), (0, .ref m), (1, .int s9), (2, .int what), (3, .int i), (4, .int j)]) (st' := []) (by decide +kernel) rfl (fun cc169 => ?_) (fun cc169 => ?_)
                              ·
                                have f184 := zneI cc169
                                rw [show (0 : Int32).toInt = 0 from by decide] at f184
                                refine zp_seg (pc' := 182) (lv' := [(6, .int 1), (5, .ref (m + 7486 + 9 * s9.toNatClampNeg)), (0, .ref m), (1, .int s9), (2, .int what), (3, .int i), (4, .int j)]) (st' := [.ref (m + 7486 + 9 * s9.toNatClampNeg)]) [(180, .aload 5)] (by decide +kernel) rfl ?_
                                refine zr_get (idx := 210) (k := 2) (v := .ref (m + 7486 + 9 * s9.toNatClampNeg + 2)) (by decide +kernel) (by decide +kernel) hT1 rfl ?_
                                refine zp_seg (pc' := 190) (lv' := [(6, .int 1), (5, .ref (m + 7486 + 9 * s9.toNatClampNeg)), (0, .ref m), (1, .int s9), (2, .int what), (3, .int i), (4, .int j)]) (st' := [.int (25 * j), .ref (m + 7486 + 9 * s9.toNatClampNeg + 2)]) [(185, .bipush 25), (187, .iload 4), (189, .imul)] (by decide +kernel) rfl ?_
                                have k185 := zmulCl 25 j (n := 25) (by decide) (by omega) (by omega)
                                generalize ev190 : (25 * j : Int32) = v190 at k185 ⊢
                                have kv190 := zrng v190
                                refine zp_seg (pc' := 192) (lv' := [(6, .int 1), (5, .ref (m + 7486 + 9 * s9.toNatClampNeg)), (0, .ref m), (1, .int s9), (2, .int what), (3, .int i), (4, .int j)]) (st' := [.int (v190 + i), .ref (m + 7486 + 9 * s9.toNatClampNeg + 2)]) [(190, .iload_n 3), (191, .iadd)] (by decide +kernel) rfl ?_
                                have k186 := zadd v190 i (by omega) (by omega)
                                generalize ev192 : (v190 + i : Int32) = v192 at k186 ⊢
                                have kv192 := zrng v192
                                refine zr_iald (by decide +kernel) hAd1 (zin (by first | omega | decide) (by first | omega | decide)) ?_
                                have hz187 : (v192.toNatClampNeg : Int) = v192.toInt := znat (by first | omega | decide)
                                obtain ⟨x192, ex192⟩ : ∃ x9, x9 = fd1 (v192.toNatClampNeg) := ⟨_, rfl⟩
                                rw [← ex192]
                                have kx192 := zrng x192
                                refine zr_retI (by decide +kernel) rfl ?_
                                rw [← hPost]; exact ⟨rfl, _, rfl, rfl, _, rfl, trivial⟩
                              ·
                                replace cc169 := Classical.not_not.mp cc169
                                exact absurd cc169 cc60
                            ·
                              have f189 := znleI cc161
                              rw [show (12 : Int32).toInt = 12 from by decide] at f189
                              refine zp_seg (pc' := 193) (lv' := [(6, .int 1), (5, .ref (m + 7486 + 9 * s9.toNatClampNeg)), (0, .ref m), (1, .int s9), (2, .int what), (3, .int i), (4, .int j)]) (st' := [.int 0]) [(164, .iconst 0), (165, .goto 28)] (by decide +kernel) rfl ?_
                              refine zr_retI (by decide +kernel) rfl ?_
                              rw [← hPost]; exact ⟨rfl, _, rfl, rfl, _, rfl, trivial⟩
                    ·
                      exact absurd cc87 cc105
                  ·
                    have f190 := znleI cc87
                    rw [show (1 : Int32).toInt = 1 from by decide] at f190
                    refine zp_seg (pc' := 93) (lv' := [(6, .int 1), (5, .ref (m + 7486 + 9 * s9.toNatClampNeg)), (0, .ref m), (1, .int s9), (2, .int what), (3, .int i), (4, .int j)]) (st' := [.int (what - 2)]) [(90, .iload_n 2), (91, .iconst 2), (92, .isub)] (by decide +kernel) rfl ?_
                    have k191 := zsubC what 2 (n := 2) (by decide) (by omega) (by omega)
                    generalize ev93 : (what - 2 : Int32) = v93 at k191 ⊢
                    have kv93 := zrng v93
                    refine zp_seg (pc' := 95) (lv' := [(6, .int 1), (5, .ref (m + 7486 + 9 * s9.toNatClampNeg)), (0, .ref m), (1, .int s9), (2, .int what), (3, .int i), (4, .int j)]) (st' := [.ref (m + 7486 + 9 * s9.toNatClampNeg), .int v93]) [(93, .aload 5)] (by decide +kernel) rfl ?_
                    refine zr_get (idx := 234) (k := 10) (v := .int (g1 10)) (by decide +kernel) (by decide +kernel) hT1 rfl ?_
                    refine zp_if (i := .if_icmp .le 5) (c := v93 ≤ (g1 10)) (t := 103) (e := 101) (lv' := [(6, .int 1), (5, .ref (m + 7486 + 9 * s9.toNatClampNeg)), (0, .ref m), (1, .int s9), (2, .int what), (3, .int i), (4, .int j)]) (st' := []) (by decide +kernel) rfl (fun cc98 => ?_) (fun cc98 => ?_)
                    ·
                      have k192 := zrng (g1 10)
                      have f193 := zleI cc98
                      refine zp_seg (pc' := 105) (lv' := [(6, .int 1), (5, .ref (m + 7486 + 9 * s9.toNatClampNeg)), (0, .ref m), (1, .int s9), (2, .int what), (3, .int i), (4, .int j)]) (st' := [.int 1, .int what]) [(103, .iload_n 2), (104, .iconst 1)] (by decide +kernel) rfl ?_
                      refine zp_if (i := .if_icmp .le 37) (c := what ≤ 1) (t := 142) (e := 108) (lv' := [(6, .int 1), (5, .ref (m + 7486 + 9 * s9.toNatClampNeg)), (0, .ref m), (1, .int s9), (2, .int what), (3, .int i), (4, .int j)]) (st' := []) (by decide +kernel) rfl (fun cc105 => ?_) (fun cc105 => ?_)
                      ·
                        exact absurd cc105 cc87
                      ·
                        have f194 := znleI cc105
                        rw [show (1 : Int32).toInt = 1 from by decide] at f194
                        refine zp_seg (pc' := 110) (lv' := [(6, .int 1), (5, .ref (m + 7486 + 9 * s9.toNatClampNeg)), (0, .ref m), (1, .int s9), (2, .int what), (3, .int i), (4, .int j)]) (st' := [.int j]) [(108, .iload 4)] (by decide +kernel) rfl ?_
                        refine zp_if (i := .ifCond .ne 30) (c := ¬ j = 0) (t := 140) (e := 113) (lv' := [(6, .int 1), (5, .ref (m + 7486 + 9 * s9.toNatClampNeg)), (0, .ref m), (1, .int s9), (2, .int what), (3, .int i), (4, .int j)]) (st' := []) (by decide +kernel) rfl (fun cc110 => ?_) (fun cc110 => ?_)
                        ·
                          have f195 := zneI cc110
                          rw [show (0 : Int32).toInt = 0 from by decide] at f195
                          refine zp_seg (pc' := 141) (lv' := [(6, .int 1), (5, .ref (m + 7486 + 9 * s9.toNatClampNeg)), (0, .ref m), (1, .int s9), (2, .int what), (3, .int i), (4, .int j)]) (st' := [.int 0]) [(140, .iconst 0)] (by decide +kernel) rfl ?_
                          refine zr_retI (by decide +kernel) rfl ?_
                          rw [← hPost]; exact ⟨rfl, _, rfl, rfl, _, rfl, trivial⟩
                        ·
                          replace cc110 := Classical.not_not.mp cc110
                          have f196 := zeqI cc110
                          rw [show (0 : Int32).toInt = 0 from by decide] at f196
                          refine zp_seg (pc' := 114) (lv' := [(6, .int 1), (5, .ref (m + 7486 + 9 * s9.toNatClampNeg)), (0, .ref m), (1, .int s9), (2, .int what), (3, .int i), (4, .int j)]) (st' := [.int i]) [(113, .iload_n 3)] (by decide +kernel) rfl ?_
                          refine zp_if (i := .ifCond .lt 26) (c := i < 0) (t := 140) (e := 117) (lv' := [(6, .int 1), (5, .ref (m + 7486 + 9 * s9.toNatClampNeg)), (0, .ref m), (1, .int s9), (2, .int what), (3, .int i), (4, .int j)]) (st' := []) (by decide +kernel) rfl (fun cc114 => ?_) (fun cc114 => ?_)
                          ·
                            have f197 := zltI cc114
                            rw [show (0 : Int32).toInt = 0 from by decide] at f197
                            refine zp_seg (pc' := 141) (lv' := [(6, .int 1), (5, .ref (m + 7486 + 9 * s9.toNatClampNeg)), (0, .ref m), (1, .int s9), (2, .int what), (3, .int i), (4, .int j)]) (st' := [.int 0]) [(140, .iconst 0)] (by decide +kernel) rfl ?_
                            refine zr_retI (by decide +kernel) rfl ?_
                            rw [← hPost]; exact ⟨rfl, _, rfl, rfl, _, rfl, trivial⟩
                          ·
                            have f198 := znltI cc114
                            rw [show (0 : Int32).toInt = 0 from by decide] at f198
                            refine zp_seg (pc' := 120) (lv' := [(6, .int 1), (5, .ref (m + 7486 + 9 * s9.toNatClampNeg)), (0, .ref m), (1, .int s9), (2, .int what), (3, .int i), (4, .int j)]) (st' := [.int 24, .int i]) [(117, .iload_n 3), (118, .bipush 24)] (by decide +kernel) rfl ?_
                            refine zp_if (i := .if_icmp .gt 20) (c := 24 < i) (t := 140) (e := 123) (lv' := [(6, .int 1), (5, .ref (m + 7486 + 9 * s9.toNatClampNeg)), (0, .ref m), (1, .int s9), (2, .int what), (3, .int i), (4, .int j)]) (st' := []) (by decide +kernel) rfl (fun cc120 => ?_) (fun cc120 => ?_)
                            ·
                              have f200 := zltI cc120
                              rw [show (24 : Int32).toInt = 24 from by decide] at f200
                              refine zp_seg (pc' := 141) (lv' := [(6, .int 1), (5, .ref (m + 7486 + 9 * s9.toNatClampNeg)), (0, .ref m), (1, .int s9), (2, .int what), (3, .int i), (4, .int j)]) (st' := [.int 0]) [(140, .iconst 0)] (by decide +kernel) rfl ?_
                              refine zr_retI (by decide +kernel) rfl ?_
                              rw [← hPost]; exact ⟨rfl, _, rfl, rfl, _, rfl, trivial⟩
                            ·
                              have f202 := znltI cc120
                              rw [show (24 : Int32).toInt = 24 from by decide] at f202
                              have hord : (g1 10).toInt ≤ 6 := by
                                first
                                | exact (hKk1.2.2.2.2.2 (hK10.symm.trans cc32)).1.2.1
                                | (have h9 := hKk1.2.2.2.2.1 (hK10.symm.trans cc23)
                                   omega)
                              refine zp_seg (pc' := 125) (lv' := [(6, .int 1), (5, .ref (m + 7486 + 9 * s9.toNatClampNeg)), (0, .ref m), (1, .int s9), (2, .int what), (3, .int i), (4, .int j)]) (st' := [.ref (m + 7486 + 9 * s9.toNatClampNeg)]) [(123, .aload 5)] (by decide +kernel) rfl ?_
                              refine zr_get (idx := 237) (k := 11) (v := .ref (m + 7486 + 9 * s9.toNatClampNeg + 7)) (by decide +kernel) (by decide +kernel) hT1 rfl ?_
                              refine zp_seg (pc' := 133) (lv' := [(6, .int 1), (5, .ref (m + 7486 + 9 * s9.toNatClampNeg)), (0, .ref m), (1, .int s9), (2, .int what), (3, .int i), (4, .int j)]) (st' := [.int (what - 2), .int 25, .ref (m + 7486 + 9 * s9.toNatClampNeg + 7)]) [(128, .bipush 25), (130, .iload_n 2), (131, .iconst 2), (132, .isub)] (by decide +kernel) rfl ?_
                              have k203 := zsubC what 2 (n := 2) (by decide) (by omega) (by omega)
                              generalize ev133 : (what - 2 : Int32) = v133 at k203 ⊢
                              have kv133 := zrng v133
                              refine zp_seg (pc' := 134) (lv' := [(6, .int 1), (5, .ref (m + 7486 + 9 * s9.toNatClampNeg)), (0, .ref m), (1, .int s9), (2, .int what), (3, .int i), (4, .int j)]) (st' := [.int (25 * v133), .ref (m + 7486 + 9 * s9.toNatClampNeg + 7)]) [(133, .imul)] (by decide +kernel) rfl ?_
                              have k204 := zmulCl 25 v133 (n := 25) (by decide) (by omega) (by omega)
                              generalize ev134 : (25 * v133 : Int32) = v134 at k204 ⊢
                              have kv134 := zrng v134
                              refine zp_seg (pc' := 136) (lv' := [(6, .int 1), (5, .ref (m + 7486 + 9 * s9.toNatClampNeg)), (0, .ref m), (1, .int s9), (2, .int what), (3, .int i), (4, .int j)]) (st' := [.int (v134 + i), .ref (m + 7486 + 9 * s9.toNatClampNeg + 7)]) [(134, .iload_n 3), (135, .iadd)] (by decide +kernel) rfl ?_
                              have k205 := zadd v134 i (by omega) (by omega)
                              generalize ev136 : (v134 + i : Int32) = v136 at k205 ⊢
                              have kv136 := zrng v136
                              refine zr_iald (by decide +kernel) hAr1 (zin (by first | omega | decide) (by first | omega | decide)) ?_
                              have hz206 : (v136.toNatClampNeg : Int) = v136.toInt := znat (by first | omega | decide)
                              obtain ⟨x136, ex136⟩ : ∃ x9, x9 = fr1 (v136.toNatClampNeg) := ⟨_, rfl⟩
                              rw [← ex136]
                              have kx136 := zrng x136
                              refine zp_seg (pc' := 141) (lv' := [(6, .int 1), (5, .ref (m + 7486 + 9 * s9.toNatClampNeg)), (0, .ref m), (1, .int s9), (2, .int what), (3, .int i), (4, .int j)]) (st' := [.int x136]) [(137, .goto 4)] (by decide +kernel) rfl ?_
                              refine zr_retI (by decide +kernel) rfl ?_
                              rw [← hPost]; exact ⟨rfl, _, rfl, rfl, _, rfl, trivial⟩
                    ·
                      have k207 := zrng (g1 10)
                      have f208 := znleI cc98
                      refine zp_seg (pc' := 102) (lv' := [(6, .int 1), (5, .ref (m + 7486 + 9 * s9.toNatClampNeg)), (0, .ref m), (1, .int s9), (2, .int what), (3, .int i), (4, .int j)]) (st' := [.int (Int32.ofInt (-1))]) [(101, .iconst (-1))] (by decide +kernel) rfl ?_
                      refine zr_retI (by decide +kernel) rfl ?_
                      rw [← hPost]; exact ⟨rfl, _, rfl, rfl, _, rfl, trivial⟩
  ·
    replace cc4 := Classical.not_not.mp cc4
    have f211 := zeqI cc4
    rw [show (0 : Int32).toInt = 0 from by decide] at f211
    refine zp_seg (pc' := 8) (lv' := [(0, .ref m), (1, .int s9), (2, .int what), (3, .int i), (4, .int j)]) (st' := [.int (Int32.ofInt (-1))]) [(7, .iconst (-1))] (by decide +kernel) rfl ?_
    refine zr_retI (by decide +kernel) rfl ?_
    rw [← hPost]; exact ⟨rfl, _, rfl, rfl, _, rfl, trivial⟩

set_option maxHeartbeats 8000000 in
set_option maxRecDepth 100000 in
theorem c_X16_degree {w : zM} {fn : Nat → Int32} (a : Nat) (way : Int32) (hA_a : w a = some (.inr (0, 325, .inl fn))) : zCon 1 zq_X16_degree [.ref a, .int way] w (fun v9 w9' => w9' = w ∧ ∃ r9 : Int32, v9 = some (.int r9) ∧ True) := by
  intro d sz hd
  obtain ⟨d, rfl⟩ : ∃ d9, d = d9 + 1 := ⟨d - 1, by omega⟩
  generalize hPost : (fun (r9' : Option (Option Value)) (w9' : zM) (z9 : Nat) => z9 = sz ∧ ∃ v9, r9' = some v9 ∧ (w9' = w ∧ ∃ r9 : Int32, v9 = some (.int r9) ∧ True)) = Post
  show zP (d + 1) zq_X16_degree 0 [(0, .ref a), (1, .int way)] [] w sz 0 0 Post
  have k1 := zrng way
  refine zp_seg (pc' := 4) (lv' := [(3, .int 0), (2, .int 0), (0, .ref a), (1, .int way)]) (st' := []) [(0, .iconst 0), (1, .istore_n 2), (2, .iconst 0), (3, .istore_n 3)] (by decide +kernel) rfl ?_
  have hL4 : ∀ (mm4 : Nat) (y2_4 : Int32) (y3_4 : Int32), (0 ≤ y3_4.toInt) → (y3_4.toInt ≤ 325) → (400 - y3_4.toInt).toNat < mm4 → zP (d + 1) zq_X16_degree 4 [(0, .ref a), (1, .int way), (2, .int y2_4), (3, .int y3_4)] [] w sz 0 0 Post := by
    intro mm4
    induction mm4 with
    | zero => intros; omega
    | succ mm4 ih4 =>
    intro y2_4 y3_4 hi4_0 hi4_1 hmu4
    have ky2_4 := zrng y2_4
    have ky3_4 := zrng y3_4
    have hz2 : (y3_4.toNatClampNeg : Int) = y3_4.toInt := znat (by first | omega | decide)
    refine zp_seg (pc' := 8) (lv' := [(0, .ref a), (1, .int way), (2, .int y2_4), (3, .int y3_4)]) (st' := [.int 325, .int y3_4]) [(4, .iload_n 3), (5, .sipush 325)] (by decide +kernel) rfl ?_
    refine zp_if (i := .if_icmp .ge 39) (c := 325 ≤ y3_4) (t := 47) (e := 11) (lv' := [(0, .ref a), (1, .int way), (2, .int y2_4), (3, .int y3_4)]) (st' := []) (by decide +kernel) rfl (fun cc8 => ?_) (fun cc8 => ?_)
    ·
      have f4 := zleI cc8
      rw [show (325 : Int32).toInt = 325 from by decide] at f4
      refine zp_seg (pc' := 48) (lv' := [(0, .ref a), (1, .int way), (2, .int y2_4), (3, .int y3_4)]) (st' := [.int y2_4]) [(47, .iload_n 2)] (by decide +kernel) rfl ?_
      refine zr_retI (by decide +kernel) rfl ?_
      rw [← hPost]; exact ⟨rfl, _, rfl, rfl, _, rfl, trivial⟩
    ·
      have f6 := znleI cc8
      rw [show (325 : Int32).toInt = 325 from by decide] at f6
      refine zp_seg (pc' := 13) (lv' := [(0, .ref a), (1, .int way), (2, .int y2_4), (3, .int y3_4)]) (st' := [.int y3_4, .ref a]) [(11, .aload_n 0), (12, .iload_n 3)] (by decide +kernel) rfl ?_
      refine zr_iald (by decide +kernel) hA_a (zin (by first | omega | decide) (by first | omega | decide)) ?_
      obtain ⟨x13, ex13⟩ : ∃ x9, x9 = fn (y3_4.toNatClampNeg) := ⟨_, rfl⟩
      rw [← ex13]
      have kx13 := zrng x13
      refine zp_if (i := .ifCond .eq 25) (c := x13 = 0) (t := 39) (e := 17) (lv' := [(0, .ref a), (1, .int way), (2, .int y2_4), (3, .int y3_4)]) (st' := []) (by decide +kernel) rfl (fun cc14 => ?_) (fun cc14 => ?_)
      ·
        have f8 := zeqI cc14
        rw [show (0 : Int32).toInt = 0 from by decide] at f8
        refine zp_seg (pc' := 44) (lv' := [(3, .int (y3_4 + 1)), (2, .int y2_4), (0, .ref a), (1, .int way)]) (st' := []) [(39, .iload_n 2), (40, .istore_n 2), (41, .iinc 3 1)] (by decide +kernel) rfl ?_
        have k9 := zaddC y3_4 1 (n := 1) (by decide) (by omega) (by omega)
        generalize ev44 : (y3_4 + 1 : Int32) = v44 at k9 ⊢
        have kv44 := zrng v44
        refine zp_seg (pc' := 4) (lv' := [(3, .int v44), (2, .int y2_4), (0, .ref a), (1, .int way)]) (st' := []) [(44, .goto (-40))] (by decide +kernel) rfl ?_
        have hz10 : (v44.toNatClampNeg : Int) = v44.toInt := znat (by first | omega | decide)
        exact (ih4 y2_4 v44 (by first | assumption | omega | decide) (by first | assumption | omega | decide) (by omega)).more (zfa1 rfl (zfa1 rfl (zfa1 rfl (zfa1 rfl (zfa0)))))
      ·
        have f12 := zneI cc14
        rw [show (0 : Int32).toInt = 0 from by decide] at f12
        refine zp_seg (pc' := 19) (lv' := [(0, .ref a), (1, .int way), (2, .int y2_4), (3, .int y3_4)]) (st' := [.int way, .int y2_4]) [(17, .iload_n 2), (18, .iload_n 1)] (by decide +kernel) rfl ?_
        refine zp_if (i := .ifCond .ne 10) (c := ¬ way = 0) (t := 29) (e := 22) (lv' := [(0, .ref a), (1, .int way), (2, .int y2_4), (3, .int y3_4)]) (st' := [.int y2_4]) (by decide +kernel) rfl (fun cc19 => ?_) (fun cc19 => ?_)
        ·
          have f13 := zneI cc19
          rw [show (0 : Int32).toInt = 0 from by decide] at f13
          refine zp_seg (pc' := 32) (lv' := [(0, .ref a), (1, .int way), (2, .int y2_4), (3, .int y3_4)]) (st' := [.int 25, .int y3_4, .int y2_4]) [(29, .iload_n 3), (30, .bipush 25)] (by decide +kernel) rfl ?_
          refine zr_idiv (by decide +kernel) (by decide) ?_
          obtain ⟨q32, eq32⟩ : ∃ x9 : Int32, x9 = y3_4 / 25 := ⟨_, rfl⟩
          rw [← eq32]
          have mq32 := zidivI y3_4 25
          rw [← eq32] at mq32
          rw [show (25 : Int32).toInt = 25 from by decide] at mq32
          have kq32 := zrng q32
          refine zr_max (idx := 40) (by decide +kernel) (by decide +kernel) (by omega) (Nat.le_of_ble_eq_true rfl) ?_
          obtain ⟨m15, em15, hm15⟩ := zmaxI y2_4 q32
          rw [← em15]
          have km15 := zrng m15
          refine zp_seg (pc' := 44) (lv' := [(3, .int (y3_4 + 1)), (2, .int m15), (0, .ref a), (1, .int way)]) (st' := []) [(36, .goto 4), (40, .istore_n 2), (41, .iinc 3 1)] (by decide +kernel) rfl ?_
          have k16 := zaddC y3_4 1 (n := 1) (by decide) (by omega) (by omega)
          generalize ev44 : (y3_4 + 1 : Int32) = v44 at k16 ⊢
          have kv44 := zrng v44
          refine zp_seg (pc' := 4) (lv' := [(3, .int v44), (2, .int m15), (0, .ref a), (1, .int way)]) (st' := []) [(44, .goto (-40))] (by decide +kernel) rfl ?_
          have hz17 : (v44.toNatClampNeg : Int) = v44.toInt := znat (by first | omega | decide)
          exact (ih4 m15 v44 (by first | assumption | omega | decide) (by first | assumption | omega | decide) (by omega)).more (zfa1 rfl (zfa1 rfl (zfa1 rfl (zfa1 rfl (zfa0)))))
        ·
          replace cc19 := Classical.not_not.mp cc19
          have f18 := zeqI cc19
          rw [show (0 : Int32).toInt = 0 from by decide] at f18
          refine zp_seg (pc' := 25) (lv' := [(0, .ref a), (1, .int way), (2, .int y2_4), (3, .int y3_4)]) (st' := [.int 25, .int y3_4, .int y2_4]) [(22, .iload_n 3), (23, .bipush 25)] (by decide +kernel) rfl ?_
          refine zr_irem (by decide +kernel) (by decide) ?_
          obtain ⟨q25, eq25⟩ : ∃ x9 : Int32, x9 = y3_4 - y3_4 / 25 * 25 := ⟨_, rfl⟩
          rw [← eq25]
          have mq25 := ziremI y3_4 25 (by first | decide | omega)
          rw [← eq25] at mq25
          rw [show (25 : Int32).toInt = 25 from by decide] at mq25
          have kq25 := zrng q25
          refine zp_seg (pc' := 33) (lv' := [(0, .ref a), (1, .int way), (2, .int y2_4), (3, .int y3_4)]) (st' := [.int q25, .int y2_4]) [(26, .goto 7)] (by decide +kernel) rfl ?_
          refine zr_max (idx := 40) (by decide +kernel) (by decide +kernel) (by omega) (Nat.le_of_ble_eq_true rfl) ?_
          obtain ⟨m20, em20, hm20⟩ := zmaxI y2_4 q25
          rw [← em20]
          have km20 := zrng m20
          refine zp_seg (pc' := 44) (lv' := [(3, .int (y3_4 + 1)), (2, .int m20), (0, .ref a), (1, .int way)]) (st' := []) [(36, .goto 4), (40, .istore_n 2), (41, .iinc 3 1)] (by decide +kernel) rfl ?_
          have k21 := zaddC y3_4 1 (n := 1) (by decide) (by omega) (by omega)
          generalize ev44 : (y3_4 + 1 : Int32) = v44 at k21 ⊢
          have kv44 := zrng v44
          refine zp_seg (pc' := 4) (lv' := [(3, .int v44), (2, .int m20), (0, .ref a), (1, .int way)]) (st' := []) [(44, .goto (-40))] (by decide +kernel) rfl ?_
          have hz22 : (v44.toNatClampNeg : Int) = v44.toInt := znat (by first | omega | decide)
          exact (ih4 m20 v44 (by first | assumption | omega | decide) (by first | assumption | omega | decide) (by omega)).more (zfa1 rfl (zfa1 rfl (zfa1 rfl (zfa1 rfl (zfa0)))))
  have hl23 : (0 : Int32).toInt = 0 := by decide
  have hz24 : ((0 : Int32).toNatClampNeg : Int) = 0 := by decide
  exact (hL4 _ 0 0 (by first | assumption | omega | decide) (by first | assumption | omega | decide) (Nat.lt_succ_self _)).more (zfa1 rfl (zfa1 rfl (zfa1 rfl (zfa1 rfl (zfa0)))))

set_option maxHeartbeats 8000000 in
set_option maxRecDepth 100000 in
theorem c_X16_degree_ {w : zM} {g : Nat → Int32} {r : Nat → Value}  (m : Nat) (s9 : Int32) (what : Int32) (way : Int32) (hm : w m = some (.inl (15, zMo m g r))) (hR_m : zR m w) (hsl : ∀ i, i < 12 → ∃ k, zTi w (m + 7486 + 9 * i) k) : zCon 2 zq_X16_degree_ [.ref m, .int s9, .int what, .int way] w (fun v9 w9' => w9' = w ∧ ∃ r9 : Int32, v9 = some (.int r9) ∧ True) := by
  intro d sz hd
  obtain ⟨d, rfl⟩ : ∃ d9, d = d9 + 1 := ⟨d - 1, by omega⟩
  generalize hPost : (fun (r9' : Option (Option Value)) (w9' : zM) (z9 : Nat) => z9 = sz ∧ ∃ v9, r9' = some v9 ∧ (w9' = w ∧ ∃ r9 : Int32, v9 = some (.int r9) ∧ True)) = Post
  show zP (d + 1) zq_X16_degree_ 0 [(0, .ref m), (1, .int s9), (2, .int what), (3, .int way)] [] w sz 0 0 Post
  have k1 := zrng s9
  have k2 := zrng what
  have k3 := zrng way
  refine zp_seg (pc' := 1) (lv' := [(0, .ref m), (1, .int s9), (2, .int what), (3, .int way)]) (st' := [.int s9]) [(0, .iload_n 1)] (by decide +kernel) rfl ?_
  refine zr_callS (idx := 551) (j := 336) (by decide +kernel) (by decide +kernel) (by decide) (show zMe 336 = some zq_X16_isSlot from rfl) rfl rfl (Nat.le_of_ble_eq_true rfl) rfl rfl (Nat.le_of_ble_eq_true rfl) (Nat.le_of_ble_eq_true rfl) (c_X16_isSlot (w := w) s9 ) (by omega) (fun v1 w1 hp1 => ?_)
  obtain ⟨hpw1, r1, rfl, hrb1, hr1⟩ := hp1
  replace hpw1 := hpw1.symm
  subst hpw1
  have kr1 := zrng r1
  show zP _ _ _ _ [.int r1] _ _ _ _ _
  refine zp_if (i := .ifCond .ne 5) (c := ¬ r1 = 0) (t := 9) (e := 7) (lv' := [(0, .ref m), (1, .int s9), (2, .int what), (3, .int way)]) (st' := []) (by decide +kernel) rfl (fun cc4 => ?_) (fun cc4 => ?_)
  ·
    have f5 := zneI cc4
    rw [show (0 : Int32).toInt = 0 from by decide] at f5
    have his9 := hr1 (hrb1.resolve_left cc4)
    refine zp_seg (pc' := 10) (lv' := [(0, .ref m), (1, .int s9), (2, .int what), (3, .int way)]) (st' := [.ref m]) [(9, .aload_n 0)] (by decide +kernel) rfl ?_
    refine zr_get (idx := 450) (k := 20) (v := .ref (m + 82)) (by decide +kernel) (by decide +kernel) hm rfl ?_
    refine zp_seg (pc' := 14) (lv' := [(0, .ref m), (1, .int s9), (2, .int what), (3, .int way)]) (st' := [.int s9, .ref (m + 82)]) [(13, .iload_n 1)] (by decide +kernel) rfl ?_
    have hb7 := hR_m.slots
    have hz8 : (s9.toNatClampNeg : Int) = s9.toInt := znat (by first | omega | decide)
    refine zr_aald (v := .ref (m + 7486 + 9 * s9.toNatClampNeg)) (by decide +kernel) hb7 (by decide) (zin (by first | omega | decide) (by first | omega | decide)) (zsl_at (by omega)) ?_
    obtain ⟨kS1, hkS1⟩ := hsl s9.toNatClampNeg (by omega)
    obtain ⟨g1, fn1, fd1, fa1, fb1, fc1, fe1, fr1, fu1, hT1, hAn1, hAd1, hAa1, hAb1, hAc1, hAe1, hAr1, hAu1, hK1⟩ := id hkS1
    obtain ⟨hK10, hKn1, hKd1, hKx1, hKm1, hKl1, hKr1, hKu1, hKk1⟩ := id hK1
    refine zp_seg (pc' := 19) (lv' := [(4, .ref (m + 7486 + 9 * s9.toNatClampNeg)), (0, .ref m), (1, .int s9), (2, .int what), (3, .int way)]) (st' := [.ref (m + 7486 + 9 * s9.toNatClampNeg)]) [(15, .astore 4), (17, .aload 4)] (by decide +kernel) rfl ?_
    refine zr_get (idx := 202) (k := 0) (v := .int (g1 0)) (by decide +kernel) (by decide +kernel) hT1 rfl ?_
    refine zp_seg (pc' := 23) (lv' := [(4, .ref (m + 7486 + 9 * s9.toNatClampNeg)), (0, .ref m), (1, .int s9), (2, .int what), (3, .int way)]) (st' := [.int 1, .int (g1 0)]) [(22, .iconst 1)] (by decide +kernel) rfl ?_
    refine zp_if (i := .if_icmp .lt 12) (c := (g1 0) < 1) (t := 35) (e := 26) (lv' := [(4, .ref (m + 7486 + 9 * s9.toNatClampNeg)), (0, .ref m), (1, .int s9), (2, .int what), (3, .int way)]) (st' := []) (by decide +kernel) rfl (fun cc23 => ?_) (fun cc23 => ?_)
    ·
      have k9 := zrng (g1 0)
      have f11 := zltI cc23
      rw [show (1 : Int32).toInt = 1 from by decide] at f11
      refine zp_seg (pc' := 37) (lv' := [(4, .ref (m + 7486 + 9 * s9.toNatClampNeg)), (0, .ref m), (1, .int s9), (2, .int what), (3, .int way)]) (st' := [.int (Int32.ofInt (-3))]) [(35, .bipush (-3))] (by decide +kernel) rfl ?_
      refine zr_retI (by decide +kernel) rfl ?_
      rw [← hPost]; exact ⟨rfl, _, rfl, rfl, _, rfl, trivial⟩
    ·
      have k13 := zrng (g1 0)
      have f15 := znltI cc23
      rw [show (1 : Int32).toInt = 1 from by decide] at f15
      refine zp_seg (pc' := 28) (lv' := [(4, .ref (m + 7486 + 9 * s9.toNatClampNeg)), (0, .ref m), (1, .int s9), (2, .int what), (3, .int way)]) (st' := [.ref (m + 7486 + 9 * s9.toNatClampNeg)]) [(26, .aload 4)] (by decide +kernel) rfl ?_
      refine zr_get (idx := 202) (k := 0) (v := .int (g1 0)) (by decide +kernel) (by decide +kernel) hT1 rfl ?_
      refine zp_seg (pc' := 32) (lv' := [(4, .ref (m + 7486 + 9 * s9.toNatClampNeg)), (0, .ref m), (1, .int s9), (2, .int what), (3, .int way)]) (st' := [.int 3, .int (g1 0)]) [(31, .iconst 3)] (by decide +kernel) rfl ?_
      refine zp_if (i := .if_icmp .le 6) (c := (g1 0) ≤ 3) (t := 38) (e := 35) (lv' := [(4, .ref (m + 7486 + 9 * s9.toNatClampNeg)), (0, .ref m), (1, .int s9), (2, .int what), (3, .int way)]) (st' := []) (by decide +kernel) rfl (fun cc32 => ?_) (fun cc32 => ?_)
      ·
        have f17 := zleI cc32
        rw [show (3 : Int32).toInt = 3 from by decide] at f17
        refine zp_seg (pc' := 39) (lv' := [(4, .ref (m + 7486 + 9 * s9.toNatClampNeg)), (0, .ref m), (1, .int s9), (2, .int what), (3, .int way)]) (st' := [.int what]) [(38, .iload_n 2)] (by decide +kernel) rfl ?_
        refine zp_if (i := .ifCond .lt 17) (c := what < 0) (t := 56) (e := 42) (lv' := [(4, .ref (m + 7486 + 9 * s9.toNatClampNeg)), (0, .ref m), (1, .int s9), (2, .int what), (3, .int way)]) (st' := []) (by decide +kernel) rfl (fun cc39 => ?_) (fun cc39 => ?_)
        ·
          have f18 := zltI cc39
          rw [show (0 : Int32).toInt = 0 from by decide] at f18
          refine zp_seg (pc' := 57) (lv' := [(4, .ref (m + 7486 + 9 * s9.toNatClampNeg)), (0, .ref m), (1, .int s9), (2, .int what), (3, .int way)]) (st' := [.int (Int32.ofInt (-1))]) [(56, .iconst (-1))] (by decide +kernel) rfl ?_
          refine zr_retI (by decide +kernel) rfl ?_
          rw [← hPost]; exact ⟨rfl, _, rfl, rfl, _, rfl, trivial⟩
        ·
          have f20 := znltI cc39
          rw [show (0 : Int32).toInt = 0 from by decide] at f20
          refine zp_seg (pc' := 44) (lv' := [(4, .ref (m + 7486 + 9 * s9.toNatClampNeg)), (0, .ref m), (1, .int s9), (2, .int what), (3, .int way)]) (st' := [.int 1, .int what]) [(42, .iload_n 2), (43, .iconst 1)] (by decide +kernel) rfl ?_
          refine zp_if (i := .if_icmp .gt 12) (c := 1 < what) (t := 56) (e := 47) (lv' := [(4, .ref (m + 7486 + 9 * s9.toNatClampNeg)), (0, .ref m), (1, .int s9), (2, .int what), (3, .int way)]) (st' := []) (by decide +kernel) rfl (fun cc44 => ?_) (fun cc44 => ?_)
          ·
            have f21 := zltI cc44
            rw [show (1 : Int32).toInt = 1 from by decide] at f21
            refine zp_seg (pc' := 57) (lv' := [(4, .ref (m + 7486 + 9 * s9.toNatClampNeg)), (0, .ref m), (1, .int s9), (2, .int what), (3, .int way)]) (st' := [.int (Int32.ofInt (-1))]) [(56, .iconst (-1))] (by decide +kernel) rfl ?_
            refine zr_retI (by decide +kernel) rfl ?_
            rw [← hPost]; exact ⟨rfl, _, rfl, rfl, _, rfl, trivial⟩
          ·
            have f23 := znltI cc44
            rw [show (1 : Int32).toInt = 1 from by decide] at f23
            refine zp_seg (pc' := 48) (lv' := [(4, .ref (m + 7486 + 9 * s9.toNatClampNeg)), (0, .ref m), (1, .int s9), (2, .int what), (3, .int way)]) (st' := [.int way]) [(47, .iload_n 3)] (by decide +kernel) rfl ?_
            refine zp_if (i := .ifCond .lt 8) (c := way < 0) (t := 56) (e := 51) (lv' := [(4, .ref (m + 7486 + 9 * s9.toNatClampNeg)), (0, .ref m), (1, .int s9), (2, .int what), (3, .int way)]) (st' := []) (by decide +kernel) rfl (fun cc48 => ?_) (fun cc48 => ?_)
            ·
              have f24 := zltI cc48
              rw [show (0 : Int32).toInt = 0 from by decide] at f24
              refine zp_seg (pc' := 57) (lv' := [(4, .ref (m + 7486 + 9 * s9.toNatClampNeg)), (0, .ref m), (1, .int s9), (2, .int what), (3, .int way)]) (st' := [.int (Int32.ofInt (-1))]) [(56, .iconst (-1))] (by decide +kernel) rfl ?_
              refine zr_retI (by decide +kernel) rfl ?_
              rw [← hPost]; exact ⟨rfl, _, rfl, rfl, _, rfl, trivial⟩
            ·
              have f26 := znltI cc48
              rw [show (0 : Int32).toInt = 0 from by decide] at f26
              refine zp_seg (pc' := 53) (lv' := [(4, .ref (m + 7486 + 9 * s9.toNatClampNeg)), (0, .ref m), (1, .int s9), (2, .int what), (3, .int way)]) (st' := [.int 1, .int way]) [(51, .iload_n 3), (52, .iconst 1)] (by decide +kernel) rfl ?_
              refine zp_if (i := .if_icmp .le 5) (c := way ≤ 1) (t := 58) (e := 56) (lv' := [(4, .ref (m + 7486 + 9 * s9.toNatClampNeg)), (0, .ref m), (1, .int s9), (2, .int what), (3, .int way)]) (st' := []) (by decide +kernel) rfl (fun cc53 => ?_) (fun cc53 => ?_)
              ·
                have f27 := zleI cc53
                rw [show (1 : Int32).toInt = 1 from by decide] at f27
                refine zp_seg (pc' := 59) (lv' := [(4, .ref (m + 7486 + 9 * s9.toNatClampNeg)), (0, .ref m), (1, .int s9), (2, .int what), (3, .int way)]) (st' := [.int what]) [(58, .iload_n 2)] (by decide +kernel) rfl ?_
                refine zp_if (i := .ifCond .ne 11) (c := ¬ what = 0) (t := 70) (e := 62) (lv' := [(4, .ref (m + 7486 + 9 * s9.toNatClampNeg)), (0, .ref m), (1, .int s9), (2, .int what), (3, .int way)]) (st' := []) (by decide +kernel) rfl (fun cc59 => ?_) (fun cc59 => ?_)
                ·
                  have f28 := zneI cc59
                  rw [show (0 : Int32).toInt = 0 from by decide] at f28
                  refine zp_seg (pc' := 72) (lv' := [(4, .ref (m + 7486 + 9 * s9.toNatClampNeg)), (0, .ref m), (1, .int s9), (2, .int what), (3, .int way)]) (st' := [.ref (m + 7486 + 9 * s9.toNatClampNeg)]) [(70, .aload 4)] (by decide +kernel) rfl ?_
                  refine zr_get (idx := 210) (k := 2) (v := .ref (m + 7486 + 9 * s9.toNatClampNeg + 2)) (by decide +kernel) (by decide +kernel) hT1 rfl ?_
                  refine zp_seg (pc' := 76) (lv' := [(4, .ref (m + 7486 + 9 * s9.toNatClampNeg)), (0, .ref m), (1, .int s9), (2, .int what), (3, .int way)]) (st' := [.int way, .ref (m + 7486 + 9 * s9.toNatClampNeg + 2)]) [(75, .iload_n 3)] (by decide +kernel) rfl ?_
                  refine zr_callS (idx := 603) (j := 354) (by decide +kernel) (by decide +kernel) (by decide) (show zMe 354 = some zq_X16_degree from rfl) rfl rfl (Nat.le_of_ble_eq_true rfl) rfl rfl (Nat.le_of_ble_eq_true rfl) (Nat.le_of_ble_eq_true rfl) (c_X16_degree (w := w) (m + 7486 + 9 * s9.toNatClampNeg + 2) way hAd1) (by omega) (fun v76 w76 hp76 => ?_)
                  obtain ⟨hpw76, r76, rfl, hr76⟩ := hp76
                  replace hpw76 := hpw76.symm
                  subst hpw76
                  have kr76 := zrng r76
                  show zP _ _ _ _ [.int r76] _ _ _ _ _
                  refine zr_retI (by decide +kernel) rfl ?_
                  rw [← hPost]; exact ⟨rfl, _, rfl, rfl, _, rfl, trivial⟩
                ·
                  replace cc59 := Classical.not_not.mp cc59
                  have f29 := zeqI cc59
                  rw [show (0 : Int32).toInt = 0 from by decide] at f29
                  refine zp_seg (pc' := 64) (lv' := [(4, .ref (m + 7486 + 9 * s9.toNatClampNeg)), (0, .ref m), (1, .int s9), (2, .int what), (3, .int way)]) (st' := [.ref (m + 7486 + 9 * s9.toNatClampNeg)]) [(62, .aload 4)] (by decide +kernel) rfl ?_
                  refine zr_get (idx := 207) (k := 1) (v := .ref (m + 7486 + 9 * s9.toNatClampNeg + 1)) (by decide +kernel) (by decide +kernel) hT1 rfl ?_
                  refine zp_seg (pc' := 76) (lv' := [(4, .ref (m + 7486 + 9 * s9.toNatClampNeg)), (0, .ref m), (1, .int s9), (2, .int what), (3, .int way)]) (st' := [.int way, .ref (m + 7486 + 9 * s9.toNatClampNeg + 1)]) [(67, .goto 8), (75, .iload_n 3)] (by decide +kernel) rfl ?_
                  refine zr_callS (idx := 603) (j := 354) (by decide +kernel) (by decide +kernel) (by decide) (show zMe 354 = some zq_X16_degree from rfl) rfl rfl (Nat.le_of_ble_eq_true rfl) rfl rfl (Nat.le_of_ble_eq_true rfl) (Nat.le_of_ble_eq_true rfl) (c_X16_degree (w := w) (m + 7486 + 9 * s9.toNatClampNeg + 1) way hAn1) (by omega) (fun v76 w76 hp76 => ?_)
                  obtain ⟨hpw76, r76, rfl, hr76⟩ := hp76
                  replace hpw76 := hpw76.symm
                  subst hpw76
                  have kr76 := zrng r76
                  show zP _ _ _ _ [.int r76] _ _ _ _ _
                  refine zr_retI (by decide +kernel) rfl ?_
                  rw [← hPost]; exact ⟨rfl, _, rfl, rfl, _, rfl, trivial⟩
              ·
                have f30 := znleI cc53
                rw [show (1 : Int32).toInt = 1 from by decide] at f30
                refine zp_seg (pc' := 57) (lv' := [(4, .ref (m + 7486 + 9 * s9.toNatClampNeg)), (0, .ref m), (1, .int s9), (2, .int what), (3, .int way)]) (st' := [.int (Int32.ofInt (-1))]) [(56, .iconst (-1))] (by decide +kernel) rfl ?_
                refine zr_retI (by decide +kernel) rfl ?_
                rw [← hPost]; exact ⟨rfl, _, rfl, rfl, _, rfl, trivial⟩
      ·
        have f33 := znleI cc32
        rw [show (3 : Int32).toInt = 3 from by decide] at f33
        refine zp_seg (pc' := 37) (lv' := [(4, .ref (m + 7486 + 9 * s9.toNatClampNeg)), (0, .ref m), (1, .int s9), (2, .int what), (3, .int way)]) (st' := [.int (Int32.ofInt (-3))]) [(35, .bipush (-3))] (by decide +kernel) rfl ?_
        refine zr_retI (by decide +kernel) rfl ?_
        rw [← hPost]; exact ⟨rfl, _, rfl, rfl, _, rfl, trivial⟩
  ·
    replace cc4 := Classical.not_not.mp cc4
    have f36 := zeqI cc4
    rw [show (0 : Int32).toInt = 0 from by decide] at f36
    refine zp_seg (pc' := 8) (lv' := [(0, .ref m), (1, .int s9), (2, .int what), (3, .int way)]) (st' := [.int (Int32.ofInt (-1))]) [(7, .iconst (-1))] (by decide +kernel) rfl ?_
    refine zr_retI (by decide +kernel) rfl ?_
    rw [← hPost]; exact ⟨rfl, _, rfl, rfl, _, rfl, trivial⟩

set_option maxHeartbeats 8000000 in
set_option maxRecDepth 100000 in
theorem c_X16_value {w : zM} {g : Nat → Int32} {r : Nat → Value}  (m : Nat) (s9 : Int32) (n : Int32) (k : Int32) (hm : w m = some (.inl (15, zMo m g r))) (hR_m : zR m w) (hsl : ∀ i, i < 12 → ∃ k, zTi w (m + 7486 + 9 * i) k) : zCon 5 zq_X16_value [.ref m, .int s9, .int n, .int k] w (fun v9 w9' => w9' = w ∧ ∃ r9 : Int32, v9 = some (.int r9) ∧ True) := by
  intro d sz hd
  obtain ⟨d, rfl⟩ : ∃ d9, d = d9 + 1 := ⟨d - 1, by omega⟩
  generalize hPost : (fun (r9' : Option (Option Value)) (w9' : zM) (z9 : Nat) => z9 = sz ∧ ∃ v9, r9' = some v9 ∧ (w9' = w ∧ ∃ r9 : Int32, v9 = some (.int r9) ∧ True)) = Post
  show zP (d + 1) zq_X16_value 0 [(0, .ref m), (1, .int s9), (2, .int n), (3, .int k)] [] w sz 0 0 Post
  have k1 := zrng s9
  have k2 := zrng n
  have k3 := zrng k
  refine zp_seg (pc' := 1) (lv' := [(0, .ref m), (1, .int s9), (2, .int n), (3, .int k)]) (st' := [.int s9]) [(0, .iload_n 1)] (by decide +kernel) rfl ?_
  refine zr_callS (idx := 551) (j := 336) (by decide +kernel) (by decide +kernel) (by decide) (show zMe 336 = some zq_X16_isSlot from rfl) rfl rfl (Nat.le_of_ble_eq_true rfl) rfl rfl (Nat.le_of_ble_eq_true rfl) (Nat.le_of_ble_eq_true rfl) (c_X16_isSlot (w := w) s9 ) (by omega) (fun v1 w1 hp1 => ?_)
  obtain ⟨hpw1, r1, rfl, hrb1, hr1⟩ := hp1
  replace hpw1 := hpw1.symm
  subst hpw1
  have kr1 := zrng r1
  show zP _ _ _ _ [.int r1] _ _ _ _ _
  refine zp_if (i := .ifCond .ne 5) (c := ¬ r1 = 0) (t := 9) (e := 7) (lv' := [(0, .ref m), (1, .int s9), (2, .int n), (3, .int k)]) (st' := []) (by decide +kernel) rfl (fun cc4 => ?_) (fun cc4 => ?_)
  ·
    have f5 := zneI cc4
    rw [show (0 : Int32).toInt = 0 from by decide] at f5
    have his9 := hr1 (hrb1.resolve_left cc4)
    refine zp_seg (pc' := 10) (lv' := [(0, .ref m), (1, .int s9), (2, .int n), (3, .int k)]) (st' := [.ref m]) [(9, .aload_n 0)] (by decide +kernel) rfl ?_
    refine zr_get (idx := 450) (k := 20) (v := .ref (m + 82)) (by decide +kernel) (by decide +kernel) hm rfl ?_
    refine zp_seg (pc' := 14) (lv' := [(0, .ref m), (1, .int s9), (2, .int n), (3, .int k)]) (st' := [.int s9, .ref (m + 82)]) [(13, .iload_n 1)] (by decide +kernel) rfl ?_
    have hb7 := hR_m.slots
    have hz8 : (s9.toNatClampNeg : Int) = s9.toInt := znat (by first | omega | decide)
    refine zr_aald (v := .ref (m + 7486 + 9 * s9.toNatClampNeg)) (by decide +kernel) hb7 (by decide) (zin (by first | omega | decide) (by first | omega | decide)) (zsl_at (by omega)) ?_
    obtain ⟨kS1, hkS1⟩ := hsl s9.toNatClampNeg (by omega)
    obtain ⟨g1, fn1, fd1, fa1, fb1, fc1, fe1, fr1, fu1, hT1, hAn1, hAd1, hAa1, hAb1, hAc1, hAe1, hAr1, hAu1, hK1⟩ := id hkS1
    obtain ⟨hK10, hKn1, hKd1, hKx1, hKm1, hKl1, hKr1, hKu1, hKk1⟩ := id hK1
    refine zp_seg (pc' := 19) (lv' := [(4, .ref (m + 7486 + 9 * s9.toNatClampNeg)), (0, .ref m), (1, .int s9), (2, .int n), (3, .int k)]) (st' := [.ref (m + 7486 + 9 * s9.toNatClampNeg)]) [(15, .astore 4), (17, .aload 4)] (by decide +kernel) rfl ?_
    refine zr_get (idx := 202) (k := 0) (v := .int (g1 0)) (by decide +kernel) (by decide +kernel) hT1 rfl ?_
    refine zp_seg (pc' := 23) (lv' := [(4, .ref (m + 7486 + 9 * s9.toNatClampNeg)), (0, .ref m), (1, .int s9), (2, .int n), (3, .int k)]) (st' := [.int 1, .int (g1 0)]) [(22, .iconst 1)] (by decide +kernel) rfl ?_
    refine zp_if (i := .if_icmp .eq 12) (c := (g1 0) = 1) (t := 35) (e := 26) (lv' := [(4, .ref (m + 7486 + 9 * s9.toNatClampNeg)), (0, .ref m), (1, .int s9), (2, .int n), (3, .int k)]) (st' := []) (by decide +kernel) rfl (fun cc23 => ?_) (fun cc23 => ?_)
    ·
      have k9 := zrng (g1 0)
      have f11 := zeqI cc23
      rw [show (1 : Int32).toInt = 1 from by decide] at f11
      refine zp_seg (pc' := 40) (lv' := [(4, .ref (m + 7486 + 9 * s9.toNatClampNeg)), (0, .ref m), (1, .int s9), (2, .int n), (3, .int k)]) (st' := [.int k, .int n, .ref (m + 7486 + 9 * s9.toNatClampNeg), .ref m]) [(35, .aload_n 0), (36, .aload 4), (38, .iload_n 2), (39, .iload_n 3)] (by decide +kernel) rfl ?_
      refine zr_callV (idx := 688) (j := 377) (by decide +kernel) (by decide +kernel) (show zMe 377 = some zq_X16_valueAt from rfl) rfl rfl (Nat.le_of_ble_eq_true rfl) rfl rfl hm (Nat.le_of_ble_eq_true rfl) (Nat.le_of_ble_eq_true rfl) (c_X16_valueAt (w := w) m (m + 7486 + 9 * s9.toNatClampNeg) n k hm hR_m hkS1 (by first | exact Or.inl (hK10.symm.trans cc23) | exact Or.inr (hK10.symm.trans cc32))) (by omega) (fun v40 w40 hp40 => ?_)
      obtain ⟨hpw40, r40, rfl, hr40⟩ := hp40
      replace hpw40 := hpw40.symm
      subst hpw40
      have kr40 := zrng r40
      show zP _ _ _ _ [.int r40] _ _ _ _ _
      refine zp_seg (pc' := 48) (lv' := [(4, .ref (m + 7486 + 9 * s9.toNatClampNeg)), (0, .ref m), (1, .int s9), (2, .int n), (3, .int k)]) (st' := [.int r40]) [(43, .goto 5)] (by decide +kernel) rfl ?_
      refine zr_retI (by decide +kernel) rfl ?_
      rw [← hPost]; exact ⟨rfl, _, rfl, rfl, _, rfl, trivial⟩
    ·
      have k12 := zrng (g1 0)
      have f14 := zneI cc23
      rw [show (1 : Int32).toInt = 1 from by decide] at f14
      refine zp_seg (pc' := 28) (lv' := [(4, .ref (m + 7486 + 9 * s9.toNatClampNeg)), (0, .ref m), (1, .int s9), (2, .int n), (3, .int k)]) (st' := [.ref (m + 7486 + 9 * s9.toNatClampNeg)]) [(26, .aload 4)] (by decide +kernel) rfl ?_
      refine zr_get (idx := 202) (k := 0) (v := .int (g1 0)) (by decide +kernel) (by decide +kernel) hT1 rfl ?_
      refine zp_seg (pc' := 32) (lv' := [(4, .ref (m + 7486 + 9 * s9.toNatClampNeg)), (0, .ref m), (1, .int s9), (2, .int n), (3, .int k)]) (st' := [.int 2, .int (g1 0)]) [(31, .iconst 2)] (by decide +kernel) rfl ?_
      refine zp_if (i := .if_icmp .ne 14) (c := ¬ (g1 0) = 2) (t := 46) (e := 35) (lv' := [(4, .ref (m + 7486 + 9 * s9.toNatClampNeg)), (0, .ref m), (1, .int s9), (2, .int n), (3, .int k)]) (st' := []) (by decide +kernel) rfl (fun cc32 => ?_) (fun cc32 => ?_)
      ·
        have f16 := zneI cc32
        rw [show (2 : Int32).toInt = 2 from by decide] at f16
        refine zp_seg (pc' := 48) (lv' := [(4, .ref (m + 7486 + 9 * s9.toNatClampNeg)), (0, .ref m), (1, .int s9), (2, .int n), (3, .int k)]) (st' := [.int (Int32.ofInt (-3))]) [(46, .bipush (-3))] (by decide +kernel) rfl ?_
        refine zr_retI (by decide +kernel) rfl ?_
        rw [← hPost]; exact ⟨rfl, _, rfl, rfl, _, rfl, trivial⟩
      ·
        replace cc32 := Classical.not_not.mp cc32
        have f19 := zeqI cc32
        rw [show (2 : Int32).toInt = 2 from by decide] at f19
        refine zp_seg (pc' := 40) (lv' := [(4, .ref (m + 7486 + 9 * s9.toNatClampNeg)), (0, .ref m), (1, .int s9), (2, .int n), (3, .int k)]) (st' := [.int k, .int n, .ref (m + 7486 + 9 * s9.toNatClampNeg), .ref m]) [(35, .aload_n 0), (36, .aload 4), (38, .iload_n 2), (39, .iload_n 3)] (by decide +kernel) rfl ?_
        refine zr_callV (idx := 688) (j := 377) (by decide +kernel) (by decide +kernel) (show zMe 377 = some zq_X16_valueAt from rfl) rfl rfl (Nat.le_of_ble_eq_true rfl) rfl rfl hm (Nat.le_of_ble_eq_true rfl) (Nat.le_of_ble_eq_true rfl) (c_X16_valueAt (w := w) m (m + 7486 + 9 * s9.toNatClampNeg) n k hm hR_m hkS1 (by first | exact Or.inl (hK10.symm.trans cc23) | exact Or.inr (hK10.symm.trans cc32))) (by omega) (fun v40 w40 hp40 => ?_)
        obtain ⟨hpw40, r40, rfl, hr40⟩ := hp40
        replace hpw40 := hpw40.symm
        subst hpw40
        have kr40 := zrng r40
        show zP _ _ _ _ [.int r40] _ _ _ _ _
        refine zp_seg (pc' := 48) (lv' := [(4, .ref (m + 7486 + 9 * s9.toNatClampNeg)), (0, .ref m), (1, .int s9), (2, .int n), (3, .int k)]) (st' := [.int r40]) [(43, .goto 5)] (by decide +kernel) rfl ?_
        refine zr_retI (by decide +kernel) rfl ?_
        rw [← hPost]; exact ⟨rfl, _, rfl, rfl, _, rfl, trivial⟩
  ·
    replace cc4 := Classical.not_not.mp cc4
    have f21 := zeqI cc4
    rw [show (0 : Int32).toInt = 0 from by decide] at f21
    refine zp_seg (pc' := 8) (lv' := [(0, .ref m), (1, .int s9), (2, .int n), (3, .int k)]) (st' := [.int (Int32.ofInt (-1))]) [(7, .iconst (-1))] (by decide +kernel) rfl ?_
    refine zr_retI (by decide +kernel) rfl ?_
    rw [← hPost]; exact ⟨rfl, _, rfl, rfl, _, rfl, trivial⟩

set_option maxHeartbeats 8000000 in
set_option maxRecDepth 100000 in
theorem c_X16_sum_ {w : zM} {g : Nat → Int32} {r : Nat → Value}  (m : Nat) (s9 : Int32) (n : Int32) (low : Int32) (high : Int32) (hm : w m = some (.inl (15, zMo m g r))) (hR_m : zR m w) (hsl : ∀ i, i < 12 → ∃ k, zTi w (m + 7486 + 9 * i) k) : zCon 6 zq_X16_sum_ [.ref m, .int s9, .int n, .int low, .int high] w (fun v9 w9' => w9' = w ∧ ∃ r9 : Int32, v9 = some (.int r9) ∧ True) := by
  intro d sz hd
  obtain ⟨d, rfl⟩ : ∃ d9, d = d9 + 1 := ⟨d - 1, by omega⟩
  generalize hPost : (fun (r9' : Option (Option Value)) (w9' : zM) (z9 : Nat) => z9 = sz ∧ ∃ v9, r9' = some v9 ∧ (w9' = w ∧ ∃ r9 : Int32, v9 = some (.int r9) ∧ True)) = Post
  show zP (d + 1) zq_X16_sum_ 0 [(0, .ref m), (1, .int s9), (2, .int n), (3, .int low), (4, .int high)] [] w sz 0 0 Post
  have k1 := zrng s9
  have k2 := zrng n
  have k3 := zrng low
  have k4 := zrng high
  refine zp_seg (pc' := 1) (lv' := [(0, .ref m), (1, .int s9), (2, .int n), (3, .int low), (4, .int high)]) (st' := [.int s9]) [(0, .iload_n 1)] (by decide +kernel) rfl ?_
  refine zr_callS (idx := 551) (j := 336) (by decide +kernel) (by decide +kernel) (by decide) (show zMe 336 = some zq_X16_isSlot from rfl) rfl rfl (Nat.le_of_ble_eq_true rfl) rfl rfl (Nat.le_of_ble_eq_true rfl) (Nat.le_of_ble_eq_true rfl) (c_X16_isSlot (w := w) s9 ) (by omega) (fun v1 w1 hp1 => ?_)
  obtain ⟨hpw1, r1, rfl, hrb1, hr1⟩ := hp1
  replace hpw1 := hpw1.symm
  subst hpw1
  have kr1 := zrng r1
  show zP _ _ _ _ [.int r1] _ _ _ _ _
  refine zp_if (i := .ifCond .ne 5) (c := ¬ r1 = 0) (t := 9) (e := 7) (lv' := [(0, .ref m), (1, .int s9), (2, .int n), (3, .int low), (4, .int high)]) (st' := []) (by decide +kernel) rfl (fun cc4 => ?_) (fun cc4 => ?_)
  ·
    have f6 := zneI cc4
    rw [show (0 : Int32).toInt = 0 from by decide] at f6
    have his9 := hr1 (hrb1.resolve_left cc4)
    refine zp_seg (pc' := 10) (lv' := [(0, .ref m), (1, .int s9), (2, .int n), (3, .int low), (4, .int high)]) (st' := [.ref m]) [(9, .aload_n 0)] (by decide +kernel) rfl ?_
    refine zr_get (idx := 450) (k := 20) (v := .ref (m + 82)) (by decide +kernel) (by decide +kernel) hm rfl ?_
    refine zp_seg (pc' := 14) (lv' := [(0, .ref m), (1, .int s9), (2, .int n), (3, .int low), (4, .int high)]) (st' := [.int s9, .ref (m + 82)]) [(13, .iload_n 1)] (by decide +kernel) rfl ?_
    have hb8 := hR_m.slots
    have hz9 : (s9.toNatClampNeg : Int) = s9.toInt := znat (by first | omega | decide)
    refine zr_aald (v := .ref (m + 7486 + 9 * s9.toNatClampNeg)) (by decide +kernel) hb8 (by decide) (zin (by first | omega | decide) (by first | omega | decide)) (zsl_at (by omega)) ?_
    obtain ⟨kS1, hkS1⟩ := hsl s9.toNatClampNeg (by omega)
    obtain ⟨g1, fn1, fd1, fa1, fb1, fc1, fe1, fr1, fu1, hT1, hAn1, hAd1, hAa1, hAb1, hAc1, hAe1, hAr1, hAu1, hK1⟩ := id hkS1
    obtain ⟨hK10, hKn1, hKd1, hKx1, hKm1, hKl1, hKr1, hKu1, hKk1⟩ := id hK1
    refine zp_seg (pc' := 19) (lv' := [(5, .ref (m + 7486 + 9 * s9.toNatClampNeg)), (0, .ref m), (1, .int s9), (2, .int n), (3, .int low), (4, .int high)]) (st' := [.ref (m + 7486 + 9 * s9.toNatClampNeg)]) [(15, .astore 5), (17, .aload 5)] (by decide +kernel) rfl ?_
    refine zr_get (idx := 202) (k := 0) (v := .int (g1 0)) (by decide +kernel) (by decide +kernel) hT1 rfl ?_
    refine zp_seg (pc' := 23) (lv' := [(5, .ref (m + 7486 + 9 * s9.toNatClampNeg)), (0, .ref m), (1, .int s9), (2, .int n), (3, .int low), (4, .int high)]) (st' := [.int 1, .int (g1 0)]) [(22, .iconst 1)] (by decide +kernel) rfl ?_
    refine zp_if (i := .if_icmp .eq 15) (c := (g1 0) = 1) (t := 38) (e := 26) (lv' := [(5, .ref (m + 7486 + 9 * s9.toNatClampNeg)), (0, .ref m), (1, .int s9), (2, .int n), (3, .int low), (4, .int high)]) (st' := []) (by decide +kernel) rfl (fun cc23 => ?_) (fun cc23 => ?_)
    ·
      have k10 := zrng (g1 0)
      have f12 := zeqI cc23
      rw [show (1 : Int32).toInt = 1 from by decide] at f12
      refine zp_seg (pc' := 39) (lv' := [(5, .ref (m + 7486 + 9 * s9.toNatClampNeg)), (0, .ref m), (1, .int s9), (2, .int n), (3, .int low), (4, .int high)]) (st' := [.int n]) [(38, .iload_n 2)] (by decide +kernel) rfl ?_
      refine zr_callS (idx := 682) (j := 376) (by decide +kernel) (by decide +kernel) (by decide) (show zMe 376 = some zq_X16_isWhole from rfl) rfl rfl (Nat.le_of_ble_eq_true rfl) rfl rfl (Nat.le_of_ble_eq_true rfl) (Nat.le_of_ble_eq_true rfl) (c_X16_isWhole (w := w) n ) (by omega) (fun v39 w39 hp39 => ?_)
      obtain ⟨hpw39, r39, rfl, hrb39, hr39⟩ := hp39
      replace hpw39 := hpw39.symm
      subst hpw39
      have kr39 := zrng r39
      show zP _ _ _ _ [.int r39] _ _ _ _ _
      refine zp_if (i := .ifCond .eq 31) (c := r39 = 0) (t := 73) (e := 45) (lv' := [(5, .ref (m + 7486 + 9 * s9.toNatClampNeg)), (0, .ref m), (1, .int s9), (2, .int n), (3, .int low), (4, .int high)]) (st' := []) (by decide +kernel) rfl (fun cc42 => ?_) (fun cc42 => ?_)
      ·
        have f13 := zeqI cc42
        rw [show (0 : Int32).toInt = 0 from by decide] at f13
        refine zp_seg (pc' := 74) (lv' := [(5, .ref (m + 7486 + 9 * s9.toNatClampNeg)), (0, .ref m), (1, .int s9), (2, .int n), (3, .int low), (4, .int high)]) (st' := [.int (Int32.ofInt (-1))]) [(73, .iconst (-1))] (by decide +kernel) rfl ?_
        refine zr_retI (by decide +kernel) rfl ?_
        rw [← hPost]; exact ⟨rfl, _, rfl, rfl, _, rfl, trivial⟩
      ·
        have f15 := zneI cc42
        rw [show (0 : Int32).toInt = 0 from by decide] at f15
        refine zp_seg (pc' := 46) (lv' := [(5, .ref (m + 7486 + 9 * s9.toNatClampNeg)), (0, .ref m), (1, .int s9), (2, .int n), (3, .int low), (4, .int high)]) (st' := [.int low]) [(45, .iload_n 3)] (by decide +kernel) rfl ?_
        refine zr_callS (idx := 682) (j := 376) (by decide +kernel) (by decide +kernel) (by decide) (show zMe 376 = some zq_X16_isWhole from rfl) rfl rfl (Nat.le_of_ble_eq_true rfl) rfl rfl (Nat.le_of_ble_eq_true rfl) (Nat.le_of_ble_eq_true rfl) (c_X16_isWhole (w := w) low ) (by omega) (fun v46 w46 hp46 => ?_)
        obtain ⟨hpw46, r46, rfl, hrb46, hr46⟩ := hp46
        replace hpw46 := hpw46.symm
        subst hpw46
        have kr46 := zrng r46
        show zP _ _ _ _ [.int r46] _ _ _ _ _
        refine zp_if (i := .ifCond .eq 24) (c := r46 = 0) (t := 73) (e := 52) (lv' := [(5, .ref (m + 7486 + 9 * s9.toNatClampNeg)), (0, .ref m), (1, .int s9), (2, .int n), (3, .int low), (4, .int high)]) (st' := []) (by decide +kernel) rfl (fun cc49 => ?_) (fun cc49 => ?_)
        ·
          have f16 := zeqI cc49
          rw [show (0 : Int32).toInt = 0 from by decide] at f16
          refine zp_seg (pc' := 74) (lv' := [(5, .ref (m + 7486 + 9 * s9.toNatClampNeg)), (0, .ref m), (1, .int s9), (2, .int n), (3, .int low), (4, .int high)]) (st' := [.int (Int32.ofInt (-1))]) [(73, .iconst (-1))] (by decide +kernel) rfl ?_
          refine zr_retI (by decide +kernel) rfl ?_
          rw [← hPost]; exact ⟨rfl, _, rfl, rfl, _, rfl, trivial⟩
        ·
          have f18 := zneI cc49
          rw [show (0 : Int32).toInt = 0 from by decide] at f18
          refine zp_seg (pc' := 54) (lv' := [(5, .ref (m + 7486 + 9 * s9.toNatClampNeg)), (0, .ref m), (1, .int s9), (2, .int n), (3, .int low), (4, .int high)]) (st' := [.int high]) [(52, .iload 4)] (by decide +kernel) rfl ?_
          refine zr_callS (idx := 682) (j := 376) (by decide +kernel) (by decide +kernel) (by decide) (show zMe 376 = some zq_X16_isWhole from rfl) rfl rfl (Nat.le_of_ble_eq_true rfl) rfl rfl (Nat.le_of_ble_eq_true rfl) (Nat.le_of_ble_eq_true rfl) (c_X16_isWhole (w := w) high ) (by omega) (fun v54 w54 hp54 => ?_)
          obtain ⟨hpw54, r54, rfl, hrb54, hr54⟩ := hp54
          replace hpw54 := hpw54.symm
          subst hpw54
          have kr54 := zrng r54
          show zP _ _ _ _ [.int r54] _ _ _ _ _
          refine zp_if (i := .ifCond .eq 16) (c := r54 = 0) (t := 73) (e := 60) (lv' := [(5, .ref (m + 7486 + 9 * s9.toNatClampNeg)), (0, .ref m), (1, .int s9), (2, .int n), (3, .int low), (4, .int high)]) (st' := []) (by decide +kernel) rfl (fun cc57 => ?_) (fun cc57 => ?_)
          ·
            have f19 := zeqI cc57
            rw [show (0 : Int32).toInt = 0 from by decide] at f19
            refine zp_seg (pc' := 74) (lv' := [(5, .ref (m + 7486 + 9 * s9.toNatClampNeg)), (0, .ref m), (1, .int s9), (2, .int n), (3, .int low), (4, .int high)]) (st' := [.int (Int32.ofInt (-1))]) [(73, .iconst (-1))] (by decide +kernel) rfl ?_
            refine zr_retI (by decide +kernel) rfl ?_
            rw [← hPost]; exact ⟨rfl, _, rfl, rfl, _, rfl, trivial⟩
          ·
            have f21 := zneI cc57
            rw [show (0 : Int32).toInt = 0 from by decide] at f21
            have hw1 := hr46 (hrb46.resolve_left cc49)
            have hw2 := hr54 (hrb54.resolve_left cc57)
            refine zp_seg (pc' := 67) (lv' := [(5, .ref (m + 7486 + 9 * s9.toNatClampNeg)), (0, .ref m), (1, .int s9), (2, .int n), (3, .int low), (4, .int high)]) (st' := [.int high, .int low, .int n, .ref (m + 7486 + 9 * s9.toNatClampNeg), .ref m]) [(60, .aload_n 0), (61, .aload 5), (63, .iload_n 2), (64, .iload_n 3), (65, .iload 4)] (by decide +kernel) rfl ?_
            refine zr_callV (idx := 691) (j := 379) (by decide +kernel) (by decide +kernel) (show zMe 379 = some zq_X16_sumOf from rfl) rfl rfl (Nat.le_of_ble_eq_true rfl) rfl rfl hm (Nat.le_of_ble_eq_true rfl) (Nat.le_of_ble_eq_true rfl) (c_X16_sumOf (w := w) m (m + 7486 + 9 * s9.toNatClampNeg) n low high hm hR_m hkS1 (by first | exact Or.inl (hK10.symm.trans cc23) | exact Or.inr (hK10.symm.trans cc32)) (by first | omega | decide | assumption | exact zr1_1 | exact zr1_0 | fail "num") (by first | omega | decide | assumption | exact zr1_1 | exact zr1_0 | fail "num")) (by omega) (fun v67 w67 hp67 => ?_)
            obtain ⟨hpw67, r67, rfl, hr67⟩ := hp67
            replace hpw67 := hpw67.symm
            subst hpw67
            have kr67 := zrng r67
            show zP _ _ _ _ [.int r67] _ _ _ _ _
            refine zp_seg (pc' := 74) (lv' := [(5, .ref (m + 7486 + 9 * s9.toNatClampNeg)), (0, .ref m), (1, .int s9), (2, .int n), (3, .int low), (4, .int high)]) (st' := [.int r67]) [(70, .goto 4)] (by decide +kernel) rfl ?_
            refine zr_retI (by decide +kernel) rfl ?_
            rw [← hPost]; exact ⟨rfl, _, rfl, rfl, _, rfl, trivial⟩
    ·
      have k22 := zrng (g1 0)
      have f24 := zneI cc23
      rw [show (1 : Int32).toInt = 1 from by decide] at f24
      refine zp_seg (pc' := 28) (lv' := [(5, .ref (m + 7486 + 9 * s9.toNatClampNeg)), (0, .ref m), (1, .int s9), (2, .int n), (3, .int low), (4, .int high)]) (st' := [.ref (m + 7486 + 9 * s9.toNatClampNeg)]) [(26, .aload 5)] (by decide +kernel) rfl ?_
      refine zr_get (idx := 202) (k := 0) (v := .int (g1 0)) (by decide +kernel) (by decide +kernel) hT1 rfl ?_
      refine zp_seg (pc' := 32) (lv' := [(5, .ref (m + 7486 + 9 * s9.toNatClampNeg)), (0, .ref m), (1, .int s9), (2, .int n), (3, .int low), (4, .int high)]) (st' := [.int 2, .int (g1 0)]) [(31, .iconst 2)] (by decide +kernel) rfl ?_
      refine zp_if (i := .if_icmp .eq 6) (c := (g1 0) = 2) (t := 38) (e := 35) (lv' := [(5, .ref (m + 7486 + 9 * s9.toNatClampNeg)), (0, .ref m), (1, .int s9), (2, .int n), (3, .int low), (4, .int high)]) (st' := []) (by decide +kernel) rfl (fun cc32 => ?_) (fun cc32 => ?_)
      ·
        have f26 := zeqI cc32
        rw [show (2 : Int32).toInt = 2 from by decide] at f26
        refine zp_seg (pc' := 39) (lv' := [(5, .ref (m + 7486 + 9 * s9.toNatClampNeg)), (0, .ref m), (1, .int s9), (2, .int n), (3, .int low), (4, .int high)]) (st' := [.int n]) [(38, .iload_n 2)] (by decide +kernel) rfl ?_
        refine zr_callS (idx := 682) (j := 376) (by decide +kernel) (by decide +kernel) (by decide) (show zMe 376 = some zq_X16_isWhole from rfl) rfl rfl (Nat.le_of_ble_eq_true rfl) rfl rfl (Nat.le_of_ble_eq_true rfl) (Nat.le_of_ble_eq_true rfl) (c_X16_isWhole (w := w) n ) (by omega) (fun v39 w39 hp39 => ?_)
        obtain ⟨hpw39, r39, rfl, hrb39, hr39⟩ := hp39
        replace hpw39 := hpw39.symm
        subst hpw39
        have kr39 := zrng r39
        show zP _ _ _ _ [.int r39] _ _ _ _ _
        refine zp_if (i := .ifCond .eq 31) (c := r39 = 0) (t := 73) (e := 45) (lv' := [(5, .ref (m + 7486 + 9 * s9.toNatClampNeg)), (0, .ref m), (1, .int s9), (2, .int n), (3, .int low), (4, .int high)]) (st' := []) (by decide +kernel) rfl (fun cc42 => ?_) (fun cc42 => ?_)
        ·
          have f27 := zeqI cc42
          rw [show (0 : Int32).toInt = 0 from by decide] at f27
          refine zp_seg (pc' := 74) (lv' := [(5, .ref (m + 7486 + 9 * s9.toNatClampNeg)), (0, .ref m), (1, .int s9), (2, .int n), (3, .int low), (4, .int high)]) (st' := [.int (Int32.ofInt (-1))]) [(73, .iconst (-1))] (by decide +kernel) rfl ?_
          refine zr_retI (by decide +kernel) rfl ?_
          rw [← hPost]; exact ⟨rfl, _, rfl, rfl, _, rfl, trivial⟩
        ·
          have f29 := zneI cc42
          rw [show (0 : Int32).toInt = 0 from by decide] at f29
          refine zp_seg (pc' := 46) (lv' := [(5, .ref (m + 7486 + 9 * s9.toNatClampNeg)), (0, .ref m), (1, .int s9), (2, .int n), (3, .int low), (4, .int high)]) (st' := [.int low]) [(45, .iload_n 3)] (by decide +kernel) rfl ?_
          refine zr_callS (idx := 682) (j := 376) (by decide +kernel) (by decide +kernel) (by decide) (show zMe 376 = some zq_X16_isWhole from rfl) rfl rfl (Nat.le_of_ble_eq_true rfl) rfl rfl (Nat.le_of_ble_eq_true rfl) (Nat.le_of_ble_eq_true rfl) (c_X16_isWhole (w := w) low ) (by omega) (fun v46 w46 hp46 => ?_)
          obtain ⟨hpw46, r46, rfl, hrb46, hr46⟩ := hp46
          replace hpw46 := hpw46.symm
          subst hpw46
          have kr46 := zrng r46
          show zP _ _ _ _ [.int r46] _ _ _ _ _
          refine zp_if (i := .ifCond .eq 24) (c := r46 = 0) (t := 73) (e := 52) (lv' := [(5, .ref (m + 7486 + 9 * s9.toNatClampNeg)), (0, .ref m), (1, .int s9), (2, .int n), (3, .int low), (4, .int high)]) (st' := []) (by decide +kernel) rfl (fun cc49 => ?_) (fun cc49 => ?_)
          ·
            have f30 := zeqI cc49
            rw [show (0 : Int32).toInt = 0 from by decide] at f30
            refine zp_seg (pc' := 74) (lv' := [(5, .ref (m + 7486 + 9 * s9.toNatClampNeg)), (0, .ref m), (1, .int s9), (2, .int n), (3, .int low), (4, .int high)]) (st' := [.int (Int32.ofInt (-1))]) [(73, .iconst (-1))] (by decide +kernel) rfl ?_
            refine zr_retI (by decide +kernel) rfl ?_
            rw [← hPost]; exact ⟨rfl, _, rfl, rfl, _, rfl, trivial⟩
          ·
            have f32 := zneI cc49
            rw [show (0 : Int32).toInt = 0 from by decide] at f32
            refine zp_seg (pc' := 54) (lv' := [(5, .ref (m + 7486 + 9 * s9.toNatClampNeg)), (0, .ref m), (1, .int s9), (2, .int n), (3, .int low), (4, .int high)]) (st' := [.int high]) [(52, .iload 4)] (by decide +kernel) rfl ?_
            refine zr_callS (idx := 682) (j := 376) (by decide +kernel) (by decide +kernel) (by decide) (show zMe 376 = some zq_X16_isWhole from rfl) rfl rfl (Nat.le_of_ble_eq_true rfl) rfl rfl (Nat.le_of_ble_eq_true rfl) (Nat.le_of_ble_eq_true rfl) (c_X16_isWhole (w := w) high ) (by omega) (fun v54 w54 hp54 => ?_)
            obtain ⟨hpw54, r54, rfl, hrb54, hr54⟩ := hp54
            replace hpw54 := hpw54.symm
            subst hpw54
            have kr54 := zrng r54
            show zP _ _ _ _ [.int r54] _ _ _ _ _
            refine zp_if (i := .ifCond .eq 16) (c := r54 = 0) (t := 73) (e := 60) (lv' := [(5, .ref (m + 7486 + 9 * s9.toNatClampNeg)), (0, .ref m), (1, .int s9), (2, .int n), (3, .int low), (4, .int high)]) (st' := []) (by decide +kernel) rfl (fun cc57 => ?_) (fun cc57 => ?_)
            ·
              have f33 := zeqI cc57
              rw [show (0 : Int32).toInt = 0 from by decide] at f33
              refine zp_seg (pc' := 74) (lv' := [(5, .ref (m + 7486 + 9 * s9.toNatClampNeg)), (0, .ref m), (1, .int s9), (2, .int n), (3, .int low), (4, .int high)]) (st' := [.int (Int32.ofInt (-1))]) [(73, .iconst (-1))] (by decide +kernel) rfl ?_
              refine zr_retI (by decide +kernel) rfl ?_
              rw [← hPost]; exact ⟨rfl, _, rfl, rfl, _, rfl, trivial⟩
            ·
              have f35 := zneI cc57
              rw [show (0 : Int32).toInt = 0 from by decide] at f35
              have hw1 := hr46 (hrb46.resolve_left cc49)
              have hw2 := hr54 (hrb54.resolve_left cc57)
              refine zp_seg (pc' := 67) (lv' := [(5, .ref (m + 7486 + 9 * s9.toNatClampNeg)), (0, .ref m), (1, .int s9), (2, .int n), (3, .int low), (4, .int high)]) (st' := [.int high, .int low, .int n, .ref (m + 7486 + 9 * s9.toNatClampNeg), .ref m]) [(60, .aload_n 0), (61, .aload 5), (63, .iload_n 2), (64, .iload_n 3), (65, .iload 4)] (by decide +kernel) rfl ?_
              refine zr_callV (idx := 691) (j := 379) (by decide +kernel) (by decide +kernel) (show zMe 379 = some zq_X16_sumOf from rfl) rfl rfl (Nat.le_of_ble_eq_true rfl) rfl rfl hm (Nat.le_of_ble_eq_true rfl) (Nat.le_of_ble_eq_true rfl) (c_X16_sumOf (w := w) m (m + 7486 + 9 * s9.toNatClampNeg) n low high hm hR_m hkS1 (by first | exact Or.inl (hK10.symm.trans cc23) | exact Or.inr (hK10.symm.trans cc32)) (by first | omega | decide | assumption | exact zr1_1 | exact zr1_0 | fail "num") (by first | omega | decide | assumption | exact zr1_1 | exact zr1_0 | fail "num")) (by omega) (fun v67 w67 hp67 => ?_)
              obtain ⟨hpw67, r67, rfl, hr67⟩ := hp67
              replace hpw67 := hpw67.symm
              subst hpw67
              have kr67 := zrng r67
              show zP _ _ _ _ [.int r67] _ _ _ _ _
              refine zp_seg (pc' := 74) (lv' := [(5, .ref (m + 7486 + 9 * s9.toNatClampNeg)), (0, .ref m), (1, .int s9), (2, .int n), (3, .int low), (4, .int high)]) (st' := [.int r67]) [(70, .goto 4)] (by decide +kernel) rfl ?_
              refine zr_retI (by decide +kernel) rfl ?_
              rw [← hPost]; exact ⟨rfl, _, rfl, rfl, _, rfl, trivial⟩
      ·
        have f37 := zneI cc32
        rw [show (2 : Int32).toInt = 2 from by decide] at f37
        refine zp_seg (pc' := 37) (lv' := [(5, .ref (m + 7486 + 9 * s9.toNatClampNeg)), (0, .ref m), (1, .int s9), (2, .int n), (3, .int low), (4, .int high)]) (st' := [.int (Int32.ofInt (-3))]) [(35, .bipush (-3))] (by decide +kernel) rfl ?_
        refine zr_retI (by decide +kernel) rfl ?_
        rw [← hPost]; exact ⟨rfl, _, rfl, rfl, _, rfl, trivial⟩
  ·
    replace cc4 := Classical.not_not.mp cc4
    have f40 := zeqI cc4
    rw [show (0 : Int32).toInt = 0 from by decide] at f40
    refine zp_seg (pc' := 8) (lv' := [(0, .ref m), (1, .int s9), (2, .int n), (3, .int low), (4, .int high)]) (st' := [.int (Int32.ofInt (-1))]) [(7, .iconst (-1))] (by decide +kernel) rfl ?_
    refine zr_retI (by decide +kernel) rfl ?_
    rw [← hPost]; exact ⟨rfl, _, rfl, rfl, _, rfl, trivial⟩

set_option maxHeartbeats 8000000 in
set_option maxRecDepth 100000 in
theorem c_X16_isPolynomial {w : zM} {gt fd : Nat → Int32} (t : Nat) (hT_t : w t = some (.inl (13, zTo t gt))) (hA_t_2 : w (t + 2) = some (.inr (0, 325, .inl fd))) : zCon 2 zq_X16_isPolynomial [.ref t] w (fun v9 w9' => w9' = w ∧ ∃ r9 : Int32, v9 = some (.int r9) ∧ (r9 = 0 ∨ r9 = 1) ∧ (r9 = 1 → gt 0 = 1)) := by
  intro d sz hd
  obtain ⟨d, rfl⟩ : ∃ d9, d = d9 + 1 := ⟨d - 1, by omega⟩
  generalize hPost : (fun (r9' : Option (Option Value)) (w9' : zM) (z9 : Nat) => z9 = sz ∧ ∃ v9, r9' = some v9 ∧ (w9' = w ∧ ∃ r9 : Int32, v9 = some (.int r9) ∧ (r9 = 0 ∨ r9 = 1) ∧ (r9 = 1 → gt 0 = 1))) = Post
  show zP (d + 1) zq_X16_isPolynomial 0 [(0, .ref t)] [] w sz 0 0 Post
  refine zp_seg (pc' := 1) (lv' := [(0, .ref t)]) (st' := [.ref t]) [(0, .aload_n 0)] (by decide +kernel) rfl ?_
  refine zr_get (idx := 202) (k := 0) (v := .int (gt 0)) (by decide +kernel) (by decide +kernel) hT_t rfl ?_
  refine zp_seg (pc' := 5) (lv' := [(0, .ref t)]) (st' := [.int 1, .int (gt 0)]) [(4, .iconst 1)] (by decide +kernel) rfl ?_
  refine zp_if (i := .if_icmp .ne 17) (c := ¬ (gt 0) = 1) (t := 22) (e := 8) (lv' := [(0, .ref t)]) (st' := []) (by decide +kernel) rfl (fun cc5 => ?_) (fun cc5 => ?_)
  ·
    have k1 := zrng (gt 0)
    have f3 := zneI cc5
    rw [show (1 : Int32).toInt = 1 from by decide] at f3
    refine zp_seg (pc' := 23) (lv' := [(0, .ref t)]) (st' := [.int 0]) [(22, .iconst 0)] (by decide +kernel) rfl ?_
    refine zr_retB (by decide +kernel) rfl (by decide) ?_
    rw [← hPost]; exact ⟨rfl, _, rfl, rfl, _, rfl, (by decide), (by
          first | exact fun e => absurd e (by decide) | exact fun _ => cc5)⟩
  ·
    replace cc5 := Classical.not_not.mp cc5
    have k4 := zrng (gt 0)
    have f6 := zeqI cc5
    rw [show (1 : Int32).toInt = 1 from by decide] at f6
    refine zp_seg (pc' := 9) (lv' := [(0, .ref t)]) (st' := [.ref t]) [(8, .aload_n 0)] (by decide +kernel) rfl ?_
    refine zr_get (idx := 210) (k := 2) (v := .ref (t + 2)) (by decide +kernel) (by decide +kernel) hT_t rfl ?_
    refine zr_callS (idx := 265) (j := 307) (by decide +kernel) (by decide +kernel) (by decide) (show zMe 307 = some zq_X16_isOne from rfl) rfl rfl (Nat.le_of_ble_eq_true rfl) rfl rfl (Nat.le_of_ble_eq_true rfl) (Nat.le_of_ble_eq_true rfl) (c_X16_isOne (w := w) (t + 2) hA_t_2) (by omega) (fun v12 w12 hp12 => ?_)
    obtain ⟨hpw12, r12, rfl, hrb12, hr12⟩ := hp12
    replace hpw12 := hpw12.symm
    subst hpw12
    have kr12 := zrng r12
    show zP _ _ _ _ [.int r12] _ _ _ _ _
    refine zp_if (i := .ifCond .eq 7) (c := r12 = 0) (t := 22) (e := 18) (lv' := [(0, .ref t)]) (st' := []) (by decide +kernel) rfl (fun cc15 => ?_) (fun cc15 => ?_)
    ·
      have f8 := zeqI cc15
      rw [show (0 : Int32).toInt = 0 from by decide] at f8
      refine zp_seg (pc' := 23) (lv' := [(0, .ref t)]) (st' := [.int 0]) [(22, .iconst 0)] (by decide +kernel) rfl ?_
      refine zr_retB (by decide +kernel) rfl (by decide) ?_
      rw [← hPost]; exact ⟨rfl, _, rfl, rfl, _, rfl, (by decide), (by
            first | exact fun e => absurd e (by decide) | exact fun _ => cc5)⟩
    ·
      have f10 := zneI cc15
      rw [show (0 : Int32).toInt = 0 from by decide] at f10
      refine zp_seg (pc' := 23) (lv' := [(0, .ref t)]) (st' := [.int 1]) [(18, .iconst 1), (19, .goto 4)] (by decide +kernel) rfl ?_
      refine zr_retB (by decide +kernel) rfl (by decide) ?_
      rw [← hPost]; exact ⟨rfl, _, rfl, rfl, _, rfl, (by decide), (by
            first | exact fun e => absurd e (by decide) | exact fun _ => cc5)⟩

set_option maxHeartbeats 8000000 in
set_option maxRecDepth 100000 in
theorem c_X16_place {w : zM} {g : Nat → Int32} {r : Nat → Value}  (m : Nat) (hm : w m = some (.inl (15, zMo m g r))) (hR_m : zR m w) : zCon 1 zq_X16_place [.ref m] w (fun v9 w9' => w9' = w ∧ ∃ r9 : Int32, v9 = some (.int r9) ∧ True) := by
  intro d sz hd
  obtain ⟨d, rfl⟩ : ∃ d9, d = d9 + 1 := ⟨d - 1, by omega⟩
  generalize hPost : (fun (r9' : Option (Option Value)) (w9' : zM) (z9 : Nat) => z9 = sz ∧ ∃ v9, r9' = some v9 ∧ (w9' = w ∧ ∃ r9 : Int32, v9 = some (.int r9) ∧ True)) = Post
  show zP (d + 1) zq_X16_place 0 [(0, .ref m)] [] w sz 0 0 Post
  refine zp_seg (pc' := 1) (lv' := [(0, .ref m)]) (st' := [.ref m]) [(0, .aload_n 0)] (by decide +kernel) rfl ?_
  refine zr_get (idx := 456) (k := 22) (v := .int (g 22)) (by decide +kernel) (by decide +kernel) hm rfl ?_
  have k1 := zrng (g 22)
  refine zr_retI (by decide +kernel) rfl ?_
  rw [← hPost]; exact ⟨rfl, _, rfl, rfl, _, rfl, trivial⟩

set_option maxHeartbeats 8000000 in
set_option maxRecDepth 100000 in
theorem c_X16_written {w : zM} {g : Nat → Int32} {r : Nat → Value}  {g24 : Int32} (m : Nat) (i : Int32) (hm : w m = some (.inl (15, zMo m g r))) (hR_m : zR m w) (hos : g24.toInt ≤ 4000) (hg24 : g 24 = g24) : zCon 1 zq_X16_written [.ref m, .int i] w (fun v9 w9' => w9' = w ∧ ∃ r9 : Int32, v9 = some (.int r9) ∧ True) := by
  subst hg24
  intro d sz hd
  obtain ⟨d, rfl⟩ : ∃ d9, d = d9 + 1 := ⟨d - 1, by omega⟩
  generalize hPost : (fun (r9' : Option (Option Value)) (w9' : zM) (z9 : Nat) => z9 = sz ∧ ∃ v9, r9' = some v9 ∧ (w9' = w ∧ ∃ r9 : Int32, v9 = some (.int r9) ∧ True)) = Post
  show zP (d + 1) zq_X16_written 0 [(0, .ref m), (1, .int i)] [] w sz 0 0 Post
  have k1 := zrng i
  refine zp_seg (pc' := 1) (lv' := [(0, .ref m), (1, .int i)]) (st' := [.int i]) [(0, .iload_n 1)] (by decide +kernel) rfl ?_
  refine zp_if (i := .ifCond .lt 24) (c := i < 0) (t := 25) (e := 4) (lv' := [(0, .ref m), (1, .int i)]) (st' := []) (by decide +kernel) rfl (fun cc1 => ?_) (fun cc1 => ?_)
  ·
    have f3 := zltI cc1
    rw [show (0 : Int32).toInt = 0 from by decide] at f3
    refine zp_seg (pc' := 26) (lv' := [(0, .ref m), (1, .int i)]) (st' := [.int (Int32.ofInt (-1))]) [(25, .iconst (-1))] (by decide +kernel) rfl ?_
    refine zr_retI (by decide +kernel) rfl ?_
    rw [← hPost]; exact ⟨rfl, _, rfl, rfl, _, rfl, trivial⟩
  ·
    have f6 := znltI cc1
    rw [show (0 : Int32).toInt = 0 from by decide] at f6
    refine zp_seg (pc' := 6) (lv' := [(0, .ref m), (1, .int i)]) (st' := [.ref m, .int i]) [(4, .iload_n 1), (5, .aload_n 0)] (by decide +kernel) rfl ?_
    refine zr_get (idx := 597) (k := 24) (v := .int (g 24)) (by decide +kernel) (by decide +kernel) hm rfl ?_
    refine zp_if (i := .if_icmp .ge 16) (c := (g 24) ≤ i) (t := 25) (e := 12) (lv' := [(0, .ref m), (1, .int i)]) (st' := []) (by decide +kernel) rfl (fun cc9 => ?_) (fun cc9 => ?_)
    ·
      have k7 := zrng (g 24)
      have f8 := zleI cc9
      refine zp_seg (pc' := 26) (lv' := [(0, .ref m), (1, .int i)]) (st' := [.int (Int32.ofInt (-1))]) [(25, .iconst (-1))] (by decide +kernel) rfl ?_
      refine zr_retI (by decide +kernel) rfl ?_
      rw [← hPost]; exact ⟨rfl, _, rfl, rfl, _, rfl, trivial⟩
    ·
      have k10 := zrng (g 24)
      have f11 := znleI cc9
      refine zp_seg (pc' := 13) (lv' := [(0, .ref m), (1, .int i)]) (st' := [.ref m]) [(12, .aload_n 0)] (by decide +kernel) rfl ?_
      refine zr_get (idx := 459) (k := 23) (v := .ref (m + 92)) (by decide +kernel) (by decide +kernel) hm rfl ?_
      refine zp_seg (pc' := 17) (lv' := [(0, .ref m), (1, .int i)]) (st' := [.int i, .ref (m + 92)]) [(16, .iload_n 1)] (by decide +kernel) rfl ?_
      obtain ⟨f12, hb13⟩ := hR_m.ia_92
      refine zr_bald (by decide +kernel) hb13 (by decide) (zin (by first | omega | decide) (by first | omega | decide)) ?_
      have hz14 : (i.toNatClampNeg : Int) = i.toInt := znat (by first | omega | decide)
      obtain ⟨x17, ex17⟩ : ∃ x9, x9 = f12 (i.toNatClampNeg) := ⟨_, rfl⟩
      rw [← ex17]
      have kx17 := zrng x17
      refine zp_seg (pc' := 26) (lv' := [(0, .ref m), (1, .int i)]) (st' := [.int (x17 &&& 255)]) [(18, .sipush 255), (21, .iand), (22, .goto 4)] (by decide +kernel) rfl ?_
      generalize ev26 : (x17 &&& 255 : Int32) = v26
      have kv26 := zrng v26
      refine zr_retI (by decide +kernel) rfl ?_
      rw [← hPost]; exact ⟨rfl, _, rfl, rfl, _, rfl, trivial⟩

set_option maxHeartbeats 8000000 in
set_option maxRecDepth 100000 in
theorem c_X16_root {w : zM} {g : Nat → Int32} {r : Nat → Value}  {g31 : Int32} (m : Nat) (i : Int32) (hm : w m = some (.inl (15, zMo m g r))) (hR_m : zR m w) (hrc : g31.toInt ≤ 30) (hg31 : g 31 = g31) : zCon 1 zq_X16_root [.ref m, .int i] w (fun v9 w9' => w9' = w ∧ ∃ r9 : Int32, v9 = some (.int r9) ∧ True) := by
  subst hg31
  intro d sz hd
  obtain ⟨d, rfl⟩ : ∃ d9, d = d9 + 1 := ⟨d - 1, by omega⟩
  generalize hPost : (fun (r9' : Option (Option Value)) (w9' : zM) (z9 : Nat) => z9 = sz ∧ ∃ v9, r9' = some v9 ∧ (w9' = w ∧ ∃ r9 : Int32, v9 = some (.int r9) ∧ True)) = Post
  show zP (d + 1) zq_X16_root 0 [(0, .ref m), (1, .int i)] [] w sz 0 0 Post
  have k1 := zrng i
  refine zp_seg (pc' := 1) (lv' := [(0, .ref m), (1, .int i)]) (st' := [.int i]) [(0, .iload_n 1)] (by decide +kernel) rfl ?_
  refine zp_if (i := .ifCond .lt 20) (c := i < 0) (t := 21) (e := 4) (lv' := [(0, .ref m), (1, .int i)]) (st' := []) (by decide +kernel) rfl (fun cc1 => ?_) (fun cc1 => ?_)
  ·
    have f3 := zltI cc1
    rw [show (0 : Int32).toInt = 0 from by decide] at f3
    refine zp_seg (pc' := 22) (lv' := [(0, .ref m), (1, .int i)]) (st' := [.int (Int32.ofInt (-1))]) [(21, .iconst (-1))] (by decide +kernel) rfl ?_
    refine zr_retI (by decide +kernel) rfl ?_
    rw [← hPost]; exact ⟨rfl, _, rfl, rfl, _, rfl, trivial⟩
  ·
    have f6 := znltI cc1
    rw [show (0 : Int32).toInt = 0 from by decide] at f6
    refine zp_seg (pc' := 6) (lv' := [(0, .ref m), (1, .int i)]) (st' := [.ref m, .int i]) [(4, .iload_n 1), (5, .aload_n 0)] (by decide +kernel) rfl ?_
    refine zr_get (idx := 610) (k := 31) (v := .int (g 31)) (by decide +kernel) (by decide +kernel) hm rfl ?_
    refine zp_if (i := .if_icmp .ge 12) (c := (g 31) ≤ i) (t := 21) (e := 12) (lv' := [(0, .ref m), (1, .int i)]) (st' := []) (by decide +kernel) rfl (fun cc9 => ?_) (fun cc9 => ?_)
    ·
      have k7 := zrng (g 31)
      have f8 := zleI cc9
      refine zp_seg (pc' := 22) (lv' := [(0, .ref m), (1, .int i)]) (st' := [.int (Int32.ofInt (-1))]) [(21, .iconst (-1))] (by decide +kernel) rfl ?_
      refine zr_retI (by decide +kernel) rfl ?_
      rw [← hPost]; exact ⟨rfl, _, rfl, rfl, _, rfl, trivial⟩
    ·
      have k10 := zrng (g 31)
      have f11 := znleI cc9
      refine zp_seg (pc' := 13) (lv' := [(0, .ref m), (1, .int i)]) (st' := [.ref m]) [(12, .aload_n 0)] (by decide +kernel) rfl ?_
      refine zr_get (idx := 468) (k := 30) (v := .ref (m + 95)) (by decide +kernel) (by decide +kernel) hm rfl ?_
      refine zp_seg (pc' := 17) (lv' := [(0, .ref m), (1, .int i)]) (st' := [.int i, .ref (m + 95)]) [(16, .iload_n 1)] (by decide +kernel) rfl ?_
      obtain ⟨f12, hb13⟩ := hR_m.ia_95
      refine zr_iald (by decide +kernel) hb13 (zin (by first | omega | decide) (by first | omega | decide)) ?_
      have hz14 : (i.toNatClampNeg : Int) = i.toInt := znat (by first | omega | decide)
      obtain ⟨x17, ex17⟩ : ∃ x9, x9 = f12 (i.toNatClampNeg) := ⟨_, rfl⟩
      rw [← ex17]
      have kx17 := zrng x17
      refine zp_seg (pc' := 22) (lv' := [(0, .ref m), (1, .int i)]) (st' := [.int x17]) [(18, .goto 4)] (by decide +kernel) rfl ?_
      refine zr_retI (by decide +kernel) rfl ?_
      rw [← hPost]; exact ⟨rfl, _, rfl, rfl, _, rfl, trivial⟩

set_option maxHeartbeats 8000000 in
set_option maxRecDepth 100000 in
theorem c_X16_at {w : zM} {g : Nat → Int32} {r : Nat → Value}  (m : Nat) (s9 : Int32) (i : Int32) (hm : w m = some (.inl (15, zMo m g r))) (hR_m : zR m w) (hsl : ∀ i, i < 12 → ∃ k, zTi w (m + 7486 + 9 * i) k) : zCon 2 zq_X16_at [.ref m, .int s9, .int i] w (fun v9 w9' => w9' = w ∧ ∃ r9 : Int32, v9 = some (.int r9) ∧ True) := by
  intro d sz hd
  obtain ⟨d, rfl⟩ : ∃ d9, d = d9 + 1 := ⟨d - 1, by omega⟩
  generalize hPost : (fun (r9' : Option (Option Value)) (w9' : zM) (z9 : Nat) => z9 = sz ∧ ∃ v9, r9' = some v9 ∧ (w9' = w ∧ ∃ r9 : Int32, v9 = some (.int r9) ∧ True)) = Post
  show zP (d + 1) zq_X16_at 0 [(0, .ref m), (1, .int s9), (2, .int i)] [] w sz 0 0 Post
  have k1 := zrng s9
  have k2 := zrng i
  refine zp_seg (pc' := 1) (lv' := [(0, .ref m), (1, .int s9), (2, .int i)]) (st' := [.int s9]) [(0, .iload_n 1)] (by decide +kernel) rfl ?_
  refine zr_callS (idx := 551) (j := 336) (by decide +kernel) (by decide +kernel) (by decide) (show zMe 336 = some zq_X16_isSlot from rfl) rfl rfl (Nat.le_of_ble_eq_true rfl) rfl rfl (Nat.le_of_ble_eq_true rfl) (Nat.le_of_ble_eq_true rfl) (c_X16_isSlot (w := w) s9 ) (by omega) (fun v1 w1 hp1 => ?_)
  obtain ⟨hpw1, r1, rfl, hrb1, hr1⟩ := hp1
  replace hpw1 := hpw1.symm
  subst hpw1
  have kr1 := zrng r1
  show zP _ _ _ _ [.int r1] _ _ _ _ _
  refine zp_if (i := .ifCond .ne 5) (c := ¬ r1 = 0) (t := 9) (e := 7) (lv' := [(0, .ref m), (1, .int s9), (2, .int i)]) (st' := []) (by decide +kernel) rfl (fun cc4 => ?_) (fun cc4 => ?_)
  ·
    have f4 := zneI cc4
    rw [show (0 : Int32).toInt = 0 from by decide] at f4
    have his9 := hr1 (hrb1.resolve_left cc4)
    refine zp_seg (pc' := 10) (lv' := [(0, .ref m), (1, .int s9), (2, .int i)]) (st' := [.ref m]) [(9, .aload_n 0)] (by decide +kernel) rfl ?_
    refine zr_get (idx := 450) (k := 20) (v := .ref (m + 82)) (by decide +kernel) (by decide +kernel) hm rfl ?_
    refine zp_seg (pc' := 14) (lv' := [(0, .ref m), (1, .int s9), (2, .int i)]) (st' := [.int s9, .ref (m + 82)]) [(13, .iload_n 1)] (by decide +kernel) rfl ?_
    have hb6 := hR_m.slots
    have hz7 : (s9.toNatClampNeg : Int) = s9.toInt := znat (by first | omega | decide)
    refine zr_aald (v := .ref (m + 7486 + 9 * s9.toNatClampNeg)) (by decide +kernel) hb6 (by decide) (zin (by first | omega | decide) (by first | omega | decide)) (zsl_at (by omega)) ?_
    obtain ⟨kS1, hkS1⟩ := hsl s9.toNatClampNeg (by omega)
    obtain ⟨g1, fn1, fd1, fa1, fb1, fc1, fe1, fr1, fu1, hT1, hAn1, hAd1, hAa1, hAb1, hAc1, hAe1, hAr1, hAu1, hK1⟩ := id hkS1
    obtain ⟨hK10, hKn1, hKd1, hKx1, hKm1, hKl1, hKr1, hKu1, hKk1⟩ := id hK1
    refine zp_seg (pc' := 17) (lv' := [(3, .ref (m + 7486 + 9 * s9.toNatClampNeg)), (0, .ref m), (1, .int s9), (2, .int i)]) (st' := [.ref (m + 7486 + 9 * s9.toNatClampNeg)]) [(15, .astore_n 3), (16, .aload_n 3)] (by decide +kernel) rfl ?_
    refine zr_get (idx := 202) (k := 0) (v := .int (g1 0)) (by decide +kernel) (by decide +kernel) hT1 rfl ?_
    refine zp_seg (pc' := 21) (lv' := [(3, .ref (m + 7486 + 9 * s9.toNatClampNeg)), (0, .ref m), (1, .int s9), (2, .int i)]) (st' := [.int 4, .int (g1 0)]) [(20, .iconst 4)] (by decide +kernel) rfl ?_
    refine zp_if (i := .if_icmp .eq 6) (c := (g1 0) = 4) (t := 27) (e := 24) (lv' := [(3, .ref (m + 7486 + 9 * s9.toNatClampNeg)), (0, .ref m), (1, .int s9), (2, .int i)]) (st' := []) (by decide +kernel) rfl (fun cc21 => ?_) (fun cc21 => ?_)
    ·
      have k8 := zrng (g1 0)
      have f10 := zeqI cc21
      rw [show (4 : Int32).toInt = 4 from by decide] at f10
      refine zp_seg (pc' := 28) (lv' := [(3, .ref (m + 7486 + 9 * s9.toNatClampNeg)), (0, .ref m), (1, .int s9), (2, .int i)]) (st' := [.int i]) [(27, .iload_n 2)] (by decide +kernel) rfl ?_
      refine zp_if (i := .ifCond .lt 21) (c := i < 0) (t := 49) (e := 31) (lv' := [(3, .ref (m + 7486 + 9 * s9.toNatClampNeg)), (0, .ref m), (1, .int s9), (2, .int i)]) (st' := []) (by decide +kernel) rfl (fun cc28 => ?_) (fun cc28 => ?_)
      ·
        have f11 := zltI cc28
        rw [show (0 : Int32).toInt = 0 from by decide] at f11
        refine zp_seg (pc' := 59) (lv' := [(3, .ref (m + 7486 + 9 * s9.toNatClampNeg)), (0, .ref m), (1, .int s9), (2, .int i)]) (st' := [.int (Int32.ofInt (-1))]) [(49, .iconst (-1)), (50, .goto 9)] (by decide +kernel) rfl ?_
        refine zr_retI (by decide +kernel) rfl ?_
        rw [← hPost]; exact ⟨rfl, _, rfl, rfl, _, rfl, trivial⟩
      ·
        have f13 := znltI cc28
        rw [show (0 : Int32).toInt = 0 from by decide] at f13
        refine zp_seg (pc' := 35) (lv' := [(3, .ref (m + 7486 + 9 * s9.toNatClampNeg)), (0, .ref m), (1, .int s9), (2, .int i)]) (st' := [.int 300, .int i]) [(31, .iload_n 2), (32, .sipush 300)] (by decide +kernel) rfl ?_
        refine zp_if (i := .if_icmp .gt 14) (c := 300 < i) (t := 49) (e := 38) (lv' := [(3, .ref (m + 7486 + 9 * s9.toNatClampNeg)), (0, .ref m), (1, .int s9), (2, .int i)]) (st' := []) (by decide +kernel) rfl (fun cc35 => ?_) (fun cc35 => ?_)
        ·
          have f15 := zltI cc35
          rw [show (300 : Int32).toInt = 300 from by decide] at f15
          refine zp_seg (pc' := 59) (lv' := [(3, .ref (m + 7486 + 9 * s9.toNatClampNeg)), (0, .ref m), (1, .int s9), (2, .int i)]) (st' := [.int (Int32.ofInt (-1))]) [(49, .iconst (-1)), (50, .goto 9)] (by decide +kernel) rfl ?_
          refine zr_retI (by decide +kernel) rfl ?_
          rw [← hPost]; exact ⟨rfl, _, rfl, rfl, _, rfl, trivial⟩
        ·
          have f18 := znltI cc35
          rw [show (300 : Int32).toInt = 300 from by decide] at f18
          refine zp_seg (pc' := 39) (lv' := [(3, .ref (m + 7486 + 9 * s9.toNatClampNeg)), (0, .ref m), (1, .int s9), (2, .int i)]) (st' := [.ref (m + 7486 + 9 * s9.toNatClampNeg)]) [(38, .aload_n 3)] (by decide +kernel) rfl ?_
          refine zr_get (idx := 243) (k := 13) (v := .int (g1 13)) (by decide +kernel) (by decide +kernel) hT1 rfl ?_
          refine zp_seg (pc' := 43) (lv' := [(3, .ref (m + 7486 + 9 * s9.toNatClampNeg)), (0, .ref m), (1, .int s9), (2, .int i)]) (st' := [.ref (m + 7486 + 9 * s9.toNatClampNeg), .int (g1 13)]) [(42, .aload_n 3)] (by decide +kernel) rfl ?_
          refine zr_get (idx := 240) (k := 12) (v := .int (g1 12)) (by decide +kernel) (by decide +kernel) hT1 rfl ?_
          refine zp_if (i := .if_icmp .ge 7) (c := (g1 12) ≤ (g1 13)) (t := 53) (e := 49) (lv' := [(3, .ref (m + 7486 + 9 * s9.toNatClampNeg)), (0, .ref m), (1, .int s9), (2, .int i)]) (st' := []) (by decide +kernel) rfl (fun cc46 => ?_) (fun cc46 => ?_)
          ·
            have k19 := zrng (g1 12)
            have k20 := zrng (g1 13)
            have f21 := zleI cc46
            refine zp_seg (pc' := 54) (lv' := [(3, .ref (m + 7486 + 9 * s9.toNatClampNeg)), (0, .ref m), (1, .int s9), (2, .int i)]) (st' := [.ref (m + 7486 + 9 * s9.toNatClampNeg)]) [(53, .aload_n 3)] (by decide +kernel) rfl ?_
            refine zr_get (idx := 246) (k := 14) (v := .ref (m + 7486 + 9 * s9.toNatClampNeg + 8)) (by decide +kernel) (by decide +kernel) hT1 rfl ?_
            refine zp_seg (pc' := 58) (lv' := [(3, .ref (m + 7486 + 9 * s9.toNatClampNeg)), (0, .ref m), (1, .int s9), (2, .int i)]) (st' := [.int i, .ref (m + 7486 + 9 * s9.toNatClampNeg + 8)]) [(57, .iload_n 2)] (by decide +kernel) rfl ?_
            refine zr_iald (by decide +kernel) hAu1 (zin (by first | omega | decide) (by first | omega | decide)) ?_
            have hz22 : (i.toNatClampNeg : Int) = i.toInt := znat (by first | omega | decide)
            obtain ⟨x58, ex58⟩ : ∃ x9, x9 = fu1 (i.toNatClampNeg) := ⟨_, rfl⟩
            rw [← ex58]
            have kx58 := zrng x58
            refine zr_retI (by decide +kernel) rfl ?_
            rw [← hPost]; exact ⟨rfl, _, rfl, rfl, _, rfl, trivial⟩
          ·
            have k23 := zrng (g1 12)
            have k24 := zrng (g1 13)
            have f25 := znleI cc46
            refine zp_seg (pc' := 59) (lv' := [(3, .ref (m + 7486 + 9 * s9.toNatClampNeg)), (0, .ref m), (1, .int s9), (2, .int i)]) (st' := [.int (Int32.ofInt (-1))]) [(49, .iconst (-1)), (50, .goto 9)] (by decide +kernel) rfl ?_
            refine zr_retI (by decide +kernel) rfl ?_
            rw [← hPost]; exact ⟨rfl, _, rfl, rfl, _, rfl, trivial⟩
    ·
      have k27 := zrng (g1 0)
      have f29 := zneI cc21
      rw [show (4 : Int32).toInt = 4 from by decide] at f29
      refine zp_seg (pc' := 26) (lv' := [(3, .ref (m + 7486 + 9 * s9.toNatClampNeg)), (0, .ref m), (1, .int s9), (2, .int i)]) (st' := [.int (Int32.ofInt (-3))]) [(24, .bipush (-3))] (by decide +kernel) rfl ?_
      refine zr_retI (by decide +kernel) rfl ?_
      rw [← hPost]; exact ⟨rfl, _, rfl, rfl, _, rfl, trivial⟩
  ·
    replace cc4 := Classical.not_not.mp cc4
    have f32 := zeqI cc4
    rw [show (0 : Int32).toInt = 0 from by decide] at f32
    refine zp_seg (pc' := 8) (lv' := [(0, .ref m), (1, .int s9), (2, .int i)]) (st' := [.int (Int32.ofInt (-1))]) [(7, .iconst (-1))] (by decide +kernel) rfl ?_
    refine zr_retI (by decide +kernel) rfl ?_
    rw [← hPost]; exact ⟨rfl, _, rfl, rfl, _, rfl, trivial⟩
