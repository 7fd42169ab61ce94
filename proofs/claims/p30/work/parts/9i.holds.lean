set_option maxHeartbeats 8000000 in
set_option maxRecDepth 100000 in
theorem c_X16_holds {w : zM} {g : Nat → Int32} {r : Nat → Value}  (m : Nat) (s9 : Int32) (s8 : Int32) (n : Int32) (low : Int32) (high : Int32) (hm : w m = some (.inl (15, zMo m g r))) (hR_m : zR m w) (hsl : ∀ i, i < 12 → ∃ k, zTi w (m + 7486 + 9 * i) k) : zCon 6 zq_X16_holds [.ref m, .int s9, .int s8, .int n, .int low, .int high] w (fun v9 w9' => w9' = w ∧ ∃ r9 : Int32, v9 = some (.int r9) ∧ True) := by
  intro d sz hd
  obtain ⟨d, rfl⟩ : ∃ d9, d = d9 + 1 := ⟨d - 1, by omega⟩
  generalize hPost : (fun (r9' : Option (Option Value)) (w9' : zM) (z9 : Nat) => z9 = sz ∧ ∃ v9, r9' = some v9 ∧ (w9' = w ∧ ∃ r9 : Int32, v9 = some (.int r9) ∧ True)) = Post
  show zP (d + 1) zq_X16_holds 0 [(0, .ref m), (1, .int s9), (2, .int s8), (3, .int n), (4, .int low), (5, .int high)] [] w sz 0 0 Post
  have k1 := zrng s9
  have k2 := zrng s8
  have k3 := zrng n
  have k4 := zrng low
  have k5 := zrng high
  refine zp_seg (pc' := 1) (lv' := [(0, .ref m), (1, .int s9), (2, .int s8), (3, .int n), (4, .int low), (5, .int high)]) (st' := [.int s9]) [(0, .iload_n 1)] (by decide +kernel) rfl ?_
  refine zr_callS (idx := 551) (j := 336) (by decide +kernel) (by decide +kernel) (by decide) (show zMe 336 = some zq_X16_isSlot from rfl) rfl rfl (Nat.le_of_ble_eq_true rfl) rfl rfl (Nat.le_of_ble_eq_true rfl) (Nat.le_of_ble_eq_true rfl) (c_X16_isSlot (w := w) s9 ) (by omega) (fun v1 w1 hp1 => ?_)
  obtain ⟨hpw1, r1, rfl, hrb1, hr1⟩ := hp1
  replace hpw1 := hpw1.symm
  subst hpw1
  have kr1 := zrng r1
  show zP _ _ _ _ [.int r1] _ _ _ _ _
  refine zp_if (i := .ifCond .eq 10) (c := r1 = 0) (t := 14) (e := 7) (lv' := [(0, .ref m), (1, .int s9), (2, .int s8), (3, .int n), (4, .int low), (5, .int high)]) (st' := []) (by decide +kernel) rfl (fun cc4 => ?_) (fun cc4 => ?_)
  ·
    have f7 := zeqI cc4
    rw [show (0 : Int32).toInt = 0 from by decide] at f7
    refine zp_seg (pc' := 15) (lv' := [(0, .ref m), (1, .int s9), (2, .int s8), (3, .int n), (4, .int low), (5, .int high)]) (st' := [.int (Int32.ofInt (-1))]) [(14, .iconst (-1))] (by decide +kernel) rfl ?_
    refine zr_retI (by decide +kernel) rfl ?_
    rw [← hPost]; exact ⟨rfl, _, rfl, rfl, _, rfl, trivial⟩
  ·
    have f10 := zneI cc4
    rw [show (0 : Int32).toInt = 0 from by decide] at f10
    refine zp_seg (pc' := 8) (lv' := [(0, .ref m), (1, .int s9), (2, .int s8), (3, .int n), (4, .int low), (5, .int high)]) (st' := [.int s8]) [(7, .iload_n 2)] (by decide +kernel) rfl ?_
    refine zr_callS (idx := 551) (j := 336) (by decide +kernel) (by decide +kernel) (by decide) (show zMe 336 = some zq_X16_isSlot from rfl) rfl rfl (Nat.le_of_ble_eq_true rfl) rfl rfl (Nat.le_of_ble_eq_true rfl) (Nat.le_of_ble_eq_true rfl) (c_X16_isSlot (w := w) s8 ) (by omega) (fun v8 w8 hp8 => ?_)
    obtain ⟨hpw8, r8, rfl, hrb8, hr8⟩ := hp8
    replace hpw8 := hpw8.symm
    subst hpw8
    have kr8 := zrng r8
    show zP _ _ _ _ [.int r8] _ _ _ _ _
    refine zp_if (i := .ifCond .ne 5) (c := ¬ r8 = 0) (t := 16) (e := 14) (lv' := [(0, .ref m), (1, .int s9), (2, .int s8), (3, .int n), (4, .int low), (5, .int high)]) (st' := []) (by decide +kernel) rfl (fun cc11 => ?_) (fun cc11 => ?_)
    ·
      have f11 := zneI cc11
      rw [show (0 : Int32).toInt = 0 from by decide] at f11
      have his1 := hr1 (hrb1.resolve_left cc4)
      have his2 := hr8 (hrb8.resolve_left cc11)
      refine zp_seg (pc' := 17) (lv' := [(0, .ref m), (1, .int s9), (2, .int s8), (3, .int n), (4, .int low), (5, .int high)]) (st' := [.ref m]) [(16, .aload_n 0)] (by decide +kernel) rfl ?_
      refine zr_get (idx := 450) (k := 20) (v := .ref (m + 82)) (by decide +kernel) (by decide +kernel) hm rfl ?_
      refine zp_seg (pc' := 21) (lv' := [(0, .ref m), (1, .int s9), (2, .int s8), (3, .int n), (4, .int low), (5, .int high)]) (st' := [.int s9, .ref (m + 82)]) [(20, .iload_n 1)] (by decide +kernel) rfl ?_
      have hb13 := hR_m.slots
      have hz14 : (s9.toNatClampNeg : Int) = s9.toInt := znat (by first | omega | decide)
      refine zr_aald (v := .ref (m + 7486 + 9 * s9.toNatClampNeg)) (by decide +kernel) hb13 (by decide) (zin (by first | omega | decide) (by first | omega | decide)) (zsl_at (by omega)) ?_
      obtain ⟨kS1, hkS1⟩ := hsl s9.toNatClampNeg (by omega)
      obtain ⟨g1, fn1, fd1, fa1, fb1, fc1, fe1, fr1, fu1, hT1, hAn1, hAd1, hAa1, hAb1, hAc1, hAe1, hAr1, hAu1, hK1⟩ := id hkS1
      obtain ⟨hK10, hKn1, hKd1, hKx1, hKm1, hKl1, hKr1, hKu1, hKk1⟩ := id hK1
      refine zp_seg (pc' := 25) (lv' := [(6, .ref (m + 7486 + 9 * s9.toNatClampNeg)), (0, .ref m), (1, .int s9), (2, .int s8), (3, .int n), (4, .int low), (5, .int high)]) (st' := [.ref m]) [(22, .astore 6), (24, .aload_n 0)] (by decide +kernel) rfl ?_
      refine zr_get (idx := 450) (k := 20) (v := .ref (m + 82)) (by decide +kernel) (by decide +kernel) hm rfl ?_
      refine zp_seg (pc' := 29) (lv' := [(6, .ref (m + 7486 + 9 * s9.toNatClampNeg)), (0, .ref m), (1, .int s9), (2, .int s8), (3, .int n), (4, .int low), (5, .int high)]) (st' := [.int s8, .ref (m + 82)]) [(28, .iload_n 2)] (by decide +kernel) rfl ?_
      have hz15 : (s8.toNatClampNeg : Int) = s8.toInt := znat (by first | omega | decide)
      refine zr_aald (v := .ref (m + 7486 + 9 * s8.toNatClampNeg)) (by decide +kernel) hb13 (by decide) (zin (by first | omega | decide) (by first | omega | decide)) (zsl_at (by omega)) ?_
      obtain ⟨kS2, hkS2⟩ := hsl s8.toNatClampNeg (by omega)
      obtain ⟨g2, fn2, fd2, fa2, fb2, fc2, fe2, fr2, fu2, hT2, hAn2, hAd2, hAa2, hAb2, hAc2, hAe2, hAr2, hAu2, hK2⟩ := id hkS2
      obtain ⟨hK20, hKn2, hKd2, hKx2, hKm2, hKl2, hKr2, hKu2, hKk2⟩ := id hK2
      refine zp_seg (pc' := 34) (lv' := [(7, .ref (m + 7486 + 9 * s8.toNatClampNeg)), (6, .ref (m + 7486 + 9 * s9.toNatClampNeg)), (0, .ref m), (1, .int s9), (2, .int s8), (3, .int n), (4, .int low), (5, .int high)]) (st' := [.ref (m + 7486 + 9 * s9.toNatClampNeg)]) [(30, .astore 7), (32, .aload 6)] (by decide +kernel) rfl ?_
      refine zr_get (idx := 202) (k := 0) (v := .int (g1 0)) (by decide +kernel) (by decide +kernel) hT1 rfl ?_
      refine zp_seg (pc' := 38) (lv' := [(7, .ref (m + 7486 + 9 * s8.toNatClampNeg)), (6, .ref (m + 7486 + 9 * s9.toNatClampNeg)), (0, .ref m), (1, .int s9), (2, .int s8), (3, .int n), (4, .int low), (5, .int high)]) (st' := [.int 3, .int (g1 0)]) [(37, .iconst 3)] (by decide +kernel) rfl ?_
      refine zp_if (i := .if_icmp .ne 21) (c := ¬ (g1 0) = 3) (t := 59) (e := 41) (lv' := [(7, .ref (m + 7486 + 9 * s8.toNatClampNeg)), (6, .ref (m + 7486 + 9 * s9.toNatClampNeg)), (0, .ref m), (1, .int s9), (2, .int s8), (3, .int n), (4, .int low), (5, .int high)]) (st' := []) (by decide +kernel) rfl (fun cc38 => ?_) (fun cc38 => ?_)
      ·
        have k16 := zrng (g1 0)
        have f18 := zneI cc38
        rw [show (3 : Int32).toInt = 3 from by decide] at f18
        refine zp_seg (pc' := 61) (lv' := [(7, .ref (m + 7486 + 9 * s8.toNatClampNeg)), (6, .ref (m + 7486 + 9 * s9.toNatClampNeg)), (0, .ref m), (1, .int s9), (2, .int s8), (3, .int n), (4, .int low), (5, .int high)]) (st' := [.int (Int32.ofInt (-3))]) [(59, .bipush (-3))] (by decide +kernel) rfl ?_
        refine zr_retI (by decide +kernel) rfl ?_
        rw [← hPost]; exact ⟨rfl, _, rfl, rfl, _, rfl, trivial⟩
      ·
        replace cc38 := Classical.not_not.mp cc38
        have k20 := zrng (g1 0)
        have f22 := zeqI cc38
        rw [show (3 : Int32).toInt = 3 from by decide] at f22
        refine zp_seg (pc' := 43) (lv' := [(7, .ref (m + 7486 + 9 * s8.toNatClampNeg)), (6, .ref (m + 7486 + 9 * s9.toNatClampNeg)), (0, .ref m), (1, .int s9), (2, .int s8), (3, .int n), (4, .int low), (5, .int high)]) (st' := [.ref (m + 7486 + 9 * s8.toNatClampNeg)]) [(41, .aload 7)] (by decide +kernel) rfl ?_
        refine zr_get (idx := 202) (k := 0) (v := .int (g2 0)) (by decide +kernel) (by decide +kernel) hT2 rfl ?_
        refine zp_seg (pc' := 47) (lv' := [(7, .ref (m + 7486 + 9 * s8.toNatClampNeg)), (6, .ref (m + 7486 + 9 * s9.toNatClampNeg)), (0, .ref m), (1, .int s9), (2, .int s8), (3, .int n), (4, .int low), (5, .int high)]) (st' := [.int 1, .int (g2 0)]) [(46, .iconst 1)] (by decide +kernel) rfl ?_
        refine zp_if (i := .if_icmp .eq 15) (c := (g2 0) = 1) (t := 62) (e := 50) (lv' := [(7, .ref (m + 7486 + 9 * s8.toNatClampNeg)), (6, .ref (m + 7486 + 9 * s9.toNatClampNeg)), (0, .ref m), (1, .int s9), (2, .int s8), (3, .int n), (4, .int low), (5, .int high)]) (st' := []) (by decide +kernel) rfl (fun cc47 => ?_) (fun cc47 => ?_)
        ·
          have k23 := zrng (g2 0)
          have f25 := zeqI cc47
          rw [show (1 : Int32).toInt = 1 from by decide] at f25
          have hord := hKk1.2.2.2.2.1 (hK10.symm.trans cc38)
          refine zp_seg (pc' := 63) (lv' := [(7, .ref (m + 7486 + 9 * s8.toNatClampNeg)), (6, .ref (m + 7486 + 9 * s9.toNatClampNeg)), (0, .ref m), (1, .int s9), (2, .int s8), (3, .int n), (4, .int low), (5, .int high)]) (st' := [.int n]) [(62, .iload_n 3)] (by decide +kernel) rfl ?_
          refine zr_callS (idx := 682) (j := 376) (by decide +kernel) (by decide +kernel) (by decide) (show zMe 376 = some zq_X16_isWhole from rfl) rfl rfl (Nat.le_of_ble_eq_true rfl) rfl rfl (Nat.le_of_ble_eq_true rfl) (Nat.le_of_ble_eq_true rfl) (c_X16_isWhole (w := w) n ) (by omega) (fun v63 w63 hp63 => ?_)
          obtain ⟨hpw63, r63, rfl, hrb63, hr63⟩ := hp63
          replace hpw63 := hpw63.symm
          subst hpw63
          have kr63 := zrng r63
          show zP _ _ _ _ [.int r63] _ _ _ _ _
          refine zp_if (i := .ifCond .eq 42) (c := r63 = 0) (t := 108) (e := 69) (lv' := [(7, .ref (m + 7486 + 9 * s8.toNatClampNeg)), (6, .ref (m + 7486 + 9 * s9.toNatClampNeg)), (0, .ref m), (1, .int s9), (2, .int s8), (3, .int n), (4, .int low), (5, .int high)]) (st' := []) (by decide +kernel) rfl (fun cc66 => ?_) (fun cc66 => ?_)
          ·
            have f26 := zeqI cc66
            rw [show (0 : Int32).toInt = 0 from by decide] at f26
            refine zp_seg (pc' := 109) (lv' := [(7, .ref (m + 7486 + 9 * s8.toNatClampNeg)), (6, .ref (m + 7486 + 9 * s9.toNatClampNeg)), (0, .ref m), (1, .int s9), (2, .int s8), (3, .int n), (4, .int low), (5, .int high)]) (st' := [.int (Int32.ofInt (-1))]) [(108, .iconst (-1))] (by decide +kernel) rfl ?_
            refine zr_retI (by decide +kernel) rfl ?_
            rw [← hPost]; exact ⟨rfl, _, rfl, rfl, _, rfl, trivial⟩
          ·
            have f28 := zneI cc66
            rw [show (0 : Int32).toInt = 0 from by decide] at f28
            have hw1 := hr63 (hrb63.resolve_left cc66)
            refine zp_seg (pc' := 71) (lv' := [(7, .ref (m + 7486 + 9 * s8.toNatClampNeg)), (6, .ref (m + 7486 + 9 * s9.toNatClampNeg)), (0, .ref m), (1, .int s9), (2, .int s8), (3, .int n), (4, .int low), (5, .int high)]) (st' := [.int low]) [(69, .iload 4)] (by decide +kernel) rfl ?_
            refine zr_callS (idx := 682) (j := 376) (by decide +kernel) (by decide +kernel) (by decide) (show zMe 376 = some zq_X16_isWhole from rfl) rfl rfl (Nat.le_of_ble_eq_true rfl) rfl rfl (Nat.le_of_ble_eq_true rfl) (Nat.le_of_ble_eq_true rfl) (c_X16_isWhole (w := w) low ) (by omega) (fun v71 w71 hp71 => ?_)
            obtain ⟨hpw71, r71, rfl, hrb71, hr71⟩ := hp71
            replace hpw71 := hpw71.symm
            subst hpw71
            have kr71 := zrng r71
            show zP _ _ _ _ [.int r71] _ _ _ _ _
            refine zp_if (i := .ifCond .eq 34) (c := r71 = 0) (t := 108) (e := 77) (lv' := [(7, .ref (m + 7486 + 9 * s8.toNatClampNeg)), (6, .ref (m + 7486 + 9 * s9.toNatClampNeg)), (0, .ref m), (1, .int s9), (2, .int s8), (3, .int n), (4, .int low), (5, .int high)]) (st' := []) (by decide +kernel) rfl (fun cc74 => ?_) (fun cc74 => ?_)
            ·
              have f29 := zeqI cc74
              rw [show (0 : Int32).toInt = 0 from by decide] at f29
              refine zp_seg (pc' := 109) (lv' := [(7, .ref (m + 7486 + 9 * s8.toNatClampNeg)), (6, .ref (m + 7486 + 9 * s9.toNatClampNeg)), (0, .ref m), (1, .int s9), (2, .int s8), (3, .int n), (4, .int low), (5, .int high)]) (st' := [.int (Int32.ofInt (-1))]) [(108, .iconst (-1))] (by decide +kernel) rfl ?_
              refine zr_retI (by decide +kernel) rfl ?_
              rw [← hPost]; exact ⟨rfl, _, rfl, rfl, _, rfl, trivial⟩
            ·
              have f31 := zneI cc74
              rw [show (0 : Int32).toInt = 0 from by decide] at f31
              have hw2 := hr71 (hrb71.resolve_left cc74)
              refine zp_seg (pc' := 79) (lv' := [(7, .ref (m + 7486 + 9 * s8.toNatClampNeg)), (6, .ref (m + 7486 + 9 * s9.toNatClampNeg)), (0, .ref m), (1, .int s9), (2, .int s8), (3, .int n), (4, .int low), (5, .int high)]) (st' := [.int high]) [(77, .iload 5)] (by decide +kernel) rfl ?_
              refine zr_callS (idx := 682) (j := 376) (by decide +kernel) (by decide +kernel) (by decide) (show zMe 376 = some zq_X16_isWhole from rfl) rfl rfl (Nat.le_of_ble_eq_true rfl) rfl rfl (Nat.le_of_ble_eq_true rfl) (Nat.le_of_ble_eq_true rfl) (c_X16_isWhole (w := w) high ) (by omega) (fun v79 w79 hp79 => ?_)
              obtain ⟨hpw79, r79, rfl, hrb79, hr79⟩ := hp79
              replace hpw79 := hpw79.symm
              subst hpw79
              have kr79 := zrng r79
              show zP _ _ _ _ [.int r79] _ _ _ _ _
              refine zp_if (i := .ifCond .eq 26) (c := r79 = 0) (t := 108) (e := 85) (lv' := [(7, .ref (m + 7486 + 9 * s8.toNatClampNeg)), (6, .ref (m + 7486 + 9 * s9.toNatClampNeg)), (0, .ref m), (1, .int s9), (2, .int s8), (3, .int n), (4, .int low), (5, .int high)]) (st' := []) (by decide +kernel) rfl (fun cc82 => ?_) (fun cc82 => ?_)
              ·
                have f32 := zeqI cc82
                rw [show (0 : Int32).toInt = 0 from by decide] at f32
                refine zp_seg (pc' := 109) (lv' := [(7, .ref (m + 7486 + 9 * s8.toNatClampNeg)), (6, .ref (m + 7486 + 9 * s9.toNatClampNeg)), (0, .ref m), (1, .int s9), (2, .int s8), (3, .int n), (4, .int low), (5, .int high)]) (st' := [.int (Int32.ofInt (-1))]) [(108, .iconst (-1))] (by decide +kernel) rfl ?_
                refine zr_retI (by decide +kernel) rfl ?_
                rw [← hPost]; exact ⟨rfl, _, rfl, rfl, _, rfl, trivial⟩
              ·
                have f34 := zneI cc82
                rw [show (0 : Int32).toInt = 0 from by decide] at f34
                have hw3 := hr79 (hrb79.resolve_left cc82)
                refine zp_seg (pc' := 88) (lv' := [(7, .ref (m + 7486 + 9 * s8.toNatClampNeg)), (6, .ref (m + 7486 + 9 * s9.toNatClampNeg)), (0, .ref m), (1, .int s9), (2, .int s8), (3, .int n), (4, .int low), (5, .int high)]) (st' := [.ref (m + 7486 + 9 * s9.toNatClampNeg), .int n]) [(85, .iload_n 3), (86, .aload 6)] (by decide +kernel) rfl ?_
                refine zr_get (idx := 234) (k := 10) (v := .int (g1 10)) (by decide +kernel) (by decide +kernel) hT1 rfl ?_
                refine zp_seg (pc' := 92) (lv' := [(7, .ref (m + 7486 + 9 * s8.toNatClampNeg)), (6, .ref (m + 7486 + 9 * s9.toNatClampNeg)), (0, .ref m), (1, .int s9), (2, .int s8), (3, .int n), (4, .int low), (5, .int high)]) (st' := [.int (n + (g1 10))]) [(91, .iadd)] (by decide +kernel) rfl ?_
                have k35 := zrng (g1 10)
                have k36 := zadd n ((g1 10)) (by omega) (by omega)
                generalize ev92 : (n + (g1 10) : Int32) = v92 at k36 ⊢
                have kv92 := zrng v92
                refine zp_seg (pc' := 95) (lv' := [(7, .ref (m + 7486 + 9 * s8.toNatClampNeg)), (6, .ref (m + 7486 + 9 * s9.toNatClampNeg)), (0, .ref m), (1, .int s9), (2, .int s8), (3, .int n), (4, .int low), (5, .int high)]) (st' := [.int 500, .int v92]) [(92, .sipush 500)] (by decide +kernel) rfl ?_
                refine zp_if (i := .if_icmp .gt 13) (c := 500 < v92) (t := 108) (e := 98) (lv' := [(7, .ref (m + 7486 + 9 * s8.toNatClampNeg)), (6, .ref (m + 7486 + 9 * s9.toNatClampNeg)), (0, .ref m), (1, .int s9), (2, .int s8), (3, .int n), (4, .int low), (5, .int high)]) (st' := []) (by decide +kernel) rfl (fun cc95 => ?_) (fun cc95 => ?_)
                ·
                  have f38 := zltI cc95
                  rw [show (500 : Int32).toInt = 500 from by decide] at f38
                  refine zp_seg (pc' := 109) (lv' := [(7, .ref (m + 7486 + 9 * s8.toNatClampNeg)), (6, .ref (m + 7486 + 9 * s9.toNatClampNeg)), (0, .ref m), (1, .int s9), (2, .int s8), (3, .int n), (4, .int low), (5, .int high)]) (st' := [.int (Int32.ofInt (-1))]) [(108, .iconst (-1))] (by decide +kernel) rfl ?_
                  refine zr_retI (by decide +kernel) rfl ?_
                  rw [← hPost]; exact ⟨rfl, _, rfl, rfl, _, rfl, trivial⟩
                ·
                  have f41 := znltI cc95
                  rw [show (500 : Int32).toInt = 500 from by decide] at f41
                  refine zp_seg (pc' := 102) (lv' := [(7, .ref (m + 7486 + 9 * s8.toNatClampNeg)), (6, .ref (m + 7486 + 9 * s9.toNatClampNeg)), (0, .ref m), (1, .int s9), (2, .int s8), (3, .int n), (4, .int low), (5, .int high)]) (st' := [.int (high + 1)]) [(98, .iload 5), (100, .iconst 1), (101, .iadd)] (by decide +kernel) rfl ?_
                  have k42 := zaddC high 1 (n := 1) (by decide) (by omega) (by omega)
                  generalize ev102 : (high + 1 : Int32) = v102 at k42 ⊢
                  have kv102 := zrng v102
                  refine zp_seg (pc' := 105) (lv' := [(7, .ref (m + 7486 + 9 * s8.toNatClampNeg)), (6, .ref (m + 7486 + 9 * s9.toNatClampNeg)), (0, .ref m), (1, .int s9), (2, .int s8), (3, .int n), (4, .int low), (5, .int high)]) (st' := [.int 500, .int v102]) [(102, .sipush 500)] (by decide +kernel) rfl ?_
                  refine zp_if (i := .if_icmp .le 5) (c := v102 ≤ 500) (t := 110) (e := 108) (lv' := [(7, .ref (m + 7486 + 9 * s8.toNatClampNeg)), (6, .ref (m + 7486 + 9 * s9.toNatClampNeg)), (0, .ref m), (1, .int s9), (2, .int s8), (3, .int n), (4, .int low), (5, .int high)]) (st' := []) (by decide +kernel) rfl (fun cc105 => ?_) (fun cc105 => ?_)
                  ·
                    have f43 := zleI cc105
                    rw [show (500 : Int32).toInt = 500 from by decide] at f43
                    refine zp_seg (pc' := 116) (lv' := [(9, .int 0), (8, .int 0), (7, .ref (m + 7486 + 9 * s8.toNatClampNeg)), (6, .ref (m + 7486 + 9 * s9.toNatClampNeg)), (0, .ref m), (1, .int s9), (2, .int s8), (3, .int n), (4, .int low), (5, .int high)]) (st' := []) [(110, .iconst 0), (111, .istore 8), (113, .iconst 0), (114, .istore 9)] (by decide +kernel) rfl ?_
                    have hL116 : ∀ (mm116 : Nat) (y8_116 : Int32) (y9_116 : Int32), (0 ≤ y9_116.toInt) → (y9_116.toInt ≤ 4) → (zr1 y8_116) → (10 - y9_116.toInt).toNat < mm116 → zP (d + 1) zq_X16_holds 116 [(0, .ref m), (3, .int n), (4, .int low), (5, .int high), (6, .ref (m + 7486 + 9 * s9.toNatClampNeg)), (7, .ref (m + 7486 + 9 * s8.toNatClampNeg)), (8, .int y8_116), (9, .int y9_116)] [] w sz 0 0 Post := by
                      intro mm116
                      induction mm116 with
                      | zero => intros; omega
                      | succ mm116 ih116 =>
                      intro y8_116 y9_116 hi116_0 hi116_1 hS8 hmu116
                      have ky8_116 := zrng y8_116
                      have ky9_116 := zrng y9_116
                      refine zp_seg (pc' := 120) (lv' := [(0, .ref m), (3, .int n), (4, .int low), (5, .int high), (6, .ref (m + 7486 + 9 * s9.toNatClampNeg)), (7, .ref (m + 7486 + 9 * s8.toNatClampNeg)), (8, .int y8_116), (9, .int y9_116)]) (st' := [.ref (m + 7486 + 9 * s9.toNatClampNeg), .int y9_116]) [(116, .iload 9), (118, .aload 6)] (by decide +kernel) rfl ?_
                      refine zr_get (idx := 234) (k := 10) (v := .int (g1 10)) (by decide +kernel) (by decide +kernel) hT1 rfl ?_
                      refine zp_if (i := .if_icmp .gt 59) (c := (g1 10) < y9_116) (t := 182) (e := 126) (lv' := [(0, .ref m), (3, .int n), (4, .int low), (5, .int high), (6, .ref (m + 7486 + 9 * s9.toNatClampNeg)), (7, .ref (m + 7486 + 9 * s8.toNatClampNeg)), (8, .int y8_116), (9, .int y9_116)]) (st' := []) (by decide +kernel) rfl (fun cc123 => ?_) (fun cc123 => ?_)
                      ·
                        have f44 := zltI cc123
                        refine zp_seg (pc' := 190) (lv' := [(0, .ref m), (3, .int n), (4, .int low), (5, .int high), (6, .ref (m + 7486 + 9 * s9.toNatClampNeg)), (7, .ref (m + 7486 + 9 * s8.toNatClampNeg)), (8, .int y8_116), (9, .int y9_116)]) (st' := [.int (high + 1), .int n, .ref (m + 7486 + 9 * s8.toNatClampNeg), .ref m]) [(182, .aload_n 0), (183, .aload 7), (185, .iload_n 3), (186, .iload 5), (188, .iconst 1), (189, .iadd)] (by decide +kernel) rfl ?_
                        have k45 := zaddC high 1 (n := 1) (by decide) (by omega) (by omega)
                        generalize ev190 : (high + 1 : Int32) = v190 at k45 ⊢
                        have kv190 := zrng v190
                        refine zr_callV (idx := 688) (j := 377) (by decide +kernel) (by decide +kernel) (show zMe 377 = some zq_X16_valueAt from rfl) rfl rfl (Nat.le_of_ble_eq_true rfl) rfl rfl hm (Nat.le_of_ble_eq_true rfl) (Nat.le_of_ble_eq_true rfl) (c_X16_valueAt (w := w) m (m + 7486 + 9 * s8.toNatClampNeg) n v190 hm hR_m hkS2 (by first | exact Or.inl (hK20.symm.trans cc47) | exact Or.inr (hK20.symm.trans cc56))) (by omega) (fun v190 w190 hp190 => ?_)
                        obtain ⟨hpw190, r190, rfl, hr190⟩ := hp190
                        replace hpw190 := hpw190.symm
                        subst hpw190
                        have kr190 := zrng r190
                        show zP _ _ _ _ [.int r190] _ _ _ _ _
                        refine zp_seg (pc' := 201) (lv' := [(9, .int r190), (0, .ref m), (3, .int n), (4, .int low), (5, .int high), (6, .ref (m + 7486 + 9 * s9.toNatClampNeg)), (7, .ref (m + 7486 + 9 * s8.toNatClampNeg)), (8, .int y8_116)]) (st' := [.int low, .int n, .ref (m + 7486 + 9 * s8.toNatClampNeg), .ref m]) [(193, .istore 9), (195, .aload_n 0), (196, .aload 7), (198, .iload_n 3), (199, .iload 4)] (by decide +kernel) rfl ?_
                        refine zr_callV (idx := 688) (j := 377) (by decide +kernel) (by decide +kernel) (show zMe 377 = some zq_X16_valueAt from rfl) rfl rfl (Nat.le_of_ble_eq_true rfl) rfl rfl hm (Nat.le_of_ble_eq_true rfl) (Nat.le_of_ble_eq_true rfl) (c_X16_valueAt (w := w) m (m + 7486 + 9 * s8.toNatClampNeg) n low hm hR_m hkS2 (by first | exact Or.inl (hK20.symm.trans cc47) | exact Or.inr (hK20.symm.trans cc56))) (by omega) (fun v201 w201 hp201 => ?_)
                        obtain ⟨hpw201, r201, rfl, hr201⟩ := hp201
                        replace hpw201 := hpw201.symm
                        subst hpw201
                        have kr201 := zrng r201
                        show zP _ _ _ _ [.int r201] _ _ _ _ _
                        refine zp_seg (pc' := 214) (lv' := [(10, .int r201), (9, .int r190), (0, .ref m), (3, .int n), (4, .int low), (5, .int high), (6, .ref (m + 7486 + 9 * s9.toNatClampNeg)), (7, .ref (m + 7486 + 9 * s8.toNatClampNeg)), (8, .int y8_116)]) (st' := [.int (high + 1), .int n, .ref (m + 7486 + 9 * s9.toNatClampNeg), .ref m]) [(204, .istore 10), (206, .aload_n 0), (207, .aload 6), (209, .iload_n 3), (210, .iload 5), (212, .iconst 1), (213, .iadd)] (by decide +kernel) rfl ?_
                        have k46 := zaddC high 1 (n := 1) (by decide) (by omega) (by omega)
                        generalize ev214 : (high + 1 : Int32) = v214 at k46 ⊢
                        have kv214 := zrng v214
                        refine zr_callV (idx := 678) (j := 375) (by decide +kernel) (by decide +kernel) (show zMe 375 = some zq_X16_ratioAt from rfl) rfl rfl (Nat.le_of_ble_eq_true rfl) rfl rfl hm (Nat.le_of_ble_eq_true rfl) (Nat.le_of_ble_eq_true rfl) (c_X16_ratioAt (w := w) m (m + 7486 + 9 * s9.toNatClampNeg) n v214 hm hR_m hT1 hAn1 hAd1 (by exact hKn1) (by exact hKd1) (by exact ⟨by omega, by omega⟩) (by exact ⟨by omega, by omega⟩)) (by omega) (fun v214 w214 hp214 => ?_)
                        obtain ⟨hpw214, r214, rfl, hr214⟩ := hp214
                        replace hpw214 := hpw214.symm
                        subst hpw214
                        have kr214 := zrng r214
                        show zP _ _ _ _ [.int r214] _ _ _ _ _
                        refine zp_seg (pc' := 225) (lv' := [(11, .int r214), (10, .int r201), (9, .int r190), (0, .ref m), (3, .int n), (4, .int low), (5, .int high), (6, .ref (m + 7486 + 9 * s9.toNatClampNeg)), (7, .ref (m + 7486 + 9 * s8.toNatClampNeg)), (8, .int y8_116)]) (st' := [.int low, .int n, .ref (m + 7486 + 9 * s9.toNatClampNeg), .ref m]) [(217, .istore 11), (219, .aload_n 0), (220, .aload 6), (222, .iload_n 3), (223, .iload 4)] (by decide +kernel) rfl ?_
                        refine zr_callV (idx := 678) (j := 375) (by decide +kernel) (by decide +kernel) (show zMe 375 = some zq_X16_ratioAt from rfl) rfl rfl (Nat.le_of_ble_eq_true rfl) rfl rfl hm (Nat.le_of_ble_eq_true rfl) (Nat.le_of_ble_eq_true rfl) (c_X16_ratioAt (w := w) m (m + 7486 + 9 * s9.toNatClampNeg) n low hm hR_m hT1 hAn1 hAd1 (by exact hKn1) (by exact hKd1) (by exact ⟨by omega, by omega⟩) (by exact ⟨by omega, by omega⟩)) (by omega) (fun v225 w225 hp225 => ?_)
                        obtain ⟨hpw225, r225, rfl, hr225⟩ := hp225
                        replace hpw225 := hpw225.symm
                        subst hpw225
                        have kr225 := zrng r225
                        show zP _ _ _ _ [.int r225] _ _ _ _ _
                        refine zp_seg (pc' := 233) (lv' := [(12, .int r225), (11, .int r214), (10, .int r201), (9, .int r190), (0, .ref m), (3, .int n), (4, .int low), (5, .int high), (6, .ref (m + 7486 + 9 * s9.toNatClampNeg)), (7, .ref (m + 7486 + 9 * s8.toNatClampNeg)), (8, .int y8_116)]) (st' := [.int (Int32.ofInt (-1)), .int r190]) [(228, .istore 12), (230, .iload 9), (232, .iconst (-1))] (by decide +kernel) rfl ?_
                        refine zp_if (i := .if_icmp .eq 21) (c := r190 = (Int32.ofInt (-1))) (t := 254) (e := 236) (lv' := [(12, .int r225), (11, .int r214), (10, .int r201), (9, .int r190), (0, .ref m), (3, .int n), (4, .int low), (5, .int high), (6, .ref (m + 7486 + 9 * s9.toNatClampNeg)), (7, .ref (m + 7486 + 9 * s8.toNatClampNeg)), (8, .int y8_116)]) (st' := []) (by decide +kernel) rfl (fun cc233 => ?_) (fun cc233 => ?_)
                        ·
                          have f48 := zeqI cc233
                          rw [show (Int32.ofInt (-1) : Int32).toInt = (-1) from by decide] at f48
                          refine zp_seg (pc' := 255) (lv' := [(12, .int r225), (11, .int r214), (10, .int r201), (9, .int r190), (0, .ref m), (3, .int n), (4, .int low), (5, .int high), (6, .ref (m + 7486 + 9 * s9.toNatClampNeg)), (7, .ref (m + 7486 + 9 * s8.toNatClampNeg)), (8, .int y8_116)]) (st' := [.int (Int32.ofInt (-1))]) [(254, .iconst (-1))] (by decide +kernel) rfl ?_
                          refine zr_retI (by decide +kernel) rfl ?_
                          rw [← hPost]; exact ⟨rfl, _, rfl, rfl, _, rfl, trivial⟩
                        ·
                          have f50 := zneI cc233
                          rw [show (Int32.ofInt (-1) : Int32).toInt = (-1) from by decide] at f50
                          refine zp_seg (pc' := 239) (lv' := [(12, .int r225), (11, .int r214), (10, .int r201), (9, .int r190), (0, .ref m), (3, .int n), (4, .int low), (5, .int high), (6, .ref (m + 7486 + 9 * s9.toNatClampNeg)), (7, .ref (m + 7486 + 9 * s8.toNatClampNeg)), (8, .int y8_116)]) (st' := [.int (Int32.ofInt (-1)), .int r201]) [(236, .iload 10), (238, .iconst (-1))] (by decide +kernel) rfl ?_
                          refine zp_if (i := .if_icmp .eq 15) (c := r201 = (Int32.ofInt (-1))) (t := 254) (e := 242) (lv' := [(12, .int r225), (11, .int r214), (10, .int r201), (9, .int r190), (0, .ref m), (3, .int n), (4, .int low), (5, .int high), (6, .ref (m + 7486 + 9 * s9.toNatClampNeg)), (7, .ref (m + 7486 + 9 * s8.toNatClampNeg)), (8, .int y8_116)]) (st' := []) (by decide +kernel) rfl (fun cc239 => ?_) (fun cc239 => ?_)
                          ·
                            have f51 := zeqI cc239
                            rw [show (Int32.ofInt (-1) : Int32).toInt = (-1) from by decide] at f51
                            refine zp_seg (pc' := 255) (lv' := [(12, .int r225), (11, .int r214), (10, .int r201), (9, .int r190), (0, .ref m), (3, .int n), (4, .int low), (5, .int high), (6, .ref (m + 7486 + 9 * s9.toNatClampNeg)), (7, .ref (m + 7486 + 9 * s8.toNatClampNeg)), (8, .int y8_116)]) (st' := [.int (Int32.ofInt (-1))]) [(254, .iconst (-1))] (by decide +kernel) rfl ?_
                            refine zr_retI (by decide +kernel) rfl ?_
                            rw [← hPost]; exact ⟨rfl, _, rfl, rfl, _, rfl, trivial⟩
                          ·
                            have f52 := zneI cc239
                            rw [show (Int32.ofInt (-1) : Int32).toInt = (-1) from by decide] at f52
                            refine zp_seg (pc' := 245) (lv' := [(12, .int r225), (11, .int r214), (10, .int r201), (9, .int r190), (0, .ref m), (3, .int n), (4, .int low), (5, .int high), (6, .ref (m + 7486 + 9 * s9.toNatClampNeg)), (7, .ref (m + 7486 + 9 * s8.toNatClampNeg)), (8, .int y8_116)]) (st' := [.int (Int32.ofInt (-1)), .int r214]) [(242, .iload 11), (244, .iconst (-1))] (by decide +kernel) rfl ?_
                            refine zp_if (i := .if_icmp .eq 9) (c := r214 = (Int32.ofInt (-1))) (t := 254) (e := 248) (lv' := [(12, .int r225), (11, .int r214), (10, .int r201), (9, .int r190), (0, .ref m), (3, .int n), (4, .int low), (5, .int high), (6, .ref (m + 7486 + 9 * s9.toNatClampNeg)), (7, .ref (m + 7486 + 9 * s8.toNatClampNeg)), (8, .int y8_116)]) (st' := []) (by decide +kernel) rfl (fun cc245 => ?_) (fun cc245 => ?_)
                            ·
                              have f53 := zeqI cc245
                              rw [show (Int32.ofInt (-1) : Int32).toInt = (-1) from by decide] at f53
                              refine zp_seg (pc' := 255) (lv' := [(12, .int r225), (11, .int r214), (10, .int r201), (9, .int r190), (0, .ref m), (3, .int n), (4, .int low), (5, .int high), (6, .ref (m + 7486 + 9 * s9.toNatClampNeg)), (7, .ref (m + 7486 + 9 * s8.toNatClampNeg)), (8, .int y8_116)]) (st' := [.int (Int32.ofInt (-1))]) [(254, .iconst (-1))] (by decide +kernel) rfl ?_
                              refine zr_retI (by decide +kernel) rfl ?_
                              rw [← hPost]; exact ⟨rfl, _, rfl, rfl, _, rfl, trivial⟩
                            ·
                              have f54 := zneI cc245
                              rw [show (Int32.ofInt (-1) : Int32).toInt = (-1) from by decide] at f54
                              refine zp_seg (pc' := 251) (lv' := [(12, .int r225), (11, .int r214), (10, .int r201), (9, .int r190), (0, .ref m), (3, .int n), (4, .int low), (5, .int high), (6, .ref (m + 7486 + 9 * s9.toNatClampNeg)), (7, .ref (m + 7486 + 9 * s8.toNatClampNeg)), (8, .int y8_116)]) (st' := [.int (Int32.ofInt (-1)), .int r225]) [(248, .iload 12), (250, .iconst (-1))] (by decide +kernel) rfl ?_
                              refine zp_if (i := .if_icmp .ne 5) (c := ¬ r225 = (Int32.ofInt (-1))) (t := 256) (e := 254) (lv' := [(12, .int r225), (11, .int r214), (10, .int r201), (9, .int r190), (0, .ref m), (3, .int n), (4, .int low), (5, .int high), (6, .ref (m + 7486 + 9 * s9.toNatClampNeg)), (7, .ref (m + 7486 + 9 * s8.toNatClampNeg)), (8, .int y8_116)]) (st' := []) (by decide +kernel) rfl (fun cc251 => ?_) (fun cc251 => ?_)
                              ·
                                have f55 := zneI cc251
                                rw [show (Int32.ofInt (-1) : Int32).toInt = (-1) from by decide] at f55
                                refine zp_seg (pc' := 262) (lv' := [(12, .int r225), (11, .int r214), (10, .int r201), (9, .int r190), (0, .ref m), (3, .int n), (4, .int low), (5, .int high), (6, .ref (m + 7486 + 9 * s9.toNatClampNeg)), (7, .ref (m + 7486 + 9 * s8.toNatClampNeg)), (8, .int y8_116)]) (st' := [.int r190, .int r214, .int y8_116]) [(256, .iload 8), (258, .iload 11), (260, .iload 9)] (by decide +kernel) rfl ?_
                                refine zr_callS (idx := 56) (j := 257) (by decide +kernel) (by decide +kernel) (by decide) (show zMe 257 = some zq_X16_mul from rfl) rfl rfl (Nat.le_of_ble_eq_true rfl) rfl rfl (Nat.le_of_ble_eq_true rfl) (Nat.le_of_ble_eq_true rfl) (c_X16_mul (w := w) r214 r190 (by exact hr214.resolve_left cc245) (by exact hr190.resolve_left cc233)) (by omega) (fun v262 w262 hp262 => ?_)
                                obtain ⟨hpw262, r262, rfl, hr262⟩ := hp262
                                replace hpw262 := hpw262.symm
                                subst hpw262
                                have kr262 := zrng r262
                                show zP _ _ _ _ [.int r262, .int y8_116] _ _ _ _ _
                                refine zp_seg (pc' := 269) (lv' := [(12, .int r225), (11, .int r214), (10, .int r201), (9, .int r190), (0, .ref m), (3, .int n), (4, .int low), (5, .int high), (6, .ref (m + 7486 + 9 * s9.toNatClampNeg)), (7, .ref (m + 7486 + 9 * s8.toNatClampNeg)), (8, .int y8_116)]) (st' := [.int r201, .int r225, .int r262, .int y8_116]) [(265, .iload 12), (267, .iload 10)] (by decide +kernel) rfl ?_
                                refine zr_callS (idx := 56) (j := 257) (by decide +kernel) (by decide +kernel) (by decide) (show zMe 257 = some zq_X16_mul from rfl) rfl rfl (Nat.le_of_ble_eq_true rfl) rfl rfl (Nat.le_of_ble_eq_true rfl) (Nat.le_of_ble_eq_true rfl) (c_X16_mul (w := w) r225 r201 (by exact hr225.resolve_left cc251) (by exact hr201.resolve_left cc239)) (by omega) (fun v269 w269 hp269 => ?_)
                                obtain ⟨hpw269, r269, rfl, hr269⟩ := hp269
                                replace hpw269 := hpw269.symm
                                subst hpw269
                                have kr269 := zrng r269
                                show zP _ _ _ _ [.int r269, .int r262, .int y8_116] _ _ _ _ _
                                refine zr_callS (idx := 46) (j := 256) (by decide +kernel) (by decide +kernel) (by decide) (show zMe 256 = some zq_X16_sub from rfl) rfl rfl (Nat.le_of_ble_eq_true rfl) rfl rfl (Nat.le_of_ble_eq_true rfl) (Nat.le_of_ble_eq_true rfl) (c_X16_sub (w := w) r262 r269 (by first | exact hr262.1 | omega | decide | assumption | exact zr1_1 | exact zr1_0 | fail "num") (by first | exact hr269.1 | omega | decide | assumption | exact zr1_1 | exact zr1_0 | fail "num")) (by omega) (fun v272 w272 hp272 => ?_)
                                obtain ⟨hpw272, r272, rfl, hr272⟩ := hp272
                                replace hpw272 := hpw272.symm
                                subst hpw272
                                have kr272 := zrng r272
                                show zP _ _ _ _ [.int r272, .int y8_116] _ _ _ _ _
                                refine zp_if (i := .if_icmp .ne 7) (c := ¬ y8_116 = r272) (t := 282) (e := 278) (lv' := [(12, .int r225), (11, .int r214), (10, .int r201), (9, .int r190), (0, .ref m), (3, .int n), (4, .int low), (5, .int high), (6, .ref (m + 7486 + 9 * s9.toNatClampNeg)), (7, .ref (m + 7486 + 9 * s8.toNatClampNeg)), (8, .int y8_116)]) (st' := []) (by decide +kernel) rfl (fun cc275 => ?_) (fun cc275 => ?_)
                                ·
                                  have f56 := zneI cc275
                                  refine zp_seg (pc' := 283) (lv' := [(12, .int r225), (11, .int r214), (10, .int r201), (9, .int r190), (0, .ref m), (3, .int n), (4, .int low), (5, .int high), (6, .ref (m + 7486 + 9 * s9.toNatClampNeg)), (7, .ref (m + 7486 + 9 * s8.toNatClampNeg)), (8, .int y8_116)]) (st' := [.int 0]) [(282, .iconst 0)] (by decide +kernel) rfl ?_
                                  refine zr_retI (by decide +kernel) rfl ?_
                                  rw [← hPost]; exact ⟨rfl, _, rfl, rfl, _, rfl, trivial⟩
                                ·
                                  replace cc275 := Classical.not_not.mp cc275
                                  have f57 := zeqI cc275
                                  refine zp_seg (pc' := 283) (lv' := [(12, .int r225), (11, .int r214), (10, .int r201), (9, .int r190), (0, .ref m), (3, .int n), (4, .int low), (5, .int high), (6, .ref (m + 7486 + 9 * s9.toNatClampNeg)), (7, .ref (m + 7486 + 9 * s8.toNatClampNeg)), (8, .int y8_116)]) (st' := [.int 1]) [(278, .iconst 1), (279, .goto 4)] (by decide +kernel) rfl ?_
                                  refine zr_retI (by decide +kernel) rfl ?_
                                  rw [← hPost]; exact ⟨rfl, _, rfl, rfl, _, rfl, trivial⟩
                              ·
                                replace cc251 := Classical.not_not.mp cc251
                                have f58 := zeqI cc251
                                rw [show (Int32.ofInt (-1) : Int32).toInt = (-1) from by decide] at f58
                                refine zp_seg (pc' := 255) (lv' := [(12, .int r225), (11, .int r214), (10, .int r201), (9, .int r190), (0, .ref m), (3, .int n), (4, .int low), (5, .int high), (6, .ref (m + 7486 + 9 * s9.toNatClampNeg)), (7, .ref (m + 7486 + 9 * s8.toNatClampNeg)), (8, .int y8_116)]) (st' := [.int (Int32.ofInt (-1))]) [(254, .iconst (-1))] (by decide +kernel) rfl ?_
                                refine zr_retI (by decide +kernel) rfl ?_
                                rw [← hPost]; exact ⟨rfl, _, rfl, rfl, _, rfl, trivial⟩
                      ·
                        have f59 := znltI cc123
                        refine zp_seg (pc' := 133) (lv' := [(0, .ref m), (3, .int n), (4, .int low), (5, .int high), (6, .ref (m + 7486 + 9 * s9.toNatClampNeg)), (7, .ref (m + 7486 + 9 * s8.toNatClampNeg)), (8, .int y8_116), (9, .int y9_116)]) (st' := [.int (n + y9_116), .ref (m + 7486 + 9 * s8.toNatClampNeg), .ref m]) [(126, .aload_n 0), (127, .aload 7), (129, .iload_n 3), (130, .iload 9), (132, .iadd)] (by decide +kernel) rfl ?_
                        have k60 := zadd n y9_116 (by omega) (by omega)
                        generalize ev133 : (n + y9_116 : Int32) = v133 at k60 ⊢
                        have kv133 := zrng v133
                        refine zp_seg (pc' := 137) (lv' := [(0, .ref m), (3, .int n), (4, .int low), (5, .int high), (6, .ref (m + 7486 + 9 * s9.toNatClampNeg)), (7, .ref (m + 7486 + 9 * s8.toNatClampNeg)), (8, .int y8_116), (9, .int y9_116)]) (st' := [.int high, .int low, .int v133, .ref (m + 7486 + 9 * s8.toNatClampNeg), .ref m]) [(133, .iload 4), (135, .iload 5)] (by decide +kernel) rfl ?_
                        refine zr_callV (idx := 691) (j := 379) (by decide +kernel) (by decide +kernel) (show zMe 379 = some zq_X16_sumOf from rfl) rfl rfl (Nat.le_of_ble_eq_true rfl) rfl rfl hm (Nat.le_of_ble_eq_true rfl) (Nat.le_of_ble_eq_true rfl) (c_X16_sumOf (w := w) m (m + 7486 + 9 * s8.toNatClampNeg) v133 low high hm hR_m hkS2 (by first | exact Or.inl (hK20.symm.trans cc47) | exact Or.inr (hK20.symm.trans cc56)) (by first | omega | decide | assumption | exact zr1_1 | exact zr1_0 | fail "num") (by first | omega | decide | assumption | exact zr1_1 | exact zr1_0 | fail "num")) (by omega) (fun v137 w137 hp137 => ?_)
                        obtain ⟨hpw137, r137, rfl, hr137⟩ := hp137
                        replace hpw137 := hpw137.symm
                        subst hpw137
                        have kr137 := zrng r137
                        show zP _ _ _ _ [.int r137] _ _ _ _ _
                        refine zp_seg (pc' := 145) (lv' := [(10, .int r137), (0, .ref m), (3, .int n), (4, .int low), (5, .int high), (6, .ref (m + 7486 + 9 * s9.toNatClampNeg)), (7, .ref (m + 7486 + 9 * s8.toNatClampNeg)), (8, .int y8_116), (9, .int y9_116)]) (st' := [.int (Int32.ofInt (-1)), .int r137]) [(140, .istore 10), (142, .iload 10), (144, .iconst (-1))] (by decide +kernel) rfl ?_
                        refine zp_if (i := .if_icmp .ne 5) (c := ¬ r137 = (Int32.ofInt (-1))) (t := 150) (e := 148) (lv' := [(10, .int r137), (0, .ref m), (3, .int n), (4, .int low), (5, .int high), (6, .ref (m + 7486 + 9 * s9.toNatClampNeg)), (7, .ref (m + 7486 + 9 * s8.toNatClampNeg)), (8, .int y8_116), (9, .int y9_116)]) (st' := []) (by decide +kernel) rfl (fun cc145 => ?_) (fun cc145 => ?_)
                        ·
                          have f62 := zneI cc145
                          rw [show (Int32.ofInt (-1) : Int32).toInt = (-1) from by decide] at f62
                          refine zp_seg (pc' := 154) (lv' := [(10, .int r137), (0, .ref m), (3, .int n), (4, .int low), (5, .int high), (6, .ref (m + 7486 + 9 * s9.toNatClampNeg)), (7, .ref (m + 7486 + 9 * s8.toNatClampNeg)), (8, .int y8_116), (9, .int y9_116)]) (st' := [.ref (m + 7486 + 9 * s9.toNatClampNeg), .int y8_116]) [(150, .iload 8), (152, .aload 6)] (by decide +kernel) rfl ?_
                          refine zr_get (idx := 237) (k := 11) (v := .ref (m + 7486 + 9 * s9.toNatClampNeg + 7)) (by decide +kernel) (by decide +kernel) hT1 rfl ?_
                          refine zp_seg (pc' := 162) (lv' := [(10, .int r137), (0, .ref m), (3, .int n), (4, .int low), (5, .int high), (6, .ref (m + 7486 + 9 * s9.toNatClampNeg)), (7, .ref (m + 7486 + 9 * s8.toNatClampNeg)), (8, .int y8_116), (9, .int y9_116)]) (st' := [.int (25 * y9_116), .ref (m + 7486 + 9 * s9.toNatClampNeg + 7), .int y8_116]) [(157, .bipush 25), (159, .iload 9), (161, .imul)] (by decide +kernel) rfl ?_
                          have k63 := zmulCl 25 y9_116 (n := 25) (by decide) (by omega) (by omega)
                          generalize ev162 : (25 * y9_116 : Int32) = v162 at k63 ⊢
                          have kv162 := zrng v162
                          refine zp_seg (pc' := 163) (lv' := [(10, .int r137), (0, .ref m), (3, .int n), (4, .int low), (5, .int high), (6, .ref (m + 7486 + 9 * s9.toNatClampNeg)), (7, .ref (m + 7486 + 9 * s8.toNatClampNeg)), (8, .int y8_116), (9, .int y9_116)]) (st' := [.int n, .int v162, .ref (m + 7486 + 9 * s9.toNatClampNeg + 7), .int y8_116]) [(162, .iload_n 3)] (by decide +kernel) rfl ?_
                          refine zr_callS (idx := 772) (j := 399) (by decide +kernel) (by decide +kernel) (by decide) (show zMe 399 = some zq_X16_polynomialAt from rfl) rfl rfl (Nat.le_of_ble_eq_true rfl) rfl rfl (Nat.le_of_ble_eq_true rfl) (Nat.le_of_ble_eq_true rfl) (c_X16_polynomialAt (w := w) (m + 7486 + 9 * s9.toNatClampNeg + 7) v162 n hAr1 (by exact hKr1) (by first | omega | decide | assumption | exact zr1_1 | exact zr1_0 | fail "num") (by exact ⟨by omega, by omega⟩)) (by omega) (fun v163 w163 hp163 => ?_)
                          obtain ⟨hpw163, r163, rfl, hr163⟩ := hp163
                          replace hpw163 := hpw163.symm
                          subst hpw163
                          have kr163 := zrng r163
                          show zP _ _ _ _ [.int r163, .int y8_116] _ _ _ _ _
                          refine zp_seg (pc' := 168) (lv' := [(10, .int r137), (0, .ref m), (3, .int n), (4, .int low), (5, .int high), (6, .ref (m + 7486 + 9 * s9.toNatClampNeg)), (7, .ref (m + 7486 + 9 * s8.toNatClampNeg)), (8, .int y8_116), (9, .int y9_116)]) (st' := [.int r137, .int r163, .int y8_116]) [(166, .iload 10)] (by decide +kernel) rfl ?_
                          refine zr_callS (idx := 56) (j := 257) (by decide +kernel) (by decide +kernel) (by decide) (show zMe 257 = some zq_X16_mul from rfl) rfl rfl (Nat.le_of_ble_eq_true rfl) rfl rfl (Nat.le_of_ble_eq_true rfl) (Nat.le_of_ble_eq_true rfl) (c_X16_mul (w := w) r163 r137 (by first | exact hr163.1 | omega | decide | assumption | exact zr1_1 | exact zr1_0 | fail "num") (by exact hr137.resolve_left cc145)) (by omega) (fun v168 w168 hp168 => ?_)
                          obtain ⟨hpw168, r168, rfl, hr168⟩ := hp168
                          replace hpw168 := hpw168.symm
                          subst hpw168
                          have kr168 := zrng r168
                          show zP _ _ _ _ [.int r168, .int y8_116] _ _ _ _ _
                          refine zr_callS (idx := 49) (j := 255) (by decide +kernel) (by decide +kernel) (by decide) (show zMe 255 = some zq_X16_add from rfl) rfl rfl (Nat.le_of_ble_eq_true rfl) rfl rfl (Nat.le_of_ble_eq_true rfl) (Nat.le_of_ble_eq_true rfl) (c_X16_add (w := w) y8_116 r168 (by exact hS8) (by first | exact hr168.1 | omega | decide | assumption | exact zr1_1 | exact zr1_0 | fail "num")) (by omega) (fun v171 w171 hp171 => ?_)
                          obtain ⟨hpw171, r171, rfl, hr171⟩ := hp171
                          replace hpw171 := hpw171.symm
                          subst hpw171
                          have kr171 := zrng r171
                          show zP _ _ _ _ [.int r171] _ _ _ _ _
                          refine zp_seg (pc' := 179) (lv' := [(9, .int (y9_116 + 1)), (8, .int r171), (10, .int r137), (0, .ref m), (3, .int n), (4, .int low), (5, .int high), (6, .ref (m + 7486 + 9 * s9.toNatClampNeg)), (7, .ref (m + 7486 + 9 * s8.toNatClampNeg))]) (st' := []) [(174, .istore 8), (176, .iinc 9 1)] (by decide +kernel) rfl ?_
                          have k64 := zaddC y9_116 1 (n := 1) (by decide) (by omega) (by omega)
                          generalize ev179 : (y9_116 + 1 : Int32) = v179 at k64 ⊢
                          have kv179 := zrng v179
                          refine zp_seg (pc' := 116) (lv' := [(9, .int v179), (8, .int r171), (10, .int r137), (0, .ref m), (3, .int n), (4, .int low), (5, .int high), (6, .ref (m + 7486 + 9 * s9.toNatClampNeg)), (7, .ref (m + 7486 + 9 * s8.toNatClampNeg))]) (st' := []) [(179, .goto (-63))] (by decide +kernel) rfl ?_
                          exact (ih116 r171 v179 (by first | assumption | omega | decide) (by first | assumption | omega | decide) (by
                                exact hr171.1) (by omega)).more (zfa1 rfl (zfa1 rfl (zfa1 rfl (zfa1 rfl (zfa1 rfl (zfa1 rfl (zfa1 rfl (zfa1 rfl (zfa0)))))))))
                        ·
                          replace cc145 := Classical.not_not.mp cc145
                          have f66 := zeqI cc145
                          rw [show (Int32.ofInt (-1) : Int32).toInt = (-1) from by decide] at f66
                          refine zp_seg (pc' := 149) (lv' := [(10, .int r137), (0, .ref m), (3, .int n), (4, .int low), (5, .int high), (6, .ref (m + 7486 + 9 * s9.toNatClampNeg)), (7, .ref (m + 7486 + 9 * s8.toNatClampNeg)), (8, .int y8_116), (9, .int y9_116)]) (st' := [.int (Int32.ofInt (-1))]) [(148, .iconst (-1))] (by decide +kernel) rfl ?_
                          refine zr_retI (by decide +kernel) rfl ?_
                          rw [← hPost]; exact ⟨rfl, _, rfl, rfl, _, rfl, trivial⟩
                    have hl67 : (0 : Int32).toInt = 0 := by decide
                    exact (hL116 _ 0 0 (by first | assumption | omega | decide) (by first | assumption | omega | decide) (by
                          exact zr1_0) (Nat.lt_succ_self _)).more (zfa1 rfl (zfa1 rfl (zfa1 rfl (zfa1 rfl (zfa1 rfl (zfa1 rfl (zfa1 rfl (zfa1 rfl (zfa0)))))))))
                  ·
                    have f68 := znleI cc105
                    rw [show (500 : Int32).toInt = 500 from by decide] at f68
                    refine zp_seg (pc' := 109) (lv' := [(7, .ref (m + 7486 + 9 * s8.toNatClampNeg)), (6, .ref (m + 7486 + 9 * s9.toNatClampNeg)), (0, .ref m), (1, .int s9), (2, .int s8), (3, .int n), (4, .int low), (5, .int high)]) (st' := [.int (Int32.ofInt (-1))]) [(108, .iconst (-1))] (by decide +kernel) rfl ?_
                    refine zr_retI (by decide +kernel) rfl ?_
                    rw [← hPost]; exact ⟨rfl, _, rfl, rfl, _, rfl, trivial⟩
        ·
          have k70 := zrng (g2 0)
          have f72 := zneI cc47
          rw [show (1 : Int32).toInt = 1 from by decide] at f72
          refine zp_seg (pc' := 52) (lv' := [(7, .ref (m + 7486 + 9 * s8.toNatClampNeg)), (6, .ref (m + 7486 + 9 * s9.toNatClampNeg)), (0, .ref m), (1, .int s9), (2, .int s8), (3, .int n), (4, .int low), (5, .int high)]) (st' := [.ref (m + 7486 + 9 * s8.toNatClampNeg)]) [(50, .aload 7)] (by decide +kernel) rfl ?_
          refine zr_get (idx := 202) (k := 0) (v := .int (g2 0)) (by decide +kernel) (by decide +kernel) hT2 rfl ?_
          refine zp_seg (pc' := 56) (lv' := [(7, .ref (m + 7486 + 9 * s8.toNatClampNeg)), (6, .ref (m + 7486 + 9 * s9.toNatClampNeg)), (0, .ref m), (1, .int s9), (2, .int s8), (3, .int n), (4, .int low), (5, .int high)]) (st' := [.int 2, .int (g2 0)]) [(55, .iconst 2)] (by decide +kernel) rfl ?_
          refine zp_if (i := .if_icmp .eq 6) (c := (g2 0) = 2) (t := 62) (e := 59) (lv' := [(7, .ref (m + 7486 + 9 * s8.toNatClampNeg)), (6, .ref (m + 7486 + 9 * s9.toNatClampNeg)), (0, .ref m), (1, .int s9), (2, .int s8), (3, .int n), (4, .int low), (5, .int high)]) (st' := []) (by decide +kernel) rfl (fun cc56 => ?_) (fun cc56 => ?_)
          ·
            have f74 := zeqI cc56
            rw [show (2 : Int32).toInt = 2 from by decide] at f74
            have hord := hKk1.2.2.2.2.1 (hK10.symm.trans cc38)
            refine zp_seg (pc' := 63) (lv' := [(7, .ref (m + 7486 + 9 * s8.toNatClampNeg)), (6, .ref (m + 7486 + 9 * s9.toNatClampNeg)), (0, .ref m), (1, .int s9), (2, .int s8), (3, .int n), (4, .int low), (5, .int high)]) (st' := [.int n]) [(62, .iload_n 3)] (by decide +kernel) rfl ?_
            refine zr_callS (idx := 682) (j := 376) (by decide +kernel) (by decide +kernel) (by decide) (show zMe 376 = some zq_X16_isWhole from rfl) rfl rfl (Nat.le_of_ble_eq_true rfl) rfl rfl (Nat.le_of_ble_eq_true rfl) (Nat.le_of_ble_eq_true rfl) (c_X16_isWhole (w := w) n ) (by omega) (fun v63 w63 hp63 => ?_)
            obtain ⟨hpw63, r63, rfl, hrb63, hr63⟩ := hp63
            replace hpw63 := hpw63.symm
            subst hpw63
            have kr63 := zrng r63
            show zP _ _ _ _ [.int r63] _ _ _ _ _
            refine zp_if (i := .ifCond .eq 42) (c := r63 = 0) (t := 108) (e := 69) (lv' := [(7, .ref (m + 7486 + 9 * s8.toNatClampNeg)), (6, .ref (m + 7486 + 9 * s9.toNatClampNeg)), (0, .ref m), (1, .int s9), (2, .int s8), (3, .int n), (4, .int low), (5, .int high)]) (st' := []) (by decide +kernel) rfl (fun cc66 => ?_) (fun cc66 => ?_)
            ·
              have f75 := zeqI cc66
              rw [show (0 : Int32).toInt = 0 from by decide] at f75
              refine zp_seg (pc' := 109) (lv' := [(7, .ref (m + 7486 + 9 * s8.toNatClampNeg)), (6, .ref (m + 7486 + 9 * s9.toNatClampNeg)), (0, .ref m), (1, .int s9), (2, .int s8), (3, .int n), (4, .int low), (5, .int high)]) (st' := [.int (Int32.ofInt (-1))]) [(108, .iconst (-1))] (by decide +kernel) rfl ?_
              refine zr_retI (by decide +kernel) rfl ?_
              rw [← hPost]; exact ⟨rfl, _, rfl, rfl, _, rfl, trivial⟩
            ·
              have f77 := zneI cc66
              rw [show (0 : Int32).toInt = 0 from by decide] at f77
              have hw1 := hr63 (hrb63.resolve_left cc66)
              refine zp_seg (pc' := 71) (lv' := [(7, .ref (m + 7486 + 9 * s8.toNatClampNeg)), (6, .ref (m + 7486 + 9 * s9.toNatClampNeg)), (0, .ref m), (1, .int s9), (2, .int s8), (3, .int n), (4, .int low), (5, .int high)]) (st' := [.int low]) [(69, .iload 4)] (by decide +kernel) rfl ?_
              refine zr_callS (idx := 682) (j := 376) (by decide +kernel) (by decide +kernel) (by decide) (show zMe 376 = some zq_X16_isWhole from rfl) rfl rfl (Nat.le_of_ble_eq_true rfl) rfl rfl (Nat.le_of_ble_eq_true rfl) (Nat.le_of_ble_eq_true rfl) (c_X16_isWhole (w := w) low ) (by omega) (fun v71 w71 hp71 => ?_)
              obtain ⟨hpw71, r71, rfl, hrb71, hr71⟩ := hp71
              replace hpw71 := hpw71.symm
              subst hpw71
              have kr71 := zrng r71
              show zP _ _ _ _ [.int r71] _ _ _ _ _
              refine zp_if (i := .ifCond .eq 34) (c := r71 = 0) (t := 108) (e := 77) (lv' := [(7, .ref (m + 7486 + 9 * s8.toNatClampNeg)), (6, .ref (m + 7486 + 9 * s9.toNatClampNeg)), (0, .ref m), (1, .int s9), (2, .int s8), (3, .int n), (4, .int low), (5, .int high)]) (st' := []) (by decide +kernel) rfl (fun cc74 => ?_) (fun cc74 => ?_)
              ·
                have f78 := zeqI cc74
                rw [show (0 : Int32).toInt = 0 from by decide] at f78
                refine zp_seg (pc' := 109) (lv' := [(7, .ref (m + 7486 + 9 * s8.toNatClampNeg)), (6, .ref (m + 7486 + 9 * s9.toNatClampNeg)), (0, .ref m), (1, .int s9), (2, .int s8), (3, .int n), (4, .int low), (5, .int high)]) (st' := [.int (Int32.ofInt (-1))]) [(108, .iconst (-1))] (by decide +kernel) rfl ?_
                refine zr_retI (by decide +kernel) rfl ?_
                rw [← hPost]; exact ⟨rfl, _, rfl, rfl, _, rfl, trivial⟩
              ·
                have f80 := zneI cc74
                rw [show (0 : Int32).toInt = 0 from by decide] at f80
                have hw2 := hr71 (hrb71.resolve_left cc74)
                refine zp_seg (pc' := 79) (lv' := [(7, .ref (m + 7486 + 9 * s8.toNatClampNeg)), (6, .ref (m + 7486 + 9 * s9.toNatClampNeg)), (0, .ref m), (1, .int s9), (2, .int s8), (3, .int n), (4, .int low), (5, .int high)]) (st' := [.int high]) [(77, .iload 5)] (by decide +kernel) rfl ?_
                refine zr_callS (idx := 682) (j := 376) (by decide +kernel) (by decide +kernel) (by decide) (show zMe 376 = some zq_X16_isWhole from rfl) rfl rfl (Nat.le_of_ble_eq_true rfl) rfl rfl (Nat.le_of_ble_eq_true rfl) (Nat.le_of_ble_eq_true rfl) (c_X16_isWhole (w := w) high ) (by omega) (fun v79 w79 hp79 => ?_)
                obtain ⟨hpw79, r79, rfl, hrb79, hr79⟩ := hp79
                replace hpw79 := hpw79.symm
                subst hpw79
                have kr79 := zrng r79
                show zP _ _ _ _ [.int r79] _ _ _ _ _
                refine zp_if (i := .ifCond .eq 26) (c := r79 = 0) (t := 108) (e := 85) (lv' := [(7, .ref (m + 7486 + 9 * s8.toNatClampNeg)), (6, .ref (m + 7486 + 9 * s9.toNatClampNeg)), (0, .ref m), (1, .int s9), (2, .int s8), (3, .int n), (4, .int low), (5, .int high)]) (st' := []) (by decide +kernel) rfl (fun cc82 => ?_) (fun cc82 => ?_)
                ·
                  have f81 := zeqI cc82
                  rw [show (0 : Int32).toInt = 0 from by decide] at f81
                  refine zp_seg (pc' := 109) (lv' := [(7, .ref (m + 7486 + 9 * s8.toNatClampNeg)), (6, .ref (m + 7486 + 9 * s9.toNatClampNeg)), (0, .ref m), (1, .int s9), (2, .int s8), (3, .int n), (4, .int low), (5, .int high)]) (st' := [.int (Int32.ofInt (-1))]) [(108, .iconst (-1))] (by decide +kernel) rfl ?_
                  refine zr_retI (by decide +kernel) rfl ?_
                  rw [← hPost]; exact ⟨rfl, _, rfl, rfl, _, rfl, trivial⟩
                ·
                  have f83 := zneI cc82
                  rw [show (0 : Int32).toInt = 0 from by decide] at f83
                  have hw3 := hr79 (hrb79.resolve_left cc82)
                  refine zp_seg (pc' := 88) (lv' := [(7, .ref (m + 7486 + 9 * s8.toNatClampNeg)), (6, .ref (m + 7486 + 9 * s9.toNatClampNeg)), (0, .ref m), (1, .int s9), (2, .int s8), (3, .int n), (4, .int low), (5, .int high)]) (st' := [.ref (m + 7486 + 9 * s9.toNatClampNeg), .int n]) [(85, .iload_n 3), (86, .aload 6)] (by decide +kernel) rfl ?_
                  refine zr_get (idx := 234) (k := 10) (v := .int (g1 10)) (by decide +kernel) (by decide +kernel) hT1 rfl ?_
                  refine zp_seg (pc' := 92) (lv' := [(7, .ref (m + 7486 + 9 * s8.toNatClampNeg)), (6, .ref (m + 7486 + 9 * s9.toNatClampNeg)), (0, .ref m), (1, .int s9), (2, .int s8), (3, .int n), (4, .int low), (5, .int high)]) (st' := [.int (n + (g1 10))]) [(91, .iadd)] (by decide +kernel) rfl ?_
                  have k84 := zrng (g1 10)
                  have k85 := zadd n ((g1 10)) (by omega) (by omega)
                  generalize ev92 : (n + (g1 10) : Int32) = v92 at k85 ⊢
                  have kv92 := zrng v92
                  refine zp_seg (pc' := 95) (lv' := [(7, .ref (m + 7486 + 9 * s8.toNatClampNeg)), (6, .ref (m + 7486 + 9 * s9.toNatClampNeg)), (0, .ref m), (1, .int s9), (2, .int s8), (3, .int n), (4, .int low), (5, .int high)]) (st' := [.int 500, .int v92]) [(92, .sipush 500)] (by decide +kernel) rfl ?_
                  refine zp_if (i := .if_icmp .gt 13) (c := 500 < v92) (t := 108) (e := 98) (lv' := [(7, .ref (m + 7486 + 9 * s8.toNatClampNeg)), (6, .ref (m + 7486 + 9 * s9.toNatClampNeg)), (0, .ref m), (1, .int s9), (2, .int s8), (3, .int n), (4, .int low), (5, .int high)]) (st' := []) (by decide +kernel) rfl (fun cc95 => ?_) (fun cc95 => ?_)
                  ·
                    have f87 := zltI cc95
                    rw [show (500 : Int32).toInt = 500 from by decide] at f87
                    refine zp_seg (pc' := 109) (lv' := [(7, .ref (m + 7486 + 9 * s8.toNatClampNeg)), (6, .ref (m + 7486 + 9 * s9.toNatClampNeg)), (0, .ref m), (1, .int s9), (2, .int s8), (3, .int n), (4, .int low), (5, .int high)]) (st' := [.int (Int32.ofInt (-1))]) [(108, .iconst (-1))] (by decide +kernel) rfl ?_
                    refine zr_retI (by decide +kernel) rfl ?_
                    rw [← hPost]; exact ⟨rfl, _, rfl, rfl, _, rfl, trivial⟩
                  ·
                    have f90 := znltI cc95
                    rw [show (500 : Int32).toInt = 500 from by decide] at f90
                    refine zp_seg (pc' := 102) (lv' := [(7, .ref (m + 7486 + 9 * s8.toNatClampNeg)), (6, .ref (m + 7486 + 9 * s9.toNatClampNeg)), (0, .ref m), (1, .int s9), (2, .int s8), (3, .int n), (4, .int low), (5, .int high)]) (st' := [.int (high + 1)]) [(98, .iload 5), (100, .iconst 1), (101, .iadd)] (by decide +kernel) rfl ?_
                    have k91 := zaddC high 1 (n := 1) (by decide) (by omega) (by omega)
                    generalize ev102 : (high + 1 : Int32) = v102 at k91 ⊢
                    have kv102 := zrng v102
                    refine zp_seg (pc' := 105) (lv' := [(7, .ref (m + 7486 + 9 * s8.toNatClampNeg)), (6, .ref (m + 7486 + 9 * s9.toNatClampNeg)), (0, .ref m), (1, .int s9), (2, .int s8), (3, .int n), (4, .int low), (5, .int high)]) (st' := [.int 500, .int v102]) [(102, .sipush 500)] (by decide +kernel) rfl ?_
                    refine zp_if (i := .if_icmp .le 5) (c := v102 ≤ 500) (t := 110) (e := 108) (lv' := [(7, .ref (m + 7486 + 9 * s8.toNatClampNeg)), (6, .ref (m + 7486 + 9 * s9.toNatClampNeg)), (0, .ref m), (1, .int s9), (2, .int s8), (3, .int n), (4, .int low), (5, .int high)]) (st' := []) (by decide +kernel) rfl (fun cc105 => ?_) (fun cc105 => ?_)
                    ·
                      have f92 := zleI cc105
                      rw [show (500 : Int32).toInt = 500 from by decide] at f92
                      refine zp_seg (pc' := 116) (lv' := [(9, .int 0), (8, .int 0), (7, .ref (m + 7486 + 9 * s8.toNatClampNeg)), (6, .ref (m + 7486 + 9 * s9.toNatClampNeg)), (0, .ref m), (1, .int s9), (2, .int s8), (3, .int n), (4, .int low), (5, .int high)]) (st' := []) [(110, .iconst 0), (111, .istore 8), (113, .iconst 0), (114, .istore 9)] (by decide +kernel) rfl ?_
                      have hL116 : ∀ (mm116 : Nat) (y8_116 : Int32) (y9_116 : Int32), (0 ≤ y9_116.toInt) → (y9_116.toInt ≤ 4) → (zr1 y8_116) → (10 - y9_116.toInt).toNat < mm116 → zP (d + 1) zq_X16_holds 116 [(0, .ref m), (3, .int n), (4, .int low), (5, .int high), (6, .ref (m + 7486 + 9 * s9.toNatClampNeg)), (7, .ref (m + 7486 + 9 * s8.toNatClampNeg)), (8, .int y8_116), (9, .int y9_116)] [] w sz 0 0 Post := by
                        intro mm116
                        induction mm116 with
                        | zero => intros; omega
                        | succ mm116 ih116 =>
                        intro y8_116 y9_116 hi116_0 hi116_1 hS8 hmu116
                        have ky8_116 := zrng y8_116
                        have ky9_116 := zrng y9_116
                        refine zp_seg (pc' := 120) (lv' := [(0, .ref m), (3, .int n), (4, .int low), (5, .int high), (6, .ref (m + 7486 + 9 * s9.toNatClampNeg)), (7, .ref (m + 7486 + 9 * s8.toNatClampNeg)), (8, .int y8_116), (9, .int y9_116)]) (st' := [.ref (m + 7486 + 9 * s9.toNatClampNeg), .int y9_116]) [(116, .iload 9), (118, .aload 6)] (by decide +kernel) rfl ?_
                        refine zr_get (idx := 234) (k := 10) (v := .int (g1 10)) (by decide +kernel) (by decide +kernel) hT1 rfl ?_
                        refine zp_if (i := .if_icmp .gt 59) (c := (g1 10) < y9_116) (t := 182) (e := 126) (lv' := [(0, .ref m), (3, .int n), (4, .int low), (5, .int high), (6, .ref (m + 7486 + 9 * s9.toNatClampNeg)), (7, .ref (m + 7486 + 9 * s8.toNatClampNeg)), (8, .int y8_116), (9, .int y9_116)]) (st' := []) (by decide +kernel) rfl (fun cc123 => ?_) (fun cc123 => ?_)
                        ·
                          have f93 := zltI cc123
                          refine zp_seg (pc' := 190) (lv' := [(0, .ref m), (3, .int n), (4, .int low), (5, .int high), (6, .ref (m + 7486 + 9 * s9.toNatClampNeg)), (7, .ref (m + 7486 + 9 * s8.toNatClampNeg)), (8, .int y8_116), (9, .int y9_116)]) (st' := [.int (high + 1), .int n, .ref (m + 7486 + 9 * s8.toNatClampNeg), .ref m]) [(182, .aload_n 0), (183, .aload 7), (185, .iload_n 3), (186, .iload 5), (188, .iconst 1), (189, .iadd)] (by decide +kernel) rfl ?_
                          have k94 := zaddC high 1 (n := 1) (by decide) (by omega) (by omega)
                          generalize ev190 : (high + 1 : Int32) = v190 at k94 ⊢
                          have kv190 := zrng v190
                          refine zr_callV (idx := 688) (j := 377) (by decide +kernel) (by decide +kernel) (show zMe 377 = some zq_X16_valueAt from rfl) rfl rfl (Nat.le_of_ble_eq_true rfl) rfl rfl hm (Nat.le_of_ble_eq_true rfl) (Nat.le_of_ble_eq_true rfl) (c_X16_valueAt (w := w) m (m + 7486 + 9 * s8.toNatClampNeg) n v190 hm hR_m hkS2 (by first | exact Or.inl (hK20.symm.trans cc47) | exact Or.inr (hK20.symm.trans cc56))) (by omega) (fun v190 w190 hp190 => ?_)
                          obtain ⟨hpw190, r190, rfl, hr190⟩ := hp190
                          replace hpw190 := hpw190.symm
                          subst hpw190
                          have kr190 := zrng r190
                          show zP _ _ _ _ [.int r190] _ _ _ _ _
                          refine zp_seg (pc' := 201) (lv' := [(9, .int r190), (0, .ref m), (3, .int n), (4, .int low), (5, .int high), (6, .ref (m + 7486 + 9 * s9.toNatClampNeg)), (7, .ref (m + 7486 + 9 * s8.toNatClampNeg)), (8, .int y8_116)]) (st' := [.int low, .int n, .ref (m + 7486 + 9 * s8.toNatClampNeg), .ref m]) [(193, .istore 9), (195, .aload_n 0), (196, .aload 7), (198, .iload_n 3), (199, .iload 4)] (by decide +kernel) rfl ?_
                          refine zr_callV (idx := 688) (j := 377) (by decide +kernel) (by decide +kernel) (show zMe 377 = some zq_X16_valueAt from rfl) rfl rfl (Nat.le_of_ble_eq_true rfl) rfl rfl hm (Nat.le_of_ble_eq_true rfl) (Nat.le_of_ble_eq_true rfl) (c_X16_valueAt (w := w) m (m + 7486 + 9 * s8.toNatClampNeg) n low hm hR_m hkS2 (by first | exact Or.inl (hK20.symm.trans cc47) | exact Or.inr (hK20.symm.trans cc56))) (by omega) (fun v201 w201 hp201 => ?_)
                          obtain ⟨hpw201, r201, rfl, hr201⟩ := hp201
                          replace hpw201 := hpw201.symm
                          subst hpw201
                          have kr201 := zrng r201
                          show zP _ _ _ _ [.int r201] _ _ _ _ _
                          refine zp_seg (pc' := 214) (lv' := [(10, .int r201), (9, .int r190), (0, .ref m), (3, .int n), (4, .int low), (5, .int high), (6, .ref (m + 7486 + 9 * s9.toNatClampNeg)), (7, .ref (m + 7486 + 9 * s8.toNatClampNeg)), (8, .int y8_116)]) (st' := [.int (high + 1), .int n, .ref (m + 7486 + 9 * s9.toNatClampNeg), .ref m]) [(204, .istore 10), (206, .aload_n 0), (207, .aload 6), (209, .iload_n 3), (210, .iload 5), (212, .iconst 1), (213, .iadd)] (by decide +kernel) rfl ?_
                          have k95 := zaddC high 1 (n := 1) (by decide) (by omega) (by omega)
                          generalize ev214 : (high + 1 : Int32) = v214 at k95 ⊢
                          have kv214 := zrng v214
                          refine zr_callV (idx := 678) (j := 375) (by decide +kernel) (by decide +kernel) (show zMe 375 = some zq_X16_ratioAt from rfl) rfl rfl (Nat.le_of_ble_eq_true rfl) rfl rfl hm (Nat.le_of_ble_eq_true rfl) (Nat.le_of_ble_eq_true rfl) (c_X16_ratioAt (w := w) m (m + 7486 + 9 * s9.toNatClampNeg) n v214 hm hR_m hT1 hAn1 hAd1 (by exact hKn1) (by exact hKd1) (by exact ⟨by omega, by omega⟩) (by exact ⟨by omega, by omega⟩)) (by omega) (fun v214 w214 hp214 => ?_)
                          obtain ⟨hpw214, r214, rfl, hr214⟩ := hp214
                          replace hpw214 := hpw214.symm
                          subst hpw214
                          have kr214 := zrng r214
                          show zP _ _ _ _ [.int r214] _ _ _ _ _
                          refine zp_seg (pc' := 225) (lv' := [(11, .int r214), (10, .int r201), (9, .int r190), (0, .ref m), (3, .int n), (4, .int low), (5, .int high), (6, .ref (m + 7486 + 9 * s9.toNatClampNeg)), (7, .ref (m + 7486 + 9 * s8.toNatClampNeg)), (8, .int y8_116)]) (st' := [.int low, .int n, .ref (m + 7486 + 9 * s9.toNatClampNeg), .ref m]) [(217, .istore 11), (219, .aload_n 0), (220, .aload 6), (222, .iload_n 3), (223, .iload 4)] (by decide +kernel) rfl ?_
                          refine zr_callV (idx := 678) (j := 375) (by decide +kernel) (by decide +kernel) (show zMe 375 = some zq_X16_ratioAt from rfl) rfl rfl (Nat.le_of_ble_eq_true rfl) rfl rfl hm (Nat.le_of_ble_eq_true rfl) (Nat.le_of_ble_eq_true rfl) (c_X16_ratioAt (w := w) m (m + 7486 + 9 * s9.toNatClampNeg) n low hm hR_m hT1 hAn1 hAd1 (by exact hKn1) (by exact hKd1) (by exact ⟨by omega, by omega⟩) (by exact ⟨by omega, by omega⟩)) (by omega) (fun v225 w225 hp225 => ?_)
                          obtain ⟨hpw225, r225, rfl, hr225⟩ := hp225
                          replace hpw225 := hpw225.symm
                          subst hpw225
                          have kr225 := zrng r225
                          show zP _ _ _ _ [.int r225] _ _ _ _ _
                          refine zp_seg (pc' := 233) (lv' := [(12, .int r225), (11, .int r214), (10, .int r201), (9, .int r190), (0, .ref m), (3, .int n), (4, .int low), (5, .int high), (6, .ref (m + 7486 + 9 * s9.toNatClampNeg)), (7, .ref (m + 7486 + 9 * s8.toNatClampNeg)), (8, .int y8_116)]) (st' := [.int (Int32.ofInt (-1)), .int r190]) [(228, .istore 12), (230, .iload 9), (232, .iconst (-1))] (by decide +kernel) rfl ?_
                          refine zp_if (i := .if_icmp .eq 21) (c := r190 = (Int32.ofInt (-1))) (t := 254) (e := 236) (lv' := [(12, .int r225), (11, .int r214), (10, .int r201), (9, .int r190), (0, .ref m), (3, .int n), (4, .int low), (5, .int high), (6, .ref (m + 7486 + 9 * s9.toNatClampNeg)), (7, .ref (m + 7486 + 9 * s8.toNatClampNeg)), (8, .int y8_116)]) (st' := []) (by decide +kernel) rfl (fun cc233 => ?_) (fun cc233 => ?_)
                          ·
                            have f97 := zeqI cc233
                            rw [show (Int32.ofInt (-1) : Int32).toInt = (-1) from by decide] at f97
                            refine zp_seg (pc' := 255) (lv' := [(12, .int r225), (11, .int r214), (10, .int r201), (9, .int r190), (0, .ref m), (3, .int n), (4, .int low), (5, .int high), (6, .ref (m + 7486 + 9 * s9.toNatClampNeg)), (7, .ref (m + 7486 + 9 * s8.toNatClampNeg)), (8, .int y8_116)]) (st' := [.int (Int32.ofInt (-1))]) [(254, .iconst (-1))] (by decide +kernel) rfl ?_
                            refine zr_retI (by decide +kernel) rfl ?_
                            rw [← hPost]; exact ⟨rfl, _, rfl, rfl, _, rfl, trivial⟩
                          ·
                            have f99 := zneI cc233
                            rw [show (Int32.ofInt (-1) : Int32).toInt = (-1) from by decide] at f99
                            refine zp_seg (pc' := 239) (lv' := [(12, .int r225), (11, .int r214), (10, .int r201), (9, .int r190), (0, .ref m), (3, .int n), (4, .int low), (5, .int high), (6, .ref (m + 7486 + 9 * s9.toNatClampNeg)), (7, .ref (m + 7486 + 9 * s8.toNatClampNeg)), (8, .int y8_116)]) (st' := [.int (Int32.ofInt (-1)), .int r201]) [(236, .iload 10), (238, .iconst (-1))] (by decide +kernel) rfl ?_
                            refine zp_if (i := .if_icmp .eq 15) (c := r201 = (Int32.ofInt (-1))) (t := 254) (e := 242) (lv' := [(12, .int r225), (11, .int r214), (10, .int r201), (9, .int r190), (0, .ref m), (3, .int n), (4, .int low), (5, .int high), (6, .ref (m + 7486 + 9 * s9.toNatClampNeg)), (7, .ref (m + 7486 + 9 * s8.toNatClampNeg)), (8, .int y8_116)]) (st' := []) (by decide +kernel) rfl (fun cc239 => ?_) (fun cc239 => ?_)
                            ·
                              have f100 := zeqI cc239
                              rw [show (Int32.ofInt (-1) : Int32).toInt = (-1) from by decide] at f100
                              refine zp_seg (pc' := 255) (lv' := [(12, .int r225), (11, .int r214), (10, .int r201), (9, .int r190), (0, .ref m), (3, .int n), (4, .int low), (5, .int high), (6, .ref (m + 7486 + 9 * s9.toNatClampNeg)), (7, .ref (m + 7486 + 9 * s8.toNatClampNeg)), (8, .int y8_116)]) (st' := [.int (Int32.ofInt (-1))]) [(254, .iconst (-1))] (by decide +kernel) rfl ?_
                              refine zr_retI (by decide +kernel) rfl ?_
                              rw [← hPost]; exact ⟨rfl, _, rfl, rfl, _, rfl, trivial⟩
                            ·
                              have f101 := zneI cc239
                              rw [show (Int32.ofInt (-1) : Int32).toInt = (-1) from by decide] at f101
                              refine zp_seg (pc' := 245) (lv' := [(12, .int r225), (11, .int r214), (10, .int r201), (9, .int r190), (0, .ref m), (3, .int n), (4, .int low), (5, .int high), (6, .ref (m + 7486 + 9 * s9.toNatClampNeg)), (7, .ref (m + 7486 + 9 * s8.toNatClampNeg)), (8, .int y8_116)]) (st' := [.int (Int32.ofInt (-1)), .int r214]) [(242, .iload 11), (244, .iconst (-1))] (by decide +kernel) rfl ?_
                              refine zp_if (i := .if_icmp .eq 9) (c := r214 = (Int32.ofInt (-1))) (t := 254) (e := 248) (lv' := [(12, .int r225), (11, .int r214), (10, .int r201), (9, .int r190), (0, .ref m), (3, .int n), (4, .int low), (5, .int high), (6, .ref (m + 7486 + 9 * s9.toNatClampNeg)), (7, .ref (m + 7486 + 9 * s8.toNatClampNeg)), (8, .int y8_116)]) (st' := []) (by decide +kernel) rfl (fun cc245 => ?_) (fun cc245 => ?_)
                              ·
                                have f102 := zeqI cc245
                                rw [show (Int32.ofInt (-1) : Int32).toInt = (-1) from by decide] at f102
                                refine zp_seg (pc' := 255) (lv' := [(12, .int r225), (11, .int r214), (10, .int r201), (9, .int r190), (0, .ref m), (3, .int n), (4, .int low), (5, .int high), (6, .ref (m + 7486 + 9 * s9.toNatClampNeg)), (7, .ref (m + 7486 + 9 * s8.toNatClampNeg)), (8, .int y8_116)]) (st' := [.int (Int32.ofInt (-1))]) [(254, .iconst (-1))] (by decide +kernel) rfl ?_
                                refine zr_retI (by decide +kernel) rfl ?_
                                rw [← hPost]; exact ⟨rfl, _, rfl, rfl, _, rfl, trivial⟩
                              ·
                                have f103 := zneI cc245
                                rw [show (Int32.ofInt (-1) : Int32).toInt = (-1) from by decide] at f103
                                refine zp_seg (pc' := 251) (lv' := [(12, .int r225), (11, .int r214), (10, .int r201), (9, .int r190), (0, .ref m), (3, .int n), (4, .int low), (5, .int high), (6, .ref (m + 7486 + 9 * s9.toNatClampNeg)), (7, .ref (m + 7486 + 9 * s8.toNatClampNeg)), (8, .int y8_116)]) (st' := [.int (Int32.ofInt (-1)), .int r225]) [(248, .iload 12), (250, .iconst (-1))] (by decide +kernel) rfl ?_
                                refine zp_if (i := .if_icmp .ne 5) (c := ¬ r225 = (Int32.ofInt (-1))) (t := 256) (e := 254) (lv' := [(12, .int r225), (11, .int r214), (10, .int r201), (9, .int r190), (0, .ref m), (3, .int n), (4, .int low), (5, .int high), (6, .ref (m + 7486 + 9 * s9.toNatClampNeg)), (7, .ref (m + 7486 + 9 * s8.toNatClampNeg)), (8, .int y8_116)]) (st' := []) (by decide +kernel) rfl (fun cc251 => ?_) (fun cc251 => ?_)
                                ·
                                  have f104 := zneI cc251
                                  rw [show (Int32.ofInt (-1) : Int32).toInt = (-1) from by decide] at f104
                                  refine zp_seg (pc' := 262) (lv' := [(12, .int r225), (11, .int r214), (10, .int r201), (9, .int r190), (0, .ref m), (3, .int n), (4, .int low), (5, .int high), (6, .ref (m + 7486 + 9 * s9.toNatClampNeg)), (7, .ref (m + 7486 + 9 * s8.toNatClampNeg)), (8, .int y8_116)]) (st' := [.int r190, .int r214, .int y8_116]) [(256, .iload 8), (258, .iload 11), (260, .iload 9)] (by decide +kernel) rfl ?_
                                  refine zr_callS (idx := 56) (j := 257) (by decide +kernel) (by decide +kernel) (by decide) (show zMe 257 = some zq_X16_mul from rfl) rfl rfl (Nat.le_of_ble_eq_true rfl) rfl rfl (Nat.le_of_ble_eq_true rfl) (Nat.le_of_ble_eq_true rfl) (c_X16_mul (w := w) r214 r190 (by exact hr214.resolve_left cc245) (by exact hr190.resolve_left cc233)) (by omega) (fun v262 w262 hp262 => ?_)
                                  obtain ⟨hpw262, r262, rfl, hr262⟩ := hp262
                                  replace hpw262 := hpw262.symm
                                  subst hpw262
                                  have kr262 := zrng r262
                                  show zP _ _ _ _ [.int r262, .int y8_116] _ _ _ _ _
                                  refine zp_seg (pc' := 269) (lv' := [(12, .int r225), (11, .int r214), (10, .int r201), (9, .int r190), (0, .ref m), (3, .int n), (4, .int low), (5, .int high), (6, .ref (m + 7486 + 9 * s9.toNatClampNeg)), (7, .ref (m + 7486 + 9 * s8.toNatClampNeg)), (8, .int y8_116)]) (st' := [.int r201, .int r225, .int r262, .int y8_116]) [(265, .iload 12), (267, .iload 10)] (by decide +kernel) rfl ?_
                                  refine zr_callS (idx := 56) (j := 257) (by decide +kernel) (by decide +kernel) (by decide) (show zMe 257 = some zq_X16_mul from rfl) rfl rfl (Nat.le_of_ble_eq_true rfl) rfl rfl (Nat.le_of_ble_eq_true rfl) (Nat.le_of_ble_eq_true rfl) (c_X16_mul (w := w) r225 r201 (by exact hr225.resolve_left cc251) (by exact hr201.resolve_left cc239)) (by omega) (fun v269 w269 hp269 => ?_)
                                  obtain ⟨hpw269, r269, rfl, hr269⟩ := hp269
                                  replace hpw269 := hpw269.symm
                                  subst hpw269
                                  have kr269 := zrng r269
                                  show zP _ _ _ _ [.int r269, .int r262, .int y8_116] _ _ _ _ _
                                  refine zr_callS (idx := 46) (j := 256) (by decide +kernel) (by decide +kernel) (by decide) (show zMe 256 = some zq_X16_sub from rfl) rfl rfl (Nat.le_of_ble_eq_true rfl) rfl rfl (Nat.le_of_ble_eq_true rfl) (Nat.le_of_ble_eq_true rfl) (c_X16_sub (w := w) r262 r269 (by first | exact hr262.1 | omega | decide | assumption | exact zr1_1 | exact zr1_0 | fail "num") (by first | exact hr269.1 | omega | decide | assumption | exact zr1_1 | exact zr1_0 | fail "num")) (by omega) (fun v272 w272 hp272 => ?_)
                                  obtain ⟨hpw272, r272, rfl, hr272⟩ := hp272
                                  replace hpw272 := hpw272.symm
                                  subst hpw272
                                  have kr272 := zrng r272
                                  show zP _ _ _ _ [.int r272, .int y8_116] _ _ _ _ _
                                  refine zp_if (i := .if_icmp .ne 7) (c := ¬ y8_116 = r272) (t := 282) (e := 278) (lv' := [(12, .int r225), (11, .int r214), (10, .int r201), (9, .int r190), (0, .ref m), (3, .int n), (4, .int low), (5, .int high), (6, .ref (m + 7486 + 9 * s9.toNatClampNeg)), (7, .ref (m + 7486 + 9 * s8.toNatClampNeg)), (8, .int y8_116)]) (st' := []) (by decide +kernel) rfl (fun cc275 => ?_) (fun cc275 => ?_)
                                  ·
                                    have f105 := zneI cc275
                                    refine zp_seg (pc' := 283) (lv' := [(12, .int r225), (11, .int r214), (10, .int r201), (9, .int r190), (0, .ref m), (3, .int n), (4, .int low), (5, .int high), (6, .ref (m + 7486 + 9 * s9.toNatClampNeg)), (7, .ref (m + 7486 + 9 * s8.toNatClampNeg)), (8, .int y8_116)]) (st' := [.int 0]) [(282, .iconst 0)] (by decide +kernel) rfl ?_
                                    refine zr_retI (by decide +kernel) rfl ?_
                                    rw [← hPost]; exact ⟨rfl, _, rfl, rfl, _, rfl, trivial⟩
                                  ·
                                    replace cc275 := Classical.not_not.mp cc275
                                    have f106 := zeqI cc275
                                    refine zp_seg (pc' := 283) (lv' := [(12, .int r225), (11, .int r214), (10, .int r201), (9, .int r190), (0, .ref m), (3, .int n), (4, .int low), (5, .int high), (6, .ref (m + 7486 + 9 * s9.toNatClampNeg)), (7, .ref (m + 7486 + 9 * s8.toNatClampNeg)), (8, .int y8_116)]) (st' := [.int 1]) [(278, .iconst 1), (279, .goto 4)] (by decide +kernel) rfl ?_
                                    refine zr_retI (by decide +kernel) rfl ?_
                                    rw [← hPost]; exact ⟨rfl, _, rfl, rfl, _, rfl, trivial⟩
                                ·
                                  replace cc251 := Classical.not_not.mp cc251
                                  have f107 := zeqI cc251
                                  rw [show (Int32.ofInt (-1) : Int32).toInt = (-1) from by decide] at f107
                                  refine zp_seg (pc' := 255) (lv' := [(12, .int r225), (11, .int r214), (10, .int r201), (9, .int r190), (0, .ref m), (3, .int n), (4, .int low), (5, .int high), (6, .ref (m + 7486 + 9 * s9.toNatClampNeg)), (7, .ref (m + 7486 + 9 * s8.toNatClampNeg)), (8, .int y8_116)]) (st' := [.int (Int32.ofInt (-1))]) [(254, .iconst (-1))] (by decide +kernel) rfl ?_
                                  refine zr_retI (by decide +kernel) rfl ?_
                                  rw [← hPost]; exact ⟨rfl, _, rfl, rfl, _, rfl, trivial⟩
                        ·
                          have f108 := znltI cc123
                          refine zp_seg (pc' := 133) (lv' := [(0, .ref m), (3, .int n), (4, .int low), (5, .int high), (6, .ref (m + 7486 + 9 * s9.toNatClampNeg)), (7, .ref (m + 7486 + 9 * s8.toNatClampNeg)), (8, .int y8_116), (9, .int y9_116)]) (st' := [.int (n + y9_116), .ref (m + 7486 + 9 * s8.toNatClampNeg), .ref m]) [(126, .aload_n 0), (127, .aload 7), (129, .iload_n 3), (130, .iload 9), (132, .iadd)] (by decide +kernel) rfl ?_
                          have k109 := zadd n y9_116 (by omega) (by omega)
                          generalize ev133 : (n + y9_116 : Int32) = v133 at k109 ⊢
                          have kv133 := zrng v133
                          refine zp_seg (pc' := 137) (lv' := [(0, .ref m), (3, .int n), (4, .int low), (5, .int high), (6, .ref (m + 7486 + 9 * s9.toNatClampNeg)), (7, .ref (m + 7486 + 9 * s8.toNatClampNeg)), (8, .int y8_116), (9, .int y9_116)]) (st' := [.int high, .int low, .int v133, .ref (m + 7486 + 9 * s8.toNatClampNeg), .ref m]) [(133, .iload 4), (135, .iload 5)] (by decide +kernel) rfl ?_
                          refine zr_callV (idx := 691) (j := 379) (by decide +kernel) (by decide +kernel) (show zMe 379 = some zq_X16_sumOf from rfl) rfl rfl (Nat.le_of_ble_eq_true rfl) rfl rfl hm (Nat.le_of_ble_eq_true rfl) (Nat.le_of_ble_eq_true rfl) (c_X16_sumOf (w := w) m (m + 7486 + 9 * s8.toNatClampNeg) v133 low high hm hR_m hkS2 (by first | exact Or.inl (hK20.symm.trans cc47) | exact Or.inr (hK20.symm.trans cc56)) (by first | omega | decide | assumption | exact zr1_1 | exact zr1_0 | fail "num") (by first | omega | decide | assumption | exact zr1_1 | exact zr1_0 | fail "num")) (by omega) (fun v137 w137 hp137 => ?_)
                          obtain ⟨hpw137, r137, rfl, hr137⟩ := hp137
                          replace hpw137 := hpw137.symm
                          subst hpw137
                          have kr137 := zrng r137
                          show zP _ _ _ _ [.int r137] _ _ _ _ _
                          refine zp_seg (pc' := 145) (lv' := [(10, .int r137), (0, .ref m), (3, .int n), (4, .int low), (5, .int high), (6, .ref (m + 7486 + 9 * s9.toNatClampNeg)), (7, .ref (m + 7486 + 9 * s8.toNatClampNeg)), (8, .int y8_116), (9, .int y9_116)]) (st' := [.int (Int32.ofInt (-1)), .int r137]) [(140, .istore 10), (142, .iload 10), (144, .iconst (-1))] (by decide +kernel) rfl ?_
                          refine zp_if (i := .if_icmp .ne 5) (c := ¬ r137 = (Int32.ofInt (-1))) (t := 150) (e := 148) (lv' := [(10, .int r137), (0, .ref m), (3, .int n), (4, .int low), (5, .int high), (6, .ref (m + 7486 + 9 * s9.toNatClampNeg)), (7, .ref (m + 7486 + 9 * s8.toNatClampNeg)), (8, .int y8_116), (9, .int y9_116)]) (st' := []) (by decide +kernel) rfl (fun cc145 => ?_) (fun cc145 => ?_)
                          ·
                            have f111 := zneI cc145
                            rw [show (Int32.ofInt (-1) : Int32).toInt = (-1) from by decide] at f111
                            refine zp_seg (pc' := 154) (lv' := [(10, .int r137), (0, .ref m), (3, .int n), (4, .int low), (5, .int high), (6, .ref (m + 7486 + 9 * s9.toNatClampNeg)), (7, .ref (m + 7486 + 9 * s8.toNatClampNeg)), (8, .int y8_116), (9, .int y9_116)]) (st' := [.ref (m + 7486 + 9 * s9.toNatClampNeg), .int y8_116]) [(150, .iload 8), (152, .aload 6)] (by decide +kernel) rfl ?_
                            refine zr_get (idx := 237) (k := 11) (v := .ref (m + 7486 + 9 * s9.toNatClampNeg + 7)) (by decide +kernel) (by decide +kernel) hT1 rfl ?_
                            refine zp_seg (pc' := 162) (lv' := [(10, .int r137), (0, .ref m), (3, .int n), (4, .int low), (5, .int high), (6, .ref (m + 7486 + 9 * s9.toNatClampNeg)), (7, .ref (m + 7486 + 9 * s8.toNatClampNeg)), (8, .int y8_116), (9, .int y9_116)]) (st' := [.int (25 * y9_116), .ref (m + 7486 + 9 * s9.toNatClampNeg + 7), .int y8_116]) [(157, .bipush 25), (159, .iload 9), (161, .imul)] (by decide +kernel) rfl ?_
                            have k112 := zmulCl 25 y9_116 (n := 25) (by decide) (by omega) (by omega)
                            generalize ev162 : (25 * y9_116 : Int32) = v162 at k112 ⊢
                            have kv162 := zrng v162
                            refine zp_seg (pc' := 163) (lv' := [(10, .int r137), (0, .ref m), (3, .int n), (4, .int low), (5, .int high), (6, .ref (m + 7486 + 9 * s9.toNatClampNeg)), (7, .ref (m + 7486 + 9 * s8.toNatClampNeg)), (8, .int y8_116), (9, .int y9_116)]) (st' := [.int n, .int v162, .ref (m + 7486 + 9 * s9.toNatClampNeg + 7), .int y8_116]) [(162, .iload_n 3)] (by decide +kernel) rfl ?_
                            refine zr_callS (idx := 772) (j := 399) (by decide +kernel) (by decide +kernel) (by decide) (show zMe 399 = some zq_X16_polynomialAt from rfl) rfl rfl (Nat.le_of_ble_eq_true rfl) rfl rfl (Nat.le_of_ble_eq_true rfl) (Nat.le_of_ble_eq_true rfl) (c_X16_polynomialAt (w := w) (m + 7486 + 9 * s9.toNatClampNeg + 7) v162 n hAr1 (by exact hKr1) (by first | omega | decide | assumption | exact zr1_1 | exact zr1_0 | fail "num") (by exact ⟨by omega, by omega⟩)) (by omega) (fun v163 w163 hp163 => ?_)
                            obtain ⟨hpw163, r163, rfl, hr163⟩ := hp163
                            replace hpw163 := hpw163.symm
                            subst hpw163
                            have kr163 := zrng r163
                            show zP _ _ _ _ [.int r163, .int y8_116] _ _ _ _ _
                            refine zp_seg (pc' := 168) (lv' := [(10, .int r137), (0, .ref m), (3, .int n), (4, .int low), (5, .int high), (6, .ref (m + 7486 + 9 * s9.toNatClampNeg)), (7, .ref (m + 7486 + 9 * s8.toNatClampNeg)), (8, .int y8_116), (9, .int y9_116)]) (st' := [.int r137, .int r163, .int y8_116]) [(166, .iload 10)] (by decide +kernel) rfl ?_
                            refine zr_callS (idx := 56) (j := 257) (by decide +kernel) (by decide +kernel) (by decide) (show zMe 257 = some zq_X16_mul from rfl) rfl rfl (Nat.le_of_ble_eq_true rfl) rfl rfl (Nat.le_of_ble_eq_true rfl) (Nat.le_of_ble_eq_true rfl) (c_X16_mul (w := w) r163 r137 (by first | exact hr163.1 | omega | decide | assumption | exact zr1_1 | exact zr1_0 | fail "num") (by exact hr137.resolve_left cc145)) (by omega) (fun v168 w168 hp168 => ?_)
                            obtain ⟨hpw168, r168, rfl, hr168⟩ := hp168
                            replace hpw168 := hpw168.symm
                            subst hpw168
                            have kr168 := zrng r168
                            show zP _ _ _ _ [.int r168, .int y8_116] _ _ _ _ _
                            refine zr_callS (idx := 49) (j := 255) (by decide +kernel) (by decide +kernel) (by decide) (show zMe 255 = some zq_X16_add from rfl) rfl rfl (Nat.le_of_ble_eq_true rfl) rfl rfl (Nat.le_of_ble_eq_true rfl) (Nat.le_of_ble_eq_true rfl) (c_X16_add (w := w) y8_116 r168 (by exact hS8) (by first | exact hr168.1 | omega | decide | assumption | exact zr1_1 | exact zr1_0 | fail "num")) (by omega) (fun v171 w171 hp171 => ?_)
                            obtain ⟨hpw171, r171, rfl, hr171⟩ := hp171
                            replace hpw171 := hpw171.symm
                            subst hpw171
                            have kr171 := zrng r171
                            show zP _ _ _ _ [.int r171] _ _ _ _ _
                            refine zp_seg (pc' := 179) (lv' := [(9, .int (y9_116 + 1)), (8, .int r171), (10, .int r137), (0, .ref m), (3, .int n), (4, .int low), (5, .int high), (6, .ref (m + 7486 + 9 * s9.toNatClampNeg)), (7, .ref (m + 7486 + 9 * s8.toNatClampNeg))]) (st' := []) [(174, .istore 8), (176, .iinc 9 1)] (by decide +kernel) rfl ?_
                            have k113 := zaddC y9_116 1 (n := 1) (by decide) (by omega) (by omega)
                            generalize ev179 : (y9_116 + 1 : Int32) = v179 at k113 ⊢
                            have kv179 := zrng v179
                            refine zp_seg (pc' := 116) (lv' := [(9, .int v179), (8, .int r171), (10, .int r137), (0, .ref m), (3, .int n), (4, .int low), (5, .int high), (6, .ref (m + 7486 + 9 * s9.toNatClampNeg)), (7, .ref (m + 7486 + 9 * s8.toNatClampNeg))]) (st' := []) [(179, .goto (-63))] (by decide +kernel) rfl ?_
                            exact (ih116 r171 v179 (by first | assumption | omega | decide) (by first | assumption | omega | decide) (by
                                  exact hr171.1) (by omega)).more (zfa1 rfl (zfa1 rfl (zfa1 rfl (zfa1 rfl (zfa1 rfl (zfa1 rfl (zfa1 rfl (zfa1 rfl (zfa0)))))))))
                          ·
                            replace cc145 := Classical.not_not.mp cc145
                            have f115 := zeqI cc145
                            rw [show (Int32.ofInt (-1) : Int32).toInt = (-1) from by decide] at f115
                            refine zp_seg (pc' := 149) (lv' := [(10, .int r137), (0, .ref m), (3, .int n), (4, .int low), (5, .int high), (6, .ref (m + 7486 + 9 * s9.toNatClampNeg)), (7, .ref (m + 7486 + 9 * s8.toNatClampNeg)), (8, .int y8_116), (9, .int y9_116)]) (st' := [.int (Int32.ofInt (-1))]) [(148, .iconst (-1))] (by decide +kernel) rfl ?_
                            refine zr_retI (by decide +kernel) rfl ?_
                            rw [← hPost]; exact ⟨rfl, _, rfl, rfl, _, rfl, trivial⟩
                      have hl116 : (0 : Int32).toInt = 0 := by decide
                      exact (hL116 _ 0 0 (by first | assumption | omega | decide) (by first | assumption | omega | decide) (by
                            exact zr1_0) (Nat.lt_succ_self _)).more (zfa1 rfl (zfa1 rfl (zfa1 rfl (zfa1 rfl (zfa1 rfl (zfa1 rfl (zfa1 rfl (zfa1 rfl (zfa0)))))))))
                    ·
                      have f117 := znleI cc105
                      rw [show (500 : Int32).toInt = 500 from by decide] at f117
                      refine zp_seg (pc' := 109) (lv' := [(7, .ref (m + 7486 + 9 * s8.toNatClampNeg)), (6, .ref (m + 7486 + 9 * s9.toNatClampNeg)), (0, .ref m), (1, .int s9), (2, .int s8), (3, .int n), (4, .int low), (5, .int high)]) (st' := [.int (Int32.ofInt (-1))]) [(108, .iconst (-1))] (by decide +kernel) rfl ?_
                      refine zr_retI (by decide +kernel) rfl ?_
                      rw [← hPost]; exact ⟨rfl, _, rfl, rfl, _, rfl, trivial⟩
          ·
            have f120 := zneI cc56
            rw [show (2 : Int32).toInt = 2 from by decide] at f120
            refine zp_seg (pc' := 61) (lv' := [(7, .ref (m + 7486 + 9 * s8.toNatClampNeg)), (6, .ref (m + 7486 + 9 * s9.toNatClampNeg)), (0, .ref m), (1, .int s9), (2, .int s8), (3, .int n), (4, .int low), (5, .int high)]) (st' := [.int (Int32.ofInt (-3))]) [(59, .bipush (-3))] (by decide +kernel) rfl ?_
            refine zr_retI (by decide +kernel) rfl ?_
            rw [← hPost]; exact ⟨rfl, _, rfl, rfl, _, rfl, trivial⟩
    ·
      replace cc11 := Classical.not_not.mp cc11
      have f122 := zeqI cc11
      rw [show (0 : Int32).toInt = 0 from by decide] at f122
      refine zp_seg (pc' := 15) (lv' := [(0, .ref m), (1, .int s9), (2, .int s8), (3, .int n), (4, .int low), (5, .int high)]) (st' := [.int (Int32.ofInt (-1))]) [(14, .iconst (-1))] (by decide +kernel) rfl ?_
      refine zr_retI (by decide +kernel) rfl ?_
      rw [← hPost]; exact ⟨rfl, _, rfl, rfl, _, rfl, trivial⟩
