set_option maxHeartbeats 8000000 in
set_option maxRecDepth 100000 in
theorem c_X16_times {w : zM} {cap ca cb : Nat} {p q : zA1} (to : Nat) (a : Nat) (b : Nat) (hUo_to : zUo w to cap) (hU_a : zU w a ca p) (hU_b : zU w b cb q) (hta : to ≠ a) (htb : to ≠ b) (hcap : zln p + zln q ≤ cap + 1) (hcb : zln p + zln q ≤ 100000) : zCon 1 zq_X16_times [.ref to, .ref a, .ref b] w (fun v9 w9' => zSI w w9' ∧ (∀ x, (x < to ∨ to + 2 ≤ x) → w9' x = w x) ∧ zU w9' to cap (zaM p q) ∧ v9 = none) := by
  intro d sz hd
  obtain ⟨d, rfl⟩ : ∃ d9, d = d9 + 1 := ⟨d - 1, by omega⟩
  generalize hPost : (fun (r9' : Option (Option Value)) (w9' : zM) (z9 : Nat) => z9 = sz ∧ ∃ v9, r9' = some v9 ∧ (zSI w w9' ∧ (∀ x, (x < to ∨ to + 2 ≤ x) → w9' x = w x) ∧ zU w9' to cap (zaM p q) ∧ v9 = none)) = Post
  show zP (d + 1) zq_X16_times 0 [(0, .ref to), (1, .ref a), (2, .ref b)] [] w sz 0 0 Post
  have hn1 := hUo_to.ne hU_a.o
  have hn2 := hUo_to.ne hU_b.o
  have hn3 := hU_a.o.ne hUo_to
  have hn4 := hU_b.o.ne hUo_to
  obtain ⟨na, fa, ha1, ha2, ha3, ha4, ha5⟩ := id hU_a
  have kna := zrng na
  have k1 := zrng na
  have hz2 : (na.toNatClampNeg : Int) = na.toInt := znat (by first | omega | decide)
  obtain ⟨nb, fb, hb1, hb2, hb3, hb4, hb5⟩ := id hU_b
  have knb := zrng nb
  have k3 := zrng nb
  have hz4 : (nb.toNatClampNeg : Int) = nb.toInt := znat (by first | omega | decide)
  obtain ⟨nto, fto, hto1, hto2⟩ := id hUo_to
  refine zp_seg (pc' := 1) (lv' := [(0, .ref to), (1, .ref a), (2, .ref b)]) (st' := [.ref a]) [(0, .aload_n 1)] (by decide +kernel) rfl ?_
  refine zr_get (idx := 25) (k := 1) (v := .int na) (by decide +kernel) (by decide +kernel) ha1 rfl ?_
  refine zp_if (i := .ifCond .eq 10) (c := na = 0) (t := 14) (e := 7) (lv' := [(0, .ref to), (1, .ref a), (2, .ref b)]) (st' := []) (by decide +kernel) rfl (fun cc4 => ?_) (fun cc4 => ?_)
  ·
    have f6 := zeqI cc4
    rw [show (0 : Int32).toInt = 0 from by decide] at f6
    refine zp_seg (pc' := 16) (lv' := [(0, .ref to), (1, .ref a), (2, .ref b)]) (st' := [.int 0, .ref to]) [(14, .aload_n 0), (15, .iconst 0)] (by decide +kernel) rfl ?_
    refine zr_put2 (idx := 25) (k := 1) (fs2 := [.ref (to + 1), .int 0]) (by decide +kernel) (by decide +kernel) hto1 (Nat.le_of_ble_eq_true rfl) rfl rfl rfl ?_
    show zP (d + 1) zq_X16_times 19 [(0, .ref to), (1, .ref a), (2, .ref b)] [] (zup w to (.inl (14, [.ref (to + 1), .int 0]))) sz 0 0 Post
    obtain ⟨w16, ew16⟩ : ∃ wz9, wz9 = zup w to (.inl (14, [.ref (to + 1), .int 0])) := ⟨_, rfl⟩
    have hsi16 : zSI w w16 := by rw [ew16]; exact zSI.setU hto1
    have heq16 : ∀ x, x ≠ to → w16 x = w x := fun x hx => by rw [ew16]; exact zup_n hx
    have hc16 : w16 to = some (.inl (14, [.ref (to + 1), .int 0])) := by rw [ew16]; exact zup_s
    rw [← ew16]
    clear ew16
    have hoffend : ∀ x, (x < to ∨ to + 2 ≤ x) → w16 x = w x := fun x hx => (heq16 x (by omega))
    have hb7 : w16 (to + 1) = some (.inr (0, cap, .inl fto)) := (heq16 (to + 1) (by omega)).trans hto2
    refine zr_retV (by decide +kernel) rfl ?_
    rw [← hPost]; exact ⟨rfl, _, rfl, hsi16, hoffend, (by
          first
            | (have e : zaM p q = zaZ := by
                 rcases Nat.eq_zero_or_pos (zln p) with e | e
                 · rw [zln_0.mp e]; exact zaM_Zl q
                 · rw [zln_0.mp (show zln q = 0 by omega)]; exact zaM_Zr p
               rw [e]
               exact zU.mk0 hc16 hb7)
            | (have e := zln_M (p := p) (q := q) (by omega) (by omega)
               exact zU.mk hc16 hb7 (by omega) (by omega) (fun i hi => hgtv i (by omega)))), rfl⟩
  ·
    have f9 := zneI cc4
    rw [show (0 : Int32).toInt = 0 from by decide] at f9
    refine zp_seg (pc' := 8) (lv' := [(0, .ref to), (1, .ref a), (2, .ref b)]) (st' := [.ref b]) [(7, .aload_n 2)] (by decide +kernel) rfl ?_
    refine zr_get (idx := 25) (k := 1) (v := .int nb) (by decide +kernel) (by decide +kernel) hb1 rfl ?_
    refine zp_if (i := .ifCond .ne 9) (c := ¬ nb = 0) (t := 20) (e := 14) (lv' := [(0, .ref to), (1, .ref a), (2, .ref b)]) (st' := []) (by decide +kernel) rfl (fun cc11 => ?_) (fun cc11 => ?_)
    ·
      have f10 := zneI cc11
      rw [show (0 : Int32).toInt = 0 from by decide] at f10
      refine zp_seg (pc' := 21) (lv' := [(0, .ref to), (1, .ref a), (2, .ref b)]) (st' := [.ref a]) [(20, .aload_n 1)] (by decide +kernel) rfl ?_
      refine zr_get (idx := 25) (k := 1) (v := .int na) (by decide +kernel) (by decide +kernel) ha1 rfl ?_
      refine zp_seg (pc' := 25) (lv' := [(0, .ref to), (1, .ref a), (2, .ref b)]) (st' := [.ref b, .int na]) [(24, .aload_n 2)] (by decide +kernel) rfl ?_
      refine zr_get (idx := 25) (k := 1) (v := .int nb) (by decide +kernel) (by decide +kernel) hb1 rfl ?_
      refine zp_seg (pc' := 29) (lv' := [(0, .ref to), (1, .ref a), (2, .ref b)]) (st' := [.int (na + nb)]) [(28, .iadd)] (by decide +kernel) rfl ?_
      have k11 := zadd na nb (by omega) (by omega)
      generalize ev29 : (na + nb : Int32) = v29 at k11 ⊢
      have kv29 := zrng v29
      refine zp_seg (pc' := 31) (lv' := [(0, .ref to), (1, .ref a), (2, .ref b)]) (st' := [.int (v29 - 1)]) [(29, .iconst 1), (30, .isub)] (by decide +kernel) rfl ?_
      have k12 := zsubC v29 1 (n := 1) (by decide) (by omega) (by omega)
      generalize ev31 : (v29 - 1 : Int32) = v31 at k12 ⊢
      have kv31 := zrng v31
      refine zp_seg (pc' := 35) (lv' := [(4, .int 0), (3, .int v31), (0, .ref to), (1, .ref a), (2, .ref b)]) (st' := []) [(31, .istore_n 3), (32, .iconst 0), (33, .istore 4)] (by decide +kernel) rfl ?_
      have hL35 : ∀ (mm35 : Nat) (wL35 : zM) (y4_35 : Int32), (zSI w wL35) → (∀ x, (x < to + 1 ∨ to + 1 + 1 ≤ x) → wL35 x = w x) → (0 ≤ y4_35.toInt) → (y4_35.toInt ≤ v31.toInt) → (∃ gt, wL35 (to + 1) = some (.inr (0, cap, .inl gt)) ∧ ∀ t, t < y4_35.toNatClampNeg → zr1 (gt t) ∧ zf (gt t) = (zaM p q).1 t) → (2147483647 - y4_35.toInt).toNat < mm35 → zP (d + 1) zq_X16_times 35 [(0, .ref to), (1, .ref a), (2, .ref b), (3, .int v31), (4, .int y4_35)] [] wL35 sz 0 0 Post := by
        intro mm35
        induction mm35 with
        | zero => intros; omega
        | succ mm35 ih35 =>
        intro wL35 y4_35 hsiL35 heqL35 hi35_0 hi35_1 hT hmu35
        have ky4_35 := zrng y4_35
        refine zp_seg (pc' := 38) (lv' := [(0, .ref to), (1, .ref a), (2, .ref b), (3, .int v31), (4, .int y4_35)]) (st' := [.int v31, .int y4_35]) [(35, .iload 4), (37, .iload_n 3)] (by decide +kernel) rfl ?_
        refine zp_if (i := .if_icmp .ge 96) (c := v31 ≤ y4_35) (t := 134) (e := 41) (lv' := [(0, .ref to), (1, .ref a), (2, .ref b), (3, .int v31), (4, .int y4_35)]) (st' := []) (by decide +kernel) rfl (fun cc38 => ?_) (fun cc38 => ?_)
        ·
          have f13 := zleI cc38
          obtain ⟨gt, hgt, hgtv⟩ := id hT
          have hz14 : (y4_35.toNatClampNeg : Int) = y4_35.toInt := znat (by first | omega | decide)
          have hz15 : (v31.toNatClampNeg : Int) = v31.toInt := znat (by first | omega | decide)
          refine zp_seg (pc' := 136) (lv' := [(0, .ref to), (1, .ref a), (2, .ref b), (3, .int v31), (4, .int y4_35)]) (st' := [.int v31, .ref to]) [(134, .aload_n 0), (135, .iload_n 3)] (by decide +kernel) rfl ?_
          have hb16 : wL35 to = some (.inl (14, [.ref (to + 1), .int nto])) := (heqL35 to (by omega)).trans hto1
          refine zr_put2 (idx := 25) (k := 1) (fs2 := [.ref (to + 1), .int v31]) (by decide +kernel) (by decide +kernel) hb16 (Nat.le_of_ble_eq_true rfl) rfl rfl rfl ?_
          show zP (d + 1) zq_X16_times 139 [(0, .ref to), (1, .ref a), (2, .ref b), (3, .int v31), (4, .int y4_35)] [] (zup wL35 to (.inl (14, [.ref (to + 1), .int v31]))) sz 0 0 Post
          obtain ⟨w136, ew136⟩ : ∃ wz9, wz9 = zup wL35 to (.inl (14, [.ref (to + 1), .int v31])) := ⟨_, rfl⟩
          have hsi136 : zSI wL35 w136 := by rw [ew136]; exact zSI.setU hb16
          have heq136 : ∀ x, x ≠ to → w136 x = wL35 x := fun x hx => by rw [ew136]; exact zup_n hx
          have hc136 : w136 to = some (.inl (14, [.ref (to + 1), .int v31])) := by rw [ew136]; exact zup_s
          rw [← ew136]
          clear ew136
          have hoffend : ∀ x, (x < to ∨ to + 2 ≤ x) → w136 x = w x := fun x hx => ((heq136 x (by omega)).trans (heqL35 x (by omega)))
          have hb17 : w136 (to + 1) = some (.inr (0, cap, .inl gt)) := (heq136 (to + 1) (by omega)).trans hgt
          refine zr_retV (by decide +kernel) rfl ?_
          rw [← hPost]; exact ⟨rfl, _, rfl, (hsiL35.tr hsi136), hoffend, (by
                first
                  | (have e : zaM p q = zaZ := by
                       rcases Nat.eq_zero_or_pos (zln p) with e | e
                       · rw [zln_0.mp e]; exact zaM_Zl q
                       · rw [zln_0.mp (show zln q = 0 by omega)]; exact zaM_Zr p
                     rw [e]
                     exact zU.mk0 hc136 hb17)
                  | (have e := zln_M (p := p) (q := q) (by omega) (by omega)
                     exact zU.mk hc136 hb17 (by omega) (by omega) (fun i hi => hgtv i (by omega)))), rfl⟩
        ·
          have f18 := znleI cc38
          obtain ⟨gt, hgt, hgtv⟩ := id hT
          have hz19 : (y4_35.toNatClampNeg : Int) = y4_35.toInt := znat (by first | omega | decide)
          refine zp_seg (pc' := 48) (lv' := [(5, .long 0), (0, .ref to), (1, .ref a), (2, .ref b), (3, .int v31), (4, .int y4_35)]) (st' := [.ref b, .int y4_35, .int 0]) [(41, .lconst 0), (42, .lstore 5), (44, .iconst 0), (45, .iload 4), (47, .aload_n 2)] (by decide +kernel) rfl ?_
          have hb20 : wL35 b = some (.inl (14, [.ref (b + 1), .int nb])) := (heqL35 b (by omega)).trans hb1
          refine zr_get (idx := 25) (k := 1) (v := .int nb) (by decide +kernel) (by decide +kernel) hb20 rfl ?_
          refine zp_seg (pc' := 52) (lv' := [(5, .long 0), (0, .ref to), (1, .ref a), (2, .ref b), (3, .int v31), (4, .int y4_35)]) (st' := [.int (y4_35 - nb), .int 0]) [(51, .isub)] (by decide +kernel) rfl ?_
          have k21 := zsub y4_35 nb (by omega) (by omega)
          generalize ev52 : (y4_35 - nb : Int32) = v52 at k21 ⊢
          have kv52 := zrng v52
          refine zp_seg (pc' := 54) (lv' := [(5, .long 0), (0, .ref to), (1, .ref a), (2, .ref b), (3, .int v31), (4, .int y4_35)]) (st' := [.int (v52 + 1), .int 0]) [(52, .iconst 1), (53, .iadd)] (by decide +kernel) rfl ?_
          have k22 := zaddC v52 1 (n := 1) (by decide) (by omega) (by omega)
          generalize ev54 : (v52 + 1 : Int32) = v54 at k22 ⊢
          have kv54 := zrng v54
          have hl23 : (0 : Int32).toInt = 0 := by decide
          refine zr_max (idx := 40) (by decide +kernel) (by decide +kernel) (by omega) (Nat.le_of_ble_eq_true rfl) ?_
          obtain ⟨m24, em24, hm24⟩ := zmaxI 0 v54
          rw [← em24]
          have km24 := zrng m24
          refine zp_seg (pc' := 62) (lv' := [(7, .int m24), (5, .long 0), (0, .ref to), (1, .ref a), (2, .ref b), (3, .int v31), (4, .int y4_35)]) (st' := [.ref a, .int y4_35]) [(57, .istore 7), (59, .iload 4), (61, .aload_n 1)] (by decide +kernel) rfl ?_
          have hb25 : wL35 a = some (.inl (14, [.ref (a + 1), .int na])) := (heqL35 a (by omega)).trans ha1
          refine zr_get (idx := 25) (k := 1) (v := .int na) (by decide +kernel) (by decide +kernel) hb25 rfl ?_
          refine zp_seg (pc' := 67) (lv' := [(7, .int m24), (5, .long 0), (0, .ref to), (1, .ref a), (2, .ref b), (3, .int v31), (4, .int y4_35)]) (st' := [.int (na - 1), .int y4_35]) [(65, .iconst 1), (66, .isub)] (by decide +kernel) rfl ?_
          have k26 := zsubC na 1 (n := 1) (by decide) (by omega) (by omega)
          generalize ev67 : (na - 1 : Int32) = v67 at k26 ⊢
          have kv67 := zrng v67
          refine zr_min (idx := 59) (by decide +kernel) (by decide +kernel) (by omega) (Nat.le_of_ble_eq_true rfl) ?_
          obtain ⟨m27, em27, hm27⟩ := zminI y4_35 v67
          rw [← em27]
          have km27 := zrng m27
          refine zp_seg (pc' := 74) (lv' := [(8, .int m27), (7, .int m24), (5, .long 0), (0, .ref to), (1, .ref a), (2, .ref b), (3, .int v31), (4, .int y4_35)]) (st' := [.int m24]) [(70, .istore 8), (72, .iload 7)] (by decide +kernel) rfl ?_
          have hz28 : (m24.toNatClampNeg : Int) = m24.toInt := znat (by first | omega | decide)
          have hz29 : (m27.toNatClampNeg : Int) = m27.toInt := znat (by first | omega | decide)
          refine zp_seg (pc' := 76) (lv' := [(9, .int m24), (8, .int m27), (7, .int m24), (5, .long 0), (0, .ref to), (1, .ref a), (2, .ref b), (3, .int v31), (4, .int y4_35)]) (st' := []) [(74, .istore 9)] (by decide +kernel) rfl ?_
          have hL76 : ∀ (mm76 : Nat) (y5_76 : Int64) (y9_76 : Int32), (0 ≤ y5_76.toInt) → (y5_76.toInt < 2147483647) → (m24.toInt ≤ y9_76.toInt) → (y9_76.toInt ≤ m27.toInt + 1) → (zfI y5_76.toInt = zSm y9_76.toNatClampNeg (fun t => p.1 t * q.1 (y4_35.toNatClampNeg - t))) → (2147483647 - y9_76.toInt).toNat < mm76 → zP (d + 1) zq_X16_times 76 [(0, .ref to), (1, .ref a), (2, .ref b), (3, .int v31), (4, .int y4_35), (5, .long y5_76), (8, .int m27), (9, .int y9_76)] [] wL35 sz 0 0 Post := by
            intro mm76
            induction mm76 with
            | zero => intros; omega
            | succ mm76 ih76 =>
            intro y5_76 y9_76 hi76_0 hi76_1 hi76_2 hi76_3 hS hmu76
            have ky5_76 := zrngL y5_76
            have ky9_76 := zrng y9_76
            refine zp_seg (pc' := 80) (lv' := [(0, .ref to), (1, .ref a), (2, .ref b), (3, .int v31), (4, .int y4_35), (5, .long y5_76), (8, .int m27), (9, .int y9_76)]) (st' := [.int m27, .int y9_76]) [(76, .iload 9), (78, .iload 8)] (by decide +kernel) rfl ?_
            refine zp_if (i := .if_icmp .gt 38) (c := m27 < y9_76) (t := 118) (e := 83) (lv' := [(0, .ref to), (1, .ref a), (2, .ref b), (3, .int v31), (4, .int y4_35), (5, .long y5_76), (8, .int m27), (9, .int y9_76)]) (st' := []) (by decide +kernel) rfl (fun cc80 => ?_) (fun cc80 => ?_)
            ·
              have f30 := zltI cc80
              have hz31 : (y9_76.toNatClampNeg : Int) = y9_76.toInt := znat (by first | omega | decide)
              refine zp_seg (pc' := 119) (lv' := [(0, .ref to), (1, .ref a), (2, .ref b), (3, .int v31), (4, .int y4_35), (5, .long y5_76), (8, .int m27), (9, .int y9_76)]) (st' := [.ref to]) [(118, .aload_n 0)] (by decide +kernel) rfl ?_
              have hb32 : wL35 to = some (.inl (14, [.ref (to + 1), .int nto])) := (heqL35 to (by omega)).trans hto1
              refine zr_get (idx := 30) (k := 0) (v := .ref (to + 1)) (by decide +kernel) (by decide +kernel) hb32 rfl ?_
              refine zp_seg (pc' := 127) (lv' := [(0, .ref to), (1, .ref a), (2, .ref b), (3, .int v31), (4, .int y4_35), (5, .long y5_76), (8, .int m27), (9, .int y9_76)]) (st' := [.int (y5_76.toInt32), .int y4_35, .ref (to + 1)]) [(122, .iload 4), (124, .lload 5), (126, .l2i)] (by decide +kernel) rfl ?_
              have k33 := zl2iE y5_76 (by omega) (by omega)
              generalize ev127 : (y5_76.toInt32 : Int32) = v127 at k33 ⊢
              have kv127 := zrng v127
              have hval : zr1 v127 ∧ zf v127 = (zaM p q).1 y4_35.toNatClampNeg := by
                refine ⟨show 0 ≤ Int32.toInt _ ∧ Int32.toInt _ < 2147483647 by omega, ?_⟩
                show zfI v127.toInt = zcv p.1 q.1 _
                rw [show v127.toInt = y5_76.toInt by omega, hS]
                refine Eq.trans ?_ (zcv_sum q.1 _ p.1).symm
                refine (zSm_cut _ _ _ (by omega) fun t h1 h2 => ?_).symm
                rw [zln_dg p t (by omega)]
                exact zF_0m _
              refine zr_iast (by decide +kernel) hgt (zin (by first | omega | decide) (by first | omega | decide)) ?_
              show zP (d + 1) zq_X16_times 128 [(0, .ref to), (1, .ref a), (2, .ref b), (3, .int v31), (4, .int y4_35), (5, .long y5_76), (8, .int m27), (9, .int y9_76)] [] (zup wL35 (to + 1) (.inr (0, cap, .inl (upd gt (y4_35.toNatClampNeg) v127)))) sz 0 0 Post
              obtain ⟨w127, ew127⟩ : ∃ wz9, wz9 = zup wL35 (to + 1) (.inr (0, cap, .inl (upd gt (y4_35.toNatClampNeg) v127))) := ⟨_, rfl⟩
              have hsi127 : zSI wL35 w127 := by rw [ew127]; exact zSI.arr _ hgt
              have heq127 : ∀ x, x ≠ to + 1 → w127 x = wL35 x := fun x hx => by rw [ew127]; exact zup_n hx
              have hc127 : w127 (to + 1) = some (.inr (0, cap, .inl (upd gt (y4_35.toNatClampNeg) v127))) := by rw [ew127]; exact zup_s
              rw [← ew127]
              clear ew127
              refine zp_seg (pc' := 131) (lv' := [(4, .int (y4_35 + 1)), (0, .ref to), (1, .ref a), (2, .ref b), (3, .int v31), (5, .long y5_76), (8, .int m27), (9, .int y9_76)]) (st' := []) [(128, .iinc 4 1)] (by decide +kernel) rfl ?_
              have k34 := zaddC y4_35 1 (n := 1) (by decide) (by omega) (by omega)
              generalize ev131 : (y4_35 + 1 : Int32) = v131 at k34 ⊢
              have kv131 := zrng v131
              refine zp_seg (pc' := 35) (lv' := [(4, .int v131), (0, .ref to), (1, .ref a), (2, .ref b), (3, .int v31), (5, .long y5_76), (8, .int m27), (9, .int y9_76)]) (st' := []) [(131, .goto (-96))] (by decide +kernel) rfl ?_
              have hz35 : (v131.toNatClampNeg : Int) = v131.toInt := znat (by first | omega | decide)
              exact (ih35 w127 v131 (hsiL35.tr hsi127) (fun x hx => ((heq127 x (by omega)).trans (heqL35 x (by omega)))) (by first | assumption | omega | decide) (by first | assumption | omega | decide) (by
                    refine ⟨_, hc127, fun t ht => ?_⟩
                    by_cases e : t = y4_35.toNatClampNeg
                    · subst e
                      rw [zupd_s]
                      exact hval
                    · rw [zupd_n _ _ e]
                      exact hgtv t (by omega)) (by omega)).more (zfa1 rfl (zfa1 rfl (zfa1 rfl (zfa1 rfl (zfa1 rfl (zfa0))))))
            ·
              have f36 := znltI cc80
              have hz37 : (y9_76.toNatClampNeg : Int) = y9_76.toInt := znat (by first | omega | decide)
              refine zp_seg (pc' := 86) (lv' := [(0, .ref to), (1, .ref a), (2, .ref b), (3, .int v31), (4, .int y4_35), (5, .long y5_76), (8, .int m27), (9, .int y9_76)]) (st' := [.ref a, .long y5_76]) [(83, .lload 5), (85, .aload_n 1)] (by decide +kernel) rfl ?_
              refine zr_get (idx := 30) (k := 0) (v := .ref (a + 1)) (by decide +kernel) (by decide +kernel) hb25 rfl ?_
              refine zp_seg (pc' := 91) (lv' := [(0, .ref to), (1, .ref a), (2, .ref b), (3, .int v31), (4, .int y4_35), (5, .long y5_76), (8, .int m27), (9, .int y9_76)]) (st' := [.int y9_76, .ref (a + 1), .long y5_76]) [(89, .iload 9)] (by decide +kernel) rfl ?_
              have hb38 : wL35 (a + 1) = some (.inr (0, ca, .inl fa)) := (heqL35 (a + 1) (by omega)).trans ha2
              refine zr_iald (by decide +kernel) hb38 (zin (by first | omega | decide) (by first | omega | decide)) ?_
              obtain ⟨x91, ex91⟩ : ∃ x9, x9 = fa (y9_76.toNatClampNeg) := ⟨_, rfl⟩
              rw [← ex91]
              have kx91 := zrng x91
              have hvx91 := ha5 (y9_76.toNatClampNeg) (by omega)
              rw [← ex91] at hvx91
              have hwx91 : 0 ≤ x91.toInt ∧ x91.toInt < 2147483647 := hvx91.1
              refine zp_seg (pc' := 93) (lv' := [(0, .ref to), (1, .ref a), (2, .ref b), (3, .int v31), (4, .int y4_35), (5, .long y5_76), (8, .int m27), (9, .int y9_76)]) (st' := [.long (x91.toInt64), .long y5_76]) [(92, .i2l)] (by decide +kernel) rfl ?_
              have k39 := zi2lM x91
              generalize ev93 : (x91.toInt64 : Int64) = v93 at k39 ⊢
              have kv93 := zrngL v93
              refine zp_seg (pc' := 94) (lv' := [(0, .ref to), (1, .ref a), (2, .ref b), (3, .int v31), (4, .int y4_35), (5, .long y5_76), (8, .int m27), (9, .int y9_76)]) (st' := [.ref b, .long v93, .long y5_76]) [(93, .aload_n 2)] (by decide +kernel) rfl ?_
              refine zr_get (idx := 30) (k := 0) (v := .ref (b + 1)) (by decide +kernel) (by decide +kernel) hb20 rfl ?_
              refine zp_seg (pc' := 102) (lv' := [(0, .ref to), (1, .ref a), (2, .ref b), (3, .int v31), (4, .int y4_35), (5, .long y5_76), (8, .int m27), (9, .int y9_76)]) (st' := [.int (y4_35 - y9_76), .ref (b + 1), .long v93, .long y5_76]) [(97, .iload 4), (99, .iload 9), (101, .isub)] (by decide +kernel) rfl ?_
              have k40 := zsub y4_35 y9_76 (by omega) (by omega)
              generalize ev102 : (y4_35 - y9_76 : Int32) = v102 at k40 ⊢
              have kv102 := zrng v102
              have hb41 : wL35 (b + 1) = some (.inr (0, cb, .inl fb)) := (heqL35 (b + 1) (by omega)).trans hb2
              refine zr_iald (by decide +kernel) hb41 (zin (by first | omega | decide) (by first | omega | decide)) ?_
              have hz42 : (v102.toNatClampNeg : Int) = v102.toInt := znat (by first | omega | decide)
              obtain ⟨x102, ex102⟩ : ∃ x9, x9 = fb (v102.toNatClampNeg) := ⟨_, rfl⟩
              rw [← ex102]
              have kx102 := zrng x102
              have hvx102 := hb5 (v102.toNatClampNeg) (by omega)
              rw [← ex102] at hvx102
              have hwx102 : 0 ≤ x102.toInt ∧ x102.toInt < 2147483647 := hvx102.1
              refine zp_seg (pc' := 104) (lv' := [(0, .ref to), (1, .ref a), (2, .ref b), (3, .int v31), (4, .int y4_35), (5, .long y5_76), (8, .int m27), (9, .int y9_76)]) (st' := [.long (x102.toInt64), .long v93, .long y5_76]) [(103, .i2l)] (by decide +kernel) rfl ?_
              have k43 := zi2lM x102
              generalize ev104 : (x102.toInt64 : Int64) = v104 at k43 ⊢
              have kv104 := zrngL v104
              refine zp_seg (pc' := 105) (lv' := [(0, .ref to), (1, .ref a), (2, .ref b), (3, .int v31), (4, .int y4_35), (5, .long y5_76), (8, .int m27), (9, .int y9_76)]) (st' := [.long (v93 * v104), .long y5_76]) [(104, .lmul)] (by decide +kernel) rfl ?_
              have k44 := zmulLN (a := v93) (b := v104) (by omega) (by omega)
              have k45 := zmulNN (a := v93.toInt) (b := v104.toInt) (by omega) (by omega)
              generalize ev105 : (v93 * v104 : Int64) = v105 at k44 ⊢
              have kv105 := zrngL v105
              refine zp_seg (pc' := 106) (lv' := [(0, .ref to), (1, .ref a), (2, .ref b), (3, .int v31), (4, .int y4_35), (5, .long y5_76), (8, .int m27), (9, .int y9_76)]) (st' := [.long (y5_76 + v105)]) [(105, .ladd)] (by decide +kernel) rfl ?_
              have k46 := zaddLE y5_76 v105 (by omega) (by omega)
              generalize ev106 : (y5_76 + v105 : Int64) = v106 at k46 ⊢
              have kv106 := zrngL v106
              refine zr_ldc2 (idx := 3) (v := 2147483647) (by decide +kernel) (by decide +kernel) ?_
              refine zr_lrem (by decide +kernel) (by decide) ?_
              obtain ⟨q109, eq109⟩ : ∃ x9 : Int64, x9 = v106 - v106 / 2147483647 * 2147483647 := ⟨_, rfl⟩
              rw [← eq109]
              have bq109 := zremB v106
              rw [← eq109] at bq109
              have mq109 := zremN (x := v106)
              rw [← eq109] at mq109
              have kq109 := zrngL q109
              refine zp_seg (pc' := 115) (lv' := [(9, .int (y9_76 + 1)), (5, .long q109), (0, .ref to), (1, .ref a), (2, .ref b), (3, .int v31), (4, .int y4_35), (8, .int m27)]) (st' := []) [(110, .lstore 5), (112, .iinc 9 1)] (by decide +kernel) rfl ?_
              have k47 := zaddC y9_76 1 (n := 1) (by decide) (by omega) (by omega)
              generalize ev115 : (y9_76 + 1 : Int32) = v115 at k47 ⊢
              have kv115 := zrng v115
              refine zp_seg (pc' := 76) (lv' := [(9, .int v115), (5, .long q109), (0, .ref to), (1, .ref a), (2, .ref b), (3, .int v31), (4, .int y4_35), (8, .int m27)]) (st' := []) [(115, .goto (-39))] (by decide +kernel) rfl ?_
              have hz48 : (v115.toNatClampNeg : Int) = v115.toInt := znat (by first | omega | decide)
              exact (ih76 q109 v115 (by first | assumption | omega | decide) (by first | assumption | omega | decide) (by first | assumption | omega | decide) (by first | assumption | omega | decide) (by
                    have e9 : v115.toNatClampNeg = y9_76.toNatClampNeg + 1 := by omega
                    have e1 : q109.toInt = (y5_76.toInt + x91.toInt * x102.toInt) % 2147483647 := by
                      rw [show v93.toInt = x91.toInt by omega, show v104.toInt = x102.toInt by omega] at *
                      omega
                    rw [e9, e1, zfI_mod, zfI_add, zfI_mul, hS]
                    show _ = zSm y9_76.toNatClampNeg _ + _
                    rw [show zfI x91.toInt = p.1 y9_76.toNatClampNeg from hvx91.2, show zfI x102.toInt = q.1 (y4_35.toNatClampNeg - y9_76.toNatClampNeg) from hvx102.2.trans (zc_at q (by omega))]) (by omega)).more (zfa1 rfl (zfa1 rfl (zfa1 rfl (zfa1 rfl (zfa1 rfl (zfa1 rfl (zfa1 rfl (zfa1 rfl (zfa0)))))))))
          exact (hL76 _ 0 m24 (by first | assumption | omega | decide) (by first | assumption | omega | decide) (by first | assumption | omega | decide) (by first | assumption | omega | decide) (by
                rw [show (0 : Int64).toInt = 0 by decide, zfI_0]
                refine (zSm_0 _ _ fun t ht => ?_).symm
                rw [zln_dg q _ (by omega)]
                exact zF_m0 _) (Nat.lt_succ_self _)).more (zfa1 rfl (zfa1 rfl (zfa1 rfl (zfa1 rfl (zfa1 rfl (zfa1 rfl (zfa1 rfl (zfa1 rfl (zfa0)))))))))
      have hl49 : (0 : Int32).toInt = 0 := by decide
      have hz50 : ((0 : Int32).toNatClampNeg : Int) = 0 := by decide
      exact (hL35 _ w 0 zSI.rf (fun _ _ => rfl) (by first | assumption | omega | decide) (by first | assumption | omega | decide) (by
            exact ⟨fto, hto2, fun t ht => absurd ht (by omega)⟩) (Nat.lt_succ_self _)).more (zfa1 rfl (zfa1 rfl (zfa1 rfl (zfa1 rfl (zfa1 rfl (zfa0))))))
    ·
      replace cc11 := Classical.not_not.mp cc11
      have f51 := zeqI cc11
      rw [show (0 : Int32).toInt = 0 from by decide] at f51
      refine zp_seg (pc' := 16) (lv' := [(0, .ref to), (1, .ref a), (2, .ref b)]) (st' := [.int 0, .ref to]) [(14, .aload_n 0), (15, .iconst 0)] (by decide +kernel) rfl ?_
      refine zr_put2 (idx := 25) (k := 1) (fs2 := [.ref (to + 1), .int 0]) (by decide +kernel) (by decide +kernel) hto1 (Nat.le_of_ble_eq_true rfl) rfl rfl rfl ?_
      show zP (d + 1) zq_X16_times 19 [(0, .ref to), (1, .ref a), (2, .ref b)] [] (zup w to (.inl (14, [.ref (to + 1), .int 0]))) sz 0 0 Post
      obtain ⟨w16, ew16⟩ : ∃ wz9, wz9 = zup w to (.inl (14, [.ref (to + 1), .int 0])) := ⟨_, rfl⟩
      have hsi16 : zSI w w16 := by rw [ew16]; exact zSI.setU hto1
      have heq16 : ∀ x, x ≠ to → w16 x = w x := fun x hx => by rw [ew16]; exact zup_n hx
      have hc16 : w16 to = some (.inl (14, [.ref (to + 1), .int 0])) := by rw [ew16]; exact zup_s
      rw [← ew16]
      clear ew16
      have hoffend : ∀ x, (x < to ∨ to + 2 ≤ x) → w16 x = w x := fun x hx => (heq16 x (by omega))
      have hb52 : w16 (to + 1) = some (.inr (0, cap, .inl fto)) := (heq16 (to + 1) (by omega)).trans hto2
      refine zr_retV (by decide +kernel) rfl ?_
      rw [← hPost]; exact ⟨rfl, _, rfl, hsi16, hoffend, (by
            first
              | (have e : zaM p q = zaZ := by
                   rcases Nat.eq_zero_or_pos (zln p) with e | e
                   · rw [zln_0.mp e]; exact zaM_Zl q
                   · rw [zln_0.mp (show zln q = 0 by omega)]; exact zaM_Zr p
                 rw [e]
                 exact zU.mk0 hc16 hb52)
              | (have e := zln_M (p := p) (q := q) (by omega) (by omega)
                 exact zU.mk hc16 hb52 (by omega) (by omega) (fun i hi => hgtv i (by omega)))), rfl⟩

set_option maxHeartbeats 8000000 in
set_option maxRecDepth 100000 in
theorem c_X16_eval {w : zM} {ca : Nat} {p : zA1} (a : Nat) (x : Int32) (hU_a : zU w a ca p) (h_x : zr1 x) (hcb : zln p ≤ 100000) : zCon 1 zq_X16_eval [.ref a, .int x] w (fun v9 w9' => w9' = w ∧ ∃ r9 : Int32, v9 = some (.int r9) ∧ (zr1 r9 ∧ zf r9 = zVl (zf x) p)) := by
  intro d sz hd
  obtain ⟨d, rfl⟩ : ∃ d9, d = d9 + 1 := ⟨d - 1, by omega⟩
  generalize hPost : (fun (r9' : Option (Option Value)) (w9' : zM) (z9 : Nat) => z9 = sz ∧ ∃ v9, r9' = some v9 ∧ (w9' = w ∧ ∃ r9 : Int32, v9 = some (.int r9) ∧ (zr1 r9 ∧ zf r9 = zVl (zf x) p))) = Post
  show zP (d + 1) zq_X16_eval 0 [(0, .ref a), (1, .int x)] [] w sz 0 0 Post
  have k1 := zrng x
  obtain ⟨na, fa, ha1, ha2, ha3, ha4, ha5⟩ := id hU_a
  have kna := zrng na
  have k2 := zrng na
  have hz3 : (na.toNatClampNeg : Int) = na.toInt := znat (by first | omega | decide)
  have r_x : 0 ≤ x.toInt ∧ x.toInt < 2147483647 := h_x
  refine zp_seg (pc' := 3) (lv' := [(2, .long 0), (0, .ref a), (1, .int x)]) (st' := [.ref a]) [(0, .lconst 0), (1, .lstore_n 2), (2, .aload_n 0)] (by decide +kernel) rfl ?_
  refine zr_get (idx := 25) (k := 1) (v := .int na) (by decide +kernel) (by decide +kernel) ha1 rfl ?_
  refine zp_seg (pc' := 8) (lv' := [(2, .long 0), (0, .ref a), (1, .int x)]) (st' := [.int (na - 1)]) [(6, .iconst 1), (7, .isub)] (by decide +kernel) rfl ?_
  have k4 := zsubC na 1 (n := 1) (by decide) (by omega) (by omega)
  generalize ev8 : (na - 1 : Int32) = v8 at k4 ⊢
  have kv8 := zrng v8
  refine zp_seg (pc' := 10) (lv' := [(4, .int v8), (2, .long 0), (0, .ref a), (1, .int x)]) (st' := []) [(8, .istore 4)] (by decide +kernel) rfl ?_
  have hL10 : ∀ (mm10 : Nat) (y2_10 : Int64) (y4_10 : Int32), (0 ≤ y2_10.toInt) → (y2_10.toInt < 2147483647) → (-1 ≤ y4_10.toInt) → (y4_10.toInt < na.toInt) → (zfI y2_10.toInt = zvl (zf x) (zln p - (y4_10.toInt + 1).toNat) (fun j => p.1 (j + (y4_10.toInt + 1).toNat))) → (y4_10.toInt + 1).toNat < mm10 → zP (d + 1) zq_X16_eval 10 [(0, .ref a), (1, .int x), (2, .long y2_10), (4, .int y4_10)] [] w sz 0 0 Post := by
    intro mm10
    induction mm10 with
    | zero => intros; omega
    | succ mm10 ih10 =>
    intro y2_10 y4_10 hi10_0 hi10_1 hi10_2 hi10_3 hS hmu10
    have ky2_10 := zrngL y2_10
    have ky4_10 := zrng y4_10
    refine zp_seg (pc' := 12) (lv' := [(0, .ref a), (1, .int x), (2, .long y2_10), (4, .int y4_10)]) (st' := [.int y4_10]) [(10, .iload 4)] (by decide +kernel) rfl ?_
    refine zp_if (i := .ifCond .lt 27) (c := y4_10 < 0) (t := 39) (e := 15) (lv' := [(0, .ref a), (1, .int x), (2, .long y2_10), (4, .int y4_10)]) (st' := []) (by decide +kernel) rfl (fun cc12 => ?_) (fun cc12 => ?_)
    ·
      have f6 := zltI cc12
      rw [show (0 : Int32).toInt = 0 from by decide] at f6
      refine zp_seg (pc' := 41) (lv' := [(0, .ref a), (1, .int x), (2, .long y2_10), (4, .int y4_10)]) (st' := [.int (y2_10.toInt32)]) [(39, .lload_n 2), (40, .l2i)] (by decide +kernel) rfl ?_
      have k7 := zl2iE y2_10 (by omega) (by omega)
      generalize ev41 : (y2_10.toInt32 : Int32) = v41 at k7 ⊢
      have kv41 := zrng v41
      refine zr_retI (by decide +kernel) rfl ?_
      rw [← hPost]; exact ⟨rfl, _, rfl, rfl, _, rfl, (by
            refine ⟨show 0 ≤ Int32.toInt _ ∧ Int32.toInt _ < 2147483647 by omega, ?_⟩
            show zfI v41.toInt = _
            rw [show v41.toInt = y2_10.toInt by omega, hS, show (y4_10.toInt + 1).toNat = 0 by omega]
            exact (zVl_eq (zf x) p (zln_dg p)).symm)⟩
    ·
      have f9 := znltI cc12
      rw [show (0 : Int32).toInt = 0 from by decide] at f9
      have hz10 : (y4_10.toNatClampNeg : Int) = y4_10.toInt := znat (by first | omega | decide)
      refine zp_seg (pc' := 18) (lv' := [(0, .ref a), (1, .int x), (2, .long y2_10), (4, .int y4_10)]) (st' := [.long (x.toInt64), .long y2_10]) [(15, .lload_n 2), (16, .iload_n 1), (17, .i2l)] (by decide +kernel) rfl ?_
      have k11 := zi2lM x
      generalize ev18 : (x.toInt64 : Int64) = v18 at k11 ⊢
      have kv18 := zrngL v18
      refine zp_seg (pc' := 19) (lv' := [(0, .ref a), (1, .int x), (2, .long y2_10), (4, .int y4_10)]) (st' := [.long (y2_10 * v18)]) [(18, .lmul)] (by decide +kernel) rfl ?_
      have k12 := zmulLN (a := y2_10) (b := v18) (by omega) (by omega)
      have k13 := zmulNN (a := y2_10.toInt) (b := v18.toInt) (by omega) (by omega)
      generalize ev19 : (y2_10 * v18 : Int64) = v19 at k12 ⊢
      have kv19 := zrngL v19
      refine zp_seg (pc' := 20) (lv' := [(0, .ref a), (1, .int x), (2, .long y2_10), (4, .int y4_10)]) (st' := [.ref a, .long v19]) [(19, .aload_n 0)] (by decide +kernel) rfl ?_
      refine zr_get (idx := 30) (k := 0) (v := .ref (a + 1)) (by decide +kernel) (by decide +kernel) ha1 rfl ?_
      refine zp_seg (pc' := 25) (lv' := [(0, .ref a), (1, .int x), (2, .long y2_10), (4, .int y4_10)]) (st' := [.int y4_10, .ref (a + 1), .long v19]) [(23, .iload 4)] (by decide +kernel) rfl ?_
      refine zr_iald (by decide +kernel) ha2 (zin (by first | omega | decide) (by first | omega | decide)) ?_
      obtain ⟨x25, ex25⟩ : ∃ x9, x9 = fa (y4_10.toNatClampNeg) := ⟨_, rfl⟩
      rw [← ex25]
      have kx25 := zrng x25
      have hvx25 := ha5 (y4_10.toNatClampNeg) (by omega)
      rw [← ex25] at hvx25
      have hwx25 : 0 ≤ x25.toInt ∧ x25.toInt < 2147483647 := hvx25.1
      refine zp_seg (pc' := 27) (lv' := [(0, .ref a), (1, .int x), (2, .long y2_10), (4, .int y4_10)]) (st' := [.long (x25.toInt64), .long v19]) [(26, .i2l)] (by decide +kernel) rfl ?_
      have k14 := zi2lM x25
      generalize ev27 : (x25.toInt64 : Int64) = v27 at k14 ⊢
      have kv27 := zrngL v27
      refine zp_seg (pc' := 28) (lv' := [(0, .ref a), (1, .int x), (2, .long y2_10), (4, .int y4_10)]) (st' := [.long (v19 + v27)]) [(27, .ladd)] (by decide +kernel) rfl ?_
      have k15 := zaddLE v19 v27 (by omega) (by omega)
      generalize ev28 : (v19 + v27 : Int64) = v28 at k15 ⊢
      have kv28 := zrngL v28
      refine zr_ldc2 (idx := 3) (v := 2147483647) (by decide +kernel) (by decide +kernel) ?_
      refine zr_lrem (by decide +kernel) (by decide) ?_
      obtain ⟨q31, eq31⟩ : ∃ x9 : Int64, x9 = v28 - v28 / 2147483647 * 2147483647 := ⟨_, rfl⟩
      rw [← eq31]
      have bq31 := zremB v28
      rw [← eq31] at bq31
      have mq31 := zremN (x := v28)
      rw [← eq31] at mq31
      have kq31 := zrngL q31
      refine zp_seg (pc' := 36) (lv' := [(4, .int (y4_10 + (Int32.ofInt (-1)))), (2, .long q31), (0, .ref a), (1, .int x)]) (st' := []) [(32, .lstore_n 2), (33, .iinc 4 (-1))] (by decide +kernel) rfl ?_
      have k16 := zaddC y4_10 ((Int32.ofInt (-1))) (n := (-1)) (by decide) (by omega) (by omega)
      generalize ev36 : (y4_10 + (Int32.ofInt (-1)) : Int32) = v36 at k16 ⊢
      have kv36 := zrng v36
      refine zp_seg (pc' := 10) (lv' := [(4, .int v36), (2, .long q31), (0, .ref a), (1, .int x)]) (st' := []) [(36, .goto (-26))] (by decide +kernel) rfl ?_
      exact (ih10 q31 v36 (by first | assumption | omega | decide) (by first | assumption | omega | decide) (by first | assumption | omega | decide) (by first | assumption | omega | decide) (by
            have hz := znat (x := y4_10) (by omega)
            have e1 : q31.toInt = (y2_10.toInt * x.toInt + x25.toInt) % 2147483647 := by
              rw [show v18.toInt = x.toInt by omega] at *
              omega
            have e2 : (v36.toInt + 1).toNat = y4_10.toNatClampNeg := by omega
            have e3 : zln p - (v36.toInt + 1).toNat = (zln p - (y4_10.toInt + 1).toNat) + 1 := by omega
            rw [e1, zfI_mod, zfI_add, zfI_mul, hS, e3]
            show _ = (fun j => p.1 (j + (v36.toInt + 1).toNat)) 0 + zf x * zvl (zf x) _ (fun j => (fun j => p.1 (j + (v36.toInt + 1).toNat)) (j + 1))
            have e4 : (fun j => (fun j => p.1 (j + (v36.toInt + 1).toNat)) (j + 1)) = fun j => p.1 (j + (y4_10.toInt + 1).toNat) := by
              funext j
              exact zc_at p (by omega)
            rw [e4]
            show _ + zfI x25.toInt = p.1 (0 + (v36.toInt + 1).toNat) + _
            rw [show zfI x25.toInt = p.1 (0 + (v36.toInt + 1).toNat) from hvx25.2.trans (zc_at p (by omega))]
            exact zF_r5 _ _ _) (by omega)).more (zfa1 rfl (zfa1 rfl (zfa1 rfl (zfa1 rfl (zfa0)))))
  exact (hL10 _ 0 v8 (by first | assumption | omega | decide) (by first | assumption | omega | decide) (by first | assumption | omega | decide) (by first | assumption | omega | decide) (by
        rw [show (0 : Int64).toInt = 0 by decide, zfI_0, show zln p - (v8.toInt + 1).toNat = 0 by omega]
        rfl) (Nat.lt_succ_self _)).more (zfa1 rfl (zfa1 rfl (zfa1 rfl (zfa1 rfl (zfa0)))))
