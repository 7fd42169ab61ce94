set_option maxHeartbeats 8000000 in
set_option maxRecDepth 100000 in
theorem c_X16_newU {w : zM} {g : Nat → Int32} {r : Nat → Value} {g1 : Int32} (m : Nat) (hm : w m = some (.inl (15, zMo m g r))) (hR_m : zR m w) (hut : 0 ≤ g1.toInt ∧ g1.toInt < 160) (hg1 : g 1 = g1) : zCon 1 zq_X16_newU [.ref m] w (fun v9 w9' => zSI w w9' ∧ (∀ x, (x < m ∨ m + 1 ≤ x) ∧ (x < m + 276 + 2 * g1.toNatClampNeg ∨ m + 276 + 2 * g1.toNatClampNeg + 2 ≤ x) → w9' x = w x) ∧ w9' m = some (.inl (15, zMo m (zs g 1 (g1 + 1)) r)) ∧ zU w9' (m + 276 + 2 * g1.toNatClampNeg) 1000 zaZ ∧ v9 = some (.ref (m + 276 + 2 * g1.toNatClampNeg))) := by
  subst hg1
  intro d sz hd
  obtain ⟨d, rfl⟩ : ∃ d9, d = d9 + 1 := ⟨d - 1, by omega⟩
  generalize hPost : (fun (r9' : Option (Option Value)) (w9' : zM) (z9 : Nat) => z9 = sz ∧ ∃ v9, r9' = some v9 ∧ (zSI w w9' ∧ (∀ x, (x < m ∨ m + 1 ≤ x) ∧ (x < m + 276 + 2 * (g 1).toNatClampNeg ∨ m + 276 + 2 * (g 1).toNatClampNeg + 2 ≤ x) → w9' x = w x) ∧ w9' m = some (.inl (15, zMo m (zs g 1 ((g 1) + 1)) r)) ∧ zU w9' (m + 276 + 2 * (g 1).toNatClampNeg) 1000 zaZ ∧ v9 = some (.ref (m + 276 + 2 * (g 1).toNatClampNeg)))) = Post
  show zP (d + 1) zq_X16_newU 0 [(0, .ref m)] [] w sz 0 0 Post
  refine zp_seg (pc' := 1) (lv' := [(0, .ref m)]) (st' := [.ref m]) [(0, .aload_n 0)] (by decide +kernel) rfl ?_
  refine zr_get (idx := 17) (k := 0) (v := .ref (m + 1)) (by decide +kernel) (by decide +kernel) hm rfl ?_
  refine zp_seg (pc' := 6) (lv' := [(0, .ref m)]) (st' := [.ref m, .ref m, .ref (m + 1)]) [(4, .aload_n 0), (5, .dup)] (by decide +kernel) rfl ?_
  refine zr_get (idx := 21) (k := 1) (v := .int (g 1)) (by decide +kernel) (by decide +kernel) hm rfl ?_
  refine zp_seg (pc' := 12) (lv' := [(0, .ref m)]) (st' := [.int ((g 1) + 1), .ref m, .int (g 1), .ref (m + 1)]) [(9, .dup_x1), (10, .iconst 1), (11, .iadd)] (by decide +kernel) rfl ?_
  have k1 := zrng (g 1)
  have k2 := zaddC ((g 1)) 1 (n := 1) (by decide) (by omega) (by omega)
  generalize ev12 : ((g 1) + 1 : Int32) = v12 at k2 ⊢
  have kv12 := zrng v12
  refine zr_put2 (idx := 21) (k := 1) (fs2 := zMo m (zs g 1 v12) r) (by decide +kernel) (by decide +kernel) hm (Nat.le_of_ble_eq_true rfl) rfl rfl rfl ?_
  show zP (d + 1) zq_X16_newU 15 [(0, .ref m)] [.int (g 1), .ref (m + 1)] (zup w m (.inl (15, zMo m (zs g 1 v12) r))) sz 0 0 Post
  obtain ⟨w12, ew12⟩ : ∃ wz9, wz9 = zup w m (.inl (15, zMo m (zs g 1 v12) r)) := ⟨_, rfl⟩
  have hsi12 : zSI w w12 := by rw [ew12]; exact zSI.setG hm _ _
  have heq12 : ∀ x, x ≠ m → w12 x = w x := fun x hx => by rw [ew12]; exact zup_n hx
  have hc12 : w12 m = some (.inl (15, zMo m (zs g 1 v12) r)) := by rw [ew12]; exact zup_s
  rw [← ew12]
  clear ew12
  have hb3 := hR_m.si hsi12
  have hb5 := hb3.us
  have hz6 : ((g 1).toNatClampNeg : Int) = (g 1).toInt := znat (by first | omega | decide)
  refine zr_aald (v := .ref (m + 276 + 2 * (g 1).toNatClampNeg)) (by decide +kernel) hb5 (by decide) (zin (by first | omega | decide) (by first | omega | decide)) (zus_at (by omega)) ?_
  refine zp_seg (pc' := 17) (lv' := [(1, .ref (m + 276 + 2 * (g 1).toNatClampNeg)), (0, .ref m)]) (st' := []) [(16, .astore_n 1)] (by decide +kernel) rfl ?_
  have hz := znat (x := g 1) hut.1
  have hUn := hR_m.usU (g 1).toNatClampNeg (by omega)
  refine zp_seg (pc' := 19) (lv' := [(1, .ref (m + 276 + 2 * (g 1).toNatClampNeg)), (0, .ref m)]) (st' := [.int 0, .ref (m + 276 + 2 * (g 1).toNatClampNeg)]) [(17, .aload_n 1), (18, .iconst 0)] (by decide +kernel) rfl ?_
  have hb11 := hUn.si hsi12
  obtain ⟨n7, f8, hu9, hu10⟩ := id hb11
  have kn7 := zrng n7
  refine zr_put2 (idx := 25) (k := 1) (fs2 := [.ref (m + 276 + 2 * (g 1).toNatClampNeg + 1), .int 0]) (by decide +kernel) (by decide +kernel) hu9 (Nat.le_of_ble_eq_true rfl) rfl rfl rfl ?_
  show zP (d + 1) zq_X16_newU 22 [(1, .ref (m + 276 + 2 * (g 1).toNatClampNeg)), (0, .ref m)] [] (zup w12 (m + 276 + 2 * (g 1).toNatClampNeg) (.inl (14, [.ref (m + 276 + 2 * (g 1).toNatClampNeg + 1), .int 0]))) sz 0 0 Post
  obtain ⟨w19, ew19⟩ : ∃ wz9, wz9 = zup w12 (m + 276 + 2 * (g 1).toNatClampNeg) (.inl (14, [.ref (m + 276 + 2 * (g 1).toNatClampNeg + 1), .int 0])) := ⟨_, rfl⟩
  have hsi19 : zSI w12 w19 := by rw [ew19]; exact zSI.setU hu9
  have heq19 : ∀ x, x ≠ m + 276 + 2 * (g 1).toNatClampNeg → w19 x = w12 x := fun x hx => by rw [ew19]; exact zup_n hx
  have hc19 : w19 (m + 276 + 2 * (g 1).toNatClampNeg) = some (.inl (14, [.ref (m + 276 + 2 * (g 1).toNatClampNeg + 1), .int 0])) := by rw [ew19]; exact zup_s
  rw [← ew19]
  clear ew19
  refine zp_seg (pc' := 23) (lv' := [(1, .ref (m + 276 + 2 * (g 1).toNatClampNeg)), (0, .ref m)]) (st' := [.ref (m + 276 + 2 * (g 1).toNatClampNeg)]) [(22, .aload_n 1)] (by decide +kernel) rfl ?_
  have hoffend : ∀ x, (x < m ∨ m + 1 ≤ x) ∧ (x < m + 276 + 2 * (g 1).toNatClampNeg ∨ m + 276 + 2 * (g 1).toNatClampNeg + 2 ≤ x) → w19 x = w x := fun x hx => ((heq19 x (by omega)).trans (heq12 x (by omega)))
  have hb12 : w19 m = some (.inl (15, zMo m (zs g 1 v12) r)) := (heq19 m (by omega)).trans hc12
  have hb13 : w19 (m + 276 + 2 * (g 1).toNatClampNeg + 1) = some (.inr (0, 1000, .inl f8)) := (heq19 (m + 276 + 2 * (g 1).toNatClampNeg + 1) (by omega)).trans hu10
  refine zr_retA (by decide +kernel) rfl ?_
  rw [← hPost]; exact ⟨rfl, _, rfl, (hsi12.tr hsi19), hoffend, (by
        rw [ev12]; exact hb12), (by
        exact zU.mk0 hc19 hb13), rfl⟩

set_option maxHeartbeats 8000000 in
set_option maxRecDepth 100000 in
theorem c_X16_set {w : zM} {cap ca : Nat} {p : zA1} (to : Nat) (a : Nat) (hUo_to : zUo w to cap) (hU_a : zU w a ca p) (hne : to ≠ a) (hcap : zln p ≤ cap) : zCon 1 zq_X16_set [.ref to, .ref a] w (fun v9 w9' => zSI w w9' ∧ (∀ x, (x < to ∨ to + 2 ≤ x) → w9' x = w x) ∧ zU w9' to cap p ∧ v9 = none) := by
  intro d sz hd
  obtain ⟨d, rfl⟩ : ∃ d9, d = d9 + 1 := ⟨d - 1, by omega⟩
  generalize hPost : (fun (r9' : Option (Option Value)) (w9' : zM) (z9 : Nat) => z9 = sz ∧ ∃ v9, r9' = some v9 ∧ (zSI w w9' ∧ (∀ x, (x < to ∨ to + 2 ≤ x) → w9' x = w x) ∧ zU w9' to cap p ∧ v9 = none)) = Post
  show zP (d + 1) zq_X16_set 0 [(0, .ref to), (1, .ref a)] [] w sz 0 0 Post
  have hne1 := hUo_to.ne hU_a.o
  have hne2 := hU_a.o.ne hUo_to
  have hcp := hU_a.cap
  obtain ⟨na, fa, ha1, ha2, ha3, ha4, ha5⟩ := id hU_a
  have kna := zrng na
  refine zp_seg (pc' := 1) (lv' := [(0, .ref to), (1, .ref a)]) (st' := [.ref a]) [(0, .aload_n 1)] (by decide +kernel) rfl ?_
  refine zr_get (idx := 30) (k := 0) (v := .ref (a + 1)) (by decide +kernel) (by decide +kernel) ha1 rfl ?_
  refine zp_seg (pc' := 6) (lv' := [(0, .ref to), (1, .ref a)]) (st' := [.ref to, .int 0, .ref (a + 1)]) [(4, .iconst 0), (5, .aload_n 0)] (by decide +kernel) rfl ?_
  obtain ⟨n1, f2, hu3, hu4⟩ := id hUo_to
  have kn1 := zrng n1
  refine zr_get (idx := 30) (k := 0) (v := .ref (to + 1)) (by decide +kernel) (by decide +kernel) hu3 rfl ?_
  refine zp_seg (pc' := 11) (lv' := [(0, .ref to), (1, .ref a)]) (st' := [.ref a, .int 0, .ref (to + 1), .int 0, .ref (a + 1)]) [(9, .iconst 0), (10, .aload_n 1)] (by decide +kernel) rfl ?_
  refine zr_get (idx := 25) (k := 1) (v := .int na) (by decide +kernel) (by decide +kernel) ha1 rfl ?_
  have k5 := zrng na
  have hz6 : (na.toNatClampNeg : Int) = na.toInt := znat (by first | omega | decide)
  have hl7 : (0 : Int32).toInt = 0 := by decide
  refine zr_acpy (idx := 34) (by decide +kernel) (by decide +kernel) ha2 hu4 (rfl) (by first | omega | decide) (by first | omega | decide) (by first | omega | decide) (by first | omega | decide) (by first | omega | decide) (by omega) (Nat.le_of_ble_eq_true rfl) ?_
  show zP (d + 1) zq_X16_set 17 [(0, .ref to), (1, .ref a)] [] (zup w (to + 1) (.inr (0, cap, .inl (va_cpy fa f2 ((0 : Int32).toNatClampNeg) ((0 : Int32).toNatClampNeg) (na.toNatClampNeg))))) sz 0 0 Post
  obtain ⟨w14, ew14⟩ : ∃ wz9, wz9 = zup w (to + 1) (.inr (0, cap, .inl (va_cpy fa f2 ((0 : Int32).toNatClampNeg) ((0 : Int32).toNatClampNeg) (na.toNatClampNeg)))) := ⟨_, rfl⟩
  have hsi14 : zSI w w14 := by rw [ew14]; exact zSI.arr _ hu4
  have heq14 : ∀ x, x ≠ to + 1 → w14 x = w x := fun x hx => by rw [ew14]; exact zup_n hx
  have hc14 : w14 (to + 1) = some (.inr (0, cap, .inl (va_cpy fa f2 ((0 : Int32).toNatClampNeg) ((0 : Int32).toNatClampNeg) (na.toNatClampNeg)))) := by rw [ew14]; exact zup_s
  rw [← ew14]
  clear ew14
  refine zp_seg (pc' := 19) (lv' := [(0, .ref to), (1, .ref a)]) (st' := [.ref a, .ref to]) [(17, .aload_n 0), (18, .aload_n 1)] (by decide +kernel) rfl ?_
  have hb8 : w14 a = some (.inl (14, [.ref (a + 1), .int na])) := (heq14 a (by omega)).trans ha1
  refine zr_get (idx := 25) (k := 1) (v := .int na) (by decide +kernel) (by decide +kernel) hb8 rfl ?_
  have hb9 : w14 to = some (.inl (14, [.ref (to + 1), .int n1])) := (heq14 to (by omega)).trans hu3
  refine zr_put2 (idx := 25) (k := 1) (fs2 := [.ref (to + 1), .int na]) (by decide +kernel) (by decide +kernel) hb9 (Nat.le_of_ble_eq_true rfl) rfl rfl rfl ?_
  show zP (d + 1) zq_X16_set 25 [(0, .ref to), (1, .ref a)] [] (zup w14 to (.inl (14, [.ref (to + 1), .int na]))) sz 0 0 Post
  obtain ⟨w22, ew22⟩ : ∃ wz9, wz9 = zup w14 to (.inl (14, [.ref (to + 1), .int na])) := ⟨_, rfl⟩
  have hsi22 : zSI w14 w22 := by rw [ew22]; exact zSI.setU hb9
  have heq22 : ∀ x, x ≠ to → w22 x = w14 x := fun x hx => by rw [ew22]; exact zup_n hx
  have hc22 : w22 to = some (.inl (14, [.ref (to + 1), .int na])) := by rw [ew22]; exact zup_s
  rw [← ew22]
  clear ew22
  have hoffend : ∀ x, (x < to ∨ to + 2 ≤ x) → w22 x = w x := fun x hx => ((heq22 x (by omega)).trans (heq14 x (by omega)))
  have hb10 : w22 (to + 1) = some (.inr (0, cap, .inl (va_cpy fa f2 ((0 : Int32).toNatClampNeg) ((0 : Int32).toNatClampNeg) (na.toNatClampNeg)))) := (heq22 (to + 1) (by omega)).trans hc14
  refine zr_retV (by decide +kernel) rfl ?_
  rw [← hPost]; exact ⟨rfl, _, rfl, (hsi14.tr hsi22), hoffend, (by
        refine zU.mk hc22 hb10 ha3 hcap (fun i hi => ?_)
        rw [zcpy0 _ _ _ _ (by have := znat (x := na) (by omega); omega)]
        exact ha5 i hi), rfl⟩

set_option maxHeartbeats 8000000 in
set_option maxRecDepth 100000 in
theorem c_X15_trim {w : zM} {cap N : Nat} {p : zA1} (u : Nat) (hUn_u : zUw w u cap N p) : zCon 1 zq_X15_trim [.ref u] w (fun v9 w9' => zSI w w9' ∧ (∀ x, (x < u ∨ u + 1 ≤ x) → w9' x = w x) ∧ zU w9' u cap p ∧ v9 = none) := by
  intro d sz hd
  obtain ⟨d, rfl⟩ : ∃ d9, d = d9 + 1 := ⟨d - 1, by omega⟩
  generalize hPost : (fun (r9' : Option (Option Value)) (w9' : zM) (z9 : Nat) => z9 = sz ∧ ∃ v9, r9' = some v9 ∧ (zSI w w9' ∧ (∀ x, (x < u ∨ u + 1 ≤ x) → w9' x = w x) ∧ zU w9' u cap p ∧ v9 = none)) = Post
  show zP (d + 1) zq_X15_trim 0 [(0, .ref u)] [] w sz 0 0 Post
  have hL0 : ∀ (mm0 : Nat) (wL0 : zM) (K : Nat), (zSI w wL0) → (∀ x, (x < u ∨ u + 1 ≤ x) → wL0 x = w x) → (zUw wL0 u cap K p) → K < mm0 → zP (d + 1) zq_X15_trim 0 [(0, .ref u)] [] wL0 sz 0 0 Post := by
    intro mm0
    induction mm0 with
    | zero => intros; omega
    | succ mm0 ih0 =>
    intro wL0 K hsiL0 heqL0 hUK hmu0
    obtain ⟨nu, fu, hu1, hu2, hu3, hu4, hu5, hu6⟩ := id hUK
    have knu := zrng nu
    refine zp_seg (pc' := 1) (lv' := [(0, .ref u)]) (st' := [.ref u]) [(0, .aload_n 0)] (by decide +kernel) rfl ?_
    refine zr_get (idx := 13) (k := 1) (v := .int nu) (by decide +kernel) (by decide +kernel) hu1 rfl ?_
    refine zp_if (i := .ifCond .le 30) (c := nu ≤ 0) (t := 34) (e := 7) (lv' := [(0, .ref u)]) (st' := []) (by decide +kernel) rfl (fun cc4 => ?_) (fun cc4 => ?_)
    ·
      have k1 := zrng nu
      have f3 := zleI cc4
      rw [show (0 : Int32).toInt = 0 from by decide] at f3
      have hoffend : ∀ x, (x < u ∨ u + 1 ≤ x) → wL0 x = w x := fun x hx => (heqL0 x (by omega))
      refine zr_retV (by decide +kernel) rfl ?_
      rw [← hPost]; exact ⟨rfl, _, rfl, hsiL0, hoffend, (by
            have e : zln p = K := by
              first
                | exact zln_uniq hu6 (Or.inl (by omega))
                | exact zln_uniq hu6 (Or.inr (fun e9 => cc18 (zf_z hvx17.1 (by rw [hvx17.2, show v17.toNatClampNeg = K - 1 by (have := znat (x := v17) (by omega); omega)]; exact e9))))
            exact zU.mk hu1 hu2 (by omega) (by omega) (fun i hi => hu5 i (by omega))), rfl⟩
    ·
      have k4 := zrng nu
      have f6 := znleI cc4
      rw [show (0 : Int32).toInt = 0 from by decide] at f6
      refine zp_seg (pc' := 8) (lv' := [(0, .ref u)]) (st' := [.ref u]) [(7, .aload_n 0)] (by decide +kernel) rfl ?_
      refine zr_get (idx := 7) (k := 0) (v := .ref (u + 1)) (by decide +kernel) (by decide +kernel) hu1 rfl ?_
      refine zp_seg (pc' := 12) (lv' := [(0, .ref u)]) (st' := [.ref u, .ref (u + 1)]) [(11, .aload_n 0)] (by decide +kernel) rfl ?_
      refine zr_get (idx := 13) (k := 1) (v := .int nu) (by decide +kernel) (by decide +kernel) hu1 rfl ?_
      refine zp_seg (pc' := 17) (lv' := [(0, .ref u)]) (st' := [.int (nu - 1), .ref (u + 1)]) [(15, .iconst 1), (16, .isub)] (by decide +kernel) rfl ?_
      have k7 := zsubC nu 1 (n := 1) (by decide) (by omega) (by omega)
      generalize ev17 : (nu - 1 : Int32) = v17 at k7 ⊢
      have kv17 := zrng v17
      refine zr_iald (by decide +kernel) hu2 (zin (by first | omega | decide) (by first | omega | decide)) ?_
      have hz8 : (v17.toNatClampNeg : Int) = v17.toInt := znat (by first | omega | decide)
      obtain ⟨x17, ex17⟩ : ∃ x9, x9 = fu (v17.toNatClampNeg) := ⟨_, rfl⟩
      rw [← ex17]
      have kx17 := zrng x17
      have hvx17 := hu5 (v17.toNatClampNeg) (by omega)
      rw [← ex17] at hvx17
      have hwx17 : 0 ≤ x17.toInt ∧ x17.toInt < 2147483647 := hvx17.1
      refine zp_if (i := .ifCond .ne 16) (c := ¬ x17 = 0) (t := 34) (e := 21) (lv' := [(0, .ref u)]) (st' := []) (by decide +kernel) rfl (fun cc18 => ?_) (fun cc18 => ?_)
      ·
        have f9 := zneI cc18
        rw [show (0 : Int32).toInt = 0 from by decide] at f9
        have hoffend : ∀ x, (x < u ∨ u + 1 ≤ x) → wL0 x = w x := fun x hx => (heqL0 x (by omega))
        refine zr_retV (by decide +kernel) rfl ?_
        rw [← hPost]; exact ⟨rfl, _, rfl, hsiL0, hoffend, (by
              have e : zln p = K := by
                first
                  | exact zln_uniq hu6 (Or.inl (by omega))
                  | exact zln_uniq hu6 (Or.inr (fun e9 => cc18 (zf_z hvx17.1 (by rw [hvx17.2, show v17.toNatClampNeg = K - 1 by (have := znat (x := v17) (by omega); omega)]; exact e9))))
              exact zU.mk hu1 hu2 (by omega) (by omega) (fun i hi => hu5 i (by omega))), rfl⟩
      ·
        replace cc18 := Classical.not_not.mp cc18
        have f10 := zeqI cc18
        rw [show (0 : Int32).toInt = 0 from by decide] at f10
        refine zp_seg (pc' := 23) (lv' := [(0, .ref u)]) (st' := [.ref u, .ref u]) [(21, .aload_n 0), (22, .dup)] (by decide +kernel) rfl ?_
        refine zr_get (idx := 13) (k := 1) (v := .int nu) (by decide +kernel) (by decide +kernel) hu1 rfl ?_
        refine zp_seg (pc' := 28) (lv' := [(0, .ref u)]) (st' := [.int (nu - 1), .ref u]) [(26, .iconst 1), (27, .isub)] (by decide +kernel) rfl ?_
        have k11 := zsubC nu 1 (n := 1) (by decide) (by omega) (by omega)
        generalize ev28 : (nu - 1 : Int32) = v28 at k11 ⊢
        have kv28 := zrng v28
        refine zr_put2 (idx := 13) (k := 1) (fs2 := [.ref (u + 1), .int v28]) (by decide +kernel) (by decide +kernel) hu1 (Nat.le_of_ble_eq_true rfl) rfl rfl rfl ?_
        show zP (d + 1) zq_X15_trim 31 [(0, .ref u)] [] (zup wL0 u (.inl (14, [.ref (u + 1), .int v28]))) sz 0 0 Post
        obtain ⟨w28, ew28⟩ : ∃ wz9, wz9 = zup wL0 u (.inl (14, [.ref (u + 1), .int v28])) := ⟨_, rfl⟩
        have hsi28 : zSI wL0 w28 := by rw [ew28]; exact zSI.setU hu1
        have heq28 : ∀ x, x ≠ u → w28 x = wL0 x := fun x hx => by rw [ew28]; exact zup_n hx
        have hc28 : w28 u = some (.inl (14, [.ref (u + 1), .int v28])) := by rw [ew28]; exact zup_s
        rw [← ew28]
        clear ew28
        refine zp_seg (pc' := 0) (lv' := [(0, .ref u)]) (st' := []) [(31, .goto (-31))] (by decide +kernel) rfl ?_
        have hb12 : w28 (u + 1) = some (.inr (0, cap, .inl fu)) := (heq28 (u + 1) (by omega)).trans hu2
        exact (ih0 w28 (K - 1) (hsiL0.tr hsi28) (fun x hx => ((heq28 x (by omega)).trans (heqL0 x (by omega)))) (by
              have e0 : v17.toNatClampNeg = K - 1 := by have := znat (x := v17) (by omega); omega
              refine ⟨_, fu, hc28, hb12, by omega, by omega, fun i hi => hu5 i (by omega), fun i hi => ?_⟩
              by_cases e : i = K - 1
              · rw [e, ← e0, ← hvx17.2, cc18]; exact zf_0
              · exact hu6 i (by omega)) (by omega)).more (zfa1 rfl (zfa0))
  exact (hL0 _ w (N) zSI.rf (fun _ _ => rfl) (by
        exact hUn_u) (Nat.lt_succ_self _)).more (zfa1 rfl (zfa0))

set_option maxHeartbeats 8000000 in
set_option maxRecDepth 100000 in
theorem c_X15_number {w : zM} {cap : Nat} (u : Nat) (v : Int32) (hUo_u : zUo w u cap) (h_v : zr1 v) (hcap : 0 < cap) : zCon 1 zq_X15_number [.ref u, .int v] w (fun v9 w9' => zSI w w9' ∧ (∀ x, (x < u ∨ u + 2 ≤ x) → w9' x = w x) ∧ zU w9' u cap (zaC (zf v)) ∧ v9 = none) := by
  intro d sz hd
  obtain ⟨d, rfl⟩ : ∃ d9, d = d9 + 1 := ⟨d - 1, by omega⟩
  generalize hPost : (fun (r9' : Option (Option Value)) (w9' : zM) (z9 : Nat) => z9 = sz ∧ ∃ v9, r9' = some v9 ∧ (zSI w w9' ∧ (∀ x, (x < u ∨ u + 2 ≤ x) → w9' x = w x) ∧ zU w9' u cap (zaC (zf v)) ∧ v9 = none)) = Post
  show zP (d + 1) zq_X15_number 0 [(0, .ref u), (1, .int v)] [] w sz 0 0 Post
  have k1 := zrng v
  refine zp_seg (pc' := 1) (lv' := [(0, .ref u), (1, .int v)]) (st' := [.ref u]) [(0, .aload_n 0)] (by decide +kernel) rfl ?_
  obtain ⟨n2, f3, hu4, hu5⟩ := id hUo_u
  have kn2 := zrng n2
  refine zr_get (idx := 7) (k := 0) (v := .ref (u + 1)) (by decide +kernel) (by decide +kernel) hu4 rfl ?_
  refine zp_seg (pc' := 6) (lv' := [(0, .ref u), (1, .int v)]) (st' := [.int v, .int 0, .ref (u + 1)]) [(4, .iconst 0), (5, .iload_n 1)] (by decide +kernel) rfl ?_
  have hl7 : (0 : Int32).toInt = 0 := by decide
  have hz8 : ((0 : Int32).toNatClampNeg : Int) = 0 := by decide
  refine zr_iast (by decide +kernel) hu5 (zin (by first | omega | decide) (by first | omega | decide)) ?_
  show zP (d + 1) zq_X15_number 7 [(0, .ref u), (1, .int v)] [] (zup w (u + 1) (.inr (0, cap, .inl (upd f3 ((0 : Int32).toNatClampNeg) v)))) sz 0 0 Post
  obtain ⟨w6, ew6⟩ : ∃ wz9, wz9 = zup w (u + 1) (.inr (0, cap, .inl (upd f3 ((0 : Int32).toNatClampNeg) v))) := ⟨_, rfl⟩
  have hsi6 : zSI w w6 := by rw [ew6]; exact zSI.arr _ hu5
  have heq6 : ∀ x, x ≠ u + 1 → w6 x = w x := fun x hx => by rw [ew6]; exact zup_n hx
  have hc6 : w6 (u + 1) = some (.inr (0, cap, .inl (upd f3 ((0 : Int32).toNatClampNeg) v))) := by rw [ew6]; exact zup_s
  rw [← ew6]
  clear ew6
  refine zp_seg (pc' := 9) (lv' := [(0, .ref u), (1, .int v)]) (st' := [.int v, .ref u]) [(7, .aload_n 0), (8, .iload_n 1)] (by decide +kernel) rfl ?_
  refine zp_if (i := .ifCond .ne 7) (c := ¬ v = 0) (t := 16) (e := 12) (lv' := [(0, .ref u), (1, .int v)]) (st' := [.ref u]) (by decide +kernel) rfl (fun cc9 => ?_) (fun cc9 => ?_)
  ·
    have f9 := zneI cc9
    rw [show (0 : Int32).toInt = 0 from by decide] at f9
    refine zp_seg (pc' := 17) (lv' := [(0, .ref u), (1, .int v)]) (st' := [.int 1, .ref u]) [(16, .iconst 1)] (by decide +kernel) rfl ?_
    have hb10 : w6 u = some (.inl (14, [.ref (u + 1), .int n2])) := (heq6 u (by omega)).trans hu4
    refine zr_put2 (idx := 13) (k := 1) (fs2 := [.ref (u + 1), .int 1]) (by decide +kernel) (by decide +kernel) hb10 (Nat.le_of_ble_eq_true rfl) rfl rfl rfl ?_
    show zP (d + 1) zq_X15_number 20 [(0, .ref u), (1, .int v)] [] (zup w6 u (.inl (14, [.ref (u + 1), .int 1]))) sz 0 0 Post
    obtain ⟨w17, ew17⟩ : ∃ wz9, wz9 = zup w6 u (.inl (14, [.ref (u + 1), .int 1])) := ⟨_, rfl⟩
    have hsi17 : zSI w6 w17 := by rw [ew17]; exact zSI.setU hb10
    have heq17 : ∀ x, x ≠ u → w17 x = w6 x := fun x hx => by rw [ew17]; exact zup_n hx
    have hc17 : w17 u = some (.inl (14, [.ref (u + 1), .int 1])) := by rw [ew17]; exact zup_s
    rw [← ew17]
    clear ew17
    have hoffend : ∀ x, (x < u ∨ u + 2 ≤ x) → w17 x = w x := fun x hx => ((heq17 x (by omega)).trans (heq6 x (by omega)))
    have hb11 : w17 (u + 1) = some (.inr (0, cap, .inl (upd f3 ((0 : Int32).toNatClampNeg) v))) := (heq17 (u + 1) (by omega)).trans hc6
    refine zr_retV (by decide +kernel) rfl ?_
    rw [← hPost]; exact ⟨rfl, _, rfl, (hsi6.tr hsi17), hoffend, (by
          first
            | (have e : zf v = 0 := by rw [cc9]; exact zf_0
               rw [e, show zaC 0 = zaZ from zKo_0]
               exact zU.mk0 hc17 hb11)
            | (have e : zln (zaC (zf v)) = 1 := zln_C (zf_nz h_v cc9)
               refine zU.mk hc17 hb11 (by rw [e]; decide) (by omega) (fun i hi => ?_)
               have e0 : i = 0 := by omega
               subst e0
               exact ⟨h_v, rfl⟩)), rfl⟩
  ·
    replace cc9 := Classical.not_not.mp cc9
    have f12 := zeqI cc9
    rw [show (0 : Int32).toInt = 0 from by decide] at f12
    refine zp_seg (pc' := 17) (lv' := [(0, .ref u), (1, .int v)]) (st' := [.int 0, .ref u]) [(12, .iconst 0), (13, .goto 4)] (by decide +kernel) rfl ?_
    have hb13 : w6 u = some (.inl (14, [.ref (u + 1), .int n2])) := (heq6 u (by omega)).trans hu4
    refine zr_put2 (idx := 13) (k := 1) (fs2 := [.ref (u + 1), .int 0]) (by decide +kernel) (by decide +kernel) hb13 (Nat.le_of_ble_eq_true rfl) rfl rfl rfl ?_
    show zP (d + 1) zq_X15_number 20 [(0, .ref u), (1, .int v)] [] (zup w6 u (.inl (14, [.ref (u + 1), .int 0]))) sz 0 0 Post
    obtain ⟨w17, ew17⟩ : ∃ wz9, wz9 = zup w6 u (.inl (14, [.ref (u + 1), .int 0])) := ⟨_, rfl⟩
    have hsi17 : zSI w6 w17 := by rw [ew17]; exact zSI.setU hb13
    have heq17 : ∀ x, x ≠ u → w17 x = w6 x := fun x hx => by rw [ew17]; exact zup_n hx
    have hc17 : w17 u = some (.inl (14, [.ref (u + 1), .int 0])) := by rw [ew17]; exact zup_s
    rw [← ew17]
    clear ew17
    have hoffend : ∀ x, (x < u ∨ u + 2 ≤ x) → w17 x = w x := fun x hx => ((heq17 x (by omega)).trans (heq6 x (by omega)))
    have hb14 : w17 (u + 1) = some (.inr (0, cap, .inl (upd f3 ((0 : Int32).toNatClampNeg) v))) := (heq17 (u + 1) (by omega)).trans hc6
    refine zr_retV (by decide +kernel) rfl ?_
    rw [← hPost]; exact ⟨rfl, _, rfl, (hsi6.tr hsi17), hoffend, (by
          first
            | (have e : zf v = 0 := by rw [cc9]; exact zf_0
               rw [e, show zaC 0 = zaZ from zKo_0]
               exact zU.mk0 hc17 hb14)
            | (have e : zln (zaC (zf v)) = 1 := zln_C (zf_nz h_v cc9)
               refine zU.mk hc17 hb14 (by rw [e]; decide) (by omega) (fun i hi => ?_)
               have e0 : i = 0 := by omega
               subst e0
               exact ⟨h_v, rfl⟩)), rfl⟩

set_option maxHeartbeats 8000000 in
set_option maxRecDepth 100000 in
theorem c_X15_head {w : zM} {cap : Nat} {p : zA1} (u : Nat) (hU_u : zU w u cap p) : zCon 1 zq_X15_head [.ref u] w (fun v9 w9' => w9' = w ∧ ∃ r9 : Int32, v9 = some (.int r9) ∧ (zr1 r9 ∧ zf r9 = zhd p)) := by
  intro d sz hd
  obtain ⟨d, rfl⟩ : ∃ d9, d = d9 + 1 := ⟨d - 1, by omega⟩
  generalize hPost : (fun (r9' : Option (Option Value)) (w9' : zM) (z9 : Nat) => z9 = sz ∧ ∃ v9, r9' = some v9 ∧ (w9' = w ∧ ∃ r9 : Int32, v9 = some (.int r9) ∧ (zr1 r9 ∧ zf r9 = zhd p))) = Post
  show zP (d + 1) zq_X15_head 0 [(0, .ref u)] [] w sz 0 0 Post
  obtain ⟨nu, fu, hu1, hu2, hu3, hu4, hu5⟩ := id hU_u
  have knu := zrng nu
  have k1 := zrng nu
  have hz2 : (nu.toNatClampNeg : Int) = nu.toInt := znat (by first | omega | decide)
  refine zp_seg (pc' := 1) (lv' := [(0, .ref u)]) (st' := [.ref u]) [(0, .aload_n 0)] (by decide +kernel) rfl ?_
  refine zr_get (idx := 13) (k := 1) (v := .int nu) (by decide +kernel) (by decide +kernel) hu1 rfl ?_
  refine zp_if (i := .ifCond .ne 7) (c := ¬ nu = 0) (t := 11) (e := 7) (lv' := [(0, .ref u)]) (st' := []) (by decide +kernel) rfl (fun cc4 => ?_) (fun cc4 => ?_)
  ·
    have f4 := zneI cc4
    rw [show (0 : Int32).toInt = 0 from by decide] at f4
    refine zp_seg (pc' := 12) (lv' := [(0, .ref u)]) (st' := [.ref u]) [(11, .aload_n 0)] (by decide +kernel) rfl ?_
    refine zr_get (idx := 7) (k := 0) (v := .ref (u + 1)) (by decide +kernel) (by decide +kernel) hu1 rfl ?_
    refine zp_seg (pc' := 16) (lv' := [(0, .ref u)]) (st' := [.ref u, .ref (u + 1)]) [(15, .aload_n 0)] (by decide +kernel) rfl ?_
    refine zr_get (idx := 13) (k := 1) (v := .int nu) (by decide +kernel) (by decide +kernel) hu1 rfl ?_
    refine zp_seg (pc' := 21) (lv' := [(0, .ref u)]) (st' := [.int (nu - 1), .ref (u + 1)]) [(19, .iconst 1), (20, .isub)] (by decide +kernel) rfl ?_
    have k5 := zsubC nu 1 (n := 1) (by decide) (by omega) (by omega)
    generalize ev21 : (nu - 1 : Int32) = v21 at k5 ⊢
    have kv21 := zrng v21
    refine zr_iald (by decide +kernel) hu2 (zin (by first | omega | decide) (by first | omega | decide)) ?_
    have hz6 : (v21.toNatClampNeg : Int) = v21.toInt := znat (by first | omega | decide)
    obtain ⟨x21, ex21⟩ : ∃ x9, x9 = fu (v21.toNatClampNeg) := ⟨_, rfl⟩
    rw [← ex21]
    have kx21 := zrng x21
    have hvx21 := hu5 (v21.toNatClampNeg) (by omega)
    rw [← ex21] at hvx21
    have hwx21 : 0 ≤ x21.toInt ∧ x21.toInt < 2147483647 := hvx21.1
    refine zr_retI (by decide +kernel) rfl ?_
    rw [← hPost]; exact ⟨rfl, _, rfl, rfl, _, rfl, (by
          first
            | exact ⟨hvx21.1, hvx21.2.trans (zc_at p (by omega))⟩
            | exact ⟨zr1_0, by rw [zf_0, zhd_0 (by omega)]⟩)⟩
  ·
    replace cc4 := Classical.not_not.mp cc4
    have f8 := zeqI cc4
    rw [show (0 : Int32).toInt = 0 from by decide] at f8
    refine zp_seg (pc' := 22) (lv' := [(0, .ref u)]) (st' := [.int 0]) [(7, .iconst 0), (8, .goto 14)] (by decide +kernel) rfl ?_
    refine zr_retI (by decide +kernel) rfl ?_
    rw [← hPost]; exact ⟨rfl, _, rfl, rfl, _, rfl, (by
          first
            | exact ⟨hvx21.1, hvx21.2.trans (zc_at p (by omega))⟩
            | exact ⟨zr1_0, by rw [zf_0, zhd_0 (by omega)]⟩)⟩

set_option maxHeartbeats 8000000 in
set_option maxRecDepth 100000 in
theorem c_X15_at {w : zM} {cap : Nat} {p : zA1} (u : Nat) (i : Int32) (hU_u : zU w u cap p) : zCon 1 zq_X15_at [.ref u, .int i] w (fun v9 w9' => w9' = w ∧ ∃ r9 : Int32, v9 = some (.int r9) ∧ (zr1 r9 ∧ (0 ≤ i.toInt → zf r9 = p.1 i.toNatClampNeg))) := by
  intro d sz hd
  obtain ⟨d, rfl⟩ : ∃ d9, d = d9 + 1 := ⟨d - 1, by omega⟩
  generalize hPost : (fun (r9' : Option (Option Value)) (w9' : zM) (z9 : Nat) => z9 = sz ∧ ∃ v9, r9' = some v9 ∧ (w9' = w ∧ ∃ r9 : Int32, v9 = some (.int r9) ∧ (zr1 r9 ∧ (0 ≤ i.toInt → zf r9 = p.1 i.toNatClampNeg)))) = Post
  show zP (d + 1) zq_X15_at 0 [(0, .ref u), (1, .int i)] [] w sz 0 0 Post
  have k1 := zrng i
  obtain ⟨nu, fu, hu1, hu2, hu3, hu4, hu5⟩ := id hU_u
  have knu := zrng nu
  have k2 := zrng nu
  have hz3 : (nu.toNatClampNeg : Int) = nu.toInt := znat (by first | omega | decide)
  refine zp_seg (pc' := 1) (lv' := [(0, .ref u), (1, .int i)]) (st' := [.int i]) [(0, .iload_n 1)] (by decide +kernel) rfl ?_
  refine zp_if (i := .ifCond .lt 20) (c := i < 0) (t := 21) (e := 4) (lv' := [(0, .ref u), (1, .int i)]) (st' := []) (by decide +kernel) rfl (fun cc1 => ?_) (fun cc1 => ?_)
  ·
    have f5 := zltI cc1
    rw [show (0 : Int32).toInt = 0 from by decide] at f5
    refine zp_seg (pc' := 22) (lv' := [(0, .ref u), (1, .int i)]) (st' := [.int 0]) [(21, .iconst 0)] (by decide +kernel) rfl ?_
    refine zr_retI (by decide +kernel) rfl ?_
    rw [← hPost]; exact ⟨rfl, _, rfl, rfl, _, rfl, (by
          first
            | exact ⟨hvx17.1, fun _ => hvx17.2⟩
            | exact ⟨zr1_0, fun h9 => by rw [zf_0]; exact (zln_dg p _ (by have := znat (x := i) h9; omega)).symm⟩)⟩
  ·
    have f7 := znltI cc1
    rw [show (0 : Int32).toInt = 0 from by decide] at f7
    refine zp_seg (pc' := 6) (lv' := [(0, .ref u), (1, .int i)]) (st' := [.ref u, .int i]) [(4, .iload_n 1), (5, .aload_n 0)] (by decide +kernel) rfl ?_
    refine zr_get (idx := 13) (k := 1) (v := .int nu) (by decide +kernel) (by decide +kernel) hu1 rfl ?_
    refine zp_if (i := .if_icmp .ge 12) (c := nu ≤ i) (t := 21) (e := 12) (lv' := [(0, .ref u), (1, .int i)]) (st' := []) (by decide +kernel) rfl (fun cc9 => ?_) (fun cc9 => ?_)
    ·
      have f8 := zleI cc9
      refine zp_seg (pc' := 22) (lv' := [(0, .ref u), (1, .int i)]) (st' := [.int 0]) [(21, .iconst 0)] (by decide +kernel) rfl ?_
      refine zr_retI (by decide +kernel) rfl ?_
      rw [← hPost]; exact ⟨rfl, _, rfl, rfl, _, rfl, (by
            first
              | exact ⟨hvx17.1, fun _ => hvx17.2⟩
              | exact ⟨zr1_0, fun h9 => by rw [zf_0]; exact (zln_dg p _ (by have := znat (x := i) h9; omega)).symm⟩)⟩
    ·
      have f9 := znleI cc9
      refine zp_seg (pc' := 13) (lv' := [(0, .ref u), (1, .int i)]) (st' := [.ref u]) [(12, .aload_n 0)] (by decide +kernel) rfl ?_
      refine zr_get (idx := 7) (k := 0) (v := .ref (u + 1)) (by decide +kernel) (by decide +kernel) hu1 rfl ?_
      refine zp_seg (pc' := 17) (lv' := [(0, .ref u), (1, .int i)]) (st' := [.int i, .ref (u + 1)]) [(16, .iload_n 1)] (by decide +kernel) rfl ?_
      refine zr_iald (by decide +kernel) hu2 (zin (by first | omega | decide) (by first | omega | decide)) ?_
      have hz10 : (i.toNatClampNeg : Int) = i.toInt := znat (by first | omega | decide)
      obtain ⟨x17, ex17⟩ : ∃ x9, x9 = fu (i.toNatClampNeg) := ⟨_, rfl⟩
      rw [← ex17]
      have kx17 := zrng x17
      have hvx17 := hu5 (i.toNatClampNeg) (by omega)
      rw [← ex17] at hvx17
      have hwx17 : 0 ≤ x17.toInt ∧ x17.toInt < 2147483647 := hvx17.1
      refine zp_seg (pc' := 22) (lv' := [(0, .ref u), (1, .int i)]) (st' := [.int x17]) [(18, .goto 4)] (by decide +kernel) rfl ?_
      refine zr_retI (by decide +kernel) rfl ?_
      rw [← hPost]; exact ⟨rfl, _, rfl, rfl, _, rfl, (by
            first
              | exact ⟨hvx17.1, fun _ => hvx17.2⟩
              | exact ⟨zr1_0, fun h9 => by rw [zf_0]; exact (zln_dg p _ (by have := znat (x := i) h9; omega)).symm⟩)⟩
