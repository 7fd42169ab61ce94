/-! what a batch of numbers gives -/
theorem zbM_as3 (a b c : zA2) : zbM (zbM a b) c = zbM a (zbM b c) := by
  letI := zA2R
  show a * b * c = a * (b * c)
  grind
theorem zbM_lc (a b c : zA2) : zbM (zbM a b) c = zbM b (zbM a c) := by
  letI := zA2R
  show a * b * c = b * (a * c)
  grind
theorem zbC_M (a b : zA1) : zbC (zaM a b) = zbM (zbC a) (zbC b) := zb_ext fun i => by
  rw [zbCM_c, zbC_c, zbC_c]
  by_cases e : i = 0
  · rw [if_pos e, if_pos e]
  · rw [if_neg e, if_neg e, zaM_Zr]
theorem zbM_cancel {c p q : zA2} (hc : 0 < zrw c) (h : zbM c p = zbM c q) : p = q := by
  have e : zbM c (zbS p q) = zbZ := by
    letI := zA2R
    have h' : c * p = c * q := h
    show c * (p - q) = 0
    grind
  rcases zbM_z e with e1 | e1
  · rw [e1, zrw_Z] at hc; omega
  · letI := zA2R
    have e2 : p - q = 0 := e1
    grind
theorem zgB_top {n rows : Nat} {X : Nat → zF} {D : Nat → zA1} {H : zA2} {l : zA1} (hr : 0 < rows) (hX : ∀ i j, i < n → j < n → X i = X j → i = j) (hl0 : 0 < zln l) (hl : zln l ≤ n)
    (hD : ∀ i, i < n → zln (D i) = rows ∧ (D i).1 (rows - 1) = 1) (hH0 : ∀ j, rows ≤ j → H.1 j = zaZ) (hHn : ∀ j, zln (H.1 j) ≤ n) (hH : ∀ i, i < n → ∀ j, j < rows → zVl (X i) (H.1 j) = zVl (X i) l * (D i).1 j) :
    zrw H = rows ∧ H.1 (rows - 1) = l := by
  have h1 : H.1 (rows - 1) = l := zThr_u hX (hHn _) hl fun t ht => by
    rw [hH t ht _ (by omega), (hD t ht).2]
    exact zF_1r _
  exact ⟨zrw_uniq hH0 (Or.inr (by rw [h1]; intro e; rw [e, zln_Z] at hl0; omega)), h1⟩
theorem zF_b1 {e g i x : zF} (h : g * i = 1) : e * g * (i * x) = e * x := by grind
theorem zgB_eq {n : Nat} {X : Nat → zF} {G H : zA2} {l e : zA1} (hG : 0 < zrw G) (hX : ∀ i j, i < n → j < n → X i = X j → i = j) (hl : l = zaM e (G.1 (zrw G - 1))) (hl0 : 0 < zln l) (hn : zln l + zdn G ≤ n)
    (hD : ∀ i, i < n → zVl (X i) (G.1 (zrw G - 1)) ≠ 0) (hH0 : ∀ j, zrw G ≤ j → H.1 j = zaZ) (hHn : ∀ j, zln (H.1 j) ≤ n)
    (hH : ∀ i, i < n → ∀ j, j < zrw G → zVl (X i) (H.1 j) = zVl (X i) l * (zaM (zaC (zinvF (zVl (X i) (G.1 (zrw G - 1))))) (zMp (X i) G)).1 j) : H = zbM (zbC e) G := by
  apply zb_ext
  intro j
  rw [zbCM_c]
  have e0 : 0 < zln e := Nat.pos_of_ne_zero fun h => by rw [hl, zln_0.mp h, zaM_Zl, zln_Z] at hl0; omega
  have g0 := zln_nz (zrw_hd hG)
  have e1 := zln_M e0 g0
  rw [← hl] at e1
  by_cases hj : j < zrw G
  · refine zThr_u hX (hHn j) ?_ fun t ht => ?_
    · have := zln_Mle e (G.1 j)
      have := zdn_le G j
      omega
    · rw [hH t ht j hj, hl, zVl_M, zVl_M, zaCM_c, zMp_c]
      have h3 := zinvF_mul (hD t ht)
      generalize zinvF (zVl (X t) (G.1 (zrw G - 1))) = i at *
      exact zF_b1 (by first | exact h3 | (rw [zF_comm]; exact h3))
  · rw [hH0 j (by omega), zrw_dg G j (by omega), zaM_Zr]
theorem zgB_dv {f G H : zA2} {e : zA1} (hG : 0 < zrw G) (he : e ≠ zaZ) (hH : H = zbM (zbC e) G) : ∃ c, zbM f G = zbM c (zprim H) := by
  have h1 : zdv (zaM e (zcont G)) (zcont H) := by
    refine (zcont_ok H).2.1 _ fun j _ => ?_
    rw [hH, zbCM_c]
    obtain ⟨c, hc⟩ := zcont_dv G j
    refine ⟨c, ?_⟩
    rw [hc]
    letI := zA1R
    show e * (c * zcont G) = c * (e * zcont G)
    grind
  obtain ⟨c2, hc2⟩ := h1
  have g1 := (zcont_nz hG).1
  have h2 := zprim_eq H
  have h3 := zprim_eq G
  have h4 : zbM (zbC (zaM e (zcont G))) (zbM (zbC c2) (zprim H)) = zbM (zbC (zaM e (zcont G))) (zprim G) := by
    have k1 : zbM (zbC (zaM e (zcont G))) (zprim G) = H := by
      rw [zbC_M, zbM_as3, ← h3, hH]
    have h7 : zbC (zcont H) = zbM (zbC c2) (zbC (zaM e (zcont G))) := (congrArg zbC hc2).trans (zbC_M c2 _)
    rw [k1]
    refine Eq.trans ?_ h2.symm
    rw [h7, zbM_lc]
  have h5 := zbM_cancel (by
    have h6 : zaM e (zcont G) ≠ zaZ := fun h => by
      have := zln_M (zln_nz he) g1
      rw [h, zln_Z] at this
      have := zln_nz he
      omega
    rw [zrw_C h6]; omega) h4
  refine ⟨zbM f (zbM (zbC (zcont G)) (zbC c2)), ?_⟩
  rw [zbM_as3, zbM_as3, h5, ← h3]
theorem zgB_rw {f g G u v s t q : zA2} {r : zA1} (hG : 0 < zrw G) (h0 : 0 < zln r) (hr : zbC r = zbA (zbM u f) (zbM v g)) (hs : zbM f G = zbM s q) (ht : zbM g G = zbM t q) : zrw q ≤ zrw G := by
  have h1 : zbM (zbC r) G = zbM (zbA (zbM u s) (zbM v t)) q := by
    rw [hr]
    letI := zA2R
    have hs' : f * G = s * q := hs
    have ht' : g * G = t * q := ht
    show (u * f + v * g) * G = (u * s + v * t) * q
    grind
  have hr0 : r ≠ zaZ := fun e => by rw [e, zln_Z] at h0; omega
  have h2 := zrw_CM hr0 G
  rw [h1] at h2
  have p1 : 0 < zrw (zbA (zbM u s) (zbM v t)) := Nat.pos_of_ne_zero fun e => by rw [zrw_0.mp e, zbM_Zl, zrw_Z] at h2; omega
  have p2 : 0 < zrw q := Nat.pos_of_ne_zero fun e => by rw [zrw_0.mp e, zbM_Zr, zrw_Z] at h2; omega
  have := (zrw_M p1 p2).1
  omega
