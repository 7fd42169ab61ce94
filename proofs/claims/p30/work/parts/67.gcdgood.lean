/-! the greatest common divisor in two letters: numbers for n that are good -/
theorem zgK_r {f g u v : zA2} {r : zA1} (hf : 0 < zrw f) (hg : 0 < zrw g) (hf6 : zrw f ≤ 64) (hg6 : zrw g ≤ 64) (hfd : zdn f ≤ 99) (hgd : zdn g ≤ 99) (h0 : r ≠ zaZ) (hr : zbC r = zbA (zbM u f) (zbM v g)) :
    ∃ (r' : zA1) (u' v' : zA2), 0 < zln r' ∧ zln r' ≤ 12701 ∧ zbC r' = zbA (zbM u' f) (zbM v' g) := by
  by_cases e : zrw f = 1 ∧ zrw g = 1
  · refine ⟨f.1 0, zbC zaO, zbZ, ?_, ?_, ?_⟩
    · have := zln_nz (zrw_hd hf)
      rw [e.1] at this
      exact this
    · have := zdn_le f 0; omega
    · rw [zbM_Zl]
      apply zb_ext
      intro i
      rw [show (zbA (zbM (zbC zaO) f) zbZ).1 i = zaA ((zbM (zbC zaO) f).1 i) (zbZ.1 i) from rfl, zbCM_c, zbZ_c, zaA_Zr, zbC_c]
      have h1 : zaM zaO (f.1 i) = f.1 i := by
        letI := zA1R
        show 1 * f.1 i = f.1 i
        grind
      rw [h1]
      by_cases e' : i = 0
      · rw [if_pos e', e']
      · rw [if_neg e', zrw_dg f i (by omega)]
  · obtain ⟨r', u', v', h1, h2, h3⟩ := zSmallR f g (zrw f - 1) (zrw g - 1) 100 (by rw [show zrw f - 1 + 1 = zrw f by omega]; exact zrw_dg f) (by rw [show zrw g - 1 + 1 = zrw g by omega]; exact zrw_dg g)
      (fun h => zrw_hd hg (h (zrw g - 1) (by omega))) (fun j => zDg_mono (zln_dg (f.1 j)) (by have := zdn_le f j; omega)) (fun j => zDg_mono (zln_dg (g.1 j)) (by have := zdn_le g j; omega)) (by omega) r u v h0 hr
    have h4 := zln_le h2
    exact ⟨r', u', v', zln_nz h1, by omega, h3⟩
theorem zgK_all (a b : zA2) (ha : 0 < zrw a) (hb : 0 < zrw b) (ha6 : zrw a ≤ 64) (hb6 : zrw b ≤ 64) (had : zdn a ≤ 99) (hbd : zdn b ≤ 99) :
    ∃ (G f g u v : zA2) (r p : zA1), a = zbM f G ∧ b = zbM g G ∧ 0 < zrw f ∧ 0 < zrw g ∧ 0 < zrw G ∧ 0 < zln r ∧ zbC r = zbA (zbM u f) (zbM v g) ∧ 0 < zln p ∧ zln p ≤ 12901 ∧
      ∀ x, zVl x p ≠ 0 → zVl x (a.1 (zrw a - 1)) ≠ 0 ∧ zVl x (b.1 (zrw b - 1)) ≠ 0 ∧ zln (zgcd (zMp x a) (zMp x b)) = zrw G := by
  have ha0 : a ≠ zbZ := fun e => by rw [e, zrw_Z] at ha; omega
  obtain ⟨r, G, f, g, u, v, h1, h2, h3, h4⟩ := zGcdF a b (Or.inl ha0)
  have h2' : a = zbM f G := h2
  have h3' : b = zbM g G := h3
  have pos : ∀ {q : zA2}, q ≠ zbZ → 0 < zrw q := fun h => Nat.pos_of_ne_zero fun e => h (zrw_0.mp e)
  have hf : 0 < zrw f := pos fun e => by rw [h2', e, zbM_Zl, zrw_Z] at ha; omega
  have hG : 0 < zrw G := pos fun e => by rw [h2', e, zbM_Zr, zrw_Z] at ha; omega
  have hg : 0 < zrw g := pos fun e => by rw [h3', e, zbM_Zl, zrw_Z] at hb; omega
  have k1 := (zrw_M hf hG).1
  have k2 := (zrw_M hg hG).1
  have k3 := zdn_MM hf hG
  have k4 := zdn_MM hg hG
  rw [← h2'] at k1 k3
  rw [← h3'] at k2 k4
  obtain ⟨r', u', v', m1, m2, m3⟩ := zgK_r hf hg (by omega) (by omega) (by omega) (by omega) h1 h4
  have a1 := zln_nz (zrw_hd ha)
  have b1 := zln_nz (zrw_hd hb)
  have a2 := zdn_le a (zrw a - 1)
  have b2 := zdn_le b (zrw b - 1)
  have p1 := @zln_M (a.1 (zrw a - 1)) (b.1 (zrw b - 1)) a1 b1
  have p2 := @zln_M (zaM (a.1 (zrw a - 1)) (b.1 (zrw b - 1))) r' (by omega) m1
  refine ⟨G, f, g, u', v', r', zaM (zaM (a.1 (zrw a - 1)) (b.1 (zrw b - 1))) r', h2', h3', hf, hg, hG, m1, m3, by omega, by omega, fun x hx => ?_⟩
  rw [zVl_M, zVl_M] at hx
  have x1 : zVl x (a.1 (zrw a - 1)) ≠ 0 := fun e => hx (by rw [e]; grind)
  have x2 : zVl x (b.1 (zrw b - 1)) ≠ 0 := fun e => hx (by rw [e]; grind)
  have x3 : zVl x r' ≠ 0 := fun e => hx (by rw [e]; grind)
  refine ⟨x1, x2, ?_⟩
  rw [h2'] at x1
  have y1 := zgK_ge (g := g) hf hG x1
  have y2 := (zMp_fac hf hG x1).1
  have y3 := zgK_le (G := G) m3 x3 (by omega)
  rw [h2', h3']
  omega
