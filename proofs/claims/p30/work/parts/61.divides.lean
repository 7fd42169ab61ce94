/-! division in two letters -/
def zbmon (x : zA1) (j : Nat) : zA2 := ⟨@zmon zA1 zA1R x j, j + 1, fun i hi => @zDg_mon zA1 zA1R x j i hi⟩
theorem zbmon_M (x : zA1) (j : Nat) (d : zA2) (t : Nat) : (zbM (zbmon x j) d).1 t = if j ≤ t then zaM x (d.1 (t - j)) else zaZ := @zcv_mon zA1 zA1R x d.1 j t
/-- what a division has come to: p = Q d + R -/
def zDv2 (p d Q R : zA2) (good : Prop) : Prop := p = zbA (zbM Q d) R ∧ (∀ t, t + zrw d ≤ zrw R → Q.1 t = zaZ) ∧ (∀ t, zrw p + 1 ≤ t + zrw d → Q.1 t = zaZ) ∧ zrw R ≤ zrw p ∧ ((∃ c, p = zbM c d ∧ ∀ i, zln (c.1 i) ≤ 100) → good)
theorem zDv2_0 (p d : zA2) (hd : 0 < zrw d) (good : Prop) (h : zrw p = 0 ∨ zrw d ≤ zrw p → good) : zDv2 p d zbZ p good := by
  refine ⟨?_, fun _ _ => zbZ_c _, fun _ _ => zbZ_c _, Nat.le_refl _, ?_⟩
  · rw [zbM_Zl]
    letI := zA2R
    show p = 0 + p
    grind
  · rintro ⟨c, hc, -⟩
    apply h
    by_cases h0 : zrw p = 0
    · exact Or.inl h0
    · right
      have hc0 : 0 < zrw c := zrw_nz fun e => by rw [e, zbM_Zl] at hc; rw [hc, zrw_Z] at h0; exact h0 rfl
      have := (zrw_M hc0 hd).1
      rw [← hc] at this
      omega
/-- what stands at the top where d divides -/
theorem zDv2_top {p d Q R c : zA2} {good : Prop} (hd : 0 < zrw d) (hle : zrw d ≤ zrw R) (h : zDv2 p d Q R good) (hc : p = zbM c d) : R.1 (zrw R - 1) = zaM (c.1 (zrw R - zrw d)) (d.1 (zrw d - 1)) := by
  obtain ⟨h1, h2, h3, h4, h5⟩ := h
  have e : R = zbM (zbS c Q) d := by
    letI := zA2R
    have h1' : p = Q * d + R := h1
    have hc' : p = c * d := hc
    show R = (c - Q) * d
    grind
  have hs0 : 0 < zrw (zbS c Q) := zrw_nz fun e0 => by rw [e0, zbM_Zl] at e; rw [e, zrw_Z] at hle; omega
  obtain ⟨k1, k2⟩ := zrw_M hs0 hd
  rw [← e] at k1 k2
  rw [show zrw R - 1 = zrw (zbS c Q) + zrw d - 2 by omega, k2, show zrw (zbS c Q) - 1 = zrw R - zrw d by omega, zbS_c, h2 _ (by omega), zaS_Zr]
/-- a step: the quotient of the tops at its place -/
theorem zDv2_s {p d Q R : zA2} {good good' : Prop} {x : zA1} (hd : 0 < zrw d) (hle : zrw d ≤ zrw R) (h : zDv2 p d Q R good) (hx : R.1 (zrw R - 1) = zaM x (d.1 (zrw d - 1))) (hg : good → good') :
    zDv2 p d (zbA Q (zbmon x (zrw R - zrw d))) (zbS R (zbM (zbmon x (zrw R - zrw d)) d)) good' ∧ zrw (zbS R (zbM (zbmon x (zrw R - zrw d)) d)) < zrw R := by
  obtain ⟨h1, h2, h3, h4, h5⟩ := h
  have hlt : zrw (zbS R (zbM (zbmon x (zrw R - zrw d)) d)) ≤ zrw R - 1 := zrw_le fun t ht => by
    rw [zbS_c, zbmon_M, if_pos (by omega)]
    by_cases e : t = zrw R - 1
    · rw [e, hx, show zrw R - 1 - (zrw R - zrw d) = zrw d - 1 by omega]
      letI := zA1R
      show x * _ - x * _ = (0 : zA1)
      grind
    · rw [zrw_dg R t (by omega), zrw_dg d _ (by omega), zaM_Zr, zaS_Zr]
  have hmon : ∀ t, t ≠ zrw R - zrw d → (zbmon x (zrw R - zrw d)).1 t = zaZ := fun t ht => if_neg ht
  refine ⟨⟨?_, fun t ht => ?_, fun t ht => ?_, by omega, fun hc => hg (h5 hc)⟩, by omega⟩
  · letI := zA2R
    have h1' : p = Q * d + R := h1
    show p = (Q + zbmon x (zrw R - zrw d)) * d + (R - zbmon x (zrw R - zrw d) * d)
    generalize zbmon x (zrw R - zrw d) = M9 at *
    grind
  · rw [zbA_c, h2 t (by omega), hmon t (by omega), zaA_Zr]
  · rw [zbA_c, h3 t ht, hmon t (by omega), zaA_Zr]
theorem zDv2_g {p d Q R : zA2} {good good' : Prop} (h : zDv2 p d Q R good) (hg : good → (∃ c, p = zbM c d ∧ ∀ i, zln (c.1 i) ≤ 100) → good') : zDv2 p d Q R good' := by
  obtain ⟨h1, h2, h3, h4, h5⟩ := h
  exact ⟨h1, h2, h3, h4, fun hc => hg (h5 hc) hc⟩
/-- the end -/
theorem zDv2_e {p d Q R : zA2} {good : Prop} (hd : 0 < zrw d) (h : zDv2 p d Q R good) (hlt : ¬ good ∨ zrw R < zrw d) : (zrw R = 0 → p = zbM Q d) ∧ ((∃ c, p = zbM c d ∧ ∀ i, zln (c.1 i) ≤ 100) → good ∧ zrw R = 0) := by
  obtain ⟨h1, h2, h3, h4, h5⟩ := h
  constructor
  · intro h0
    rw [zrw_0.mp h0] at h1
    rw [h1]
    letI := zA2R
    show Q * d + 0 = Q * d
    grind
  · intro hc
    have hg := h5 hc
    refine ⟨hg, ?_⟩
    obtain ⟨c, hc, -⟩ := hc
    rcases hlt with h | h
    · exact absurd hg h
    · have e : R = zbM (zbS c Q) d := by
        letI := zA2R
        have h1' : p = Q * d + R := h1
        have hc' : p = c * d := hc
        show R = (c - Q) * d
        grind
      by_cases hs : zrw (zbS c Q) = 0
      · rw [e, zrw_0.mp hs, zbM_Zl, zrw_Z]
      · have := (zrw_M (show 0 < zrw (zbS c Q) by omega) hd).1
        rw [← e] at this
        omega
/-- where the tops don't divide, or what comes is too long, d divides not (by what is short) -/
theorem zDv2_f {p d Q R : zA2} {good good' : Prop} (hd : 0 < zrw d) (hle : zrw d ≤ zrw R) (h : zDv2 p d Q R good) (hf : 0 < zln (zrem (R.1 (zrw R - 1)) (d.1 (zrw d - 1))) ∨ 100 < zln (zquo (R.1 (zrw R - 1)) (d.1 (zrw d - 1)))) : zDv2 p d Q R good' :=
  zDv2_g h fun _ ⟨c, hc, hs⟩ => by
    exfalso
    have ht := zDv2_top hd hle h hc
    have hl := zln_nz (zrw_hd hd)
    have e := zdm_is (p := R.1 (zrw R - 1)) (d := d.1 (zrw d - 1)) (q := c.1 (zrw R - zrw d)) (r := zaZ) (by rw [zaA_Zr]; exact ht) (by rw [zln_Z]; exact hl)
    rw [← e.1, ← e.2, zln_Z] at hf
    have := hs (zrw R - zrw d)
    omega
theorem zDv2_x {d R : zA2} (hd : 0 < zrw d) (hr : zln (zrem (R.1 (zrw R - 1)) (d.1 (zrw d - 1))) = 0) : R.1 (zrw R - 1) = zaM (zquo (R.1 (zrw R - 1)) (d.1 (zrw d - 1))) (d.1 (zrw d - 1)) := by
  have h := (@zdm (R.1 (zrw R - 1)) (d.1 (zrw d - 1)) (zln_nz (zrw_hd hd))).1
  rw [zln_0.mp hr, zaA_Zr] at h
  exact h
theorem zDv2_row (R d : zA2) (x : zA1) (J t : Nat) : (zbS R (zbM (zbmon x J) d)).1 t = if J ≤ t ∧ t < J + zrw d then zaS (R.1 t) (zaM x (d.1 (t - J))) else R.1 t := by
  rw [zbS_c, zbmon_M]
  by_cases h : J ≤ t
  · rw [if_pos h]
    by_cases h2 : t < J + zrw d
    · rw [if_pos ⟨h, h2⟩]
    · rw [if_neg (fun k => h2 k.2), zrw_dg d _ (by omega), zaM_Zr, zaS_Zr]
  · rw [if_neg h, if_neg (fun k => h k.1), zaS_Zr]
