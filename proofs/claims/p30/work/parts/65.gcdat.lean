/-! the greatest common divisor at a number for n -/
theorem zMp_M (x : zF) (p q : zA2) : zMp x (zbM p q) = zaM (zMp x p) (zMp x q) := zMp_mul x p q
theorem zMp_A (x : zF) (p q : zA2) : zMp x (zbA p q) = zaA (zMp x p) (zMp x q) := zMp_add x p q
theorem zMp_C (x : zF) (r : zA1) : zMp x (zbC r) = zaC (zVl x r) := zMp_K x r
theorem zMp_ln (x : zF) (a : zA2) : zln (zMp x a) ≤ zrw a := zln_le (zMp_dgr x a)
theorem zMp_top {x : zF} {a : zA2} (h : zVl x (a.1 (zrw a - 1)) ≠ 0) : zln (zMp x a) = zrw a := zln_uniq (zMp_dgr x a) (Or.inr (by rw [zMp_c]; exact h))
theorem zMp_fac {x : zF} {f G : zA2} (hf : 0 < zrw f) (hG : 0 < zrw G) (h : zVl x ((zbM f G).1 (zrw (zbM f G) - 1)) ≠ 0) : zln (zMp x G) = zrw G ∧ zVl x (G.1 (zrw G - 1)) ≠ 0 := by
  have h1 := zMp_top h
  rw [zMp_M] at h1
  have h2 := (zrw_M hf hG).1
  have h3 := zln_Mle (zMp x f) (zMp x G)
  have h4 := zMp_ln x f
  have h5 := zMp_ln x G
  have h6 : zln (zMp x G) = zrw G := by omega
  refine ⟨h6, ?_⟩
  have h7 := @zln_hd (zMp x G) (by omega)
  rw [h6, zMp_c] at h7
  exact h7
theorem zgK_dv (x : zF) (f g G : zA2) : zdv (zMp x G) (zgcd (zMp x (zbM f G)) (zMp x (zbM g G))) := zgcd_m ⟨_, zMp_M x f G⟩ ⟨_, zMp_M x g G⟩
theorem zgK_ge {x : zF} {f g G : zA2} (hf : 0 < zrw f) (hG : 0 < zrw G) (h : zVl x ((zbM f G).1 (zrw (zbM f G) - 1)) ≠ 0) : zrw G ≤ zln (zgcd (zMp x (zbM f G)) (zMp x (zbM g G))) := by
  have h1 := zMp_top h
  have h2 := (zrw_M hf hG).1
  have h3 := (@zgcd_le1 (zMp x (zbM f G)) (zMp x (zbM g G)) (by omega)).1
  have h4 := (zdv_ln (zgK_dv x f g G) h3).2
  have h5 := (zMp_fac hf hG h).1
  omega
theorem zgK_le {x : zF} {f g G u v : zA2} {r : zA1} (hr : zbC r = zbA (zbM u f) (zbM v g)) (hx : zVl x r ≠ 0) (hG : 0 < zln (zMp x G)) : zln (zgcd (zMp x (zbM f G)) (zMp x (zbM g G))) ≤ zln (zMp x G) := by
  obtain ⟨k1, k2, -, -⟩ := zgcd_ok (zMp x (zbM f G)) (zMp x (zbM g G))
  generalize zgcd (zMp x (zbM f G)) (zMp x (zbM g G)) = d at *
  have h1 := zdv_lin (zMp x u) (zMp x v) k1 k2
  have h2 := congrArg (zMp x) hr
  rw [zMp_C, zMp_A, zMp_M, zMp_M] at h2
  have h3 : zaA (zaM (zMp x u) (zMp x (zbM f G))) (zaM (zMp x v) (zMp x (zbM g G))) = zaM (zaC (zVl x r)) (zMp x G) := by
    rw [h2, zMp_M, zMp_M]
    generalize zMp x u = u at *
    generalize zMp x v = v at *
    generalize zMp x f = f at *
    generalize zMp x g = g at *
    generalize zMp x G = G at *
    letI := zA1R
    show u * (f * G) + v * (g * G) = (u * f + v * g) * G
    grind
  rw [h3] at h1
  have h4 := zln_CM hx (zMp x G)
  have h5 := (zdv_ln h1 (by omega)).2
  omega
theorem zF_i1 {c h : zF} (e : c * h = 1) : c = zinvF h := by
  have h0 : h ≠ 0 := fun e0 => z1_ne (by rw [← e, e0]; grind)
  have h1 := zinvF_mul h0
  generalize zinvF h = i at *
  grind
theorem zgK_eq {x : zF} {f g G : zA2} (hf : 0 < zrw f) (hG : 0 < zrw G) (h : zVl x ((zbM f G).1 (zrw (zbM f G) - 1)) ≠ 0)
    (he : zln (zgcd (zMp x (zbM f G)) (zMp x (zbM g G))) = zrw G) : zgcd (zMp x (zbM f G)) (zMp x (zbM g G)) = zaM (zaC (zinvF (zVl x (G.1 (zrw G - 1))))) (zMp x G) := by
  obtain ⟨c, hc⟩ := zgK_dv x f g G
  obtain ⟨-, -, -, k4⟩ := zgcd_ok (zMp x (zbM f G)) (zMp x (zbM g G))
  have h5 := zMp_fac hf hG h
  generalize zgcd (zMp x (zbM f G)) (zMp x (zbM g G)) = d at *
  have hc0 : 0 < zln c := Nat.pos_of_ne_zero fun e => by
    rw [zln_0.mp e, zaM_Zl] at hc
    rw [hc, zln_Z] at he
    omega
  have h6 := @zln_M c (zMp x G) hc0 (by omega)
  rw [← hc] at h6
  have hc1 : zln c = 1 := by omega
  have ec : c = zaC (c.1 0) := za_ext fun i => by
    rw [zaC_c]
    by_cases e : i = 0
    · rw [if_pos e, e]
    · rw [if_neg e]; exact zln_dg c i (by omega)
  have k5 : zhd d = 1 := k4.resolve_left (by omega)
  have h7 : c.1 0 * zVl x (G.1 (zrw G - 1)) = 1 := by
    rw [← k5]
    show _ = d.1 (zln d - 1)
    rw [he, hc, ec, zaCM_c, zMp_c]
    rfl
  rw [← zF_i1 h7, ← ec]
  exact hc
