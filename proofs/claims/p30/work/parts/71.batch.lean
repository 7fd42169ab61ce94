/-! a batch as a whole -/
def zbOf (T : Nat → zA1) (n : Nat) : zA2 := ⟨fun j => if j < n then T j else zaZ, n, fun i hi => by
  show (if i < n then T i else zaZ) = zaZ
  rw [if_neg (by omega)]⟩
theorem zbOf_y {T : Nat → zA1} {n j : Nat} (h : j < n) : (zbOf T n).1 j = T j := by
  show (if j < n then T j else zaZ) = T j
  rw [if_pos h]
theorem zbOf_n {T : Nat → zA1} {n j : Nat} (h : n ≤ j) : (zbOf T n).1 j = zaZ := by
  show (if j < n then T j else zaZ) = zaZ
  rw [if_neg (by omega)]
theorem zlead_M {f G : zA2} (hf : 0 < zrw f) (hG : 0 < zrw G) : (zbM f G).1 (zrw (zbM f G) - 1) = zaM (f.1 (zrw f - 1)) (G.1 (zrw G - 1)) := by
  have h := zrw_M hf hG
  rw [show zrw (zbM f G) - 1 = zrw f + zrw G - 2 by omega]
  exact h.2
theorem zgB_go {p q f g G u v : zA2} {r l : zA1} {F : Nat → Int32} {t rows many : Nat} {T : Nat → zA1} (hp : p = zbM f G) (hq : q = zbM g G) (hf : 0 < zrw f) (hg : 0 < zrw g) (hG : 0 < zrw G) (h0 : 0 < zln r) (hr : zbC r = zbA (zbM u f) (zbM v g))
    (hl : l = zgcd (p.1 (zrw p - 1)) (q.1 (zrw q - 1))) (hn : many = min (zdn p) (zdn q) + zln l) (hF : zgF p q F t rows many) (hrows : 0 < rows)
    (hT : ∀ j, j < rows → zln (T j) ≤ many ∧ ∀ i, i < many → zVl (zf (F i)) (T j) = zVl (zf (F i)) l * (zgcd (zMp (zf (F i)) p) (zMp (zf (F i)) q)).1 j) :
    zrw (zbOf T rows) = rows ∧ (rows = zrw G → (∃ c, p = zbM c (zprim (zbOf T rows))) ∧ ∃ c, q = zbM c (zprim (zbOf T rows))) ∧ ((∃ s, p = zbM s (zprim (zbOf T rows))) → (∃ s, q = zbM s (zprim (zbOf T rows))) → rows ≤ zrw G) := by
  have lp : p.1 (zrw p - 1) = zaM (f.1 (zrw f - 1)) (G.1 (zrw G - 1)) := by rw [hp]; exact zlead_M hf hG
  have lq : q.1 (zrw q - 1) = zaM (g.1 (zrw g - 1)) (G.1 (zrw G - 1)) := by rw [hq]; exact zlead_M hg hG
  have f0 := zln_nz (zrw_hd hf)
  have G0 := zln_nz (zrw_hd hG)
  have lp0 : 0 < zln (p.1 (zrw p - 1)) := by
    rw [lp]
    have := zln_M f0 G0
    omega
  have hl0 : 0 < zln l := by rw [hl]; exact (zgcd_le1 lp0).1
  have hdl : zdv (G.1 (zrw G - 1)) l := by
    rw [hl]
    exact zgcd_m ⟨_, lp⟩ ⟨_, lq⟩
  obtain ⟨e, he⟩ := hdl
  have he0 : e ≠ zaZ := fun k => by rw [he, k, zaM_Zl, zln_Z] at hl0; omega
  have hd := zgF_d hF
  have hHn : ∀ j, zln ((zbOf T rows).1 j) ≤ many := fun j => by
    by_cases k : j < rows
    · rw [zbOf_y k]; exact (hT j k).1
    · rw [zbOf_n (by omega), zln_Z]; omega
  have hHv : ∀ i, i < many → ∀ j, j < rows → zVl (zf (F i)) ((zbOf T rows).1 j) = zVl (zf (F i)) l * (zgcd (zMp (zf (F i)) p) (zMp (zf (F i)) q)).1 j := fun i hi j hj => by
    rw [zbOf_y hj]; exact (hT j hj).2 i hi
  have k1 := zgB_top (X := fun i => zf (F i)) (D := fun i => zgcd (zMp (zf (F i)) p) (zMp (zf (F i)) q)) (H := zbOf T rows) hrows hd hl0 (by omega) (fun i hi => by
    have h1 := (hF.1 i hi).2.2.2
    refine ⟨h1, ?_⟩
    obtain ⟨-, -, -, h2⟩ := zgcd_ok (zMp (zf (F i)) p) (zMp (zf (F i)) q)
    have h3 := h2.resolve_left (by omega)
    rw [← h1]
    exact h3) (fun j hj => zbOf_n hj) hHn hHv
  have dn1 := zdn_MM hf hG
  have dn2 := zdn_MM hg hG
  rw [← hp] at dn1
  rw [← hq] at dn2
  refine ⟨k1.1, fun hro => ?_, fun ⟨s, hs⟩ ⟨s', hs'⟩ => ?_⟩
  · have hE : zbOf T rows = zbM (zbC e) G := zgB_eq (X := fun i => zf (F i)) hG hd he hl0 (by omega) (fun i hi => by
      have h1 := (hF.1 i hi).2.2.1.1
      rw [hp] at h1
      exact (zMp_fac hf hG h1).2) (fun j hj => zbOf_n (by omega)) hHn (fun i hi j hj => by
      rw [hHv i hi j (by omega)]
      have h1 := (hF.1 i hi).2.2
      have h2 := h1.1.1
      have h3 := h1.2
      rw [hp] at h2
      rw [hp, hq] at h3 ⊢
      rw [zgK_eq hf hG h2 (by omega)])
    have a1 := zgB_dv (f := f) hG he0 hE
    have a2 := zgB_dv (f := g) hG he0 hE
    rw [← hp] at a1
    rw [← hq] at a2
    exact ⟨a1, a2⟩
  · have h1 := zgB_rw (q := zprim (zbOf T rows)) hG h0 hr (hp.symm.trans hs) (hq.symm.trans hs')
    rw [zprim_rw, k1.1] at h1
    exact h1
