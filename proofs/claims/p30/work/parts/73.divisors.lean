/-! common divisors, and what becomes of the sizes -/
def zCd (p q G : zA2) : Prop := (∃ s, p = zbM s G) ∧ (∃ s, q = zbM s G) ∧ (0 < zrw p ∨ 0 < zrw q → 0 < zrw G)
def zLe (P p : zA2) : Prop := zrw P ≤ zrw p ∧ zdn P ≤ zdn p ∧ (0 < zrw p → 0 < zrw P)
theorem zLe.rf {p : zA2} : zLe p p := ⟨Nat.le_refl _, Nat.le_refl _, fun h => h⟩
theorem zLe.tr {a b c : zA2} (h : zLe a b) (k : zLe b c) : zLe a c := ⟨Nat.le_trans h.1 k.1, Nat.le_trans h.2.1 k.2.1, fun e => h.2.2 (k.2.2 e)⟩
theorem zb1M (p : zA2) : zbM (zbC (zaC 1)) p = p := by
  rw [zaC_1]
  letI := zA2R
  have h : p * (1 : zA2) = p := zA2R.mul_one p
  show (1 : zA2) * p = p
  grind
theorem zb4 (a b c d : zA2) : zbM (zbM a b) (zbM c d) = zbM (zbM a c) (zbM b d) := by
  letI := zA2R
  show (a * b) * (c * d) = (a * c) * (b * d)
  grind
theorem zdn_C1 : zdn (zbC (zaC 1)) = 0 := Nat.le_zero.mp (zdn_min fun j => by
  rw [zbC_c]
  split
  · rw [zln_C z1_ne]; omega
  · rw [zln_Z]; omega)
theorem zCn {c : zF} (hc : c ≠ 0) : zaC c ≠ zaZ := fun e => by
  have h := zln_C hc
  rw [e, zln_Z] at h
  omega
theorem zCd_0l {p q : zA2} (h : zrw p = 0) : zCd p q q := ⟨⟨zbZ, by rw [zbM_Zl]; exact zrw_0.mp h⟩, ⟨zbC (zaC 1), (zb1M q).symm⟩, fun k => by omega⟩
theorem zCd_0r {p q : zA2} (h : zrw q = 0) : zCd p q p := ⟨⟨zbC (zaC 1), (zb1M p).symm⟩, ⟨zbZ, by rw [zbM_Zl]; exact zrw_0.mp h⟩, fun k => by omega⟩
theorem zCd_1 (p q : zA2) : zCd p q (zbC (zaC 1)) := ⟨⟨p, (zbM_1 p).symm⟩, ⟨q, (zbM_1 q).symm⟩, fun _ => by rw [zC1_rw]; omega⟩
theorem zds_c {p A : zA2} {c : zF} (hc : c ≠ 0) (h : ∃ s, p = zbM s A) : ∃ s, p = zbM s (zbM (zbC (zaC c)) A) := by
  obtain ⟨s, hs⟩ := h
  have e : zinvF c * c = 1 := by
    have h := zinvF_mul hc
    generalize zinvF c = y at *
    grind
  refine ⟨zbM s (zbC (zaC (zinvF c))), ?_⟩
  rw [zbM_as3, ← zbM_as3 (zbC (zaC (zinvF c))), ← zbC_M, zaC_mul, e, zb1M]
  exact hs
theorem zCd_s {p q A : zA2} {c : zF} (hc : c ≠ 0) (h : zCd p q A) : zCd p q (zbM (zbC (zaC c)) A) := ⟨zds_c hc h.1, zds_c hc h.2.1, fun k => by rw [zrw_CM (zCn hc)]; exact h.2.2 k⟩
theorem zCd_p {p q A : zA2} (hp : 0 < zrw p) (h : zCd (zprim p) (zprim q) A) : zCd p q (zbM (zbC (zgcd (zcont p) (zcont q))) A) := by
  obtain ⟨⟨s, hs⟩, ⟨t, ht⟩, h3⟩ := h
  obtain ⟨⟨e, he⟩, ⟨e2, he2⟩, -, -⟩ := zgcd_ok (zcont p) (zcont q)
  have hc := (@zgcd_le1 (zcont p) (zcont q) (zcont_nz hp).1).1
  have h9 := zprim_eq p
  have h8 := zprim_eq q
  rw [hs] at h9
  rw [ht] at h8
  rw [he, zbC_M] at h9
  rw [he2, zbC_M] at h8
  generalize zgcd (zcont p) (zcont q) = c at *
  refine ⟨⟨zbM (zbC e) s, h9.trans (zb4 _ _ _ _)⟩, ⟨zbM (zbC e2) t, h8.trans (zb4 _ _ _ _)⟩, fun _ => ?_⟩
  rw [zrw_CM (fun k => by rw [k, zln_Z] at hc; omega)]
  exact h3 (Or.inl (by rw [zprim_rw]; exact hp))
theorem zdiv_sz {p Q d : zA2} (h : p = zbM Q d) (hp : 0 < zrw p) : 0 < zrw Q ∧ 0 < zrw d ∧ zrw Q + zrw d = zrw p + 1 ∧ zdn Q + zdn d = zdn p := by
  have h1 : 0 < zrw Q := Nat.pos_of_ne_zero fun e => by rw [h, zrw_M0 Q d (Or.inl e)] at hp; omega
  have h2 : 0 < zrw d := Nat.pos_of_ne_zero fun e => by rw [h, zrw_M0 Q d (Or.inr e)] at hp; omega
  have h3 := (zrw_M h1 h2).1
  have h4 := zdn_MM h1 h2
  rw [← h] at h3 h4
  exact ⟨h1, h2, h3.symm, h4.symm⟩
theorem zdiv_le {p Q d : zA2} (h : p = zbM Q d) (hd : 0 < zrw d) : zLe Q p := by
  by_cases hp : 0 < zrw p
  · have h1 := zdiv_sz h hp
    exact ⟨by omega, by omega, fun _ => h1.1⟩
  · have hp0 := zrw_0.mp (show zrw p = 0 by omega)
    have h2 : Q = zbZ := by
      rcases zbM_z (h.symm.trans hp0) with k | k
      · exact k
      · rw [k, zrw_Z] at hd; omega
    rw [h2, hp0]
    exact zLe.rf
theorem zCd.l {p q G : zA2} (h : zCd p q G) (hp : 0 < zrw p) : 0 < zrw G ∧ zrw G ≤ zrw p ∧ zdn G ≤ zdn p := by
  obtain ⟨⟨s, hs⟩, -, -⟩ := h
  have h1 := zdiv_sz hs hp
  exact ⟨h1.2.1, by omega, by omega⟩
theorem zCd.r {p q G : zA2} (h : zCd p q G) (hq : 0 < zrw q) : 0 < zrw G ∧ zrw G ≤ zrw q ∧ zdn G ≤ zdn q := by
  obtain ⟨-, ⟨s, hs⟩, -⟩ := h
  have h1 := zdiv_sz hs hq
  exact ⟨h1.2.1, by omega, by omega⟩
theorem zdvx {p G : zA2} (h : ∃ s, p = zbM s G) (hG : 0 < zrw G) (hpd : zdn p ≤ 99) : ∃ c, p = zbM c G ∧ ∀ i, zln (c.1 i) ≤ 100 := by
  obtain ⟨s, hs⟩ := h
  refine ⟨s, hs, fun i => ?_⟩
  have h1 := (zdiv_le hs hG).2.1
  have h2 := zdn_le s i
  omega
theorem zLe_c {c : zF} (hc : c ≠ 0) (p : zA2) : zLe (zbM (zbC (zaC c)) p) p := by
  have h1 := zrw_CM (zCn hc) p
  have h2 := zdn_CM (zaC c) p
  rw [zln_C hc] at h2
  exact ⟨by omega, by omega, fun h => by omega⟩
theorem zLe_1 {q : zA2} (h : 0 < zrw q) : zLe (zbC (zaC 1)) q := ⟨by rw [zC1_rw]; omega, by rw [zdn_C1]; omega, fun _ => by rw [zC1_rw]; omega⟩
theorem zinvF_nz {c : zF} (hc : c ≠ 0) : zinvF c ≠ 0 := fun e => by
  have h := zinvF_mul hc
  rw [e] at h
  exact z1_ne (h.symm.trans (by grind))
