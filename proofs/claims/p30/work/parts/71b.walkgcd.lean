/-! for the walk of the search: numbers of the machine -/
/-- a fact that omega is not to see -/
def zHid (p : Prop) : Prop := p
theorem zHid.i {p : Prop} (h : p) : zHid p := h
theorem zHid.o {p : Prop} (h : zHid p) : p := h
theorem zC1_nz : zaC 1 ≠ zaZ := fun e => by
  have h := zln_C (c := (1 : zF)) z1_ne
  rw [e, zln_Z] at h
  omega
theorem zC1_rw : zrw (zbC (zaC 1)) = 1 := zrw_C zC1_nz
theorem zbM_1 (p : zA2) : zbM p (zbC (zaC 1)) = p := by
  rw [zaC_1]
  exact zA2R.mul_one p
theorem zfv_e {t v : Int32} (ht : 0 ≤ t.toInt) (hv : v.toInt = t.toInt + 1) : zfI ((t.toNatClampNeg + 1 : Nat) : Int) = zf v ∧ v.toNatClampNeg = t.toNatClampNeg + 1 := by
  have h1 := znat ht
  have h2 := znat (x := v) (by omega)
  refine ⟨?_, by omega⟩
  show zfI _ = zfI v.toInt
  rw [show ((t.toNatClampNeg + 1 : Nat) : Int) = v.toInt by omega]
theorem zgI_p2 {a b : zA2} {ρ rows many : Nat} {t v : Int32} (h : zgI a b ρ t.toNatClampNeg rows many) (ht : 0 ≤ t.toInt) (hv : v.toInt = t.toInt + 1) (hp : ¬ zPas a b (zf v)) : zgI a b ρ v.toNatClampNeg rows many := by
  have h1 := zfv_e ht hv
  rw [h1.2]
  exact zgI_p h (by rw [h1.1]; exact hp)
theorem zgI_s2 {a b : zA2} {ρ rows many : Nat} {t v : Int32} (h : zgI a b ρ t.toNatClampNeg rows many) (ht : 0 ≤ t.toInt) (hv : v.toInt = t.toInt + 1) (hp : zPas a b (zf v)) (hge : ρ ≤ zln (zgcd (zMp (zf v) a) (zMp (zf v) b))) :
    (zln (zgcd (zMp (zf v) a) (zMp (zf v) b)) < rows → zgI a b ρ v.toNatClampNeg (zln (zgcd (zMp (zf v) a) (zMp (zf v) b))) 1) ∧ (zln (zgcd (zMp (zf v) a) (zMp (zf v) b)) = rows → zgI a b ρ v.toNatClampNeg rows (many + 1)) ∧ (rows < zln (zgcd (zMp (zf v) a) (zMp (zf v) b)) → zgI a b ρ v.toNatClampNeg rows many) := by
  have h1 := zfv_e ht hv
  rw [h1.2]
  exact zgI_s h (by rw [h1.1]; exact hp) (by rw [h1.1]) hge
theorem zgF_s2 {a b : zA2} {f : Nat → Int32} {rows many : Nat} {t v : Int32} (h : zgF a b f t.toNatClampNeg rows many) (ht : 0 ≤ t.toInt) (hv : v.toInt = t.toInt + 1) (hl : v.toInt < 2147483647) (hp : zPas a b (zf v)) (hn : zln (zgcd (zMp (zf v) a) (zMp (zf v) b)) = rows) :
    zgF a b (upd f many v) v.toNatClampNeg rows (many + 1) := by
  have h1 := znat ht
  have h2 := znat (x := v) (by omega)
  rw [show v.toNatClampNeg = t.toNatClampNeg + 1 by omega]
  exact zgF_s h (by omega) (by omega) hp hn
theorem zdvb {p c H : zA2} (hp0 : 0 < zrw p) (hH : 0 < zrw H) (hpd : zdn p ≤ 99) (h : p = zbM c H) : ∀ i, zln (c.1 i) ≤ 100 := fun i => by
  have hc : 0 < zrw c := by
    apply Nat.pos_of_ne_zero
    intro e
    rw [h, zrw_M0 c H (Or.inl e)] at hp0
    omega
  have h1 := zdn_MM hc hH
  rw [← h] at h1
  have h2 := zdn_le c i
  omega
theorem zbOf_dn {T : Nat → zA1} {n M : Nat} (h : ∀ j, j < n → zln (T j) ≤ M + 1) : zdn (zbOf T n) ≤ M := zdn_min (fun j => by
  by_cases k : j < n
  · rw [zbOf_y k]; exact h j k
  · rw [zbOf_n (by omega), zln_Z]; omega)
