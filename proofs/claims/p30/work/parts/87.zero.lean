/-! numbers as polynomials; nothing in the cells -/
theorem zrw_1le (c : zF) : zrw (zbC (zaC c)) ≤ 13 := by
  have h : zrw (zbC (zaC c)) ≤ 1 := zrw_le fun i hi => by rw [zbC_c, if_neg (by omega)]
  omega
theorem zdn_1le (c : zF) : zdn (zbC (zaC c)) ≤ 24 := by
  have h : zdn (zbC (zaC c)) ≤ 0 := zdn_min fun j => by
    rw [zbC_c]
    split
    · exact zln_le (fun i hi => by rw [zaC_c, if_neg (by omega)])
    · rw [zln_Z]; omega
  omega
theorem zbT_nz {f : Nat → Int32} (hr : zCr f) (h : ∃ i, i < 325 ∧ f i ≠ 0) : 0 < zrw (zbT f) := by
  obtain ⟨i, hi, hn⟩ := h
  apply Nat.pos_of_ne_zero
  intro e
  have h1 := zbT_c f (i / 25) (i % 25)
  rw [zrw_0.mp e, zbZ_c, zaZ_c, if_pos ⟨by omega, by omega⟩, show 25 * (i / 25) + i % 25 = i by omega] at h1
  exact zf_nz (hr i hi) hn h1.symm
theorem zbT_0 {f : Nat → Int32} (h : ∀ i, i < 325 → f i = 0) : zrw (zbT f) = 0 := zrw_0.mpr (zb_ext fun j => za_ext fun i => by
  rw [zbT_c, zbZ_c, zaZ_c]
  split
  · next e => rw [h _ (by omega), zf_0]
  · rfl)
