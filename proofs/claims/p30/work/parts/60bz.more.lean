theorem zcont_cap {w : zM} {b : Nat} {q : zA2} (h : zB w b q) : zln (zcont q) ≤ 200 := by
  by_cases h9 : 0 < zrw q
  · have h8 := (zcont_nz h9).2
    have h7 := (h.row (zrw q - 1) (by omega)).cap
    omega
  · rw [zrw_0.mp (show zrw q = 0 by omega), zcont_Z, zln_Z]
    omega
theorem zdn_cap {w : zM} {b : Nat} {q : zA2} (h : zB w b q) : zdn q ≤ 199 := zdn_min (zdn_row fun j hj => by
  have := (h.row j hj).cap
  omega)
