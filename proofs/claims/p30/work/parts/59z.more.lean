theorem zaM_cm (p q : zA1) : zaM p q = zaM q p := by
  letI := zA1R
  show p * q = q * p
  grind
theorem zbQ_rw0 {q : zA2} {u : zA1} (h : zrw q = 0) : zrw (zbQ q u) = zrw q := by
  rw [h]
  exact Nat.le_antisymm (zrw_le fun j _ => by
    rw [zbQ_c, zrw_dg q j (by omega)]
    by_cases hu : 0 < zln u
    · exact zquo_Z u hu
    · exact zquo_Zd _ u hu) (Nat.zero_le _)
theorem zrw_M0 (p q : zA2) : zrw p = 0 ∨ zrw q = 0 → zrw (zbM p q) = 0 := by
  rintro (h | h)
  · rw [zrw_0.mp h, zbM_Zl, zrw_Z]
  · rw [zrw_0.mp h, zbM_Zr, zrw_Z]
