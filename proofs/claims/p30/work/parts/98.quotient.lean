/-! for the quotient of a thing by itself *)-/
theorem zrest_nz {v r : Int32} (hr : zf r = zfI v.toInt) (hv : -3 ≤ v.toInt ∧ v.toInt ≤ 3) (h : v ≠ 0) : r ≠ 0 := fun e => by
  rw [e, zf_0] at hr
  have h2 := zfI_val v.toInt
  rw [← hr] at h2
  have h3 : v.toInt % 2147483647 = 0 := h2.symm
  exact h (Int32.toInt_inj.mp (by rw [show v.toInt = 0 by omega]; decide))
theorem zmul_b3 {x y : Int32} (hx : -3 ≤ x.toInt ∧ x.toInt ≤ 3) (hy : 0 ≤ y.toInt ∧ y.toInt ≤ 3) : -(3 * y.toInt) ≤ x.toInt * y.toInt ∧ x.toInt * y.toInt ≤ 3 * y.toInt :=
  ⟨by have h := Int.mul_le_mul_of_nonneg_right hx.1 hy.1; omega, Int.mul_le_mul_of_nonneg_right hx.2 hy.1⟩
theorem zpw_nz2 {a r : Int32} {n : Nat} (ha : zr1 a) (a0 : a ≠ 0) (hr : zf r = zpw (zf a) n) : r ≠ 0 := fun e => zpw_ne (zf_nz ha a0) n (by rw [← hr, e, zf_0])
