/-! small products -/
theorem zmul_b6 {x y : Int32} (hx : -3 ≤ x.toInt ∧ x.toInt ≤ 3) (hy : 0 ≤ y.toInt) : -(3 * y.toInt) ≤ x.toInt * y.toInt ∧ x.toInt * y.toInt ≤ 3 * y.toInt :=
  ⟨by have h := Int.mul_le_mul_of_nonneg_right hx.1 hy; omega, Int.mul_le_mul_of_nonneg_right hx.2 hy⟩
