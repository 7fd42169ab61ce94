theorem zmaxI (x y : Int32) : ∃ m : Int32, m = (if x < y then y else x) ∧ ((m.toInt = x.toInt ∨ m.toInt = y.toInt) ∧ x.toInt ≤ m.toInt ∧ y.toInt ≤ m.toInt) := by
  refine ⟨_, rfl, ?_⟩
  split
  · next h => have := zltI h; omega
  · next h => have := znltI h; omega
theorem zminI (x y : Int32) : ∃ m : Int32, m = (if y < x then y else x) ∧ ((m.toInt = x.toInt ∨ m.toInt = y.toInt) ∧ m.toInt ≤ x.toInt ∧ m.toInt ≤ y.toInt) := by
  refine ⟨_, rfl, ?_⟩
  split
  · next h => have := zltI h; omega
  · next h => have := znltI h; omega
theorem zabsI (x : Int32) : ∃ m : Int32, m = (if 0 ≤ x then x else 0 - x) ∧ (m.toInt = -2147483648 ∨ (0 ≤ m.toInt ∧ (m.toInt = x.toInt ∨ m.toInt = -x.toInt))) := by
  refine ⟨_, rfl, ?_⟩
  have r := zrng x
  have l0 : (0 : Int32).toInt = 0 := by decide
  split
  · next h => have := zleI h; omega
  · next h =>
    have := znleI h
    have := zsubM 0 x
    omega
theorem zslot_at {h : Nat} {j : Int32} (hj : 0 ≤ j.toInt ∧ j.toInt < 12) : ∃ a, zSl h a ∧ va_rf ((fun i => if i < 12 then some (h + (2 + 6 * i)) else none) j.toNatClampNeg) = .ref a := by
  have h1 := znat hj.1
  refine ⟨h + (2 + 6 * j.toNatClampNeg), ⟨j.toNatClampNeg, by omega, rfl⟩, ?_⟩
  show va_rf (if j.toNatClampNeg < 12 then _ else _) = _
  rw [if_pos (by omega)]
  rfl
theorem zl2iM (x : Int64) : x.toInt32.toInt = (x.toInt + 2147483648) % 4294967296 - 2147483648 := by rw [Int64.toInt_toInt32, zbm]
theorem zi2lM (x : Int32) : x.toInt64.toInt = x.toInt := Int32.toInt_toInt64 x
theorem zaddL (x y : Int64) : (x + y).toInt = (x.toInt + y.toInt + 9223372036854775808) % 18446744073709551616 - 9223372036854775808 := by rw [Int64.toInt_add, zbmL]
theorem zsubL (x y : Int64) : (x - y).toInt = (x.toInt - y.toInt + 9223372036854775808) % 18446744073709551616 - 9223372036854775808 := by rw [Int64.toInt_sub, zbmL]
theorem zmulL (x y : Int64) : (x * y).toInt = (x.toInt * y.toInt + 9223372036854775808) % 18446744073709551616 - 9223372036854775808 := by rw [Int64.toInt_mul, zbmL]
theorem zcmpI (x y : Int64) : (y.toInt < x.toInt ∧ (lg_cmp x y).toInt = 1) ∨ (x.toInt = y.toInt ∧ (lg_cmp x y).toInt = 0) ∨ (x.toInt < y.toInt ∧ (lg_cmp x y).toInt = -1) := by
  unfold lg_cmp
  split
  · next h => exact Or.inl ⟨Int64.lt_iff_toInt_lt.mp h, by decide⟩
  · next h =>
    split
    · next h2 => exact Or.inr (Or.inl ⟨congrArg Int64.toInt h2, by decide⟩)
    · next h2 =>
      have h3 : ¬ y.toInt < x.toInt := fun q => h (Int64.lt_iff_toInt_lt.mpr q)
      have h4 : ¬ x.toInt = y.toInt := fun q => h2 (Int64.toInt_inj.mp q)
      exact Or.inr (Or.inr ⟨by omega, by decide⟩)
/-- what is left of a division by P -/
theorem zremP (x : Int64) : (x - x / 2147483647 * 2147483647).toInt = x.toInt.tmod 2147483647 := by
  have hP : (2147483647 : Int64).toInt = 2147483647 := by decide
  have r := zrngL x
  have h1 : (x / 2147483647).toInt = x.toInt.tdiv 2147483647 := by
    rw [Int64.toInt_div, hP]
    have h2 := Int.tmod_add_tdiv_mul x.toInt 2147483647
    have h3 := Int.tmod_lt_of_pos x.toInt (show (0 : Int) < 2147483647 by decide)
    have h4 := Int.lt_tmod_of_pos x.toInt (show (0 : Int) < 2147483647 by decide)
    rw [zbmL]
    omega
  have h2 := Int.tmod_add_tdiv_mul x.toInt 2147483647
  have h3 := Int.tmod_lt_of_pos x.toInt (show (0 : Int) < 2147483647 by decide)
  have h4 := Int.lt_tmod_of_pos x.toInt (show (0 : Int) < 2147483647 by decide)
  have e1 := zmulL (x / 2147483647) 2147483647
  rw [h1, hP] at e1
  have e2 := zsubL x (x / 2147483647 * 2147483647)
  omega
theorem zremB (x : Int64) : -2147483647 < (x - x / 2147483647 * 2147483647).toInt ∧ (x - x / 2147483647 * 2147483647).toInt < 2147483647 ∧ (0 ≤ x.toInt → 0 ≤ (x - x / 2147483647 * 2147483647).toInt) := by
  rw [zremP]
  have h3 := Int.tmod_lt_of_pos x.toInt (show (0 : Int) < 2147483647 by decide)
  have h4 := Int.lt_tmod_of_pos x.toInt (show (0 : Int) < 2147483647 by decide)
  exact ⟨h4, h3, fun h => Int.tmod_nonneg _ h⟩
