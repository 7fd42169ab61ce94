theorem zmaxI (x y : Int32) : ∃ m : Int32, m = (if x < y then y else x) ∧ ((m.toInt = x.toInt ∨ m.toInt = y.toInt) ∧ x.toInt ≤ m.toInt ∧ y.toInt ≤ m.toInt) := by
  refine ⟨_, rfl, ?_⟩
  split
  · next h => have := zltI h; omega
  · next h => have := znltI h; omega
theorem zminI (x y : Int32) : ∃ m : Int32, m = (if y < x then y else x) ∧ ((m.toInt = x.toInt ∨ m.toInt = y.toInt) ∧ m.toInt ≤ x.toInt ∧ m.toInt ≤ y.toInt) := by
  refine ⟨_, rfl, ?_⟩
  split
  · next h => have := zltI h; omega
  · next h => have := znltI h; omega
theorem zabsI (x : Int32) : ∃ m : Int32, m = (if 0 ≤ x then x else 0 - x) ∧ (m.toInt = -2147483648 ∨ (0 ≤ m.toInt ∧ (m.toInt = x.toInt ∨ m.toInt = -x.toInt))) := by
  refine ⟨_, rfl, ?_⟩
  have r := zrng x
  have l0 : (0 : Int32).toInt = 0 := by decide
  split
  · next h => have := zleI h; omega
  · next h =>
    have := znleI h
    have := zsubM 0 x
    omega
theorem zslot_at {h : Nat} {j : Int32} (hj : 0 ≤ j.toInt ∧ j.toInt < 12) : ∃ a, zSl h a ∧ va_rf ((fun i => if i < 12 then some (h + (2 + 6 * i)) else none) j.toNatClampNeg) = .ref a := by
  have h1 := znat hj.1
  refine ⟨h + (2 + 6 * j.toNatClampNeg), ⟨j.toNatClampNeg, by omega, rfl⟩, ?_⟩
  show va_rf (if j.toNatClampNeg < 12 then _ else _) = _
  rw [if_pos (by omega)]
  rfl
