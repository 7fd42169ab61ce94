/-! the slots and the pile -/
def zsl (m : Nat) : zA := .inr (fun i => if i < 12 then some (m + 7486 + 9 * i) else none)
def zpl (m : Nat) : zA := .inr (fun i => if i < 130 then some (m + 6316 + 9 * i) else none)
theorem zR.slots {m : Nat} {w : zM} (h : zR m w) : w (m + 82) = some (.inr (6, 12, zsl m)) := zR_ra h (by decide) rfl rfl
theorem zR.pile {m : Nat} {w : zM} (h : zR m w) : w (m + 81) = some (.inr (6, 130, zpl m)) := zR_ra h (by decide) rfl rfl
theorem zsl_at {b : Nat} {j : Int32} (hj : 0 ≤ j.toInt ∧ j.toInt < 12) : va_rf ((fun i => if i < 12 then some (b + 7486 + 9 * i) else none) j.toNatClampNeg) = .ref (b + 7486 + 9 * j.toNatClampNeg) := by
  have hz := znat (x := j) hj.1
  show va_rf (if j.toNatClampNeg < 12 then some (b + 7486 + 9 * j.toNatClampNeg) else none) = _
  rw [if_pos (by omega)]
  rfl
theorem zpl_at {b : Nat} {j : Int32} (hj : 0 ≤ j.toInt ∧ j.toInt < 130) : va_rf ((fun i => if i < 130 then some (b + 6316 + 9 * i) else none) j.toNatClampNeg) = .ref (b + 6316 + 9 * j.toNatClampNeg) := by
  have hz := znat (x := j) hj.1
  show va_rf (if j.toNatClampNeg < 130 then some (b + 6316 + 9 * j.toNatClampNeg) else none) = _
  rw [if_pos (by omega)]
  rfl
