/-! the numbers of the quotients along n: four rows above, four below -/
def zsN (m : Nat) : zA := .inr (fun i => if i < 4 then some (m + 182 + i) else none)
def zsD (m : Nat) : zA := .inr (fun i => if i < 4 then some (m + 187 + i) else none)
theorem zR.sNum {m : Nat} {w : zM} (h : zR m w) : w (m + 181) = some (.inr (7, 4, zsN m)) := zR_ra h (by decide) rfl rfl
theorem zR.sDen {m : Nat} {w : zM} (h : zR m w) : w (m + 186) = some (.inr (7, 4, zsD m)) := zR_ra h (by decide) rfl rfl
theorem zsN_at {b : Nat} {j : Int32} (hj : 0 ≤ j.toInt ∧ j.toInt < 4) : va_rf ((fun i => if i < 4 then some (b + 182 + i) else none) j.toNatClampNeg) = .ref (b + 182 + j.toNatClampNeg) := by
  have h1 := znat hj.1
  show va_rf (if j.toNatClampNeg < 4 then some (b + 182 + j.toNatClampNeg) else none) = _
  rw [if_pos (by omega)]; rfl
theorem zsD_at {b : Nat} {j : Int32} (hj : 0 ≤ j.toInt ∧ j.toInt < 4) : va_rf ((fun i => if i < 4 then some (b + 187 + i) else none) j.toNatClampNeg) = .ref (b + 187 + j.toNatClampNeg) := by
  have h1 := znat hj.1
  show va_rf (if j.toNatClampNeg < 4 then some (b + 187 + j.toNatClampNeg) else none) = _
  rw [if_pos (by omega)]; rfl
