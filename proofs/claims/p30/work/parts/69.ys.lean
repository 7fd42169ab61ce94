/-! the reference's arrays ys -/
def zys (m : Nat) : zA := .inr (fun i => if i < 64 then some (m + 5 + i) else none)
theorem zR.ys {m : Nat} {w : zM} (h : zR m w) : w (m + 4) = some (.inr (7, 64, zys m)) := zR_ra h (by decide) rfl rfl
theorem zT0_ys {m i : Nat} (hi : i < 64) : zT0 m (5 + i) = .inr (0, 700, .inl (fun _ => 0)) := by
  unfold zT0
  iterate 5 (first | rw [if_neg (by omega)] | skip)
  rw [if_pos (by omega)]
theorem zR.ysA {m : Nat} {w : zM} (h : zR m w) (i : Nat) (hi : i < 64) : ∃ f : Nat → Int32, w (m + 5 + i) = some (.inr (0, 700, .inl f)) := by
  have h1 := zR_ia (j := 5 + i) h (by omega) (zT0_ys hi)
  rw [show m + (5 + i) = m + 5 + i by omega] at h1
  exact h1
theorem zys_at {b : Nat} {j : Int32} (hj : 0 ≤ j.toInt ∧ j.toInt < 64) : va_rf ((fun i => if i < 64 then some (b + 5 + i) else none) j.toNatClampNeg) = .ref (b + 5 + j.toNatClampNeg) := by
  have hz := znat (x := j) hj.1
  show va_rf (if j.toNatClampNeg < 64 then some (b + 5 + j.toNatClampNeg) else none) = _
  rw [if_pos (by omega)]
  rfl
