/-! a row of 25 numbers as a polynomial's first row *)-/
theorem zCr_cpy3 {r f : Nat → Int32} {sp : Nat} (hf : zCr f) (hr : ∀ i, i < 175 → zr1 (r i)) (h : sp + 25 ≤ 175) : zCr (va_cpy r f sp 0 25) := fun i hi => by
  unfold va_cpy
  split
  · exact hr _ (by omega)
  · exact hf i hi
theorem zall_up {f : Nat → Int32} {n j : Nat} {x : Int32} (h : ∀ i, i < n → zr1 (f i)) (hx : zr1 x) : ∀ i, i < n → zr1 (upd f j x i) := fun i hi => by
  by_cases e : i = j
  · rw [e, zupd_s]; exact hx
  · rw [zupd_n _ _ e]; exact h i hi
theorem zLn_c {fa fb fc : Nat → Int32} {n j : Nat} {x : Int32} (h : zLn fa fb fc n) (hx : -50 ≤ x.toInt ∧ x.toInt ≤ 50) : zLn fa fb (upd fc j x) n := fun k hk => by
  by_cases e : k = j
  · rw [e, zupd_s]
    have h1 := h j (by omega)
    exact ⟨h1.1, h1.2.1, h1.2.2.1, hx⟩
  · rw [zupd_n _ _ e]; exact h k hk
