/-! a row by itself *)-/
def zRo (w : zM) (b len : Nat) : Prop := ∃ F : Nat → Int32, w b = some (.inr (0, len, .inl F)) ∧ ∀ j, j < len → zr1 (F j)
theorem zRo.ag {w w' : zM} {b len : Nat} (h : zRo w b len) (he : ∀ x, b ≤ x → x < b + 1 → w' x = w x) : zRo w' b len := by
  obtain ⟨F, h1, h2⟩ := h
  exact ⟨F, (he b (Nat.le_refl _) (by omega)).trans h1, h2⟩
theorem zRo.st {w w' : zM} {b c len : Nat} {G : Nat → Int32} (h : zRo w b len) (he : ∀ x, x ≠ c → w' x = w x) (hc : w' c = some (.inr (0, len, .inl G))) (hG : ∀ j, j < len → zr1 (G j)) : zRo w' b len := by
  obtain ⟨F, h1, h2⟩ := h
  by_cases e : b = c
  · subst e; exact ⟨G, hc, hG⟩
  · exact ⟨F, (he b e).trans h1, h2⟩
theorem zmul_idx {j d i c r : Int} (hj : 0 ≤ j ∧ j ≤ r) (hi : 0 ≤ i ∧ i ≤ d) (hd : 0 ≤ d) (hc : c = (r + 1) * (d + 1)) : 0 ≤ j * (d + 1) ∧ 0 ≤ j * (d + 1) + i ∧ j * (d + 1) + i < c := by
  have h1 : 0 ≤ j * (d + 1) := Int.mul_nonneg hj.1 (by omega)
  have h2 : j * (d + 1) ≤ r * (d + 1) := Int.mul_le_mul_of_nonneg_right hj.2 (by omega)
  have h3 : (r + 1) * (d + 1) = r * (d + 1) + (d + 1) := by rw [Int.add_mul, Int.one_mul]
  rw [hc, h3]
  exact ⟨h1, by omega, by omega⟩
