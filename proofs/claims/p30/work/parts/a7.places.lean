/-! arrays whose places change *)-/
theorem zR_va {m j t n : Nat} {f : Nat → Option Nat} {w : zM} (h : zR m w) (hj : j < 8322) (he : zT0 m j = .inr (t, n, .inr f)) : ∃ f' : Nat → Option Nat, w (m + j) = some (.inr (t, n, .inr f')) := by
  obtain ⟨c, h1, h2⟩ := h j hj
  rw [he] at h2
  match c, h2 with
  | .inr (t', n', .inr f'), ⟨e1, e2, _⟩ =>
    subst e1; subst e2
    exact ⟨f', h1⟩
theorem zst_nz {F : Nat → Int32} {p : zA1} {b : Nat} (h : ∀ i, i < 25 → zr1 (F (b + i)) ∧ zf (F (b + i)) = p.1 i) (h0 : 0 < zln p) (h1 : zln p ≤ 25) : ∃ i, i < 25 ∧ F (b + i) ≠ 0 := ⟨zln p - 1, by omega, fun e => zln_hd h0 (by rw [← (h (zln p - 1) (by omega)).2, e, zf_0])⟩
theorem zand1 {x y v : Int32} (hx : x = 0 ∨ x = 1) (hy : y = 0 ∨ y = 1) (e : x &&& y = v) : (v = 0 ∨ v = 1) ∧ (v = 1 → x = 1 ∧ y = 1) ∧ (x = 1 → y = 1 → v = 1) := by
  subst e
  rcases hx with rfl | rfl <;> rcases hy with rfl | rfl <;> decide
