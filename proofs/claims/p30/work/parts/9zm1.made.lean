/-! a thing whose kind need not go with what it holds (what is being made) -/
def zTm (w : zM) (t : Nat) : Prop := ∃ g fn fd fa fb fc fe fr fu : Nat → Int32, w t = some (.inl (13, zTo t g)) ∧ w (t + 1) = some (.inr (0, 325, .inl fn)) ∧ w (t + 2) = some (.inr (0, 325, .inl fd)) ∧ w (t + 3) = some (.inr (0, 13, .inl fa)) ∧ w (t + 4) = some (.inr (0, 13, .inl fb)) ∧
  w (t + 5) = some (.inr (0, 13, .inl fc)) ∧ w (t + 6) = some (.inr (0, 13, .inl fe)) ∧ w (t + 7) = some (.inr (0, 175, .inl fr)) ∧ w (t + 8) = some (.inr (0, 361, .inl fu)) ∧ zCr fn ∧ zCr fd ∧ (∀ i, i < 175 → zr1 (fr i)) ∧ ∀ i, i < 361 → zr1 (fu i)
theorem zTi.m {w : zM} {t : Nat} {k : Int32} (h : zTi w t k) : zTm w t := by
  obtain ⟨g, fn, fd, fa, fb, fc, fe, fr, fu, h0, h1, h2, h3, h4, h5, h6, h7, h8, hk⟩ := h
  exact ⟨g, fn, fd, fa, fb, fc, fe, fr, fu, h0, h1, h2, h3, h4, h5, h6, h7, h8, hk.2.1, hk.2.2.1, hk.2.2.2.2.2.2.1, hk.2.2.2.2.2.2.2.1⟩
theorem zTm.ag {w w' : zM} {t : Nat} (h : zTm w t) (he : ∀ x, t ≤ x → x < t + 9 → w' x = w x) : zTm w' t := by
  obtain ⟨g, fn, fd, fa, fb, fc, fe, fr, fu, h0, h1, h2, h3, h4, h5, h6, h7, h8, h9⟩ := h
  exact ⟨g, fn, fd, fa, fb, fc, fe, fr, fu, (he t (by omega) (by omega)).trans h0, (he (t + 1) (by omega) (by omega)).trans h1, (he (t + 2) (by omega) (by omega)).trans h2, (he (t + 3) (by omega) (by omega)).trans h3, (he (t + 4) (by omega) (by omega)).trans h4,
    (he (t + 5) (by omega) (by omega)).trans h5, (he (t + 6) (by omega) (by omega)).trans h6, (he (t + 7) (by omega) (by omega)).trans h7, (he (t + 8) (by omega) (by omega)).trans h8, h9⟩
