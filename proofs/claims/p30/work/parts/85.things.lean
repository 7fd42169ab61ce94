/-! what a thing holds -/
def zLn (fa fb : Nat → Int32) (n : Nat) : Prop := ∀ i, i < n → (-3 ≤ (fa i).toInt ∧ (fa i).toInt ≤ 3) ∧ (-3 ≤ (fb i).toInt ∧ (fb i).toInt ≤ 3)
theorem zLn_mono {fa fb : Nat → Int32} {n m : Nat} (h : zLn fa fb n) (hm : m ≤ n) : zLn fa fb m := fun i hi => h i (by omega)
theorem zLn_mv {fa fb : Nat → Int32} {n i j : Nat} (h : zLn fa fb n) (hi : i < n) : zLn (upd fa j (fa i)) (upd fb j (fb i)) n := fun k hk => by
  by_cases e : k = j
  · rw [e, zupd_s, zupd_s]; exact h i hi
  · rw [zupd_n _ _ e, zupd_n _ _ e]; exact h k hk
theorem zLn_up {fa fb : Nat → Int32} {n j : Nat} {a b : Int32} (h : ∀ i, i < n → i ≠ j → (-3 ≤ (fa i).toInt ∧ (fa i).toInt ≤ 3) ∧ (-3 ≤ (fb i).toInt ∧ (fb i).toInt ≤ 3)) (ha : -3 ≤ a.toInt ∧ a.toInt ≤ 3) (hb : -3 ≤ b.toInt ∧ b.toInt ≤ 3) : zLn (upd fa j a) (upd fb j b) n := fun k hk => by
  by_cases e : k = j
  · rw [e, zupd_s, zupd_s]; exact ⟨ha, hb⟩
  · rw [zupd_n _ _ e, zupd_n _ _ e]; exact h k hk e
/-- what goes with the kind -/
def zKk (k : Int32) (g : Nat → Int32) (fd fr : Nat → Int32) : Prop :=
  (k = 0 ∨ k = 1 ∨ k = 2 ∨ k = 3 ∨ k = 4) ∧ (k = 1 ∨ k = 2 ∨ k = 3 → 0 < zrw (zbT fd)) ∧ (k = 3 → 0 ≤ (g 10).toInt ∧ (g 10).toInt ≤ 3) ∧
  (k = 4 → (1 ≤ (g 10).toInt ∧ (g 10).toInt ≤ 6 ∧ (g 10).toInt ≤ (g 12).toInt ∧ (g 12).toInt ≤ 60 ∧ 0 ≤ (g 13).toInt ∧ (g 13).toInt ≤ (g 12).toInt) ∧ ∃ i, i < 25 ∧ fr (25 * (g 10).toNatClampNeg + i) ≠ 0)
def zKd (k : Int32) (g : Nat → Int32) (fn fd fa fb fr fu : Nat → Int32) : Prop :=
  g 0 = k ∧ zCr fn ∧ zCr fd ∧ (zr1 (g 3) ∧ zr1 (g 4)) ∧ (0 ≤ (g 5).toInt ∧ (g 5).toInt ≤ 13) ∧ zLn fa fb (g 5).toNatClampNeg ∧ (∀ i, i < 175 → zr1 (fr i)) ∧ (∀ i, i < 361 → zr1 (fu i)) ∧ zKk k g fd fr
/-- a thing of kind k -/
def zTi (w : zM) (t : Nat) (k : Int32) : Prop := ∃ g fn fd fa fb fc fe fr fu : Nat → Int32, w t = some (.inl (13, zTo t g)) ∧ w (t + 1) = some (.inr (0, 325, .inl fn)) ∧ w (t + 2) = some (.inr (0, 325, .inl fd)) ∧ w (t + 3) = some (.inr (0, 13, .inl fa)) ∧ w (t + 4) = some (.inr (0, 13, .inl fb)) ∧
  w (t + 5) = some (.inr (0, 13, .inl fc)) ∧ w (t + 6) = some (.inr (0, 13, .inl fe)) ∧ w (t + 7) = some (.inr (0, 175, .inl fr)) ∧ w (t + 8) = some (.inr (0, 361, .inl fu)) ∧ zKd k g fn fd fa fb fr fu
theorem zTi.ag {w w' : zM} {t : Nat} {k : Int32} (h : zTi w t k) (he : ∀ x, t ≤ x → x < t + 9 → w' x = w x) : zTi w' t k := by
  obtain ⟨g, fn, fd, fa, fb, fc, fe, fr, fu, h0, h1, h2, h3, h4, h5, h6, h7, h8, h9⟩ := h
  exact ⟨g, fn, fd, fa, fb, fc, fe, fr, fu, (he t (by omega) (by omega)).trans h0, (he (t + 1) (by omega) (by omega)).trans h1, (he (t + 2) (by omega) (by omega)).trans h2, (he (t + 3) (by omega) (by omega)).trans h3, (he (t + 4) (by omega) (by omega)).trans h4,
    (he (t + 5) (by omega) (by omega)).trans h5, (he (t + 6) (by omega) (by omega)).trans h6, (he (t + 7) (by omega) (by omega)).trans h7, (he (t + 8) (by omega) (by omega)).trans h8, h9⟩
