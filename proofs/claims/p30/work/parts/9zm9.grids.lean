/-! rows of numbers that change places -/
def zGr (w : zM) (a n len : Nat) : Prop := ∃ f : Nat → Option Nat, w a = some (.inr (7, n, .inr f)) ∧ ∀ i, i < n → ∃ (b : Nat) (F : Nat → Int32), f i = some b ∧ (a + 1 ≤ b ∧ b < a + 1 + n) ∧ w b = some (.inr (0, len, .inl F)) ∧ ∀ j, j < len → zr1 (F j)
theorem zGr.ag {w w' : zM} {a n len : Nat} (h : zGr w a n len) (he : ∀ x, a ≤ x → x < a + (n + 1) → w' x = w x) : zGr w' a n len := by
  obtain ⟨f, h1, h2⟩ := h
  refine ⟨f, (he a (Nat.le_refl _) (by omega)).trans h1, fun i hi => ?_⟩
  obtain ⟨b, F, g1, g2, g3, g4⟩ := h2 i hi
  exact ⟨b, F, g1, g2, (he b (by omega) (by omega)).trans g3, g4⟩
theorem zGr.st {w w' : zM} {a n len b : Nat} {G : Nat → Int32} (h : zGr w a n len) (hb : a + 1 ≤ b ∧ b < a + 1 + n) (he : ∀ x, x ≠ b → w' x = w x) (hc : w' b = some (.inr (0, len, .inl G))) (hG : ∀ j, j < len → zr1 (G j)) : zGr w' a n len := by
  obtain ⟨f, h1, h2⟩ := h
  refine ⟨f, (he a (by omega)).trans h1, fun i hi => ?_⟩
  obtain ⟨b2, F, g1, g2, g3, g4⟩ := h2 i hi
  by_cases e : b2 = b
  · subst e; exact ⟨_, G, g1, g2, hc, hG⟩
  · exact ⟨b2, F, g1, g2, (he b2 e).trans g3, g4⟩
theorem zGr.sw {w w' : zM} {a n len b j : Nat} {f : Nat → Option Nat} {F : Nat → Int32} (h2 : ∀ i, i < n → ∃ (b : Nat) (F : Nat → Int32), f i = some b ∧ (a + 1 ≤ b ∧ b < a + 1 + n) ∧ w b = some (.inr (0, len, .inl F)) ∧ ∀ j, j < len → zr1 (F j)) (_h1 : w a = some (.inr (7, n, .inr f))) (he : ∀ x, x ≠ a → w' x = w x)
    (hc : w' a = some (.inr (7, n, .inr (va_up f j (some b))))) (hb : a + 1 ≤ b ∧ b < a + 1 + n) (hF : w b = some (.inr (0, len, .inl F))) (hz : ∀ j, j < len → zr1 (F j)) : zGr w' a n len := by
  refine ⟨_, hc, fun i hi => ?_⟩
  by_cases e : i = j
  · rw [e, va_up_self]
    exact ⟨b, F, rfl, hb, (he b (by omega)).trans hF, hz⟩
  · rw [va_up_ne _ _ e]
    obtain ⟨b2, F2, g1, g2, g3, g4⟩ := h2 i hi
    exact ⟨b2, F2, g1, g2, (he b2 (by omega)).trans g3, g4⟩
theorem zmul_le {x y a b : Int} (hx : 0 ≤ x ∧ x ≤ a) (hy : 0 ≤ y ∧ y ≤ b) : 0 ≤ x * y ∧ x * y ≤ a * b := ⟨Int.mul_nonneg hx.1 hy.1, Int.mul_le_mul hx.2 hy.2 hy.1 (Int.le_trans hx.1 hx.2)⟩
theorem zdist {f : Nat → Int32} {n : Nat} (h : ∀ i, i < n → (f i).toInt = (i : Int)) (hn : n ≤ 700) (t u : Nat) (ht : t < n) (hu : u < n) (e : zf (f t) = zf (f u)) : t = u := by
  have h1 := h t ht
  have h2 := h u hu
  have h3 : (f t).toInt = (f u).toInt := zfI_inj ⟨by omega, by omega⟩ ⟨by omega, by omega⟩ e
  omega
theorem zbOf_Crw {c : Nat → zF} {n : Nat} (h : n = 0 ∨ c (n - 1) ≠ 0) : zrw (zbOf (fun j => zaC (c j)) n) = n := zrw_uniq (fun i hi => zbOf_n hi) (by
  rcases h with e | e
  · exact Or.inl e
  · by_cases k : n = 0
    · exact Or.inl k
    · refine Or.inr ?_
      rw [zbOf_y (by omega)]
      exact zCn e)
/-! the board: its lines change places -/
def zBd (w : zM) (a : Nat) : Prop := ∃ σ : Nat → Nat, (∃ f : Nat → Option Nat, w a = some (.inr (8, 26, .inr f)) ∧ ∀ i, i < 26 → f i = some (a + 1 + σ i)) ∧ (∀ i, i < 26 → σ i < 26) ∧ (∀ i j, i < 26 → j < 26 → σ i = σ j → i = j) ∧ ∀ t, t < 26 → w (a + 1 + t) = some (.inr (4, 14, .inr (fun i => if i < 14 then some (a + 7445 + 28 * t + 2 * i) else none)))
theorem zBd.ag {w w' : zM} {a : Nat} (h : zBd w a) (he : ∀ x, a ≤ x → x < a + 27 → w' x = w x) : zBd w' a := by
  obtain ⟨σ, ⟨f, h1, h2⟩, h3, h4, h5⟩ := h
  exact ⟨σ, ⟨f, (he a (Nat.le_refl _) (by omega)).trans h1, h2⟩, h3, h4, fun t ht => (he _ (by omega) (by omega)).trans (h5 t ht)⟩
