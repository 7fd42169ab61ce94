/-! products in other orders -/
theorem zb_ac (s p x : zA2) : zbM (zbM s p) x = zbM (zbM s x) p := by
  letI := zA1R
  letI := zA2R
  show s * p * x = s * x * p
  grind
theorem zb_ac2 (s a q : zA2) : zbM (zbM s a) q = zbM s (zbM q a) := by
  letI := zA1R
  letI := zA2R
  show s * a * q = s * (q * a)
  grind
/-! the rows of numbers kept for the quotients along n -/
theorem zR.snA {m : Nat} {w : zM} (h : zR m w) (i : Nat) (hi : i < 4) : ∃ f : Nat → Int32, w (m + 182 + i) = some (.inr (0, 325, .inl f)) := by
  have hc : i = 0 ∨ i = 1 ∨ i = 2 ∨ i = 3 := by omega
  rcases hc with e | e | e | e
  · obtain ⟨f, hf⟩ := zR_ia h (j := 182) (t := 0) (n := 325) (by decide) rfl
    exact ⟨f, by rw [e]; exact hf⟩
  · obtain ⟨f, hf⟩ := zR_ia h (j := 183) (t := 0) (n := 325) (by decide) rfl
    exact ⟨f, by rw [e]; exact hf⟩
  · obtain ⟨f, hf⟩ := zR_ia h (j := 184) (t := 0) (n := 325) (by decide) rfl
    exact ⟨f, by rw [e]; exact hf⟩
  · obtain ⟨f, hf⟩ := zR_ia h (j := 185) (t := 0) (n := 325) (by decide) rfl
    exact ⟨f, by rw [e]; exact hf⟩
theorem zR.sdA {m : Nat} {w : zM} (h : zR m w) (i : Nat) (hi : i < 4) : ∃ f : Nat → Int32, w (m + 187 + i) = some (.inr (0, 325, .inl f)) := by
  have hc : i = 0 ∨ i = 1 ∨ i = 2 ∨ i = 3 := by omega
  rcases hc with e | e | e | e
  · obtain ⟨f, hf⟩ := zR_ia h (j := 187) (t := 0) (n := 325) (by decide) rfl
    exact ⟨f, by rw [e]; exact hf⟩
  · obtain ⟨f, hf⟩ := zR_ia h (j := 188) (t := 0) (n := 325) (by decide) rfl
    exact ⟨f, by rw [e]; exact hf⟩
  · obtain ⟨f, hf⟩ := zR_ia h (j := 189) (t := 0) (n := 325) (by decide) rfl
    exact ⟨f, by rw [e]; exact hf⟩
  · obtain ⟨f, hf⟩ := zR_ia h (j := 190) (t := 0) (n := 325) (by decide) rfl
    exact ⟨f, by rw [e]; exact hf⟩
/-! the rest of a method that makes arrays of its own -/
def zConPN (k b cm cs : Nat) (q : zQ) (pc : Nat) (lv : zL) (w : zM) (φ : Option Value → zM → Prop) : Prop := ∀ d sz, k ≤ d → b ≤ sz → sz + cm ≤ b + 1000000000000 → (∀ x, sz ≤ x → w x = none) → zP d q pc lv [] w sz cm cs (fun r w' z => (sz ≤ z ∧ z ≤ sz + cm) ∧ (∀ x, z ≤ x → w' x = none) ∧ ∃ v, r = some v ∧ φ v w')
