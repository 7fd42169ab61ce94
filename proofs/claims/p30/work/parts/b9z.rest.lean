/-! the rest of a method, from a place on -/
theorem zP.rest {d : Nat} {q : zQ} {pc : Nat} {lv : zL} {st : List Value} {w : zM} {sz mc ms : Nat} {P1 P2 : Option (Option Value) → zM → Nat → Prop} (h : zP d q pc lv st w sz mc ms P1) (k : ∀ r w' z, P1 r w' z → P2 r w' z) : zP d q pc lv st w sz mc ms P2 := by
  obtain ⟨f, r, w', z, h1, h2⟩ := h
  exact ⟨f, r, w', z, h1, k _ _ _ h2⟩
def zConP (k : Nat) (q : zQ) (pc : Nat) (lv : zL) (w : zM) (φ : Option Value → zM → Prop) : Prop := ∀ d sz, k ≤ d → zP d q pc lv [] w sz 0 0 (fun r w' z => z = sz ∧ ∃ v, r = some v ∧ φ v w')
