/-! nothing in a slot -/
theorem zKk_0 (g fn fd fr : Nat → Int32) : zKk 0 g fn fd fr := ⟨Or.inl rfl, fun h => absurd h (by decide), fun h => absurd h (by decide), fun h => absurd h (by decide), fun h => absurd h (by decide), fun h => absurd h (by decide)⟩
