/-! the numbers of a guess, whatever they are -/
theorem zR.unk {m : Nat} {w : zM} (h : zR m w) : ∃ f : Nat → Int32, w (m + 273) = some (.inr (0, 46, .inl f)) := zR_ia h (j := 273) (t := 0) (n := 46) (by decide) rfl
