/-! what holds between calls; n: how many numbers are fed -/
def zInv (w : zM) (m : Nat) (n : Int32) : Prop := ∃ (g : Nat → Int32) (r : Nat → Value), w m = some (.inl (15, zMo m g r)) ∧ zR m w ∧ zSlo w (m + 7486) ∧ (∃ k, zTi w (m + 83) k) ∧ zPil w (m + 6316) ∧ (∃ ff, w (m + 94) = some (.inr (0, 60, .inl ff)) ∧ ∀ i, i < 60 → zr1 (ff i)) ∧ zBya w (m + 92) 4000 ∧ zBya w (m + 93) 4000 ∧
  (0 ≤ (g 12).toInt ∧ (g 12).toInt ≤ 400) ∧ (0 ≤ (g 24).toInt ∧ (g 24).toInt ≤ 4000) ∧ (0 ≤ (g 29).toInt ∧ (g 29).toInt ≤ 60) ∧ (0 ≤ (g 31).toInt ∧ (g 31).toInt ≤ 30) ∧ g 29 = n
