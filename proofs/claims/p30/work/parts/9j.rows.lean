/-! rows of 25 numbers -/
theorem zUn_cpy2 {w : zM} {a N sp cap : Nat} {n : Int32} {fc g : Nat → Int32} (hn : w a = some (.inl (14, [.ref (a + 1), .int n]))) (hf : w (a + 1) = some (.inr (0, cap, .inl (va_cpy fc g sp 0 25)))) (h25 : n.toInt = 25) (hc : 25 ≤ cap) (hr : ∀ i, i < 25 → zr1 (fc (sp + i))) (hs : sp = N) :
    zUw w a cap 25 (zaOf (fun i => zf (fc (N + i))) 25) := by
  subst hs
  refine ⟨n, _, hn, hf, h25, hc, fun i hi => ?_, fun i hi => ?_⟩
  · have e : va_cpy fc g sp 0 25 i = fc (sp + i) := by
      unfold va_cpy
      rw [if_pos (by omega), Nat.sub_zero]
    rw [e, zaOf_c, if_pos hi]
    exact ⟨hr i hi, rfl⟩
  · rw [zaOf_c, if_neg (by omega)]
