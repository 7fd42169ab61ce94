/-! the throw -/
theorem zR.stop {m : Nat} {w : zM} (h : zR m w) : ∃ fs, w (m + 79) = some (.inl (12, fs)) := by
  obtain ⟨c, h1, h2⟩ := h 79 (by decide)
  match c, h2 with
  | .inl (ci, fs), ⟨e1, _, _⟩ => subst e1; exact ⟨fs, h1⟩
theorem zr_thr {d : Nat} {q : zQ} {pc : Nat} {lv : zL} {st : List Value} {w : zM} {sz mc ms a : Nat} {fs : List Value} {Post : Option (Option Value) → zM → Nat → Prop} (hi : zlk (zqI q) pc = some .athrow) (hw : w a = some (.inl (12, fs))) (k : Post none w sz) : zP d q pc lv (.ref a :: st) w sz mc ms Post :=
  zp_throw hi rfl rfl rfl (by unfold zthr; simp only [hw]; rfl) k
