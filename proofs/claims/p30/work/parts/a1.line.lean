/-! a line in n as a U; the top put back *)-/
theorem zM1 {w : zM} {m : Nat} {g : Nat → Int32} {r : Nat → Value} {v : Int32} (h : w m = some (.inl (15, zMo m (zs g 1 v) r))) (e : v.toInt = (g 1).toInt) : w m = some (.inl (15, zMo m g r)) := by
  have e2 : v = g 1 := Int32.toInt_inj.mp e
  subst e2
  exact h
theorem zline2 {w : zM} {a cap : Nat} {f : Nat → Int32} {c : Int32} (h1 : w a = some (.inl (14, [.ref (a + 1), .int 2]))) (h2 : w (a + 1) = some (.inr (0, cap, .inl (upd (upd f 0 c) 1 1)))) (h3 : 2 ≤ cap) (hc : zr1 c) : ∃ p, zU w a cap p ∧ zln p = 2 := by
  have hl : zln (zaOf (fun i => if i = 0 then zf c else 1) 2) = 2 := zln_uniq (fun i hi => by rw [zaOf_c, if_neg (by omega)]) (Or.inr (by
    rw [zaOf_c, if_pos (by decide), if_neg (by decide)]
    decide))
  refine ⟨zaOf (fun i => if i = 0 then zf c else 1) 2, zU.mk h1 h2 (by rw [hl]; decide) (by omega) (fun i hi => ?_), hl⟩
  rw [hl] at hi
  rw [zaOf_c, if_pos hi]
  by_cases e : i = 0
  · subst e
    rw [zupd_n _ _ (by decide), zupd_s, if_pos rfl]
    exact ⟨hc, rfl⟩
  · rw [show i = 1 by omega, zupd_s, if_neg (by decide)]
    exact ⟨zr1_1, zf_1⟩
