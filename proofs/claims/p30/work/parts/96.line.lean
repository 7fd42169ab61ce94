/-! a line laid into a B -/
theorem zUn_two {w : zM} {a : Nat} {n x y : Int32} {f : Nat → Int32} (hn : w a = some (.inl (14, [.ref (a + 1), .int n]))) (hf : w (a + 1) = some (.inr (0, 200, .inl (upd (upd f (0 : Int32).toNatClampNeg x) (1 : Int32).toNatClampNeg y)))) (h2 : n.toInt = 2) (hx : zr1 x) (hy : zr1 y) :
    zUw w a 200 2 (zaOf (fun i => if i = 0 then zf x else zf y) 2) := by
  rw [show (0 : Int32).toNatClampNeg = 0 from rfl, show (1 : Int32).toNatClampNeg = 1 from rfl] at hf
  refine ⟨n, _, hn, hf, h2, by omega, fun i hi => ?_, fun i hi => ?_⟩
  · rw [zaOf_c, if_pos hi]
    by_cases e : i = 0
    · rw [e, if_pos rfl, zupd_n _ _ (by omega), zupd_s]; exact ⟨hx, rfl⟩
    · rw [if_neg e, show i = 1 by omega, zupd_s]; exact ⟨hy, rfl⟩
  · rw [zaOf_c, if_neg (by omega)]
theorem zLi_B1 {w : zM} {b : Nat} {n x y z : Int32} (hb : zBo w b) (hr : w b = some (.inl (11, [.ref (b + 1), .int n]))) (h1 : n.toInt = 1) (hx : zr1 x) (hy : zr1 y) (hn : x ≠ 0 ∨ y ≠ 0) (hy0 : y = 0) (h0 : zU w (b + 2 + 2 * 0) 200 (zaOf (fun i => if i = 0 then zf z else zf x) 2)) : zB w b (zLi x y z) := by
  have hr9 := zLi_rw (c := z) hx hy hn
  rw [if_pos hy0] at hr9
  refine zB.mk hb hr (by omega) (by omega) (fun j hj => ?_)
  rw [show j = 0 by omega]
  have e : (zLi x y z).1 0 = zaOf (fun i => if i = 0 then zf z else zf x) 2 := by
    unfold zLi
    rw [if_pos hy0, zbOf_y (by omega), if_pos rfl]
  rw [e]
  exact h0
theorem zLi_B2 {w : zM} {b : Nat} {n x y z : Int32} (hb : zBo w b) (hr : w b = some (.inl (11, [.ref (b + 1), .int n]))) (h1 : n.toInt = 2) (hx : zr1 x) (hy : zr1 y) (hy0 : y ≠ 0) (h0 : zU w (b + 2 + 2 * 0) 200 (zaOf (fun i => if i = 0 then zf z else zf x) 2))
    (h2 : zU w (b + 2 + 2 * 1) 200 (zaC (zf y))) : zB w b (zLi x y z) := by
  have hr9 := zLi_rw (c := z) hx hy (Or.inr hy0)
  rw [if_neg hy0] at hr9
  refine zB.mk hb hr (by omega) (by omega) (fun j hj => ?_)
  by_cases e : j = 0
  · rw [e]
    have e1 : (zLi x y z).1 0 = zaOf (fun i => if i = 0 then zf z else zf x) 2 := by
      unfold zLi
      rw [if_neg hy0, zbOf_y (by omega), if_pos rfl]
    rw [e1]
    exact h0
  · rw [show j = 1 by omega]
    have e1 : (zLi x y z).1 1 = zaC (zf y) := by
      unfold zLi
      rw [if_neg hy0, zbOf_y (by omega), if_neg (by omega)]
    rw [e1]
    exact h2
theorem zLi_nz {x y z : Int32} (hx : zr1 x) (hy : zr1 y) (hn : x ≠ 0 ∨ y ≠ 0) : 0 < zrw (zLi x y z) ∧ zrw (zLi x y z) ≤ 2 := by
  rw [zLi_rw hx hy hn]
  split <;> omega
