/-! the cells of a thing as polynomials -/
noncomputable def zbT (f : Nat → Int32) : zA2 := zbOf (fun j => zaOf (fun i => zf (f (25 * j + i))) 25) 13
theorem zbT_c (f : Nat → Int32) (j i : Nat) : ((zbT f).1 j).1 i = if j < 13 ∧ i < 25 then zf (f (25 * j + i)) else 0 := by
  unfold zbT
  by_cases h : j < 13
  · rw [zbOf_y h, zaOf_c]
    by_cases k : i < 25
    · rw [if_pos k, if_pos ⟨h, k⟩]
    · rw [if_neg k, if_neg (fun e => k e.2)]
  · rw [zbOf_n (by omega), zaZ_c, if_neg (fun e => h e.1)]
theorem zbT_rw (f : Nat → Int32) : zrw (zbT f) ≤ 13 := zrw_le fun i hi => zbOf_n (by omega)
theorem zbT_dn (f : Nat → Int32) : zdn (zbT f) ≤ 24 := zbOf_dn fun j hj => zaOf_ln _ _
theorem zbT_eq {f : Nat → Int32} {q : zA2} (h : ∀ j i, j < 13 → i < 25 → zf (f (25 * j + i)) = (q.1 j).1 i) (hr : zrw q ≤ 13) (hd : zdn q ≤ 24) : zbT f = q := zb_ext fun j => za_ext fun i => by
  rw [zbT_c]
  by_cases e : j < 13 ∧ i < 25
  · rw [if_pos e]; exact h j i e.1 e.2
  · rw [if_neg e]
    by_cases k : j < 13
    · have h1 := zdn_le q j
      exact (zln_dg (q.1 j) i (by omega)).symm
    · rw [zrw_dg q j (by omega), zaZ_c]
def zCr (f : Nat → Int32) : Prop := ∀ i, i < 325 → zr1 (f i)
theorem zUn_cpy {w : zM} {a N sp : Nat} {n : Int32} {fc g : Nat → Int32} (hn : w a = some (.inl (14, [.ref (a + 1), .int n]))) (hf : w (a + 1) = some (.inr (0, 200, .inl (va_cpy fc g sp 0 25)))) (h25 : n.toInt = 25) (hr : ∀ i, i < 25 → zr1 (fc (sp + i))) (hs : sp = N) :
    zUw w a 200 25 (zaOf (fun i => zf (fc (N + i))) 25) := by
  subst hs
  refine ⟨n, _, hn, hf, h25, by omega, fun i hi => ?_, fun i hi => ?_⟩
  · have e : va_cpy fc g sp 0 25 i = fc (sp + i) := by
      unfold va_cpy
      rw [if_pos (by omega), Nat.sub_zero]
    rw [e, zaOf_c, if_pos hi]
    exact ⟨hr i hi, rfl⟩
  · rw [zaOf_c, if_neg (by omega)]
