/-! numbers of a polynomial in n, one after another -/
def zaOf (f : Nat → zF) (n : Nat) : zA1 := ⟨fun i => if i < n then f i else 0, n, fun i hi => if_neg (by omega)⟩
noncomputable def zaUp (p : zA1) (j : Nat) (c : zF) : zA1 := zaOf (fun i => if i = j then c else p.1 i) (max (zln p) (j + 1))
theorem zaUp_c (p : zA1) (j : Nat) (c : zF) (i : Nat) : (zaUp p j c).1 i = if i = j then c else p.1 i := by
  show (if i < max (zln p) (j + 1) then (if i = j then c else p.1 i) else 0) = _
  by_cases h : i < max (zln p) (j + 1)
  · rw [if_pos h]
  · rw [if_neg h, if_neg (by omega), zln_dg p i (by omega)]
theorem zaUp_ln {p : zA1} {j : Nat} (c : zF) (h : j + 1 < zln p) : zln (zaUp p j c) = zln p := zln_uniq (fun i hi => by rw [zaUp_c, if_neg (by omega), zln_dg p i hi]) (Or.inr (by
  rw [zaUp_c, if_neg (by omega)]
  exact zln_hd (by omega)))
theorem zU_up {w' : zM} {a cap j : Nat} {p : zA1} {n x : Int32} {f : Nat → Int32} (hn : w' a = some (.inl (14, [.ref (a + 1), .int n]))) (hf : w' (a + 1) = some (.inr (0, cap, .inl (upd f j x)))) (hl : n.toInt = zln p) (hc : zln p ≤ cap)
    (hv : ∀ i, i < zln p → zr1 (f i) ∧ zf (f i) = p.1 i) (hx : zr1 x) (hj : j + 1 < zln p) : zU w' a cap (zaUp p j (zf x)) := by
  refine ⟨n, _, hn, hf, ?_, ?_, fun i hi => ?_⟩
  · rw [zaUp_ln _ hj]; exact hl
  · rw [zaUp_ln _ hj]; exact hc
  · rw [zaUp_ln _ hj] at hi
    rw [zaUp_c]
    by_cases e : i = j
    · rw [if_pos e, e, zupd_s]; exact ⟨hx, rfl⟩
    · rw [if_neg e, zupd_n _ _ e]; exact hv i hi
theorem zaSC_c (c : zF) (p q : zA1) (i : Nat) : (zaA p (zaM (zaC c) q)).1 i = p.1 i + c * q.1 i := by
  rw [zaA_c, zaCM_c]
