/-! lines -/
theorem c_X16_multiply_W {w : zM} {g : Nat → Int32} {r : Nat → Value} {ka kb : Int32} {g1 : Int32} {g3 : Int32} (m : Nat) (a : Nat) (b : Nat) (by9 : Int32) (hm : w m = some (.inl (15, zMo m g r))) (hR_m : zR m w) (hTi_a : zTi w a ka) (hTi_b : zTi w b kb)
    (hut : 0 ≤ g1.toInt ∧ g1.toInt + 9 ≤ 160) (hbt : 0 ≤ g3.toInt ∧ g3.toInt + 16 ≤ 44) (hab : a + 9 ≤ b ∨ b + 9 ≤ a) (hoa : (m + 83 ≤ a ∧ a + 9 ≤ m + 92) ∨ (m + 6316 ≤ a ∧ a + 9 ≤ m + 7594)) (hob : (m + 83 ≤ b ∧ b + 9 ≤ m + 92) ∨ (m + 6316 ≤ b ∧ b + 9 ≤ m + 7594))
    (hka : ka = 1 ∨ ka = 2) (hkb : kb = 1 ∨ kb = 2) (hnz : by9 = 1 → zNz w b) (hz_by9 : by9 = 0 ∨ by9 = 1) (hg1 : g 1 = g1) (hg3 : g 3 = g3) :
    zCon 11 zq_X16_multiply_ [.ref m, .ref a, .ref b, .int by9] w (fun v9 w9' => ∃ K9 : Int32, zSI w w9' ∧ (∀ x, (x < a ∨ a + 9 ≤ x) ∧ (x < m + 78 ∨ m + 78 + 1 ≤ x) ∧ (x < m + 276 + 2 * g1.toNatClampNeg ∨ m + 276 + 2 * g1.toNatClampNeg + (320 - 2 * g1.toNatClampNeg) ≤ x) ∧
      (x < m + 596 + 130 * g3.toNatClampNeg ∨ m + 596 + 130 * g3.toNatClampNeg + (5720 - 130 * g3.toNatClampNeg) ≤ x) ∧ (x < m + 3 ∨ m + 3 + 1 ≤ x) ∧ (x < m + 5 ∨ m + 5 + 64 ≤ x) → w9' x = w x) ∧ zTi w9' a K9 ∧ (K9 = 1 ∨ K9 = 2) ∧ ∃ r9 : Int32, v9 = some (.int r9) ∧ (r9 = 0 ∨ r9 = 1) ∧ True) := by
  rcases hz_by9 with e | e
  · rw [e]
    exact c_X16_multiply_0 m a b hm hR_m hTi_a hTi_b hut hbt hab hoa hob hka hkb hg1 hg3
  · rw [e]
    exact c_X16_multiply_1 m a b hm hR_m hTi_a hTi_b hut hbt hab hoa hob hka hkb (hnz e) hg1 hg3
def zQs (fa fb fc : Nat → Int32) (n : Nat) : Prop := ∀ k, k < n → zr1 (fa k) ∧ zr1 (fb k) ∧ zr1 (fc k) ∧ (fa k ≠ 0 ∨ fb k ≠ 0)
theorem zQs_0 (fa fb fc : Nat → Int32) : zQs fa fb fc 0 := fun k hk => absurd hk (Nat.not_lt_zero k)
theorem zQs_up {fa fb fc : Nat → Int32} {n N : Nat} {x y z : Int32} (h : zQs fa fb fc n) (hN : N = n + 1) (hx : zr1 x) (hy : zr1 y) (hz : zr1 z) (hn : x ≠ 0 ∨ y ≠ 0) : zQs (upd fa n x) (upd fb n y) (upd fc n z) N := fun k hk => by
  by_cases e : k = n
  · rw [e, zupd_s, zupd_s, zupd_s]; exact ⟨hx, hy, hz, hn⟩
  · rw [zupd_n _ _ e, zupd_n _ _ e, zupd_n _ _ e]; exact h k (by omega)
/-- a line as a polynomial -/
noncomputable def zLi (a b c : Int32) : zA2 := zbOf (fun j => if j = 0 then zaOf (fun i => if i = 0 then zf c else zf a) 2 else zaC (zf b)) (if b = 0 then 1 else 2)
theorem zLi_rw {a b c : Int32} (ha : zr1 a) (hb : zr1 b) (h : a ≠ 0 ∨ b ≠ 0) : zrw (zLi a b c) = if b = 0 then 1 else 2 := by
  unfold zLi
  by_cases e : b = 0
  · rw [if_pos e]
    refine zrw_uniq (fun i hi => zbOf_n hi) (Or.inr ?_)
    rw [zbOf_y (by omega), if_pos rfl]
    intro k
    have h1 := congrArg (fun p : zA1 => p.1 1) k
    have h2 : (zaOf (fun i => if i = 0 then zf c else zf a) 2).1 1 = zf a := rfl
    have h3 : zf a = 0 := h2.symm.trans (h1.trans (zaZ_c 1))
    exact zf_nz ha (h.resolve_right (fun q => q e)) h3
  · rw [if_neg e]
    refine zrw_uniq (fun i hi => zbOf_n hi) (Or.inr ?_)
    rw [zbOf_y (by omega), if_neg (by omega)]
    exact zCn (zf_nz hb e)
theorem zLi_dn (a b c : Int32) : zdn (zLi a b c) ≤ 1 := zbOf_dn fun j _ => by
  split
  · exact zaOf_ln _ _
  · exact Nat.le_trans (zln_le (d := 1) fun i hi => by rw [zaC_c, if_neg (by omega)]) (by omega)
