/-! the board's numbers; one column of it -/
theorem zT0_bd {m i : Nat} : zT0 m (7594 + i) = zUC (m + (7594 + i)) (i % 2) 1000 := by
  unfold zT0
  iterate 60 (first | rw [if_neg (by omega)] | skip)
  rw [show 7594 + i - 7594 = i by omega]
theorem zR.bdU {m : Nat} {w : zM} (h : zR m w) (t i : Nat) (ht : t < 26) (hi : i < 14) : zUo w (m + 7594 + 28 * t + 2 * i) 1000 := by
  obtain ⟨c1, h1, s1⟩ := h (7594 + (28 * t + 2 * i)) (by omega)
  obtain ⟨c2, h2, s2⟩ := h (7594 + (28 * t + 2 * i + 1)) (by omega)
  rw [zT0_bd] at s1 s2
  rw [show (28 * t + 2 * i) % 2 = 0 by omega] at s1
  rw [show (28 * t + 2 * i + 1) % 2 = 1 by omega] at s2
  rw [show m + (7594 + (28 * t + 2 * i)) = m + 7594 + 28 * t + 2 * i by omega] at h1 s1
  rw [show m + (7594 + (28 * t + 2 * i + 1)) = m + 7594 + 28 * t + 2 * i + 1 by omega] at h2 s2
  exact zUo_of h1 h2 s1 s2
theorem zr1_m1 : zr1 (2147483646 : Int32) := by unfold zr1; decide
/-- a column comes to those before it -/
theorem zBc.col {w w' : zM} {m n c : Nat} {σ : Nat → Nat} {B : Nat → Nat → zA1} {Q : Nat → zA1} (h : zBc w m σ n c B) (hn : n ≤ 26) (hc : c < 14) (hq : zBq w m σ) (hQ : ∀ j, j < n → zU w' (m + 7594 + 28 * σ j + 2 * c) 1000 (Q j))
    (he : ∀ i k, i < n → k < c → ∀ x, m + 7594 + 28 * σ i + 2 * k ≤ x → x < m + 7594 + 28 * σ i + 2 * k + 2 → w' x = w x) : zBc w' m σ n (c + 1) (fun i k => if k = c then Q i else B i k) := fun i k hi hk => by
  show zU _ _ _ (if k = c then Q i else B i k)
  by_cases e : k = c
  · rw [if_pos e, e]; exact hQ i hi
  · rw [if_neg e]; exact (h i k hi (by omega)).ag (he i k hi (by omega))
noncomputable def zbUp (q : zA2) : zA2 := zbOf (fun t => if t = 0 then zaZ else q.1 (t - 1)) (zrw q + 1)
theorem zbUp_c (q : zA2) (t : Nat) : (zbUp q).1 t = if t = 0 then zaZ else q.1 (t - 1) := by
  unfold zbUp
  by_cases h : t < zrw q + 1
  · rw [zbOf_y h]
  · rw [zbOf_n (by omega), if_neg (by omega), zrw_dg q _ (by omega)]
theorem zbUp_rw {q : zA2} (h : 0 < zrw q) : zrw (zbUp q) = zrw q + 1 := zrw_uniq (fun i hi => by rw [zbUp_c, if_neg (by omega), zrw_dg q _ (by omega)]) (Or.inr (by
  rw [zbUp_c, if_neg (by omega), Nat.add_sub_cancel]
  exact zrw_hd h))
theorem zbUp_dn (q : zA2) : zdn (zbUp q) ≤ zdn q := zdn_min fun j => by
  rw [zbUp_c]
  split
  · rw [zln_Z]; omega
  · exact zdn_le q _
/-! a product of two longs, the first one P at most -/
theorem zmulP (a b : Int64) (ha : 0 ≤ a.toInt ∧ a.toInt ≤ 2147483647) (hb : 0 ≤ b.toInt ∧ b.toInt < 2147483647) : (a * b).toInt = a.toInt * b.toInt ∧ 0 ≤ a.toInt * b.toInt := by
  have h1 : a.toInt * b.toInt ≤ 2147483647 * b.toInt := Int.mul_le_mul_of_nonneg_right (by omega) hb.1
  have h2 := Int.mul_nonneg ha.1 hb.1
  refine ⟨?_, h2⟩
  rw [zmulL]
  omega
