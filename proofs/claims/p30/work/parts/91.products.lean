/-! numbers that are not nothing, and their products -/
theorem zmul_nz {a b r : Int32} (ha : zr1 a) (hb : zr1 b) (hr : zf r = zf a * zf b) (a0 : a ≠ 0) (b0 : b ≠ 0) : r ≠ 0 := fun e => by
  rw [e, zf_0] at hr
  rcases zF_dom _ _ hr.symm with h | h
  · exact zf_nz ha a0 h
  · exact zf_nz hb b0 h
theorem zinv_nz {a r : Int32} (ha : zr1 a) (a0 : a ≠ 0) (hr : zf r = zinvF (zf a)) : r ≠ 0 := fun e => zinvF_nz (zf_nz ha a0) (by rw [← hr, e, zf_0])
theorem zpow_nz {a r : Int32} (ha : zr1 a) (a0 : a ≠ 0) (hr : zf a ≠ 0 → zf r ≠ 0) : r ≠ 0 := fun e => hr (zf_nz ha a0) (by rw [e, zf_0])
/-- the num of the thing at t is not nothing -/
def zNz (w : zM) (t : Nat) : Prop := ∃ fn : Nat → Int32, w (t + 1) = some (.inr (0, 325, .inl fn)) ∧ 0 < zrw (zbT fn)
theorem zNz_of {w : zM} {t : Nat} {fn : Nat → Int32} (h : zNz w t) (hf : w (t + 1) = some (.inr (0, 325, .inl fn))) : 0 < zrw (zbT fn) := by
  obtain ⟨f9, h9, hz⟩ := h
  rw [hf] at h9
  cases h9
  exact hz
theorem zmul_sm {x y : Int32} (hx : 0 ≤ x.toInt ∧ x.toInt ≤ 100) (hy : 0 ≤ y.toInt ∧ y.toInt ≤ 1000) : (x * y).toInt = x.toInt * y.toInt ∧ 0 ≤ x.toInt * y.toInt := by
  have h1 : 0 ≤ x.toInt * y.toInt := Int.mul_nonneg hx.1 hy.1
  have h2 : x.toInt * y.toInt ≤ 100 * 1000 := Int.mul_le_mul hx.2 hy.2 hy.1 (by decide)
  have h3 := zmulM x y
  generalize x.toInt * y.toInt = p at *
  refine ⟨?_, h1⟩
  omega
theorem zmul_b {x y : Int32} (hx : 0 ≤ x.toInt ∧ x.toInt ≤ 100) (hy : 0 ≤ y.toInt ∧ y.toInt ≤ 1000) : 0 ≤ x.toInt * y.toInt ∧ x.toInt * y.toInt ≤ 100000 :=
  ⟨Int.mul_nonneg hx.1 hy.1, Int.le_trans (Int.mul_le_mul hx.2 hy.2 hy.1 (by decide)) (by decide)⟩
theorem zprod_le {x y : Int32} {a C : Nat} (hx : 0 ≤ x.toInt) (hy : (a : Int) ≤ y.toInt) (h : x.toInt * y.toInt ≤ C) : x.toNatClampNeg * a ≤ C := by
  have h1 := znat hx
  have h2 : x.toInt * (a : Int) ≤ x.toInt * y.toInt := Int.mul_le_mul_of_nonneg_left hy hx
  have h3 : ((x.toNatClampNeg * a : Nat) : Int) = x.toInt * (a : Int) := by rw [Int.natCast_mul, h1]
  omega
/-- a power on the way -/
def zPw (X p : zA2) (n : Nat) : Prop := zdn X ≤ n * zdn p ∧ zrw X ≤ n * (zrw p - 1) + 1 ∧ 0 < zrw X
theorem zPw_0 (p : zA2) : zPw (zbC (zaC (zf 1))) p 0 := by
  unfold zPw
  rw [zf_1, zC1_rw, zdn_C1]
  omega
theorem zPw_s {X p : zA2} {n : Nat} (h : zPw X p n) (hp : 0 < zrw p) : zPw (zbM X p) p (n + 1) := by
  have h1 := zrw_M h.2.2 hp
  have h2 := zdn_M X p
  have h3 := h.1
  have h4 := h.2.1
  have h5 := h.2.2
  unfold zPw
  rw [Nat.succ_mul, Nat.succ_mul]
  omega
theorem zPw_le {X p : zA2} {n e A B : Nat} (h : zPw X p n) (hn : n ≤ e) (ha : e * zdn p ≤ A) (hb : e * (zrw p - 1) ≤ B) : zdn X ≤ A ∧ zrw X ≤ B + 1 := by
  have h1 := Nat.mul_le_mul_right (zdn p) hn
  have h2 := Nat.mul_le_mul_right (zrw p - 1) hn
  have h3 := h.1
  have h4 := h.2.1
  omega
theorem zabs_sm {x m : Int32} (em : m = if 0 ≤ x then x else 0 - x) (hx : -50 ≤ x.toInt ∧ x.toInt ≤ 50) : 0 ≤ m.toInt ∧ m.toInt ≤ 50 := by
  rw [em]
  split
  · next h => have h1 := zleI h; rw [show (0 : Int32).toInt = 0 from by decide] at h1; omega
  · next h =>
    have h1 := znleI h
    rw [show (0 : Int32).toInt = 0 from by decide] at h1
    rw [zsub 0 x (by rw [show (0 : Int32).toInt = 0 from by decide]; omega) (by rw [show (0 : Int32).toInt = 0 from by decide]; omega), show (0 : Int32).toInt = 0 from by decide]
    omega
