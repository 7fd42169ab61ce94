/-! the letter and a number, as the machine has it -/
theorem zlin_c (a : zF) (i : Nat) : (zlin a).1 i = if i = 0 then 0 - a else if i = 1 then 1 else 0 := rfl
theorem zF_nn (a : zF) : 0 - - a = a := by grind
theorem zlineX {w : zM} {a cap : Nat} {f : Nat → Int32} {c : Int32} (h1 : w a = some (.inl (14, [.ref (a + 1), .int 2]))) (h2 : w (a + 1) = some (.inr (0, cap, .inl (upd (upd f ((0 : Int32).toNatClampNeg) c) ((1 : Int32).toNatClampNeg) 1)))) (hcap : 2 ≤ cap) (hc : zr1 c) : zU w a cap (zlin (- zf c)) := by
  refine zU.mk h1 h2 (by rw [zlin_ln]; decide) (by rw [zlin_ln]; exact hcap) (fun i hi => ?_)
  rw [zlin_ln] at hi
  have e0 : (0 : Int32).toNatClampNeg = 0 := by decide
  have e1 : (1 : Int32).toNatClampNeg = 1 := by decide
  rw [e0, e1, zlin_c]
  by_cases e : i = 1
  · rw [e, zupd_s, if_neg (by omega), if_pos rfl]
    exact ⟨zr1_1, zf_1⟩
  · have e2 : i = 0 := by omega
    rw [e2, zupd_n _ _ (by omega), zupd_s, if_pos rfl]
    exact ⟨hc, (zF_nn _).symm⟩
/-- half of P less 1 -/
def zHf : Nat := 1073741823
theorem zHf_e : (1073741823 : Int64).toInt.toNat = zHf := by unfold zHf; decide
theorem zPf_e : (2147483647 : Int64).toInt.toNat = 2147483647 := by decide
theorem zAg_ltH {F : zA1} {a : Nat} (h : zSp F) (h3 : 3 ≤ zln F) (ha : zAg zHf F a) : a < 2147483647 := zAg_lt (n := 1073741822) h h3 ha
theorem zSp_gcd {f g : zA1} (hf : 0 < zln f) (hg : zcg f g (zpq (zlin (- zf 0)) 2147483647)) : zSp (zgcd (zaS g (zlin (- zf 0))) f) := by
  have e : (- zf 0 : zF) = 0 := by rw [zf_0]; decide
  rw [e] at hg ⊢
  exact zSp_0 hf hg
theorem zf_i (n : Nat) (x : Int32) (h : x.toInt = (n : Int)) : zf x = zfI (n : Int) := by
  show zfI x.toInt = _
  rw [h]
theorem zSp_1 {F : zA1} (h : zSp F) : 1 ≤ zln F := zSp_nz h
