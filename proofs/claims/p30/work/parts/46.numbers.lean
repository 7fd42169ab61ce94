/-! whole numbers as numbers modulo P -/
def zfI (x : Int) : zF := ⟨(x % 2147483647).toNat, by omega⟩
theorem zfI_val (x : Int) : ((zfI x).val : Int) = x % 2147483647 := by
  show (((x % 2147483647).toNat : Nat) : Int) = _
  omega
theorem zfI_eq {x y : Int} (h : x % 2147483647 = y % 2147483647) : zfI x = zfI y := Fin.ext (by
  show (x % 2147483647).toNat = (y % 2147483647).toNat
  rw [h])
theorem zfI_mod (x : Int) : zfI (x % 2147483647) = zfI x := zfI_eq (by omega)
theorem zfI_inj {x y : Int} (hx : 0 ≤ x ∧ x < 2147483647) (hy : 0 ≤ y ∧ y < 2147483647) (h : zfI x = zfI y) : x = y := by
  have h1 := zfI_val x
  have h2 := zfI_val y
  rw [h] at h1
  omega
theorem zF_ext {a b : zF} (h : (a.val : Int) = b.val) : a = b := Fin.ext (by omega)
theorem zF_addv (a b : zF) : ((a + b).val : Int) = ((a.val : Int) + b.val) % 2147483647 := by
  rw [Fin.val_add]
  omega
theorem zF_mulv (a b : zF) : ((a * b).val : Int) = ((a.val : Int) * b.val) % 2147483647 := by
  rw [Fin.val_mul]
  omega
theorem zfI_add (x y : Int) : zfI (x + y) = zfI x + zfI y := zF_ext (by
  rw [zF_addv, zfI_val, zfI_val, zfI_val]
  omega)
theorem zfI_mul (x y : Int) : zfI (x * y) = zfI x * zfI y := zF_ext (by
  rw [zF_mulv, zfI_val, zfI_val, zfI_val, Int.mul_emod])
theorem zfI_0 : zfI 0 = 0 := by decide
theorem zfI_1 : zfI 1 = 1 := by decide
theorem zfI_P : zfI 2147483647 = 0 := by decide
theorem zfI_neg (x : Int) : zfI (-x) = - zfI x := by
  have h := zfI_add (-x) x
  rw [show -x + x = 0 by omega, zfI_0] at h
  grind
theorem zfI_sub (x y : Int) : zfI (x - y) = zfI x - zfI y := by
  rw [Int.sub_eq_add_neg, zfI_add, zfI_neg]
  grind
theorem zfI_z {x : Int} (hx : 0 ≤ x ∧ x < 2147483647) (h : zfI x = 0) : x = 0 := zfI_inj hx (by omega) (by rw [h, zfI_0])
theorem zfI_nz {x : Int} (hx : 0 ≤ x ∧ x < 2147483647) (h : x ≠ 0) : zfI x ≠ 0 := fun e => h (zfI_z hx e)
/-- a number of the machine that is one modulo P -/
def zr1 (x : Int32) : Prop := 0 ≤ x.toInt ∧ x.toInt < 2147483647
abbrev zf (x : Int32) : zF := zfI x.toInt
theorem zf_0 : zf 0 = 0 := by decide
theorem zf_1 : zf 1 = 1 := by decide
theorem zr1_0 : zr1 0 := by unfold zr1; decide
theorem zr1_1 : zr1 1 := by unfold zr1; decide
theorem zf_z {x : Int32} (hx : zr1 x) (h : zf x = 0) : x = 0 := Int32.toInt_inj.mp (by rw [zfI_z hx h]; decide)
theorem zf_nz {x : Int32} (hx : zr1 x) (h : ¬ x = 0) : zf x ≠ 0 := fun e => h (zf_z hx e)
/-- what is left of a division by P, of what is not below 0 -/
theorem zremN {x : Int64} (h : 0 ≤ x.toInt) : (x - x / 2147483647 * 2147483647).toInt = x.toInt % 2147483647 := by
  rw [zremP, Int.tmod_eq_emod_of_nonneg h]
theorem zmulNN {a b : Int} (ha : 0 ≤ a ∧ a < 2147483647) (hb : 0 ≤ b ∧ b < 2147483647) : 0 ≤ a * b ∧ a * b ≤ 4611686009837453316 := by
  refine ⟨Int.mul_nonneg ha.1 hb.1, ?_⟩
  have h1 : a * b ≤ 2147483646 * b := Int.mul_le_mul_of_nonneg_right (by omega) hb.1
  have h2 : (2147483646 : Int) * b ≤ 2147483646 * 2147483646 := Int.mul_le_mul_of_nonneg_left (by omega) (by omega)
  omega
/-- a product of two ints as longs -/
theorem zmulLL (a b : Int32) : (a.toInt64 * b.toInt64).toInt = a.toInt * b.toInt := by
  have r1 := zrng a
  have r2 := zrng b
  rw [zmulL, zi2lM, zi2lM]
  have h : -4611686018427387904 ≤ a.toInt * b.toInt ∧ a.toInt * b.toInt ≤ 4611686018427387904 := by
    rcases Int.le_total 0 a.toInt with h1 | h1 <;> rcases Int.le_total 0 b.toInt with h2 | h2
    · have h3 : a.toInt * b.toInt ≤ 2147483648 * b.toInt := Int.mul_le_mul_of_nonneg_right (by omega) h2
      have := Int.mul_nonneg h1 h2
      omega
    · have h3 : a.toInt * (-b.toInt) ≤ 2147483648 * (-b.toInt) := Int.mul_le_mul_of_nonneg_right (by omega) (by omega)
      have h4 := Int.mul_nonneg h1 (show 0 ≤ -b.toInt by omega)
      rw [Int.mul_neg] at h3 h4
      omega
    · have h3 : (-a.toInt) * b.toInt ≤ 2147483648 * b.toInt := Int.mul_le_mul_of_nonneg_right (by omega) h2
      have h4 := Int.mul_nonneg (show 0 ≤ -a.toInt by omega) h2
      rw [Int.neg_mul] at h3 h4
      omega
    · have h3 : (-a.toInt) * (-b.toInt) ≤ 2147483648 * (-b.toInt) := Int.mul_le_mul_of_nonneg_right (by omega) (by omega)
      have h4 := Int.mul_nonneg (show 0 ≤ -a.toInt by omega) (show 0 ≤ -b.toInt by omega)
      rw [Int.neg_mul_neg] at h3 h4
      omega
  omega
theorem zmulLN {a b : Int64} (ha : 0 ≤ a.toInt ∧ a.toInt < 2147483647) (hb : 0 ≤ b.toInt ∧ b.toInt < 2147483647) : (a * b).toInt = a.toInt * b.toInt := by
  have := zmulNN ha hb
  rw [zmulL]
  omega
/-! how many numbers a polynomial has -/
theorem zln_ex (p : zA1) : ∃ d, zDg p.1 d ∧ (d = 0 ∨ p.1 (d - 1) ≠ 0) := by
  obtain ⟨d, hd⟩ := p.2
  by_cases h0 : zDg p.1 0
  · exact ⟨0, h0, Or.inl rfl⟩
  · obtain ⟨a, ha, hn⟩ := zDg_least d hd h0
    exact ⟨a + 1, ha, Or.inr hn⟩
noncomputable def zln (p : zA1) : Nat := Classical.choose (zln_ex p)
theorem zln_dg (p : zA1) : zDg p.1 (zln p) := (Classical.choose_spec (zln_ex p)).1
theorem zln_top (p : zA1) : zln p = 0 ∨ p.1 (zln p - 1) ≠ 0 := (Classical.choose_spec (zln_ex p)).2
theorem zln_le {p : zA1} {d : Nat} (h : zDg p.1 d) : zln p ≤ d := by
  rcases zln_top p with h1 | h1
  · omega
  · apply Nat.le_of_not_lt
    intro h2
    exact h1 (h _ (by omega))
theorem zln_uniq {p : zA1} {d : Nat} (h : zDg p.1 d) (ht : d = 0 ∨ p.1 (d - 1) ≠ 0) : zln p = d := by
  have h1 := zln_le h
  rcases ht with h2 | h2
  · omega
  · apply Nat.le_antisymm h1
    apply Nat.le_of_not_lt
    intro h3
    exact h2 (zln_dg p _ (by omega))
abbrev zaZ : zA1 := letI := zA1R; 0
abbrev zaO : zA1 := letI := zA1R; 1
abbrev zaA (p q : zA1) : zA1 := letI := zA1R; p + q
abbrev zaS (p q : zA1) : zA1 := letI := zA1R; p - q
abbrev zaM (p q : zA1) : zA1 := letI := zA1R; p * q
abbrev zaN (p : zA1) : zA1 := letI := zA1R; - p
/-- a number as a polynomial -/
abbrev zaC (c : zF) : zA1 := zKo c
theorem zaZ_c (i : Nat) : zaZ.1 i = 0 := by
  show zcst (zNc zF 0) i = 0
  rw [zNc0]
  cases i <;> rfl
theorem zaO_c (i : Nat) : zaO.1 i = if i = 0 then 1 else 0 := by
  show zcst (zNc zF 1) i = _
  rw [zNc1]
  cases i <;> rfl
theorem zaA_c (p q : zA1) (i : Nat) : (zaA p q).1 i = p.1 i + q.1 i := rfl
theorem zaS_c (p q : zA1) (i : Nat) : (zaS p q).1 i = p.1 i - q.1 i := rfl
theorem zaM_c (p q : zA1) (i : Nat) : (zaM p q).1 i = zcv p.1 q.1 i := rfl
theorem zaC_c (c : zF) (i : Nat) : (zaC c).1 i = if i = 0 then c else 0 := by
  cases i <;> rfl
theorem zaCM_c (c : zF) (p : zA1) (i : Nat) : (zaM (zaC c) p).1 i = c * p.1 i := zcv_cst c p.1 i
theorem za_ext {p q : zA1} (h : ∀ i, p.1 i = q.1 i) : p = q := zPl_ext (funext h)
theorem zln_0 {p : zA1} : zln p = 0 ↔ p = zaZ := by
  constructor
  · intro h
    have h1 := zln_dg p
    rw [h] at h1
    exact za_ext fun i => by rw [zaZ_c, h1 i (Nat.zero_le i)]
  · rintro rfl
    exact zln_uniq (fun i _ => zaZ_c i) (Or.inl rfl)
theorem zln_Z : zln zaZ = 0 := zln_0.mpr rfl
theorem zln_C {c : zF} (h : c ≠ 0) : zln (zaC c) = 1 := zln_uniq (fun i hi => by rw [zaC_c, if_neg (by omega)]) (Or.inr h)
theorem zln_O : zln zaO = 1 := zln_uniq (fun i hi => by rw [zaO_c, if_neg (by omega)]) (Or.inr (by rw [zaO_c]; decide))
theorem zln_nz {p : zA1} (h : p ≠ zaZ) : 0 < zln p := Nat.pos_of_ne_zero fun e => h (zln_0.mp e)
theorem zln_hd {p : zA1} (h : 0 < zln p) : p.1 (zln p - 1) ≠ 0 := by
  rcases zln_top p with h1 | h1
  · omega
  · exact h1
theorem zln_A (p q : zA1) : zln (zaA p q) ≤ max (zln p) (zln q) := zln_le (zDg_add (zDg_mono (zln_dg p) (Nat.le_max_left _ _)) (zDg_mono (zln_dg q) (Nat.le_max_right _ _)))
theorem zln_S (p q : zA1) : zln (zaS p q) ≤ max (zln p) (zln q) := zln_le (zDg_sub (zDg_mono (zln_dg p) (Nat.le_max_left _ _)) (zDg_mono (zln_dg q) (Nat.le_max_right _ _)))
theorem zln_M {p q : zA1} (hp : 0 < zln p) (hq : 0 < zln q) : zln (zaM p q) + 1 = zln p + zln q := by
  have h1 : zDg p.1 (zln p - 1 + 1) := by rw [show zln p - 1 + 1 = zln p by omega]; exact zln_dg p
  have h2 : zDg q.1 (zln q - 1 + 1) := by rw [show zln q - 1 + 1 = zln q by omega]; exact zln_dg q
  have ht := zDg_top h2 (zln p - 1) p.1 h1
  have : zln (zaM p q) = zln p + zln q - 1 := by
    apply zln_uniq
    · intro i hi
      exact zDg_mul (zln_dg q) i (zln p) p.1 (zln_dg p) (by omega)
    · right
      have e : zln p + zln q - 1 - 1 = zln p - 1 + (zln q - 1) := by omega
      rw [e]
      show zcv p.1 q.1 _ ≠ 0
      rw [ht]
      intro h
      rcases zF_mul0 h with h | h
      · exact zln_hd hp h
      · exact zln_hd hq h
  omega
theorem zaM_z {p q : zA1} (h : zaM p q = zaZ) : p = zaZ ∨ q = zaZ := zPl_dom zF_dom p q h
theorem zaM_Zl (q : zA1) : zaM zaZ q = zaZ := zA1R.zero_mul q
theorem zaM_Zr (p : zA1) : zaM p zaZ = zaZ := zA1R.mul_zero p
theorem zln_Mle (p q : zA1) : zln (zaM p q) ≤ zln p + zln q - 1 := by
  by_cases hp : zln p = 0
  · rw [zln_0.mp hp, zaM_Zl, zln_Z]; omega
  · by_cases hq : zln q = 0
    · rw [zln_0.mp hq, zaM_Zr, zln_Z]; omega
    · have := @zln_M p q (by omega) (by omega)
      omega
theorem zln_CM {c : zF} (h : c ≠ 0) (p : zA1) : zln (zaM (zaC c) p) = zln p := by
  apply zln_uniq
  · intro i hi
    rw [zaCM_c, zln_dg p i hi]; grind
  · rcases zln_top p with h1 | h1
    · exact Or.inl h1
    · right
      rw [zaCM_c]
      intro e
      rcases zF_mul0 e with e | e
      · exact h e
      · exact h1 e
/-- the product's numbers as sums -/
theorem zcv_sum {R : Type} [Lean.Grind.CommRing R] (g : Nat → R) : ∀ (i : Nat) (f : Nat → R), zcv f g i = zSm (i + 1) (fun t => f t * g (i - t))
  | 0, f => by simp only [zSm, zcv]; grind
  | i + 1, f => by
    show f 0 * g (i + 1) + zcv (fun j => f (j + 1)) g i = _
    rw [zcv_sum g i]
    have e := zSm_skip (fun t => f t * g (i + 1 - t)) 0 (i + 1) (Nat.zero_le _)
    rw [e]
    show _ = f 0 * g (i + 1 - 0) + _
    congr 1
    refine zSm_ext _ fun t _ => ?_
    show f (t + 1) * g (i - t) = f (t + 1) * g (i + 1 - (t + 1))
    rw [show i + 1 - (t + 1) = i - t by omega]
