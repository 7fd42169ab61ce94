/-! series over a ring (a polynomial is a series that ends) -/
def zSe (R : Type) : Type := Nat → R
def zcv {R : Type} [Lean.Grind.CommRing R] (f g : Nat → R) : Nat → R
  | 0 => f 0 * g 0
  | i + 1 => f 0 * g (i + 1) + zcv (fun j => f (j + 1)) g i
theorem zcv_addr {R : Type} [Lean.Grind.CommRing R] (g h : Nat → R) : ∀ (i : Nat) (f : Nat → R), zcv f (fun j => g j + h j) i = zcv f g i + zcv f h i
  | 0, f => by simp only [zcv]; grind
  | i + 1, f => by simp only [zcv]; rw [zcv_addr g h i]; grind
theorem zcv_addl {R : Type} [Lean.Grind.CommRing R] (h : Nat → R) : ∀ (i : Nat) (f g : Nat → R), zcv (fun j => f j + g j) h i = zcv f h i + zcv g h i
  | 0, f, g => by simp only [zcv]; grind
  | i + 1, f, g => by simp only [zcv]; rw [zcv_addl h i (fun j => f (j + 1)) (fun j => g (j + 1))]; grind
theorem zcv_sm {R : Type} [Lean.Grind.CommRing R] (c : R) (g : Nat → R) : ∀ (i : Nat) (f : Nat → R), zcv (fun j => c * f j) g i = c * zcv f g i
  | 0, f => by simp only [zcv]; grind
  | i + 1, f => by simp only [zcv]; rw [zcv_sm c g i (fun j => f (j + 1))]; grind
theorem zcv_zl {R : Type} [Lean.Grind.CommRing R] (g : Nat → R) : ∀ (i : Nat), zcv (fun _ => 0) g i = 0
  | 0 => by simp only [zcv]; grind
  | i + 1 => by simp only [zcv]; rw [zcv_zl g i]; grind
theorem zcv_sr {R : Type} [Lean.Grind.CommRing R] (g : Nat → R) : ∀ (i : Nat) (f : Nat → R), zcv f g (i + 1) = zcv f (fun j => g (j + 1)) i + f (i + 1) * g 0
  | 0, f => by simp only [zcv]
  | i + 1, f => by
    have h := zcv_sr g i (fun j => f (j + 1))
    rw [zcv, h]
    simp only [zcv]
    grind
theorem zcv_comm {R : Type} [Lean.Grind.CommRing R] : ∀ (i : Nat) (f g : Nat → R), zcv f g i = zcv g f i
  | 0, f, g => by simp only [zcv]; grind
  | i + 1, f, g => by
    rw [zcv_sr f i g, zcv, zcv_comm i]
    grind
theorem zcv_assoc {R : Type} [Lean.Grind.CommRing R] (g h : Nat → R) : ∀ (i : Nat) (f : Nat → R), zcv (zcv f g) h i = zcv f (zcv g h) i
  | 0, f => by simp only [zcv]; grind
  | i + 1, f => by
    have e : (fun j => zcv f g (j + 1)) = (fun j => f 0 * g (j + 1) + zcv (fun m => f (m + 1)) g j) := rfl
    have h1 : zcv (zcv f g) h (i + 1) = zcv f g 0 * h (i + 1) + zcv (fun j => zcv f g (j + 1)) h i := rfl
    have h2 : zcv f (zcv g h) (i + 1) = f 0 * zcv g h (i + 1) + zcv (fun j => f (j + 1)) (zcv g h) i := rfl
    have h3 : zcv g h (i + 1) = g 0 * h (i + 1) + zcv (fun j => g (j + 1)) h i := rfl
    have h4 : zcv f g 0 = f 0 * g 0 := rfl
    rw [h1, h2, h3, h4, e, zcv_addl h i (fun j => f 0 * g (j + 1)) (zcv (fun m => f (m + 1)) g), zcv_sm (f 0) h i (fun j => g (j + 1)), zcv_assoc g h i (fun m => f (m + 1))]
    grind
/-- the constant c -/
def zcst {R : Type} [Lean.Grind.CommRing R] (c : R) : Nat → R
  | 0 => c
  | _ + 1 => 0
theorem zcv_cst {R : Type} [Lean.Grind.CommRing R] (c : R) (g : Nat → R) : ∀ i, zcv (zcst c) g i = c * g i
  | 0 => rfl
  | i + 1 => by
    have e : (fun j => zcst c (j + 1)) = (fun _ => (0 : R)) := rfl
    have h : zcv (zcst c) g (i + 1) = c * g (i + 1) + zcv (fun j => zcst c (j + 1)) g i := rfl
    rw [h, e, zcv_zl]
    grind
def zpwS {R : Type} [Lean.Grind.CommRing R] (f : Nat → R) : Nat → (Nat → R)
  | 0 => zcst 1
  | n + 1 => zcv (zpwS f n) f
theorem zcst_add {R : Type} [Lean.Grind.CommRing R] (a b : R) : zcst (a + b) = fun i => zcst a i + zcst b i := by
  funext i
  cases i with
  | zero => rfl
  | succ i => simp only [zcst]; grind
theorem zcst_neg {R : Type} [Lean.Grind.CommRing R] (a : R) : zcst (-a) = fun i => - zcst a i := by
  funext i
  cases i with
  | zero => rfl
  | succ i => simp only [zcst]; grind
theorem zcst_zero {R : Type} [Lean.Grind.CommRing R] : zcst (0 : R) = fun _ => 0 := by
  funext i
  cases i with
  | zero => rfl
  | succ i => rfl
abbrev zNc (R : Type) [Lean.Grind.CommRing R] (n : Nat) : R := @Nat.cast R Lean.Grind.Semiring.natCast n
abbrev zIc (R : Type) [Lean.Grind.CommRing R] (n : Int) : R := @Int.cast R Lean.Grind.Ring.intCast n
theorem zNc0 (R : Type) [Lean.Grind.CommRing R] : zNc R 0 = 0 := Lean.Grind.Semiring.natCast_zero
theorem zNc1 (R : Type) [Lean.Grind.CommRing R] : zNc R 1 = 1 := Lean.Grind.Semiring.natCast_one
theorem zNcS (R : Type) [Lean.Grind.CommRing R] (n : Nat) : zNc R (n + 1) = zNc R n + 1 := Lean.Grind.Semiring.natCast_succ n
theorem zIcN (R : Type) [Lean.Grind.CommRing R] (n : Int) : zIc R (-n) = - zIc R n := Lean.Grind.Ring.intCast_neg n
theorem zIcC (R : Type) [Lean.Grind.CommRing R] (n : Nat) : zIc R (n : Int) = zNc R n := Lean.Grind.Ring.intCast_natCast n
theorem zcv_one {R : Type} [Lean.Grind.CommRing R] (f : Nat → R) (i : Nat) : zcv f (zcst (zNc R 1)) i = f i := by
  rw [zcv_comm, zcv_cst, zNc1]; grind
theorem zcv_one_l {R : Type} [Lean.Grind.CommRing R] (f : Nat → R) (i : Nat) : zcv (zcst (zNc R 1)) f i = f i := by
  rw [zcv_cst, zNc1]; grind
theorem zcv_zero {R : Type} [Lean.Grind.CommRing R] (f : Nat → R) (i : Nat) : zcv (zcst (zNc R 0)) f i = zcst (zNc R 0) i := by
  rw [zcv_cst, zNc0]
  cases i with
  | zero => simp only [zcst]; grind
  | succ i => simp only [zcst]; grind
theorem zcv_zsm {R : Type} [Lean.Grind.CommRing R] (n : Int) (f : Nat → R) (i : Nat) : zcv (zcst (zIc R (-n))) f i = - zcv (zcst (zIc R n)) f i := by
  rw [zcv_cst, zcv_cst, zIcN]; grind
theorem zcv_zsn {R : Type} [Lean.Grind.CommRing R] (n : Nat) (f : Nat → R) : zcv (zcst (zIc R ((n : Nat) : Int))) f = zcv (zcst (zNc R n)) f := by
  rw [zIcC]
/-- the series are a ring -/
abbrev zSeR (R : Type) [Lean.Grind.CommRing R] : Lean.Grind.CommRing (zSe R) where
  add f g := fun i => f i + g i
  mul f g := zcv f g
  neg f := fun i => - f i
  sub f g := fun i => f i - g i
  natCast := ⟨fun n => zcst (zNc R n)⟩
  intCast := ⟨fun n => zcst (zIc R n)⟩
  ofNat := fun n => ⟨zcst (zNc R n)⟩
  nsmul := ⟨fun n f => zcv (zcst (zNc R n)) f⟩
  zsmul := ⟨fun n f => zcv (zcst (zIc R n)) f⟩
  npow := ⟨fun f n => zpwS f n⟩
  add_zero f := by
    funext i
    show f i + zcst (zNc R 0) i = f i
    cases i with
    | zero => simp only [zcst]; rw [zNc0]; grind
    | succ i => simp only [zcst]; grind
  add_comm f g := by funext i; show f i + g i = g i + f i; grind
  add_assoc f g h := by funext i; show f i + g i + h i = f i + (g i + h i); grind
  mul_assoc f g h := by funext i; exact zcv_assoc g h i f
  mul_one f := by funext i; exact zcv_one f i
  one_mul f := by funext i; exact zcv_one_l f i
  zero_mul f := by funext i; exact zcv_zero f i
  mul_zero f := by funext i; exact (zcv_comm i f _).trans (zcv_zero f i)
  right_distrib f g h := by funext i; exact zcv_addl h i f g
  mul_comm f g := by funext i; exact zcv_comm i f g
  left_distrib f g h := by funext i; exact zcv_addr g h i f
  pow_zero f := by
    show zcst (1 : R) = zcst (zNc R 1)
    rw [zNc1]
  pow_succ f n := rfl
  ofNat_succ n := by
    show zcst (zNc R (n + 1)) = fun i => zcst (zNc R n) i + zcst (zNc R 1) i
    rw [← zcst_add, zNc1, zNcS]
  ofNat_eq_natCast n := rfl
  nsmul_eq_natCast_mul n f := rfl
  neg_add_cancel f := by
    funext i
    show - f i + f i = zcst (zNc R 0) i
    cases i with
    | zero => simp only [zcst]; rw [zNc0]; grind
    | succ i => simp only [zcst]; grind
  sub_eq_add_neg f g := by funext i; show f i - g i = f i + - g i; grind
  neg_zsmul n f := by funext i; exact zcv_zsm n f i
  zsmul_natCast_eq_nsmul n f := zcv_zsn n f
  intCast_ofNat n := by
    show zcst (zIc R (OfNat.ofNat n)) = zcst (zNc R n)
    congr 1
    exact zIcC R n
  intCast_neg n := by
    show zcst (zIc R (-n)) = fun i => - zcst (zIc R n) i
    rw [← zcst_neg, zIcN]
theorem zSe_try (f g h : zSe zF) : @HMul.hMul _ _ _ (@instHMul _ (zSeR zF).toMul) f g = @HMul.hMul _ _ _ (@instHMul _ (zSeR zF).toMul) g f := by
  haveI := zSeR zF
  grind
