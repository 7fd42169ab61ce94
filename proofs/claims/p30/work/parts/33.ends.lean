/-! series that end: polynomials -/
/-- f has nothing at d and above -/
def zDg {R : Type} [Lean.Grind.CommRing R] (f : Nat → R) (d : Nat) : Prop := ∀ i, d ≤ i → f i = 0
theorem zDg_mono {R : Type} [Lean.Grind.CommRing R] {f : Nat → R} {d e : Nat} (h : zDg f d) (he : d ≤ e) : zDg f e := fun i hi => h i (Nat.le_trans he hi)
theorem zDg_S {R : Type} [Lean.Grind.CommRing R] {f : Nat → R} {d : Nat} (h : zDg f d) : zDg (fun j => f (j + 1)) (d - 1) := fun i hi => h (i + 1) (by omega)
theorem zDg_0 {R : Type} [Lean.Grind.CommRing R] {f : Nat → R} (h : zDg f 0) : f = fun _ => 0 := funext fun i => h i (Nat.zero_le i)
theorem zDg_mul {R : Type} [Lean.Grind.CommRing R] {g : Nat → R} {b : Nat} (hg : zDg g b) : ∀ (i a : Nat) (f : Nat → R), zDg f a → a + b ≤ i + 1 → zcv f g i = 0
  | 0, a, f, hf, h => by
    show f 0 * g 0 = 0
    by_cases ha : a = 0
    · rw [hf 0 (by omega)]; grind
    · rw [hg 0 (by omega)]; grind
  | i + 1, a, f, hf, h => by
    by_cases ha : a = 0
    · subst ha
      rw [zDg_0 hf, zcv_zl]
    · show f 0 * g (i + 1) + zcv (fun j => f (j + 1)) g i = 0
      rw [hg (i + 1) (by omega), zDg_mul hg i (a - 1) (fun j => f (j + 1)) (zDg_S hf) (by omega)]
      grind
theorem zDg_top {R : Type} [Lean.Grind.CommRing R] {g : Nat → R} {b : Nat} (hg : zDg g (b + 1)) : ∀ (a : Nat) (f : Nat → R), zDg f (a + 1) → zcv f g (a + b) = f a * g b
  | 0, f, hf => by
    rw [Nat.zero_add]
    cases b with
    | zero => rfl
    | succ b =>
      show f 0 * g (b + 1) + zcv (fun j => f (j + 1)) g b = _
      have e : (fun j => f (j + 1)) = (fun _ => (0 : R)) := funext fun j => hf (j + 1) (by omega)
      rw [e, zcv_zl]; grind
  | a + 1, f, hf => by
    have e : a + 1 + b = (a + b) + 1 := by omega
    rw [e]
    show f 0 * g (a + b + 1) + zcv (fun j => f (j + 1)) g (a + b) = _
    rw [hg (a + b + 1) (by omega), zDg_top hg a (fun j => f (j + 1)) (fun i hi => hf (i + 1) (by omega))]
    grind
theorem zDg_add {R : Type} [Lean.Grind.CommRing R] {f g : Nat → R} {d : Nat} (hf : zDg f d) (hg : zDg g d) : zDg (fun i => f i + g i) d := fun i hi => by
  show f i + g i = 0
  rw [hf i hi, hg i hi]; grind
theorem zDg_sub {R : Type} [Lean.Grind.CommRing R] {f g : Nat → R} {d : Nat} (hf : zDg f d) (hg : zDg g d) : zDg (fun i => f i - g i) d := fun i hi => by
  show f i - g i = 0
  rw [hf i hi, hg i hi]; grind
theorem zDg_neg {R : Type} [Lean.Grind.CommRing R] {f : Nat → R} {d : Nat} (hf : zDg f d) : zDg (fun i => - f i) d := fun i hi => by
  show - f i = 0
  rw [hf i hi]; grind
theorem zDg_cst {R : Type} [Lean.Grind.CommRing R] (c : R) : zDg (zcst c) 1 := fun i hi => by
  cases i with
  | zero => omega
  | succ i => rfl
theorem zDg_cv {R : Type} [Lean.Grind.CommRing R] {f g : Nat → R} {a b : Nat} (hf : zDg f a) (hg : zDg g b) : zDg (zcv f g) (a + b) := fun i hi => zDg_mul hg i a f hf (by omega)
/-- it ends -/
def zEn {R : Type} [Lean.Grind.CommRing R] (f : zSe R) : Prop := ∃ d, zDg f d
theorem zEn_add {R : Type} [Lean.Grind.CommRing R] {f g : Nat → R} : zEn f → zEn g → zEn (R := R) (fun i => f i + g i)
  | ⟨a, ha⟩, ⟨b, hb⟩ => ⟨a + b, zDg_add (zDg_mono ha (by omega)) (zDg_mono hb (by omega))⟩
theorem zEn_sub {R : Type} [Lean.Grind.CommRing R] {f g : Nat → R} : zEn f → zEn g → zEn (R := R) (fun i => f i - g i)
  | ⟨a, ha⟩, ⟨b, hb⟩ => ⟨a + b, zDg_sub (zDg_mono ha (by omega)) (zDg_mono hb (by omega))⟩
theorem zEn_neg {R : Type} [Lean.Grind.CommRing R] {f : Nat → R} : zEn f → zEn (R := R) (fun i => - f i)
  | ⟨a, ha⟩ => ⟨a, zDg_neg ha⟩
theorem zEn_cst {R : Type} [Lean.Grind.CommRing R] (c : R) : zEn (R := R) (zcst c) := ⟨1, zDg_cst c⟩
theorem zEn_cv {R : Type} [Lean.Grind.CommRing R] {f g : Nat → R} : zEn f → zEn g → zEn (R := R) (zcv f g)
  | ⟨a, ha⟩, ⟨b, hb⟩ => ⟨a + b, zDg_cv ha hb⟩
theorem zEn_pw {R : Type} [Lean.Grind.CommRing R] {f : Nat → R} (h : zEn f) : ∀ n, zEn (R := R) (zpwS f n)
  | 0 => zEn_cst 1
  | n + 1 => zEn_cv (zEn_pw h n) h
/-- polynomials in one letter over R -/
def zPl (R : Type) [Lean.Grind.CommRing R] : Type := { f : zSe R // zEn f }
theorem zPl_ext {R : Type} [Lean.Grind.CommRing R] {f g : zPl R} (h : f.1 = g.1) : f = g := Subtype.ext h
abbrev zPlR (R : Type) [Lean.Grind.CommRing R] : Lean.Grind.CommRing (zPl R) where
  add f g := ⟨fun i => f.1 i + g.1 i, zEn_add f.2 g.2⟩
  mul f g := ⟨zcv f.1 g.1, zEn_cv f.2 g.2⟩
  neg f := ⟨fun i => - f.1 i, zEn_neg f.2⟩
  sub f g := ⟨fun i => f.1 i - g.1 i, zEn_sub f.2 g.2⟩
  natCast := ⟨fun n => ⟨zcst (zNc R n), zEn_cst _⟩⟩
  intCast := ⟨fun n => ⟨zcst (zIc R n), zEn_cst _⟩⟩
  ofNat := fun n => ⟨⟨zcst (zNc R n), zEn_cst _⟩⟩
  nsmul := ⟨fun n f => ⟨zcv (zcst (zNc R n)) f.1, zEn_cv (zEn_cst _) f.2⟩⟩
  zsmul := ⟨fun n f => ⟨zcv (zcst (zIc R n)) f.1, zEn_cv (zEn_cst _) f.2⟩⟩
  npow := ⟨fun f n => ⟨zpwS f.1 n, zEn_pw f.2 n⟩⟩
  add_zero f := zPl_ext ((zSeR R).add_zero f.1)
  add_comm f g := zPl_ext ((zSeR R).add_comm f.1 g.1)
  add_assoc f g h := zPl_ext ((zSeR R).add_assoc f.1 g.1 h.1)
  mul_assoc f g h := zPl_ext ((zSeR R).mul_assoc f.1 g.1 h.1)
  mul_one f := zPl_ext ((zSeR R).mul_one f.1)
  one_mul f := zPl_ext ((zSeR R).one_mul f.1)
  zero_mul f := zPl_ext ((zSeR R).zero_mul f.1)
  mul_zero f := zPl_ext ((zSeR R).mul_zero f.1)
  mul_comm f g := zPl_ext ((zSeR R).mul_comm f.1 g.1)
  left_distrib f g h := zPl_ext ((zSeR R).left_distrib f.1 g.1 h.1)
  right_distrib f g h := zPl_ext ((zSeR R).right_distrib f.1 g.1 h.1)
  pow_zero f := zPl_ext ((zSeR R).pow_zero f.1)
  pow_succ f n := rfl
  ofNat_succ n := zPl_ext ((zSeR R).ofNat_succ n)
  ofNat_eq_natCast n := rfl
  nsmul_eq_natCast_mul n f := rfl
  neg_add_cancel f := zPl_ext ((zSeR R).neg_add_cancel f.1)
  sub_eq_add_neg f g := zPl_ext ((zSeR R).sub_eq_add_neg f.1 g.1)
  neg_zsmul n f := zPl_ext ((zSeR R).neg_zsmul n f.1)
  zsmul_natCast_eq_nsmul n f := zPl_ext ((zSeR R).zsmul_natCast_eq_nsmul n f.1)
  intCast_ofNat n := zPl_ext ((zSeR R).intCast_ofNat n)
  intCast_neg n := zPl_ext ((zSeR R).intCast_neg n)
/-- two letters -/
abbrev zP2R (R : Type) [Lean.Grind.CommRing R] : Lean.Grind.CommRing (@zPl (zPl R) (zPlR R)) := @zPlR (zPl R) (zPlR R)
