/-! a number put for n -/
theorem zcv_map {A R : Type} [Lean.Grind.CommRing A] [Lean.Grind.CommRing R] (ph : A → R) (ha : ∀ a b, ph (a + b) = ph a + ph b) (hm : ∀ a b, ph (a * b) = ph a * ph b) (g : Nat → A) :
    ∀ (i : Nat) (f : Nat → A), ph (zcv f g i) = zcv (fun j => ph (f j)) (fun j => ph (g j)) i
  | 0, f => hm _ _
  | i + 1, f => by
    simp only [zcv]
    rw [ha, hm, zcv_map ph ha hm g i (fun j => f (j + 1))]
theorem zVl_0 {R : Type} [Lean.Grind.CommRing R] (x : R) (f : zPl R) (h : zDg f.1 0) : zVl x f = 0 := by
  rw [zVl_eq x f h]; rfl
/-- x put for n -/
noncomputable def zMp (x : zF) (f : zA2) : zA1 := ⟨fun i => zVl x (f.1 i), by
  obtain ⟨d, hd⟩ := f.2
  refine ⟨d, fun i hi => ?_⟩
  apply zVl_0
  rw [hd i hi]
  exact zA1z_dg⟩
theorem zMp_mul (x : zF) (f g : zA2) : letI := zA1R; letI := zA2R; zMp x (f * g) = zMp x f * zMp x g :=
  zPl_ext (funext fun i => @zcv_map zA1 zF zA1R _ (zVl x) (fun a b => zVl_add x a b) (fun a b => zVl_mul x a b) g.1 i f.1)
theorem zMp_add (x : zF) (f g : zA2) : letI := zA1R; letI := zA2R; zMp x (f + g) = zMp x f + zMp x g :=
  zPl_ext (funext fun i => zVl_add x (f.1 i) (g.1 i))
theorem zMp_dg (x : zF) (f : zA2) (d : Nat) (h : @zDg zA1 zA1R f.1 d) : zDg (zMp x f).1 d := fun i hi => by
  apply zVl_0
  rw [h i hi]
  exact zA1z_dg
theorem zMp_K (x : zF) (r : zA1) : zMp x (@zKo zA1 zA1R r) = zKo (zVl x r) := by
  apply zPl_ext
  funext i
  cases i with
  | zero => rfl
  | succ i => exact zVl_0 x _ zA1z_dg
/-- coprime at all numbers where the remainder is not nothing -/
theorem zMp_cop (x : zF) (f g u v : zA2) (r : zA1) : letI := zA1R; letI := zA2R; zKo r = u * f + v * g → zKo (zVl x r) = zMp x u * zMp x f + zMp x v * zMp x g := by
  intro h
  have h1 := congrArg (zMp x) h
  exact (zMp_K x r).symm.trans (h1.trans ((zMp_add x _ _).trans (by rw [zMp_mul x u f, zMp_mul x v g])))
