/-! two letters over the numbers modulo P; more unknowns than equations -/
abbrev zA1 : Type := zPl zF
abbrev zA1R : Lean.Grind.CommRing zA1 := zPlR zF
abbrev zA2 : Type := @zPl zA1 zA1R
abbrev zA2R : Lean.Grind.CommRing zA2 := @zPlR zA1 zA1R
theorem zA1_10 : letI := zA1R; (1 : zA1) ≠ 0 := by
  intro h
  have := congrFun (congrArg Subtype.val h) 0
  have h2 : zcst (zNc zF 1) 0 = zcst (zNc zF 0) 0 := this
  rw [zNc1, zNc0] at h2
  exact absurd h2 (by decide)
theorem zStripP {A : Type} [Lean.Grind.CommRing A] 
    (hs : ∀ (s : A) (b q u : Nat → A), s ≠ 0 → zEn q → zEn u → (∀ i, s * b i = zcv q u i) →
      ∃ (c e : A) (q' u' : Nat → A), s = c * e ∧ zEn q' ∧ zEn u' ∧ (∀ i, q i = c * q' i) ∧ (∀ i, u i = e * u' i) ∧ ∀ i, b i = zcv q' u' i) :
    letI := zPlR A
    ∀ (s : A) (b q u : zPl A), s ≠ 0 → zKo s * b = q * u → ∃ (c e : A) (q' u' : zPl A), s = c * e ∧ q = zKo c * q' ∧ u = zKo e * u' ∧ b = q' * u' := by
  intro s b q u h0 h
  have h1 : ∀ i, zcv (zcst s) b.1 i = zcv q.1 u.1 i := fun i => congrFun (congrArg Subtype.val h) i
  obtain ⟨c, e, q', u', a1, a2, a3, a4, a5, a6⟩ := hs s b.1 q.1 u.1 h0 q.2 u.2 (fun i => (zcv_cst s b.1 i).symm.trans (h1 i))
  exact ⟨c, e, ⟨q', a2⟩, ⟨u', a3⟩, a1, zPl_ext (funext fun i => (a4 i).trans (zcv_cst c q' i).symm), zPl_ext (funext fun i => (a5 i).trans (zcv_cst e u' i).symm), zPl_ext (funext a6)⟩
theorem zGcdF (f g : zA2) :
    letI := zA1R
    letI := zA2R
    (f ≠ 0 ∨ g ≠ 0) → ∃ (r : zA1) (G f' g' u v : zA2), r ≠ 0 ∧ f = f' * G ∧ g = g' * G ∧ zKo r = u * f' + v * g' :=
  @zGcd2 zA1 zA1R (fun a b => zPl_dom zF_dom a b) zA1_10 (@zStripP zA1 zA1R zStripF) f g
/-- a sum over the first n -/
def zSm {R : Type} [Lean.Grind.CommRing R] (n : Nat) (f : Nat → R) : R :=
  match n with
  | 0 => 0
  | n + 1 => zSm n f + f n
theorem zSm_ext {R : Type} [Lean.Grind.CommRing R] {f g : Nat → R} : ∀ n, (∀ i, i < n → f i = g i) → zSm n f = zSm n g
  | 0, _ => rfl
  | n + 1, h => by simp only [zSm]; rw [zSm_ext n (fun i hi => h i (by omega)), h n (by omega)]
theorem zSm_add {R : Type} [Lean.Grind.CommRing R] (f g : Nat → R) : ∀ n, zSm n (fun i => f i + g i) = zSm n f + zSm n g
  | 0 => by simp only [zSm]; grind
  | n + 1 => by simp only [zSm]; rw [zSm_add f g n]; grind
theorem zSm_sm {R : Type} [Lean.Grind.CommRing R] (c : R) (f : Nat → R) : ∀ n, zSm n (fun i => c * f i) = c * zSm n f
  | 0 => by simp only [zSm]; grind
  | n + 1 => by simp only [zSm]; rw [zSm_sm c f n]; grind
theorem zSm_z {R : Type} [Lean.Grind.CommRing R] : ∀ n, zSm n (fun _ => (0 : R)) = 0
  | 0 => rfl
  | n + 1 => by simp only [zSm]; rw [zSm_z n]; grind
/-- one unknown taken out of a system -/
theorem zSm_one {R : Type} [Lean.Grind.CommRing R] (f : Nat → R) (c : R) (k : Nat) : ∀ n, k < n → zSm n (fun i => if i = k then c else f i) = zSm n f + (c - f k)
  | 0, h => absurd h (Nat.not_lt_zero k)
  | n + 1, h => by
    simp only [zSm]
    by_cases e : n = k
    · subst e
      have h1 : zSm n (fun i => if i = n then c else f i) = zSm n f := zSm_ext n (fun i hi => if_neg (by omega))
      rw [h1, if_pos rfl]; grind
    · rw [zSm_one f c k n (by omega), if_neg e]; grind
