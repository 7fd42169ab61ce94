/-! the value of a polynomial at a number -/
def zvl {R : Type} [Lean.Grind.CommRing R] (x : R) : Nat → (Nat → R) → R
  | 0, _ => 0
  | n + 1, f => f 0 + x * zvl x n (fun j => f (j + 1))
theorem zvl_z {R : Type} [Lean.Grind.CommRing R] (x : R) : ∀ n, zvl x n (fun _ => 0) = 0
  | 0 => rfl
  | n + 1 => by simp only [zvl]; rw [zvl_z x n]; grind
theorem zvl_add {R : Type} [Lean.Grind.CommRing R] (x : R) : ∀ n (f g : Nat → R), zvl x n (fun i => f i + g i) = zvl x n f + zvl x n g
  | 0, f, g => by simp only [zvl]; grind
  | n + 1, f, g => by simp only [zvl]; rw [zvl_add x n (fun j => f (j + 1)) (fun j => g (j + 1))]; grind
theorem zvl_sm {R : Type} [Lean.Grind.CommRing R] (x c : R) : ∀ n (f : Nat → R), zvl x n (fun i => c * f i) = c * zvl x n f
  | 0, f => by simp only [zvl]; grind
  | n + 1, f => by simp only [zvl]; rw [zvl_sm x c n (fun j => f (j + 1))]; grind
theorem zvl_mono {R : Type} [Lean.Grind.CommRing R] (x : R) : ∀ d n (f : Nat → R), zDg f d → d ≤ n → zvl x n f = zvl x d f
  | 0, n, f, h, _ => by rw [zDg_0 h, zvl_z, zvl_z]
  | d + 1, 0, f, h, hn => absurd hn (by omega)
  | d + 1, n + 1, f, h, hn => by
    simp only [zvl]
    rw [zvl_mono x d n (fun j => f (j + 1)) (fun i hi => h (i + 1) (by omega)) (by omega)]
theorem zvl_mul {R : Type} [Lean.Grind.CommRing R] (x : R) {g : Nat → R} {b : Nat} (hg : zDg g b) : ∀ a (f : Nat → R), zDg f a → zvl x (a + b) (zcv f g) = zvl x a f * zvl x b g
  | 0, f, h => by
    have e : zcv f g = fun _ => 0 := by
      funext i
      rw [zDg_0 h, zcv_zl]
    rw [e, zvl_z]; simp only [zvl]; grind
  | a + 1, f, h => by
    have e : a + 1 + b = a + b + 1 := by omega
    have h1 : zvl x (a + b + 1) (zcv f g) = f 0 * g 0 + x * zvl x (a + b) (fun j => f 0 * g (j + 1) + zcv (fun m => f (m + 1)) g j) := rfl
    have h2 := zvl_mul x hg a (fun m => f (m + 1)) (fun i hi => h (i + 1) (by omega))
    have h3 : zvl x (a + b + 1) g = g 0 + x * zvl x (a + b) (fun j => g (j + 1)) := rfl
    have h4 := zvl_mono x b (a + b + 1) g hg (by omega)
    have h5 : zvl x (a + 1) f = f 0 + x * zvl x a (fun m => f (m + 1)) := rfl
    rw [e, h1, zvl_add x (a + b) (fun j => f 0 * g (j + 1)) (zcv (fun m => f (m + 1)) g), zvl_sm x (f 0) (a + b) (fun j => g (j + 1)), h2, h5, ← h4, h3]
    grind
/-- the value of a polynomial -/
noncomputable def zVl {R : Type} [Lean.Grind.CommRing R] (x : R) (f : zPl R) : R := zvl x (Classical.choose f.2) f.1
theorem zVl_eq {R : Type} [Lean.Grind.CommRing R] (x : R) (f : zPl R) {d : Nat} (h : zDg f.1 d) : zVl x f = zvl x d f.1 := by
  have h1 := Classical.choose_spec f.2
  unfold zVl
  generalize Classical.choose f.2 = e at h1
  rcases Nat.le_total e d with h2 | h2
  · exact (zvl_mono x e d f.1 h1 h2).symm
  · exact zvl_mono x d e f.1 h h2
theorem zVl_mul {R : Type} [Lean.Grind.CommRing R] (x : R) (f g : zPl R) : letI := zPlR R; zVl x (f * g) = zVl x f * zVl x g := by
  obtain ⟨a, ha⟩ := f.2
  obtain ⟨b, hb⟩ := g.2
  exact (zVl_eq x _ (zDg_cv ha hb)).trans ((zvl_mul x hb a f.1 ha).trans (by rw [zVl_eq x f ha, zVl_eq x g hb]))
theorem zVl_add {R : Type} [Lean.Grind.CommRing R] (x : R) (f g : zPl R) : letI := zPlR R; zVl x (f + g) = zVl x f + zVl x g := by
  obtain ⟨a, ha⟩ := f.2
  obtain ⟨b, hb⟩ := g.2
  have ha' := zDg_mono ha (Nat.le_add_right a b)
  have hb' := zDg_mono hb (Nat.le_add_left b a)
  exact (zVl_eq x _ (zDg_add ha' hb')).trans ((zvl_add x (a + b) f.1 g.1).trans (by rw [zVl_eq x f ha', zVl_eq x g hb']))
