/-! the same for linear maps; what coprime polynomials leave over is small -/
theorem zL_zero {R : Type} [Lean.Grind.CommRing R] (L : (Nat → R) → R) (hs : ∀ c x, L (fun j => c * x j) = c * L x) : L (fun _ => 0) = 0 := by
  have h := hs 0 (fun _ => 0)
  have e : (fun _ : Nat => (0 : R) * 0) = fun _ => 0 := by funext i; grind
  rw [e] at h
  rw [h]; grind
theorem zL_sum {R : Type} [Lean.Grind.CommRing R] (L : (Nat → R) → R) (ha : ∀ x y, L (fun j => x j + y j) = L x + L y) (hs : ∀ c x, L (fun j => c * x j) = c * L x) :
    ∀ (n : Nat) (x : Nat → R), (∀ j, n ≤ j → x j = 0) → L x = zSm n (fun j => L (zmon 1 j) * x j)
  | 0, x, h => by
    have e : x = fun _ => 0 := funext fun i => h i (Nat.zero_le i)
    rw [e, zL_zero L hs]; rfl
  | n + 1, x, h => by
    have e : x = fun j => (if j = n then 0 else x j) + x n * zmon 1 n j := by
      funext j
      by_cases hj : j = n
      · subst hj; simp only [zmon, if_pos]; grind
      · simp only [zmon, if_neg hj]; grind
    have h1 := zL_sum L ha hs n (fun j => if j = n then 0 else x j) (fun j hj => by
      by_cases e : j = n
      · exact if_pos e
      · show (if j = n then 0 else x j) = 0
        rw [if_neg e]; exact h j (by omega))
    have h2 : L x = L (fun j => if j = n then 0 else x j) + x n * L (zmon 1 n) := by
      rw [← hs, ← ha]; exact congrArg L e
    have h3 : zSm n (fun j => L (zmon 1 j) * (if j = n then 0 else x j)) = zSm n (fun j => L (zmon 1 j) * x j) := zSm_ext n (fun j hj => by rw [if_neg (by omega)])
    have h4 : zSm (n + 1) (fun j => L (zmon 1 j) * x j) = zSm n (fun j => L (zmon 1 j) * x j) + L (zmon 1 n) * x n := rfl
    rw [h2, h1, h3, h4]; grind
theorem zLinL {R : Type} [Lean.Grind.CommRing R] (hinv : ∀ x : R, x ≠ 0 → ∃ y, x * y = 1) (h10 : (1 : R) ≠ 0)
    (m n : Nat) (L : Nat → (Nat → R) → R) (ha : ∀ i x y, L i (fun j => x j + y j) = L i x + L i y) (hs : ∀ i c x, L i (fun j => c * x j) = c * L i x) (h : m < n) :
    ∃ x : Nat → R, (∃ j, j < n ∧ x j ≠ 0) ∧ (∀ j, n ≤ j → x j = 0) ∧ ∀ i, i < m → L i x = 0 := by
  obtain ⟨x, h1, h2, h3⟩ := zLin hinv h10 m n (fun i j => L i (zmon 1 j)) h
  exact ⟨x, h1, h2, fun i hi => by rw [zL_sum (L i) (ha i) (hs i) n x h2]; exact h3 i hi⟩
/-- coprime: no smaller pair kills them -/
theorem zCop {A B : Type} [Lean.Grind.CommRing A] [Lean.Grind.CommRing B] (hB : ∀ a b : B, a * b = 0 → a = 0 ∨ b = 0)
    (D : B → Nat → Prop) (ka : A → B) (hz : ∀ a, ka a = 0 → a = 0) (hD : ∀ (c : A) (u : B) n, D u n → D (ka c * u) n)
    (hmul : ∀ (g w : B) n, ¬ D g n → D (g * w) n → w = 0)
    {f g U V u v : B} {r : A} (r0 : r ≠ 0) (h1 : ka r = U * f + V * g) (h2 : u * f + v * g = 0) (n : Nat) (hg : ¬ D g n) (hu : D u n) (g0 : g ≠ 0) :
    u = 0 ∧ v = 0 := by
  have k0 : ka r ≠ 0 := fun z => r0 (hz _ z)
  have h3 : ka r * u = g * (V * u - U * v) := by grind
  have h4 : V * u - U * v = 0 := hmul g _ n hg (by rw [← h3]; exact hD r u n hu)
  have h5 : ka r * u = 0 := by rw [h3, h4]; grind
  have u0 : u = 0 := by
    rcases hB _ _ h5 with h | h
    · exact absurd h k0
    · exact h
  refine ⟨u0, ?_⟩
  have h6 : v * g = 0 := by rw [u0] at h2; grind
  rcases hB _ _ h6 with h | h
  · exact h
  · exact absurd h g0
