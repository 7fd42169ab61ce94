/-! two letters over the numbers modulo P; more unknowns than equations -/
abbrev zA1 : Type := zPl zF
abbrev zA1R : Lean.Grind.CommRing zA1 := zPlR zF
abbrev zA2 : Type := @zPl zA1 zA1R
abbrev zA2R : Lean.Grind.CommRing zA2 := @zPlR zA1 zA1R
theorem zA1_10 : letI := zA1R; (1 : zA1) ≠ 0 := by
  intro h
  have := congrFun (congrArg Subtype.val h) 0
  have h2 : zcst (zNc zF 1) 0 = zcst (zNc zF 0) 0 := this
  rw [zNc1, zNc0] at h2
  exact absurd h2 (by decide)
theorem zStripP {A : Type} [Lean.Grind.CommRing A] 
    (hs : ∀ (s : A) (b q u : Nat → A), s ≠ 0 → zEn q → zEn u → (∀ i, s * b i = zcv q u i) →
      ∃ (c e : A) (q' u' : Nat → A), s = c * e ∧ zEn q' ∧ zEn u' ∧ (∀ i, q i = c * q' i) ∧ (∀ i, u i = e * u' i) ∧ ∀ i, b i = zcv q' u' i) :
    letI := zPlR A
    ∀ (s : A) (b q u : zPl A), s ≠ 0 → zKo s * b = q * u → ∃ (c e : A) (q' u' : zPl A), s = c * e ∧ q = zKo c * q' ∧ u = zKo e * u' ∧ b = q' * u' := by
  intro s b q u h0 h
  have h1 : ∀ i, zcv (zcst s) b.1 i = zcv q.1 u.1 i := fun i => congrFun (congrArg Subtype.val h) i
  obtain ⟨c, e, q', u', a1, a2, a3, a4, a5, a6⟩ := hs s b.1 q.1 u.1 h0 q.2 u.2 (fun i => (zcv_cst s b.1 i).symm.trans (h1 i))
  exact ⟨c, e, ⟨q', a2⟩, ⟨u', a3⟩, a1, zPl_ext (funext fun i => (a4 i).trans (zcv_cst c q' i).symm), zPl_ext (funext fun i => (a5 i).trans (zcv_cst e u' i).symm), zPl_ext (funext a6)⟩
theorem zGcdF (f g : zA2) :
    letI := zA1R
    letI := zA2R
    (f ≠ 0 ∨ g ≠ 0) → ∃ (r : zA1) (G f' g' u v : zA2), r ≠ 0 ∧ f = f' * G ∧ g = g' * G ∧ zKo r = u * f' + v * g' :=
  @zGcd2 zA1 zA1R (fun a b => zPl_dom zF_dom a b) zA1_10 (@zStripP zA1 zA1R zStripF) f g
/-- a sum over the first n -/
def zSm {R : Type} [Lean.Grind.CommRing R] (n : Nat) (f : Nat → R) : R :=
  match n with
  | 0 => 0
  | n + 1 => zSm n f + f n
theorem zSm_ext {R : Type} [Lean.Grind.CommRing R] {f g : Nat → R} : ∀ n, (∀ i, i < n → f i = g i) → zSm n f = zSm n g
  | 0, _ => rfl
  | n + 1, h => by simp only [zSm]; rw [zSm_ext n (fun i hi => h i (by omega)), h n (by omega)]
theorem zSm_add {R : Type} [Lean.Grind.CommRing R] (f g : Nat → R) : ∀ n, zSm n (fun i => f i + g i) = zSm n f + zSm n g
  | 0 => by simp only [zSm]; grind
  | n + 1 => by simp only [zSm]; rw [zSm_add f g n]; grind
theorem zSm_sm {R : Type} [Lean.Grind.CommRing R] (c : R) (f : Nat → R) : ∀ n, zSm n (fun i => c * f i) = c * zSm n f
  | 0 => by simp only [zSm]; grind
  | n + 1 => by simp only [zSm]; rw [zSm_sm c f n]; grind
theorem zSm_z {R : Type} [Lean.Grind.CommRing R] : ∀ n, zSm n (fun _ => (0 : R)) = 0
  | 0 => rfl
  | n + 1 => by simp only [zSm]; rw [zSm_z n]; grind
/-- one unknown taken out of a system -/
theorem zSm_one {R : Type} [Lean.Grind.CommRing R] (f : Nat → R) (c : R) (k : Nat) : ∀ n, k < n → zSm n (fun i => if i = k then c else f i) = zSm n f + (c - f k)
  | 0, h => absurd h (Nat.not_lt_zero k)
  | n + 1, h => by
    simp only [zSm]
    by_cases e : n = k
    · subst e
      have h1 : zSm n (fun i => if i = n then c else f i) = zSm n f := zSm_ext n (fun i hi => if_neg (by omega))
      rw [h1, if_pos rfl]; grind
    · rw [zSm_one f c k n (by omega), if_neg e]; grind
def zSk (k j : Nat) : Nat := if j < k then j else j + 1
theorem zSm_skip {R : Type} [Lean.Grind.CommRing R] (F : Nat → R) (k : Nat) : ∀ n, k ≤ n → zSm (n + 1) F = F k + zSm n (fun j => F (zSk k j))
  | 0, h => by
    have : k = 0 := by omega
    subst this
    simp only [zSm]; grind
  | n + 1, h => by
    by_cases e : k = n + 1
    · subst e
      have h1 : zSm (n + 1) (fun j => F (zSk (n + 1) j)) = zSm (n + 1) F := zSm_ext _ (fun j hj => by
        show F (zSk (n + 1) j) = F j
        rw [zSk, if_pos hj])
      rw [h1]
      have h2 : zSm (n + 1 + 1) F = zSm (n + 1) F + F (n + 1) := rfl
      rw [h2]; grind
    · have h2 : zSm (n + 1 + 1) F = zSm (n + 1) F + F (n + 1) := rfl
      have h3 : zSm (n + 1) (fun j => F (zSk k j)) = zSm n (fun j => F (zSk k j)) + F (zSk k n) := rfl
      have h4 : zSk k n = n + 1 := if_neg (by omega)
      rw [h2, zSm_skip F k n (by omega), h3, h4]; grind
/-- m equations in more than m unknowns have an answer that is not nothing -/
theorem zLin {R : Type} [Lean.Grind.CommRing R] (hinv : ∀ x : R, x ≠ 0 → ∃ y, x * y = 1) (h10 : (1 : R) ≠ 0) :
    ∀ (m n : Nat) (M : Nat → Nat → R), m < n → ∃ x : Nat → R, (∃ j, j < n ∧ x j ≠ 0) ∧ (∀ j, n ≤ j → x j = 0) ∧ ∀ i, i < m → zSm n (fun j => M i j * x j) = 0
  | 0, n, M, h => ⟨fun j => if j = 0 then 1 else 0, ⟨0, h, by simp [h10]⟩, fun j hj => if_neg (by omega), fun i hi => absurd hi (Nat.not_lt_zero i)⟩
  | m + 1, 0, M, h => absurd h (Nat.not_lt_zero _)
  | m + 1, n + 1, M, h => by
    by_cases hz : ∀ j, j < n + 1 → M m j = 0
    · obtain ⟨x, h1, h2, h3⟩ := zLin hinv h10 m (n + 1) M (by omega)
      refine ⟨x, h1, h2, fun i hi => ?_⟩
      by_cases e : i = m
      · subst e
        rw [zSm_ext (g := fun _ => 0) (n + 1) (fun j hj => by rw [hz j hj]; grind), zSm_z]
      · exact h3 i (by omega)
    · have hz' : ∃ k, k < n + 1 ∧ M m k ≠ 0 := by
        apply Classical.byContradiction
        intro hc
        apply hz
        intro j hj
        apply Classical.byContradiction
        intro hne
        exact hc ⟨j, hj, hne⟩
      obtain ⟨k, hk, nk⟩ := hz'
      obtain ⟨y, hy⟩ := hinv _ nk
      obtain ⟨x, ⟨j0, hj0, nj0⟩, h2, h3⟩ := zLin hinv h10 m n (fun i j => M i (zSk k j) - M i k * y * M m (zSk k j)) (by omega)
      generalize hT : zSm n (fun j => M m (zSk k j) * x j) = T
      have hx : ∀ j, (fun j => if j < k then x j else if j = k then - (y * T) else x (j - 1)) (zSk k j) = x j := by
        intro j
        show (if zSk k j < k then x (zSk k j) else if zSk k j = k then - (y * T) else x (zSk k j - 1)) = x j
        by_cases e : j < k
        · rw [zSk, if_pos e, if_pos e]
        · rw [zSk, if_neg e, if_neg (by omega), if_neg (by omega), Nat.add_sub_cancel]
      have hk0 : (fun j => if j < k then x j else if j = k then - (y * T) else x (j - 1)) k = - (y * T) := by
        show (if k < k then x k else if k = k then - (y * T) else x (k - 1)) = - (y * T)
        rw [if_neg (Nat.lt_irrefl k), if_pos rfl]
      generalize hX : (fun j => if j < k then x j else if j = k then - (y * T) else x (j - 1)) = X at hx hk0
      refine ⟨X, ⟨zSk k j0, ?_, ?_⟩, ?_, ?_⟩
      · rw [zSk]; split <;> omega
      · rw [hx]; exact nj0
      · intro j hj
        rw [← hX]
        show (if j < k then x j else if j = k then - (y * T) else x (j - 1)) = 0
        rw [if_neg (by omega), if_neg (by omega)]
        exact h2 (j - 1) (by omega)
      · intro i hi
        rw [zSm_skip _ k n (by omega)]
        have e1 : zSm n (fun j => M i (zSk k j) * X (zSk k j)) = zSm n (fun j => M i (zSk k j) * x j) := zSm_ext _ (fun j _ => by rw [hx])
        show M i k * X k + zSm n (fun j => M i (zSk k j) * X (zSk k j)) = 0
        rw [e1, hk0]
        by_cases e : i = m
        · subst e
          rw [hT]; grind
        · have h5 := h3 i (by omega)
          have h6 : (fun j => (M i (zSk k j) - M i k * y * M m (zSk k j)) * x j) = (fun j => M i (zSk k j) * x j + (- (M i k * y)) * (M m (zSk k j) * x j)) := by
            funext j; grind
          rw [h6, zSm_add, zSm_sm, hT] at h5
          grind
