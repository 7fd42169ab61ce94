/-! primes, Gauss's lemma -/
def zDv {A : Type} [Lean.Grind.CommRing A] (p x : A) : Prop := ∃ c, x = p * c
theorem zDv_0 {A : Type} [Lean.Grind.CommRing A] (p : A) : zDv p 0 := ⟨0, by grind⟩
theorem zDv_add {A : Type} [Lean.Grind.CommRing A] {p x y : A} : zDv p x → zDv p y → zDv p (x + y)
  | ⟨a, ha⟩, ⟨b, hb⟩ => ⟨a + b, by grind⟩
theorem zDv_mull {A : Type} [Lean.Grind.CommRing A] {p x : A} (y : A) : zDv p x → zDv p (x * y)
  | ⟨a, ha⟩ => ⟨a * y, by grind⟩
theorem zDv_mulr {A : Type} [Lean.Grind.CommRing A] {p x : A} (y : A) : zDv p x → zDv p (y * x)
  | ⟨a, ha⟩ => ⟨a * y, by grind⟩
theorem zDv_trans {A : Type} [Lean.Grind.CommRing A] {p q x : A} : zDv p q → zDv q x → zDv p x
  | ⟨a, ha⟩, ⟨b, hb⟩ => ⟨a * b, by grind⟩
theorem zdv_all {R : Type} [Lean.Grind.CommRing R] (p : R) (g : Nat → R) : ∀ (i : Nat) (f : Nat → R), (∀ i, zDv p (f i)) → zDv p (zcv f g i)
  | 0, f, h => zDv_mull _ (h 0)
  | i + 1, f, h => zDv_add (zDv_mull _ (h 0)) (zdv_all p g i (fun j => f (j + 1)) (fun j => h (j + 1)))
theorem zdv_top {R : Type} [Lean.Grind.CommRing R] (p : R) {g : Nat → R} {b : Nat} (hg : ∀ i, b < i → zDv p (g i)) : ∀ (a : Nat) (f : Nat → R), (∀ i, a < i → zDv p (f i)) → ∃ c, zcv f g (a + b) = f a * g b + p * c
  | 0, f, hf => by
    rw [Nat.zero_add]
    cases b with
    | zero => exact ⟨0, by simp only [zcv]; grind⟩
    | succ b =>
      obtain ⟨c, hc⟩ := zdv_all p g b (fun j => f (j + 1)) (fun j => hf (j + 1) (by omega))
      exact ⟨c, by simp only [zcv]; rw [hc]⟩
  | a + 1, f, hf => by
    have e : a + 1 + b = (a + b) + 1 := by omega
    obtain ⟨c, hc⟩ := zdv_top p hg a (fun j => f (j + 1)) (fun i hi => hf (i + 1) (by omega))
    obtain ⟨d, hd⟩ := hg (a + b + 1) (by omega)
    refine ⟨f 0 * d + c, ?_⟩
    rw [e]
    show f 0 * g (a + b + 1) + zcv (fun j => f (j + 1)) g (a + b) = _
    rw [hc, hd]
    grind
theorem zdv_least {R : Type} [Lean.Grind.CommRing R] {p : R} {f : Nat → R} : ∀ d, (∀ i, d ≤ i → zDv p (f i)) → ¬ (∀ i, zDv p (f i)) → ∃ a, (∀ i, a < i → zDv p (f i)) ∧ ¬ zDv p (f a)
  | 0, h, h0 => absurd (fun i => h i (Nat.zero_le i)) h0
  | d + 1, h, h0 => by
    by_cases e : zDv p (f d)
    · apply zdv_least d _ h0
      intro i hi
      by_cases hd : i = d
      · rw [hd]; exact e
      · exact h i (by omega)
    · exact ⟨d, fun i hi => h i hi, e⟩
theorem zGauss {R : Type} [Lean.Grind.CommRing R] {p : R} (hp : ∀ x y, zDv p (x * y) → zDv p x ∨ zDv p y) {f g : Nat → R} (hf : zEn f) (hg : zEn g) (h : ∀ i, zDv p (zcv f g i)) : (∀ i, zDv p (f i)) ∨ (∀ i, zDv p (g i)) := by
  by_cases h1 : ∀ i, zDv p (f i)
  · exact Or.inl h1
  by_cases h2 : ∀ i, zDv p (g i)
  · exact Or.inr h2
  exfalso
  obtain ⟨d, hd⟩ := hf
  obtain ⟨e, he⟩ := hg
  obtain ⟨a, ha, na⟩ := zdv_least d (fun i hi => by rw [hd i hi]; exact zDv_0 p) h1
  obtain ⟨b, hb, nb⟩ := zdv_least e (fun i hi => by rw [he i hi]; exact zDv_0 p) h2
  obtain ⟨c, hc⟩ := zdv_top p hb a f ha
  obtain ⟨c', hc'⟩ := h (a + b)
  rcases hp (f a) (g b) ⟨c' - c, by grind⟩ with h3 | h3
  · exact na h3
  · exact nb h3
/-- a prime: no unit, and it divides a factor of what it divides -/
def zPrm {A : Type} [Lean.Grind.CommRing A] (p : A) : Prop := (¬ ∃ z, p * z = 1) ∧ ∀ x y, zDv p (x * y) → zDv p x ∨ zDv p y
theorem zPrm_has {A : Type} [Lean.Grind.CommRing A] (D : A → Nat → Prop) (h0 : ∀ a, D a 0 → a = 0)
    (hbez : ∀ f g : A, ∃ d u v s t : A, d = u * f + v * g ∧ f = s * d ∧ g = t * d)
    (hdeg : ∀ (x y : A) n, D (x * y) (n + 1) → x * y ≠ 0 → (¬ ∃ z, y * z = 1) → D x n) :
    ∀ n s, D s n → s ≠ 0 → (¬ ∃ z, s * z = 1) → ∃ p, zPrm p ∧ zDv p s
  | 0, s, hs, n0, _ => absurd (h0 s hs) n0
  | n + 1, s, hs, n0, nu => by
    by_cases hi : ∃ x y, s = x * y ∧ (¬ ∃ z, x * z = 1) ∧ (¬ ∃ z, y * z = 1)
    · obtain ⟨x, y, e, hx, hy⟩ := hi
      have hd := hdeg x y n (by rw [← e]; exact hs) (by rw [← e]; exact n0) hy
      obtain ⟨p, hp, hd⟩ := zPrm_has D h0 hbez hdeg n x hd (by intro z; apply n0; rw [e, z]; grind) hx
      exact ⟨p, hp, by rw [e]; exact zDv_mull _ hd⟩
    · refine ⟨s, ⟨nu, ?_⟩, ⟨1, by grind⟩⟩
      intro x y hxy
      obtain ⟨c, hc⟩ := hxy
      obtain ⟨d, u, v, a, b, h1, h2, h3⟩ := hbez s x
      by_cases ha : ∃ z, a * z = 1
      · obtain ⟨z, hz⟩ := ha
        exact Or.inl ⟨z * b, by grind⟩
      · by_cases hd : ∃ z, d * z = 1
        · obtain ⟨z, hz⟩ := hd
          exact Or.inr ⟨z * (u * y + v * c), by grind⟩
        · exact absurd ⟨a, d, h2, ha, hd⟩ hi
theorem zS_unit {R : Type} [Lean.Grind.CommRing R] {f : Nat → R} {c : R} (h : zDg f 1) (hc : f 0 * c = 1) (i : Nat) : zcv f (zcst c) i = zcst (zNc R 1) i := by
  rw [zcv_comm, zcv_cst, zNc1]
  cases i with
  | zero => show c * f 0 = 1; grind
  | succ i => rw [h (i + 1) (by omega)]; show c * 0 = 0; grind
theorem zPl_unit {R : Type} [Lean.Grind.CommRing R] {y : zPl R} {c : R} (h : zDg y.1 1) (hc : y.1 0 * c = 1) :
    letI := zPlR R
    ∃ z, y * z = 1 :=
  ⟨⟨zcst c, zEn_cst c⟩, zPl_ext (funext fun i => zS_unit h hc i)⟩
theorem zPl_zero {R : Type} [Lean.Grind.CommRing R] {x : zPl R} : letI := zPlR R; zDg x.1 0 → x = 0 := by
  intro h
  apply zPl_ext
  rw [zDg_0 h]
  funext i
  show (0 : R) = zcst (zNc R 0) i
  rw [zNc0, zcst_zero]
theorem zPl_hdeg {R : Type} [Lean.Grind.CommRing R] (hR : ∀ a b : R, a * b = 0 → a = 0 ∨ b = 0) (hinv : ∀ x : R, x ≠ 0 → ∃ y, x * y = 1) (x y : zPl R) (n : Nat) :
    letI := zPlR R
    zDg (x * y).1 (n + 1) → x * y ≠ 0 → (¬ ∃ z, y * z = 1) → zDg x.1 n := by
  intro h hn hu
  haveI := zPlR R
  have hx : ¬ zDg x.1 0 := fun z => hn (by rw [zPl_zero z]; exact (zPlR R).zero_mul y)
  have hy : ¬ zDg y.1 0 := fun z => hn (by rw [zPl_zero z]; exact (zPlR R).mul_zero x)
  obtain ⟨d, hd⟩ := x.2
  obtain ⟨e, he⟩ := y.2
  obtain ⟨a, ha, na⟩ := zDg_least d hd hx
  obtain ⟨b, hb, nb⟩ := zDg_least e he hy
  have ht := zDg_top hb a x.1 ha
  by_cases b0 : b = 0
  · subst b0
    obtain ⟨c, hc⟩ := hinv _ nb
    exact absurd (zPl_unit hb hc) hu
  · by_cases h2 : a + 1 ≤ n
    · exact zDg_mono ha h2
    · exfalso
      have h3 : zcv x.1 y.1 (a + b) = 0 := h (a + b) (by omega)
      rw [h3] at ht
      rcases hR _ _ ht.symm with h4 | h4
      · exact na h4
      · exact nb h4
theorem zPl_prime {R : Type} [Lean.Grind.CommRing R] (hR : ∀ a b : R, a * b = 0 → a = 0 ∨ b = 0) (hinv : ∀ x : R, x ≠ 0 → ∃ y, x * y = 1) (s : zPl R) :
    letI := zPlR R
    s ≠ 0 → (¬ ∃ z, s * z = 1) → ∃ p, zPrm p ∧ zDv p s := by
  intro h1 h2
  obtain ⟨n, hn⟩ := s.2
  exact @zPrm_has (zPl R) (zPlR R) (fun a n => zDg a.1 n) (fun a ha => zPl_zero ha) (fun f g => zPl_bez hinv f g) (fun x y n => zPl_hdeg hR hinv x y n) n s hn h1 h2
