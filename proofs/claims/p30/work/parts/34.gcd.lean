/-! division, greatest common divisors in one letter -/
def zmon {R : Type} [Lean.Grind.CommRing R] (c : R) (m : Nat) : Nat → R := fun i => if i = m then c else 0
theorem zmon0 {R : Type} [Lean.Grind.CommRing R] (c : R) : zmon c 0 = zcst c := by
  funext i
  cases i with
  | zero => rfl
  | succ i => simp [zmon, zcst]
theorem zmonS {R : Type} [Lean.Grind.CommRing R] (c : R) (m : Nat) : (fun j => zmon c (m + 1) (j + 1)) = zmon c m := by
  funext i
  simp [zmon]
theorem zcv_mon {R : Type} [Lean.Grind.CommRing R] (c : R) (g : Nat → R) : ∀ m i, zcv (zmon c m) g i = if m ≤ i then c * g (i - m) else 0
  | 0, i => by rw [zmon0, zcv_cst]; simp
  | m + 1, 0 => by
    show zmon c (m + 1) 0 * g 0 = _
    simp [zmon]
    grind
  | m + 1, i + 1 => by
    show zmon c (m + 1) 0 * g (i + 1) + zcv (fun j => zmon c (m + 1) (j + 1)) g i = _
    rw [zmonS, zcv_mon c g m i]
    simp [zmon]
    grind
theorem zDg_mon {R : Type} [Lean.Grind.CommRing R] (c : R) (m : Nat) : zDg (zmon c m) (m + 1) := fun i hi => by
  have : i ≠ m := by omega
  simp [zmon, this]
theorem zdivS {R : Type} [Lean.Grind.CommRing R] {g : Nat → R} {b : Nat} {y : R} (hy : g b * y = 1) (hg : zDg g (b + 1)) : ∀ (d : Nat) (f : Nat → R), zDg f d → ∃ q r : Nat → R, zDg q d ∧ zDg r b ∧ ∀ i, f i = zcv q g i + r i
  | 0, f, hf => ⟨fun _ => 0, f, fun _ _ => rfl, zDg_mono hf (Nat.zero_le b), fun i => by rw [zcv_zl]; grind⟩
  | e + 1, f, hf => by
    by_cases hb : e + 1 ≤ b
    · exact ⟨fun _ => 0, f, fun _ _ => rfl, zDg_mono hf hb, fun i => by rw [zcv_zl]; grind⟩
    · have hm : zDg (fun i => f i - zcv (zmon (f e * y) (e - b)) g i) e := by
        intro i hi
        show f i - zcv (zmon (f e * y) (e - b)) g i = 0
        rw [zcv_mon, if_pos (by omega)]
        by_cases h : i = e
        · subst h
          have : i - (i - b) = b := by omega
          rw [this]
          grind
        · rw [hf i (by omega), hg (i - (e - b)) (by omega)]
          grind
      obtain ⟨q, r, hq, hr, h⟩ := zdivS hy hg e _ hm
      refine ⟨fun i => q i + zmon (f e * y) (e - b) i, r, ?_, hr, ?_⟩
      · exact zDg_add (zDg_mono hq (by omega)) (zDg_mono (zDg_mon _ _) (by omega))
      · intro i
        have := h i
        rw [zcv_addl]
        grind
/-- no divisors of nothing -/
theorem zDg_least {R : Type} [Lean.Grind.CommRing R] {f : Nat → R} : ∀ d, zDg f d → ¬ zDg f 0 → ∃ a, zDg f (a + 1) ∧ f a ≠ 0
  | 0, h, h0 => absurd h h0
  | d + 1, h, h0 => by
    by_cases e : f d = 0
    · apply zDg_least d _ h0
      intro i hi
      by_cases hd : i = d
      · rw [hd, e]
      · exact h i (by omega)
    · exact ⟨d, h, e⟩
theorem zcv_dom {R : Type} [Lean.Grind.CommRing R] (hR : ∀ a b : R, a * b = 0 → a = 0 ∨ b = 0) {f g : Nat → R} (hf : zEn f) (hg : zEn g) (h : zcv f g = fun _ => 0) : (f = fun _ => 0) ∨ (g = fun _ => 0) := by
  by_cases h1 : zDg f 0
  · exact Or.inl (zDg_0 h1)
  by_cases h2 : zDg g 0
  · exact Or.inr (zDg_0 h2)
  exfalso
  obtain ⟨d, hd⟩ := hf
  obtain ⟨e, he⟩ := hg
  obtain ⟨a, ha, na⟩ := zDg_least d hd h1
  obtain ⟨b, hb, nb⟩ := zDg_least e he h2
  have := zDg_top hb a f ha
  rw [h] at this
  rcases hR _ _ this.symm with h3 | h3
  · exact na h3
  · exact nb h3
/-- Bezout where one can divide -/
theorem zBez {A : Type} [Lean.Grind.CommRing A] (D : A → Nat → Prop) (h0 : ∀ a, D a 0 → a = 0)
    (hdiv : ∀ g b, D g (b + 1) → ¬ D g b → ∀ f, ∃ q r, f = q * g + r ∧ D r b) :
    ∀ n g, D g n → ∀ f, ∃ d u v s t : A, d = u * f + v * g ∧ f = s * d ∧ g = t * d
  | 0, g, hg, f => by
    have := h0 g hg
    exact ⟨f, 1, 0, 1, 0, by grind, by grind, by grind⟩
  | n + 1, g, hg, f => by
    by_cases h : D g n
    · exact zBez D h0 hdiv n g h f
    · obtain ⟨q, r, e, hr⟩ := hdiv g n hg h f
      obtain ⟨d, u, v, s, t, h1, h2, h3⟩ := zBez D h0 hdiv n r hr g
      exact ⟨d, v, u - v * q, q * s + t, s, by grind, by grind, h2⟩
/-- Euclid's lemma -/
theorem zEuc {A : Type} [Lean.Grind.CommRing A] {a b c u v s : A} (h1 : u * a + v * b = 1) (h2 : b * c = s * a) : ∃ t, c = t * a :=
  ⟨u * c + v * s, by grind⟩
theorem zPl_bez {R : Type} [Lean.Grind.CommRing R] (hinv : ∀ x : R, x ≠ 0 → ∃ y, x * y = 1) (f g : zPl R) :
    letI := zPlR R
    ∃ d u v s t : zPl R, d = u * f + v * g ∧ f = s * d ∧ g = t * d := by
  obtain ⟨n, hn⟩ := g.2
  refine @zBez (zPl R) (zPlR R) (fun a n => zDg a.1 n) ?_ ?_ n g hn f
  · intro a ha
    apply zPl_ext
    rw [zDg_0 ha]
    funext i
    show (0 : R) = zcst (zNc R 0) i
    rw [zNc0, zcst_zero]
  · intro g b h1 h2 f
    have hb : g.1 b ≠ 0 := by
      intro h
      apply h2
      intro i hi
      by_cases e : i = b
      · rw [e, h]
      · exact h1 i (by omega)
    obtain ⟨y, hy⟩ := hinv _ hb
    obtain ⟨d, hd⟩ := f.2
    obtain ⟨q, r, hq, hr, h⟩ := zdivS hy h1 d f.1 hd
    exact ⟨⟨q, d, hq⟩, ⟨r, b, hr⟩, zPl_ext (funext h), hr⟩
theorem zPl_dom {R : Type} [Lean.Grind.CommRing R] (hR : ∀ a b : R, a * b = 0 → a = 0 ∨ b = 0) (f g : zPl R) :
    letI := zPlR R
    f * g = 0 → f = 0 ∨ g = 0 := by
  intro h
  have z : (fun _ => (0 : R)) = zcst (zNc R 0) := by rw [zNc0, zcst_zero]
  have h1 : zcv f.1 g.1 = fun _ => 0 := (congrArg Subtype.val h).trans z.symm
  rcases zcv_dom hR f.2 g.2 h1 with h2 | h2
  · exact Or.inl (zPl_ext (h2.trans z))
  · exact Or.inr (zPl_ext (h2.trans z))
