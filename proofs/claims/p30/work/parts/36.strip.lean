/-! two letters: a multiple of b that splits, so b splits -/
theorem zDv_fam {A : Type} [Lean.Grind.CommRing A] (hA : ∀ a b : A, a * b = 0 → a = 0 ∨ b = 0) {p : A} (hp : p ≠ 0) {q : Nat → A} (hq : zEn q) (h : ∀ i, zDv p (q i)) :
    ∃ q1 : Nat → A, zEn q1 ∧ ∀ i, q i = p * q1 i := by
  have h' : ∀ i, ∃ c, q i = p * c := h
  obtain ⟨q1, hq1⟩ := Classical.axiomOfChoice h'
  obtain ⟨d, hd⟩ := hq
  refine ⟨q1, ⟨d, fun i hi => ?_⟩, hq1⟩
  have h1 := hq1 i
  rw [hd i hi] at h1
  rcases hA _ _ h1.symm with h2 | h2
  · exact absurd h2 hp
  · exact h2
theorem zcanc {A : Type} [Lean.Grind.CommRing A] (hA : ∀ a b : A, a * b = 0 → a = 0 ∨ b = 0) {p x y : A} (hp : p ≠ 0) (h : p * x = p * y) : x = y := by
  have h1 : p * (x - y) = 0 := by grind
  rcases hA _ _ h1 with h2 | h2
  · exact absurd h2 hp
  · grind
theorem zStrip {A : Type} [Lean.Grind.CommRing A] (hA : ∀ a b : A, a * b = 0 → a = 0 ∨ b = 0) (D : A → Nat → Prop) (h0 : ∀ a, D a 0 → a = 0)
    (hpr : ∀ s : A, s ≠ 0 → (¬ ∃ z, s * z = 1) → ∃ p, zPrm p ∧ zDv p s)
    (hdeg : ∀ (x y : A) n, D (x * y) (n + 1) → x * y ≠ 0 → (¬ ∃ z, y * z = 1) → D x n) :
    ∀ n s, D s n → s ≠ 0 → ∀ b q u : Nat → A, zEn q → zEn u → (∀ i, s * b i = zcv q u i) →
      ∃ (c e : A) (q' u' : Nat → A), s = c * e ∧ zEn q' ∧ zEn u' ∧ (∀ i, q i = c * q' i) ∧ (∀ i, u i = e * u' i) ∧ ∀ i, b i = zcv q' u' i
  | 0, s, hs, n0, _, _, _, _, _, _ => absurd (h0 s hs) n0
  | n + 1, s, hs, n0, b, q, u, hq, hu, h => by
    by_cases hi : ∃ z, s * z = 1
    · obtain ⟨z, hz⟩ := hi
      refine ⟨s, 1, fun i => z * q i, u, by grind, ?_, hu, fun i => by grind, fun i => by grind, fun i => ?_⟩
      · obtain ⟨d, hd⟩ := hq
        exact ⟨d, fun i hi => by show z * q i = 0; rw [hd i hi]; grind⟩
      · rw [zcv_sm, ← h i]; grind
    · obtain ⟨p, hp, s', hs'⟩ := hpr s n0 hi
      have p0 : p ≠ 0 := by intro z; apply n0; rw [hs', z]; grind
      have s0 : s' ≠ 0 := by intro z; apply n0; rw [hs', z]; grind
      have e1 : s' * p = s := by grind
      have hd := hdeg s' p n (by rw [e1]; exact hs) (by rw [e1]; exact n0) hp.1
      rcases zGauss hp.2 hq hu (fun i => ⟨s' * b i, by rw [← h i, hs']; grind⟩) with hg | hg
      · obtain ⟨q1, e, hq1⟩ := zDv_fam hA p0 hq hg
        have hx : ∀ i, s' * b i = zcv q1 u i := fun i => by
          apply zcanc hA p0
          have h1 := h i
          have h2 : q = fun i => p * q1 i := funext hq1
          rw [h2, zcv_sm] at h1
          rw [← h1, hs']; grind
        obtain ⟨c, e', q', u', a1, a2, a3, a4, a5, a6⟩ := zStrip hA D h0 hpr hdeg n s' hd s0 b q1 u e hu hx
        exact ⟨p * c, e', q', u', by rw [hs', a1]; grind, a2, a3, fun i => by rw [hq1, a4]; grind, a5, a6⟩
      · obtain ⟨u1, e, hu1⟩ := zDv_fam hA p0 hu hg
        have hx : ∀ i, s' * b i = zcv q u1 i := fun i => by
          apply zcanc hA p0
          have h1 := h i
          have h2 : u = fun i => p * u1 i := funext hu1
          rw [zcv_comm, h2, zcv_sm, zcv_comm] at h1
          rw [← h1, hs']; grind
        obtain ⟨c, e', q', u', a1, a2, a3, a4, a5, a6⟩ := zStrip hA D h0 hpr hdeg n s' hd s0 b q u1 hq e hx
        exact ⟨c, p * e', q', u', by rw [hs', a1]; grind, a2, a3, a4, fun i => by rw [hu1, a5]; grind, a6⟩
/-- the numbers modulo P -/
theorem zF_dom (a b : zF) (h : a * b = 0) : a = 0 ∨ b = 0 := zF_mul0 h
theorem zF_hinv (x : zF) (h : x ≠ 0) : ∃ y, x * y = 1 := ⟨zinvF x, zinvF_mul h⟩
theorem zStripF (s : zPl zF) (b q u : Nat → zPl zF) :
    letI := zPlR zF
    s ≠ 0 → zEn q → zEn u → (∀ i, s * b i = zcv q u i) →
      ∃ (c e : zPl zF) (q' u' : Nat → zPl zF), s = c * e ∧ zEn q' ∧ zEn u' ∧ (∀ i, q i = c * q' i) ∧ (∀ i, u i = e * u' i) ∧ ∀ i, b i = zcv q' u' i := by
  obtain ⟨n, hn⟩ := s.2
  intro h1 h2 h3 h4
  exact @zStrip (zPl zF) (zPlR zF) (fun a b => zPl_dom zF_dom a b) (fun a n => zDg a.1 n) (fun a ha => zPl_zero ha) (fun s => zPl_prime zF_dom zF_hinv s) (fun x y n => zPl_hdeg zF_dom zF_hinv x y n) n s hn h1 b q u h2 h3 h4
