/-! the greatest common divisor in two letters, and what it leaves over -/
theorem zpdivS {A : Type} [Lean.Grind.CommRing A] (hA : ∀ a b : A, a * b = 0 → a = 0 ∨ b = 0) (h10 : (1 : A) ≠ 0) {g : Nat → A} {b : Nat} (hl : g b ≠ 0) (hg : zDg g (b + 1)) :
    ∀ (d : Nat) (f : Nat → A), zDg f d → ∃ (m : A) (q r : Nat → A), m ≠ 0 ∧ zDg q d ∧ zDg r b ∧ ∀ i, m * f i = zcv q g i + r i
  | 0, f, hf => ⟨1, fun _ => 0, f, h10, fun _ _ => rfl, zDg_mono hf (Nat.zero_le b), fun i => by rw [zcv_zl]; grind⟩
  | e + 1, f, hf => by
    by_cases hb : e + 1 ≤ b
    · exact ⟨1, fun _ => 0, f, h10, fun _ _ => rfl, zDg_mono hf hb, fun i => by rw [zcv_zl]; grind⟩
    · have hm : zDg (fun i => g b * f i - zcv (zmon (f e) (e - b)) g i) e := by
        intro i hi
        show g b * f i - zcv (zmon (f e) (e - b)) g i = 0
        rw [zcv_mon, if_pos (by omega)]
        by_cases h : i = e
        · subst h
          have : i - (i - b) = b := by omega
          rw [this]
          grind
        · rw [hf i (by omega), hg (i - (e - b)) (by omega)]
          grind
      obtain ⟨m, q, r, m0, hq, hr, h⟩ := zpdivS hA h10 hl hg e _ hm
      refine ⟨m * g b, fun i => q i + m * zmon (f e) (e - b) i, r, ?_, ?_, hr, ?_⟩
      · intro z
        rcases hA _ _ z with h | h
        · exact m0 h
        · exact hl h
      · refine zDg_add (zDg_mono hq (by omega)) (fun i hi => ?_)
        show m * zmon (f e) (e - b) i = 0
        rw [zDg_mon (f e) (e - b) i (by omega)]; grind
      · intro i
        have := h i
        rw [zcv_addl, zcv_sm]
        grind
/-- the constant m as a polynomial -/
def zKo {A : Type} [Lean.Grind.CommRing A] (m : A) : zPl A := ⟨zcst m, zEn_cst m⟩
theorem zKo_mul {A : Type} [Lean.Grind.CommRing A] (a b : A) : letI := zPlR A; zKo (a * b) = zKo a * zKo b := by
  apply zPl_ext
  funext i
  show zcst (a * b) i = zcv (zcst a) (zcst b) i
  rw [zcv_cst]
  cases i with
  | zero => rfl
  | succ i => simp only [zcst]; grind
theorem zKo_1 {A : Type} [Lean.Grind.CommRing A] : letI := zPlR A; zKo (1 : A) = 1 := by
  apply zPl_ext
  show zcst (1 : A) = zcst (zNc A 1)
  rw [zNc1]
theorem zKo_0 {A : Type} [Lean.Grind.CommRing A] : letI := zPlR A; zKo (0 : A) = 0 := by
  apply zPl_ext
  show zcst (0 : A) = zcst (zNc A 0)
  rw [zNc0]
theorem zKo_inj {A : Type} [Lean.Grind.CommRing A] {a b : A} (h : zKo a = zKo b) : a = b := congrFun (congrArg Subtype.val h) 0
theorem zKo_dg {A : Type} [Lean.Grind.CommRing A] {m : A} (f : zPl A) (i : Nat) : letI := zPlR A; (zKo m * f).1 i = m * f.1 i := zcv_cst m f.1 i
theorem zPbez {A B : Type} [Lean.Grind.CommRing A] [Lean.Grind.CommRing B] (hA : ∀ a b : A, a * b = 0 → a = 0 ∨ b = 0) (h10 : (1 : A) ≠ 0)
    (ka : A → B) (hm : ∀ a b, ka (a * b) = ka a * ka b) (h1 : ka 1 = 1) (D : B → Nat → Prop) (h0 : ∀ g, D g 0 → g = 0)
    (hdiv : ∀ g n, D g (n + 1) → ¬ D g n → ∀ f, ∃ (m : A) (q r : B), m ≠ 0 ∧ ka m * f = q * g + r ∧ D r n) :
    ∀ n (g : B), D g n → ∀ f : B, ∃ (m : A) (d u v s t : B), m ≠ 0 ∧ d = u * f + v * g ∧ ka m * f = s * d ∧ ka m * g = t * d
  | 0, g, hg, f => by
    have := h0 g hg
    exact ⟨1, f, 1, 0, 1, 0, h10, by grind, by grind, by grind⟩
  | n + 1, g, hg, f => by
    by_cases h : D g n
    · exact zPbez hA h10 ka hm h1 D h0 hdiv n g h f
    · obtain ⟨m, q, r, m0, e, hr⟩ := hdiv g n hg h f
      obtain ⟨m', d, u, v, s, t, n0, k1, k2, k3⟩ := zPbez hA h10 ka hm h1 D h0 hdiv n r hr g
      have hm' := hm m m'
      refine ⟨m * m', d, v * ka m, u - v * q, q * s + t, ka m * s, ?_, by grind, by grind, by grind⟩
      intro z
      rcases hA _ _ z with h | h
      · exact m0 h
      · exact n0 h
theorem zGcdA {A B : Type} [Lean.Grind.CommRing A] [Lean.Grind.CommRing B] (hA : ∀ a b : A, a * b = 0 → a = 0 ∨ b = 0) (hB : ∀ a b : B, a * b = 0 → a = 0 ∨ b = 0)
    (ka : A → B) (hm : ∀ a b, ka (a * b) = ka a * ka b) (hz : ∀ a, ka a = 0 → a = 0)
    (hbez : ∀ f g : B, ∃ (m : A) (d u v s t : B), m ≠ 0 ∧ d = u * f + v * g ∧ ka m * f = s * d ∧ ka m * g = t * d)
    (hstrip : ∀ (s : A) (b q u : B), s ≠ 0 → ka s * b = q * u → ∃ (c e : A) (q' u' : B), s = c * e ∧ q = ka c * q' ∧ u = ka e * u' ∧ b = q' * u')
    (f g : B) (hn : f ≠ 0 ∨ g ≠ 0) : ∃ (r : A) (G f' g' u v : B), r ≠ 0 ∧ f = f' * G ∧ g = g' * G ∧ ka r = u * f' + v * g' := by
  obtain ⟨m, d, u, v, s, t, m0, h1, h2, h3⟩ := hbez f g
  obtain ⟨c, e, s', d', k1, k2, k3, k4⟩ := hstrip m f s d m0 h2
  have c0 : c ≠ 0 := by intro z; apply m0; rw [k1, z]; grind
  have e0 : e ≠ 0 := by intro z; apply m0; rw [k1, z]; grind
  have pe0 : ka e ≠ 0 := by intro z; exact e0 (hz _ z)
  have hce := hm c e
  have h4 : ka c * g = t * d' := by
    apply zcanc hB pe0
    rw [← k1] at hce
    grind
  obtain ⟨c', e', t', G, l1, l2, l3, l4⟩ := hstrip c g t d' c0 h4
  have e'0 : e' ≠ 0 := by intro z; apply c0; rw [l1, z]; grind
  have hee := hm e e'
  have hf : f = ka e' * s' * G := by rw [k4, l3]; grind
  refine ⟨e * e', G, ka e' * s', t', u, v, ?_, hf, l4, ?_⟩
  · intro z
    rcases hA _ _ z with h | h
    · exact e0 h
    · exact e'0 h
  · have G0 : G ≠ 0 := by
      intro z
      rcases hn with h | h
      · apply h; rw [hf, z]; grind
      · apply h; rw [l4, z]; grind
    apply zcanc hB G0
    have hd : d = ka e * (ka e' * G) := by rw [k3, l3]
    grind
theorem zGcd2 {A : Type} [Lean.Grind.CommRing A] (hA : ∀ a b : A, a * b = 0 → a = 0 ∨ b = 0) (h10 : (1 : A) ≠ 0)
    (hstrip : letI := zPlR A; ∀ (s : A) (b q u : zPl A), s ≠ 0 → zKo s * b = q * u → ∃ (c e : A) (q' u' : zPl A), s = c * e ∧ q = zKo c * q' ∧ u = zKo e * u' ∧ b = q' * u')
    (f g : zPl A) :
    letI := zPlR A
    (f ≠ 0 ∨ g ≠ 0) → ∃ (r : A) (G f' g' u v : zPl A), r ≠ 0 ∧ f = f' * G ∧ g = g' * G ∧ zKo r = u * f' + v * g' := by
  refine @zGcdA A (zPl A) _ (zPlR A) hA (fun x y => zPl_dom hA x y) zKo zKo_mul (fun a h => zKo_inj (h.trans zKo_0.symm)) ?_ hstrip f g
  intro f g
  obtain ⟨n, hn⟩ := g.2
  refine @zPbez A (zPl A) _ (zPlR A) hA h10 zKo zKo_mul zKo_1 (fun g n => zDg g.1 n) (fun g h => zPl_zero h) ?_ n g hn f
  intro g n hg h f
  have hl : g.1 n ≠ 0 := by
    intro z
    apply h
    intro i hi
    by_cases e : i = n
    · rw [e, z]
    · exact hg i (by omega)
  obtain ⟨d, hd⟩ := f.2
  obtain ⟨m, q, r, m0, hq, hr, e⟩ := zpdivS hA h10 hl hg d f.1 hd
  exact ⟨m, ⟨q, d, hq⟩, ⟨r, n, hr⟩, m0, zPl_ext (funext fun i => (zcv_cst m f.1 i).trans (e i)), hr⟩
