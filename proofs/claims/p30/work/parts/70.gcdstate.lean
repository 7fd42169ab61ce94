/-! the state of the search for a greatest common divisor in two letters -/
/-- the leads stay at t -/
def zPas (a b : zA2) (x : zF) : Prop := zVl x (a.1 (zrw a - 1)) ≠ 0 ∧ zVl x (b.1 (zrw b - 1)) ≠ 0
def zGood (a b : zA2) (ρ : Nat) (t : Nat) : Prop := zPas a b (zfI (t : Int)) ∧ zln (zgcd (zMp (zfI (t : Int)) a) (zMp (zfI (t : Int)) b)) = ρ
def zgI (a b : zA2) (ρ t rows many : Nat) : Prop := (rows = ρ ∧ many = zcnt (zGood a b ρ) t) ∨ (ρ < rows ∧ zcnt (zGood a b ρ) t = 0)
theorem zgI_0 (a b : zA2) {ρ : Nat} (h : ρ < 65) : zgI a b ρ 0 65 0 := Or.inr ⟨h, rfl⟩
theorem zgI_p {a b : zA2} {ρ t rows many : Nat} (h : zgI a b ρ t rows many) (hp : ¬ zPas a b (zfI ((t + 1 : Nat) : Int))) : zgI a b ρ (t + 1) rows many := by
  have e := zcnt_n (Q := zGood a b ρ) (n := t) (fun k => hp k.1)
  rcases h with ⟨h1, h2⟩ | ⟨h1, h2⟩
  · exact Or.inl ⟨h1, by rw [e]; exact h2⟩
  · exact Or.inr ⟨h1, by rw [e]; exact h2⟩
theorem zgI_s {a b : zA2} {ρ t rows many n : Nat} (h : zgI a b ρ t rows many) (hp : zPas a b (zfI ((t + 1 : Nat) : Int))) (hn : n = zln (zgcd (zMp (zfI ((t + 1 : Nat) : Int)) a) (zMp (zfI ((t + 1 : Nat) : Int)) b))) (hge : ρ ≤ n) :
    (n < rows → zgI a b ρ (t + 1) n 1) ∧ (n = rows → zgI a b ρ (t + 1) rows (many + 1)) ∧ (rows < n → zgI a b ρ (t + 1) rows many) := by
  have e1 : n = ρ → zcnt (zGood a b ρ) (t + 1) = zcnt (zGood a b ρ) t + 1 := fun e => zcnt_y ⟨hp, by rw [← hn]; exact e⟩
  have e2 : n ≠ ρ → zcnt (zGood a b ρ) (t + 1) = zcnt (zGood a b ρ) t := fun e => zcnt_n fun k => e (by rw [hn]; exact k.2)
  refine ⟨fun k => ?_, fun k => ?_, fun k => ?_⟩
  · rcases h with ⟨h1, h2⟩ | ⟨h1, h2⟩
    · omega
    · by_cases e : n = ρ
      · exact Or.inl ⟨e, by have := e1 e; omega⟩
      · exact Or.inr ⟨by omega, by have := e2 e; omega⟩
  · rcases h with ⟨h1, h2⟩ | ⟨h1, h2⟩
    · exact Or.inl ⟨h1, by have := e1 (by omega); omega⟩
    · exact Or.inr ⟨h1, by have := e2 (by omega); omega⟩
  · rcases h with ⟨h1, h2⟩ | ⟨h1, h2⟩
    · exact Or.inl ⟨h1, by have := e2 (by omega); omega⟩
    · exact Or.inr ⟨h1, by have := e2 (by omega); omega⟩
/-- a batch that fails: from the start again -/
theorem zgI_f {a b : zA2} {ρ t rows many : Nat} (h : zgI a b ρ t rows many) (hr : rows ≠ ρ) (h6 : ρ < 65) : zgI a b ρ t 65 0 := by
  rcases h with ⟨h1, h2⟩ | ⟨h1, h2⟩
  · exact absurd h1 hr
  · exact Or.inr ⟨h6, h2⟩
/-- how long it can go on -/
theorem zgI_t {a b : zA2} {ρ t rows many : Nat} {p : zA1} (h : zgI a b ρ t rows many) (hp : 0 < zln p) (hg : ∀ x, zVl x p ≠ 0 → zPas a b x ∧ zln (zgcd (zMp x a) (zMp x b)) = ρ) (ht : t < 2147483647) : t < many + zln p := by
  have h1 := zcnt_good (Q := zGood a b ρ) hp (fun s hs => hg _ hs) ht
  rcases h with ⟨_, h2⟩ | ⟨_, h2⟩ <;> omega
/-- what lies in ys: many numbers in each row, one more in the first k rows -/
def zgY (w : zM) (m : Nat) (a b : zA2) (l : zA1) (f : Nat → Int32) (rows many k : Nat) : Prop :=
  ∀ j, j < rows → j < 64 → ∃ g : Nat → Int32, w (m + 5 + j) = some (.inr (0, 700, .inl g)) ∧ ∀ i, i < (if j < k then many + 1 else many) → zr1 (g i) ∧ zf (g i) = zVl (zf (f i)) l * (zgcd (zMp (zf (f i)) a) (zMp (zf (f i)) b)).1 j
/-- what lies in xs -/
def zgF (a b : zA2) (f : Nat → Int32) (t rows many : Nat) : Prop :=
  (∀ i, i < many → zr1 (f i) ∧ (f i).toInt ≤ t ∧ zPas a b (zf (f i)) ∧ zln (zgcd (zMp (zf (f i)) a) (zMp (zf (f i)) b)) = rows) ∧ ∀ i j, i < j → j < many → (f i).toInt < (f j).toInt
theorem zgF_0 (a b : zA2) (f : Nat → Int32) (t rows : Nat) : zgF a b f t rows 0 := ⟨fun i hi => absurd hi (Nat.not_lt_zero i), fun i j _ hj => absurd hj (Nat.not_lt_zero j)⟩
theorem zgF.t {a b : zA2} {f : Nat → Int32} {t t' rows many : Nat} (h : zgF a b f t rows many) (ht : t ≤ t') : zgF a b f t' rows many :=
  ⟨fun i hi => by have := h.1 i hi; exact ⟨this.1, by omega, this.2.2⟩, h.2⟩
theorem zgF_s {a b : zA2} {f : Nat → Int32} {t rows many : Nat} {v : Int32} (h : zgF a b f t rows many) (hv : v.toInt = ((t + 1 : Nat) : Int)) (ht : t + 1 < 2147483647) (hp : zPas a b (zf v)) (hn : zln (zgcd (zMp (zf v) a) (zMp (zf v) b)) = rows) :
    zgF a b (upd f many v) (t + 1) rows (many + 1) := by
  constructor
  · intro i hi
    by_cases e : i = many
    · rw [e, zupd_s]
      exact ⟨show 0 ≤ v.toInt ∧ v.toInt < 2147483647 by omega, by omega, hp, hn⟩
    · rw [zupd_n _ _ e]
      have h1 := h.1 i (by omega)
      exact ⟨h1.1, by omega, h1.2.2⟩
  · intro i j hij hj
    rw [zupd_n f v (show i ≠ many by omega)]
    by_cases e : j = many
    · rw [e, zupd_s]
      have := (h.1 i (by omega)).2.1
      omega
    · rw [zupd_n _ _ e]
      exact h.2 i j hij (by omega)
theorem zgF_d {a b : zA2} {f : Nat → Int32} {t rows many : Nat} (h : zgF a b f t rows many) : ∀ i j, i < many → j < many → zf (f i) = zf (f j) → i = j := by
  intro i j hi hj e
  have h1 := (h.1 i hi).1
  have h2 := (h.1 j hj).1
  have h3 : (f i).toInt = (f j).toInt := zfI_inj h1 h2 e
  rcases Nat.lt_trichotomy i j with k | k | k
  · have := h.2 i j k hj; omega
  · exact k
  · have := h.2 j i k hi; omega
theorem zgY_0 {w : zM} {m : Nat} {a b : zA2} {l : zA1} {f : Nat → Int32} {rows : Nat} (h : zR m w) : zgY w m a b l f rows 0 0 := fun j _ hj => by
  obtain ⟨g, hg⟩ := h.ysA j hj
  exact ⟨g, hg, fun i hi => by rw [if_neg (Nat.not_lt_zero j)] at hi; exact absurd hi (Nat.not_lt_zero i)⟩
theorem zgY.ag {w w' : zM} {m : Nat} {a b : zA2} {l : zA1} {f : Nat → Int32} {rows many k : Nat} (h : zgY w m a b l f rows many k) (he : ∀ x, m + 5 ≤ x → x < m + 69 → w' x = w x) : zgY w' m a b l f rows many k := fun j hj h6 => by
  obtain ⟨g, k1, k2⟩ := h j hj h6
  exact ⟨g, by rw [he _ (by omega) (by omega)]; exact k1, k2⟩
/-- a new number in xs -/
theorem zgY.f {w : zM} {m : Nat} {a b : zA2} {l : zA1} {f : Nat → Int32} {rows many : Nat} {v : Int32} (h : zgY w m a b l f rows many 0) : zgY w m a b l (upd f many v) rows many 0 := fun j hj h6 => by
  obtain ⟨g, k1, k2⟩ := h j hj h6
  refine ⟨g, k1, fun i hi => ?_⟩
  rw [if_neg (Nat.not_lt_zero j)] at k2 hi
  rw [zupd_n _ _ (by omega)]
  exact k2 i hi
/-- a row more -/
theorem zgY.s {w w' : zM} {m : Nat} {a b : zA2} {l : zA1} {f g : Nat → Int32} {rows many k : Nat} {v : Int32} (h : zgY w m a b l f rows many k) (hg : w (m + 5 + k) = some (.inr (0, 700, .inl g)))
    (hw : w' (m + 5 + k) = some (.inr (0, 700, .inl (upd g many v)))) (he : ∀ x, x ≠ m + 5 + k → w' x = w x) (hv : zr1 v ∧ zf v = zVl (zf (f many)) l * (zgcd (zMp (zf (f many)) a) (zMp (zf (f many)) b)).1 k) : zgY w' m a b l f rows many (k + 1) := fun j hj h6 => by
  obtain ⟨g1, k1, k2⟩ := h j hj h6
  by_cases e : j = k
  · subst e
    rw [hg] at k1
    cases k1
    refine ⟨_, hw, fun i hi => ?_⟩
    rw [if_pos (by omega)] at hi
    rw [if_neg (by omega)] at k2
    by_cases e' : i = many
    · rw [e', zupd_s]; exact hv
    · rw [zupd_n _ _ e']; exact k2 i (by omega)
  · refine ⟨g1, by rw [he _ (by omega)]; exact k1, fun i hi => k2 i ?_⟩
    by_cases e' : j < k
    · rw [if_pos e']; rw [if_pos (by omega)] at hi; exact hi
    · rw [if_neg e']; rw [if_neg (by omega)] at hi; exact hi
theorem zgY.d {w : zM} {m : Nat} {a b : zA2} {l : zA1} {f : Nat → Int32} {rows many k : Nat} (h : zgY w m a b l f rows many k) (hk : rows ≤ k) : zgY w m a b l f rows (many + 1) 0 := fun j hj h6 => by
  obtain ⟨g, k1, k2⟩ := h j hj h6
  refine ⟨g, k1, fun i hi => k2 i ?_⟩
  rw [if_neg (Nat.not_lt_zero j)] at hi
  rw [if_pos (by omega)]
  exact hi
