/-! the state of the search for a greatest common divisor in two letters -/
/-- the leads stay at t -/
def zPas (a b : zA2) (x : zF) : Prop := zVl x (a.1 (zrw a - 1)) ≠ 0 ∧ zVl x (b.1 (zrw b - 1)) ≠ 0
def zGood (a b : zA2) (ρ : Nat) (t : Nat) : Prop := zPas a b (zfI (t : Int)) ∧ zln (zgcd (zMp (zfI (t : Int)) a) (zMp (zfI (t : Int)) b)) = ρ
def zgI (a b : zA2) (ρ t rows many : Nat) : Prop := (rows = ρ ∧ many = zcnt (zGood a b ρ) t) ∨ (ρ < rows ∧ zcnt (zGood a b ρ) t = 0)
theorem zgI_0 (a b : zA2) {ρ : Nat} (h : ρ < 65) : zgI a b ρ 0 65 0 := Or.inr ⟨h, rfl⟩
theorem zgI_p {a b : zA2} {ρ t rows many : Nat} (h : zgI a b ρ t rows many) (hp : ¬ zPas a b (zfI ((t + 1 : Nat) : Int))) : zgI a b ρ (t + 1) rows many := by
  have e := zcnt_n (Q := zGood a b ρ) (n := t) (fun k => hp k.1)
  rcases h with ⟨h1, h2⟩ | ⟨h1, h2⟩
  · exact Or.inl ⟨h1, by rw [e]; exact h2⟩
  · exact Or.inr ⟨h1, by rw [e]; exact h2⟩
theorem zgI_s {a b : zA2} {ρ t rows many n : Nat} (h : zgI a b ρ t rows many) (hp : zPas a b (zfI ((t + 1 : Nat) : Int))) (hn : n = zln (zgcd (zMp (zfI ((t + 1 : Nat) : Int)) a) (zMp (zfI ((t + 1 : Nat) : Int)) b))) (hge : ρ ≤ n) :
    (n < rows → zgI a b ρ (t + 1) n 1) ∧ (n = rows → zgI a b ρ (t + 1) rows (many + 1)) ∧ (rows < n → zgI a b ρ (t + 1) rows many) := by
  have e1 : n = ρ → zcnt (zGood a b ρ) (t + 1) = zcnt (zGood a b ρ) t + 1 := fun e => zcnt_y ⟨hp, by rw [← hn]; exact e⟩
  have e2 : n ≠ ρ → zcnt (zGood a b ρ) (t + 1) = zcnt (zGood a b ρ) t := fun e => zcnt_n fun k => e (by rw [hn]; exact k.2)
  refine ⟨fun k => ?_, fun k => ?_, fun k => ?_⟩
  · rcases h with ⟨h1, h2⟩ | ⟨h1, h2⟩
    · omega
    · by_cases e : n = ρ
      · exact Or.inl ⟨e, by have := e1 e; omega⟩
      · exact Or.inr ⟨by omega, by have := e2 e; omega⟩
  · rcases h with ⟨h1, h2⟩ | ⟨h1, h2⟩
    · exact Or.inl ⟨h1, by have := e1 (by omega); omega⟩
    · exact Or.inr ⟨h1, by have := e2 (by omega); omega⟩
  · rcases h with ⟨h1, h2⟩ | ⟨h1, h2⟩
    · exact Or.inl ⟨h1, by have := e2 (by omega); omega⟩
    · exact Or.inr ⟨h1, by have := e2 (by omega); omega⟩
/-- a batch that fails: from the start again -/
theorem zgI_f {a b : zA2} {ρ t rows many : Nat} (h : zgI a b ρ t rows many) (hr : rows ≠ ρ) (h6 : ρ < 65) : zgI a b ρ t 65 0 := by
  rcases h with ⟨h1, h2⟩ | ⟨h1, h2⟩
  · exact absurd h1 hr
  · exact Or.inr ⟨h6, h2⟩
/-- how long it can go on -/
theorem zgI_t {a b : zA2} {ρ t rows many : Nat} {p : zA1} (h : zgI a b ρ t rows many) (hp : 0 < zln p) (hg : ∀ x, zVl x p ≠ 0 → zPas a b x ∧ zln (zgcd (zMp x a) (zMp x b)) = ρ) (ht : t < 2147483647) : t < many + zln p := by
  have h1 := zcnt_good (Q := zGood a b ρ) hp (fun s hs => hg _ hs) ht
  rcases h with ⟨_, h2⟩ | ⟨_, h2⟩ <;> omega
/-- what lies in xs and ys -/
def zgX (w : zM) (m : Nat) (a b : zA2) (l : zA1) (t rows many : Nat) : Prop := ∃ f : Nat → Int32, w (m + 3) = some (.inr (0, 700, .inl f)) ∧
  (∀ i, i < many → zr1 (f i) ∧ (f i).toInt ≤ t ∧ zPas a b (zf (f i)) ∧ zln (zgcd (zMp (zf (f i)) a) (zMp (zf (f i)) b)) = rows) ∧ (∀ i j, i < j → j < many → (f i).toInt < (f j).toInt) ∧
  ∀ j, j < rows → ∃ g : Nat → Int32, w (m + 5 + j) = some (.inr (0, 700, .inl g)) ∧ ∀ i, i < many → zr1 (g i) ∧ zf (g i) = zVl (zf (f i)) l * (zgcd (zMp (zf (f i)) a) (zMp (zf (f i)) b)).1 j
theorem zgX.ag {w w' : zM} {m : Nat} {a b : zA2} {l : zA1} {t rows many : Nat} (h : zgX w m a b l t rows many) (hr : rows ≤ 65) (he : ∀ x, m + 3 ≤ x → x < m + 70 → w' x = w x) : zgX w' m a b l t rows many := by
  obtain ⟨f, h1, h2, h3, h4⟩ := h
  refine ⟨f, by rw [he _ (by omega) (by omega)]; exact h1, h2, h3, fun j hj => ?_⟩
  obtain ⟨g, k1, k2⟩ := h4 j hj
  exact ⟨g, by rw [he _ (by omega) (by omega)]; exact k1, k2⟩
theorem zgX.t {w : zM} {m : Nat} {a b : zA2} {l : zA1} {t t' rows many : Nat} (h : zgX w m a b l t rows many) (ht : t ≤ t') : zgX w m a b l t' rows many := by
  obtain ⟨f, h1, h2, h3, h4⟩ := h
  exact ⟨f, h1, fun i hi => by have := h2 i hi; exact ⟨this.1, by omega, this.2.2⟩, h3, h4⟩
