/-! what a thing holds -/
def zLn (fa fb fc : Nat → Int32) (n : Nat) : Prop := ∀ i, i < n → (-3 ≤ (fa i).toInt ∧ (fa i).toInt ≤ 3) ∧ (-3 ≤ (fb i).toInt ∧ (fb i).toInt ≤ 3) ∧ (fa i ≠ 0 ∨ fb i ≠ 0) ∧ (-50 ≤ (fc i).toInt ∧ (fc i).toInt ≤ 50)
theorem zLn_mono {fa fb fc : Nat → Int32} {n m : Nat} (h : zLn fa fb fc n) (hm : m ≤ n) : zLn fa fb fc m := fun i hi => h i (by omega)
theorem zLn_mv {fa fb fc : Nat → Int32} {n i j : Nat} (h : zLn fa fb fc n) (hi : i < n) : zLn (upd fa j (fa i)) (upd fb j (fb i)) (upd fc j (fc i)) n := fun k hk => by
  by_cases e : k = j
  · rw [e, zupd_s, zupd_s, zupd_s]; exact h i hi
  · rw [zupd_n _ _ e, zupd_n _ _ e, zupd_n _ _ e]; exact h k hk
theorem zLn_up {fa fb fc : Nat → Int32} {n j : Nat} {a b c : Int32} (h : ∀ i, i < n → i ≠ j → (-3 ≤ (fa i).toInt ∧ (fa i).toInt ≤ 3) ∧ (-3 ≤ (fb i).toInt ∧ (fb i).toInt ≤ 3) ∧ (fa i ≠ 0 ∨ fb i ≠ 0) ∧ (-50 ≤ (fc i).toInt ∧ (fc i).toInt ≤ 50)) (ha : -3 ≤ a.toInt ∧ a.toInt ≤ 3) (hb : -3 ≤ b.toInt ∧ b.toInt ≤ 3) (hab : a ≠ 0 ∨ b ≠ 0) (hc : -50 ≤ c.toInt ∧ c.toInt ≤ 50) :
    zLn (upd fa j a) (upd fb j b) (upd fc j c) n := fun k hk => by
  by_cases e : k = j
  · rw [e, zupd_s, zupd_s, zupd_s]; exact ⟨ha, hb, hab, hc⟩
  · rw [zupd_n _ _ e, zupd_n _ _ e, zupd_n _ _ e]; exact h k hk e
/-- what goes with the kind -/
def zKk (k : Int32) (g : Nat → Int32) (fn fd fr : Nat → Int32) : Prop :=
  (k = 0 ∨ k = 1 ∨ k = 2 ∨ k = 3 ∨ k = 4) ∧ (k = 1 ∨ k = 2 ∨ k = 3 → 0 < zrw (zbT fd)) ∧ (k = 2 → 0 < zrw (zbT fn)) ∧ (k = 1 ∨ k = 2 → g 3 ≠ 0 ∧ g 4 ≠ 0) ∧ (k = 3 → 0 ≤ (g 10).toInt ∧ (g 10).toInt ≤ 3) ∧
  (k = 4 → (1 ≤ (g 10).toInt ∧ (g 10).toInt ≤ 6 ∧ (g 10).toInt ≤ (g 12).toInt ∧ (g 12).toInt ≤ 60 ∧ 0 ≤ (g 13).toInt ∧ (g 13).toInt ≤ (g 12).toInt) ∧ ∃ i, i < 25 ∧ fr (25 * (g 10).toNatClampNeg + i) ≠ 0)
def zKd (k : Int32) (g : Nat → Int32) (fn fd fa fb fc fr fu : Nat → Int32) : Prop :=
  g 0 = k ∧ zCr fn ∧ zCr fd ∧ (zr1 (g 3) ∧ zr1 (g 4)) ∧ (0 ≤ (g 5).toInt ∧ (g 5).toInt ≤ 13) ∧ zLn fa fb fc (g 5).toNatClampNeg ∧ (∀ i, i < 175 → zr1 (fr i)) ∧ (∀ i, i < 361 → zr1 (fu i)) ∧ zKk k g fn fd fr
/-- a thing of kind k -/
def zTi (w : zM) (t : Nat) (k : Int32) : Prop := ∃ g fn fd fa fb fc fe fr fu : Nat → Int32, w t = some (.inl (13, zTo t g)) ∧ w (t + 1) = some (.inr (0, 325, .inl fn)) ∧ w (t + 2) = some (.inr (0, 325, .inl fd)) ∧ w (t + 3) = some (.inr (0, 13, .inl fa)) ∧ w (t + 4) = some (.inr (0, 13, .inl fb)) ∧
  w (t + 5) = some (.inr (0, 13, .inl fc)) ∧ w (t + 6) = some (.inr (0, 13, .inl fe)) ∧ w (t + 7) = some (.inr (0, 175, .inl fr)) ∧ w (t + 8) = some (.inr (0, 361, .inl fu)) ∧ zKd k g fn fd fa fb fc fr fu
theorem zTi.ag {w w' : zM} {t : Nat} {k : Int32} (h : zTi w t k) (he : ∀ x, t ≤ x → x < t + 9 → w' x = w x) : zTi w' t k := by
  obtain ⟨g, fn, fd, fa, fb, fc, fe, fr, fu, h0, h1, h2, h3, h4, h5, h6, h7, h8, h9⟩ := h
  exact ⟨g, fn, fd, fa, fb, fc, fe, fr, fu, (he t (by omega) (by omega)).trans h0, (he (t + 1) (by omega) (by omega)).trans h1, (he (t + 2) (by omega) (by omega)).trans h2, (he (t + 3) (by omega) (by omega)).trans h3, (he (t + 4) (by omega) (by omega)).trans h4,
    (he (t + 5) (by omega) (by omega)).trans h5, (he (t + 6) (by omega) (by omega)).trans h6, (he (t + 7) (by omega) (by omega)).trans h7, (he (t + 8) (by omega) (by omega)).trans h8, h9⟩
theorem zTi.ne {w : zM} {t : Nat} {k : Int32} (h : zTi w t k) : k = 0 ∨ k = 1 ∨ k = 2 ∨ k = 3 ∨ k = 4 := by
  obtain ⟨g, fn, fd, fa, fb, fc, fe, fr, fu, h0, h1, h2, h3, h4, h5, h6, h7, h8, h9⟩ := h
  exact h9.2.2.2.2.2.2.2.2.1
/-- a ratio or a term -/
theorem zKk_12 {k : Int32} {g fn fd fr : Nat → Int32} (hk : k = 1 ∨ k = 2) (hd : 0 < zrw (zbT fd)) (hn : k = 2 → 0 < zrw (zbT fn)) (hx : g 3 ≠ 0 ∧ g 4 ≠ 0) : zKk k g fn fd fr := by
  refine ⟨by rcases hk with h | h <;> simp [h], fun _ => hd, hn, fun _ => hx, fun h => ?_, fun h => ?_⟩
  · rcases hk with e | e <;> rw [e] at h <;> exact absurd h (by decide)
  · rcases hk with e | e <;> rw [e] at h <;> exact absurd h (by decide)
theorem zCr_cpy {f g : Nat → Int32} (h : zCr f) : zCr (va_cpy f g 0 0 325) := fun i hi => by
  have e : va_cpy f g 0 0 325 i = f i := by
    unfold va_cpy
    rw [if_pos (by omega), Nat.sub_zero, Nat.zero_add]
  rw [e]
  exact h i hi
theorem va_cpy0 (f g : Nat → Int32) {n i : Nat} (hi : i < n) : va_cpy f g 0 0 n i = f i := by
  unfold va_cpy
  rw [if_pos (by omega), Nat.sub_zero, Nat.zero_add]
theorem zbT_ext {f g : Nat → Int32} (h : ∀ i, i < 325 → f i = g i) : zbT f = zbT g := zb_ext fun j => za_ext fun i => by
  rw [zbT_c, zbT_c]
  by_cases e : j < 13 ∧ i < 25
  · rw [if_pos e, if_pos e, h _ (by omega)]
  · rw [if_neg e, if_neg e]
theorem zKd_cpy {k : Int32} {g g' fn fd fa fb fc fr fu gn gd ga gb gc gr gu : Nat → Int32} (h : zKd k g fn fd fa fb fc fr fu) (h0 : g' 0 = g 0) (h3 : g' 3 = g 3) (h4 : g' 4 = g 4) (h5 : g' 5 = g 5) (h10 : g' 10 = g 10) (h12 : g' 12 = g 12) (h13 : g' 13 = g 13)
    (hl : zLn ga gb gc (g 5).toNatClampNeg) : zKd k g' (va_cpy fn gn 0 0 325) (va_cpy fd gd 0 0 325) ga gb gc (va_cpy fr gr 0 0 175) (va_cpy fu gu 0 0 361) := by
  obtain ⟨k0, kn, kd, kxy, km, kl, kr, ku, kk⟩ := h
  have en : zbT (va_cpy fn gn 0 0 325) = zbT fn := zbT_ext fun i hi => va_cpy0 _ _ hi
  have ed : zbT (va_cpy fd gd 0 0 325) = zbT fd := zbT_ext fun i hi => va_cpy0 _ _ hi
  refine ⟨by rw [h0]; exact k0, zCr_cpy kn, zCr_cpy kd, by rw [h3, h4]; exact kxy, by rw [h5]; exact km, by rw [h5]; exact hl, fun i hi => by rw [va_cpy0 _ _ hi]; exact kr i hi, fun i hi => by rw [va_cpy0 _ _ hi]; exact ku i hi, ?_⟩
  unfold zKk at kk ⊢
  rw [en, ed, h3, h4, h10, h12, h13]
  refine ⟨kk.1, kk.2.1, kk.2.2.1, kk.2.2.2.1, kk.2.2.2.2.1, fun e => ?_⟩
  obtain ⟨q1, i, hi, q2⟩ := kk.2.2.2.2.2 e
  have hz := znat (x := g 10) (by omega)
  exact ⟨q1, i, hi, by rw [va_cpy0 _ _ (by omega)]; exact q2⟩
