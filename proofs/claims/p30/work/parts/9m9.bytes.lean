/-! arrays of bytes: what lies there fits -/
def zFit (f : Nat → Int32) (n : Nat) : Prop := ∀ i, i < n → fits .byte (.int (f i)) = true
def zBya (w : zM) (a n : Nat) : Prop := ∃ f : Nat → Int32, w a = some (.inr (1, n, .inl f)) ∧ zFit f n
theorem zBya.ag {w w' : zM} {a n : Nat} (h : zBya w a n) (he : ∀ x, a ≤ x → x < a + 1 → w' x = w x) : zBya w' a n := by
  obtain ⟨f, h1, h2⟩ := h
  exact ⟨f, (he a (Nat.le_refl _) (by omega)).trans h1, h2⟩
theorem zFit_up {f : Nat → Int32} {n : Nat} (h : zFit f n) (j : Nat) (x : Int32) : zFit (upd f j (vp_nar .byte x)) n := fun i hi => by
  by_cases e : i = j
  · rw [e, zupd_s]
    have h1 : vp_nar .byte x = x.toInt8.toInt32 := by simp [vp_nar, narrow]
    rw [h1]
    exact pk_fb x
  · rw [zupd_n _ _ e]; exact h i hi
theorem zFit_cpy {f g : Nat → Int32} {n0 n1 sp dp nn : Nat} (hf : zFit f n0) (hg : zFit g n1) (h : sp + nn ≤ n0) : zFit (va_cpy f g sp dp nn) n1 := fun i hi => by
  unfold va_cpy
  split
  · exact hf _ (by omega)
  · exact hg i hi
theorem zr_acpyB {d : Nat} {q : zQ} {pc : Nat} {lv : zL} {w : zM} {sz mc ms : Nat} {Post : Option (Option Value) → zM → Nat → Prop} {a b : Nat} {r : List Value} {idx n0 n1 : Nat} {f g : Nat → Int32} {nn sp dp : Int32} (hi : zlk (zqI q) pc = some (.invokestatic idx)) (hk : zlk (zqK q) idx = some 1003) (ha : w a = some (.inr (1, n0, .inl f))) (hb : w b = some (.inr (1, n1, .inl g))) (hF : zFit f n0) (h1 : 0 ≤ sp.toInt) (h2 : 0 ≤ dp.toInt) (h3 : 0 ≤ nn.toInt) (h4 : sp.toInt + nn.toInt ≤ n0) (h5 : dp.toInt + nn.toInt ≤ n1) (hd : 1 ≤ d) (hs : zsum r ≤ 8)
    (kk : zP d q (pc + 3) lv r (zup w b (.inr (1, n1, .inl (va_cpy f g sp.toNatClampNeg dp.toNatClampNeg nn.toNatClampNeg)))) sz mc ms Post) : zP d q pc lv (.int nn :: .int dp :: .ref b :: .int sp :: .ref a :: r) w sz mc ms Post := by
  have l0 : (0 : Int32).toInt = 0 := by decide
  have e1 := znat h1
  have e2 := znat h2
  have e3 := znat h3
  have n1' : ¬ sp < 0 := fun h => by have := zltI h; omega
  have n2' : ¬ dp < 0 := fun h => by have := zltI h; omega
  have n3' : ¬ nn < 0 := fun h => by have := zltI h; omega
  refine zp_spec hi rfl rfl rfl rfl ?_ kk
  simp only [zspec, hk, ha, hb]
  rw [if_pos ⟨hd, hs, trivial, n1', n2', n3', by omega, by omega⟩]
  exact if_pos fun i hi => hF _ (by omega)
/-! a switch -/
def zsw (pc : Nat) (x dflt lo hi : Int) (offs : Array Int) : Option Nat := if x < lo ∨ hi < x then (bif ztgok pc dflt then some (ztg pc dflt) else none) else match offs[(x - lo).toNat]? with
  | some off => bif ztgok pc off then some (ztg pc off) else none
  | none => none
theorem zr_tsw {d : Nat} {q : zQ} {pc : Nat} {lv : zL} {w : zM} {sz mc ms : Nat} {Post : Option (Option Value) → zM → Nat → Prop} {r : List Value} {x : Int32} {dflt lo hi : Int} {offs : Array Int} {t : Nat} (h0 : zlk (zqI q) pc = some (.tableswitch dflt lo hi offs)) (h : zsw pc x.toInt dflt lo hi offs = some t) (kk : zP d q t lv r w sz mc ms Post) : zP d q pc lv (.int x :: r) w sz mc ms Post := by
  refine zp_spec h0 rfl rfl rfl rfl ?_ kk
  simp only [zspec]
  unfold zsw at h
  split at h
  · next k =>
    rw [if_pos k]
    cases e : ztgok pc dflt
    · rw [e] at h; cases h
    · rw [e] at h; cases h; rfl
  · next k =>
    rw [if_neg k]
    cases e : offs[(x.toInt - lo).toNat]? with
    | none => rw [e] at h; cases h
    | some off =>
      rw [e] at h
      dsimp only at h ⊢
      cases e2 : ztgok pc off
      · rw [e2] at h; cases h
      · rw [e2] at h; cases h; rfl
