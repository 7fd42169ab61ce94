/-! the pile -/
def zPil (w : zM) (b : Nat) : Prop := ∀ i, i < 130 → ∃ k, zTi w (b + 9 * i) k
theorem zPil.ag {w w' : zM} {b : Nat} (h : zPil w b) (he : ∀ x, b ≤ x → x < b + 1170 → w' x = w x) : zPil w' b := fun i hi => by
  obtain ⟨k, hk⟩ := h i hi
  exact ⟨k, hk.ag fun x g1 g2 => he x (by omega) (by omega)⟩
theorem zPil.up {w w' : zM} {b : Nat} (h : zPil w b) (j : Nat) {k : Int32} (hT : zTi w' (b + 9 * j) k) (he : ∀ x, b ≤ x → x < b + 1170 → (x < b + 9 * j ∨ b + 9 * j + 9 ≤ x) → w' x = w x) : zPil w' b := fun i hi => by
  by_cases e : i = j
  · rw [e]; exact ⟨k, hT⟩
  · obtain ⟨k, hk⟩ := h i hi
    exact ⟨k, hk.ag fun x g1 g2 => he x (by omega) (by omega) (by omega)⟩
/-! the slots -/
def zSlo (w : zM) (b : Nat) : Prop := ∀ i, i < 12 → ∃ k, zTi w (b + 9 * i) k
theorem zSlo.ag {w w' : zM} {b : Nat} (h : zSlo w b) (he : ∀ x, b ≤ x → x < b + 108 → w' x = w x) : zSlo w' b := fun i hi => by
  obtain ⟨k, hk⟩ := h i hi
  exact ⟨k, hk.ag fun x g1 g2 => he x (by omega) (by omega)⟩
theorem zSlo.up {w w' : zM} {b : Nat} (h : zSlo w b) (j : Nat) {k : Int32} (hT : zTi w' (b + 9 * j) k) (he : ∀ x, b ≤ x → x < b + 108 → (x < b + 9 * j ∨ b + 9 * j + 9 ≤ x) → w' x = w x) : zSlo w' b := fun i hi => by
  by_cases e : i = j
  · rw [e]; exact ⟨k, hT⟩
  · obtain ⟨k, hk⟩ := h i hi
    exact ⟨k, hk.ag fun x g1 g2 => he x (by omega) (by omega) (by omega)⟩
/-! small ones for texts -/
theorem zCr_up {f : Nat → Int32} (h : zCr f) (j : Nat) {x : Int32} (hx : zr1 x) : zCr (upd f j x) := fun i hi => by
  by_cases e : i = j
  · rw [e, zupd_s]; exact hx
  · rw [zupd_n _ _ e]; exact h i hi
theorem zbT_ex {f : Nat → Int32} (h : 0 < zrw (zbT f)) : ∃ i, i < 325 ∧ f i ≠ 0 := Classical.byContradiction fun k => by
  have h1 := zbT_0 (f := f) fun i hi => Classical.byContradiction fun e => k ⟨i, hi, e⟩
  omega
theorem zRun_no {ft : Nat → Int32} {L s x : Nat} (hno : ¬ zRun ft L s) (h : ∀ i, s ≤ i → i < x → zDig (ft i)) (hx : zDig (ft x)) (hL : x < L) : x < s + 10 := Classical.byContradiction fun k => hno fun j hj => by
  refine ⟨by omega, ?_⟩
  by_cases e : s + j < x
  · exact h _ (by omega) e
  · rw [show s + j = x by omega]; exact hx
theorem zDep_o {ft : Nat → Int32} {b : Nat} (he : ft b &&& 255 = 40) : zDep ft (b + 1) = zDep ft b + 1 := by
  show zDep ft b + _ = _
  rw [if_pos he]
theorem zDep_c {ft : Nat → Int32} {b : Nat} (he : ft b &&& 255 = 41) : zDep ft (b + 1) = zDep ft b - 1 := by
  show zDep ft b + _ = _
  rw [if_neg (by rw [he]; decide), if_pos he]
  omega
theorem zChr_p {ft : Nat → Int32} {L b : Nat} {c : Int32} (hc : zChr ft L b = c) (h1 : ¬ c = Int32.ofInt (-1)) (h40 : ¬ c = 40) (h41 : ¬ c = 41) : b < L ∧ zDep ft (b + 1) = zDep ft b := by
  obtain ⟨hb, he⟩ := zChr_lt hc h1
  exact ⟨hb, zDep_p (by rw [he]; exact h40) (by rw [he]; exact h41)⟩
theorem zPil.upt {w w' : zM} {b t : Nat} (h : zPil w b) (ht : ∃ j, j < 130 ∧ t = b + 9 * j) {k : Int32} (hT : zTi w' t k) (he : ∀ x, b ≤ x → x < b + 1170 → (x < t ∨ t + 9 ≤ x) → w' x = w x) : zPil w' b := by
  obtain ⟨j, hj, rfl⟩ := ht
  exact h.up j hT he
theorem zneg_nz {f p : Nat → Int32} (hf : zCr f) (hp : zCr p) (h : ∀ i, i < 325 → zf (p i) = 0 - zf (f i)) (h0 : 0 < zrw (zbT f)) : 0 < zrw (zbT p) := by
  obtain ⟨i, hi, hn⟩ := zbT_ex h0
  refine zbT_nz hp ⟨i, hi, fun e => zf_nz (hf i hi) hn ?_⟩
  have h1 := h i hi
  rw [e, zf_0] at h1
  grind
