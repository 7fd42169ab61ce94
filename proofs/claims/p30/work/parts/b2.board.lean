/-! the board with its lines' order told; what lies on it -/
def zBq (w : zM) (m : Nat) (σ : Nat → Nat) : Prop := (∃ f : Nat → Option Nat, w (m + 149) = some (.inr (8, 26, .inr f)) ∧ ∀ i, i < 26 → f i = some (m + 150 + σ i)) ∧ (∀ i, i < 26 → σ i < 26) ∧ (∀ i j, i < 26 → j < 26 → σ i = σ j → i = j) ∧ ∀ t, t < 26 → w (m + 150 + t) = some (.inr (4, 14, .inr (fun i => if i < 14 then some (m + 7594 + 28 * t + 2 * i) else none)))
theorem zBq.ag {w w' : zM} {m : Nat} {σ : Nat → Nat} (h : zBq w m σ) (he : ∀ x, m + 149 ≤ x → x < m + 149 + 27 → w' x = w x) : zBq w' m σ := by
  obtain ⟨⟨f, h1, h2⟩, h3, h4, h5⟩ := h
  exact ⟨⟨f, (he _ (Nat.le_refl _) (by omega)).trans h1, h2⟩, h3, h4, fun t ht => (he _ (by omega) (by omega)).trans (h5 t ht)⟩
theorem zBq.lt {w : zM} {m : Nat} {σ : Nat → Nat} (h : zBq w m σ) (i : Nat) (hi : i < 26) : σ i < 26 := h.2.1 i hi
theorem zBq.inj {w : zM} {m : Nat} {σ : Nat → Nat} (h : zBq w m σ) {i j : Nat} (hi : i < 26) (hj : j < 26) (e : σ i = σ j) : i = j := h.2.2.1 i j hi hj e
theorem zBq.row {w : zM} {m : Nat} {σ : Nat → Nat} (h : zBq w m σ) (t : Nat) (ht : t < 26) : w (m + 150 + t) = some (.inr (4, 14, .inr (fun i => if i < 14 then some (m + 7594 + 28 * t + 2 * i) else none))) := h.2.2.2 t ht
theorem zBd.q {w : zM} {m : Nat} (h : zBd w (m + 149)) : ∃ σ, zBq w m σ := by
  obtain ⟨σ, ⟨f, h1, h2⟩, h3, h4, h5⟩ := h
  refine ⟨σ, ⟨f, h1, fun i hi => by rw [h2 i hi, show m + 149 + 1 + σ i = m + 150 + σ i by omega]⟩, h3, h4, fun t ht => ?_⟩
  have h6 := h5 t ht
  rw [show m + 149 + 1 + t = m + 150 + t by omega] at h6
  rw [h6, show m + 149 + 7445 = m + 7594 by omega]
theorem zBq.d {w : zM} {m : Nat} {σ : Nat → Nat} (h : zBq w m σ) : zBd w (m + 149) := by
  obtain ⟨⟨f, h1, h2⟩, h3, h4, h5⟩ := h
  refine ⟨σ, ⟨f, h1, fun i hi => by rw [h2 i hi, show m + 149 + 1 + σ i = m + 150 + σ i by omega]⟩, h3, h4, fun t ht => ?_⟩
  have h6 := h5 t ht
  rw [show m + 149 + 1 + t = m + 150 + t by omega, h6, show m + 149 + 7445 = m + 7594 by omega]
theorem zbq_at {b : Nat} {j : Int32} (hj : 0 ≤ j.toInt ∧ j.toInt < 14) : va_rf ((fun i => if i < 14 then some (b + 2 * i) else none) j.toNatClampNeg) = .ref (b + 2 * j.toNatClampNeg) := by
  have h1 := znat hj.1
  show va_rf (if j.toNatClampNeg < 14 then some (b + 2 * j.toNatClampNeg) else none) = _
  rw [if_pos (by omega)]; rfl
def zwp (a b : Nat) (i : Nat) : Nat := if i = b then a else if i = a then b else i
theorem zwp_lt {a b n i : Nat} (ha : a < n) (hb : b < n) (hi : i < n) : zwp a b i < n := by
  unfold zwp
  repeat' split
  all_goals omega
theorem zwp_ge {a b r i : Nat} (ha : r ≤ a) (hb : r ≤ b) (hi : r ≤ i) : r ≤ zwp a b i := by
  unfold zwp
  repeat' split
  all_goals omega
theorem zwp_lo {a b r i : Nat} (ha : r ≤ a) (hb : r ≤ b) (hi : i < r) : zwp a b i = i := by
  unfold zwp
  rw [if_neg (by omega), if_neg (by omega)]
theorem zwp_inj {a b i j : Nat} (e : zwp a b i = zwp a b j) : i = j := by
  unfold zwp at e
  repeat' split at e
  all_goals omega
/-- two lines change places: board[b] = the line at a, then board[a] = what was the line at b -/
theorem zBq.sw {w w2 : zM} {m : Nat} {σ : Nat → Nat} {f : Nat → Option Nat} {a b : Nat} (h : zBq w m σ) (h0 : w (m + 149) = some (.inr (8, 26, .inr f))) (ha : a < 26) (hb : b < 26) (he : ∀ x, x ≠ m + 149 → w2 x = w x)
    (hc : w2 (m + 149) = some (.inr (8, 26, .inr (va_up (va_up f b (some (m + 150 + σ a))) a (some (m + 150 + σ b)))))) : zBq w2 m (fun i => σ (zwp a b i)) := by
  obtain ⟨⟨f', h1, h2⟩, h3, h4, h5⟩ := h
  rw [h0] at h1
  cases h1
  refine ⟨⟨_, hc, fun i hi => ?_⟩, fun i hi => h3 _ (zwp_lt ha hb hi), fun i j hi hj e => zwp_inj (h4 _ _ (zwp_lt ha hb hi) (zwp_lt ha hb hj) e), fun t ht => (he _ (by omega)).trans (h5 t ht)⟩
  by_cases e1 : i = a
  · subst e1
    rw [va_up_self]
    by_cases e2 : i = b
    · subst e2
      show _ = some (m + 150 + σ (zwp i i i))
      rw [zwp, if_pos rfl]
    · show _ = some (m + 150 + σ (zwp i b i))
      rw [zwp, if_neg e2, if_pos rfl]
  · rw [va_up_ne _ _ e1]
    by_cases e2 : i = b
    · subst e2
      rw [va_up_self]
      show _ = some (m + 150 + σ (zwp a i i))
      rw [zwp, if_pos rfl]
    · rw [va_up_ne _ _ e2, h2 i hi]
      show _ = some (m + 150 + σ (zwp a b i))
      rw [zwp, if_neg e2, if_neg e1]
def zBc (w : zM) (m : Nat) (σ : Nat → Nat) (n K : Nat) (B : Nat → Nat → zA1) : Prop := ∀ i k, i < n → k < K → zU w (m + 7594 + 28 * σ i + 2 * k) 1000 (B i k)
theorem zBc.ag {w w' : zM} {m n K : Nat} {σ : Nat → Nat} {B : Nat → Nat → zA1} (h : zBc w m σ n K B) (hn : n ≤ 26) (hK : K ≤ 14) (hs : ∀ i, i < 26 → σ i < 26) (he : ∀ x, m + 7594 ≤ x → x < m + 7594 + 728 → w' x = w x) : zBc w' m σ n K B := fun i k hi hk => by
  have := hs i (by omega)
  exact (h i k hi hk).ag (fun x h1 h2 => he x (by omega) (by omega))
theorem zBc.st {w w' : zM} {m n K : Nat} {σ : Nat → Nat} {B : Nat → Nat → zA1} {a b : Nat} {p : zA1} (h : zBc w m σ n K B) (hn : n ≤ 26) (hK : K ≤ 14) (hq : zBq w m σ) (ha : a < n) (hb : b < K) (hU : zU w' (m + 7594 + 28 * σ a + 2 * b) 1000 p)
    (he : ∀ x, m + 7594 ≤ x → x < m + 7594 + 728 → (x < m + 7594 + 28 * σ a + 2 * b ∨ m + 7594 + 28 * σ a + 2 * b + 2 ≤ x) → w' x = w x) : zBc w' m σ n K (fun i k => if i = a ∧ k = b then p else B i k) := fun i k hi hk => by
  by_cases e : i = a ∧ k = b
  · obtain ⟨rfl, rfl⟩ := e
    show zU _ _ _ (if i = i ∧ k = k then p else B i k)
    rw [if_pos ⟨rfl, rfl⟩]; exact hU
  · show zU _ _ _ (if i = a ∧ k = b then p else B i k)
    rw [if_neg e]
    have h1 := hq.lt i (by omega)
    have h2 := hq.lt a (by omega)
    by_cases e2 : i = a
    · subst e2
      have h3 : ¬ k = b := fun e3 => e ⟨rfl, e3⟩
      exact (h i k hi hk).ag (fun x g1 g2 => he x (by omega) (by omega) (by omega))
    · have h3 : σ i ≠ σ a := fun e3 => e2 (hq.inj (by omega) (by omega) e3)
      exact (h i k hi hk).ag (fun x g1 g2 => he x (by omega) (by omega) (by omega))
theorem zBc.sw {w : zM} {m n K a b : Nat} {σ : Nat → Nat} {B : Nat → Nat → zA1} (h : zBc w m σ n K B) (ha : a < n) (hb : b < n) : zBc w m (fun i => σ (zwp a b i)) n K (fun i => B (zwp a b i)) := fun i k hi hk => h _ k (zwp_lt ha hb hi) hk
theorem zex_q {L P q : zA1} (h : P = zaM L q) (hL : 0 < zln L) : zaM L (zquo P L) = P := by
  have h1 : zdv L P := ⟨q, h.trans (zA1R.mul_comm L q)⟩
  have h2 := zdv_quo hL h1
  exact (zA1R.mul_comm L (zquo P L)).trans h2.symm
theorem zA1_dom : ∀ a b : zA1, zaM a b = zaZ → a = zaZ ∨ b = zaZ := fun _ _ h => zaM_z h
theorem zvb0 : vp_nar .boolean (0 : Int32) = 0 := by decide
theorem zvb1 : vp_nar .boolean (1 : Int32) = 1 := by decide
theorem zvbn {x : Int32} (h : x = 0 ∨ x = 1) : vp_nar .boolean x = x := by rcases h with rfl | rfl <;> decide
theorem zwp_a (a b : Nat) : zwp a b a = b := by
  unfold zwp
  split
  · next e => exact e
  · rw [if_pos rfl]
theorem zdq_BI2 {A : Nat → Nat → zA1} {c : Nat → Nat} {n K r d : Nat} {L : zA1} {B : Nat → Nat → zA1} (h : @zBI zA1 zA1R A c n K r L B) (hA : ∀ i k, i < n → k < K → zdq (A i k) d) (hr : (r + 1) * d ≤ 498) : zln L ≤ 499 ∧ ∀ i k, i < n → k < K → zln (B i k) ≤ 499 := by
  obtain ⟨h1, h2, h3⟩ := zdq_BI h hA
  have h4 : r * d ≤ 498 := by rw [Nat.succ_mul] at hr; omega
  unfold zdq at h1 h2 h3
  refine ⟨by omega, fun i k hi hk => ?_⟩
  by_cases e : i < r
  · have := h2 i k e hk; omega
  · have := h3 i k (by omega) hi hk; omega
theorem zdq_end {A : Nat → Nat → zA1} {c : Nat → Nat} {n K r d : Nat} {L : zA1} {B : Nat → Nat → zA1} (h : @zBI zA1 zA1R A c n K r L B) (hA : ∀ i k, i < n → k < K → zdq (A i k) d) (hK : r ≤ K) (hr : ∀ r9, r9 < n → r9 < K → (r9 + 1) * d ≤ 498) : 0 < zln L ∧ zln L ≤ 499 ∧ ∀ i k, i < r → k < K → zln (B i k) ≤ 499 := by
  obtain ⟨h1, h2, h3⟩ := zdq_BI h hA
  obtain ⟨a1, -, a3, -⟩ := h
  have h4 : r * d ≤ 498 := by
    by_cases e : r = 0
    · subst e; rw [Nat.zero_mul]; omega
    · have := hr (r - 1) (by omega) (by omega)
      rwa [show r - 1 + 1 = r by omega] at this
  unfold zdq at h1 h2
  refine ⟨zln_nz a3, by omega, fun i k hi hk => ?_⟩
  have := h2 i k hi hk
  omega
theorem zaS_ZZ : zaS zaZ zaZ = zaZ := za_ext fun i => by rw [zaS_c, zaZ_c]; exact zF_s0 0
