/-! degrees in n of a product -/
theorem zlast {Q : Nat → Prop} : ∀ n, (∀ j, n ≤ j → ¬ Q j) → (∃ j, Q j) → ∃ j, Q j ∧ ∀ t, j < t → ¬ Q t
  | 0, h, ⟨j, hj⟩ => absurd hj (h j (Nat.zero_le j))
  | n + 1, h, he => by
    by_cases e : Q n
    · exact ⟨n, e, fun t ht => h t (by omega)⟩
    · refine zlast n (fun j hj => ?_) he
      by_cases e' : j = n
      · rw [e']; exact e
      · exact h j (by omega)
theorem zdn_at {q : zA2} (h : 0 < zrw q) : ∃ j, zln (q.1 j) = zdn q + 1 ∧ ∀ t, j < t → zln (q.1 t) ≤ zdn q := by
  have he : ∃ j, zln (q.1 j) = zdn q + 1 := by
    apply Classical.byContradiction
    intro hn
    have h1 : ∀ j, zln (q.1 j) ≤ zdn q := fun j => by
      have h2 := zdn_le q j
      have h3 : zln (q.1 j) ≠ zdn q + 1 := fun e => hn ⟨j, e⟩
      omega
    by_cases e : zdn q = 0
    · exact zrw_hd h (zln_0.mp (by have := h1 (zrw q - 1); omega))
    · have := zdn_min (q := q) (M := zdn q - 1) (fun j => by have := h1 j; omega)
      omega
  obtain ⟨j, h1, h2⟩ := zlast (Q := fun j => zln (q.1 j) = zdn q + 1) (zrw q) (fun j hj => by
    show ¬ zln (q.1 j) = zdn q + 1
    rw [zrw_dg q j hj, zln_Z]; omega) he
  exact ⟨j, h1, fun t ht => by
    have h3 := h2 t ht
    have h4 := zdn_le q t
    have h5 : zln (q.1 t) ≠ zdn q + 1 := h3
    omega⟩
theorem zaSm_c (f : Nat → zA1) (k : Nat) : ∀ n, (zaSm n f).1 k = zSm n (fun t => (f t).1 k)
  | 0 => zaZ_c k
  | n + 1 => by
    rw [zaSm_S, zaA_c, zaSm_c f k n]
    rfl
theorem zSm_oneq {R : Type} [Lean.Grind.CommRing R] (f : Nat → R) (n j : Nat) (hj : j < n) (h : ∀ t, t < n → t ≠ j → f t = 0) : zSm n f = f j := by
  rw [zSm_cut f (j + 1) n (by omega) (fun t h1 h2 => h t h2 (by omega))]
  show zSm j f + f j = f j
  rw [zSm_0 f j (fun t ht => h t (by omega) (by omega))]
  grind
theorem zdn_MM {p q : zA2} (hp : 0 < zrw p) (hq : 0 < zrw q) : zdn (zbM p q) = zdn p + zdn q := by
  apply Nat.le_antisymm (zdn_M p q)
  obtain ⟨j, hj1, hj2⟩ := zdn_at hp
  obtain ⟨i, hi1, hi2⟩ := zdn_at hq
  apply Nat.le_of_not_lt
  intro hlt
  have h0 : ((zbM p q).1 (j + i)).1 (zdn p + zdn q) = 0 := zln_dg _ _ (by have := zdn_le (zbM p q) (j + i); omega)
  have h1 : (zbM p q).1 (j + i) = zaSm (j + i + 1) (fun s => zaM (p.1 s) (q.1 (j + i - s))) := @zcv_sum zA1 zA1R q.1 (j + i) p.1
  have h2 : zSm (j + i + 1) (fun t => (zaM (p.1 t) (q.1 (j + i - t))).1 (zdn p + zdn q)) = (fun t => (zaM (p.1 t) (q.1 (j + i - t))).1 (zdn p + zdn q)) j := zSm_oneq (fun t => (zaM (p.1 t) (q.1 (j + i - t))).1 (zdn p + zdn q)) (j + i + 1) j (by omega) (fun t h2 h3 => by
    show (zaM (p.1 t) (q.1 (j + i - t))).1 (zdn p + zdn q) = 0
    refine zln_dg _ _ ?_
    have h4 := zln_Mle (p.1 t) (q.1 (j + i - t))
    have h5 := zdn_le p t
    have h6 := zdn_le q (j + i - t)
    by_cases e : j < t
    · have := hj2 t e; omega
    · have := hi2 (j + i - t) (by omega); omega)
  rw [h1, zaSm_c, h2] at h0
  have h7 : (zaM (p.1 j) (q.1 i)).1 (zdn p + zdn q) = 0 := by
    have h3 : (zaM (p.1 j) (q.1 (j + i - j))).1 (zdn p + zdn q) = 0 := h0
    rw [show j + i - j = i by omega] at h3
    exact h3
  have h8 := @zln_M (p.1 j) (q.1 i) (by omega) (by omega)
  have h9 := @zln_hd (zaM (p.1 j) (q.1 i)) (by omega)
  rw [show zln (zaM (p.1 j) (q.1 i)) - 1 = zdn p + zdn q by omega] at h9
  exact h9 h7
