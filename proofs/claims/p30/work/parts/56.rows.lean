/-! what a B holds while it is written -/
def zBw (w : zM) (b N : Nat) (q : zA2) : Prop := ∃ r : Int32, w b = some (.inl (11, [.ref (b + 1), .int r])) ∧ w (b + 1) = some (.inr (4, 64, zbr b)) ∧ r.toInt = N ∧ N ≤ 64 ∧ (∀ j, j < N → zU w (b + 2 + 2 * j) 200 (q.1 j)) ∧ (∀ j, j < 64 → zUo w (b + 2 + 2 * j) 200) ∧ ∀ j, N ≤ j → q.1 j = zaZ
theorem zBw.ag {w w' : zM} {b N : Nat} {q : zA2} (h : zBw w b N q) (he : ∀ x, b ≤ x → x < b + 130 → w' x = w x) : zBw w' b N q := by
  obtain ⟨r, h1, h2, h3, h4, h5, h6, h7⟩ := h
  exact ⟨r, (he b (by omega) (by omega)).trans h1, (he (b + 1) (by omega) (by omega)).trans h2, h3, h4, fun j hj => (h5 j hj).ag fun x g1 g2 => he x (by omega) (by omega), fun j hj => (h6 j hj).ag fun x g1 g2 => he x (by omega) (by omega), h7⟩
theorem zBw.mk {w : zM} {b N : Nat} {q : zA2} {r : Int32} (hb : zBo w b) (hr : w b = some (.inl (11, [.ref (b + 1), .int r]))) (h1 : r.toInt = N) (h2 : N ≤ 64) (h3 : ∀ j, j < N → zU w (b + 2 + 2 * j) 200 (q.1 j)) (h4 : ∀ j, N ≤ j → q.1 j = zaZ) : zBw w b N q := by
  obtain ⟨r', g1, g2, g3⟩ := hb
  exact ⟨r, hr, g2, h1, h2, h3, g3, h4⟩
theorem zBw.row {w : zM} {b N : Nat} {q : zA2} (h : zBw w b N q) (j : Nat) (hj : j < N) : zU w (b + 2 + 2 * j) 200 (q.1 j) := by
  obtain ⟨r, h1, h2, h3, h4, h5, h6, h7⟩ := h
  exact h5 j hj
theorem zBw.o {w : zM} {b N : Nat} {q : zA2} (h : zBw w b N q) : zBo w b := by
  obtain ⟨r, h1, h2, h3, h4, h5, h6, h7⟩ := h
  exact ⟨r, h1, h2, h6⟩
theorem zBw.fin {w : zM} {b N : Nat} {q : zA2} (h : zBw w b N q) (ht : N = 0 ∨ q.1 (N - 1) ≠ zaZ) : zB w b q := by
  obtain ⟨r, h1, h2, h3, h4, h5, h6, h7⟩ := h
  have e := zrw_uniq h7 ht
  exact ⟨r, h1, h2, by omega, by omega, fun j hj => h5 j (by omega), h6⟩
/-- the number of the last row -/
theorem zdn_ex (q : zA2) : ∃ N, (∀ j, zln (q.1 j) ≤ N + 1) ∧ ∀ M, (∀ j, zln (q.1 j) ≤ M + 1) → N ≤ M := by
  have hex : ∃ N, ∀ j, zln (q.1 j) ≤ N + 1 := by
    have key : ∀ d, ∃ N, ∀ j, j < d → zln (q.1 j) ≤ N + 1 := by
      intro d
      induction d with
      | zero => exact ⟨0, fun j hj => absurd hj (Nat.not_lt_zero j)⟩
      | succ d ih =>
        obtain ⟨N, hN⟩ := ih
        refine ⟨max N (zln (q.1 d)), fun j hj => ?_⟩
        by_cases e : j = d
        · rw [e]; have := Nat.le_max_right N (zln (q.1 d)); omega
        · have := hN j (by omega); have := Nat.le_max_left N (zln (q.1 d)); omega
    obtain ⟨N, hN⟩ := key (zrw q)
    refine ⟨N, fun j => ?_⟩
    by_cases e : j < zrw q
    · exact hN j e
    · rw [zrw_dg q j (by omega), zln_Z]; omega
  obtain ⟨N, hN⟩ := hex
  have key : ∀ n, (∀ j, zln (q.1 j) ≤ n + 1) → ∃ N, (∀ j, zln (q.1 j) ≤ N + 1) ∧ ∀ M, (∀ j, zln (q.1 j) ≤ M + 1) → N ≤ M := by
    intro n
    induction n with
    | zero => exact fun h => ⟨0, h, fun M _ => Nat.zero_le M⟩
    | succ n ih =>
      intro h
      by_cases e : ∀ j, zln (q.1 j) ≤ n + 1
      · exact ih e
      · refine ⟨n + 1, h, fun M hM => ?_⟩
        apply Nat.le_of_not_lt
        intro hlt
        exact e fun j => by have := hM j; omega
  exact key N hN
/-- the degree in n -/
noncomputable def zdn (q : zA2) : Nat := Classical.choose (zdn_ex q)
theorem zdn_le (q : zA2) (j : Nat) : zln (q.1 j) ≤ zdn q + 1 := (Classical.choose_spec (zdn_ex q)).1 j
theorem zdn_min {q : zA2} {M : Nat} (h : ∀ j, zln (q.1 j) ≤ M + 1) : zdn q ≤ M := (Classical.choose_spec (zdn_ex q)).2 M h
theorem zdn_row {q : zA2} {N : Nat} (h : ∀ j, j < zrw q → zln (q.1 j) ≤ N + 1) : ∀ j, zln (q.1 j) ≤ N + 1 := fun j => by
  by_cases e : j < zrw q
  · exact h j e
  · rw [zrw_dg q j (by omega), zln_Z]; omega
/-- the number at the greatest powers -/
noncomputable def zhB (q : zA2) : zF := zhd (q.1 (zrw q - 1))
theorem zhB_nz {q : zA2} (h : 0 < zrw q) : zhB q ≠ 0 := zhd_nz (zln_nz (zrw_hd h))
theorem zhB_0 {q : zA2} (h : zrw q = 0) : zhB q = 0 := zhd_0 (by rw [zrw_dg q _ (by omega), zln_Z])
theorem zbM_z {p q : zA2} (h : zbM p q = zbZ) : p = zbZ ∨ q = zbZ := @zPl_dom zA1 zA1R (fun a b => zPl_dom zF_dom a b) p q h
theorem zbM_Zl (q : zA2) : zbM zbZ q = zbZ := zA2R.zero_mul q
theorem zbM_Zr (p : zA2) : zbM p zbZ = zbZ := zA2R.mul_zero p
theorem zrw_Z : zrw zbZ = 0 := zrw_0.mpr rfl
theorem zrw_nz {p : zA2} (h : p ≠ zbZ) : 0 < zrw p := Nat.pos_of_ne_zero fun e => h (zrw_0.mp e)
theorem zrw_M {p q : zA2} (hp : 0 < zrw p) (hq : 0 < zrw q) : zrw (zbM p q) + 1 = zrw p + zrw q ∧ (zbM p q).1 (zrw p + zrw q - 2) = zaM (p.1 (zrw p - 1)) (q.1 (zrw q - 1)) := by
  have hq' : @zDg zA1 zA1R q.1 (zrw q - 1 + 1) := fun i hi => zrw_dg q i (by omega)
  have hp' : @zDg zA1 zA1R p.1 (zrw p - 1 + 1) := fun i hi => zrw_dg p i (by omega)
  have ht := @zDg_top zA1 zA1R q.1 (zrw q - 1) hq' (zrw p - 1) p.1 hp'
  have e0 : zrw p - 1 + (zrw q - 1) = zrw p + zrw q - 2 := by omega
  rw [e0] at ht
  have ht' : (zbM p q).1 (zrw p + zrw q - 2) = zaM (p.1 (zrw p - 1)) (q.1 (zrw q - 1)) := ht
  refine ⟨?_, ht'⟩
  have : zrw (zbM p q) = zrw p + zrw q - 1 := by
    apply zrw_uniq
    · intro i hi
      exact @zDg_mul zA1 zA1R q.1 (zrw q) (fun i hi => zrw_dg q i hi) i (zrw p) p.1 (fun i hi => zrw_dg p i hi) (by omega)
    · right
      rw [show zrw p + zrw q - 1 - 1 = zrw p + zrw q - 2 by omega, ht']
      intro e
      rcases zaM_z e with e | e
      · exact zrw_hd hp e
      · exact zrw_hd hq e
  omega
theorem zrw_Mle (p q : zA2) : zrw (zbM p q) ≤ zrw p + zrw q - 1 := by
  by_cases hp : zrw p = 0
  · rw [zrw_0.mp hp, zbM_Zl, zrw_Z]; omega
  · by_cases hq : zrw q = 0
    · rw [zrw_0.mp hq, zbM_Zr, zrw_Z]; omega
    · have := (@zrw_M p q (by omega) (by omega)).1
      omega
theorem zrw_A (p q : zA2) : zrw (zbA p q) ≤ max (zrw p) (zrw q) := zrw_le fun i hi => by
  rw [zbA_c, zrw_dg p i (by omega), zrw_dg q i (by omega)]
  letI := zA1R
  show (0 : zA1) + 0 = 0
  grind
theorem zrw_S (p q : zA2) : zrw (zbS p q) ≤ max (zrw p) (zrw q) := zrw_le fun i hi => by
  rw [zbS_c, zrw_dg p i (by omega), zrw_dg q i (by omega)]
  letI := zA1R
  show (0 : zA1) - 0 = 0
  grind
theorem zrw_CM {c : zA1} (h : c ≠ zaZ) (p : zA2) : zrw (zbM (zbC c) p) = zrw p := by
  apply zrw_uniq
  · intro i hi
    rw [zbCM_c, zrw_dg p i hi, zaM_Zr]
  · rcases zrw_top p with h1 | h1
    · exact Or.inl h1
    · right
      rw [zbCM_c]
      intro e
      rcases zaM_z e with e | e
      · exact h e
      · exact h1 e
theorem zrw_C {c : zA1} (h : c ≠ zaZ) : zrw (zbC c) = 1 := zrw_uniq (fun i hi => by rw [zbC_c, if_neg (by omega)]) (Or.inr h)
theorem zrw_C0 : zbC zaZ = zbZ := @zKo_0 zA1 zA1R
theorem zaC_0 : zaC 0 = zaZ := zKo_0
theorem zaC_nz {c : zF} (h : c ≠ 0) : zaC c ≠ zaZ := fun e => by
  have := zln_C h
  rw [e, zln_Z] at this
  omega
theorem zln_Mrow {p q : zA2} {A B : Nat} (hp : ∀ i, zln (p.1 i) ≤ A + 1) (hq : ∀ i, zln (q.1 i) ≤ B + 1) (i : Nat) : zln ((zbM p q).1 i) ≤ A + B + 1 := by
  have h : zDg ((zbM p q).1 i).1 (A + B + 1) := by
    refine @zcv_all zA1 zA1R (fun a => zDg a.1 (A + B + 1)) (fun a b ha hb => zDg_add ha hb) q.1 i p.1 (fun i j => ?_)
    have h1 := zln_Mle (p.1 i) (q.1 j)
    have h2 := hp i
    have h3 := hq j
    exact zDg_mono (zln_dg (zaM (p.1 i) (q.1 j))) (by omega)
  exact zln_le h
