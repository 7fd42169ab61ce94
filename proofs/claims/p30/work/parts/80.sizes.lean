/-! sums either way, sizes of products -/
theorem zCon.mono {k : Nat} {y : zQ} {As : List Value} {w : zM} {φ ψ : Option Value → zM → Prop} (h : zCon k y As w φ) (hi : ∀ v w', φ v w' → ψ v w') : zCon k y As w ψ := fun d sz hd => by
  obtain ⟨f, r, w2, z, h1, h2, v, h3, h4⟩ := h d sz hd
  exact ⟨f, r, w2, z, h1, h2, v, h3, hi v w2 h4⟩
theorem c_X16_plus_Wb {w : zM} {p q : zA2} (b : Nat) (a : Nat) (less : Int32) (hB_a : zB w a p) (hB_b : zB w b q) (hab : a + 130 ≤ b ∨ b + 130 ≤ a) (hz_less : less = 0 ∨ less = 1) :
    zCon 3 zq_X16_plus_ [.ref b, .ref a, .ref b, .int less] w (fun v9 w9' => ∃ R9 : zA2, zSI w w9' ∧ (∀ x, (x < a ∨ a + 130 ≤ x) ∧ (x < b ∨ b + 130 ≤ x) → w9' x = w x) ∧ zB w9' b R9 ∧ zB w9' a p ∧
      ((∀ N, zrw p ≤ N → zrw q ≤ N → zrw R9 ≤ N) ∧ (∀ N, zdn p ≤ N → zdn q ≤ N → zdn R9 ≤ N)) ∧ v9 = none) := by
  rcases hz_less with e | e
  · rw [e]
    refine (c_X16_plus_Ab b a hB_a hB_b hab).mono fun v w' h => ?_
    obtain ⟨h1, h2, h3, h4, h5⟩ := h
    refine ⟨_, h1, h2, h3, h4, ⟨fun N k1 k2 => ?_, fun N k1 k2 => ?_⟩, h5⟩
    · have := zrw_A p q; omega
    · have := zdn_A p q; omega
  · rw [e]
    refine (c_X16_plus_Sb b a hB_a hB_b hab).mono fun v w' h => ?_
    obtain ⟨h1, h2, h3, h4, h5⟩ := h
    refine ⟨_, h1, h2, h3, h4, ⟨fun N k1 k2 => ?_, fun N k1 k2 => ?_⟩, h5⟩
    · have := zrw_S p q; omega
    · have := zdn_S p q; omega
def zMs (P p q : zA2) : Prop := zrw P ≤ zrw p + zrw q - 1 ∧ zdn P ≤ zdn p + zdn q ∧ (0 < zrw p → 0 < zrw q → 0 < zrw P)
theorem zMs_M (p q : zA2) : zMs (zbM p q) p q := ⟨zrw_Mle p q, zdn_M p q, fun h k => by have := (zrw_M h k).1; omega⟩
theorem zMs.le {P p q X Y : zA2} (h : zMs P X Y) (hx : zLe X p) (hy : zLe Y q) : zMs P p q := by
  have h1 := hx.1
  have h2 := hy.1
  have h3 := hx.2.1
  have h4 := hy.2.1
  exact ⟨by have := h.1; omega, by have := h.2.1; omega, fun a b => h.2.2 (hx.2.2 a) (hy.2.2 b)⟩
theorem zMs.tr {P R p q : zA2} (h : zMs R p q) (k : zLe P R) : zMs P p q := ⟨Nat.le_trans k.1 h.1, Nat.le_trans k.2.1 h.2.1, fun a b => k.2.2 (h.2.2 a b)⟩
/-- turned round: n for k and k for n -/
noncomputable def zbTn (q : zA2) : zA2 := zbOf (fun i => zaOf (fun j => (q.1 j).1 i) (zrw q)) (zdn q + 1)
theorem zaOf_c (f : Nat → zF) (n i : Nat) : (zaOf f n).1 i = if i < n then f i else 0 := rfl
theorem zaOf_ln (f : Nat → zF) (n : Nat) : zln (zaOf f n) ≤ n := zln_le (fun i hi => by rw [zaOf_c, if_neg (by omega)])
theorem zbTn_c (q : zA2) (i j : Nat) : ((zbTn q).1 i).1 j = (q.1 j).1 i := by
  unfold zbTn
  by_cases h : i < zdn q + 1
  · rw [zbOf_y h, zaOf_c]
    by_cases k : j < zrw q
    · rw [if_pos k]
    · rw [if_neg k, zrw_dg q j (by omega), zaZ_c]
  · rw [zbOf_n (by omega), zaZ_c, zln_dg (q.1 j) i (by have := zdn_le q j; omega)]
theorem zbTn_row (q : zA2) (i : Nat) (h : i < zdn q + 1) : (zbTn q).1 i = zaOf (fun j => (q.1 j).1 i) (zrw q) := zbOf_y h
theorem zbTn_rw (q : zA2) : zrw (zbTn q) ≤ zdn q + 1 := zrw_le fun i hi => zbOf_n (by omega)
theorem zbTn_dn (q : zA2) : zdn (zbTn q) ≤ zrw q - 1 := zbOf_dn fun j hj => by have := zaOf_ln (fun i => (q.1 i).1 j) (zrw q); omega
theorem zbTn_nz {q : zA2} (h : 0 < zrw q) : 0 < zrw (zbTn q) := by
  apply Nat.pos_of_ne_zero
  intro e
  have h1 := zln_hd (zln_nz (zrw_hd h))
  rw [← zbTn_c q, zrw_0.mp e, zbZ_c, zaZ_c] at h1
  exact h1 rfl
/-- rows with the same lengths -/
theorem zbOf_same {T : Nat → zA1} {q : zA2} (h : ∀ j, j < zrw q → zln (T j) = zln (q.1 j)) : zrw (zbOf T (zrw q)) = zrw q ∧ zdn (zbOf T (zrw q)) ≤ zdn q := by
  refine ⟨zrw_uniq (fun i hi => zbOf_n hi) ?_, zbOf_dn fun j hj => by rw [h j hj]; exact zdn_le q j⟩
  by_cases e : zrw q = 0
  · exact Or.inl e
  · right
    rw [zbOf_y (by omega)]
    intro k
    have h1 := h (zrw q - 1) (by omega)
    rw [k, zln_Z] at h1
    have h2 := zln_nz (zrw_hd (show 0 < zrw q by omega))
    omega
