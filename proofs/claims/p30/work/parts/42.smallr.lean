/-! what coprime polynomials in two letters leave over can be had small -/
theorem zlin_add {B : Type} [Lean.Grind.CommRing B] (a b c d f g : B) : (a + b) * f + (c + d) * g = (a * f + c * g) + (b * f + d * g) := by grind
theorem zlin_sm {B : Type} [Lean.Grind.CommRing B] (c a b f g : B) : c * a * f + c * b * g = c * (a * f + b * g) := by grind
theorem zPl_hmul {R : Type} [Lean.Grind.CommRing R] (hR : ∀ a b : R, a * b = 0 → a = 0 ∨ b = 0) (g w : zPl R) (n : Nat) :
    letI := zPlR R
    ¬ zDg g.1 n → zDg (g * w).1 n → w = 0 := by
  intro hg h
  by_cases hw : zDg w.1 0
  · exact zPl_zero hw
  exfalso
  obtain ⟨d, hd⟩ := g.2
  obtain ⟨e, he⟩ := w.2
  obtain ⟨a, ha, na⟩ := zDg_least d hd (fun z => hg (zDg_mono z (Nat.zero_le n)))
  obtain ⟨b, hb, nb⟩ := zDg_least e he hw
  have ht := zDg_top hb a g.1 ha
  by_cases h2 : a + 1 ≤ n
  · exact hg (zDg_mono ha h2)
  · have h3 : zcv g.1 w.1 (a + b) = 0 := h (a + b) (by omega)
    rw [h3] at ht
    rcases hR _ _ ht.symm with h4 | h4
    · exact na h4
    · exact nb h4
def zWx (f g : zA2) (M p q : Nat) (x : Nat → zF) : zA2 := letI := zA2R; zBk x M 0 q * f + zBk x M q p * g
theorem zWx_add (f g : zA2) (M p q : Nat) (x y : Nat → zF) : letI := zA2R; zWx f g M p q (fun j => x j + y j) = zWx f g M p q x + zWx f g M p q y := by
  unfold zWx
  rw [zBk_add, zBk_add]
  exact @zlin_add zA2 zA2R _ _ _ _ f g
theorem zWx_sm (f g : zA2) (M p q : Nat) (c : zF) (x : Nat → zF) : letI := zA1R; letI := zA2R; zWx f g M p q (fun j => c * x j) = zKo (zKo c) * zWx f g M p q x := by
  unfold zWx
  rw [zBk_sm, zBk_sm]
  exact @zlin_sm zA2 zA2R _ _ _ f g
theorem zWx_dn (f g : zA2) (M N p q : Nat) (x : Nat → zF) (hf : zDn f N) (hg : zDn g N) : zDn (zWx f g M p q x) (M + N) :=
  zDn_add _ _ _ (zDn_mul _ _ _ _ (zBk_dn x M 0 q) hf) (zDn_mul _ _ _ _ (zBk_dn x M q p) hg)
theorem zWx_dg (f g : zA2) (M p q : Nat) (x : Nat → zF) (hf : @zDg zA1 zA1R f.1 (p + 1)) (hg : @zDg zA1 zA1R g.1 (q + 1)) : @zDg zA1 zA1R (zWx f g M p q x).1 (p + q) :=
  @zDg_add zA1 zA1R _ _ _ (fun i hi => @zDg_mul zA1 zA1R _ _ hf i q _ (zBk_dg x M 0 q) (by omega)) (fun i hi => @zDg_mul zA1 zA1R _ _ hg i p _ (zBk_dg x M q p) (by omega))
theorem zSmallR (f g : zA2) (p q N : Nat) (hf : @zDg zA1 zA1R f.1 (p + 1)) (hg : @zDg zA1 zA1R g.1 (q + 1)) (hgn : ¬ @zDg zA1 zA1R g.1 q) (hfN : zDn f N) (hgN : zDn g N) (hpq : 0 < p + q)
    (r : zA1) (U V : zA2) :
    letI := zA1R
    letI := zA2R
    r ≠ 0 → zKo r = U * f + V * g → ∃ (r' : zA1) (u v : zA2), r' ≠ 0 ∧ zDg r'.1 ((p + q) * N + 1 + N) ∧ zKo r' = u * f + v * g := by
  intro r0 hr
  generalize hM : (p + q) * N + 1 = M
  have hMN : 0 < M + N := by omega
  have hlt : (p + q - 1) * (M + N) < (p + q) * M := by
    obtain ⟨k, hk⟩ : ∃ k, p + q = k + 1 := ⟨p + q - 1, by omega⟩
    rw [hk] at hM ⊢
    have e1 : k + 1 - 1 = k := by omega
    rw [e1, Nat.mul_add, Nat.succ_mul]
    rw [Nat.succ_mul] at hM
    omega
  obtain ⟨x, ⟨j, hj, nj⟩, h2, h3⟩ := zLinL zF_hinv (by decide : (1 : zF) ≠ 0) ((p + q - 1) * (M + N)) ((p + q) * M)
    (fun i x => ((zWx f g M p q x).1 (1 + i / (M + N))).1 (i % (M + N)))
    (fun i x y => by rw [zWx_add]; rfl)
    (fun i c x => by
      rw [zWx_sm]
      exact (congrFun (congrArg Subtype.val (@zcv_cst zA1 zA1R (zKo c) (zWx f g M p q x).1 (1 + i / (M + N)))) (i % (M + N))).trans (zcv_cst c _ _)) hlt
  have hdn := zWx_dn f g M N p q x hfN hgN
  have hdg := zWx_dg f g M p q x hf hg
  have hz : ∀ i, 0 < i → (zWx f g M p q x).1 i = zA1z := by
    intro i hi
    by_cases h : i < p + q
    · apply zPl_ext
      funext a
      have hra : zA1z.1 a = 0 := zA1z_dg a (Nat.zero_le a)
      rw [hra]
      by_cases ha : a < M + N
      · have hb : (i - 1) * (M + N) + a < (p + q - 1) * (M + N) := by
          have : (i - 1 + 1) * (M + N) ≤ (p + q - 1) * (M + N) := Nat.mul_le_mul_right _ (by omega)
          rw [Nat.succ_mul] at this
          omega
        have h4 := h3 ((i - 1) * (M + N) + a) hb
        have e1 : ((i - 1) * (M + N) + a) / (M + N) = i - 1 := by
          rw [Nat.mul_comm, Nat.mul_add_div hMN, Nat.div_eq_of_lt ha]; omega
        have e2 : ((i - 1) * (M + N) + a) % (M + N) = a := by
          rw [Nat.mul_comm, Nat.mul_add_mod, Nat.mod_eq_of_lt ha]
        have h5 : ((zWx f g M p q x).1 (1 + ((i - 1) * (M + N) + a) / (M + N))).1 (((i - 1) * (M + N) + a) % (M + N)) = 0 := h4
        have e3 : 1 + (i - 1) = i := by omega
        rw [e1, e2, e3] at h5
        exact h5
      · exact hdn i a (by omega)
    · exact hdg i (by omega)
  have hK : zWx f g M p q x = @zKo zA1 zA1R ((zWx f g M p q x).1 0) := by
    apply @zPl_ext zA1 zA1R
    funext i
    cases i with
    | zero => rfl
    | succ i => exact hz (i + 1) (by omega)
  refine ⟨(zWx f g M p q x).1 0, zBk x M 0 q, zBk x M q p, ?_, hdn 0, hK.symm⟩
  intro h0
  have hW : zWx f g M p q x = @OfNat.ofNat zA2 0 (zA2R.ofNat 0) := by
    rw [hK, h0]
    exact @zKo_0 zA1 zA1R
  have hg0 : g ≠ @OfNat.ofNat zA2 0 (zA2R.ofNat 0) := by
    intro z
    apply hgn
    rw [z]
    intro i hi
    show @zcst zA1 zA1R (@zNc zA1 zA1R 0) i = _
    rw [@zNc0 zA1 zA1R, @zcst_zero zA1 zA1R]
  have hc := @zCop zA1 zA2 zA1R zA2R (fun a b => @zPl_dom zA1 zA1R (fun a b => zPl_dom zF_dom a b) a b) (fun b n => @zDg zA1 zA1R b.1 n) (@zKo zA1 zA1R)
    (fun a h => @zKo_inj zA1 zA1R _ _ (h.trans (@zKo_0 zA1 zA1R).symm))
    (fun c u n h i hi => (@zcv_cst zA1 zA1R c u.1 i).trans ((congrArg (fun t => zA1R.mul c t) (h i hi)).trans (zA1R.mul_zero c)))
    (fun g w n h1 h2 => @zPl_hmul zA1 zA1R (fun a b => zPl_dom zF_dom a b) g w n h1 h2)
    f g U V (zBk x M 0 q) (zBk x M q p) r r0 hr hW q hgn (zBk_dg x M 0 q) hg0
  have hM0 : 0 < M := by omega
  apply nj
  have hjm := Nat.div_add_mod j M
  have hjl := Nat.mod_lt j hM0
  have hjd : j / M < p + q := Nat.div_lt_of_lt_mul (by rw [Nat.mul_comm]; exact hj)
  rw [Nat.mul_comm] at hjm
  by_cases hq : j / M < q
  · have := zBk_inj x M 0 q hc.1 (j / M) (j % M) hq hjl
    rw [Nat.zero_add, hjm] at this
    exact this
  · have := zBk_inj x M q p hc.2 (j / M - q) (j % M) (by omega) hjl
    have e : q + (j / M - q) = j / M := by omega
    rw [e, hjm] at this
    exact this
