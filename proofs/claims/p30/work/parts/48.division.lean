/-! more numbers of the machine -/
theorem zandL1 (x : Int64) (hx : 0 ≤ x.toInt) : (x &&& 1).toInt = x.toInt % 2 := by
  have h1 : (x &&& 1).toBitVec = x.toBitVec &&& 1#64 := Int64.toBitVec_and x 1
  have h2 : (x &&& 1).toInt = (x.toBitVec &&& 1#64).toInt := by rw [← h1]; rfl
  have h3 : (x.toBitVec &&& 1#64).toNat = x.toBitVec.toNat % 2 := by
    rw [BitVec.toNat_and]
    exact Nat.and_one_is_mod _
  have h4 : x.toInt = if 2 * x.toBitVec.toNat < 2 ^ 64 then (x.toBitVec.toNat : Int) else (x.toBitVec.toNat : Int) - ((2 ^ 64 : Nat) : Int) := BitVec.toInt_eq_toNat_cond x.toBitVec
  rw [h2, BitVec.toInt_eq_toNat_cond, h3]
  have h5 := x.toBitVec.isLt
  generalize x.toBitVec.toNat = n at *
  rw [if_pos (by omega)]
  split at h4 <;> omega
theorem zshrL1 (x : Int64) : (x >>> ((1 : Int32).toInt64 &&& 63)).toInt = x.toInt / 2 := by
  have e : ((1 : Int32).toInt64 &&& 63) = (1 : Int64) := by decide
  rw [e]
  have h1 : (x >>> (1 : Int64)).toBitVec = x.toBitVec.sshiftRight' ((1 : Int64).toBitVec.smod 64) := Int64.toBitVec_shiftRight x 1
  have h2 : (x >>> (1 : Int64)).toInt = (x >>> (1 : Int64)).toBitVec.toInt := rfl
  rw [h2, h1]
  have e2 : (1 : Int64).toBitVec.smod 64 = 1#64 := by decide
  rw [e2]
  show (x.toBitVec.sshiftRight (1#64).toNat).toInt = _
  rw [BitVec.toInt_sshiftRight, Int.shiftRight_eq_div_pow]
  rfl
/-- as the machine reckons modulo P -/
theorem zf_add {r a b : Int32} (h : r.toInt = a.toInt + b.toInt ∨ r.toInt = a.toInt + b.toInt - 2147483647) : zf r = zf a + zf b := by
  show zfI r.toInt = zfI a.toInt + zfI b.toInt
  rw [← zfI_add]
  exact zfI_eq (by omega)
theorem zf_sub {r a b : Int32} (h : r.toInt = a.toInt - b.toInt ∨ r.toInt = a.toInt - b.toInt + 2147483647) : zf r = zf a - zf b := by
  show zfI r.toInt = zfI a.toInt - zfI b.toInt
  rw [← zfI_sub]
  exact zfI_eq (by omega)
theorem zf_mul {r a b : Int32} (h : r.toInt = a.toInt * b.toInt % 2147483647) : zf r = zf a * zf b := by
  show zfI r.toInt = zfI a.toInt * zfI b.toInt
  rw [← zfI_mul, h, zfI_mod]
theorem zfI_mulmod {r a b : Int} (h : r = a * b % 2147483647) : zfI r = zfI a * zfI b := by
  rw [h, zfI_mod, zfI_mul]
theorem zpw_half (x : zF) {e : Nat} : zpw x e = (if e % 2 = 1 then x else 1) * zpw (x * x) (e / 2) := by
  have h : e = 2 * (e / 2) + e % 2 := by omega
  have h2 : zpw x (2 * (e / 2)) = zpw (x * x) (e / 2) := by
    rw [zpw_mul]
    show zpw (x * (x * 1)) (e / 2) = _
    rw [show x * (x * (1 : zF)) = x * x by grind]
  rcases Nat.mod_two_eq_zero_or_one e with h0 | h0
  · rw [if_neg (by omega)]
    conv => lhs; rw [h, h0, Nat.add_zero, h2]
    grind
  · rw [if_pos h0]
    conv => lhs; rw [h, h0, zpw_add, h2]
    show _ * (x * 1) = _
    grind
theorem zF_comm (a b : zF) : a * b = b * a := by grind
/-- the head of a polynomial -/
noncomputable def zhd (p : zA1) : zF := p.1 (zln p - 1)
theorem zhd_nz {p : zA1} (h : 0 < zln p) : zhd p ≠ 0 := zln_hd h
theorem zhd_0 {p : zA1} (h : zln p = 0) : zhd p = 0 := zln_dg p _ (by omega)
/-- not in lowest form yet: N numbers, the last of which may be 0 -/
def zUw (w : zM) (a cap N : Nat) (p : zA1) : Prop := ∃ (n : Int32) (f : Nat → Int32), w a = some (.inl (14, [.ref (a + 1), .int n])) ∧ w (a + 1) = some (.inr (0, cap, .inl f)) ∧ n.toInt = N ∧ N ≤ cap ∧ (∀ i, i < N → zr1 (f i) ∧ zf (f i) = p.1 i) ∧ zDg p.1 N
theorem zUw.ag {w w' : zM} {a cap N : Nat} {p : zA1} (h : zUw w a cap N p) (he : ∀ x, a ≤ x → x < a + 2 → w' x = w x) : zUw w' a cap N p := by
  obtain ⟨n, f, h1, h2, h3⟩ := h
  exact ⟨n, f, (he a (by omega) (by omega)).trans h1, (he (a + 1) (by omega) (by omega)).trans h2, h3⟩
theorem zcpy0 (f g : Nat → Int32) (n i : Nat) (hi : i < n) : va_cpy f g (0 : Int32).toNatClampNeg (0 : Int32).toNatClampNeg n i = f i := by
  unfold va_cpy
  rw [show (0 : Int32).toNatClampNeg = 0 by decide, if_pos (by omega)]
  congr 1
  omega
theorem zupd_s (f : Nat → Int32) (k : Nat) (x : Int32) : upd f k x k = x := by
  unfold upd; rw [if_pos rfl]
theorem zupd_n (f : Nat → Int32) {k j : Nat} (x : Int32) (h : j ≠ k) : upd f k x j = f j := by
  unfold upd; rw [if_neg h]
/-! division -/
theorem zaC_mul (a b : zF) : zaM (zaC a) (zaC b) = zaC (a * b) := (zKo_mul a b).symm
theorem zaC_1 : zaC 1 = zaO := zKo_1
theorem zdm_ex (p d : zA1) (hd : 0 < zln d) : ∃ q r : zA1, p = zaA (zaM q d) r ∧ zln r < zln d := by
  obtain ⟨y, hy⟩ := zF_hinv _ (zln_hd hd)
  have h1 : zDg d.1 (zln d - 1 + 1) := by rw [show zln d - 1 + 1 = zln d by omega]; exact zln_dg d
  obtain ⟨q, r, hq, hr, h⟩ := zdivS hy h1 (zln p) p.1 (zln_dg p)
  refine ⟨⟨q, _, hq⟩, ⟨r, _, hr⟩, zPl_ext (funext h), ?_⟩
  have := @zln_le ⟨r, _, hr⟩ _ hr
  omega
theorem zdm_uniq {p d q r q' r' : zA1} (h : p = zaA (zaM q d) r) (hr : zln r < zln d) (h' : p = zaA (zaM q' d) r') (hr' : zln r' < zln d) : q = q' ∧ r = r' := by
  have e : zaM (zaS q q') d = zaS r' r := by
    letI := zA1R
    show (q - q') * d = r' - r
    have h1 : p = q * d + r := h
    have h2 : p = q' * d + r' := h'
    grind
  have hq : zaS q q' = zaZ := by
    apply Classical.byContradiction
    intro hn
    have h1 := zln_M (zln_nz hn) (show 0 < zln d by omega)
    rw [e] at h1
    have h2 := zln_S r' r
    have h3 := zln_nz hn
    omega
  have hqq : q = q' := by
    letI := zA1R
    have h1 : q - q' = 0 := hq
    grind
  refine ⟨hqq, ?_⟩
  letI := zA1R
  have h1 : p = q * d + r := h
  have h2 : p = q' * d + r' := h'
  rw [hqq] at h1
  grind
noncomputable def zquo (p d : zA1) : zA1 := if h : 0 < zln d then Classical.choose (zdm_ex p d h) else zaZ
noncomputable def zrem (p d : zA1) : zA1 := if h : 0 < zln d then Classical.choose (Classical.choose_spec (zdm_ex p d h)) else zaZ
theorem zdm {p d : zA1} (h : 0 < zln d) : p = zaA (zaM (zquo p d) d) (zrem p d) ∧ zln (zrem p d) < zln d := by
  unfold zquo zrem
  rw [dif_pos h, dif_pos h]
  exact Classical.choose_spec (Classical.choose_spec (zdm_ex p d h))
theorem zdm_is {p d q r : zA1} (h : p = zaA (zaM q d) r) (hr : zln r < zln d) : q = zquo p d ∧ r = zrem p d := by
  have h1 := @zdm p d (by omega)
  exact zdm_uniq h hr h1.1 h1.2
theorem zquo_ln {p d : zA1} (h : 0 < zln d) : zln (zquo p d) = zln p + 1 - zln d := by
  obtain ⟨h1, h2⟩ := @zdm p d h
  by_cases hq : zln (zquo p d) = 0
  · rw [hq]
    have e : p = zrem p d := by
      rw [zln_0.mp hq] at h1
      conv => lhs; rw [h1]
      letI := zA1R
      show (0 : zA1) * d + zrem p d = _
      grind
    have : zln p < zln d := by rw [e]; exact h2
    omega
  · have h3 := zln_M (p := zquo p d) (q := d) (by omega) h
    have hc : ∀ i, p.1 i = (zaM (zquo p d) d).1 i + (zrem p d).1 i := fun i => congrFun (congrArg Subtype.val h1) i
    have h4 : zln p = zln (zaM (zquo p d) d) := by
      apply zln_uniq
      · intro i hi
        rw [hc, zln_dg _ i hi, zln_dg (zrem p d) i (by omega)]
        grind
      · right
        rw [hc, zln_dg (zrem p d) _ (by omega)]
        have := zln_hd (p := zaM (zquo p d) d) (by omega)
        intro e
        apply this
        grind
    omega
/-- d divides p -/
def zdv (d p : zA1) : Prop := ∃ c, p = zaM c d
theorem zdv_rem {d p : zA1} (h : 0 < zln d) : zdv d p ↔ zrem p d = zaZ := by
  constructor
  · rintro ⟨c, rfl⟩
    refine (zdm_is (q := c) (r := zaZ) ?_ (by rw [zln_Z]; exact h)).2.symm
    letI := zA1R
    show c * d = c * d + 0
    grind
  · intro e
    have h1 := (@zdm p d h).1
    rw [e] at h1
    refine ⟨zquo p d, ?_⟩
    conv => lhs; rw [h1]
    letI := zA1R
    show zquo p d * d + 0 = zquo p d * d
    grind
theorem zdv_quo {d p : zA1} (h : 0 < zln d) (hd : zdv d p) : p = zaM (zquo p d) d := by
  have h1 := (@zdm p d h).1
  rw [(zdv_rem h).mp hd] at h1
  conv => lhs; rw [h1]
  letI := zA1R
  show zquo p d * d + 0 = zquo p d * d
  grind
theorem zdv_0 (d : zA1) : zdv d zaZ := ⟨zaZ, (zaM_Zl d).symm⟩
theorem zdv_self (d : zA1) : zdv d d := ⟨zaO, by letI := zA1R; show d = 1 * d; grind⟩
theorem zdv_tr {a b c : zA1} : zdv a b → zdv b c → zdv a c := by
  rintro ⟨x, rfl⟩ ⟨y, rfl⟩
  exact ⟨zaM y x, by letI := zA1R; show y * (x * a) = y * x * a; grind⟩
theorem zdv_lin {d p q : zA1} (a b : zA1) : zdv d p → zdv d q → zdv d (zaA (zaM a p) (zaM b q)) := by
  rintro ⟨x, rfl⟩ ⟨y, rfl⟩
  exact ⟨zaA (zaM a x) (zaM b y), by letI := zA1R; show a * (x * d) + b * (y * d) = (a * x + b * y) * d; grind⟩
theorem zdv_ln {d p : zA1} (h : zdv d p) (hp : 0 < zln p) : 0 < zln d ∧ zln d ≤ zln p := by
  obtain ⟨c, rfl⟩ := h
  have hc : 0 < zln c := zln_nz fun e => by subst e; rw [zaM_Zl, zln_Z] at hp; omega
  have hd : 0 < zln d := zln_nz fun e => by subst e; rw [zaM_Zr, zln_Z] at hp; omega
  have := zln_M hc hd
  omega
/-- the monic greatest common divisor -/
def zisG (g p q : zA1) : Prop := zdv g p ∧ zdv g q ∧ (∃ u v, g = zaA (zaM u p) (zaM v q)) ∧ (zln g = 0 ∨ zhd g = 1)
theorem zisG_ex (p q : zA1) : ∃ g, zisG g p q := by
  obtain ⟨d, u, v, s, t, h1, h2, h3⟩ := zPl_bez zF_hinv p q
  by_cases hd : zln d = 0
  · exact ⟨d, ⟨s, h2⟩, ⟨t, h3⟩, ⟨u, v, h1⟩, Or.inl hd⟩
  · have hn := zln_hd (p := d) (by omega)
    obtain ⟨y, hy⟩ := zF_hinv _ hn
    have hy0 : y ≠ 0 := fun e => by rw [e] at hy; exact z1_ne (by grind)
    refine ⟨zaM (zaC y) d, ⟨zaM s (zaC (d.1 (zln d - 1))), ?_⟩, ⟨zaM t (zaC (d.1 (zln d - 1))), ?_⟩, ⟨zaM (zaC y) u, zaM (zaC y) v, ?_⟩, Or.inr ?_⟩
    · have e : zaM (zaC (d.1 (zln d - 1))) (zaC y) = zaO := by rw [zaC_mul, hy, zaC_1]
      letI := zA1R
      have e' : zaC (d.1 (zln d - 1)) * zaC y = 1 := e
      have h2' : p = s * d := h2
      show p = s * zaC (d.1 (zln d - 1)) * (zaC y * d)
      grind
    · have e : zaM (zaC (d.1 (zln d - 1))) (zaC y) = zaO := by rw [zaC_mul, hy, zaC_1]
      letI := zA1R
      have e' : zaC (d.1 (zln d - 1)) * zaC y = 1 := e
      have h3' : q = t * d := h3
      show q = t * zaC (d.1 (zln d - 1)) * (zaC y * d)
      grind
    · letI := zA1R
      have h1' : d = u * p + v * q := h1
      show zaC y * d = zaC y * u * p + zaC y * v * q
      grind
    · unfold zhd
      rw [zln_CM hy0, zaCM_c]
      grind
noncomputable def zgcd (p q : zA1) : zA1 := Classical.choose (zisG_ex p q)
theorem zgcd_ok (p q : zA1) : zisG (zgcd p q) p q := Classical.choose_spec (zisG_ex p q)
theorem zdv_hd {a b : zA1} (h : zdv a b) (h' : zdv b a) (ha : zln a = 0 ∨ zhd a = 1) (hb : zln b = 0 ∨ zhd b = 1) : a = b := by
  by_cases ha0 : zln a = 0
  · obtain ⟨c, hc⟩ := h
    rw [zln_0.mp ha0] at hc ⊢
    rw [hc, zaM_Zr]
  · have hl := zdv_ln h' (by omega)
    have hl' := zdv_ln h (by omega)
    obtain ⟨c, hc⟩ := h
    have hc0 : 0 < zln c := zln_nz fun e => by rw [e, zaM_Zl] at hc; rw [hc, zln_Z] at hl; omega
    have h1 := zln_M hc0 (show 0 < zln a by omega)
    rw [← hc] at h1
    have hc1 : zln c = 1 := by omega
    have ec : c = zaC (c.1 0) := za_ext fun i => by
      rw [zaC_c]
      split
      · next e => rw [e]
      · exact zln_dg c i (by omega)
    have hha := ha.resolve_left ha0
    have hhb := hb.resolve_left (by omega)
    have e2 : zhd b = c.1 0 * zhd a := by
      unfold zhd
      rw [show zln b - 1 = zln a - 1 by omega, hc, ec, zaCM_c]
      rfl
    rw [hha, hhb] at e2
    have e3 : c.1 0 = 1 := by grind
    rw [hc, ec, e3, zaC_1]
    letI := zA1R
    show a = 1 * a
    grind
theorem zgcd_is {g p q : zA1} (h : zisG g p q) : g = zgcd p q := by
  obtain ⟨h1, h2, ⟨u, v, h3⟩, h4⟩ := h
  obtain ⟨k1, k2, ⟨u', v', k3⟩, k4⟩ := zgcd_ok p q
  refine zdv_hd ?_ ?_ h4 k4
  · rw [k3]; exact zdv_lin u' v' h1 h2
  · rw [h3]; exact zdv_lin u v k1 k2
theorem zgcd_z {p q : zA1} : zln (zgcd p q) = 0 ↔ zln p = 0 ∧ zln q = 0 := by
  obtain ⟨k1, k2, ⟨u', v', k3⟩, k4⟩ := zgcd_ok p q
  constructor
  · intro h
    constructor
    · apply Nat.eq_zero_of_not_pos
      intro hp
      have := zdv_ln k1 hp
      omega
    · apply Nat.eq_zero_of_not_pos
      intro hp
      have := zdv_ln k2 hp
      omega
  · rintro ⟨h1, h2⟩
    have h3 : zgcd p q = zaA (zaM u' zaZ) (zaM v' zaZ) := by
      conv => lhs; rw [k3]
      rw [zln_0.mp h1, zln_0.mp h2]
    rw [h3, zln_0]
    letI := zA1R
    show u' * 0 + v' * 0 = (0 : zA1)
    grind
theorem zgcd_le1 {p q : zA1} (h : 0 < zln p) : 0 < zln (zgcd p q) ∧ zln (zgcd p q) ≤ zln p := zdv_ln (zgcd_ok p q).1 h
theorem zgcd_le2 {p q : zA1} (h : 0 < zln q) : 0 < zln (zgcd p q) ∧ zln (zgcd p q) ≤ zln q := zdv_ln (zgcd_ok p q).2.1 h
theorem zgcd_le {p q : zA1} : zln (zgcd p q) ≤ max (zln p) (zln q) := by
  by_cases h : 0 < zln p
  · have := @zgcd_le1 p q h; omega
  · by_cases h' : 0 < zln q
    · have := @zgcd_le2 p q h'; omega
    · have := (@zgcd_z p q).mpr ⟨by omega, by omega⟩
      omega
theorem zgcd_m {d p q : zA1} (h1 : zdv d p) (h2 : zdv d q) : zdv d (zgcd p q) := by
  obtain ⟨k1, k2, ⟨u', v', k3⟩, k4⟩ := zgcd_ok p q
  rw [k3]
  exact zdv_lin u' v' h1 h2
theorem zgcd_0l (q : zA1) : zgcd zaZ q = zaM (zaC (zinvF (zhd q))) q := by
  symm
  apply zgcd_is
  by_cases hq : zln q = 0
  · rw [zln_0.mp hq, zaM_Zr]
    exact ⟨zdv_0 _, zdv_0 _, ⟨zaZ, zaZ, by letI := zA1R; show (0 : zA1) = 0 * 0 + 0 * 0; grind⟩, Or.inl zln_Z⟩
  · have hn := zhd_nz (p := q) (by omega)
    have hi := zinvF_mul hn
    refine ⟨zdv_0 _, ⟨zaC (zhd q), ?_⟩, ⟨zaZ, zaC (zinvF (zhd q)), ?_⟩, Or.inr ?_⟩
    · have e : zaM (zaC (zhd q)) (zaC (zinvF (zhd q))) = zaO := by rw [zaC_mul, hi, zaC_1]
      letI := zA1R
      have e' : zaC (zhd q) * zaC (zinvF (zhd q)) = 1 := e
      show q = zaC (zhd q) * (zaC (zinvF (zhd q)) * q)
      grind
    · letI := zA1R
      show zaC (zinvF (zhd q)) * q = 0 * 0 + zaC (zinvF (zhd q)) * q
      grind
    · show (zaM (zaC (zinvF (zhd q))) q).1 (zln (zaM (zaC (zinvF (zhd q))) q) - 1) = 1
      rw [zln_CM (zinvF_ne hn), zaCM_c]
      exact (zF_comm _ _).trans hi
theorem znegL (x : Int64) : (-x).toInt = (-x.toInt + 9223372036854775808) % 18446744073709551616 - 9223372036854775808 := by rw [Int64.toInt_neg, zbmL]
theorem zSm_0 {R : Type} [Lean.Grind.CommRing R] (f : Nat → R) : ∀ n, (∀ t, t < n → f t = 0) → zSm n f = 0
  | 0, _ => rfl
  | n + 1, h => by
    show zSm n f + f n = 0
    rw [zSm_0 f n (fun t ht => h t (by omega)), h n (by omega)]
    grind
theorem zSm_cut {R : Type} [Lean.Grind.CommRing R] (f : Nat → R) (n : Nat) : ∀ m, n ≤ m → (∀ t, n ≤ t → t < m → f t = 0) → zSm m f = zSm n f
  | 0, h, _ => by rw [show n = 0 by omega]
  | m + 1, h, hz => by
    by_cases e : n = m + 1
    · rw [e]
    · show zSm m f + f m = _
      rw [zSm_cut f n m (by omega) (fun t h1 h2 => hz t h1 (by omega)), hz m (by omega) (by omega)]
      grind
/-! small rules (a walk's context is too large for grind) -/
theorem zF_1l (a : zF) : 1 * a = a := by grind
theorem zF_1r (a : zF) : a * 1 = a := by grind
theorem zF_as (a b c : zF) : a * b * c = a * (b * c) := by grind
theorem zF_0m (a : zF) : 0 * a = 0 := by grind
theorem zF_m0 (a : zF) : a * 0 = 0 := by grind
theorem zF_0a (a : zF) : 0 + a = a := by grind
theorem zF_a0 (a : zF) : a + 0 = a := by grind
theorem zF_s0 (a : zF) : a - 0 = a := by grind
theorem zF_r1 (a b c : zF) : a + b + (c - b) = a + c := by grind
theorem zF_r2 {R f d : zF} (h : f * d = 1) : R - R * f * d = 0 := by grind
theorem zF_r3 (a : zF) : 0 - a * 0 = 0 := by grind
theorem zF_r4 : (0 : zF) - 0 = 0 := by grind
theorem zF_r5 (v x c : zF) : v * x + c = c + x * v := by grind
theorem zQ_up (Q : Nat → zF) (x : zF) (i : Nat) (h : Q i = 0) : (fun t => if t = i then x else Q t) = fun t => Q t + zmon x i t := by
  funext t
  unfold zmon
  split
  · next e => rw [e, h]; grind
  · grind
theorem zg_step {p q X Y Q R u1 v1 u2 v2 : zA1} (hd : X = zaA (zaM Q Y) R) (e1 : X = zaA (zaM u1 p) (zaM v1 q)) (e2 : Y = zaA (zaM u2 p) (zaM v2 q)) : R = zaA (zaM (zaS u1 (zaM Q u2)) p) (zaM (zaS v1 (zaM Q v2)) q) := by
  letI := zA1R
  have hd' : X = Q * Y + R := hd
  have e1' : X = u1 * p + v1 * q := e1
  have e2' : Y = u2 * p + v2 * q := e2
  show R = (u1 - Q * u2) * p + (v1 - Q * v2) * q
  grind
theorem zg_dv {d X Y Q R : zA1} (hd : X = zaA (zaM Q Y) R) (h1 : zdv d Y) (h2 : zdv d R) : zdv d X := by
  rw [hd]
  have := zdv_lin Q zaO h1 h2
  have e : zaA (zaM Q Y) (zaM zaO R) = zaA (zaM Q Y) R := by
    letI := zA1R
    show Q * Y + 1 * R = Q * Y + R
    grind
  rwa [e] at this
theorem zg_last {p q X : zA1} (hc : ∃ u v, X = zaA (zaM u p) (zaM v q)) (h1 : zdv X p) (h2 : zdv X q) : zaM (zaC (zinvF (zhd X))) X = zgcd p q := by
  obtain ⟨u1, v1, e1⟩ := hc
  apply zgcd_is
  by_cases hx : zln X = 0
  · have e : zaM (zaC (zinvF (zhd X))) X = X := by rw [zln_0.mp hx]; exact zaM_Zr _
    rw [e]
    exact ⟨h1, h2, ⟨u1, v1, e1⟩, Or.inl hx⟩
  · have h0 := zgcd_0l X
    obtain ⟨k1, k2, k3, k4⟩ := zgcd_ok zaZ X
    have k5 : zdv (zgcd zaZ X) X := k2
    rw [← h0]
    refine ⟨zdv_tr k5 h1, zdv_tr k5 h2, ⟨zaM (zaC (zinvF (zhd X))) u1, zaM (zaC (zinvF (zhd X))) v1, ?_⟩, k4⟩
    rw [h0]
    generalize zaC (zinvF (zhd X)) = c9 at *
    letI := zA1R
    have e1' : X = u1 * p + v1 * q := e1
    show c9 * X = c9 * u1 * p + c9 * v1 * q
    grind
theorem zgB0 (p q : zA1) : p = zaA (zaM zaO p) (zaM zaZ q) := by
  letI := zA1R
  show p = 1 * p + 0 * q
  grind
theorem zgB1 (p q : zA1) : q = zaA (zaM zaZ p) (zaM zaO q) := by
  letI := zA1R
  show q = 0 * p + 1 * q
  grind
theorem zc_at (p : zA1) {i j : Nat} (h : i = j) : p.1 i = p.1 j := by rw [h]
/-! a step of the division -/
def zDivI (p d : zA1) (Q R : Nat → zF) (k : Nat) : Prop := (∀ t, p.1 t = zcv Q d.1 t + R t) ∧ zDg R (k + zln d - 1) ∧ (∀ t, t < k → Q t = 0) ∧ zDg Q (zln p + 1 - zln d) ∧ zDg R (zln p)
theorem zDivI_0 (p d : zA1) (k : Nat) (hk : zln p ≤ k + zln d - 1) : zDivI p d (fun _ => 0) p.1 k :=
  ⟨fun t => by rw [show zcv (fun _ => (0 : zF)) d.1 t = 0 from zcv_zl _ _, zF_0a], fun t ht => zln_dg p t (by omega), fun _ _ => rfl, fun _ _ => rfl, zln_dg p⟩
theorem zDivI_s {p d : zA1} {Q R : Nat → zF} {i : Nat} {x f : zF} (hd : 0 < zln d) (hi : i + zln d ≤ zln p) (h : zDivI p d Q R (i + 1)) (hx : x = R (i + zln d - 1) * f) (hf : f * d.1 (zln d - 1) = 1) :
    zDivI p d (fun t => if t = i then x else Q t) (fun t => R t - zcv (zmon x i) d.1 t) i := by
  obtain ⟨h1, h2, h3, h4, h5⟩ := h
  have hmon : ∀ t, zcv (zmon x i) d.1 t = if i ≤ t then x * d.1 (t - i) else 0 := fun t => zcv_mon _ _ _ _
  have hadd : ∀ t, zcv (fun t => Q t + zmon x i t) d.1 t = zcv Q d.1 t + zcv (zmon x i) d.1 t := fun t => zcv_addl _ _ _ _
  have eQ := zQ_up Q x i (h3 i (by omega))
  refine ⟨fun t => ?_, fun t ht => ?_, fun t ht => ?_, fun t ht => ?_, fun t ht => ?_⟩
  · rw [eQ, hadd, h1 t, zF_r1]
  · show R t - zcv (zmon x i) d.1 t = 0
    by_cases e : t = i + zln d - 1
    · rw [hmon, if_pos (by omega), e, show i + zln d - 1 - i = zln d - 1 by omega, hx]
      exact zF_r2 hf
    · rw [hmon, if_pos (by omega), h2 t (by omega), zln_dg d _ (by omega)]
      exact zF_r3 _
  · show (if t = i then x else Q t) = 0
    rw [if_neg (by omega)]
    exact h3 t (by omega)
  · show (if t = i then x else Q t) = 0
    rw [if_neg (by omega)]
    exact h4 t ht
  · show R t - zcv (zmon x i) d.1 t = 0
    rw [h5 t ht, hmon, if_pos (by omega), zln_dg d _ (by omega)]
    exact zF_r3 _
theorem zDivI_e {p d : zA1} {Q R : Nat → zF} (hd : 0 < zln d) (h : zDivI p d Q R 0) : (∀ t, R t = (zrem p d).1 t) ∧ (∀ t, Q t = (zquo p d).1 t) ∧ zDg R (zln p) := by
  obtain ⟨h1, h2, h3, h4, h5⟩ := h
  have hE : (⟨Q, _, h4⟩ : zA1) = zquo p d ∧ (⟨R, _, h5⟩ : zA1) = zrem p d := by
    refine zdm_is (za_ext fun i => h1 i) ?_
    have h9 := @zln_le ⟨R, _, h5⟩ _ h2
    omega
  exact ⟨fun t => congrFun (congrArg Subtype.val hE.2) t, fun t => congrFun (congrArg Subtype.val hE.1) t, h5⟩
/-- the row behind a step -/
theorem zDivI_r {R : Nat → zF} {d : zA1} {i k t : Nat} {x : zF} (h : x = 0 ∨ zln d ≤ k) : R t - (if i ≤ t ∧ t < i + k then x * d.1 (t - i) else 0) = R t - zcv (zmon x i) d.1 t := by
  have hmon : ∀ t, zcv (zmon x i) d.1 t = if i ≤ t then x * d.1 (t - i) else 0 := fun t => zcv_mon _ _ _ _
  rw [hmon]
  rcases h with rfl | h
  · simp only [zF_0m, ite_self]
  · by_cases h1 : i ≤ t
    · by_cases h2 : t < i + k
      · rw [if_pos ⟨h1, h2⟩, if_pos h1]
      · rw [if_neg (fun h => h2 h.2), if_pos h1, zln_dg d _ (by omega), zF_m0]
    · rw [if_neg (fun h => h1 h.1), if_neg h1]
theorem zDivI_u {R : Nat → zF} {d : zA1} {i k t : Nat} {x : zF} : (if i ≤ t ∧ t < i + (k + 1) then x * d.1 (t - i) else 0) = (if t = i + k then x * d.1 k else if i ≤ t ∧ t < i + k then x * d.1 (t - i) else 0) := by
  by_cases e : t = i + k
  · rw [if_pos (by omega), if_pos e, e, show i + k - i = k by omega]
  · rw [if_neg e]
    by_cases h : i ≤ t ∧ t < i + k
    · rw [if_pos (by omega), if_pos h]
    · rw [if_neg (by omega), if_neg h]
theorem zaddLE (x y : Int64) (h1 : -9223372036854775808 ≤ x.toInt + y.toInt) (h2 : x.toInt + y.toInt ≤ 9223372036854775807) : (x + y).toInt = x.toInt + y.toInt := by rw [zaddL]; omega
theorem zsubLE (x y : Int64) (h1 : -9223372036854775808 ≤ x.toInt - y.toInt) (h2 : x.toInt - y.toInt ≤ 9223372036854775807) : (x - y).toInt = x.toInt - y.toInt := by rw [zsubL]; omega
theorem znegLE (x : Int64) (h1 : -9223372036854775807 ≤ x.toInt) : (-x).toInt = -x.toInt := by
  have := zrngL x
  rw [znegL]; omega
theorem znegE (x : Int32) (h1 : -2147483647 ≤ x.toInt) : (-x).toInt = -x.toInt := by
  have := zrng x
  rw [znegM]; omega
theorem zl2iE (x : Int64) (h1 : -2147483648 ≤ x.toInt) (h2 : x.toInt ≤ 2147483647) : x.toInt32.toInt = x.toInt := by rw [zl2iM]; omega
theorem zaddC (x c : Int32) {n : Int} (hc : c.toInt = n) (h1 : -2147483648 ≤ x.toInt + n) (h2 : x.toInt + n ≤ 2147483647) : (x + c).toInt = x.toInt + n := by subst hc; exact zadd x c h1 h2
theorem zsubC (x c : Int32) {n : Int} (hc : c.toInt = n) (h1 : -2147483648 ≤ x.toInt - n) (h2 : x.toInt - n ≤ 2147483647) : (x - c).toInt = x.toInt - n := by subst hc; exact zsub x c h1 h2
theorem zaddCl (c x : Int32) {n : Int} (hc : c.toInt = n) (h1 : -2147483648 ≤ n + x.toInt) (h2 : n + x.toInt ≤ 2147483647) : (c + x).toInt = n + x.toInt := by subst hc; exact zadd c x h1 h2
theorem zsubCl (c x : Int32) {n : Int} (hc : c.toInt = n) (h1 : -2147483648 ≤ n - x.toInt) (h2 : n - x.toInt ≤ 2147483647) : (c - x).toInt = n - x.toInt := by subst hc; exact zsub c x h1 h2
theorem zmulCl (c x : Int32) {n : Int} (hc : c.toInt = n) (h1 : -2147483648 ≤ n * x.toInt) (h2 : n * x.toInt ≤ 2147483647) : (c * x).toInt = n * x.toInt := by subst hc; exact zmul c x h1 h2
theorem zmulC (x c : Int32) {n : Int} (hc : c.toInt = n) (h1 : -2147483648 ≤ x.toInt * n) (h2 : x.toInt * n ≤ 2147483647) : (x * c).toInt = x.toInt * n := by subst hc; exact zmul x c h1 h2
