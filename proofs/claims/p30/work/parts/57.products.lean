/-! products row by row -/
def zaSm (n : Nat) (f : Nat → zA1) : zA1 := @zSm zA1 zA1R n f
theorem zaSm_S (n : Nat) (f : Nat → zA1) : zaSm (n + 1) f = zaA (zaSm n f) (f n) := rfl
theorem zaSm_0 (f : Nat → zA1) (n : Nat) (h : ∀ t, t < n → f t = zaZ) : zaSm n f = zaZ := @zSm_0 zA1 zA1R f n h
theorem zaA_Zr (p : zA1) : zaA p zaZ = p := zA1R.add_zero p
theorem zaA_Zl (p : zA1) : zaA zaZ p = p := by
  letI := zA1R
  show (0 : zA1) + p = p
  grind
theorem zaS_Zr (p : zA1) : zaS p zaZ = p := by
  letI := zA1R
  show p - (0 : zA1) = p
  grind
def zbAcc (p q : zA2) (i j t : Nat) : zA1 := zaA (zaSm i (fun s => if s ≤ t then zaM (p.1 s) (q.1 (t - s)) else zaZ)) (if i ≤ t ∧ t < i + j then zaM (p.1 i) (q.1 (t - i)) else zaZ)
theorem zbAcc_0 (p q : zA2) (t : Nat) : zbAcc p q 0 0 t = zaZ := by
  unfold zbAcc
  rw [if_neg (by omega), zaA_Zr]
  rfl
theorem zbAcc_j (p q : zA2) (i j t : Nat) : zbAcc p q i (j + 1) t = if t = i + j then zaA (zbAcc p q i j t) (zaM (p.1 i) (q.1 j)) else zbAcc p q i j t := by
  unfold zbAcc
  by_cases e : t = i + j
  · rw [if_pos e, if_pos (by omega), if_neg (by omega), zaA_Zr, show t - i = j by omega]
  · rw [if_neg e]
    by_cases h : i ≤ t ∧ t < i + j
    · rw [if_pos h, if_pos (by omega)]
    · rw [if_neg h, if_neg (by omega)]
theorem zbAcc_i (p q : zA2) (i j t : Nat) (hj : zrw q ≤ j) : zbAcc p q (i + 1) 0 t = zbAcc p q i j t := by
  unfold zbAcc
  rw [if_neg (by omega), zaA_Zr, zaSm_S]
  congr 1
  by_cases h : i ≤ t
  · rw [if_pos h]
    by_cases h2 : t < i + j
    · rw [if_pos ⟨h, h2⟩]
    · rw [if_neg (fun x => h2 x.2), zrw_dg q _ (by omega), zaM_Zr]
  · rw [if_neg h, if_neg (fun x => h x.1)]
theorem zbAcc_e (p q : zA2) (i t : Nat) (hi : zrw p ≤ i) : zbAcc p q i 0 t = (zbM p q).1 t := by
  have h1 : (zbM p q).1 t = zaSm (t + 1) (fun s => zaM (p.1 s) (q.1 (t - s))) := @zcv_sum zA1 zA1R q.1 t p.1
  rw [h1]
  unfold zbAcc
  rw [if_neg (by omega), zaA_Zr]
  have h2 : zaSm (t + 1) (fun s => zaM (p.1 s) (q.1 (t - s))) = zaSm (t + 1) (fun s => if s ≤ t then zaM (p.1 s) (q.1 (t - s)) else zaZ) :=
    @zSm_ext zA1 zA1R _ _ (t + 1) (fun s hs => (if_pos (show s ≤ t by omega)).symm)
  rw [h2]
  rcases Nat.le_total i (t + 1) with h | h
  · exact (@zSm_cut zA1 zA1R _ i (t + 1) h (fun s h3 h4 => by
      show (if s ≤ t then zaM (p.1 s) (q.1 (t - s)) else zaZ) = zaZ
      rw [zrw_dg p s (by omega), zaM_Zl, ite_self])).symm
  · exact @zSm_cut zA1 zA1R _ (t + 1) i h (fun s h3 h4 => by
      show (if s ≤ t then zaM (p.1 s) (q.1 (t - s)) else zaZ) = zaZ
      rw [if_neg (by omega)])
theorem zaSm_ln (n N : Nat) (f : Nat → zA1) (h : ∀ t, zln (f t) ≤ N) : zln (zaSm n f) ≤ N := by
  induction n with
  | zero => exact Nat.le_trans (Nat.le_of_eq zln_Z) (Nat.zero_le N)
  | succ n ih =>
    rw [zaSm_S]
    have := zln_A (zaSm n f) (f n)
    have := h n
    omega
theorem zbAcc_ln (p q : zA2) (i j t : Nat) : zln (zbAcc p q i j t) ≤ zdn p + zdn q + 1 := by
  have key : ∀ s u, zln (zaM (p.1 s) (q.1 u)) ≤ zdn p + zdn q + 1 := fun s u => by
    have := zln_Mle (p.1 s) (q.1 u)
    have := zdn_le p s
    have := zdn_le q u
    omega
  unfold zbAcc
  have h1 := zaSm_ln i (zdn p + zdn q + 1) (fun s => if s ≤ t then zaM (p.1 s) (q.1 (t - s)) else zaZ) (fun s => by
    split
    · exact key _ _
    · rw [zln_Z]; omega)
  have h2 := zln_A (zaSm i (fun s => if s ≤ t then zaM (p.1 s) (q.1 (t - s)) else zaZ)) (if i ≤ t ∧ t < i + j then zaM (p.1 i) (q.1 (t - i)) else zaZ)
  have h3 : zln (if i ≤ t ∧ t < i + j then zaM (p.1 i) (q.1 (t - i)) else zaZ) ≤ zdn p + zdn q + 1 := by
    split
    · exact key _ _
    · rw [zln_Z]; omega
  omega
theorem zdn_M (p q : zA2) : zdn (zbM p q) ≤ zdn p + zdn q := zdn_min fun j => zln_Mrow (zdn_le p) (zdn_le q) j
theorem zdn_CM (u : zA1) (q : zA2) : zdn (zbM (zbC u) q) ≤ zln u - 1 + zdn q := zdn_min fun j => by
  rw [zbCM_c]
  have := zln_Mle u (q.1 j)
  have := zdn_le q j
  omega
theorem zdn_A (p q : zA2) : zdn (zbA p q) ≤ max (zdn p) (zdn q) := zdn_min fun j => by
  rw [zbA_c]
  have := zln_A (p.1 j) (q.1 j)
  have := zdn_le p j
  have := zdn_le q j
  omega
theorem zdn_S (p q : zA2) : zdn (zbS p q) ≤ max (zdn p) (zdn q) := zdn_min fun j => by
  rw [zbS_c]
  have := zln_S (p.1 j) (q.1 j)
  have := zdn_le p j
  have := zdn_le q j
  omega
theorem zdn_Z : zdn zbZ = 0 := Nat.le_antisymm (zdn_min fun j => by rw [zbZ_c, zln_Z]; omega) (Nat.zero_le _)
/-! by a polynomial in n -/
theorem zquo_Z (u : zA1) (hu : 0 < zln u) : zquo zaZ u = zaZ := ((zdm_is (p := zaZ) (d := u) (q := zaZ) (r := zaZ) (by rw [zaM_Zl, zaA_Zr]) (by rw [zln_Z]; exact hu)).1).symm
theorem zquo_Zd (p u : zA1) (hu : ¬ 0 < zln u) : zquo p u = zaZ := by
  unfold zquo
  rw [dif_neg hu]
noncomputable def zbQ (q : zA2) (u : zA1) : zA2 := ⟨fun j => zquo (q.1 j) u, zrw q, fun j hj => by
  show zquo (q.1 j) u = zaZ
  rw [zrw_dg q j hj]
  by_cases hu : 0 < zln u
  · exact zquo_Z u hu
  · exact zquo_Zd _ u hu⟩
theorem zbQ_c (q : zA2) (u : zA1) (j : Nat) : (zbQ q u).1 j = zquo (q.1 j) u := rfl
theorem zbQ_eq {q : zA2} {u : zA1} (hu : 0 < zln u) (h : ∀ j, zdv u (q.1 j)) : q = zbM (zbC u) (zbQ q u) := zb_ext fun j => by
  rw [zbCM_c, zbQ_c]
  have h1 := zdv_quo hu (h j)
  conv => lhs; rw [h1]
  letI := zA1R
  show zquo (q.1 j) u * u = u * zquo (q.1 j) u
  grind
theorem zbQ_rw {q : zA2} {u : zA1} (hu : 0 < zln u) (h : ∀ j, zdv u (q.1 j)) : zrw (zbQ q u) = zrw q := by
  have hn : u ≠ zaZ := fun e => by rw [e, zln_Z] at hu; omega
  have := zrw_CM hn (zbQ q u)
  rw [← zbQ_eq hu h] at this
  exact this.symm
theorem zbQ_dn (q : zA2) (u : zA1) : zdn (zbQ q u) ≤ zdn q := zdn_min fun j => by
  rw [zbQ_c]
  by_cases hu : 0 < zln u
  · have := zquo_ln (p := q.1 j) hu
    have := zdn_le q j
    omega
  · rw [zquo_Zd _ u hu, zln_Z]; omega
/-- the common divisor of the rows, monic -/
def zisC (g : zA1) (q : zA2) (n : Nat) : Prop := (∀ t, t < n → zdv g (q.1 t)) ∧ (∀ d, (∀ t, t < n → zdv d (q.1 t)) → zdv d g) ∧ (zln g = 0 ∨ zhd g = 1)
theorem zisC_0 (q : zA2) : zisC zaZ q 0 := ⟨fun t ht => absurd ht (Nat.not_lt_zero t), fun d _ => zdv_0 d, Or.inl zln_Z⟩
theorem zisC_S {g : zA1} {q : zA2} {n : Nat} (h : zisC g q n) : zisC (zgcd g (q.1 n)) q (n + 1) := by
  obtain ⟨h1, h2, h3⟩ := h
  obtain ⟨k1, k2, k3, k4⟩ := zgcd_ok g (q.1 n)
  refine ⟨fun t ht => ?_, fun d hd => ?_, k4⟩
  · by_cases e : t = n
    · rw [e]; exact k2
    · exact zdv_tr k1 (h1 t (by omega))
  · exact zgcd_m (h2 d fun t ht => hd t (by omega)) (hd n (by omega))
theorem zisC_ex (q : zA2) : ∃ g, zisC g q (zrw q) := by
  have key : ∀ n, ∃ g, zisC g q n := by
    intro n
    induction n with
    | zero => exact ⟨_, zisC_0 q⟩
    | succ n ih =>
      obtain ⟨g, hg⟩ := ih
      exact ⟨_, zisC_S hg⟩
  exact key _
noncomputable def zcont (q : zA2) : zA1 := Classical.choose (zisC_ex q)
theorem zcont_ok (q : zA2) : zisC (zcont q) q (zrw q) := Classical.choose_spec (zisC_ex q)
theorem zcont_dv (q : zA2) (j : Nat) : zdv (zcont q) (q.1 j) := by
  by_cases h : j < zrw q
  · exact (zcont_ok q).1 j h
  · rw [zrw_dg q j (by omega)]; exact zdv_0 _
theorem zcont_is {g : zA1} {q : zA2} {n : Nat} (h : zisC g q n) (hn : zrw q ≤ n ∨ zln g = 1) (hle : n ≤ zrw q) : g = zcont q := by
  obtain ⟨h1, h2, h3⟩ := h
  obtain ⟨k1, k2, k3⟩ := zcont_ok q
  have hone : zln g = 1 → ∀ x, zdv g x := by
    intro e x
    have hh := h3.resolve_left (by omega)
    have eg : g = zaO := za_ext fun i => by
      rw [zaO_c]
      split
      · next e0 => rw [e0]; have : zhd g = g.1 (1 - 1) := by unfold zhd; rw [e]
                   rw [← hh, this]
      · exact zln_dg g i (by omega)
    rw [eg]
    exact ⟨x, by letI := zA1R; show x = x * 1; grind⟩
  refine zdv_hd (k2 g fun t ht => ?_) (h2 (zcont q) fun t ht => k1 t (by omega)) h3 k3
  rcases hn with hn | hn
  · exact h1 t (by omega)
  · exact hone hn _
theorem zcont_nz {q : zA2} (h : 0 < zrw q) : 0 < zln (zcont q) ∧ zln (zcont q) ≤ zln (q.1 (zrw q - 1)) := zdv_ln (zcont_dv q _) (zln_nz (zrw_hd h))
theorem zcont_Z : zcont zbZ = zaZ := (zcont_is (zisC_0 zbZ) (Or.inl (by rw [zrw_Z]; omega)) (by rw [zrw_Z]; omega)).symm
theorem zcont_le (q : zA2) : zln (zcont q) ≤ zdn q + 1 := by
  by_cases h : 0 < zrw q
  · have := (zcont_nz h).2
    have := zdn_le q (zrw q - 1)
    omega
  · rw [zrw_0.mp (show zrw q = 0 by omega), zcont_Z, zln_Z]; omega
/-- without its content -/
noncomputable def zprim (q : zA2) : zA2 := zbQ q (zcont q)
theorem zprim_eq (q : zA2) : q = zbM (zbC (zcont q)) (zprim q) := by
  by_cases h : 0 < zrw q
  · exact zbQ_eq (zcont_nz h).1 (zcont_dv q)
  · rw [zrw_0.mp (show zrw q = 0 by omega), zcont_Z, zrw_C0, zbM_Zl]
theorem zprim_rw (q : zA2) : zrw (zprim q) = zrw q := by
  by_cases h : 0 < zrw q
  · exact zbQ_rw (zcont_nz h).1 (zcont_dv q)
  · rw [zrw_0.mp (show zrw q = 0 by omega)]
    have : zprim zbZ = zbZ := zb_ext fun j => by
      unfold zprim
      rw [zbQ_c, zbZ_c, zcont_Z, zquo_Zd _ _ (by rw [zln_Z]; omega)]
    rw [this]
theorem zprim_dn (q : zA2) : zdn (zprim q) ≤ zdn q := zbQ_dn q _
theorem zMp_dgr (x : zF) (f : zA2) : zDg (zMp x f).1 (zrw f) := zMp_dg x f _ (fun i hi => zrw_dg f i hi)
theorem zMp_c (x : zF) (f : zA2) (i : Nat) : (zMp x f).1 i = zVl x (f.1 i) := rfl
