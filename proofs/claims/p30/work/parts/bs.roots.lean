/-! roots: powers of polynomials, what is alike, what parts -/
def zpq (p : zA1) : Nat → zA1
  | 0 => zaO
  | e + 1 => zaM p (zpq p e)
theorem zVl_O (x : zF) : zVl x zaO = 1 := by rw [← zaC_1]; exact zVl_C x 1
theorem zpw_s (a : zF) (n : Nat) : zpw a (n + 1) = a * zpw a n := by
  rw [zpw_add, show zpw a 1 = a * 1 from rfl]; grind
theorem zVl_pq (x : zF) (p : zA1) : ∀ e, zVl x (zpq p e) = zpw (zVl x p) e
  | 0 => by
    show zVl x zaO = 1
    exact zVl_O x
  | e + 1 => by
    show zVl x (zaM p (zpq p e)) = _
    rw [zVl_M, zVl_pq x p e, zpw_s]
theorem zpq_ln (p : zA1) (h : zln p = 2) : ∀ e, zln (zpq p e) = e + 1
  | 0 => by
    show zln zaO = 1
    exact zln_O
  | e + 1 => by
    have h1 := zpq_ln p h e
    have h2 := zln_M (p := p) (q := zpq p e) (by omega) (by omega)
    show zln (zaM p (zpq p e)) = _
    omega
theorem zVl_S (x : zF) (p q : zA1) : zVl x (zaS p q) = zVl x p - zVl x q := by
  have h : p = zaA (zaS p q) q := by letI := zA1R; show p = p - q + q; grind
  have h2 := zVl_A x (zaS p q) q
  rw [← h] at h2
  grind
def zcg (d a b : zA1) : Prop := zdv d (zaS a b)
theorem zcg_rf (d a : zA1) : zcg d a a := ⟨zaZ, by letI := zA1R; show a - a = 0 * d; grind⟩
theorem zcg_tr {d a b c : zA1} (h1 : zcg d a b) (h2 : zcg d b c) : zcg d a c := by
  obtain ⟨x, hx⟩ := h1
  obtain ⟨y, hy⟩ := h2
  refine ⟨zaA x y, ?_⟩
  letI := zA1R
  have hx' : a - b = x * d := hx
  have hy' : b - c = y * d := hy
  show a - c = (x + y) * d
  grind
theorem zcg_M {d a b a' b' : zA1} (h1 : zcg d a b) (h2 : zcg d a' b') : zcg d (zaM a a') (zaM b b') := by
  obtain ⟨x, hx⟩ := h1
  obtain ⟨y, hy⟩ := h2
  refine ⟨zaA (zaM a y) (zaM b' x), ?_⟩
  letI := zA1R
  have hx' : a - b = x * d := hx
  have hy' : a' - b' = y * d := hy
  show a * a' - b * b' = (a * y + b' * x) * d
  grind
theorem zcg_rem {d : zA1} (p : zA1) (h : 0 < zln d) : zcg d (zrem p d) p := by
  have h1 := (zdm (p := p) h).1
  generalize zrem p d = r at h1
  generalize zquo p d = q at h1
  refine ⟨zaN q, ?_⟩
  letI := zA1R
  have h2 : p = q * d + r := h1
  show r - p = - q * d
  rw [h2]; grind
/-- a power by squares: what is left to do -/
def zqJ (F X r y : zA1) (e k : Nat) : Prop := zcg F (zaM r (zpq y k)) (zpq X e)
theorem zpq_2 (y : zA1) : ∀ k, zpq (zaM y y) k = zpq y (2 * k)
  | 0 => rfl
  | k + 1 => by
    have h1 := zpq_2 y k
    have h2 : zpq y (2 * (k + 1)) = zaM y (zaM y (zpq y (2 * k))) := rfl
    have h3 : zpq (zaM y y) (k + 1) = zaM (zaM y y) (zpq (zaM y y) k) := rfl
    rw [h2, h3, h1]
    letI := zA1R
    show y * y * zpq y (2 * k) = y * (y * zpq y (2 * k))
    grind
theorem zcg_pq {d a b : zA1} (h : zcg d a b) : ∀ k, zcg d (zpq a k) (zpq b k)
  | 0 => zcg_rf _ _
  | k + 1 => zcg_M h (zcg_pq h k)
theorem zqJ_1 {F X r y r' y' : zA1} {e k : Nat} (h : zqJ F X r y e k) (hk : k % 2 = 1) (hr : zcg F r' (zaM r y)) (hy : zcg F y' (zaM y y)) : zqJ F X r' y' e (k / 2) := by
  have h1 := zcg_M hr (zcg_pq hy (k / 2))
  rw [zpq_2] at h1
  refine zcg_tr h1 ?_
  have e1 : zaM (zaM r y) (zpq y (2 * (k / 2))) = zaM r (zpq y (2 * (k / 2) + 1)) := by
    have e2 : zpq y (2 * (k / 2) + 1) = zaM y (zpq y (2 * (k / 2))) := rfl
    rw [e2]
    letI := zA1R
    show r * y * zpq y (2 * (k / 2)) = r * (y * zpq y (2 * (k / 2)))
    grind
  rw [e1, show 2 * (k / 2) + 1 = k by omega]
  exact h
theorem zqJ_0 {F X r y y' : zA1} {e k : Nat} (h : zqJ F X r y e k) (hk : k % 2 = 0) (hy : zcg F y' (zaM y y)) : zqJ F X r y' e (k / 2) := by
  have h1 := zcg_M (zcg_rf F r) (zcg_pq hy (k / 2))
  rw [zpq_2, show 2 * (k / 2) = k by omega] at h1
  exact zcg_tr h1 h
theorem zqJ_s {F X y : zA1} (hy : zcg F y X) (e : Nat) : zqJ F X zaO y e e := by
  have h1 : zaM zaO (zpq y e) = zpq y e := by letI := zA1R; show 1 * zpq y e = _; grind
  show zcg F (zaM zaO (zpq y e)) (zpq X e)
  rw [h1]; exact zcg_pq hy e
theorem zqJ_e {F X r y : zA1} {e : Nat} (h : zqJ F X r y e 0) : zcg F r (zpq X e) := by
  have h1 : zaM r zaO = r := by letI := zA1R; show r * 1 = r; grind
  have h2 : zcg F (zaM r zaO) (zpq X e) := h
  rwa [h1] at h2
/-! roots of a divisor -/
theorem zrt_dv {d p : zA1} {x : zF} (h : zdv d p) (hx : zVl x d = 0) : zVl x p = 0 := by
  obtain ⟨c, rfl⟩ := h
  rw [zVl_M, hx]; exact zF_m0 _
theorem zrt_fac {p : zA1} {x : zF} (h : zVl x p = 0) : zdv (zlin x) p := by
  have h0 : 0 < zln (zlin x) := by rw [zlin_ln]; omega
  obtain ⟨h1, h2⟩ := zdm (p := p) h0
  rw [zlin_ln] at h2
  generalize hr : zrem p (zlin x) = r at h1 h2
  generalize zquo p (zlin x) = q at h1
  have h3 : zVl x r = 0 := by
    have h4 := congrArg (zVl x) h1
    rw [zVl_A, zVl_M, zVl_lin, h] at h4
    grind
  have h5 : r = zaC (r.1 0) := za_ext fun i => by
    rw [zaC_c]
    split
    · next e => rw [e]
    · next e => exact zln_dg r i (by omega)
  rw [h5, zVl_C] at h3
  refine ⟨q, ?_⟩
  rw [h1, h5, h3]
  letI := zA1R
  have h6 : zaC (0 : zF) = zaZ := za_ext fun i => by rw [zaC_c, zaZ_c]; split <;> rfl
  rw [h6]
  show q * zlin x + 0 = q * zlin x
  grind
theorem zrt_gcd {p q : zA1} {x : zF} (hp : zVl x p = 0) (hq : zVl x q = 0) : zVl x (zgcd p q) = 0 := by
  have h1 := zgcd_m (zrt_fac hp) (zrt_fac hq)
  exact zrt_dv h1 (by rw [zVl_lin]; grind)
/-! lists of numbers -/
def zls (x0 : Nat) : Nat → List zF
  | 0 => []
  | n + 1 => if n = x0 then zls x0 n else zfI n :: zls x0 n
theorem zfI_nv {n : Nat} (h : n < 2147483647) : (zfI (n : Int)).val = n := by
  have := zfI_val (n : Int)
  omega
theorem zls_m {x0 : Nat} : ∀ n, n ≤ 2147483647 → ∀ y ∈ zls x0 n, y.val < n ∧ y.val ≠ x0
  | 0, _, y, h => by cases h
  | n + 1, hn, y, h => by
    unfold zls at h
    split at h
    · have := zls_m n (by omega) y h
      omega
    · next e =>
      rcases List.mem_cons.mp h with e1 | e1
      · rw [e1, zfI_nv (by omega)]; omega
      · have := zls_m n (by omega) y e1
        omega
theorem zls_nd {x0 : Nat} : ∀ n, n ≤ 2147483647 → (zls x0 n).Nodup
  | 0, _ => List.nodup_nil
  | n + 1, hn => by
    unfold zls
    split
    · exact zls_nd n (by omega)
    · next e =>
      refine List.nodup_cons.mpr ⟨fun h => ?_, zls_nd n (by omega)⟩
      have := (zls_m n (by omega) _ h).1
      rw [zfI_nv (by omega)] at this
      omega
theorem zls_len {x0 : Nat} : ∀ n, (x0 < n → (zls x0 n).length + 1 = n) ∧ (n ≤ x0 → (zls x0 n).length = n)
  | 0 => ⟨fun h => absurd h (by omega), fun _ => rfl⟩
  | n + 1 => by
    have h := zls_len (x0 := x0) n
    unfold zls
    split
    · next e => exact ⟨fun _ => by rw [h.2 (by omega)], fun h2 => absurd h2 (by omega)⟩
    · next e => exact ⟨fun h2 => by rw [List.length_cons, h.1 (by omega)], fun h2 => by rw [List.length_cons, h.2 (by omega)]⟩
theorem zrt_all {p : zA1} {x0 n : Nat} (hn : n ≤ 2147483647) (hl : zln p ≤ (zls x0 n).length) (h : ∀ y : zF, y.val ≠ x0 → zVl y p = 0) : p = zaZ := by
  have h1 := zRoots (R := zF) (fun a b hab => zF_mul0 hab) (zln p) p.1 (zln_dg p) (zls x0 n) (zls_nd n hn) (fun y hy => by
    rw [← zVl_eq y p (zln_dg p)]
    exact h y (zls_m n hn y hy).2) hl
  exact za_ext fun i => by rw [h1, zaZ_c]
/-- it divides what is nothing at every number, as short as that can be -/
def zSp (F : zA1) : Prop := ∃ G : zA1, zln (zaM F G) = 2147483648 ∧ ∀ x : zF, zVl x (zaM F G) = 0
theorem zSp_nz {F : zA1} (h : zSp F) : 0 < zln F := by
  obtain ⟨G, h1, -⟩ := h
  refine Nat.pos_of_ne_zero fun e => ?_
  rw [zln_0.mp e, zaM_Zl, zln_Z] at h1
  omega
theorem zSp_dv {d F : zA1} (h : zSp F) (hd : zdv d F) : zSp d := by
  obtain ⟨G, h1, h2⟩ := h
  obtain ⟨c, rfl⟩ := hd
  have e : zaM (zaM c d) G = zaM d (zaM c G) := by letI := zA1R; show c * d * G = d * (c * G); grind
  rw [e] at h1
  refine ⟨zaM c G, h1, fun x => ?_⟩
  have := h2 x
  rwa [e] at this
theorem zSp_two {F : zA1} (h : zSp F) (h3 : 3 ≤ zln F) : ∃ x y : zF, x ≠ y ∧ zVl x F = 0 ∧ zVl y F = 0 := by
  apply Classical.byContradiction
  intro hc
  have h0 : ∃ x0 : zF, ∀ y : zF, zVl y F = 0 → y = x0 := by
    by_cases hx : ∃ x : zF, zVl x F = 0
    · obtain ⟨x, hx⟩ := hx
      exact ⟨x, fun y hy => Classical.byContradiction fun e => hc ⟨y, x, e, hy, hx⟩⟩
    · exact ⟨0, fun y hy => absurd ⟨y, hy⟩ hx⟩
  obtain ⟨x0, h0⟩ := h0
  obtain ⟨G, h1, h2⟩ := h
  have hF : 0 < zln F := by omega
  have hG : 0 < zln G := Nat.pos_of_ne_zero fun e => by
    rw [zln_0.mp e, zaM_Zr, zln_Z] at h1; omega
  have h4 := zln_M hF hG
  have hx0 := x0.isLt
  have h5 := (zls_len (x0 := x0.val) 2147483647).1 hx0
  have h6 : G = zaZ := zrt_all (x0 := x0.val) (n := 2147483647) (Nat.le_refl _) (by omega) (fun y hy => by
    have h7 := h2 y
    rw [zVl_M] at h7
    rcases zF_mul0 h7 with e | e
    · exact absurd (congrArg Fin.val (h0 y e)) hy
    · exact e)
  rw [h6, zln_Z] at hG
  omega
theorem zSp_sq {h q : zA1} (hs : zSp (zaM q h)) {x : zF} (h1 : zVl x h = 0) (h2 : zVl x q = 0) : False := by
  obtain ⟨G, g1, g2⟩ := hs
  obtain ⟨a, ha⟩ := zrt_fac h1
  obtain ⟨b, hb⟩ := zrt_fac h2
  have e : zaM (zaM q h) G = zaM (zlin x) (zaM a (zaM q G)) := by
    letI := zA1R
    have ha' : h = a * zlin x := ha
    show q * h * G = zlin x * (a * (q * G))
    rw [ha']; grind
  rw [e] at g1
  have hR : 0 < zln (zaM a (zaM q G)) := Nat.pos_of_ne_zero fun e9 => by
    rw [zln_0.mp e9, zaM_Zr, zln_Z] at g1; omega
  have h3 := zln_M (p := zlin x) (q := zaM a (zaM q G)) (by rw [zlin_ln]; omega) hR
  rw [zlin_ln] at h3
  have h5 := (zls_len (x0 := 2147483647) 2147483647).2 (Nat.le_refl _)
  have h6 : zaM a (zaM q G) = zaZ := zrt_all (x0 := 2147483647) (n := 2147483647) (Nat.le_refl _) (by omega) (fun y _ => by
    by_cases e2 : y = x
    · rw [e2, zVl_M, zVl_M, h2]; grind
    · have h7 := g2 y
      rw [e, zVl_M, zVl_lin] at h7
      rcases zF_mul0 h7 with e3 | e3
      · exact absurd (zF_sub0 e3) e2
      · exact e3)
  rw [h6, zln_Z] at hR
  omega
/-! two numbers are told apart -/
theorem zpw_z : ∀ n, zpw 0 (n + 1) = 0 := fun n => by rw [zpw_s]; exact zF_0m _
theorem zfI_of (x : zF) : zfI (x.val : Int) = x := Fin.ext (zfI_nv x.isLt)
theorem zfI_s (n : Nat) : zfI ((n + 1 : Nat) : Int) = zfI (n : Int) + 1 := by
  rw [show ((n + 1 : Nat) : Int) = (n : Int) + 1 by omega, zfI_add, zfI_1]
theorem ztell {n : Nat} {x y : zF} (hxy : x ≠ y) : ∃ a : Nat, a < 2147483647 ∧ ¬ (zpw (x + zfI (a : Int)) (n + 1) = 1 ↔ zpw (y + zfI (a : Int)) (n + 1) = 1) := by
  apply Classical.byContradiction
  intro hc
  have h0 : ∀ t : zF, zpw t (n + 1) = 1 → zpw (t + (y - x)) (n + 1) = 1 := by
    intro t ht
    have h1 : zpw (x + zfI ((t - x).val : Int)) (n + 1) = 1 ↔ zpw (y + zfI ((t - x).val : Int)) (n + 1) = 1 := Classical.byContradiction fun e => hc ⟨(t - x).val, (t - x).isLt, e⟩
    rw [zfI_of] at h1
    have e1 : x + (t - x) = t := by grind
    have e2 : y + (t - x) = t + (y - x) := by grind
    rw [e1, e2] at h1
    exact h1.mp ht
  have h2 : ∀ k : Nat, zpw (1 + zfI (k : Int) * (y - x)) (n + 1) = 1 := by
    intro k
    induction k with
    | zero =>
      have e1 : 1 + zfI ((0 : Nat) : Int) * (y - x) = 1 := by
        rw [show ((0 : Nat) : Int) = 0 from rfl, zfI_0]; grind
      rw [e1]; exact zpw_one _
    | succ k ih =>
      have h3 := h0 _ ih
      rw [zfI_s]
      have e1 : 1 + zfI (k : Int) * (y - x) + (y - x) = 1 + (zfI (k : Int) + 1) * (y - x) := by grind
      rwa [e1] at h3
  have hd : y - x ≠ 0 := fun e => hxy (zF_sub0 e).symm
  obtain ⟨v, h5⟩ : ∃ v, (y - x) * v = 1 := ⟨_, zinvF_mul hd⟩
  have h4 := h2 ((- v).val)
  rw [zfI_of] at h4
  have e1 : 1 + - v * (y - x) = 0 := by grind
  rw [e1, zpw_z] at h4
  exact z1_ne h4.symm
/-! a step of the parting -/
def zAg (H : Nat) (F : zA1) (n : Nat) : Prop := ∀ a : Nat, a < n → ∀ x y : zF, zVl x F = 0 → zVl y F = 0 → (zpw (x + zfI (a : Int)) H = 1 ↔ zpw (y + zfI (a : Int)) H = 1)
theorem zAg_lt {n : Nat} {F : zA1} {a : Nat} (h : zSp F) (h3 : 3 ≤ zln F) (ha : zAg (n + 1) F a) : a < 2147483647 := by
  obtain ⟨x, y, h1, h2, h4⟩ := zSp_two h h3
  obtain ⟨b, hb, hn⟩ := ztell (n := n) h1
  apply Classical.byContradiction
  intro hc
  exact hn (ha b (by omega) x y h2 h4)
theorem zAg_dv {H : Nat} {F d : zA1} {n : Nat} (h : zAg H F n) (hd : zdv d F) : zAg H d n := fun a ha x y hx hy => h a ha x y (zrt_dv hd hx) (zrt_dv hd hy)
theorem zrt_pw {H : Nat} {F g : zA1} {a x : zF} (hg : zcg F g (zpq (zlin (- a)) H)) (hx : zVl x F = 0) : zVl x (zaS g zaO) = zpw (x + a) H - 1 := by
  have h1 := zrt_dv hg hx
  rw [zVl_S, zVl_pq, zVl_lin] at h1
  rw [zVl_S, zVl_O]
  have e1 : x - - a = x + a := by grind
  rw [e1] at h1
  rw [zF_sub0 h1]
theorem zF_self0 (a : zF) : a - a = 0 := by grind
theorem zpart_0 {H : Nat} {F g : zA1} {a x : zF} (hF : 0 < zln F) (hg : zcg F g (zpq (zlin (- a)) H)) (h1 : zln (zgcd (zaS g zaO) F) ≤ 1) (hx : zVl x F = 0) : zpw (x + a) H ≠ 1 := fun e => by
  have h2 := zrt_pw hg hx
  rw [e] at h2
  have h3 := zrt_gcd (h2.trans (zF_self0 1)) hx
  have h4 := zrt_fac h3
  have h5 := (zgcd_le2 (p := zaS g zaO) (q := F) hF).1
  have h6 := (zdv_ln h4 h5).2
  rw [zlin_ln] at h6
  omega
theorem zpart_1 {H : Nat} {F g : zA1} {a x : zF} (hF : 0 < zln F) (hg : zcg F g (zpq (zlin (- a)) H)) (h1 : zln F ≤ zln (zgcd (zaS g zaO) F)) (hx : zVl x F = 0) : zpw (x + a) H = 1 := by
  have h5 := (zgcd_le2 (p := zaS g zaO) (q := F) hF).1
  have h2 : zVl x (zgcd (zaS g zaO) F) = 0 := by
    have h3 := zdv_quo h5 (zgcd_ok (zaS g zaO) F).2.1
    have h4 := zquo_ln (p := F) (d := zgcd (zaS g zaO) F) h5
    have h6 := (zgcd_le2 (p := zaS g zaO) (q := F) hF).2
    have h7 : zquo F (zgcd (zaS g zaO) F) = zaC ((zquo F (zgcd (zaS g zaO) F)).1 0) := za_ext fun i => by
      rw [zaC_c]
      split
      · next e => rw [e]
      · next e => exact zln_dg _ i (by omega)
    have h8 := congrArg (zVl x) h3
    rw [hx, zVl_M, h7, zVl_C] at h8
    rcases zF_mul0 h8.symm with e | e
    · exfalso
      rw [e] at h7
      have h9 : zln (zquo F (zgcd (zaS g zaO) F)) ≤ 0 := by
        rw [h7]
        exact zln_le (fun i _ => by rw [zaC_c]; split <;> rfl)
      omega
    · exact e
  have h3 := zrt_dv (zgcd_ok (zaS g zaO) F).1 h2
  have h4 := zrt_pw hg hx
  rw [h3] at h4
  exact zF_sub0 h4.symm
theorem zAg_s {H : Nat} {F g : zA1} {n : Nat} (hF : 0 < zln F) (h : zAg H F n) (hg : zcg F g (zpq (zlin (- zfI (n : Int))) H)) (h1 : zln (zgcd (zaS g zaO) F) ≤ 1 ∨ zln F ≤ zln (zgcd (zaS g zaO) F)) : zAg H F (n + 1) := fun a ha x y hx hy => by
  by_cases e : a = n
  · subst e
    rcases h1 with h1 | h1
    · exact ⟨fun k => absurd k (zpart_0 hF hg h1 hx), fun k => absurd k (zpart_0 hF hg h1 hy)⟩
    · exact ⟨fun _ => zpart_1 hF hg h1 hy, fun _ => zpart_1 hF hg h1 hx⟩
  · exact h a (by omega) x y hx hy
theorem zAg_h {H : Nat} {F g : zA1} {n : Nat} (h : zAg H F n) (hg : zcg F g (zpq (zlin (- zfI (n : Int))) H)) : zAg H (zgcd (zaS g zaO) F) (n + 1) := fun a ha x y hx hy => by
  have hxF := zrt_dv (zgcd_ok (zaS g zaO) F).2.1 hx
  have hyF := zrt_dv (zgcd_ok (zaS g zaO) F).2.1 hy
  by_cases e : a = n
  · subst e
    have h1 := zrt_pw hg hxF
    have h2 := zrt_pw hg hyF
    rw [zrt_dv (zgcd_ok (zaS g zaO) F).1 hx] at h1
    rw [zrt_dv (zgcd_ok (zaS g zaO) F).1 hy] at h2
    exact ⟨fun _ => zF_sub0 h2.symm, fun _ => zF_sub0 h1.symm⟩
  · exact h a (by omega) x y hxF hyF
theorem zAg_q {H : Nat} {F g : zA1} {n : Nat} (hs : zSp F) (h : zAg H F n) (hg : zcg F g (zpq (zlin (- zfI (n : Int))) H)) (hG : 0 < zln (zgcd (zaS g zaO) F)) : zAg H (zquo F (zgcd (zaS g zaO) F)) (n + 1) := fun a ha x y hx hy => by
  have h3 := zdv_quo hG (zgcd_ok (zaS g zaO) F).2.1
  have hr : ∀ z, zVl z (zquo F (zgcd (zaS g zaO) F)) = 0 → zVl z F = 0 := fun z hz => by
    rw [h3, zVl_M, hz]; exact zF_0m _
  have hxF := hr x hx
  have hyF := hr y hy
  by_cases e : a = n
  · subst e
    have hno : ∀ z, zVl z (zquo F (zgcd (zaS g zaO) F)) = 0 → zpw (z + zfI (a : Int)) H ≠ 1 := fun z hz k => by
      have h4 := zrt_pw hg (hr z hz)
      rw [k] at h4
      have h5 := zrt_gcd (h4.trans (zF_self0 1)) (hr z hz)
      rw [h3] at hs
      exact zSp_sq (q := zquo F (zgcd (zaS g zaO) F)) (h := zgcd (zaS g zaO) F) hs h5 hz
    exact ⟨fun k => absurd k (hno x hx), fun k => absurd k (hno y hy)⟩
  · exact h a (by omega) x y hxF hyF
theorem zSp_q {F d : zA1} (hs : zSp F) (hd : 0 < zln d) (h : zdv d F) : zSp (zquo F d) := zSp_dv hs ⟨d, by
  have h1 := zdv_quo hd h
  exact h1.trans (zA1R.mul_comm _ _)⟩
/-- where it begins -/
theorem zSp_0 {f g : zA1} (hf : 0 < zln f) (hg : zcg f g (zpq (zlin 0) 2147483647)) : zSp (zgcd (zaS g (zlin 0)) f) := by
  have hx : ∀ x : zF, zpw x 2147483647 = x := fun x => by
    rw [show (2147483647 : Nat) = 2147483646 + 1 from rfl, zpw_s]
    by_cases e : x = 0
    · rw [e]; exact zF_0m _
    · rw [zFermat e]; exact zF_1r x
  have hl := zpq_ln (zlin 0) (zlin_ln 0) 2147483647
  have hv : ∀ x : zF, zVl x (zaS (zpq (zlin 0) 2147483647) (zlin 0)) = 0 := fun x => by
    rw [zVl_S, zVl_pq, zVl_lin]
    have e1 : x - 0 = x := zF_s0 x
    rw [e1, hx]; exact zF_self0 x
  generalize zpq (zlin 0) 2147483647 = W at hg hl hv
  have h1 : zdv (zgcd (zaS g (zlin 0)) f) (zaS W (zlin 0)) := by
    obtain ⟨c, hc⟩ := hg
    have e : zaS W (zlin 0) = zaA (zaM zaO (zaS g (zlin 0))) (zaM (zaN c) f) := by
      letI := zA1R
      have hc' : g - W = c * f := hc
      show W - zlin 0 = 1 * (g - zlin 0) + - c * f
      grind
    rw [e]
    exact zdv_lin _ _ (zgcd_ok _ _).1 (zgcd_ok _ _).2.1
  obtain ⟨G, hG⟩ := h1
  have e2 : zaM (zgcd (zaS g (zlin 0)) f) G = zaS W (zlin 0) := (zA1R.mul_comm _ _).trans hG.symm
  refine ⟨G, ?_, fun x => by rw [e2]; exact hv x⟩
  rw [e2]
  have h3 := zln_S W (zlin 0)
  rw [zlin_ln] at h3
  have h4 : W = zaA (zaS W (zlin 0)) (zlin 0) := by letI := zA1R; show W = W - zlin 0 + zlin 0; grind
  have h5 := zln_A (zaS W (zlin 0)) (zlin 0)
  rw [← h4, zlin_ln] at h5
  omega
theorem zAg_0 (H : Nat) (F : zA1) : zAg H F 0 := fun a ha => absurd ha (Nat.not_lt_zero _)
