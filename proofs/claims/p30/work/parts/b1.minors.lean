/-! determinants, by their last row -/
def zsg {R : Type} [Lean.Grind.CommRing R] : Nat → R
  | 0 => 1
  | n + 1 => - zsg n
theorem zsg_s {R : Type} [Lean.Grind.CommRing R] (n : Nat) : (zsg (n + 1) : R) = - zsg n := rfl
theorem zsg_add {R : Type} [Lean.Grind.CommRing R] (a : Nat) : ∀ b, (zsg (a + b) : R) = zsg a * zsg b
  | 0 => by
    show (zsg a : R) = zsg a * 1
    grind
  | b + 1 => by
    show - (zsg (a + b) : R) = zsg a * - zsg b
    rw [zsg_add a b]; grind
theorem zsg_sq {R : Type} [Lean.Grind.CommRing R] : ∀ a, (zsg a : R) * zsg a = 1
  | 0 => by
    show (1 : R) * 1 = 1
    grind
  | a + 1 => by
    show - (zsg a : R) * - zsg a = 1
    have := zsg_sq (R := R) a
    grind
def zDt {R : Type} [Lean.Grind.CommRing R] : Nat → (Nat → Nat → R) → R
  | 0, _ => 1
  | r + 1, v => zSm (r + 1) (fun j => zsg (r + j) * (v j r * zDt r (fun i => v (zSk j i))))
def zDl {R : Type} [Lean.Grind.CommRing R] (r : Nat) (v : Nat → Nat → R) (x : Nat → R) : R := zSm (r + 1) (fun j => zsg (r + j) * (x j * zDt r (fun i => v (zSk j i))))
theorem zDt_l {R : Type} [Lean.Grind.CommRing R] (r : Nat) (v : Nat → Nat → R) : zDt (r + 1) v = zDl r v (fun j => v j r) := rfl
theorem zDt_ext {R : Type} [Lean.Grind.CommRing R] : ∀ (r : Nat) (v v' : Nat → Nat → R), (∀ j i, j < r → i < r → v j i = v' j i) → zDt r v = zDt r v'
  | 0, _, _, _ => rfl
  | r + 1, v, v', h => by
    show zSm (r + 1) _ = zSm (r + 1) _
    refine zSm_ext _ fun j hj => ?_
    have h2 := zDt_ext r (fun i => v (zSk j i)) (fun i => v' (zSk j i)) (fun a i ha hi => h _ _ (by rw [zSk]; split <;> omega) (by omega))
    show _ * (v j r * zDt r (fun i => v (zSk j i))) = _ * (v' j r * zDt r (fun i => v' (zSk j i)))
    rw [h2, h j r hj (by omega)]
theorem zSm_neg {R : Type} [Lean.Grind.CommRing R] (f : Nat → R) : ∀ n, zSm n (fun i => - f i) = - zSm n f
  | 0 => by simp only [zSm]; grind
  | n + 1 => by simp only [zSm]; rw [zSm_neg f n]; grind
theorem zSm_tri {R : Type} [Lean.Grind.CommRing R] (f : Nat → Nat → R) : ∀ n, zSm (n + 1) (fun j => zSm n (fun l => f j l)) = zSm (n + 1) (fun q => zSm q (fun p => f q p + f p (q - 1)))
  | 0 => rfl
  | n + 1 => by
    show zSm (n + 1) (fun j => zSm n (fun l => f j l) + f j n) + zSm (n + 1) (fun l => f (n + 1) l) = zSm (n + 1) (fun q => zSm q (fun p => f q p + f p (q - 1))) + zSm (n + 1) (fun p => f (n + 1) p + f p n)
    rw [zSm_add, zSm_tri f n, zSm_add]; grind
def zDl2 {R : Type} [Lean.Grind.CommRing R] (r : Nat) (v : Nat → Nat → R) (x z : Nat → R) : R :=
  zSm (r + 2) (fun j => zSm (r + 1) (fun l => zsg (r + 1 + j) * (x j * (zsg (r + l) * (z (zSk j l) * zDt r (fun i => v (zSk j (zSk l i))))))))
theorem zDl_2 {R : Type} [Lean.Grind.CommRing R] (r : Nat) (v : Nat → Nat → R) (x : Nat → R) : zDl (r + 1) v x = zDl2 r v x (fun j => v j r) := by
  refine zSm_ext _ fun j _ => ?_
  show zsg (r + 1 + j) * (x j * zSm (r + 1) (fun l => zsg (r + l) * (v (zSk j l) r * zDt r (fun i => v (zSk j (zSk l i)))))) = zSm (r + 1) (fun l => zsg (r + 1 + j) * (x j * (zsg (r + l) * (v (zSk j l) r * zDt r (fun i => v (zSk j (zSk l i)))))))
  rw [zSm_sm (zsg (r + 1 + j)) (fun l => x j * (zsg (r + l) * (v (zSk j l) r * zDt r (fun i => v (zSk j (zSk l i)))))), zSm_sm (x j)]
theorem zSk_sk {p q : Nat} (h : p ≤ q) (i : Nat) : zSk p (zSk q i) = zSk (q + 1) (zSk p i) := by
  simp only [zSk]
  repeat' split
  all_goals omega
theorem zdl_alg {R : Type} [Lean.Grind.CommRing R] {S P Q xp xq zp zq M : R} (hs : S * S = 1) : - S * - Q * (xq * (S * P * (zp * M))) + - S * P * (xp * (S * Q * (zq * M))) = P * Q * ((xq * zp - xp * zq) * M) := by grind
theorem zDl2_f {R : Type} [Lean.Grind.CommRing R] (r : Nat) (v : Nat → Nat → R) (x z : Nat → R) : zDl2 r v x z = zSm (r + 2) (fun q => zSm q (fun p => zsg p * zsg (q - 1) * ((x q * z p - x p * z q) * zDt r (fun i => v (zSk q (zSk p i)))))) := by
  rw [zDl2, zSm_tri]
  refine zSm_ext _ fun q _ => zSm_ext _ fun p hp => ?_
  obtain ⟨q, rfl⟩ : ∃ q', q = q' + 1 := ⟨q - 1, by omega⟩
  have e1 : zSk (q + 1) p = p := if_pos hp
  have e2 : zSk p (q + 1 - 1) = q + 1 := by rw [Nat.add_sub_cancel, zSk, if_neg (by omega)]
  have e3 : (fun i => v (zSk p (zSk (q + 1 - 1) i))) = fun i => v (zSk (q + 1) (zSk p i)) := by
    funext i
    rw [Nat.add_sub_cancel, zSk_sk (by omega)]
  show zsg (r + 1 + (q + 1)) * (x (q + 1) * (zsg (r + p) * (z (zSk (q + 1) p) * zDt r (fun i => v (zSk (q + 1) (zSk p i)))))) + zsg (r + 1 + p) * (x p * (zsg (r + (q + 1 - 1)) * (z (zSk p (q + 1 - 1)) * zDt r (fun i => v (zSk p (zSk (q + 1 - 1) i)))))) = _
  rw [e1, e2, e3, Nat.add_sub_cancel, zsg_add (r + 1) (q + 1), zsg_add r p, zsg_add (r + 1) p, zsg_add r q, zsg_s, zsg_s]
  exact zdl_alg (zsg_sq r)
theorem zDl2_anti {R : Type} [Lean.Grind.CommRing R] (r : Nat) (v : Nat → Nat → R) (x z : Nat → R) : zDl2 r v x z = - zDl2 r v z x := by
  rw [zDl2_f, zDl2_f, ← zSm_neg]
  refine zSm_ext _ fun q _ => ?_
  rw [← zSm_neg]
  refine zSm_ext _ fun p _ => ?_
  grind
theorem zDl2_same {R : Type} [Lean.Grind.CommRing R] (r : Nat) (v : Nat → Nat → R) (x : Nat → R) : zDl2 r v x x = 0 := by
  rw [zDl2_f]
  refine zSm_0 _ _ fun q _ => zSm_0 _ _ fun p _ => ?_
  grind
theorem zDl_row {R : Type} [Lean.Grind.CommRing R] : ∀ (n : Nat) (v : Nat → Nat → R) (i : Nat), i < n → zDl n v (fun j => v j i) = 0
  | 0, _, _, h => absurd h (Nat.not_lt_zero _)
  | r + 1, v, i, h => by
    rw [zDl_2]
    by_cases e : i = r
    · subst e; exact zDl2_same _ _ _
    · rw [zDl2_anti]
      have e1 : zDl2 r v (fun j => v j r) (fun j => v j i) = 0 := by
        refine zSm_0 _ _ fun j _ => ?_
        have e2 := zDl_row r (fun t => v (zSk j t)) i (by omega)
        show zSm (r + 1) (fun l => zsg (r + 1 + j) * (v j r * (zsg (r + l) * (v (zSk j l) i * zDt r (fun i => v (zSk j (zSk l i))))))) = 0
        rw [zSm_sm (zsg (r + 1 + j)) (fun l => v j r * (zsg (r + l) * (v (zSk j l) i * zDt r (fun i => v (zSk j (zSk l i)))))), zSm_sm (v j r)]
        have e3 : zSm (r + 1) (fun l => zsg (r + l) * (v (zSk j l) i * zDt r (fun i => v (zSk j (zSk l i))))) = 0 := e2
        rw [e3]; grind
      rw [e1]; grind
/-! Cramer's rule -/
def zApp {R : Type} (r : Nat) (v : Nat → Nat → R) (x : Nat → R) : Nat → Nat → R := fun j => if j < r then v j else x
def zKr {R : Type} [Lean.Grind.CommRing R] (r : Nat) (v : Nat → Nat → R) (x : Nat → R) (j : Nat) : R := - (zsg (r + j) * zDt r (fun i => zApp r v x (zSk j i)))
theorem zKr_gen {R : Type} [Lean.Grind.CommRing R] (r : Nat) (v : Nat → Nat → R) (x y : Nat → R) : zDl r (zApp r v x) y = zDt r v * y r - zSm r (fun j => y j * zKr r v x j) := by
  have e1 : zSm r (fun j => y j * zKr r v x j) = - zSm r (fun j => zsg (r + j) * (y j * zDt r (fun i => zApp r v x (zSk j i)))) := by
    rw [← zSm_neg]
    refine zSm_ext _ fun j _ => ?_
    show y j * - (zsg (r + j) * zDt r (fun i => zApp r v x (zSk j i))) = _
    grind
  have e2 : zDt r (fun i => zApp r v x (zSk r i)) = zDt r v := zDt_ext r _ _ fun j i hj _ => by
    show zApp r v x (zSk r j) i = v j i
    rw [zSk, if_pos hj, zApp, if_pos hj]
  show zSm r (fun j => zsg (r + j) * (y j * zDt r (fun i => zApp r v x (zSk j i)))) + zsg (r + r) * (y r * zDt r (fun i => zApp r v x (zSk r i))) = _
  rw [e1, e2, zsg_add, zsg_sq]; grind
theorem zKr_row {R : Type} [Lean.Grind.CommRing R] (r : Nat) (v : Nat → Nat → R) (x : Nat → R) (i : Nat) (hi : i < r) : zSm r (fun j => v j i * zKr r v x j) = zDt r v * x i := by
  have h1 := zKr_gen r v x (fun j => zApp r v x j i)
  rw [zDl_row r (zApp r v x) i hi] at h1
  have e1 : zSm r (fun j => zApp r v x j i * zKr r v x j) = zSm r (fun j => v j i * zKr r v x j) := zSm_ext _ fun j hj => by
    show zApp r v x j i * _ = _
    rw [zApp, if_pos hj]
  have e2 : zApp r v x r i = x i := by rw [zApp, if_neg (Nat.lt_irrefl r)]
  rw [e1, e2] at h1
  grind
theorem zKr_last {R : Type} [Lean.Grind.CommRing R] (r : Nat) (v : Nat → Nat → R) (x : Nat → R) : zDt (r + 1) (zApp r v x) = zDt r v * x r - zSm r (fun j => v j r * zKr r v x j) := by
  rw [zDt_l, zKr_gen]
  have e1 : zSm r (fun j => zApp r v x j r * zKr r v x j) = zSm r (fun j => v j r * zKr r v x j) := zSm_ext _ fun j hj => by
    show zApp r v x j r * _ = _
    rw [zApp, if_pos hj]
  have e2 : zApp r v x r r = x r := by rw [zApp, if_neg (Nat.lt_irrefl r)]
  show zDt r v * zApp r v x r r - _ = _
  rw [e1, e2]
theorem zSm_l3 {R : Type} [Lean.Grind.CommRing R] (a p q t : Nat → R) (L y s : R) : ∀ n, zSm n (fun j => a j * (L * p j + y * q j - s * t j)) = L * zSm n (fun j => a j * p j) + y * zSm n (fun j => a j * q j) - s * zSm n (fun j => a j * t j)
  | 0 => by simp only [zSm]; grind
  | n + 1 => by simp only [zSm]; rw [zSm_l3 a p q t L y s n]; grind
/-! a board cleared without fractions: A the lines at first (in the order of now), c the columns met, B the board -/
def zBI {R : Type} [Lean.Grind.CommRing R] (A : Nat → Nat → R) (c : Nat → Nat) (n K r : Nat) (L : R) (B : Nat → Nat → R) : Prop :=
  r ≤ n ∧ L = zDt r (fun j i => A i (c j)) ∧ L ≠ 0 ∧ (∀ z : Nat → R, (∀ i, i < r → zSm r (fun j => A i (c j) * z j) = 0) → ∀ j, j < r → z j = 0) ∧ (∀ j, j < r → c j < K) ∧
  (∀ k i, k < K → i < r → zSm r (fun j => A i (c j) * B j k) = L * A i k) ∧
  (∀ k i, k < K → r ≤ i → i < n → B i k = L * A i k - zSm r (fun j => A i (c j) * B j k))
theorem zBI_0 {R : Type} [Lean.Grind.CommRing R] (h10 : (1 : R) ≠ 0) (A : Nat → Nat → R) (c : Nat → Nat) (n K : Nat) : zBI A c n K 0 1 A :=
  ⟨Nat.zero_le _, rfl, h10, fun _ _ j hj => absurd hj (Nat.not_lt_zero _), fun j hj => absurd hj (Nat.not_lt_zero _), fun _ i _ hi => absurd hi (Nat.not_lt_zero _), fun k i _ _ _ => by
    show A i k = 1 * A i k - 0
    grind⟩
/-- lines that are not met yet change places -/
theorem zBI_p {R : Type} [Lean.Grind.CommRing R] {A : Nat → Nat → R} {c : Nat → Nat} {n K r : Nat} {L : R} {B : Nat → Nat → R} (h : zBI A c n K r L B) (σ : Nat → Nat) (h1 : ∀ i, i < r → σ i = i) (h2 : ∀ i, r ≤ i → i < n → r ≤ σ i ∧ σ i < n) :
    zBI (fun i => A (σ i)) c n K r L (fun i => B (σ i)) := by
  obtain ⟨a1, a2, a3, a4, a5, a6, a7⟩ := h
  refine ⟨a1, ?_, a3, ?_, a5, ?_, ?_⟩
  · rw [a2]
    refine zDt_ext r _ _ fun j i _ hi => ?_
    show A i (c j) = A (σ i) (c j)
    rw [h1 i hi]
  · intro z hz
    refine a4 z fun i hi => ?_
    have h3 := hz i hi
    have h4 : zSm r (fun j => A (σ i) (c j) * z j) = 0 := h3
    rw [h1 i hi] at h4
    exact h4
  · intro k i hk hi
    show zSm r (fun j => A (σ i) (c j) * B (σ j) k) = L * A (σ i) k
    rw [h1 i hi, ← a6 k i hk hi]
    exact zSm_ext _ fun j hj => by rw [h1 j hj]
  · intro k i hk hi hn
    show B (σ i) k = L * A (σ i) k - zSm r (fun j => A (σ i) (c j) * B (σ j) k)
    rw [a7 k (σ i) hk (h2 i hi hn).1 (h2 i hi hn).2]
    congr 1
    exact zSm_ext _ fun j hj => by rw [h1 j hj]
theorem zdom_c {R : Type} [Lean.Grind.CommRing R] (hd : ∀ a b : R, a * b = 0 → a = 0 ∨ b = 0) {a x y : R} (ha : a ≠ 0) (h : a * x = a * y) : x = y := by
  rcases hd a (x - y) (by grind) with e | e
  · exact absurd e ha
  · grind
/-- the answer of one column more, after one step: what all comes from -/
theorem zBI_y {R : Type} [Lean.Grind.CommRing R] (hd : ∀ a b : R, a * b = 0 → a = 0 ∨ b = 0) {A : Nat → Nat → R} {c : Nat → Nat} {n K r : Nat} {L : R} {B : Nat → Nat → R} (h : zBI A c n K r L B) (hr : r < n) {k0 : Nat} (hk0 : k0 < K) (hs : B r k0 ≠ 0) :
    let c' := fun j => if j = r then k0 else c j
    let s := B r k0
    s = zDt (r + 1) (fun j i => A i (c' j)) ∧ (∀ z : Nat → R, (∀ i, i < r + 1 → zSm (r + 1) (fun j => A i (c' j) * z j) = 0) → ∀ j, j < r + 1 → z j = 0) ∧
    ∀ k, k < K → ∃ y : Nat → R, (∀ i, i < r + 1 → zSm (r + 1) (fun j => A i (c' j) * y j) = s * A i k) ∧ y r = B r k ∧ (∀ j, j < r → L * y j = s * B j k - B j k0 * B r k) ∧
      ∀ i, r < i → i < n → L * (s * A i k - zSm (r + 1) (fun j => A i (c' j) * y j)) = s * B i k - B i k0 * B r k := by
  obtain ⟨a1, a2, a3, a4, a5, a6, a7⟩ := h
  intro c' s
  have hc1 : ∀ j, j < r → c' j = c j := fun j hj => if_neg (by omega)
  have hc2 : c' r = k0 := if_pos rfl
  have hsum : ∀ (i : Nat) (z : Nat → R), zSm (r + 1) (fun j => A i (c' j) * z j) = zSm r (fun j => A i (c j) * z j) + A i k0 * z r := by
    intro i z
    show zSm r (fun j => A i (c' j) * z j) + A i (c' r) * z r = _
    rw [hc2, zSm_ext r (g := fun j => A i (c j) * z j) (fun j hj => by rw [hc1 j hj])]
  have hkr : ∀ j, j < r → B j k0 = zKr r (fun j i => A i (c j)) (fun i => A i k0) j := by
    intro j hj
    have h1 := a4 (fun j => B j k0 - zKr r (fun j i => A i (c j)) (fun i => A i k0) j) (fun i hi => by
      have h2 := a6 k0 i hk0 hi
      have h3 := zKr_row r (fun j i => A i (c j)) (fun i => A i k0) i hi
      have h4 := zSm_l3 (fun j => A i (c j)) (fun j => B j k0) (fun j => B j k0) (fun j => zKr r (fun j i => A i (c j)) (fun i => A i k0) j) 1 0 1 r
      have h5 : zSm r (fun j => A i (c j) * (B j k0 - zKr r (fun j i => A i (c j)) (fun i => A i k0) j)) = zSm r (fun j => A i (c j) * (1 * B j k0 + 0 * B j k0 - 1 * zKr r (fun j i => A i (c j)) (fun i => A i k0) j)) := zSm_ext _ fun j _ => by grind
      show zSm r (fun j => A i (c j) * (B j k0 - zKr r (fun j i => A i (c j)) (fun i => A i k0) j)) = 0
      have h6 : zSm r (fun j => A i (c j) * zKr r (fun j i => A i (c j)) (fun i => A i k0) j) = L * A i k0 := by rw [a2]; exact h3
      rw [h5, h4, h2, h6]
      grind) j hj
    grind
  have hs0 : s = L * A r k0 - zSm r (fun j => A r (c j) * B j k0) := a7 k0 r hk0 (Nat.le_refl _) hr
  have hs1 : s = zDt (r + 1) (fun j i => A i (c' j)) := by
    have e1 := zKr_last r (fun j i => A i (c j)) (fun i => A i k0)
    have e2 : zDt (r + 1) (fun j i => A i (c' j)) = zDt (r + 1) (zApp r (fun j i => A i (c j)) (fun i => A i k0)) := zDt_ext _ _ _ fun j i hj _ => by
      show A i (c' j) = zApp r (fun j i => A i (c j)) (fun i => A i k0) j i
      by_cases e : j = r
      · rw [zApp, if_neg (by omega), e, hc2]
      · rw [zApp, if_pos (by omega), hc1 j (by omega)]
    rw [e2, e1, hs0, ← a2]
    congr 1
    refine zSm_ext _ fun j hj => ?_
    rw [hkr j hj]
  have hinj : ∀ z : Nat → R, (∀ i, i < r + 1 → zSm (r + 1) (fun j => A i (c' j) * z j) = 0) → ∀ j, j < r + 1 → z j = 0 := by
    intro z hz
    have h1 : ∀ j, j < r → L * z j + z r * B j k0 = 0 := by
      have h2 := a4 (fun j => L * z j + z r * B j k0 - 0 * B j k0) (fun i hi => by
        show zSm r (fun j => A i (c j) * (L * z j + z r * B j k0 - 0 * B j k0)) = 0
        rw [zSm_l3, a6 k0 i hk0 hi]
        have h3 := hz i (by omega)
        rw [hsum] at h3
        have h4 : zSm r (fun j => A i (c j) * z j) = - (A i k0 * z r) := by grind
        rw [h4]; grind)
      intro j hj
      have := h2 j hj
      grind
    have h5 := hz r (by omega)
    rw [hsum] at h5
    have h6 : L * zSm r (fun j => A r (c j) * z j) + z r * zSm r (fun j => A r (c j) * B j k0) = 0 := by
      have h7 := zSm_l3 (fun j => A r (c j)) z (fun j => B j k0) (fun j => B j k0) L (z r) 0 r
      have h8 : zSm r (fun j => A r (c j) * (L * z j + z r * B j k0 - 0 * B j k0)) = 0 := zSm_0 _ _ fun j hj => by
        have := h1 j hj
        grind
      rw [h8] at h7
      grind
    have h9 : s * z r = 0 := by
      have h10 : zSm r (fun j => A r (c j) * z j) = - (A r k0 * z r) := by grind
      rw [h10] at h6
      rw [hs0]; grind
    have hzr : z r = 0 := by
      rcases hd _ _ h9 with e | e
      · exact absurd e hs
      · exact e
    intro j hj
    by_cases e : j = r
    · rw [e]; exact hzr
    · have h11 := h1 j (by omega)
      rw [hzr] at h11
      have h12 : L * z j = 0 := by grind
      rcases hd _ _ h12 with e | e
      · exact absurd e a3
      · exact e
  refine ⟨hs1, hinj, fun k hk => ?_⟩
  have hy : ∀ i, i < r + 1 → zSm (r + 1) (fun j => A i (c' j) * zKr (r + 1) (fun j i => A i (c' j)) (fun i => A i k) j) = s * A i k := fun i hi => by
    rw [hs1]; exact zKr_row (r + 1) (fun j i => A i (c' j)) (fun i => A i k) i hi
  generalize zKr (r + 1) (fun j i => A i (c' j)) (fun i => A i k) = y at hy
  have h1 : ∀ j, j < r → L * y j + y r * B j k0 = s * B j k := by
    have h2 := a4 (fun j => L * y j + y r * B j k0 - s * B j k) (fun i hi => by
      show zSm r (fun j => A i (c j) * (L * y j + y r * B j k0 - s * B j k)) = 0
      rw [zSm_l3, a6 k0 i hk0 hi, a6 k i hk hi]
      have h3 := hy i (by omega)
      rw [hsum] at h3
      have h4 : zSm r (fun j => A i (c j) * y j) = s * A i k - A i k0 * y r := by grind
      rw [h4]; grind)
    intro j hj
    have := h2 j hj
    grind
  have hyr : y r = B r k := by
    have h3 := hy r (by omega)
    rw [hsum] at h3
    have h7 := zSm_l3 (fun j => A r (c j)) y (fun j => B j k0) (fun j => B j k) L (y r) s r
    have h8 : zSm r (fun j => A r (c j) * (L * y j + y r * B j k0 - s * B j k)) = 0 := zSm_0 _ _ fun j hj => by
      have := h1 j hj
      grind
    rw [h8] at h7
    have h9 := a7 k r hk (Nat.le_refl _) hr
    refine zdom_c hd hs ?_
    show s * y r = s * B r k
    have h10 : zSm r (fun j => A r (c j) * y j) = s * A r k - A r k0 * y r := by grind
    rw [h10] at h7
    generalize zSm r (fun j => A r (c j) * B j k) = T1 at h7 h9
    generalize zSm r (fun j => A r (c j) * B j k0) = T2 at h7 hs0
    rw [h9]
    grind
  refine ⟨y, hy, hyr, fun j hj => ?_, fun i hi hn => ?_⟩
  · have := h1 j hj
    rw [← hyr]; grind
  · rw [hsum]
    have h7 := zSm_l3 (fun j => A i (c j)) y (fun j => B j k0) (fun j => B j k) L (y r) s r
    have h8 : zSm r (fun j => A i (c j) * (L * y j + y r * B j k0 - s * B j k)) = 0 := zSm_0 _ _ fun j hj => by
      have := h1 j hj
      grind
    rw [h8] at h7
    have h9 := a7 k i hk (by omega) hn
    have h10 := a7 k0 i hk0 (by omega) hn
    rw [← hyr]
    generalize zSm r (fun j => A i (c j) * B j k) = T1 at h7 h9
    generalize zSm r (fun j => A i (c j) * B j k0) = T2 at h7 h10
    generalize zSm r (fun j => A i (c j) * y j) = T3 at h7
    rw [h9, h10]
    grind
/-- every division of a step goes out -/
theorem zBI_q {R : Type} [Lean.Grind.CommRing R] (hd : ∀ a b : R, a * b = 0 → a = 0 ∨ b = 0) {A : Nat → Nat → R} {c : Nat → Nat} {n K r : Nat} {L : R} {B : Nat → Nat → R} (h : zBI A c n K r L B) (hr : r < n) {k0 : Nat} (hk0 : k0 < K) (hs : B r k0 ≠ 0)
    {i k : Nat} (hi : i < n) (hir : i ≠ r) (hk : k < K) : ∃ q, B r k0 * B i k - B i k0 * B r k = L * q := by
  obtain ⟨-, -, h3⟩ := zBI_y hd h hr hk0 hs
  obtain ⟨y, -, -, h4, h5⟩ := h3 k hk
  by_cases e : i < r
  · exact ⟨_, (h4 i e).symm⟩
  · exact ⟨_, (h5 i (by omega) hi).symm⟩
theorem zBI_s {R : Type} [Lean.Grind.CommRing R] (hd : ∀ a b : R, a * b = 0 → a = 0 ∨ b = 0) {A : Nat → Nat → R} {c : Nat → Nat} {n K r : Nat} {L : R} {B : Nat → Nat → R} (h : zBI A c n K r L B) (hr : r < n) {k0 : Nat} (hk0 : k0 < K) (hs : B r k0 ≠ 0)
    {B' : Nat → Nat → R} (h1 : ∀ k, k < K → B' r k = B r k) (h2 : ∀ i k, i < n → i ≠ r → k < K → L * B' i k = B r k0 * B i k - B i k0 * B r k) : zBI A (fun j => if j = r then k0 else c j) n K (r + 1) (B r k0) B' := by
  obtain ⟨b1, b2, b3⟩ := zBI_y hd h hr hk0 hs
  obtain ⟨a1, a2, a3, a4, a5, a6, a7⟩ := h
  have hB : ∀ k, k < K → ∀ y : Nat → R, y r = B r k → (∀ j, j < r → L * y j = B r k0 * B j k - B j k0 * B r k) → ∀ j, j < r + 1 → B' j k = y j := by
    intro k hk y hy1 hy2 j hj
    by_cases e : j = r
    · rw [e, h1 k hk, hy1]
    · refine zdom_c hd a3 ?_
      rw [h2 j k (by omega) e hk, hy2 j (by omega)]
  refine ⟨by omega, b1, hs, b2, ?_, ?_, ?_⟩
  · intro j hj
    show (if j = r then k0 else c j) < K
    split
    · exact hk0
    · exact a5 j (by omega)
  · intro k i hk hi
    obtain ⟨y, y1, y2, y3, -⟩ := b3 k hk
    rw [← y1 i hi]
    exact zSm_ext _ fun j hj => by rw [hB k hk y y2 y3 j hj]
  · intro k i hk hi hn
    obtain ⟨y, y1, y2, y3, y4⟩ := b3 k hk
    have e1 : zSm (r + 1) (fun j => A i (if j = r then k0 else c j) * B' j k) = zSm (r + 1) (fun j => A i (if j = r then k0 else c j) * y j) := zSm_ext _ fun j hj => by rw [hB k hk y y2 y3 j hj]
    rw [e1]
    refine zdom_c hd a3 ?_
    rw [h2 i k hn (by omega) hk]
    exact (y4 i (by omega) hn).symm
/-! how large it gets: zdq p d says that p has degree d at most -/
def zdq (p : zA1) (d : Nat) : Prop := zln p ≤ d + 1
theorem zdq_m {p q : zA1} {a b : Nat} (hp : zdq p a) (hq : zdq q b) : zdq (zaM p q) (a + b) := by
  have := zln_Mle p q
  unfold zdq at *
  omega
theorem zdq_a {p q : zA1} {a : Nat} (hp : zdq p a) (hq : zdq q a) : zdq (zaA p q) a := by
  have := zln_A p q
  unfold zdq at *
  omega
theorem zdq_n {p : zA1} {a : Nat} (hp : zdq p a) : zdq (zaN p) a := by
  have e : zaN p = zaS zaZ p := by letI := zA1R; show -p = 0 - p; grind
  have := zln_S zaZ p
  rw [zln_Z] at this
  unfold zdq at *
  rw [e]; omega
theorem zdq_s {p q : zA1} {a : Nat} (hp : zdq p a) (hq : zdq q a) : zdq (zaS p q) a := by
  have := zln_S p q
  unfold zdq at *
  omega
theorem zdq_up {p : zA1} {a b : Nat} (hp : zdq p a) (h : a ≤ b) : zdq p b := by unfold zdq at *; omega
theorem zdq_sm (f : Nat → zA1) {d : Nat} : ∀ n, (∀ i, i < n → zdq (f i) d) → zdq (@zSm zA1 zA1R n f) d
  | 0, _ => by
    show zln zaZ ≤ _
    rw [zln_Z]; omega
  | n + 1, h => zdq_a (zdq_sm f n (fun i hi => h i (by omega))) (h n (by omega))
theorem zdq_sg : ∀ n, zdq (@zsg zA1 zA1R n) 0
  | 0 => by
    show zln zaO ≤ _
    rw [zln_O]; omega
  | n + 1 => zdq_n (zdq_sg n)
theorem zdq_Dt {d : Nat} : ∀ (r : Nat) (v : Nat → Nat → zA1), (∀ j i, j < r → i < r → zdq (v j i) d) → zdq (@zDt zA1 zA1R r v) (r * d)
  | 0, _, _ => by
    show zln zaO ≤ _
    rw [zln_O]; omega
  | r + 1, v, h => zdq_sm _ _ fun j hj => by
    have h1 := zdq_Dt r (fun i => v (zSk j i)) (fun a i ha hi => h _ _ (by rw [zSk]; split <;> omega) (by omega))
    have h2 := zdq_m (h j r hj (by omega)) h1
    have h3 := zdq_m (zdq_sg (r + j)) h2
    exact zdq_up h3 (by rw [Nat.succ_mul]; omega)
theorem zdq_BI {A : Nat → Nat → zA1} {c : Nat → Nat} {n K r d : Nat} {L : zA1} {B : Nat → Nat → zA1} (h : @zBI zA1 zA1R A c n K r L B) (hA : ∀ i k, i < n → k < K → zdq (A i k) d) :
    zdq L (r * d) ∧ (∀ j k, j < r → k < K → zdq (B j k) (r * d)) ∧ ∀ i k, r ≤ i → i < n → k < K → zdq (B i k) ((r + 1) * d) := by
  obtain ⟨a1, a2, a3, a4, a5, a6, a7⟩ := h
  have hL : zdq L (r * d) := by
    rw [a2]
    exact zdq_Dt r _ fun j i hj hi => hA i (c j) (by omega) (a5 j hj)
  have hB : ∀ j k, j < r → k < K → zdq (B j k) (r * d) := by
    intro j k hj hk
    have h1 : B j k = @zKr zA1 zA1R r (fun j i => A i (c j)) (fun i => A i k) j := by
      letI := zA1R
      have h1 := a4 (fun j => B j k - zKr r (fun j i => A i (c j)) (fun i => A i k) j) (fun i hi => by
        have h2 := a6 k i hk hi
        have h3 := zKr_row r (fun j i => A i (c j)) (fun i => A i k) i hi
        have h4 := zSm_l3 (fun j => A i (c j)) (fun j => B j k) (fun j => B j k) (fun j => zKr r (fun j i => A i (c j)) (fun i => A i k) j) 1 0 1 r
        have h5 : zSm r (fun j => A i (c j) * (B j k - zKr r (fun j i => A i (c j)) (fun i => A i k) j)) = zSm r (fun j => A i (c j) * (1 * B j k + 0 * B j k - 1 * zKr r (fun j i => A i (c j)) (fun i => A i k) j)) := zSm_ext _ fun j _ => by grind
        show zSm r (fun j => A i (c j) * (B j k - zKr r (fun j i => A i (c j)) (fun i => A i k) j)) = 0
        have h6 : zSm r (fun j => A i (c j) * zKr r (fun j i => A i (c j)) (fun i => A i k) j) = L * A i k := by rw [a2]; exact h3
        rw [h5, h4, h2, h6]
        grind) j hj
      have h7 : B j k - zKr r (fun j i => A i (c j)) (fun i => A i k) j = 0 := h1
      grind
    rw [h1]
    have h2 := zdq_Dt r (fun i => zApp r (fun j i => A i (c j)) (fun i => A i k) (zSk j i)) (d := d) (fun a i ha hi => by
      show zdq (zApp r (fun j i => A i (c j)) (fun i => A i k) (zSk j a) i) d
      rw [zApp]
      split
      · next e => exact hA i _ (by omega) (a5 _ e)
      · exact hA i k (by omega) hk)
    exact zdq_n (zdq_up (zdq_m (zdq_sg (r + j)) h2) (by omega))
  refine ⟨hL, hB, fun i k hi hn hk => ?_⟩
  have e : B i k = zaS (zaM L (A i k)) (@zSm zA1 zA1R r (fun j => zaM (A i (c j)) (B j k))) := a7 k i hk hi hn
  rw [e]
  refine zdq_s ?_ (zdq_sm _ _ fun j hj => ?_)
  · exact zdq_up (zdq_m hL (hA i k hn hk)) (by rw [Nat.succ_mul]; omega)
  · exact zdq_up (zdq_m (hA i (c j) hn (a5 j hj)) (hB j k hj hk)) (by rw [Nat.succ_mul]; omega)
