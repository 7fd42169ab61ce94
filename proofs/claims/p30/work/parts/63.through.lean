/-! values, and what goes through given ones -/
theorem zVl_C (x c : zF) : zVl x (zaC c) = c := by
  have h := zVl_eq x (zaC c) (d := 1) (zDg_cst c)
  rw [h]
  show c + x * 0 = c
  rw [zF_m0, zF_a0]
theorem zVl_M (x : zF) (p q : zA1) : zVl x (zaM p q) = zVl x p * zVl x q := zVl_mul x p q
theorem zVl_A (x : zF) (p q : zA1) : zVl x (zaA p q) = zVl x p + zVl x q := zVl_add x p q
theorem zVl_Z (x : zF) : zVl x zaZ = 0 := zVl_0 x zaZ (fun i _ => zaZ_c i)
/-- the letter less a number -/
def zlin (a : zF) : zA1 := ⟨fun i => if i = 0 then 0 - a else if i = 1 then 1 else 0, 2, fun i hi => by
  show (if i = 0 then 0 - a else if i = 1 then 1 else 0) = 0
  rw [if_neg (by omega), if_neg (by omega)]⟩
theorem zlin_ln (a : zF) : zln (zlin a) = 2 := zln_uniq (fun i hi => by
  show (if i = 0 then 0 - a else if i = 1 then 1 else 0) = 0
  rw [if_neg (by omega), if_neg (by omega)]) (Or.inr (by
  show ((if 2 - 1 = 0 then 0 - a else if 2 - 1 = 1 then 1 else 0) : zF) ≠ 0
  rw [if_neg (by omega), if_pos (by omega)]
  exact z1_ne))
theorem zF_l1 (x a : zF) : 0 - a + x * (1 + x * 0) = x - a := by grind
theorem zVl_lin (x a : zF) : zVl x (zlin a) = x - a := by
  have h := zVl_eq x (zlin a) (d := 2) (fun i hi => by
    show (if i = 0 then 0 - a else if i = 1 then 1 else 0) = 0
    rw [if_neg (by omega), if_neg (by omega)])
  rw [h]
  exact zF_l1 x a
theorem zF_sub0 {x a : zF} (h : x - a = 0) : x = a := by grind
/-- as far as i points: the product of the letter less the points, what goes through the values -/
def zThr (X Y : Nat → zF) (i : Nat) (B T : zA1) : Prop := zln B = i + 1 ∧ zln T ≤ i ∧ (∀ t, t < i → zVl (X t) T = Y t) ∧ (∀ t, t < i → zVl (X t) B = 0) ∧ ∀ z, (∀ t, t < i → z ≠ X t) → zVl z B ≠ 0
theorem zThr_0 (X Y : Nat → zF) (c : zF) (hc : c ≠ 0) : zThr X Y 0 (zaC c) zaZ :=
  ⟨zln_C hc, by rw [zln_Z]; omega, fun t ht => absurd ht (Nat.not_lt_zero t), fun t ht => absurd ht (Nat.not_lt_zero t), fun z _ => by rw [zVl_C]; exact hc⟩
theorem zF_t1 {T c b Y : zF} (hb : b ≠ 0) (hc : c = (Y - T) * zinvF b) : T + c * b = Y := by
  have h := zinvF_mul hb
  rw [hc]
  generalize zinvF b = e at *
  grind
theorem zThr_s {X Y : Nat → zF} {i : Nat} {B T : zA1} {c : zF} (h : zThr X Y i B T) (hd : ∀ t, t < i → X i ≠ X t) (hc : c = (Y i - zVl (X i) T) * zinvF (zVl (X i) B)) :
    zThr X Y (i + 1) (zaM B (zlin (X i))) (zaA T (zaM (zaC c) B)) := by
  obtain ⟨h1, h2, h3, h4, h5⟩ := h
  have hb := h5 (X i) hd
  refine ⟨?_, ?_, fun t ht => ?_, fun t ht => ?_, fun z hz => ?_⟩
  · have := @zln_M B (zlin (X i)) (by omega) (by rw [zlin_ln]; omega)
    rw [zlin_ln] at this
    omega
  · have := zln_A T (zaM (zaC c) B)
    have : zln (zaM (zaC c) B) ≤ i + 1 := by
      by_cases e : c = 0
      · rw [e, zaC_0, zaM_Zl, zln_Z]; omega
      · rw [zln_CM e]; omega
    omega
  · rw [zVl_A, zVl_M, zVl_C]
    by_cases e : t = i
    · rw [e]
      exact zF_t1 hb hc
    · rw [h3 t (by omega), h4 t (by omega), zF_m0, zF_a0]
  · rw [zVl_M]
    by_cases e : t = i
    · rw [e, zVl_lin, show X i - X i = 0 by grind, zF_m0]
    · rw [h4 t (by omega), zF_0m]
  · rw [zVl_M, zVl_lin]
    intro e
    rcases zF_mul0 e with e | e
    · exact h5 z (fun t ht => hz t (by omega)) e
    · exact hz i (by omega) (zF_sub0 e)
/-- two that agree at so many points are the same -/
theorem zThr_u {X : Nat → zF} {n : Nat} {p q : zA1} (hX : ∀ i j, i < n → j < n → X i = X j → i = j) (hp : zln p ≤ n) (hq : zln q ≤ n) (h : ∀ t, t < n → zVl (X t) p = zVl (X t) q) : p = q := by
  have hS : zDg (zaS p q).1 n := zDg_sub (zDg_mono (zln_dg p) hp) (zDg_mono (zln_dg q) hq)
  have hz := zRoots zF_dom n (zaS p q).1 hS ((List.range n).map X) ?_ ?_ (by simp)
  · have e : zaS p q = zaZ := za_ext fun i => by rw [zaZ_c]; exact congrFun hz i
    letI := zA1R
    have e' : p - q = 0 := e
    grind
  · unfold List.Nodup
    rw [List.pairwise_map]
    refine List.Pairwise.imp_of_mem ?_ (List.nodup_range (n := n))
    intro a b ha hb hab e
    exact hab (hX a b (List.mem_range.mp ha) (List.mem_range.mp hb) e)
  · intro x hx
    obtain ⟨t, ht, rfl⟩ := List.mem_map.mp hx
    have ht' := List.mem_range.mp ht
    have h1 : zVl (X t) (zaS p q) = zVl (X t) p - zVl (X t) q := by
      have h2 := zVl_A (X t) (zaS p q) q
      have e : zaA (zaS p q) q = p := by
        letI := zA1R
        show p - q + q = p
        grind
      rw [e] at h2
      rw [h2]
      grind
    rw [← zVl_eq (X t) (zaS p q) hS, h1, h t ht']
    grind
/-- the letter less a number, as it is laid in an array -/
theorem zlin_arr {f : Nat → Int32} {v : Int32} {x : zF} {i0 i1 : Nat} (hv : zr1 v ∧ zf v = 0 - x) (h0 : i0 = 0) (h1 : i1 = 1) : ∀ i, i < zln (zlin x) → zr1 (upd (upd f i0 v) i1 1 i) ∧ zf (upd (upd f i0 v) i1 1 i) = (zlin x).1 i := by
  intro i hi
  rw [zlin_ln] at hi
  subst h0
  subst h1
  by_cases e : i = 1
  · rw [e, zupd_s]
    exact ⟨zr1_1, zf_1⟩
  · have e0 : i = 0 := by omega
    rw [e0, zupd_n _ _ (by omega), zupd_s]
    exact hv
theorem zln_CMle (c : zF) (p : zA1) : zln (zaM (zaC c) p) ≤ zln p := by
  by_cases e : c = 0
  · rw [e, zaC_0, zaM_Zl, zln_Z]; omega
  · rw [zln_CM e]; omega
