/-! how many numbers make a polynomial nothing -/
def zhq {R : Type} [Lean.Grind.CommRing R] (a : R) (N : Nat) (f : Nat → R) : Nat → R := fun i => zvl a N (fun j => f (i + 1 + j))
theorem zhq_S {R : Type} [Lean.Grind.CommRing R] (a : R) (N : Nat) (f : Nat → R) : (fun j => zhq a N f (j + 1)) = zhq a N (fun j => f (j + 1)) := by
  funext i
  show zvl a N (fun j => f (i + 1 + 1 + j)) = zvl a N (fun j => f (i + 1 + j + 1))
  congr 1; funext j; congr 1; omega
theorem zhq_0 {R : Type} [Lean.Grind.CommRing R] (a : R) (N : Nat) (f : Nat → R) : zhq a N f 0 = zvl a N (fun j => f (j + 1)) := by
  show zvl a N (fun j => f (0 + 1 + j)) = _
  congr 1; funext j; congr 1; omega
theorem zhq_dg {R : Type} [Lean.Grind.CommRing R] (a : R) (N : Nat) {f : Nat → R} {d : Nat} (h : zDg f (d + 1)) : zDg (zhq a N f) d := fun i hi => by
  have e : (fun j => f (i + 1 + j)) = fun _ => 0 := funext fun j => h _ (by omega)
  show zvl a N (fun j => f (i + 1 + j)) = 0
  rw [e, zvl_z]
theorem zhq_ok {R : Type} [Lean.Grind.CommRing R] (a x : R) (N : Nat) : ∀ n (f : Nat → R), zDg f n → n ≤ N → zvl x n f = zvl a N f + (x - a) * zvl x n (zhq a N f)
  | 0, f, h, _ => by
    rw [zDg_0 h, zvl_z a N]; simp only [zvl]; grind
  | n + 1, f, h, hn => by
    have h1 : zvl x (n + 1) f = f 0 + x * zvl x n (fun j => f (j + 1)) := rfl
    have hS : zDg (fun j => f (j + 1)) n := fun i hi => h (i + 1) (by omega)
    have h2 := zhq_ok a x N n (fun j => f (j + 1)) hS (by omega)
    have h3 : zvl x (n + 1) (zhq a N f) = zhq a N f 0 + x * zvl x n (fun j => zhq a N f (j + 1)) := rfl
    have h4 : zvl a N f = zvl a (n + 1) f := zvl_mono a (n + 1) N f h hn
    have h5 : zvl a (n + 1) f = f 0 + a * zvl a n (fun j => f (j + 1)) := rfl
    have h6 : zvl a N (fun j => f (j + 1)) = zvl a n (fun j => f (j + 1)) := zvl_mono a n N _ hS (by omega)
    rw [h1, h2, h3, zhq_S, zhq_0, h4, h5, h6]
    grind
theorem zRoots {R : Type} [Lean.Grind.CommRing R] (hR : ∀ a b : R, a * b = 0 → a = 0 ∨ b = 0) : ∀ d (f : Nat → R), zDg f d → ∀ l : List R, l.Nodup → (∀ x, x ∈ l → zvl x d f = 0) → d ≤ l.length → f = fun _ => 0
  | 0, f, h, _, _, _, _ => zDg_0 h
  | d + 1, f, h, [], _, _, hl => absurd hl (by simp)
  | d + 1, f, h, a :: l, hn, hz, hl => by
    have hn' := List.nodup_cons.mp hn
    have ha := hz a (List.mem_cons_self ..)
    have hq := zhq_dg a (d + 1) h
    have h1 := zRoots hR d (zhq a (d + 1) f) hq l hn'.2 (fun x hx => by
      have h2 := zhq_ok a x (d + 1) (d + 1) f h (Nat.le_refl _)
      rw [hz x (List.mem_cons_of_mem _ hx), ha, zvl_mono x d (d + 1) _ hq (by omega)] at h2
      have h3 : (x - a) * zvl x d (zhq a (d + 1) f) = 0 := by grind
      rcases hR _ _ h3 with h4 | h4
      · exfalso
        apply hn'.1
        have : x = a := by grind
        rw [← this]; exact hx
      · exact h4) (by simpa using hl)
    have h0 : zvl a (d + 1) (fun j => f (j + 1)) = 0 := by rw [← zhq_0, h1]
    funext i
    cases i with
    | zero =>
      have h5 : zvl a (d + 1) f = f 0 + a * zvl a d (fun j => f (j + 1)) := rfl
      have h6 : zvl a (d + 1) (fun j => f (j + 1)) = zvl a d (fun j => f (j + 1)) := zvl_mono a d (d + 1) _ (fun i hi => h (i + 1) (by omega)) (by omega)
      grind
    | succ i =>
      have h7 : zhq a (d + 1) f i = 0 := by rw [h1]
      have h8 : zhq a (d + 1) f (i + 1) = 0 := by rw [h1]
      have h9 : zhq a (d + 1) f i = zvl a (d + 1) (fun j => f (i + 1 + j)) := rfl
      have hA : zvl a (d + 1) (fun j => f (i + 1 + j)) = f (i + 1 + 0) + a * zvl a d (fun j => f (i + 1 + (j + 1))) := rfl
      have hB : (fun j => f (i + 1 + (j + 1))) = (fun j => f (i + 1 + 1 + j)) := by funext j; congr 1; omega
      have hC : zhq a (d + 1) f (i + 1) = zvl a (d + 1) (fun j => f (i + 1 + 1 + j)) := rfl
      have hD : zvl a (d + 1) (fun j => f (i + 1 + 1 + j)) = zvl a d (fun j => f (i + 1 + 1 + j)) := zvl_mono a d (d + 1) _ (fun j hj => h _ (by omega)) (by omega)
      rw [hB] at hA
      show f (i + 1) = 0
      have hE : f (i + 1 + 0) = f (i + 1) := rfl
      grind
