/-! k + v put for k -/
theorem zvl_map {A R : Type} [Lean.Grind.CommRing A] [Lean.Grind.CommRing R] (ph : A → R) (h0 : ph 0 = 0) (ha : ∀ a b, ph (a + b) = ph a + ph b) (hm : ∀ a b, ph (a * b) = ph a * ph b) (x : A) :
    ∀ (n : Nat) (f : Nat → A), ph (zvl x n f) = zvl (ph x) n (fun j => ph (f j))
  | 0, f => h0
  | n + 1, f => by
    simp only [zvl]
    rw [ha, hm, zvl_map ph h0 ha hm x n (fun j => f (j + 1))]
theorem zvl_ext {R : Type} [Lean.Grind.CommRing R] (x : R) : ∀ (n : Nat) (f g : Nat → R), (∀ i, i < n → f i = g i) → zvl x n f = zvl x n g
  | 0, f, g, _ => rfl
  | n + 1, f, g, h => by
    simp only [zvl]
    rw [h 0 (by omega), zvl_ext x n (fun j => f (j + 1)) (fun j => g (j + 1)) (fun i hi => h (i + 1) (by omega))]
/-- the first i steps with X, the others with x -/
def zmx {R : Type} [Lean.Grind.CommRing R] (X x : R) : Nat → Nat → (Nat → R) → R
  | 0, n, f => zvl x n f
  | i + 1, n, f => f 0 + X * zmx X x i (n - 1) (fun j => f (j + 1))
theorem zmx_all {R : Type} [Lean.Grind.CommRing R] (X x : R) : ∀ (n : Nat) (f : Nat → R), zmx X x (n - 1) n f = zvl X n f
  | 0, f => rfl
  | 1, f => by
    show f 0 + x * 0 = f 0 + X * 0
    grind
  | n + 2, f => by
    show f 0 + X * zmx X x n (n + 1) (fun j => f (j + 1)) = f 0 + X * zvl X (n + 1) (fun j => f (j + 1))
    rw [← zmx_all X x (n + 1) (fun j => f (j + 1))]
    rfl
theorem zvl_h {R : Type} [Lean.Grind.CommRing R] (X v : R) : ∀ (n : Nat) (t b : Nat → R), (∀ j, j < n → b j = t j + v * b (j + 1)) → b n = t n → zvl (X + v) (n + 1) t = b 0 + X * zvl (X + v) n (fun j => b (j + 1))
  | 0, t, b, _, h => by
    show t 0 + (X + v) * 0 = b 0 + X * 0
    rw [h]
    grind
  | n + 1, t, b, h, h' => by
    have h1 := zvl_h X v n (fun j => t (j + 1)) (fun j => b (j + 1)) (fun j hj => h (j + 1) (by omega)) h'
    show t 0 + (X + v) * zvl (X + v) (n + 1) (fun j => t (j + 1)) = b 0 + X * (b 1 + (X + v) * zvl (X + v) n (fun j => b (j + 1 + 1)))
    rw [h1, h 0 (by omega)]
    show t 0 + (X + v) * (b 1 + X * zvl (X + v) n (fun j => b (j + 1 + 1))) = t 0 + v * b 1 + X * (b 1 + (X + v) * zvl (X + v) n (fun j => b (j + 1 + 1)))
    generalize zvl (X + v) n (fun j => b (j + 1 + 1)) = Z
    grind
theorem zmx_s {R : Type} [Lean.Grind.CommRing R] (X v : R) : ∀ (i n : Nat) (t b : Nat → R), i < n → (∀ j, j < i → b j = t j) → (∀ j, i ≤ j → j + 1 < n → b j = t j + v * b (j + 1)) → b (n - 1) = t (n - 1) →
    zmx X (X + v) i n t = zmx X (X + v) (i + 1) n b
  | 0, 0, _, _, h, _, _, _ => absurd h (by omega)
  | 0, n + 1, t, b, _, _, h2, h3 => zvl_h X v n t b (fun j hj => h2 j (by omega) (by omega)) h3
  | i + 1, 0, _, _, h, _, _, _ => absurd h (by omega)
  | i + 1, n + 1, t, b, h, h1, h2, h3 => by
    show t 0 + X * zmx X (X + v) i n (fun j => t (j + 1)) = b 0 + X * zmx X (X + v) (i + 1) n (fun j => b (j + 1))
    rw [h1 0 (by omega), zmx_s X v i n (fun j => t (j + 1)) (fun j => b (j + 1)) (by omega) (fun j hj => h1 (j + 1) (by omega)) (fun j hj hn => h2 (j + 1) (by omega) (by omega)) (by
      show b (n - 1 + 1) = t (n - 1 + 1)
      rw [show n - 1 + 1 = n by omega]
      exact h3)]
/-- the letter k -/
def zX : zA2 := zbmon zaO 1
theorem zX_M0 (p : zA2) : (zbM zX p).1 0 = zaZ := by
  unfold zX
  rw [zbmon_M, if_neg (by omega)]
theorem zX_MS (p : zA2) (i : Nat) : (zbM zX p).1 (i + 1) = p.1 i := by
  unfold zX
  rw [zbmon_M, if_pos (by omega), Nat.add_sub_cancel]
  letI := zA1R
  show (1 : zA1) * p.1 i = p.1 i
  grind
theorem zvl_X (T : Nat → zA1) : ∀ (n : Nat) (F : Nat → zA2), (∀ j, j < n → F j = zbC (T j)) → ∀ i, (@zvl zA2 zA2R zX n F).1 i = if i < n then T i else zaZ := by
  intro n
  induction n generalizing T with
  | zero =>
    intro F _ i
    rw [if_neg (by omega)]
    exact zbZ_c i
  | succ n ih =>
    intro F h i
    show (zbA (F 0) (zbM zX (@zvl zA2 zA2R zX n (fun j => F (j + 1))))).1 i = _
    rw [zbA_c, h 0 (by omega), zbC_c]
    cases i with
    | zero => rw [if_pos rfl, if_pos (by omega), zX_M0, zaA_Zr]
    | succ i =>
      rw [if_neg (by omega), zaA_Zl, zX_MS, ih (fun j => T (j + 1)) (fun j => F (j + 1)) (fun j hj => h (j + 1) (by omega)) i]
      by_cases e : i < n
      · rw [if_pos e, if_pos (by omega)]
      · rw [if_neg e, if_neg (by omega)]
/-- k + c for k -/
noncomputable def zsh (c : zF) (p : zA2) : zA2 := @zvl zA2 zA2R (zbA zX (zbC (zaC c))) (zrw p) (fun j => zbC (p.1 j))
theorem zsh_d (c : zF) (p : zA2) {d : Nat} (h : zrw p ≤ d) : zsh c p = @zvl zA2 zA2R (zbA zX (zbC (zaC c))) d (fun j => zbC (p.1 j)) :=
  (@zvl_mono zA2 zA2R _ (zrw p) d (fun j => zbC (p.1 j)) (fun i hi => by
    show zbC (p.1 i) = zbZ
    rw [zrw_dg p i hi, zrw_C0]) h).symm
theorem zsh_Z (c : zF) : zsh c zbZ = zbZ := by
  rw [zsh_d c zbZ (d := 0) (by rw [zrw_Z]; omega)]
  rfl
theorem zbC_A (a b : zA1) : zbC (zaA a b) = zbA (zbC a) (zbC b) := zb_ext fun i => by
  rw [zbA_c, zbC_c, zbC_c, zbC_c]
  by_cases e : i = 0
  · rw [if_pos e, if_pos e, if_pos e]
  · rw [if_neg e, if_neg e, if_neg e, zaA_Zr]
theorem zsh_A (c : zF) (p q : zA2) : zsh c (zbA p q) = zbA (zsh c p) (zsh c q) := by
  have h := zrw_A p q
  rw [zsh_d c (zbA p q) (d := max (zrw p) (zrw q)) h, zsh_d c p (d := max (zrw p) (zrw q)) (by omega), zsh_d c q (d := max (zrw p) (zrw q)) (by omega)]
  refine Eq.trans (@zvl_ext zA2 zA2R _ _ _ _ fun i _ => ?_) (@zvl_add zA2 zA2R _ _ _ _)
  rw [zbA_c]
  exact zbC_A _ _
theorem zsh_M (c : zF) (p q : zA2) : zsh c (zbM p q) = zbM (zsh c p) (zsh c q) := by
  have h := zrw_Mle p q
  rw [zsh_d c (zbM p q) (d := zrw p + zrw q) (by omega)]
  refine Eq.trans (@zvl_ext zA2 zA2R _ _ _ (@zcv zA2 zA2R (fun j => zbC (p.1 j)) (fun j => zbC (q.1 j))) fun i _ => ?_) (@zvl_mul zA2 zA2R _ (fun j => zbC (q.1 j)) (zrw q) (fun i hi => ?_) (zrw p) (fun j => zbC (p.1 j)) (fun i hi => ?_))
  · exact @zcv_map zA1 zA2 zA1R zA2R zbC zbC_A zbC_M q.1 i p.1
  · show zbC (q.1 i) = zbZ
    rw [zrw_dg q i hi, zrw_C0]
  · show zbC (p.1 i) = zbZ
    rw [zrw_dg p i hi, zrw_C0]
theorem zsh_C (c : zF) (u : zA1) : zsh c (zbC u) = zbC u := by
  rw [zsh_d c (zbC u) (d := 1) (zrw_le fun i hi => by rw [zbC_c, if_neg (by omega)])]
  show zbA (zbC ((zbC u).1 0)) (zbM _ zbZ) = zbC u
  rw [zbM_Zr]
  exact zA2R.add_zero _
theorem zX_c (i : Nat) : zX.1 i = if i = 1 then zaO else zaZ := rfl
theorem zX_rw : zrw zX ≤ 2 := zrw_le fun i hi => by rw [zX_c, if_neg (by omega)]
theorem zsh_X (c : zF) : zsh c zX = zbA zX (zbC (zaC c)) := by
  rw [zsh_d c zX (d := 2) zX_rw]
  show zbA (zbC zaZ) (zbM (zbA zX (zbC (zaC c))) (zbA (zbC zaO) (zbM _ zbZ))) = _
  rw [zbM_Zr, zrw_C0]
  letI := zA2R
  have e : zbC zaO = (1 : zA2) := @zKo_1 zA1 zA1R
  rw [e]
  show (0 : zA2) + (zX + zbC (zaC c)) * (1 + 0) = zX + zbC (zaC c)
  grind
theorem zsh_inv {c d : zF} (h : c + d = 0) (p : zA2) : zsh d (zsh c p) = p := by
  have h1 := @zvl_map zA2 zA2 zA2R zA2R (zsh d) (zsh_Z d) (zsh_A d) (zsh_M d) (zbA zX (zbC (zaC c))) (zrw p) (fun j => zbC (p.1 j))
  have h2 : zsh d (zbA zX (zbC (zaC c))) = zX := by
    rw [zsh_A, zsh_X, zsh_C]
    have e : zbA (zbC (zaC d)) (zbC (zaC c)) = zbZ := by
      rw [← zbC_A]
      have e1 : zaA (zaC d) (zaC c) = zaZ := za_ext fun i => by
        rw [zaA_c, zaC_c, zaC_c, zaZ_c]
        by_cases k : i = 0
        · rw [if_pos k, if_pos k]; grind
        · rw [if_neg k, if_neg k]; grind
      rw [e1, zrw_C0]
    letI := zA2R
    show zX + zbC (zaC d) + zbC (zaC c) = zX
    have e' : zbC (zaC d) + zbC (zaC c) = (0 : zA2) := e
    grind
  rw [h2] at h1
  refine (show zsh d (zsh c p) = _ from h1).trans (zb_ext fun i => ?_)
  rw [zvl_X p.1 (zrw p) _ (fun j _ => zsh_C d _) i]
  by_cases e : i < zrw p
  · rw [if_pos e]
  · rw [if_neg e, zrw_dg p i (by omega)]
theorem zsh_size (c : zF) (N : Nat) : ∀ (n : Nat) (F : Nat → zA2) (T : Nat → zA1), (∀ j, j < n → F j = zbC (T j)) → (∀ j, j < n → zln (T j) ≤ N + 1) →
    zrw (@zvl zA2 zA2R (zbA zX (zbC (zaC c))) n F) ≤ n ∧ zdn (@zvl zA2 zA2R (zbA zX (zbC (zaC c))) n F) ≤ N := by
  intro n
  induction n with
  | zero =>
    intro F T _ _
    show zrw zbZ ≤ 0 ∧ zdn zbZ ≤ N
    rw [zrw_Z, zdn_Z]
    omega
  | succ n ih =>
    intro F T h hN
    have h1 := ih (fun j => F (j + 1)) (fun j => T (j + 1)) (fun j hj => h (j + 1) (by omega)) (fun j hj => hN (j + 1) (by omega))
    show zrw (zbA (F 0) (zbM (zbA zX (zbC (zaC c))) (@zvl zA2 zA2R (zbA zX (zbC (zaC c))) n (fun j => F (j + 1))))) ≤ n + 1 ∧ zdn (zbA (F 0) (zbM (zbA zX (zbC (zaC c))) (@zvl zA2 zA2R (zbA zX (zbC (zaC c))) n (fun j => F (j + 1))))) ≤ N
    generalize @zvl zA2 zA2R (zbA zX (zbC (zaC c))) n (fun j => F (j + 1)) = Z at *
    rw [h 0 (by omega)]
    have c1 : zrw (zbC (T 0)) ≤ 1 := zrw_le fun i hi => by rw [zbC_c, if_neg (by omega)]
    have c2 : zrw (zbC (zaC c)) ≤ 1 := zrw_le fun i hi => by rw [zbC_c, if_neg (by omega)]
    have d1 : zdn (zbC (T 0)) ≤ N := zdn_min fun j => by
      rw [zbC_c]
      split
      · exact hN 0 (by omega)
      · rw [zln_Z]; omega
    have d2 : zdn (zbA zX (zbC (zaC c))) ≤ 0 := zdn_min fun j => by
      rw [zbA_c, zX_c, zbC_c]
      by_cases e : j = 0
      · rw [if_neg (by omega), if_pos e, zaA_Zl]
        exact zln_le (fun i hi => by rw [zaC_c, if_neg (by omega)])
      · rw [if_neg e, zaA_Zr]
        split
        · exact zln_le (fun i hi => by rw [zaO_c, if_neg (by omega)])
        · rw [zln_Z]; omega
    have r1 := zrw_A zX (zbC (zaC c))
    have r2 := zX_rw
    have r3 := zrw_A (zbC (T 0)) (zbM (zbA zX (zbC (zaC c))) Z)
    have r4 := zrw_Mle (zbA zX (zbC (zaC c))) Z
    have r5 := zdn_A (zbC (T 0)) (zbM (zbA zX (zbC (zaC c))) Z)
    have r6 := zdn_M (zbA zX (zbC (zaC c))) Z
    have r7 : zrw Z = 0 → zrw (zbM (zbA zX (zbC (zaC c))) Z) = 0 := fun e => zrw_M0 _ _ (Or.inr e)
    omega
theorem zsh_rwle (c : zF) (p : zA2) : zrw (zsh c p) ≤ zrw p ∧ zdn (zsh c p) ≤ zdn p := zsh_size c (zdn p) (zrw p) _ p.1 (fun _ _ => rfl) (fun j _ => zdn_le p j)
theorem zF_neg (c : zF) : c + (0 - c) = 0 := by grind
theorem zsh_rw (c : zF) (p : zA2) : zrw (zsh c p) = zrw p ∧ zdn (zsh c p) = zdn p := by
  have h1 := zsh_rwle c p
  have h2 := zsh_rwle (0 - c) (zsh c p)
  rw [zsh_inv (zF_neg c)] at h2
  omega
/-- the rows on the way: as far as i with k, the others with k + c -/
def zshI (c : zF) (q : zA2) (i n : Nat) (T : Nat → zA1) : Prop := zsh c q = @zmx zA2 zA2R zX (zbA zX (zbC (zaC c))) i n (fun j => zbC (T j))
theorem zshI_0 (c : zF) (q : zA2) {n : Nat} (h : zrw q ≤ n) : zshI c q 0 n q.1 := zsh_d c q h
theorem zshI_s {c : zF} {q : zA2} {i n : Nat} {T S : Nat → zA1} (h : zshI c q i n T) (hi : i < n) (h1 : ∀ j, j < i → S j = T j) (h2 : ∀ j, i ≤ j → j + 1 < n → S j = zaA (T j) (zaM (zaC c) (S (j + 1)))) (h3 : S (n - 1) = T (n - 1)) :
    zshI c q (i + 1) n S := by
  refine Eq.trans h (@zmx_s zA2 zA2R zX (zbC (zaC c)) i n (fun j => zbC (T j)) (fun j => zbC (S j)) hi (fun j hj => by rw [h1 j hj]) (fun j hj hn => ?_) (by rw [h3]))
  show zbC (S j) = zbA (zbC (T j)) (zbM (zbC (zaC c)) (zbC (S (j + 1))))
  rw [h2 j hj hn, zbC_A, zbC_M]
theorem zshI_e {c : zF} {q : zA2} {n : Nat} {T : Nat → zA1} (h : zshI c q (n - 1) n T) (i : Nat) : (zsh c q).1 i = if i < n then T i else zaZ := by
  have h1 : zsh c q = @zvl zA2 zA2R zX n (fun j => zbC (T j)) := Eq.trans h (@zmx_all zA2 zA2R _ _ n _)
  rw [h1]
  exact zvl_X T n _ (fun _ _ => rfl) i
