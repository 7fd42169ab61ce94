/-! blocks of numbers as polynomials in two letters -/
theorem zcv_all {A : Type} [Lean.Grind.CommRing A] (Q : A → Prop) (ha : ∀ a b, Q a → Q b → Q (a + b)) (g : Nat → A) : ∀ (i : Nat) (f : Nat → A), (∀ i j, Q (f i * g j)) → Q (zcv f g i)
  | 0, f, h => h 0 0
  | i + 1, f, h => ha _ _ (h 0 (i + 1)) (zcv_all Q ha g i (fun j => f (j + 1)) (fun a b => h (a + 1) b))
/-- every number in front of a power of k has nothing at N and above -/
def zDn (f : zA2) (N : Nat) : Prop := ∀ i, zDg (f.1 i).1 N
theorem zDn_mul (f g : zA2) (N M : Nat) (hf : zDn f N) (hg : zDn g M) : letI := zA2R; zDn (f * g) (N + M) := fun i =>
  @zcv_all zA1 zA1R (fun a => zDg a.1 (N + M)) (fun a b h1 h2 => zDg_add h1 h2) g.1 i f.1 (fun i j => zDg_cv (hf i) (hg j))
theorem zDn_add (f g : zA2) (N : Nat) (hf : zDn f N) (hg : zDn g N) : letI := zA2R; zDn (f + g) N := fun i => zDg_add (hf i) (hg i)
def zBl (x : Nat → zF) (M o i : Nat) : zA1 := ⟨fun a => if a < M then x ((o + i) * M + a) else 0, M, fun a ha => if_neg (by omega)⟩
def zA1z : zA1 := letI := zA1R; 0
theorem zA1z_dg : zDg zA1z.1 0 := fun i _ => by
  show zcst (zNc zF 0) i = 0
  rw [zNc0, zcst_zero]
def zBk (x : Nat → zF) (M o n : Nat) : zA2 := ⟨fun i => if i < n then zBl x M o i else zA1z, n, fun i hi => if_neg (by omega)⟩
theorem zBk_dg (x : Nat → zF) (M o n : Nat) : @zDg zA1 zA1R (zBk x M o n).1 n := fun i hi => if_neg (by omega)
theorem zBk_dn (x : Nat → zF) (M o n : Nat) : zDn (zBk x M o n) M := fun i => by
  show zDg (if i < n then zBl x M o i else zA1z).1 M
  by_cases h : i < n
  · rw [if_pos h]
    intro a ha
    exact if_neg (by omega)
  · rw [if_neg h]
    exact zDg_mono zA1z_dg (Nat.zero_le M)
theorem zBl_add (x y : Nat → zF) (M o i : Nat) : letI := zA1R; zBl (fun j => x j + y j) M o i = zBl x M o i + zBl y M o i := by
  apply zPl_ext
  funext a
  show (if a < M then x ((o + i) * M + a) + y ((o + i) * M + a) else 0) = (if a < M then x ((o + i) * M + a) else 0) + (if a < M then y ((o + i) * M + a) else 0)
  by_cases h : a < M
  · rw [if_pos h, if_pos h, if_pos h]
  · rw [if_neg h, if_neg h, if_neg h]; rfl
theorem zBk_add (x y : Nat → zF) (M o n : Nat) : letI := zA2R; zBk (fun j => x j + y j) M o n = zBk x M o n + zBk y M o n := by
  apply @zPl_ext zA1 zA1R
  funext i
  show (if i < n then zBl (fun j => x j + y j) M o i else zA1z) = zA1R.add (if i < n then zBl x M o i else zA1z) (if i < n then zBl y M o i else zA1z)
  by_cases h : i < n
  · rw [if_pos h, if_pos h, if_pos h]; exact zBl_add x y M o i
  · rw [if_neg h, if_neg h, if_neg h]; exact (zA1R.add_zero zA1z).symm
theorem zBl_sm (c : zF) (x : Nat → zF) (M o i : Nat) : letI := zA1R; zBl (fun j => c * x j) M o i = zKo c * zBl x M o i := by
  apply zPl_ext
  funext a
  refine Eq.trans ?_ (zcv_cst c (zBl x M o i).1 a).symm
  show (if a < M then c * x ((o + i) * M + a) else 0) = c * (if a < M then x ((o + i) * M + a) else 0)
  by_cases h : a < M
  · rw [if_pos h, if_pos h]
  · rw [if_neg h, if_neg h]; grind
theorem zBk_sm (c : zF) (x : Nat → zF) (M o n : Nat) : letI := zA1R; letI := zA2R; zBk (fun j => c * x j) M o n = zKo (zKo c) * zBk x M o n := by
  apply @zPl_ext zA1 zA1R
  funext i
  refine Eq.trans ?_ (@zcv_cst zA1 zA1R (zKo c) (zBk x M o n).1 i).symm
  show (if i < n then zBl (fun j => c * x j) M o i else zA1z) = zA1R.mul (zKo c) (if i < n then zBl x M o i else zA1z)
  by_cases h : i < n
  · rw [if_pos h, if_pos h]; exact zBl_sm c x M o i
  · rw [if_neg h, if_neg h]; exact (zA1R.mul_zero (zKo c)).symm
/-- a block that is nothing was made of nothing -/
theorem zBk_inj (x : Nat → zF) (M o n : Nat) (h : letI := zA2R; zBk x M o n = 0) : ∀ i a, i < n → a < M → x ((o + i) * M + a) = 0 := by
  intro i a hi ha
  have h1 : (zBk x M o n).1 i = zA1z := by
    rw [h]
    show @zcst zA1 zA1R (@zNc zA1 zA1R 0) i = zA1z
    rw [@zNc0 zA1 zA1R, @zcst_zero zA1 zA1R]; rfl
  have h2 : zBl x M o i = zA1z := by
    rw [← h1]; exact (if_pos hi).symm
  have h3 : (zBl x M o i).1 a = 0 := by rw [h2]; exact zA1z_dg a (Nat.zero_le a)
  rw [← h3]
  exact (if_pos ha).symm
