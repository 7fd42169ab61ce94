/-! whole numbers divided; what a throw keeps -/
theorem zldivN (x y : Int64) (hx : 0 ≤ x.toInt) (hy : 0 < y.toInt) : (x / y).toInt = x.toInt / y.toInt := by
  rw [Int64.toInt_div, zbmL, Int.tdiv_eq_ediv_of_nonneg hx]
  have h1 := Int.ediv_nonneg hx (Int.le_of_lt hy)
  have h2 := Int.ediv_le_self y.toInt hx
  have h3 := Int64.toInt_lt x
  omega
theorem zdiv_ge10 {v b q : Int} (h : q = v / b) (hb : 0 < b) (hq : 10 ≤ q) : 10 * b ≤ v := by
  have h1 := Int.ediv_mul_le v (Int.ne_of_gt hb)
  rw [← h] at h1
  have h2 : 10 * b ≤ q * b := Int.mul_le_mul_of_nonneg_right hq (Int.le_of_lt hb)
  omega
/-- the numbers that no reading changes: the tape's length, what is written, fed, the roots -/
def zKp (G g : Nat → Int32) : Prop := G 12 = g 12 ∧ G 24 = g 24 ∧ G 29 = g 29 ∧ G 31 = g 31
theorem zM14 {w : zM} {m : Nat} {g : Nat → Int32} {r : Nat → Value} {A v : Int32} (h : w m = some (.inl (15, zMo m (zs (zs g 13 A) 14 v) r))) (e : v.toInt = (g 14).toInt) : w m = some (.inl (15, zMo m (zs g 13 A) r)) := by
  have e2 : v = g 14 := Int32.toInt_inj.mp e
  subst e2
  exact h
/-! the tape: how many brackets are open, runs of digits -/
def zDep (ft : Nat → Int32) : Nat → Int
  | 0 => 0
  | i + 1 => zDep ft i + (if ft i &&& 255 = 40 then 1 else if ft i &&& 255 = 41 then -1 else 0)
def zDig (x : Int32) : Prop := 48 ≤ x.toInt ∧ x.toInt ≤ 57
def zRun (ft : Nat → Int32) (L i : Nat) : Prop := ∀ j, j ≤ 10 → i + j < L ∧ zDig (ft (i + j))
def zTq (ft : Nat → Int32) (L a b : Nat) : Prop := a ≤ b ∧ b ≤ L ∧ (∀ i, a ≤ i → i ≤ b → zDep ft i ≤ 20) ∧ ∀ i, a ≤ i → i < b → ¬ zRun ft L i
def zTd (ft : Nat → Int32) (L a b : Nat) : Prop := zTq ft L a b ∧ zDep ft b = zDep ft a
def zChr (ft : Nat → Int32) (L b : Nat) : Int32 := if b < L then ft b &&& 255 else Int32.ofInt (-1)
theorem zTq.tr {ft : Nat → Int32} {L a b c : Nat} (h1 : zTq ft L a b) (h2 : zTq ft L b c) : zTq ft L a c := by
  refine ⟨Nat.le_trans h1.1 h2.1, h2.2.1, fun i g1 g2 => ?_, fun i g1 g2 => ?_⟩
  · by_cases e : i ≤ b
    · exact h1.2.2.1 i g1 e
    · exact h2.2.2.1 i (by omega) g2
  · by_cases e : i < b
    · exact h1.2.2.2 i g1 e
    · exact h2.2.2.2 i (by omega) g2
theorem zTd.tr {ft : Nat → Int32} {L a b c : Nat} (h1 : zTd ft L a b) (h2 : zTd ft L b c) : zTd ft L a c := ⟨h1.1.tr h2.1, h2.2.trans h1.2⟩
theorem zTd.d {ft : Nat → Int32} {L a b : Nat} (h : zTd ft L a b) : zDep ft b ≤ 20 := h.1.2.2.1 b h.1.1 (Nat.le_refl _)
theorem zTd_rf {ft : Nat → Int32} {L a : Nat} (h : a ≤ L) (hd : zDep ft a ≤ 20) : zTd ft L a a := ⟨⟨Nat.le_refl _, h, fun i g1 g2 => by rw [show i = a by omega]; exact hd, fun i g1 g2 => absurd g2 (by omega)⟩, rfl⟩
theorem zDig_and {x : Int32} (h : zDig x) : x &&& 255 = x := by
  have h1 : 48 ≤ x.toInt ∧ x.toInt ≤ 57 := h
  have h2 : x.toInt = 48 ∨ x.toInt = 49 ∨ x.toInt = 50 ∨ x.toInt = 51 ∨ x.toInt = 52 ∨ x.toInt = 53 ∨ x.toInt = 54 ∨ x.toInt = 55 ∨ x.toInt = 56 ∨ x.toInt = 57 := by omega
  have key : ∀ c : Int32, x.toInt = c.toInt → c &&& 255 = c → x &&& 255 = x := fun c e k => by rw [Int32.toInt_inj.mp e]; exact k
  rcases h2 with e | e | e | e | e | e | e | e | e | e
  · exact key 48 (e.trans (by decide)) (by decide)
  · exact key 49 (e.trans (by decide)) (by decide)
  · exact key 50 (e.trans (by decide)) (by decide)
  · exact key 51 (e.trans (by decide)) (by decide)
  · exact key 52 (e.trans (by decide)) (by decide)
  · exact key 53 (e.trans (by decide)) (by decide)
  · exact key 54 (e.trans (by decide)) (by decide)
  · exact key 55 (e.trans (by decide)) (by decide)
  · exact key 56 (e.trans (by decide)) (by decide)
  · exact key 57 (e.trans (by decide)) (by decide)
theorem zAnd_ne (x : Int32) : ¬ x &&& 255 = Int32.ofInt (-1) := by
  intro h
  have h1 := congrArg (fun y : Int32 => y.toBitVec.toNat) h
  have h2 : (x &&& 255).toBitVec.toNat ≤ 255 := by
    rw [Int32.toBitVec_and, BitVec.toNat_and]
    exact Nat.le_trans Nat.and_le_right (by decide)
  have h3 : (Int32.ofInt (-1)).toBitVec.toNat = 4294967295 := by decide
  simp only [h3] at h1
  omega
theorem zDep_p {ft : Nat → Int32} {b : Nat} (h1 : ¬ ft b &&& 255 = 40) (h2 : ¬ ft b &&& 255 = 41) : zDep ft (b + 1) = zDep ft b := by
  show zDep ft b + _ = _
  rw [if_neg h1, if_neg h2]
  omega
theorem zTd_step {ft : Nat → Int32} {L a b : Nat} (h : zTd ft L a b) (hb : b < L) (h1 : ¬ ft b &&& 255 = 40) (h2 : ¬ ft b &&& 255 = 41) (h3 : ¬ zDig (ft b)) : zTd ft L a (b + 1) := by
  have hd := zDep_p h1 h2
  have e1 := h.1.2.2.1 b h.1.1 (Nat.le_refl _)
  refine zTd.tr h ⟨⟨Nat.le_succ _, hb, fun i g1 g2 => ?_, fun i g1 g2 => ?_⟩, hd⟩
  · by_cases e : i = b
    · rw [e]; exact e1
    · rw [show i = b + 1 by omega, hd]; exact e1
  · rw [show i = b by omega]
    exact fun k => h3 (k 0 (Nat.zero_le _)).2
theorem zTd_blank {ft : Nat → Int32} {L a b : Nat} (h : zTd ft L a b) (hb : b < L) (hc : ft b = 32) : zTd ft L a (b + 1) :=
  zTd_step h hb (by rw [hc]; decide) (by rw [hc]; decide) (by rw [hc]; unfold zDig; decide)
theorem zChr_lt {ft : Nat → Int32} {L b : Nat} {c : Int32} (hc : zChr ft L b = c) (h : ¬ c = Int32.ofInt (-1)) : b < L ∧ ft b &&& 255 = c := by
  unfold zChr at hc
  by_cases e : b < L
  · rw [if_pos e] at hc; exact ⟨e, hc⟩
  · rw [if_neg e] at hc; exact absurd hc.symm h
theorem zTd_chr {ft : Nat → Int32} {L a b : Nat} {c : Int32} (h : zTd ft L a b) (hc : zChr ft L b = c) (h1 : ¬ c = Int32.ofInt (-1)) (h40 : ¬ c = 40) (h41 : ¬ c = 41) (hd : ¬ zDig c) : b < L ∧ zTd ft L a (b + 1) := by
  obtain ⟨hb, he⟩ := zChr_lt hc h1
  refine ⟨hb, zTd_step h hb (by rw [he]; exact h40) (by rw [he]; exact h41) fun k => hd ?_⟩
  rw [← he, zDig_and k]
  exact k
theorem zTq_open {ft : Nat → Int32} {L b : Nat} (hb : b < L) (he : ft b &&& 255 = 40) (hd : zDep ft b + 1 ≤ 20) : zTq ft L b (b + 1) ∧ zDep ft (b + 1) = zDep ft b + 1 := by
  have h0 : zDep ft (b + 1) = zDep ft b + 1 := by
    show zDep ft b + _ = _
    rw [if_pos he]
  refine ⟨⟨Nat.le_succ _, hb, fun i g1 g2 => ?_, fun i g1 g2 => ?_⟩, h0⟩
  · by_cases e : i = b
    · rw [e]; omega
    · rw [show i = b + 1 by omega, h0]; exact hd
  · rw [show i = b by omega]
    intro k
    have k1 := (k 0 (Nat.zero_le _)).2
    have k2 := zDig_and k1
    have k3 : ft (b + 0) = 40 := k2.symm.trans he
    rw [k3] at k1
    exact absurd k1 (by unfold zDig; decide)
theorem zTq_close {ft : Nat → Int32} {L b : Nat} (hb : b < L) (he : ft b &&& 255 = 41) (hd : zDep ft b ≤ 20) : zTq ft L b (b + 1) ∧ zDep ft (b + 1) = zDep ft b - 1 := by
  have h0 : zDep ft (b + 1) = zDep ft b - 1 := by
    show zDep ft b + _ = _
    rw [if_neg (by rw [he]; decide), if_pos he]
    omega
  refine ⟨⟨Nat.le_succ _, hb, fun i g1 g2 => ?_, fun i g1 g2 => ?_⟩, h0⟩
  · by_cases e : i = b
    · rw [e]; exact hd
    · rw [show i = b + 1 by omega, h0]; omega
  · rw [show i = b by omega]
    intro k
    have k1 := (k 0 (Nat.zero_le _)).2
    have k2 := zDig_and k1
    have k3 : ft (b + 0) = 41 := k2.symm.trans he
    rw [k3] at k1
    exact absurd k1 (by unfold zDig; decide)
theorem zDep_dig {ft : Nat → Int32} {s : Nat} (x : Nat) (h : ∀ i, s ≤ i → i < x → zDig (ft i)) (hx : s ≤ x) : zDep ft x = zDep ft s := by
  induction x with
  | zero => rw [show s = 0 by omega]
  | succ x ih =>
    by_cases e : s = x + 1
    · rw [e]
    · have h1 := h x (by omega) (by omega)
      have h2 := zDig_and h1
      rw [← ih (fun i g1 g2 => h i g1 (by omega)) (by omega)]
      have h3 : 48 ≤ (ft x).toInt ∧ (ft x).toInt ≤ 57 := h1
      refine zDep_p (fun k => ?_) (fun k => ?_)
      · rw [h2] at k; rw [k] at h3; exact absurd h3 (by decide)
      · rw [h2] at k; rw [k] at h3; exact absurd h3 (by decide)
theorem zTd_num {ft : Nat → Int32} {L s x : Nat} (h : ∀ i, s ≤ i → i < x → zDig (ft i)) (hs : s ≤ x) (hn : x ≤ s + 10) (hL : x ≤ L) (hx : x = L ∨ ¬ zDig (ft x)) (hd : zDep ft s ≤ 20) : zTd ft L s x := by
  refine ⟨⟨hs, hL, fun i g1 g2 => ?_, fun i g1 g2 k => ?_⟩, zDep_dig x h hs⟩
  · rw [zDep_dig i (fun j k1 k2 => h j k1 (by omega)) g1]; exact hd
  · have k1 := k (x - i) (by omega)
    rw [show i + (x - i) = x by omega] at k1
    rcases hx with e | e
    · omega
    · exact e k1.2
def z10 : Nat → Int
  | 0 => 1
  | n + 1 => 10 * z10 n
theorem z10_le {n : Nat} (h : n ≤ 9) : z10 n ≤ 1000000000 := by
  have h1 : n = 0 ∨ n = 1 ∨ n = 2 ∨ n = 3 ∨ n = 4 ∨ n = 5 ∨ n = 6 ∨ n = 7 ∨ n = 8 ∨ n = 9 := by omega
  rcases h1 with e | e | e | e | e | e | e | e | e | e <;> subst e <;> decide
theorem z10_pos (n : Nat) : 0 < z10 n := by
  induction n with
  | zero => decide
  | succ n ih => show 0 < 10 * z10 n; omega
theorem z10_idx {n : Nat} (h : 10 * z10 n ≤ 2147483647) : n ≤ 8 := by
  have key : ∀ k, 1000000000 ≤ z10 (k + 9) := fun k => by
    induction k with
    | zero => decide
    | succ k ih => show 1000000000 ≤ 10 * z10 (k + 9); omega
  apply Classical.byContradiction
  intro hn
  have h1 := key (n - 9)
  rw [show n - 9 + 9 = n by omega] at h1
  omega
def zq10 : Nat → Int
  | 0 => 0
  | n + 1 => z10 n
theorem zq10_pos {n : Nat} (h : 0 < zq10 n) : 1 ≤ n := by
  cases n with
  | zero => exact absurd h (by decide)
  | succ n => omega
theorem zq10_div {n : Nat} (h : 1 ≤ n) : zq10 n / 10 = zq10 (n - 1) := by
  cases n with
  | zero => omega
  | succ n =>
    cases n with
    | zero => decide
    | succ n =>
      show (10 * z10 n) / 10 = z10 n
      omega
theorem zabs_ok {a r : Int32} (e : a = if 0 ≤ r then r else 0 - r) (h : -2147483648 < r.toInt) : 0 ≤ a.toInt ∧ (a.toInt = r.toInt ∨ a.toInt = -r.toInt) := by
  by_cases k : 0 ≤ r
  · rw [if_pos k] at e
    have h1 := zleI k
    rw [show (0 : Int32).toInt = 0 by decide] at h1
    rw [e]
    exact ⟨h1, Or.inl rfl⟩
  · rw [if_neg k] at e
    have h1 := znleI k
    rw [show (0 : Int32).toInt = 0 by decide] at h1
    have h2 := zsubM 0 r
    rw [show (0 : Int32).toInt = 0 by decide] at h2
    have h3 := zrng r
    rw [e]
    exact ⟨by omega, Or.inr (by omega)⟩
