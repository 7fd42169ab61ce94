/-! polynomials in one letter: lists of numbers, the least power first -/
abbrev zPo : Type := List zF
def zev : zPo → zF → zF
  | [], _ => 0
  | c :: t, x => c + x * zev t x
/-- the number at a power -/
def zco (p : zPo) (i : Nat) : zF := p.getD i 0
def zadd1 : zPo → zPo → zPo
  | [], q => q
  | c :: t, [] => c :: t
  | c :: t, e :: u => (c + e) :: zadd1 t u
def zsm (a : zF) (p : zPo) : zPo := p.map (fun c => a * c)
def zmu : zPo → zPo → zPo
  | [], _ => []
  | c :: t, q => zadd1 (zsm c q) (0 :: zmu t q)
theorem zev_add (p q : zPo) (x : zF) : zev (zadd1 p q) x = zev p x + zev q x := by
  induction p generalizing q with
  | nil => show zev q x = 0 + zev q x; grind
  | cons c t ih =>
    cases q with
    | nil => show zev (c :: t) x = zev (c :: t) x + 0; grind
    | cons e u =>
      show c + e + x * zev (zadd1 t u) x = (c + x * zev t x) + (e + x * zev u x)
      rw [ih]; grind
theorem zev_sm (a : zF) (p : zPo) (x : zF) : zev (zsm a p) x = a * zev p x := by
  induction p with
  | nil => show (0 : zF) = a * 0; grind
  | cons c t ih =>
    show a * c + x * zev (zsm a t) x = a * (c + x * zev t x)
    rw [ih]; grind
theorem zev_mu (p q : zPo) (x : zF) : zev (zmu p q) x = zev p x * zev q x := by
  induction p with
  | nil => show (0 : zF) = 0 * _; grind
  | cons c t ih =>
    show zev (zadd1 (zsm c q) (0 :: zmu t q)) x = (c + x * zev t x) * zev q x
    rw [zev_add, zev_sm]
    show c * zev q x + (0 + x * zev (zmu t q) x) = _
    rw [ih]; grind
/-- all numbers are 0 -/
def zisZ (p : zPo) : Prop := ∀ c ∈ p, c = 0
theorem zisZ_ev {p : zPo} (h : zisZ p) (x : zF) : zev p x = 0 := by
  induction p with
  | nil => rfl
  | cons c t ih =>
    show c + x * zev t x = 0
    rw [h c List.mem_cons_self, ih (fun d hd => h d (List.mem_cons_of_mem _ hd))]
    grind
/-- p by (letter - a): the quotient -/
def zsd (a : zF) : zPo → zPo
  | [] => []
  | _ :: t => match t with
    | [] => []
    | _ :: _ => zev t a :: zsd a t
theorem zsd_len (a : zF) : ∀ p : zPo, (zsd a p).length = p.length - 1
  | [] => rfl
  | [_] => rfl
  | _ :: d :: t => by
    show ((zev (d :: t) a) :: zsd a (d :: t)).length = _
    rw [List.length_cons, zsd_len a (d :: t)]
    simp
theorem zsd_ev (a : zF) : ∀ (p : zPo) (x : zF), zev p x = zev p a + (x - a) * zev (zsd a p) x
  | [], x => by show (0 : zF) = 0 + (x - a) * 0; grind
  | [c], x => by show c + x * 0 = c + a * 0 + (x - a) * 0; grind
  | c :: d :: t, x => by
    have ih := zsd_ev a (d :: t) x
    show c + x * zev (d :: t) x = c + a * zev (d :: t) a + (x - a) * (zev (d :: t) a + x * zev (zsd a (d :: t)) x)
    rw [ih]; grind
theorem zsd_Z {a : zF} : ∀ {p : zPo}, zisZ (zsd a p) → zev p a = 0 → zisZ p
  | [], _, _ => fun c h => absurd h List.not_mem_nil
  | [c], _, h => fun e he => by
    rcases List.mem_cons.mp he with rfl | he
    · have : e + a * 0 = 0 := h
      grind
    · exact absurd he List.not_mem_nil
  | c :: d :: t, h, h0 => by
    have h1 : zev (d :: t) a = 0 := h _ List.mem_cons_self
    have h2 : zisZ (d :: t) := zsd_Z (fun e he => h e (List.mem_cons_of_mem _ he)) h1
    intro e he
    rcases List.mem_cons.mp he with rfl | he
    · have h3 : e + a * zev (d :: t) a = 0 := h0
      rw [h1] at h3
      grind
    · exact h2 e he
/-- a polynomial with as many roots as numbers is 0 -/
theorem zroots_Z : ∀ (n : Nat) (p : zPo) (S : List zF), p.length ≤ n → S.Nodup → n ≤ S.length → (∀ x ∈ S, zev p x = 0) → zisZ p
  | 0, p, _, hn, _, _, _ => by
    have : p = [] := List.length_eq_zero_iff.mp (by omega)
    subst this
    exact fun c h => absurd h List.not_mem_nil
  | n + 1, p, S, hn, hS, hl, hr => by
    cases S with
    | nil => exact absurd hl (by simp)
    | cons a S =>
      have ha := hr a List.mem_cons_self
      have hS' := List.nodup_cons.mp hS
      refine zsd_Z (a := a) (zroots_Z n (zsd a p) S (by rw [zsd_len]; omega) hS'.2 (by simpa using hl) fun x hx => ?_) ha
      have h1 := zsd_ev a p x
      rw [hr x (List.mem_cons_of_mem _ hx), ha] at h1
      have h2 : (x - a) * zev (zsd a p) x = 0 := by grind
      rcases zF_mul0 h2 with h3 | h3
      · exfalso
        apply hS'.1
        have : x = a := by grind
        rw [← this]; exact hx
      · exact h3
/-- two polynomials of less than n numbers that agree at n places are the same, number by number -/
theorem zco_add (p q : zPo) (i : Nat) : zco (zadd1 p q) i = zco p i + zco q i := by
  induction p generalizing q i with
  | nil => show zco q i = 0 + zco q i; grind
  | cons c t ih =>
    cases q with
    | nil => show zco (c :: t) i = zco (c :: t) i + 0; grind
    | cons e u =>
      cases i with
      | zero => rfl
      | succ i => exact ih u i
theorem zco_sm (a : zF) (p : zPo) (i : Nat) : zco (zsm a p) i = a * zco p i := by
  induction p generalizing i with
  | nil => show (0 : zF) = a * 0; grind
  | cons c t ih =>
    cases i with
    | zero => rfl
    | succ i => exact ih i
theorem zisZ_co {p : zPo} : zisZ p ↔ ∀ i, zco p i = 0 := by
  induction p with
  | nil => exact ⟨fun _ _ => rfl, fun _ _ h => absurd h List.not_mem_nil⟩
  | cons c t ih =>
    constructor
    · intro h i
      cases i with
      | zero => exact h c List.mem_cons_self
      | succ i => exact ih.mp (fun d hd => h d (List.mem_cons_of_mem _ hd)) i
    · intro h d hd
      rcases List.mem_cons.mp hd with rfl | hd
      · exact h 0
      · exact ih.mpr (fun i => h (i + 1)) d hd
theorem zadd1_len (p q : zPo) : (zadd1 p q).length = max p.length q.length := by
  induction p generalizing q with
  | nil => simp [zadd1]
  | cons c t ih =>
    cases q with
    | nil => simp [zadd1]
    | cons e u => show (zadd1 t u).length + 1 = _; rw [ih]; simp only [List.length_cons]; omega
theorem zsm_len (a : zF) (p : zPo) : (zsm a p).length = p.length := List.length_map _
theorem zmu_len (p q : zPo) (hp : p ≠ []) (hq : q ≠ []) : (zmu p q).length = p.length + q.length - 1 := by
  induction p with
  | nil => exact absurd rfl hp
  | cons c t ih =>
    have hq1 : 1 ≤ q.length := List.length_pos_iff.mpr hq
    show (zadd1 (zsm c q) (0 :: zmu t q)).length = _
    rw [zadd1_len, zsm_len, List.length_cons, List.length_cons]
    by_cases ht : t = []
    · subst ht; show max q.length (0 + 1) = 0 + 1 + q.length - 1; omega
    · have ht1 : 1 ≤ t.length := List.length_pos_iff.mpr ht
      rw [ih ht]; omega
theorem zco_uniq {p q : zPo} {n : Nat} (hp : p.length ≤ n) (hq : q.length ≤ n) {S : List zF} (hS : S.Nodup) (hn : n ≤ S.length) (h : ∀ x ∈ S, zev p x = zev q x) (i : Nat) : zco p i = zco q i := by
  have hz : zisZ (zadd1 p (zsm (-1) q)) := zroots_Z n _ S (by rw [zadd1_len, zsm_len]; omega) hS hn fun x hx => by
    rw [zev_add, zev_sm, h x hx]; grind
  have h1 := zisZ_co.mp hz i
  rw [zco_add, zco_sm] at h1
  grind
theorem zco_ext {p q : zPo} (hp : p.length ≤ 2147483647) (hq : q.length ≤ 2147483647) (h : ∀ x, zev p x = zev q x) (i : Nat) : zco p i = zco q i :=
  zco_uniq hp hq (List.nodup_finRange 2147483647) (by rw [List.length_finRange]; exact Nat.le_refl _) (fun x _ => h x) i
