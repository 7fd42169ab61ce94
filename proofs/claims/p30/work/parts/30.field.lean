/-! numbers modulo P -/
abbrev zPn : Nat := 2147483647
abbrev zF : Type := Fin 2147483647
/-- no number from 2 to n divides m -/
def znd (m : Nat) : Nat → Bool
  | 0 => true
  | n + 1 => (n + 1 == 1 || m % (n + 1) != 0) && znd m n
theorem znd_ok {m : Nat} : ∀ {n : Nat}, znd m n = true → ∀ d, 2 ≤ d → d ≤ n → m % d ≠ 0
  | 0, _, d, h2, hn => by omega
  | n + 1, h, d, h2, hn => by
    simp only [znd, Bool.and_eq_true, Bool.or_eq_true, beq_iff_eq, bne_iff_ne] at h
    by_cases e : d = n + 1
    · subst e
      rcases h.1 with h1 | h1
      · omega
      · exact h1
    · exact znd_ok h.2 d h2 (by omega)
theorem zP_nd : znd 2147483647 46340 = true := by decide +kernel
theorem zP_prime {d : Nat} (h : d ∣ 2147483647) : d = 1 ∨ d = 2147483647 := by
  obtain ⟨e, he⟩ := h
  have key : ∀ x y : Nat, 2147483647 = x * y → 2 ≤ x → x ≤ y → False := by
    intro x y hxy hx hle
    have hx2 : x ≤ 46340 := by
      apply Nat.le_of_not_lt
      intro hgt
      have : 46341 * 46341 ≤ x * y := Nat.mul_le_mul (by omega) (by omega)
      omega
    exact znd_ok zP_nd x hx hx2 (by rw [hxy]; exact Nat.mul_mod_right x y)
  by_cases h1 : d = 1
  · exact Or.inl h1
  by_cases h2 : e = 1
  · exact Or.inr (by rw [he, h2, Nat.mul_one])
  exfalso
  have hd0 : d ≠ 0 := fun z => by rw [z] at he; omega
  have he0 : e ≠ 0 := fun z => by rw [z] at he; omega
  rcases Nat.le_total d e with h | h
  · exact key d e he (by omega) h
  · exact key e d (by rw [he, Nat.mul_comm]) (by omega) h
theorem zP_cop {a : Nat} (h0 : 0 < a) (h : a < 2147483647) : Nat.Coprime a 2147483647 := by
  rcases zP_prime (Nat.gcd_dvd_right a 2147483647) with h1 | h1
  · exact h1
  · have := Nat.le_of_dvd h0 (Nat.gcd_dvd_left a 2147483647)
    omega
theorem zF_mul0 {a b : zF} (h : a * b = 0) : a = 0 ∨ b = 0 := by
  have h1 : (a.val * b.val) % 2147483647 = 0 := congrArg Fin.val h
  by_cases ha : a.val = 0
  · exact Or.inl (Fin.ext ha)
  · right
    have hc := zP_cop (Nat.pos_of_ne_zero ha) a.isLt
    have hd : 2147483647 ∣ b.val := Nat.Coprime.dvd_of_dvd_mul_left hc.symm (Nat.dvd_of_mod_eq_zero h1)
    have hb := b.isLt
    apply Fin.ext
    show b.val = 0
    rcases Nat.eq_zero_or_pos b.val with h2 | h2
    · exact h2
    · have := Nat.le_of_dvd h2 hd
      omega
theorem zF_ring (a b c : zF) : (a + b) * (a - b) + c * (a + 1) = a * a - b * b + c * a + c := by grind
theorem zF_cancel {a b c : zF} (ha : a ≠ 0) (h : a * b = a * c) : b = c := by
  have h1 : a * (b - c) = 0 := by grind
  rcases zF_mul0 h1 with h2 | h2
  · exact absurd h2 ha
  · grind
def zpw (a : zF) : Nat → zF
  | 0 => 1
  | n + 1 => a * zpw a n
theorem zpw_add (a : zF) (m n : Nat) : zpw a (m + n) = zpw a m * zpw a n := by
  induction m with
  | zero => rw [Nat.zero_add]; show _ = 1 * _; grind
  | succ m ih => rw [Nat.succ_add]; show a * zpw a (m + n) = a * zpw a m * zpw a n; rw [ih]; grind
theorem zpw_one (n : Nat) : zpw 1 n = 1 := by
  induction n with
  | zero => rfl
  | succ n ih => show 1 * zpw 1 n = 1; rw [ih]; grind
theorem zpw_mulb (a b : zF) (n : Nat) : zpw (a * b) n = zpw a n * zpw b n := by
  induction n with
  | zero => show (1 : zF) = 1 * 1; grind
  | succ n ih => show a * b * zpw (a * b) n = a * zpw a n * (b * zpw b n); rw [ih]; grind
theorem zpw_mul (a : zF) (m n : Nat) : zpw a (m * n) = zpw (zpw a m) n := by
  induction n with
  | zero => rfl
  | succ n ih => rw [Nat.mul_succ, zpw_add, ih]; show _ = zpw a m * zpw (zpw a m) n; grind
theorem z1_ne : (1 : zF) ≠ 0 := by decide
theorem zpw_ne {a : zF} (ha : a ≠ 0) : ∀ n, zpw a n ≠ 0
  | 0 => fun h => z1_ne h
  | n + 1 => fun h => by
    rcases zF_mul0 h with h1 | h1
    · exact ha h1
    · exact zpw_ne ha n h1
/-- the numbers that are not 0 -/
def zUn : List zF := (List.finRange 2147483647).filter (fun x => x ≠ 0)
theorem zUn_mem {x : zF} : x ∈ zUn ↔ x ≠ 0 := by
  unfold zUn
  rw [List.mem_filter]
  simp
theorem zUn_nodup : zUn.Nodup := (List.nodup_finRange _).sublist List.filter_sublist
theorem zUn_len : zUn.length = 2147483646 := by
  have hp : ((0 : zF) :: zUn).Perm (List.finRange 2147483647) := by
    rw [List.perm_ext_iff_of_nodup (List.nodup_cons.mpr ⟨fun h => zUn_mem.mp h rfl, zUn_nodup⟩) (List.nodup_finRange _)]
    intro x
    simp only [List.mem_cons, zUn_mem, List.mem_finRange, iff_true]
    by_cases h : x = 0
    · exact Or.inl h
    · exact Or.inr h
  have := hp.length_eq
  rw [List.length_finRange, List.length_cons] at this
  omega
def zprod (l : List zF) : zF := l.foldr (fun x y => x * y) 1
theorem zprod_perm {l1 l2 : List zF} (h : l1.Perm l2) : zprod l1 = zprod l2 := h.foldr_eq' (fun x _ y _ z => by grind) 1
theorem zprod_map (a : zF) (l : List zF) : zprod (l.map (fun x => a * x)) = zpw a l.length * zprod l := by
  induction l with
  | nil => show (1 : zF) = 1 * 1; grind
  | cons x t ih =>
    show a * x * zprod (t.map (fun x => a * x)) = a * zpw a t.length * (x * zprod t)
    rw [ih]; grind
theorem zprod_ne {l : List zF} (h : ∀ x ∈ l, x ≠ 0) : zprod l ≠ 0 := by
  induction l with
  | nil => intro e; exact z1_ne e
  | cons x t ih =>
    intro e
    rcases zF_mul0 (show x * zprod t = 0 from e) with h1 | h1
    · exact h x List.mem_cons_self h1
    · exact ih (fun y hy => h y (List.mem_cons_of_mem _ hy)) h1
/-- Fermat -/
theorem zFermat {a : zF} (ha : a ≠ 0) : zpw a 2147483646 = 1 := by
  have hinj : ∀ x y : zF, a * x = a * y → x = y := fun x y h => zF_cancel ha h
  have hn : (zUn.map (fun x => a * x)).Nodup := by
    unfold List.Nodup
    rw [List.pairwise_map]
    exact List.Pairwise.imp (fun {x y} hxy e => hxy (hinj x y e)) zUn_nodup
  have hs : (zUn.map (fun x => a * x)) ⊆ zUn := by
    intro y hy
    obtain ⟨x, hx, rfl⟩ := List.mem_map.mp hy
    rw [zUn_mem] at hx ⊢
    intro e
    rcases zF_mul0 e with h | h
    · exact ha h
    · exact hx h
  have hp : (zUn.map (fun x => a * x)).Perm zUn := by
    rw [List.perm_ext_iff_of_nodup hn zUn_nodup]
    intro x
    refine ⟨fun h => hs h, fun h => ?_⟩
    by_cases hx : x ∈ zUn.map (fun x => a * x)
    · exact hx
    · exfalso
      have h1 : (x :: zUn.map (fun x => a * x)).Nodup := List.nodup_cons.mpr ⟨hx, hn⟩
      have h2 : (x :: zUn.map (fun x => a * x)) ⊆ zUn := by
        intro y hy
        rcases List.mem_cons.mp hy with rfl | hy
        · exact h
        · exact hs hy
      have h3 := List.Nodup.length_le_of_subset h1 h2
      rw [List.length_cons, List.length_map] at h3
      omega
  have h1 := zprod_perm hp
  rw [zprod_map, zUn_len] at h1
  have h2 : zprod zUn ≠ 0 := zprod_ne fun x hx => zUn_mem.mp hx
  exact zF_cancel h2 (by grind)
/-- 1 by a number; 0 for 0 -/
def zinvF (a : zF) : zF := zpw a 2147483645
theorem zinvF_mul {a : zF} (ha : a ≠ 0) : a * zinvF a = 1 := zFermat ha
theorem zinvF_ne {a : zF} (ha : a ≠ 0) : zinvF a ≠ 0 := zpw_ne ha _
