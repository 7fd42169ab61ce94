/-! how many numbers are good -/
noncomputable def zcnt (Q : Nat → Prop) : Nat → Nat
  | 0 => 0
  | n + 1 => zcnt Q n + (letI := Classical.propDecidable (Q (n + 1)); if Q (n + 1) then 1 else 0)
theorem zcnt_y {Q : Nat → Prop} {n : Nat} (h : Q (n + 1)) : zcnt Q (n + 1) = zcnt Q n + 1 := by
  show zcnt Q n + (letI := Classical.propDecidable (Q (n + 1)); if Q (n + 1) then 1 else 0) = _
  rw [if_pos h]
theorem zcnt_n {Q : Nat → Prop} {n : Nat} (h : ¬ Q (n + 1)) : zcnt Q (n + 1) = zcnt Q n := by
  show zcnt Q n + (letI := Classical.propDecidable (Q (n + 1)); if Q (n + 1) then 1 else 0) = _
  rw [if_neg h]
  rfl
theorem zcnt_not (Q : Nat → Prop) : ∀ n, zcnt Q n + zcnt (fun t => ¬ Q t) n = n
  | 0 => rfl
  | n + 1 => by
    have h := zcnt_not Q n
    by_cases e : Q (n + 1)
    · rw [zcnt_y e, zcnt_n (Q := fun t => ¬ Q t) (fun k => k e)]; omega
    · rw [zcnt_n e, zcnt_y (Q := fun t => ¬ Q t) e]; omega
theorem zcnt_l (Q : Nat → Prop) : ∀ n, ∃ l : List Nat, l.length = zcnt Q n ∧ l.Nodup ∧ ∀ t, t ∈ l → t ≤ n ∧ Q t
  | 0 => ⟨[], rfl, List.nodup_nil, fun t h => absurd h (by simp)⟩
  | n + 1 => by
    obtain ⟨l, h1, h2, h3⟩ := zcnt_l Q n
    by_cases e : Q (n + 1)
    · refine ⟨(n + 1) :: l, ?_, ?_, ?_⟩
      · rw [zcnt_y e, ← h1]; rfl
      · exact List.nodup_cons.mpr ⟨fun h => by have := (h3 _ h).1; omega, h2⟩
      · intro t ht
        rcases List.mem_cons.mp ht with e' | e'
        · rw [e']; exact ⟨Nat.le_refl _, e⟩
        · have := h3 t e'; exact ⟨by omega, this.2⟩
    · exact ⟨l, by rw [zcnt_n e]; exact h1, h2, fun t ht => by have := h3 t ht; exact ⟨by omega, this.2⟩⟩
theorem zfI_injN {s t : Nat} (hs : s < 2147483647) (ht : t < 2147483647) (h : zfI (s : Int) = zfI (t : Int)) : s = t := by
  have := zfI_inj (x := (s : Int)) (y := (t : Int)) (by omega) (by omega) h
  omega
theorem zcnt_roots {p : zA1} (hp : 0 < zln p) {n : Nat} (hn : n < 2147483647) : zcnt (fun t => zVl (zfI (t : Int)) p = 0) n < zln p := by
  obtain ⟨l, h1, h2, h3⟩ := zcnt_l (fun t => zVl (zfI (t : Int)) p = 0) n
  rw [← h1]
  apply Nat.lt_of_not_le
  intro hle
  have hz := zRoots zF_dom (zln p) p.1 (zln_dg p) (l.map (fun t : Nat => zfI (t : Int))) ?_ ?_ (by simpa using hle)
  · have := zln_hd hp
    rw [hz] at this
    exact this rfl
  · unfold List.Nodup
    rw [List.pairwise_map]
    refine List.Pairwise.imp_of_mem ?_ h2
    intro a b ha hb hab e
    have := (h3 a ha).1
    have := (h3 b hb).1
    exact hab (zfI_injN (by omega) (by omega) e)
  · intro x hx
    obtain ⟨t, ht, rfl⟩ := List.mem_map.mp hx
    rw [← zVl_eq _ p (zln_dg p)]
    exact (h3 t ht).2
theorem zcnt_mono {Q R : Nat → Prop} (h : ∀ t, Q t → R t) : ∀ n, zcnt Q n ≤ zcnt R n
  | 0 => Nat.le_refl _
  | n + 1 => by
    have h1 := zcnt_mono h n
    by_cases e : Q (n + 1)
    · rw [zcnt_y e, zcnt_y (h _ e)]; omega
    · rw [zcnt_n e]
      by_cases e' : R (n + 1)
      · rw [zcnt_y e']; omega
      · rw [zcnt_n e']; exact h1
theorem zcnt_good {Q : Nat → Prop} {p : zA1} (hp : 0 < zln p) (h : ∀ t : Nat, zVl (zfI (t : Int)) p ≠ 0 → Q t) {n : Nat} (hn : n < 2147483647) : n < zcnt Q n + zln p := by
  have h1 := zcnt_not Q n
  have h2 := zcnt_mono (Q := fun t => ¬ Q t) (R := fun t => zVl (zfI (t : Int)) p = 0) (fun t k => Classical.byContradiction fun e => k (h t e)) n
  have h3 := zcnt_roots hp hn
  omega
