/-! runs of the small machine to a state that is asked for -/
def zP (d : Nat) (q : zQ) (pc : Nat) (lv : zL) (st : List Value) (w : zM) (sz mc ms : Nat) (Post : Option (Option Value) → zM → Nat → Prop) : Prop :=
  ∃ f res w' sz', zrun zMe f d q pc lv st w sz mc ms = some (res, w', sz') ∧ Post res w' sz'
theorem zrun_mono {M : Nat → Option zQ} : ∀ (f : Nat) (d : Nat) (q : zQ) (pc : Nat) (lv : zL) (st : List Value) (w : zM) (sz mc ms : Nat) (x : Option (Option Value) × zM × Nat), zrun M f d q pc lv st w sz mc ms = some x → zrun M (f + 1) d q pc lv st w sz mc ms = some x := by
  intro f
  induction f with
  | zero => intro d q pc lv st w sz mc ms x h; simp [zrun] at h
  | succ f ih =>
    intro d q pc lv st w sz mc ms x h
    rw [zrun] at h
    rw [zrun]
    split at h
    · cases h
    next i hi =>
    try rw [hi]
    try dsimp only
    split at h
    · next y hy => (try rw [hy]); (try dsimp only); exact ih _ _ _ _ _ _ _ _ _ _ h
    next hy =>
    try rw [hy]
    try dsimp only
    split at h
    · next y hy => (try rw [hy]); (try dsimp only); exact ih _ _ _ _ _ _ _ _ _ _ h
    next hy =>
    try rw [hy]
    try dsimp only
    split at h
    · next y hy => (try rw [hy]); (try dsimp only); exact h
    next hy =>
    try rw [hy]
    try dsimp only
    split at h
    · next hy => (try rw [hy]); (try dsimp only); exact h
    next hy =>
    try rw [hy]
    try dsimp only
    split at h
    · next y hy => (try rw [hy]); (try dsimp only); exact ih _ _ _ _ _ _ _ _ _ _ h
    next hy =>
    try rw [hy]
    try dsimp only
    split at h
    · next y hy =>
      try rw [hy]
      try dsimp only
      cases d with
      | zero => cases h
      | succ d' =>
        try dsimp only at h
        try dsimp only
        split at h
        · next hg =>
          try rw [if_pos hg]
          split at h
          · next r w2 sz2 hr => rw [ih _ _ _ _ _ _ _ _ _ _ hr]; exact ih _ _ _ _ _ _ _ _ _ _ h
          · next w2 sz2 hr => rw [ih _ _ _ _ _ _ _ _ _ _ hr]; exact h
          · cases h
        · cases h
    · cases h
theorem zrun_le {M : Nat → Option zQ} {f g d : Nat} {q : zQ} {pc : Nat} {lv : zL} {st : List Value} {w : zM} {sz mc ms : Nat} {x : Option (Option Value) × zM × Nat} (hfg : f ≤ g) (h : zrun M f d q pc lv st w sz mc ms = some x) : zrun M g d q pc lv st w sz mc ms = some x := by
  induction hfg with
  | refl => exact h
  | step _ ih => exact zrun_mono _ _ _ _ _ _ _ _ _ _ _ ih
section ZP
variable {d : Nat} {q : zQ} {pc pc' : Nat} {lv lv' : zL} {st st' : List Value} {w w' : zM} {sz mc ms : Nat} {Post : Option (Option Value) → zM → Nat → Prop} {i : Instr}
theorem zP.mono {Post' : Option (Option Value) → zM → Nat → Prop} (h : zP d q pc lv st w sz mc ms Post) (k : ∀ r w' z, Post r w' z → Post' r w' z) : zP d q pc lv st w sz mc ms Post' := by
  obtain ⟨f, r, w', z, h1, h2⟩ := h
  exact ⟨f, r, w', z, h1, k _ _ _ h2⟩
theorem zp_pure (hi : zlk (zqI q) pc = some i) (h : zpure i pc (zqL q) lv st = some (pc', lv', st')) (k : zP d q pc' lv' st' w sz mc ms Post) : zP d q pc lv st w sz mc ms Post := by
  obtain ⟨f, r, w2, z, h1, h2⟩ := k
  exact ⟨f + 1, r, w2, z, by rw [zrun, hi]; dsimp only; rw [h]; exact h1, h2⟩
theorem zp_heap (hi : zlk (zqI q) pc = some i) (h0 : zpure i pc (zqL q) lv st = none) (h : zheap (zqP q) i pc lv st w = some (pc', lv', st', w')) (k : zP d q pc' lv' st' w' sz mc ms Post) : zP d q pc lv st w sz mc ms Post := by
  obtain ⟨f, r, w2, z, h1, h2⟩ := k
  exact ⟨f + 1, r, w2, z, by rw [zrun, hi]; dsimp only; rw [h0]; dsimp only; rw [h]; exact h1, h2⟩
theorem zp_ret {r : Option Value} (hi : zlk (zqI q) pc = some i) (h0 : zpure i pc (zqL q) lv st = none) (h1 : zheap (zqP q) i pc lv st w = none) (h : zret (zqR q) i st = some r) (k : Post (some r) w sz) : zP d q pc lv st w sz mc ms Post :=
  ⟨1, some r, w, sz, by rw [zrun, hi]; dsimp only; rw [h0]; dsimp only; rw [h1]; dsimp only; rw [h], k⟩
theorem zp_throw (hi : zlk (zqI q) pc = some i) (h0 : zpure i pc (zqL q) lv st = none) (h1 : zheap (zqP q) i pc lv st w = none) (h2 : zret (zqR q) i st = none) (h : zthr i st w = true) (k : Post none w sz) : zP d q pc lv st w sz mc ms Post :=
  ⟨1, none, w, sz, by rw [zrun, hi]; dsimp only; rw [h0]; dsimp only; rw [h1]; dsimp only; rw [h2]; dsimp only; rw [h], k⟩
theorem zp_spec {sz' mc' ms' : Nat} (hi : zlk (zqI q) pc = some i) (h0 : zpure i pc (zqL q) lv st = none) (h1 : zheap (zqP q) i pc lv st w = none) (h2 : zret (zqR q) i st = none) (h3 : zthr i st w = false) (h : zspec q d i pc st w sz mc ms = some (pc', st', w', sz', mc', ms')) (k : zP d q pc' lv st' w' sz' mc' ms' Post) : zP d q pc lv st w sz mc ms Post := by
  obtain ⟨f, r, w2, z, g1, g2⟩ := k
  exact ⟨f + 1, r, w2, z, by rw [zrun, hi]; dsimp only; rw [h0]; dsimp only; rw [h1]; dsimp only; rw [h2]; dsimp only; rw [h3]; dsimp only; rw [h]; exact g1, g2⟩
theorem zp_call {q2 : zQ} {As rest : List Value} {Post2 : Option (Option Value) → zM → Nat → Prop} {d : Nat} (hi : zlk (zqI q) pc = some i) (h0 : zpure i pc (zqL q) lv st = none) (h1 : zheap (zqP q) i pc lv st w = none) (h2 : zret (zqR q) i st = none) (h3 : zthr i st w = false) (h4 : ∀ d, zspec q d i pc st w sz mc ms = none)
    (h : zinv zMe q i st w = some (q2, As, rest)) (hm1 : (zqM q2).1 ≤ mc) (hm2 : (zqM q2).2 ≤ ms) (hs : zsum rest ≤ 8) (hg : (lg_sl As).length ≤ zqL q2)
    (hc : zP d q2 0 (lv_args 0 As) [] w sz (zqM q2).1 (zqM q2).2 Post2)
    (k : ∀ r w2 z, Post2 (some r) w2 z → zP (d + 1) q (pc + 3) lv (r.toList ++ rest) w2 z (mc - (zqM q2).1) (ms - (zqM q2).2) Post) (kx : ∀ w2 z, Post2 none w2 z → Post none w2 z) : zP (d + 1) q pc lv st w sz mc ms Post := by
  obtain ⟨f, r, w2, z, g1, g2⟩ := hc
  cases r with
  | none => exact ⟨f + 1, none, w2, z, by rw [zrun, hi]; dsimp only; rw [h0]; dsimp only; rw [h1]; dsimp only; rw [h2]; dsimp only; rw [h3]; dsimp only; rw [h4]; dsimp only; rw [h]; dsimp only; rw [if_pos ⟨hm1, hm2, hs, hg⟩, g1], kx _ _ g2⟩
  | some r =>
    obtain ⟨f', r', w3, z3, g3, g4⟩ := k r w2 z g2
    refine ⟨(f + f') + 1, r', w3, z3, ?_, g4⟩
    rw [zrun, hi]
    dsimp only
    rw [h0]
    dsimp only
    rw [h1]
    dsimp only
    rw [h2]
    dsimp only
    rw [h3]
    dsimp only
    rw [h4]
    dsimp only
    rw [h]
    dsimp only
    rw [if_pos ⟨hm1, hm2, hs, hg⟩, zrun_le (Nat.le_add_right f f') g1]
    exact zrun_le (Nat.le_add_left f' f) g3
/-- a stretch of plain steps -/
def zps (nL : Nat) : List (Nat × Instr) → Nat × zL × List Value → Option (Nat × zL × List Value)
  | [], s => some s
  | (pc, i) :: t, s => if s.1 = pc then match zpure i pc nL s.2.1 s.2.2 with
      | some s' => zps nL t s'
      | none => none
    else none
theorem zp_seg (L : List (Nat × Instr)) (hL : L.all (fun x => decide (zlk (zqI q) x.1 = some x.2)) = true) (h : zps (zqL q) L (pc, lv, st) = some (pc', lv', st')) (k : zP d q pc' lv' st' w sz mc ms Post) : zP d q pc lv st w sz mc ms Post := by
  induction L generalizing pc lv st with
  | nil => cases h; exact k
  | cons x t ih =>
    obtain ⟨p0, i⟩ := x
    simp only [List.all_cons, Bool.and_eq_true, decide_eq_true_eq] at hL
    unfold zps at h
    split at h
    · next hp =>
      dsimp only at hp
      subst hp
      split at h
      · next s' hs =>
        obtain ⟨p1, l1, s1⟩ := s'
        exact zp_pure hL.1 hs (ih hL.2 h)
      · cases h
    · cases h
/-- a branch -/
theorem zp_if {c : Prop} [inst : Decidable c] {t e : Nat} (hi : zlk (zqI q) pc = some i) (h : zpure i pc (zqL q) lv st = some (if c then t else e, lv', st')) (kt : c → zP d q t lv' st' w sz mc ms Post) (ke : ¬ c → zP d q e lv' st' w sz mc ms Post) : zP d q pc lv st w sz mc ms Post := by
  by_cases hc : c
  · rw [if_pos hc] at h; exact zp_pure hi h (kt hc)
  · rw [if_neg hc] at h; exact zp_pure hi h (ke hc)
end ZP
/-- a method that returns, makes nothing, throws nothing: from any depth k on -/
def zCon (k : Nat) (y : zQ) (As : List Value) (w : zM) (φ : Option Value → zM → Prop) : Prop := ∀ d sz, k ≤ d → zP d y 0 (lv_args 0 As) [] w sz 0 0 (fun r w' z => z = sz ∧ ∃ v, r = some v ∧ φ v w')
