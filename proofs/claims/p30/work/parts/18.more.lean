/-! a run asks of the locals what is listed of them: more of them, in another order, do as well -/
def zR2 (lv lv' : zL) : Prop := ∀ q ∈ lv, zlk lv' q.1 = some q.2
theorem zlk_filter {l : zL} {f : Nat × Value → Bool} {k : Nat} {v : Value} (h : zlk l k = some v) (hf : f (k, v) = true) : zlk (l.filter f) k = some v := by
  induction l with
  | nil => cases h
  | cons x t ih =>
    obtain ⟨a, y⟩ := x
    unfold zlk at h
    split at h
    · next e =>
      cases h
      subst e
      rw [List.filter_cons_of_pos hf]
      unfold zlk
      rw [if_pos rfl]
    · next e =>
      by_cases hx : f (a, y) = true
      · rw [List.filter_cons_of_pos hx]
        unfold zlk
        rw [if_neg e]
        exact ih h
      · rw [List.filter_cons_of_neg hx]
        exact ih h
theorem zR2.st1 {lv lv' : zL} (h : zR2 lv lv') (i : Nat) (v : Value) : zR2 (zst1 lv i v) (zst1 lv' i v) := by
  intro q hq
  rcases List.mem_cons.mp hq with rfl | hq
  · show zlk ((i, v) :: _) i = _
    unfold zlk
    rw [if_pos rfl]
  · obtain ⟨h1, h2⟩ := List.mem_filter.mp hq
    have hne : ¬ i = q.1 := fun e => by subst e; simp at h2
    show zlk ((i, v) :: _) q.1 = _
    unfold zlk
    rw [if_neg hne]
    exact zlk_filter (h q h1) h2
theorem zR2.st2 {lv lv' : zL} (h : zR2 lv lv') (i : Nat) (v : Value) : zR2 (zst2 lv i v) (zst2 lv' i v) := by
  intro q hq
  rcases List.mem_cons.mp hq with rfl | hq
  · show zlk ((i, v) :: _) i = _
    unfold zlk
    rw [if_pos rfl]
  · obtain ⟨h1, h2⟩ := List.mem_filter.mp hq
    have hne : ¬ i = q.1 := fun e => by subst e; simp at h2
    show zlk ((i, v) :: _) q.1 = _
    unfold zlk
    rw [if_neg hne]
    exact zlk_filter (h q h1) h2
theorem zR2.at {lv lv' : zL} (h : zR2 lv lv') {k : Nat} {v : Value} (hk : zlk lv k = some v) : zlk lv' k = some v := h (k, v) (zlk_mem hk)
set_option maxHeartbeats 40000000 in
theorem zpure_more {i : Instr} {pc nL pc' : Nat} {lv lv' lv1 : zL} {st st' : List Value} (hR : zR2 lv lv') (hp : zpure i pc nL lv st = some (pc', lv1, st')) : ∃ lv2, zpure i pc nL lv' st = some (pc', lv2, st') ∧ zR2 lv1 lv2 := by
  cases i with
  | iconst n =>
    simp only [zpure] at hp ⊢
    cases hp; exact ⟨_, rfl, hR⟩
  | bipush n =>
    simp only [zpure] at hp ⊢
    cases hp; exact ⟨_, rfl, hR⟩
  | sipush n =>
    simp only [zpure] at hp ⊢
    cases hp; exact ⟨_, rfl, hR⟩
  | lconst n =>
    simp only [zpure] at hp ⊢
    cases hp; exact ⟨_, rfl, hR⟩
  | aconst_null =>
    simp only [zpure] at hp ⊢
    cases hp; exact ⟨_, rfl, hR⟩
  | iload_n k =>
    simp only [zpure] at hp ⊢
    split at hp
    · next he =>
      rw [hR.at he]
      cases hp; exact ⟨_, rfl, hR⟩
    · cases hp
  | iload k =>
    simp only [zpure] at hp ⊢
    split at hp
    · next he =>
      rw [hR.at he]
      cases hp; exact ⟨_, rfl, hR⟩
    · cases hp
  | lload_n k =>
    simp only [zpure] at hp ⊢
    split at hp
    · next he =>
      rw [hR.at he]
      cases hp; exact ⟨_, rfl, hR⟩
    · cases hp
  | lload k =>
    simp only [zpure] at hp ⊢
    split at hp
    · next he =>
      rw [hR.at he]
      cases hp; exact ⟨_, rfl, hR⟩
    · cases hp
  | aload_n k =>
    simp only [zpure] at hp ⊢
    split at hp
    · next he =>
      rw [hR.at he]
      cases hp; exact ⟨_, rfl, hR⟩
    · next he =>
      rw [hR.at he]
      cases hp; exact ⟨_, rfl, hR⟩
    · cases hp
  | aload k =>
    simp only [zpure] at hp ⊢
    split at hp
    · next he =>
      rw [hR.at he]
      cases hp; exact ⟨_, rfl, hR⟩
    · next he =>
      rw [hR.at he]
      cases hp; exact ⟨_, rfl, hR⟩
    · cases hp
  | istore_n k =>
    simp only [zpure] at hp ⊢
    split at hp
    ·
      split at hp
      · next hg => cases hp; (try dsimp only); rw [if_pos hg]; exact ⟨_, rfl, hR.st1 _ _⟩
      · cases hp
    · cases hp
  | istore k =>
    simp only [zpure] at hp ⊢
    split at hp
    ·
      split at hp
      · next hg => cases hp; (try dsimp only); rw [if_pos hg]; exact ⟨_, rfl, hR.st1 _ _⟩
      · cases hp
    · cases hp
  | lstore_n k =>
    simp only [zpure] at hp ⊢
    split at hp
    ·
      split at hp
      · next hg => cases hp; (try dsimp only); rw [if_pos hg]; exact ⟨_, rfl, hR.st2 _ _⟩
      · cases hp
    · cases hp
  | lstore k =>
    simp only [zpure] at hp ⊢
    split at hp
    ·
      split at hp
      · next hg => cases hp; (try dsimp only); rw [if_pos hg]; exact ⟨_, rfl, hR.st2 _ _⟩
      · cases hp
    · cases hp
  | astore_n k =>
    simp only [zpure] at hp ⊢
    split at hp
    ·
      split at hp
      · next hg => cases hp; (try dsimp only); rw [if_pos hg]; exact ⟨_, rfl, hR.st1 _ _⟩
      · cases hp
    ·
      split at hp
      · next hg => cases hp; (try dsimp only); rw [if_pos hg]; exact ⟨_, rfl, hR.st1 _ _⟩
      · cases hp
    · cases hp
  | astore k =>
    simp only [zpure] at hp ⊢
    split at hp
    ·
      split at hp
      · next hg => cases hp; (try dsimp only); rw [if_pos hg]; exact ⟨_, rfl, hR.st1 _ _⟩
      · cases hp
    ·
      split at hp
      · next hg => cases hp; (try dsimp only); rw [if_pos hg]; exact ⟨_, rfl, hR.st1 _ _⟩
      · cases hp
    · cases hp
  | iinc i n =>
    simp only [zpure] at hp ⊢
    split at hp
    · next he =>
      rw [hR.at he]
      split at hp
      · next hg => cases hp; (try dsimp only); rw [if_pos hg]; exact ⟨_, rfl, hR.st1 _ _⟩
      · cases hp
    · cases hp
  | iadd =>
    simp only [zpure] at hp ⊢
    split at hp
    ·
      cases hp; exact ⟨_, rfl, hR⟩
    · cases hp
  | isub =>
    simp only [zpure] at hp ⊢
    split at hp
    ·
      cases hp; exact ⟨_, rfl, hR⟩
    · cases hp
  | imul =>
    simp only [zpure] at hp ⊢
    split at hp
    ·
      cases hp; exact ⟨_, rfl, hR⟩
    · cases hp
  | iand =>
    simp only [zpure] at hp ⊢
    split at hp
    ·
      cases hp; exact ⟨_, rfl, hR⟩
    · cases hp
  | ior =>
    simp only [zpure] at hp ⊢
    split at hp
    ·
      cases hp; exact ⟨_, rfl, hR⟩
    · cases hp
  | ishl =>
    simp only [zpure] at hp ⊢
    split at hp
    ·
      cases hp; exact ⟨_, rfl, hR⟩
    · cases hp
  | ishr =>
    simp only [zpure] at hp ⊢
    split at hp
    ·
      cases hp; exact ⟨_, rfl, hR⟩
    · cases hp
  | ladd =>
    simp only [zpure] at hp ⊢
    split at hp
    ·
      cases hp; exact ⟨_, rfl, hR⟩
    · cases hp
  | lsub =>
    simp only [zpure] at hp ⊢
    split at hp
    ·
      cases hp; exact ⟨_, rfl, hR⟩
    · cases hp
  | lmul =>
    simp only [zpure] at hp ⊢
    split at hp
    ·
      cases hp; exact ⟨_, rfl, hR⟩
    · cases hp
  | land =>
    simp only [zpure] at hp ⊢
    split at hp
    ·
      cases hp; exact ⟨_, rfl, hR⟩
    · cases hp
  | lor =>
    simp only [zpure] at hp ⊢
    split at hp
    ·
      cases hp; exact ⟨_, rfl, hR⟩
    · cases hp
  | idiv =>
    simp only [zpure] at hp ⊢
    split at hp
    ·
      split at hp
      · next hg => cases hp; (try dsimp only); rw [if_pos hg]; exact ⟨_, rfl, hR⟩
      · cases hp
    · cases hp
  | irem =>
    simp only [zpure] at hp ⊢
    split at hp
    ·
      split at hp
      · next hg => cases hp; (try dsimp only); rw [if_pos hg]; exact ⟨_, rfl, hR⟩
      · cases hp
    · cases hp
  | ldiv =>
    simp only [zpure] at hp ⊢
    split at hp
    ·
      split at hp
      · next hg => cases hp; (try dsimp only); rw [if_pos hg]; exact ⟨_, rfl, hR⟩
      · cases hp
    · cases hp
  | lrem =>
    simp only [zpure] at hp ⊢
    split at hp
    ·
      split at hp
      · next hg => cases hp; (try dsimp only); rw [if_pos hg]; exact ⟨_, rfl, hR⟩
      · cases hp
    · cases hp
  | ineg =>
    simp only [zpure] at hp ⊢
    split at hp
    ·
      cases hp; exact ⟨_, rfl, hR⟩
    · cases hp
  | lneg =>
    simp only [zpure] at hp ⊢
    split at hp
    ·
      cases hp; exact ⟨_, rfl, hR⟩
    · cases hp
  | lshl =>
    simp only [zpure] at hp ⊢
    split at hp
    ·
      cases hp; exact ⟨_, rfl, hR⟩
    · cases hp
  | lshr =>
    simp only [zpure] at hp ⊢
    split at hp
    ·
      cases hp; exact ⟨_, rfl, hR⟩
    · cases hp
  | i2l =>
    simp only [zpure] at hp ⊢
    split at hp
    ·
      cases hp; exact ⟨_, rfl, hR⟩
    · cases hp
  | l2i =>
    simp only [zpure] at hp ⊢
    split at hp
    ·
      cases hp; exact ⟨_, rfl, hR⟩
    · cases hp
  | i2b =>
    simp only [zpure] at hp ⊢
    split at hp
    ·
      cases hp; exact ⟨_, rfl, hR⟩
    · cases hp
  | lcmp =>
    simp only [zpure] at hp ⊢
    split at hp
    ·
      cases hp; exact ⟨_, rfl, hR⟩
    · cases hp
  | dup =>
    simp only [zpure] at hp ⊢
    split at hp
    ·
      split at hp
      · next hg => cases hp; (try dsimp only); rw [if_pos hg]; exact ⟨_, rfl, hR⟩
      · cases hp
    · cases hp
  | pop =>
    simp only [zpure] at hp ⊢
    split at hp
    ·
      split at hp
      · next hg => cases hp; (try dsimp only); rw [if_pos hg]; exact ⟨_, rfl, hR⟩
      · cases hp
    · cases hp
  | dup_x1 =>
    simp only [zpure] at hp ⊢
    split at hp
    ·
      split at hp
      · next hg => cases hp; (try dsimp only); rw [if_pos hg]; exact ⟨_, rfl, hR⟩
      · cases hp
    · cases hp
  | dup2 =>
    simp only [zpure] at hp ⊢
    split at hp
    ·
      split at hp
      · next hg => cases hp; (try dsimp only); rw [if_pos hg]; exact ⟨_, rfl, hR⟩
      · cases hp
    · cases hp
  | ifCond cnd off =>
    cases cnd with
    | eq =>
      simp only [zpure] at hp ⊢
      split at hp
      ·
        cases hg : ztgok pc off with
        | false => rw [hg] at hp; cases hp
        | true =>
          rw [hg] at hp
          simp only [cond_true, Option.some.injEq, Prod.mk.injEq] at hp
          obtain ⟨h1, h2, h3⟩ := hp
          subst h1; subst h2; subst h3
          exact ⟨_, rfl, hR⟩
      · cases hp
    | ne =>
      simp only [zpure] at hp ⊢
      split at hp
      ·
        cases hg : ztgok pc off with
        | false => rw [hg] at hp; cases hp
        | true =>
          rw [hg] at hp
          simp only [cond_true, Option.some.injEq, Prod.mk.injEq] at hp
          obtain ⟨h1, h2, h3⟩ := hp
          subst h1; subst h2; subst h3
          exact ⟨_, rfl, hR⟩
      · cases hp
    | lt =>
      simp only [zpure] at hp ⊢
      split at hp
      ·
        cases hg : ztgok pc off with
        | false => rw [hg] at hp; cases hp
        | true =>
          rw [hg] at hp
          simp only [cond_true, Option.some.injEq, Prod.mk.injEq] at hp
          obtain ⟨h1, h2, h3⟩ := hp
          subst h1; subst h2; subst h3
          exact ⟨_, rfl, hR⟩
      · cases hp
    | ge =>
      simp only [zpure] at hp ⊢
      split at hp
      ·
        cases hg : ztgok pc off with
        | false => rw [hg] at hp; cases hp
        | true =>
          rw [hg] at hp
          simp only [cond_true, Option.some.injEq, Prod.mk.injEq] at hp
          obtain ⟨h1, h2, h3⟩ := hp
          subst h1; subst h2; subst h3
          exact ⟨_, rfl, hR⟩
      · cases hp
    | gt =>
      simp only [zpure] at hp ⊢
      split at hp
      ·
        cases hg : ztgok pc off with
        | false => rw [hg] at hp; cases hp
        | true =>
          rw [hg] at hp
          simp only [cond_true, Option.some.injEq, Prod.mk.injEq] at hp
          obtain ⟨h1, h2, h3⟩ := hp
          subst h1; subst h2; subst h3
          exact ⟨_, rfl, hR⟩
      · cases hp
    | le =>
      simp only [zpure] at hp ⊢
      split at hp
      ·
        cases hg : ztgok pc off with
        | false => rw [hg] at hp; cases hp
        | true =>
          rw [hg] at hp
          simp only [cond_true, Option.some.injEq, Prod.mk.injEq] at hp
          obtain ⟨h1, h2, h3⟩ := hp
          subst h1; subst h2; subst h3
          exact ⟨_, rfl, hR⟩
      · cases hp
  | if_icmp cnd off =>
    cases cnd with
    | eq =>
      simp only [zpure] at hp ⊢
      split at hp
      ·
        cases hg : ztgok pc off with
        | false => rw [hg] at hp; cases hp
        | true =>
          rw [hg] at hp
          simp only [cond_true, Option.some.injEq, Prod.mk.injEq] at hp
          obtain ⟨h1, h2, h3⟩ := hp
          subst h1; subst h2; subst h3
          exact ⟨_, rfl, hR⟩
      · cases hp
    | ne =>
      simp only [zpure] at hp ⊢
      split at hp
      ·
        cases hg : ztgok pc off with
        | false => rw [hg] at hp; cases hp
        | true =>
          rw [hg] at hp
          simp only [cond_true, Option.some.injEq, Prod.mk.injEq] at hp
          obtain ⟨h1, h2, h3⟩ := hp
          subst h1; subst h2; subst h3
          exact ⟨_, rfl, hR⟩
      · cases hp
    | lt =>
      simp only [zpure] at hp ⊢
      split at hp
      ·
        cases hg : ztgok pc off with
        | false => rw [hg] at hp; cases hp
        | true =>
          rw [hg] at hp
          simp only [cond_true, Option.some.injEq, Prod.mk.injEq] at hp
          obtain ⟨h1, h2, h3⟩ := hp
          subst h1; subst h2; subst h3
          exact ⟨_, rfl, hR⟩
      · cases hp
    | ge =>
      simp only [zpure] at hp ⊢
      split at hp
      ·
        cases hg : ztgok pc off with
        | false => rw [hg] at hp; cases hp
        | true =>
          rw [hg] at hp
          simp only [cond_true, Option.some.injEq, Prod.mk.injEq] at hp
          obtain ⟨h1, h2, h3⟩ := hp
          subst h1; subst h2; subst h3
          exact ⟨_, rfl, hR⟩
      · cases hp
    | gt =>
      simp only [zpure] at hp ⊢
      split at hp
      ·
        cases hg : ztgok pc off with
        | false => rw [hg] at hp; cases hp
        | true =>
          rw [hg] at hp
          simp only [cond_true, Option.some.injEq, Prod.mk.injEq] at hp
          obtain ⟨h1, h2, h3⟩ := hp
          subst h1; subst h2; subst h3
          exact ⟨_, rfl, hR⟩
      · cases hp
    | le =>
      simp only [zpure] at hp ⊢
      split at hp
      ·
        cases hg : ztgok pc off with
        | false => rw [hg] at hp; cases hp
        | true =>
          rw [hg] at hp
          simp only [cond_true, Option.some.injEq, Prod.mk.injEq] at hp
          obtain ⟨h1, h2, h3⟩ := hp
          subst h1; subst h2; subst h3
          exact ⟨_, rfl, hR⟩
      · cases hp
  | goto off =>
    simp only [zpure] at hp ⊢
    cases hg : ztgok pc off with
    | false => rw [hg] at hp; cases hp
    | true => rw [hg] at hp; cases hp; exact ⟨_, rfl, hR⟩
  | ifnull off =>
    simp only [zpure] at hp ⊢
    split at hp
    ·
      cases hp; exact ⟨_, rfl, hR⟩
    ·
      cases hg : ztgok pc off with
      | false => rw [hg] at hp; cases hp
      | true => rw [hg] at hp; cases hp; exact ⟨_, rfl, hR⟩
    · cases hp
  | ifnonnull off =>
    simp only [zpure] at hp ⊢
    split at hp
    ·
      cases hg : ztgok pc off with
      | false => rw [hg] at hp; cases hp
      | true => rw [hg] at hp; cases hp; exact ⟨_, rfl, hR⟩
    ·
      cases hp; exact ⟨_, rfl, hR⟩
    · cases hp
  | _ => exact absurd hp (by intro q; cases q)
/-- the plain steps leave the others alone, whatever the locals -/
def zplain (i : Instr) : Bool := match i with
  | .getfield _ | .putfield _ | .iaload | .iastore | .baload | .bastore | .aaload | .aastore | .arraylength | .ldc _ | .ldc_w _ | .ldc2_w _ | .if_acmp _ _ | .ireturn | .areturn | .return_ | .athrow | .invokestatic _ | .invokevirtual _ | .anewarray _ | .tableswitch _ _ _ _ => false
  | _ => true
theorem zplain_none {i : Instr} (h : zplain i = false) (pc nL : Nat) (lv : zL) (st : List Value) : zpure i pc nL lv st = none := by
  cases i <;> first | rfl | cases h
theorem zplain_heap {i : Instr} (h : zplain i = true) (pl : zPool) (pc : Nat) (lv : zL) (st : List Value) (w : zM) : zheap pl i pc lv st w = none := by
  cases i <;> first | rfl | cases h
theorem zplain_ret {i : Instr} (h : zplain i = true) (r : Option FieldType) (st : List Value) : zret r i st = none := by
  cases i <;> first | rfl | cases h
theorem zplain_thr {i : Instr} (h : zplain i = true) (st : List Value) (w : zM) : zthr i st w = false := by
  cases i <;> first | rfl | cases h
theorem zplain_spec {i : Instr} (h : zplain i = true) (q : zQ) (d pc : Nat) (st : List Value) (w : zM) (sz mc ms : Nat) : zspec q d i pc st w sz mc ms = none := by
  cases i <;> first | rfl | cases h
theorem zplain_inv {i : Instr} (h : zplain i = true) (M : Nat → Option zQ) (q : zQ) (st : List Value) (w : zM) : zinv M q i st w = none := by
  cases i <;> first | rfl | cases h
theorem zheap_more {pl : zPool} {i : Instr} {pc pc' : Nat} {lv lv1 : zL} {st st' : List Value} {w w' : zM} (lv' : zL) (h : zheap pl i pc lv st w = some (pc', lv1, st', w')) : lv1 = lv ∧ zheap pl i pc lv' st w = some (pc', lv', st', w') := by
  have key : ∀ l : zL, zheap pl i pc l st w = (zheap pl i pc lv st w).map (fun x => (x.1, l, x.2.2.1, x.2.2.2)) := by
    intro l
    cases i with
    | if_acmp c o =>
      cases c
      all_goals
        simp only [zheap]
        (repeat' split) <;> first | rfl | (cases ztgok pc o <;> rfl)
    | _ =>
      first
        | rfl
        | (simp only [zheap]; (repeat' split) <;> first | rfl | (simp only [cond]; split <;> rfl))
  have h1 := key lv
  rw [h] at h1
  have h2 := key lv'
  rw [h] at h2
  simp only [Option.map_some, Option.some.injEq, Prod.mk.injEq, true_and, and_true] at h1
  exact ⟨h1, h2⟩
theorem zrun_more {M : Nat → Option zQ} : ∀ (f d : Nat) (q : zQ) (pc : Nat) (lv lv' : zL) (st : List Value) (w : zM) (sz mc ms : Nat) (x : Option (Option Value) × zM × Nat), zR2 lv lv' → zrun M f d q pc lv st w sz mc ms = some x → zrun M f d q pc lv' st w sz mc ms = some x := by
  intro f
  induction f with
  | zero => intro d q pc lv lv' st w sz mc ms x hR h; simp [zrun] at h
  | succ f ih =>
    intro d q pc lv lv' st w sz mc ms x hR h
    rw [zrun] at h ⊢
    cases hi : zlk (zqI q) pc with
    | none => rw [hi] at h; cases h
    | some i =>
      rw [hi] at h
      dsimp only at h ⊢
      cases hpl : zplain i with
      | true =>
        cases hp : zpure i pc (zqL q) lv st with
        | none =>
          rw [hp] at h
          dsimp only at h
          rw [zplain_heap hpl, zplain_ret hpl, zplain_thr hpl, zplain_spec hpl, zplain_inv hpl] at h
          cases h
        | some y =>
          obtain ⟨pc1, lv1, st1⟩ := y
          rw [hp] at h
          obtain ⟨lv2, h2, h3⟩ := zpure_more hR hp
          rw [h2]
          exact ih _ _ _ _ _ _ _ _ _ _ _ h3 h
      | false =>
        rw [zplain_none hpl] at h ⊢
        dsimp only at h ⊢
        cases hh : zheap (zqP q) i pc lv st w with
        | some y =>
          obtain ⟨pc1, lv1, st1, w1⟩ := y
          rw [hh] at h
          obtain ⟨e, h2⟩ := zheap_more lv' hh
          subst e
          rw [h2]
          exact ih _ _ _ _ _ _ _ _ _ _ _ hR h
        | none =>
          rw [hh] at h
          have h2 : zheap (zqP q) i pc lv' st w = none := by
            cases hh2 : zheap (zqP q) i pc lv' st w with
            | none => rfl
            | some y =>
              obtain ⟨pc1, lv1, st1, w1⟩ := y
              obtain ⟨-, h3⟩ := zheap_more lv hh2
              rw [hh] at h3
              cases h3
          rw [h2]
          dsimp only at h ⊢
          split at h
          · exact h
          split at h
          · exact h
          split at h
          · exact ih _ _ _ _ _ _ _ _ _ _ _ hR h
          split at h
          · cases d with
            | zero => cases h
            | succ d' =>
              dsimp only at h ⊢
              split at h
              · next hg =>
                rw [if_pos hg]
                split at h
                · next r w2 sz2 hr => (try rw [hr]); (try dsimp only); exact ih _ _ _ _ _ _ _ _ _ _ _ hR h
                · next w2 sz2 hr => (try rw [hr]); (try dsimp only); exact h
                · cases h
              · cases h
          · cases h
theorem zP.more {d : Nat} {q : zQ} {pc : Nat} {lv lv' : zL} {st : List Value} {w : zM} {sz mc ms : Nat} {Post : Option (Option Value) → zM → Nat → Prop} (h : zP d q pc lv st w sz mc ms Post) (hR : zR2 lv lv') : zP d q pc lv' st w sz mc ms Post := by
  obtain ⟨f, r, w', z, h1, h2⟩ := h
  exact ⟨f, r, w', z, zrun_more _ _ _ _ _ _ _ _ _ _ _ _ hR h1, h2⟩
