/-! the small machine: frames and cells as plain lists and functions; here its plain steps (no cell is looked at) -/
abbrev zL : Type := List (Nat × Value)
def zlk {α : Type} : List (Nat × α) → Nat → Option α
  | [], _ => none
  | (a, x) :: t, k => if a = k then some x else zlk t k
theorem zlk_mem {α : Type} : ∀ {l : List (Nat × α)} {k : Nat} {x : α}, zlk l k = some x → (k, x) ∈ l
  | [], _, _, h => by cases h
  | (a, y) :: t, k, x, h => by
    unfold zlk at h
    split at h
    · next e => cases h; subst e; exact List.mem_cons_self
    · exact List.mem_cons_of_mem _ (zlk_mem h)
def zst1 (lv : zL) (i : Nat) (v : Value) : zL := (i, v) :: lv.filter (fun q => !(q.1 == i) && !(q.1 + 1 == i && q.2.category == 2))
def zst2 (lv : zL) (i : Nat) (v : Value) : zL := (i, v) :: lv.filter (fun q => !(q.1 == i) && (!(q.1 == i + 1) && !(q.1 + 1 == i && q.2.category == 2)))
def ztg (pc : Nat) (off : Int) : Nat := ((pc : Int) + off).toNat
def ztgok (pc : Nat) (off : Int) : Bool := decide (0 ≤ (pc : Int) + off)
theorem ztg_eq {pc : Nat} {off : Int} (h : ztgok pc off = true) : (pc : Int) + off = ((ztg pc off : Nat) : Int) := (Int.toNat_of_nonneg (of_decide_eq_true h)).symm
/-- how long an instruction is (a switch tells its own) -/
def zlen : Instr → Nat
  | .bipush _ => 2
  | .sipush _ => 3
  | .iload _ => 2
  | .lload _ => 2
  | .aload _ => 2
  | .istore _ => 2
  | .lstore _ => 2
  | .astore _ => 2
  | .iinc _ _ => 3
  | .ifCond _ _ => 3
  | .if_icmp _ _ => 3
  | .goto _ => 3
  | .ifnull _ => 3
  | .ifnonnull _ => 3
  | .getfield _ => 3
  | .putfield _ => 3
  | .ldc _ => 2
  | .ldc_w _ => 3
  | .ldc2_w _ => 3
  | .anewarray _ => 3
  | .invokevirtual _ => 3
  | .invokestatic _ => 3
  | .invokespecial _ => 3
  | .if_acmp _ _ => 3
  | _ => 1
set_option maxHeartbeats 4000000 in
def zpure (i : Instr) (pc nL : Nat) (lv : zL) (st : List Value) : Option (Nat × zL × List Value) :=
  match i with
  | .iconst n => some (pc + 1, lv, .int (Int32.ofInt n) :: st)
  | .bipush n => some (pc + 2, lv, .int (Int8.ofInt n).toInt32 :: st)
  | .sipush n => some (pc + 3, lv, .int (Int16.ofInt n).toInt32 :: st)
  | .lconst n => some (pc + 1, lv, .long (Int64.ofNat (n : Nat)) :: st)
  | .aconst_null => some (pc + 1, lv, .null :: st)
  | .iload_n k => match zlk lv (k : Nat) with
    | some (.int x) => some (pc + 1, lv, .int x :: st)
    | _ => none
  | .iload k => match zlk lv k with
    | some (.int x) => some (pc + 2, lv, .int x :: st)
    | _ => none
  | .lload_n k => match zlk lv (k : Nat) with
    | some (.long x) => some (pc + 1, lv, .long x :: st)
    | _ => none
  | .lload k => match zlk lv k with
    | some (.long x) => some (pc + 2, lv, .long x :: st)
    | _ => none
  | .aload_n k => match zlk lv (k : Nat) with
    | some (.ref x) => some (pc + 1, lv, .ref x :: st)
    | some .null => some (pc + 1, lv, .null :: st)
    | _ => none
  | .aload k => match zlk lv k with
    | some (.ref x) => some (pc + 2, lv, .ref x :: st)
    | some .null => some (pc + 2, lv, .null :: st)
    | _ => none
  | .istore_n k => match st with
    | .int x :: r => if (k : Nat) < nL then some (pc + 1, zst1 lv (k : Nat) (.int x), r) else none
    | _ => none
  | .istore k => match st with
    | .int x :: r => if k < nL then some (pc + 2, zst1 lv k (.int x), r) else none
    | _ => none
  | .lstore_n k => match st with
    | .long x :: r => if (k : Nat) + 1 < nL then some (pc + 1, zst2 lv (k : Nat) (.long x), r) else none
    | _ => none
  | .lstore k => match st with
    | .long x :: r => if k + 1 < nL then some (pc + 2, zst2 lv k (.long x), r) else none
    | _ => none
  | .astore_n k => match st with
    | .ref x :: r => if (k : Nat) < nL then some (pc + 1, zst1 lv (k : Nat) (.ref x), r) else none
    | .null :: r => if (k : Nat) < nL then some (pc + 1, zst1 lv (k : Nat) .null, r) else none
    | _ => none
  | .astore k => match st with
    | .ref x :: r => if k < nL then some (pc + 2, zst1 lv k (.ref x), r) else none
    | .null :: r => if k < nL then some (pc + 2, zst1 lv k .null, r) else none
    | _ => none
  | .iinc i n => match zlk lv i with
    | some (.int x) => if i < nL then some (pc + 3, zst1 lv i (.int (x + Int32.ofInt n)), st) else none
    | _ => none
  | .iadd => match st with
    | .int y :: .int x :: r => some (pc + 1, lv, .int (x + y) :: r)
    | _ => none
  | .isub => match st with
    | .int y :: .int x :: r => some (pc + 1, lv, .int (x - y) :: r)
    | _ => none
  | .imul => match st with
    | .int y :: .int x :: r => some (pc + 1, lv, .int (x * y) :: r)
    | _ => none
  | .iand => match st with
    | .int y :: .int x :: r => some (pc + 1, lv, .int (x &&& y) :: r)
    | _ => none
  | .ior => match st with
    | .int y :: .int x :: r => some (pc + 1, lv, .int (x ||| y) :: r)
    | _ => none
  | .ishl => match st with
    | .int y :: .int x :: r => some (pc + 1, lv, .int (x <<< (y &&& 31)) :: r)
    | _ => none
  | .ishr => match st with
    | .int y :: .int x :: r => some (pc + 1, lv, .int (x >>> (y &&& 31)) :: r)
    | _ => none
  | .ladd => match st with
    | .long y :: .long x :: r => some (pc + 1, lv, .long (x + y) :: r)
    | _ => none
  | .lsub => match st with
    | .long y :: .long x :: r => some (pc + 1, lv, .long (x - y) :: r)
    | _ => none
  | .lmul => match st with
    | .long y :: .long x :: r => some (pc + 1, lv, .long (x * y) :: r)
    | _ => none
  | .land => match st with
    | .long y :: .long x :: r => some (pc + 1, lv, .long (x &&& y) :: r)
    | _ => none
  | .lor => match st with
    | .long y :: .long x :: r => some (pc + 1, lv, .long (x ||| y) :: r)
    | _ => none
  | .idiv => match st with
    | .int y :: .int x :: r => if ¬ y = 0 then some (pc + 1, lv, .int (x / y) :: r) else none
    | _ => none
  | .irem => match st with
    | .int y :: .int x :: r => if ¬ y = 0 then some (pc + 1, lv, .int (x - x / y * y) :: r) else none
    | _ => none
  | .ldiv => match st with
    | .long y :: .long x :: r => if ¬ y = 0 then some (pc + 1, lv, .long (x / y) :: r) else none
    | _ => none
  | .lrem => match st with
    | .long y :: .long x :: r => if ¬ y = 0 then some (pc + 1, lv, .long (x - x / y * y) :: r) else none
    | _ => none
  | .ineg => match st with
    | .int x :: r => some (pc + 1, lv, .int (-x) :: r)
    | _ => none
  | .lneg => match st with
    | .long x :: r => some (pc + 1, lv, .long (-x) :: r)
    | _ => none
  | .lshl => match st with
    | .int y :: .long x :: r => some (pc + 1, lv, .long (x <<< (y.toInt64 &&& 63)) :: r)
    | _ => none
  | .lshr => match st with
    | .int y :: .long x :: r => some (pc + 1, lv, .long (x >>> (y.toInt64 &&& 63)) :: r)
    | _ => none
  | .i2l => match st with
    | .int x :: r => some (pc + 1, lv, .long x.toInt64 :: r)
    | _ => none
  | .l2i => match st with
    | .long x :: r => some (pc + 1, lv, .int x.toInt32 :: r)
    | _ => none
  | .i2b => match st with
    | .int x :: r => some (pc + 1, lv, .int x.toInt8.toInt32 :: r)
    | _ => none
  | .lcmp => match st with
    | .long y :: .long x :: r => some (pc + 1, lv, .int (lg_cmp x y) :: r)
    | _ => none
  | .dup => match st with
    | va :: r => if va.category = 1 then some (pc + 1, lv, va :: va :: r) else none
    | _ => none
  | .pop => match st with
    | va :: r => if va.category = 1 then some (pc + 1, lv, r) else none
    | _ => none
  | .dup_x1 => match st with
    | va :: vb :: r => if va.category = 1 ∧ vb.category = 1 then some (pc + 1, lv, va :: vb :: va :: r) else none
    | _ => none
  | .dup2 => match st with
    | va :: vb :: r => if va.category = 1 ∧ vb.category = 1 then some (pc + 1, lv, va :: vb :: va :: vb :: r) else none
    | _ => none
  | .ifCond .eq off => match st with
    | .int x :: r => bif ztgok pc off then some (if x = 0 then ztg pc off else pc + 3, lv, r) else none
    | _ => none
  | .ifCond .ne off => match st with
    | .int x :: r => bif ztgok pc off then some (if ¬ x = 0 then ztg pc off else pc + 3, lv, r) else none
    | _ => none
  | .ifCond .lt off => match st with
    | .int x :: r => bif ztgok pc off then some (if x < 0 then ztg pc off else pc + 3, lv, r) else none
    | _ => none
  | .ifCond .ge off => match st with
    | .int x :: r => bif ztgok pc off then some (if 0 ≤ x then ztg pc off else pc + 3, lv, r) else none
    | _ => none
  | .ifCond .gt off => match st with
    | .int x :: r => bif ztgok pc off then some (if 0 < x then ztg pc off else pc + 3, lv, r) else none
    | _ => none
  | .ifCond .le off => match st with
    | .int x :: r => bif ztgok pc off then some (if x ≤ 0 then ztg pc off else pc + 3, lv, r) else none
    | _ => none
  | .if_icmp .eq off => match st with
    | .int y :: .int x :: r => bif ztgok pc off then some (if x = y then ztg pc off else pc + 3, lv, r) else none
    | _ => none
  | .if_icmp .ne off => match st with
    | .int y :: .int x :: r => bif ztgok pc off then some (if ¬ x = y then ztg pc off else pc + 3, lv, r) else none
    | _ => none
  | .if_icmp .lt off => match st with
    | .int y :: .int x :: r => bif ztgok pc off then some (if x < y then ztg pc off else pc + 3, lv, r) else none
    | _ => none
  | .if_icmp .ge off => match st with
    | .int y :: .int x :: r => bif ztgok pc off then some (if y ≤ x then ztg pc off else pc + 3, lv, r) else none
    | _ => none
  | .if_icmp .gt off => match st with
    | .int y :: .int x :: r => bif ztgok pc off then some (if y < x then ztg pc off else pc + 3, lv, r) else none
    | _ => none
  | .if_icmp .le off => match st with
    | .int y :: .int x :: r => bif ztgok pc off then some (if x ≤ y then ztg pc off else pc + 3, lv, r) else none
    | _ => none
  | .goto off => bif ztgok pc off then some (ztg pc off, lv, st) else none
  | .ifnull off => match st with
    | .ref x :: r => some (pc + 3, lv, r)
    | .null :: r => bif ztgok pc off then some (ztg pc off, lv, r) else none
    | _ => none
  | .ifnonnull off => match st with
    | .ref x :: r => bif ztgok pc off then some (ztg pc off, lv, r) else none
    | .null :: r => some (pc + 3, lv, r)
    | _ => none
  | _ => none
section ZPURE
variable {p : Program} {l : Launch} {e : Env} {R : Room} {s : State} {m : MethodId} {args : Array Value} {below : List Frame} {meth : Method} {c : Code} {H : Heap} {locs : List Loc} {cells slots : Nat} {Q : State → Prop}
variable {cc : ByteArray} {pc nL : Nat} {ls : Array Slot} {lv lv' : zL} {st st' : List Value} {pc' : Nat} {i : Instr}
set_option maxHeartbeats 40000000 in
theorem zpure_ok (hx : p.tables.exec = Jvm.exec) (hb : c.code = cc) (hl : lv_has ls nL lv) (hdg : decode cc pc = .ok (i, zlen i)) (hp : zpure i pc nL lv st = some (pc', lv', st'))
    (kk : ∀ ls' : Array Slot, lv_has ls' nL lv' → W p l e R s m args below meth c H locs cells slots Q (F0 m pc' ls' st')) : W p l e R s m args below meth c H locs cells slots Q (F0 m pc ls st) := by
  cases i with
  | iconst n =>
    cases hp
    exact lv_iconst hx hb hdg rfl (kk _ hl)
  | bipush n =>
    cases hp
    exact lv_bipush hx hb hdg rfl (kk _ hl)
  | sipush n =>
    cases hp
    exact lv_sipush hx hb hdg rfl (kk _ hl)
  | lconst n =>
    cases hp
    exact lv_lconst hx hb hdg rfl (kk _ hl)
  | aconst_null =>
    cases hp
    exact lv_null hx hb hdg (kk _ hl)
  | iload_n k =>
    simp only [zpure] at hp
    split at hp
    · next he =>
      cases hp
      exact lv_iload_n hx hb hdg rfl (hl.2.2 _ (zlk_mem he)) (kk _ hl)
    · cases hp
  | iload k =>
    simp only [zpure] at hp
    split at hp
    · next he =>
      cases hp
      exact lv_iload hx hb hdg (hl.2.2 _ (zlk_mem he)) (kk _ hl)
    · cases hp
  | lload_n k =>
    simp only [zpure] at hp
    split at hp
    · next he =>
      cases hp
      exact lv_lload_n hx hb hdg rfl (hl.2.2 _ (zlk_mem he)) (kk _ hl)
    · cases hp
  | lload k =>
    simp only [zpure] at hp
    split at hp
    · next he =>
      cases hp
      exact lv_lload hx hb hdg (hl.2.2 _ (zlk_mem he)) (kk _ hl)
    · cases hp
  | aload_n k =>
    simp only [zpure] at hp
    split at hp
    · next he =>
      cases hp
      exact lv_aload_n hx hb hdg rfl (hl.2.2 _ (zlk_mem he)) (kk _ hl)
    · next he =>
      cases hp
      exact lv_aload_nN hx hb hdg rfl (hl.2.2 _ (zlk_mem he)) (kk _ hl)
    · cases hp
  | aload k =>
    simp only [zpure] at hp
    split at hp
    · next he =>
      cases hp
      exact lv_aload hx hb hdg (hl.2.2 _ (zlk_mem he)) (kk _ hl)
    · next he =>
      cases hp
      exact lv_aloadN hx hb hdg (hl.2.2 _ (zlk_mem he)) (kk _ hl)
    · cases hp
  | istore_n k =>
    simp only [zpure] at hp
    split at hp
    ·
      split at hp
      · next hg =>
        cases hp
        exact lv_istore_n hx hb hdg rfl hl hg rfl kk
      · cases hp
    · cases hp
  | istore k =>
    simp only [zpure] at hp
    split at hp
    ·
      split at hp
      · next hg =>
        cases hp
        exact lv_istore hx hb hdg hl hg rfl kk
      · cases hp
    · cases hp
  | lstore_n k =>
    simp only [zpure] at hp
    split at hp
    ·
      split at hp
      · next hg =>
        cases hp
        exact lv_lstore_n hx hb hdg rfl hl hg rfl kk
      · cases hp
    · cases hp
  | lstore k =>
    simp only [zpure] at hp
    split at hp
    ·
      split at hp
      · next hg =>
        cases hp
        exact lv_lstore hx hb hdg hl hg rfl kk
      · cases hp
    · cases hp
  | astore_n k =>
    simp only [zpure] at hp
    split at hp
    ·
      split at hp
      · next hg =>
        cases hp
        exact lv_astore_n hx hb hdg rfl hl hg rfl kk
      · cases hp
    ·
      split at hp
      · next hg =>
        cases hp
        exact lv_astore_nN hx hb hdg rfl hl hg rfl kk
      · cases hp
    · cases hp
  | astore k =>
    simp only [zpure] at hp
    split at hp
    ·
      split at hp
      · next hg =>
        cases hp
        exact lv_astore hx hb hdg hl hg rfl kk
      · cases hp
    ·
      split at hp
      · next hg =>
        cases hp
        exact lv_astoreN hx hb hdg hl hg rfl kk
      · cases hp
    · cases hp
  | iinc i n =>
    simp only [zpure] at hp
    split at hp
    · next he =>
      split at hp
      · next hg =>
        cases hp
        obtain ⟨k, hk⟩ := List.getElem?_of_mem (zlk_mem he)
        exact lv_iinc hx hb hdg hl hk rfl hg rfl kk
      · cases hp
    · cases hp
  | iadd =>
    simp only [zpure] at hp
    split at hp
    ·
      cases hp
      exact lv_iadd hx hb hdg (kk _ hl)
    · cases hp
  | isub =>
    simp only [zpure] at hp
    split at hp
    ·
      cases hp
      exact lv_isub hx hb hdg (kk _ hl)
    · cases hp
  | imul =>
    simp only [zpure] at hp
    split at hp
    ·
      cases hp
      exact lv_imul hx hb hdg (kk _ hl)
    · cases hp
  | iand =>
    simp only [zpure] at hp
    split at hp
    ·
      cases hp
      exact lv_iand hx hb hdg (kk _ hl)
    · cases hp
  | ior =>
    simp only [zpure] at hp
    split at hp
    ·
      cases hp
      exact lv_ior hx hb hdg (kk _ hl)
    · cases hp
  | ishl =>
    simp only [zpure] at hp
    split at hp
    ·
      cases hp
      exact lv_ishl hx hb hdg (kk _ hl)
    · cases hp
  | ishr =>
    simp only [zpure] at hp
    split at hp
    ·
      cases hp
      exact lv_ishr hx hb hdg (kk _ hl)
    · cases hp
  | ladd =>
    simp only [zpure] at hp
    split at hp
    ·
      cases hp
      exact lv_ladd hx hb hdg (kk _ hl)
    · cases hp
  | lsub =>
    simp only [zpure] at hp
    split at hp
    ·
      cases hp
      exact lv_lsub hx hb hdg (kk _ hl)
    · cases hp
  | lmul =>
    simp only [zpure] at hp
    split at hp
    ·
      cases hp
      exact lv_lmul hx hb hdg (kk _ hl)
    · cases hp
  | land =>
    simp only [zpure] at hp
    split at hp
    ·
      cases hp
      exact lv_land hx hb hdg (kk _ hl)
    · cases hp
  | lor =>
    simp only [zpure] at hp
    split at hp
    ·
      cases hp
      exact lv_lor hx hb hdg (kk _ hl)
    · cases hp
  | idiv =>
    simp only [zpure] at hp
    split at hp
    ·
      split at hp
      · next hg =>
        cases hp
        exact lv_idiv hx hb hdg hg (kk _ hl)
      · cases hp
    · cases hp
  | irem =>
    simp only [zpure] at hp
    split at hp
    ·
      split at hp
      · next hg =>
        cases hp
        exact lv_irem hx hb hdg hg (kk _ hl)
      · cases hp
    · cases hp
  | ldiv =>
    simp only [zpure] at hp
    split at hp
    ·
      split at hp
      · next hg =>
        cases hp
        exact lv_ldiv hx hb hdg hg (kk _ hl)
      · cases hp
    · cases hp
  | lrem =>
    simp only [zpure] at hp
    split at hp
    ·
      split at hp
      · next hg =>
        cases hp
        exact lv_lrem hx hb hdg hg (kk _ hl)
      · cases hp
    · cases hp
  | ineg =>
    simp only [zpure] at hp
    split at hp
    ·
      cases hp
      exact lv_ineg hx hb hdg (kk _ hl)
    · cases hp
  | lneg =>
    simp only [zpure] at hp
    split at hp
    ·
      cases hp
      exact lv_lneg hx hb hdg (kk _ hl)
    · cases hp
  | lshl =>
    simp only [zpure] at hp
    split at hp
    ·
      cases hp
      exact lv_lshl hx hb hdg rfl (kk _ hl)
    · cases hp
  | lshr =>
    simp only [zpure] at hp
    split at hp
    ·
      cases hp
      exact lv_lshr hx hb hdg rfl (kk _ hl)
    · cases hp
  | i2l =>
    simp only [zpure] at hp
    split at hp
    ·
      cases hp
      exact lv_i2l hx hb hdg rfl (kk _ hl)
    · cases hp
  | l2i =>
    simp only [zpure] at hp
    split at hp
    ·
      cases hp
      exact lv_l2i hx hb hdg rfl (kk _ hl)
    · cases hp
  | i2b =>
    simp only [zpure] at hp
    split at hp
    ·
      cases hp
      exact lv_i2b hx hb hdg rfl (kk _ hl)
    · cases hp
  | lcmp =>
    simp only [zpure] at hp
    split at hp
    ·
      cases hp
      exact W.lcmp hx hb hdg (kk _ hl)
    · cases hp
  | dup =>
    simp only [zpure] at hp
    split at hp
    ·
      split at hp
      · next hg =>
        cases hp
        exact lv_dup hx hb hdg hg (kk _ hl)
      · cases hp
    · cases hp
  | pop =>
    simp only [zpure] at hp
    split at hp
    ·
      split at hp
      · next hg =>
        cases hp
        exact lv_pop hx hb hdg hg (kk _ hl)
      · cases hp
    · cases hp
  | dup_x1 =>
    simp only [zpure] at hp
    split at hp
    ·
      split at hp
      · next hg =>
        cases hp
        exact lv_dup_x1 hx hb hdg hg.1 hg.2 (kk _ hl)
      · cases hp
    · cases hp
  | dup2 =>
    simp only [zpure] at hp
    split at hp
    ·
      split at hp
      · next hg =>
        cases hp
        exact lv_dup2_11 hx hb hdg hg.1 hg.2 (kk _ hl)
      · cases hp
    · cases hp
  | ifCond cnd off =>
    cases cnd with
    | eq =>
      simp only [zpure] at hp
      split at hp
      ·
        cases hg : ztgok pc off with
        | false => rw [hg] at hp; cases hp
        | true =>
          rw [hg] at hp
          simp only [cond_true, Option.some.injEq, Prod.mk.injEq] at hp
          obtain ⟨h1, h2, h3⟩ := hp
          subst h2; subst h3
          exact lv_if_eq hx hb hdg (ztg_eq hg) (fun q => by rw [if_pos q] at h1; subst h1; exact kk _ hl) (fun q => by rw [if_neg q] at h1; subst h1; exact kk _ hl)
      · cases hp
    | ne =>
      simp only [zpure] at hp
      split at hp
      ·
        cases hg : ztgok pc off with
        | false => rw [hg] at hp; cases hp
        | true =>
          rw [hg] at hp
          simp only [cond_true, Option.some.injEq, Prod.mk.injEq] at hp
          obtain ⟨h1, h2, h3⟩ := hp
          subst h2; subst h3
          exact lv_if_ne hx hb hdg (ztg_eq hg) (fun q => by rw [if_pos q] at h1; subst h1; exact kk _ hl) (fun q => by rw [if_neg (fun z => z q)] at h1; subst h1; exact kk _ hl)
      · cases hp
    | lt =>
      simp only [zpure] at hp
      split at hp
      ·
        cases hg : ztgok pc off with
        | false => rw [hg] at hp; cases hp
        | true =>
          rw [hg] at hp
          simp only [cond_true, Option.some.injEq, Prod.mk.injEq] at hp
          obtain ⟨h1, h2, h3⟩ := hp
          subst h2; subst h3
          exact lv_if_lt hx hb hdg (ztg_eq hg) (fun q => by rw [if_pos q] at h1; subst h1; exact kk _ hl) (fun q => by rw [if_neg q] at h1; subst h1; exact kk _ hl)
      · cases hp
    | ge =>
      simp only [zpure] at hp
      split at hp
      ·
        cases hg : ztgok pc off with
        | false => rw [hg] at hp; cases hp
        | true =>
          rw [hg] at hp
          simp only [cond_true, Option.some.injEq, Prod.mk.injEq] at hp
          obtain ⟨h1, h2, h3⟩ := hp
          subst h2; subst h3
          exact lv_if_ge hx hb hdg (ztg_eq hg) (fun q => by rw [if_pos q] at h1; subst h1; exact kk _ hl) (fun q => by rw [if_neg q] at h1; subst h1; exact kk _ hl)
      · cases hp
    | gt =>
      simp only [zpure] at hp
      split at hp
      ·
        cases hg : ztgok pc off with
        | false => rw [hg] at hp; cases hp
        | true =>
          rw [hg] at hp
          simp only [cond_true, Option.some.injEq, Prod.mk.injEq] at hp
          obtain ⟨h1, h2, h3⟩ := hp
          subst h2; subst h3
          exact lv_if_gt hx hb hdg (ztg_eq hg) (fun q => by rw [if_pos q] at h1; subst h1; exact kk _ hl) (fun q => by rw [if_neg q] at h1; subst h1; exact kk _ hl)
      · cases hp
    | le =>
      simp only [zpure] at hp
      split at hp
      ·
        cases hg : ztgok pc off with
        | false => rw [hg] at hp; cases hp
        | true =>
          rw [hg] at hp
          simp only [cond_true, Option.some.injEq, Prod.mk.injEq] at hp
          obtain ⟨h1, h2, h3⟩ := hp
          subst h2; subst h3
          exact lv_if_le hx hb hdg (ztg_eq hg) (fun q => by rw [if_pos q] at h1; subst h1; exact kk _ hl) (fun q => by rw [if_neg q] at h1; subst h1; exact kk _ hl)
      · cases hp
  | if_icmp cnd off =>
    cases cnd with
    | eq =>
      simp only [zpure] at hp
      split at hp
      ·
        cases hg : ztgok pc off with
        | false => rw [hg] at hp; cases hp
        | true =>
          rw [hg] at hp
          simp only [cond_true, Option.some.injEq, Prod.mk.injEq] at hp
          obtain ⟨h1, h2, h3⟩ := hp
          subst h2; subst h3
          exact lv_icmp_eq hx hb hdg (ztg_eq hg) (fun q => by rw [if_pos q] at h1; subst h1; exact kk _ hl) (fun q => by rw [if_neg q] at h1; subst h1; exact kk _ hl)
      · cases hp
    | ne =>
      simp only [zpure] at hp
      split at hp
      ·
        cases hg : ztgok pc off with
        | false => rw [hg] at hp; cases hp
        | true =>
          rw [hg] at hp
          simp only [cond_true, Option.some.injEq, Prod.mk.injEq] at hp
          obtain ⟨h1, h2, h3⟩ := hp
          subst h2; subst h3
          exact lv_icmp_ne hx hb hdg (ztg_eq hg) (fun q => by rw [if_pos q] at h1; subst h1; exact kk _ hl) (fun q => by rw [if_neg (fun z => z q)] at h1; subst h1; exact kk _ hl)
      · cases hp
    | lt =>
      simp only [zpure] at hp
      split at hp
      ·
        cases hg : ztgok pc off with
        | false => rw [hg] at hp; cases hp
        | true =>
          rw [hg] at hp
          simp only [cond_true, Option.some.injEq, Prod.mk.injEq] at hp
          obtain ⟨h1, h2, h3⟩ := hp
          subst h2; subst h3
          exact lv_icmp_lt hx hb hdg (ztg_eq hg) (fun q => by rw [if_pos q] at h1; subst h1; exact kk _ hl) (fun q => by rw [if_neg q] at h1; subst h1; exact kk _ hl)
      · cases hp
    | ge =>
      simp only [zpure] at hp
      split at hp
      ·
        cases hg : ztgok pc off with
        | false => rw [hg] at hp; cases hp
        | true =>
          rw [hg] at hp
          simp only [cond_true, Option.some.injEq, Prod.mk.injEq] at hp
          obtain ⟨h1, h2, h3⟩ := hp
          subst h2; subst h3
          exact lv_icmp_ge hx hb hdg (ztg_eq hg) (fun q => by rw [if_pos q] at h1; subst h1; exact kk _ hl) (fun q => by rw [if_neg q] at h1; subst h1; exact kk _ hl)
      · cases hp
    | gt =>
      simp only [zpure] at hp
      split at hp
      ·
        cases hg : ztgok pc off with
        | false => rw [hg] at hp; cases hp
        | true =>
          rw [hg] at hp
          simp only [cond_true, Option.some.injEq, Prod.mk.injEq] at hp
          obtain ⟨h1, h2, h3⟩ := hp
          subst h2; subst h3
          exact lv_icmp_gt hx hb hdg (ztg_eq hg) (fun q => by rw [if_pos q] at h1; subst h1; exact kk _ hl) (fun q => by rw [if_neg q] at h1; subst h1; exact kk _ hl)
      · cases hp
    | le =>
      simp only [zpure] at hp
      split at hp
      ·
        cases hg : ztgok pc off with
        | false => rw [hg] at hp; cases hp
        | true =>
          rw [hg] at hp
          simp only [cond_true, Option.some.injEq, Prod.mk.injEq] at hp
          obtain ⟨h1, h2, h3⟩ := hp
          subst h2; subst h3
          exact lv_icmp_le hx hb hdg (ztg_eq hg) (fun q => by rw [if_pos q] at h1; subst h1; exact kk _ hl) (fun q => by rw [if_neg q] at h1; subst h1; exact kk _ hl)
      · cases hp
  | goto off =>
    simp only [zpure] at hp
    cases hg : ztgok pc off with
    | false => rw [hg] at hp; cases hp
    | true => rw [hg] at hp; cases hp; exact lv_goto hx hb hdg (ztg_eq hg) (kk _ hl)
  | ifnull off =>
    simp only [zpure] at hp
    split at hp
    ·
      cases hp
      exact lv_ifnull hx hb hdg (kk _ hl)
    ·
      cases hg : ztgok pc off with
      | false => rw [hg] at hp; cases hp
      | true => rw [hg] at hp; cases hp; exact lv_ifnullN hx hb hdg (ztg_eq hg) (kk _ hl)
    · cases hp
  | ifnonnull off =>
    simp only [zpure] at hp
    split at hp
    ·
      cases hg : ztgok pc off with
      | false => rw [hg] at hp; cases hp
      | true => rw [hg] at hp; cases hp; exact lv_ifnonnull hx hb hdg (ztg_eq hg) (kk _ hl)
    ·
      cases hp
      exact lv_ifnonnullN hx hb hdg (kk _ hl)
    · cases hp
  | _ => exact absurd hp (by intro q; cases q)
end ZPURE
