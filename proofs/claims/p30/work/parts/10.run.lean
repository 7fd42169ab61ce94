/-! the small machine's runs: whole methods, calls within -/
/-- a method: name, code, locals, what it answers, its class's place, how many arguments (the receiver apart), static, cells and slots that it may make, pool, calls, instructions -/
abbrev zQ : Type := MethodName × ByteArray × Nat × Option FieldType × Nat × Nat × Bool × (Nat × Nat) × zPool × List (Nat × Nat) × List (Nat × Instr)
abbrev zqY (q : zQ) : MethodName := q.1
abbrev zqB (q : zQ) : ByteArray := q.2.1
abbrev zqL (q : zQ) : Nat := q.2.2.1
abbrev zqR (q : zQ) : Option FieldType := q.2.2.2.1
abbrev zqC (q : zQ) : Nat := q.2.2.2.2.1
abbrev zqN (q : zQ) : Nat := q.2.2.2.2.2.1
abbrev zqS (q : zQ) : Bool := q.2.2.2.2.2.2.1
abbrev zqM (q : zQ) : Nat × Nat := q.2.2.2.2.2.2.2.1
abbrev zqP (q : zQ) : zPool := q.2.2.2.2.2.2.2.2.1
abbrev zqK (q : zQ) : List (Nat × Nat) := q.2.2.2.2.2.2.2.2.2.1
abbrev zqI (q : zQ) : List (Nat × Instr) := q.2.2.2.2.2.2.2.2.2.2
def zsum (r : List Value) : Nat := (r.map fun v => v.category).sum
/-- what a method answers at its end -/
def zret (ret : Option FieldType) (i : Instr) (st : List Value) : Option (Option Value) :=
  match i with
  | .ireturn => match st with
    | [.int v] => match ret with
      | some .int => some (some (.int v))
      | some .boolean => if v = 0 ∨ v = 1 then some (some (.int v)) else none
      | _ => none
    | _ => none
  | .areturn => match st with
    | [.ref a] => match ret with
      | some (.object _) => some (some (.ref a))
      | some (.array _) => some (some (.ref a))
      | _ => none
    | [.null] => match ret with
      | some (.object _) => some (some .null)
      | some (.array _) => some (some .null)
      | _ => none
    | _ => none
  | .return_ => match st with
    | [] => match ret with
      | none => some none
      | _ => none
    | _ => none
  | _ => none
/-- the one thing that is thrown: an object of the class at place 12 -/
def zthr (i : Instr) (st : List Value) (w : zM) : Bool := match i with
  | .athrow => match st with
    | .ref a :: _ => match w a with
      | some (.inl (ci, _)) => decide (ci = 12)
      | _ => false
    | _ => false
  | _ => false
noncomputable def zspec (q : zQ) (d : Nat) (i : Instr) (pc : Nat) (st : List Value) (w : zM) (sz mc ms : Nat) : Option (Nat × List Value × zM × Nat × Nat × Nat) :=
  match i with
  | .invokestatic idx => match zlk (zqK q) idx with
    | some 1000 => match st with
      | .int y :: .int x :: r => if 1 ≤ d ∧ zsum r ≤ 8 then some (pc + 3, .int (if x < y then y else x) :: r, w, sz, mc, ms) else none
      | _ => none
    | some 1001 => match st with
      | .int y :: .int x :: r => if 1 ≤ d ∧ zsum r ≤ 8 then some (pc + 3, .int (if y < x then y else x) :: r, w, sz, mc, ms) else none
      | _ => none
    | some 1002 => match st with
      | .int x :: r => if 1 ≤ d ∧ zsum r ≤ 8 then some (pc + 3, .int (if 0 ≤ x then x else 0 - x) :: r, w, sz, mc, ms) else none
      | _ => none
    | some 1003 => match st with
      | .int n :: .int dp :: .ref b :: .int sp :: .ref a :: r => match w a, w b with
        | some (.inr (t, n0, .inl f)), some (.inr (u, n1, .inl g)) => if 1 ≤ d ∧ zsum r ≤ 8 ∧ t = u ∧ ¬ sp < 0 ∧ ¬ dp < 0 ∧ ¬ n < 0 ∧ sp.toNatClampNeg + n.toNatClampNeg ≤ n0 ∧ dp.toNatClampNeg + n.toNatClampNeg ≤ n1 then
            match t with
            | 0 => some (pc + 3, r, zup w b (.inr (0, n1, .inl (va_cpy f g sp.toNatClampNeg dp.toNatClampNeg n.toNatClampNeg))), sz, mc, ms)
            | 1 => @ite _ (∀ i : Nat, i < n.toNatClampNeg → fits .byte (.int (f (sp.toNatClampNeg + i))) = true) (Classical.propDecidable _) (some (pc + 3, r, zup w b (.inr (1, n1, .inl (va_cpy f g sp.toNatClampNeg dp.toNatClampNeg n.toNatClampNeg))), sz, mc, ms)) none
            | _ => none
          else none
        | _, _ => none
      | _ => none
    | _ => none
  | .anewarray idx => match zlk (zqK q) idx with
    | some 1004 => match st with
      | .int n :: r => if ¬ n < 0 ∧ n.toNatClampNeg * 4 ≤ 536870912 ∧ 1 ≤ mc ∧ n.toNatClampNeg ≤ ms then some (pc + 3, .ref sz :: r, zup w sz (.inr (4, n.toNatClampNeg, .inr (fun _ => none))), sz + 1, mc - 1, ms - n.toNatClampNeg) else none
      | _ => none
    | _ => none
  | .tableswitch dflt lo hi offs => match st with
    | .int x :: r => if x.toInt < lo ∨ hi < x.toInt then (bif ztgok pc dflt then some (ztg pc dflt, r, w, sz, mc, ms) else none)
      else match offs[(x.toInt - lo).toNat]? with
        | some off => bif ztgok pc off then some (ztg pc off, r, w, sz, mc, ms) else none
        | none => none
    | _ => none
  | _ => none
/-- a call: the callee, its arguments, what stays on the stack -/
def zinv (M : Nat → Option zQ) (q : zQ) (i : Instr) (st : List Value) (w : zM) : Option (zQ × List Value × List Value) :=
  match i with
  | .invokevirtual idx => match zlk (zqK q) idx with
    | some j => match M j with
      | some q2 => if zqS q2 = false ∧ zqN q2 ≤ st.length then match st.drop (zqN q2) with
          | .ref b :: rest => match w b with
            | some (.inl (ci, _)) => if ci = zqC q2 then some (q2, .ref b :: (st.take (zqN q2)).reverse, rest) else none
            | _ => none
          | _ => none
        else none
      | none => none
    | none => none
  | .invokestatic idx => match zlk (zqK q) idx with
    | some j => match M j with
      | some q2 => if zqS q2 = true ∧ zqN q2 ≤ st.length then some (q2, (st.take (zqN q2)).reverse, st.drop (zqN q2)) else none
      | none => none
    | none => none
  | _ => none
noncomputable def zrun (M : Nat → Option zQ) : Nat → Nat → zQ → Nat → zL → List Value → zM → Nat → Nat → Nat → Option (Option (Option Value) × zM × Nat)
  | 0, _, _, _, _, _, _, _, _, _ => none
  | f + 1, d, q, pc, lv, st, w, sz, mc, ms =>
    match zlk (zqI q) pc with
    | none => none
    | some i =>
    match zpure i pc (zqL q) lv st with
    | some x => zrun M f d q x.1 x.2.1 x.2.2 w sz mc ms
    | none =>
    match zheap (zqP q) i pc lv st w with
    | some x => zrun M f d q x.1 x.2.1 x.2.2.1 x.2.2.2 sz mc ms
    | none =>
    match zret (zqR q) i st with
    | some r => some (some r, w, sz)
    | none =>
    match zthr i st w with
    | true => some (none, w, sz)
    | false =>
    match zspec q d i pc st w sz mc ms with
    | some x => zrun M f d q x.1 lv x.2.1 x.2.2.1 x.2.2.2.1 x.2.2.2.2.1 x.2.2.2.2.2
    | none =>
    match zinv M q i st w with
    | some x => match d with
      | 0 => none
      | d' + 1 => if (zqM x.1).1 ≤ mc ∧ (zqM x.1).2 ≤ ms ∧ zsum x.2.2 ≤ 8 ∧ (lg_sl x.2.1).length ≤ zqL x.1 then
          match zrun M f d' x.1 0 (lv_args 0 x.2.1) [] w sz (zqM x.1).1 (zqM x.1).2 with
          | some (some r, w2, sz2) => zrun M f (d' + 1) q (pc + 3) lv (r.toList ++ x.2.2) w2 sz2 (mc - (zqM x.1).1) (ms - (zqM x.1).2)
          | some (none, w2, sz2) => some (none, w2, sz2)
          | none => none
        else none
    | none => none
/-- what is known of a method's tables -/
def zOk (M : Nat → Option zQ) (q : zQ) : Prop :=
  plainName (zqY q).cls = true ∧ Cond.code (zqY q) (zqB q) (zqL q) (zqR q) ∈ zAll ∧
  (∀ x ∈ zqI q, decode (zqB q) x.1 = .ok (x.2, zlen x.2) ∨ ∃ (d lo hi : Int) (o : Array Int) (n : Nat), x.2 = .tableswitch d lo hi o ∧ decode (zqB q) x.1 = .ok (x.2, n)) ∧
  zPoolOk (zqY q).cls (zqP q) ∧ zqL q ≤ 22 ∧ ((zqY q).cls ≠ "java/lang/invoke/MethodHandle" ∧ (zqY q).cls ≠ "java/lang/invoke/VarHandle") ∧ Cond.initialized (zqY q).cls ∈ zAll ∧
  (if zqS q = true then Cond.static (zqY q) ∈ zAll else Cond.instanceMethod (zqY q) ∈ zAll ∧ Cond.selects (zqY q).cls (zqY q) (zqY q) ∈ zAll ∧ ∃ (T : u_T) (N : Nat), vwCl[zqC q]? = some ((zqY q).cls, T, N)) ∧
  (parseMethodDescriptor (zqY q).desc).map (fun d => d.parameters.length) = some (zqN q) ∧
  ∀ x ∈ zqK q, match x.2 with
    | 1000 => Cond.methodLink (zqY q).cls x.1 Lib.Math.max.name ∈ zAll
    | 1001 => Cond.methodLink (zqY q).cls x.1 Lib.Math.min.name ∈ zAll
    | 1002 => Cond.methodLink (zqY q).cls x.1 Lib.Math.abs.name ∈ zAll
    | 1003 => Cond.methodLink (zqY q).cls x.1 arraycopyName ∈ zAll
    | 1004 => Cond.classLink (zqY q).cls x.1 RX15 ∈ zAll
    | j => ∃ q2, M j = some q2 ∧ Cond.methodLink (zqY q).cls x.1 (zqY q2) ∈ zAll
/-- the words of the JDK's methods that are called -/
def zJdk : Prop := Cond.static Lib.Math.max.name ∈ zAll ∧ Cond.static Lib.Math.min.name ∈ zAll ∧ Cond.static Lib.Math.abs.name ∈ zAll ∧ Cond.initialized "java/lang/Math" ∈ zAll ∧
  Cond.code Lib.Math.max.name Lib.Math.max.code 2 (some .int) ∈ zAll ∧ Cond.code Lib.Math.min.name Lib.Math.min.code 2 (some .int) ∈ zAll ∧ Cond.code Lib.Math.abs.name Lib.Math.abs.code 1 (some .int) ∈ zAll ∧
  Cond.native arraycopyName ∈ zAll ∧ Cond.static arraycopyName ∈ zAll ∧ Cond.initialized "java/lang/System" ∈ zAll
abbrev zws (q : zQ) : List Cond := Cond.code (zqY q) (zqB q) (zqL q) (zqR q) :: zAll
def zPc (D : va_G) (aC : Nat → ClassId) (base : Nat) (w : zM) (sz : Nat) (av : List Value) : Array Value → State → Prop := va_Pc av (fun U => U.heap.size = sz ∧ zFW D aC base w U.heap ∧ zK D aC U ∧ base ≤ sz)
theorem zPc_blind {D : va_G} {aC : Nat → ClassId} {base : Nat} {w : zM} {sz : Nat} {av : List Value} : FrameBlind (zPc D aC base w sz av) := fun a U g mk q => by
  obtain ⟨q0, q1, q2, q3, q4⟩ := q
  exact ⟨q0, q1, q2, q3.calling, q4⟩
def zEnd (D : va_G) (aC : Nat → ClassId) (base : Nat) (w : zM) (sz : Nat) (st t : State) : Prop := t.heap.size = sz ∧ zFW D aC base w t.heap ∧ va_F (zN base) st t
def zQc (D : va_G) (aC : Nat → ClassId) (base : Nat) (res : Option (Option Value)) (w : zM) (sz : Nat) : Array Value → State → Outcome → State → Prop := fun _ st o t => ∃ r, res = some r ∧ o = .returned r ∧ zEnd D aC base w sz st t
def zXc (D : va_G) (aC : Nat → ClassId) (base : Nat) (res : Option (Option Value)) (w : zM) (sz : Nat) : String → State → State → Prop := fun E st t => res = none ∧ E = RX13 ∧ zEnd D aC base w sz st t
def zCx (p : Program) (s : State) (m : MethodId) (args : Array Value) (meth : Method) (c : Code) (q : zQ) (D : va_G) (aC : Nat → ClassId) (base : Nat) : Prop :=
  p.tables.exec = Jvm.exec ∧ c.code = zqB q ∧ c.maxLocals = zqL q ∧ s.vm.findClass (zqY q).cls = some m.cls ∧ (∀ w ∈ zAll, w.before args s = true) ∧ zK D aC s ∧ meth.locks = false ∧ meth.sig.returnType = zqR q ∧ (∀ x ∈ c.exceptionTable.toList, False) ∧ base ≤ s.heap.size
def zS (M : Nat → Option zQ) (l : Launch) (D : va_G) (aC : Nat → ClassId) (base f : Nat) : Prop :=
  ∀ (d : Nat) (q : zQ) (pc : Nat) (lv : zL) (st : List Value) (w : zM) (sz mc ms : Nat) (res : Option (Option Value)) (w' : zM) (sz' : Nat), zOk M q → zrun M f d q pc lv st w sz mc ms = some (res, w', sz') →
    ∀ (p : Program) (e : Env) (R : Room) (s : State) (m : MethodId) (args : Array Value) (below : List Frame) (meth : Method) (c : Code), zCx p s m args meth c q D aC base → R.frames = d → R.locals = 42 * d →
      ∀ (H : Heap) (locs : List Loc) (cells slots : Nat) (ls : Array Slot), H.size = sz → zFW D aC base w H → va_S (zN base) s.heap H locs → lv_has ls (zqL q) lv → cells + mc ≤ R.cells → slots + ms ≤ R.slots →
        W p l e R s m args below meth c H locs cells slots (vx_MQ below (zQc D aC base res w' sz') (zXc D aC base res w' sz') args s R.cells R.slots (zN base)) (F0 m pc ls st)
theorem zmetOf {M : Nat → Option zQ} {l : Launch} {D : va_G} {aC : Nat → ClassId} {base f : Nat} (h : zS M l D aC base f) {d : Nat} {q : zQ} {As : List Value} {w : zM} {sz mc ms : Nat} {res : Option (Option Value)} {w' : zM} {sz' : Nat} (hq : zOk M q)
    (hr : zrun M f d q 0 (lv_args 0 As) [] w sz mc ms = some (res, w', sz')) (hlen : (lg_sl As).length ≤ zqL q) :
    vx_Met l (zqY q) (zws q) ({ frames := d, cells := mc, slots := ms, locals := 42 * d }) (zPc D aC base w sz As) (zQc D aC base res w' sz') (zXc D aC base res w' sz') mc ms (zN base) := by
  refine vx_ofW (cc := zqB q) (maxL := zqL q) (ret := zqR q) hq.1 rfl ?_
  intro p e s m args below meth c s₁ B hml hnt hv
  obtain ⟨rfl, hsz, hF, hK, hb⟩ := hv
  have hts := atoms_spec (ws := zws q) B.pre
  have hl := lv_entry As (n := zqL q) hlen
  rw [lg_entry_eq]
  exact h d q 0 _ [] w sz mc ms res w' sz' hq hr p e _ s m _ below meth c ⟨B.exec, B.bytes, hml, findClass_of_methodNamed B.named, fun w h => hts w (List.mem_cons_of_mem _ h), hK, B.notSynchronized, B.returns, hnt, by rw [hsz]; exact hb⟩ rfl rfl
    s.heap [] 0 0 _ hsz hF va_S.rf hl (by show 0 + mc ≤ mc; omega) (by show 0 + ms ≤ ms; omega)
