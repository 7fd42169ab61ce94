theorem dL_law_1449 : decode cL_law 1449 = .ok (.iconst 1, 1) := by decide +kernel
theorem dL_law_1450 : decode cL_law 1450 = .ok (.ireturn, 1) := by decide +kernel
theorem dL_law_1443 : decode cL_law 1443 = .ok (.iinc 3 6, 3) := by decide +kernel
theorem dL_law_1446 : decode cL_law 1446 = .ok (.goto (-1428), 3) := by decide +kernel
theorem dL_law_18 : decode cL_law 18 = .ok (.iload_n 3, 1) := by decide +kernel
theorem dL_law_19 : decode cL_law 19 = .ok (.aload_n 0, 1) := by decide +kernel
theorem dL_law_20 : decode cL_law 20 = .ok (.arraylength, 1) := by decide +kernel
theorem dL_law_21 : decode cL_law 21 = .ok (.bipush 6, 2) := by decide +kernel
theorem dL_law_23 : decode cL_law 23 = .ok (.isub, 1) := by decide +kernel
theorem dL_law_24 : decode cL_law 24 = .ok (.if_icmp .gt 1425, 3) := by decide +kernel
theorem zlJ_0 : Cond.methodLink RX13 1 yJ1_init ∈ lw_tbl := zt_8 (List.mem_of_getElem? (i := 114) (by decide +kernel))
theorem zlJ_1 : Cond.methodLink RJ1 16 yJ2_init ∈ lw_tbl := zt_8 (List.mem_of_getElem? (i := 117) (by decide +kernel))
theorem zlJ_2 : Cond.methodLink RJ2 16 yJ3_init ∈ lw_tbl := zt_8 (List.mem_of_getElem? (i := 120) (by decide +kernel))
theorem zlJ_3 : Cond.methodLink RJ3 1 objectInit ∈ lw_tbl := zt_8 (List.mem_of_getElem? (i := 97) (by decide +kernel))
theorem zlJ_4 : Cond.instanceMethod yJ1_init ∈ lw_tbl := zt_8 (List.mem_of_getElem? (i := 115) (by decide +kernel))
theorem zlJ_5 : Cond.code yJ1_init cJ1_init 5 none ∈ lw_tbl := zt_8 (List.mem_of_getElem? (i := 116) (by rfl))
theorem zlJ_6 : Cond.initialized RJ1 ∈ lw_tbl := zt_1 (List.mem_of_getElem? (i := 16) (by decide +kernel))
theorem zlJ_7 : Cond.instanceMethod yJ2_init ∈ lw_tbl := zt_8 (List.mem_of_getElem? (i := 118) (by decide +kernel))
theorem zlJ_8 : Cond.code yJ2_init cJ2_init 5 none ∈ lw_tbl := zt_8 (List.mem_of_getElem? (i := 119) (by rfl))
theorem zlJ_9 : Cond.initialized RJ2 ∈ lw_tbl := zt_1 (List.mem_of_getElem? (i := 15) (by decide +kernel))
theorem zlJ_10 : Cond.instanceMethod yJ3_init ∈ lw_tbl := zt_8 (List.mem_of_getElem? (i := 121) (by decide +kernel))
theorem zlJ_11 : Cond.code yJ3_init cJ3_init 5 none ∈ lw_tbl := zt_8 (List.mem_of_getElem? (i := 122) (by rfl))
theorem zlJ_12 : Cond.initialized RJ3 ∈ lw_tbl := zt_1 (List.mem_of_getElem? (i := 14) (by decide +kernel))
theorem zlJ_13 : Cond.fieldLink RJ3 7 "java/lang/Throwable" "cause" "Ljava/lang/Throwable;" ∈ lw_tbl := zt_8 (List.mem_of_getElem? (i := 125) (by decide +kernel))
theorem zlJ_14 : Cond.fieldLink RJ3 13 "java/lang/Throwable" "UNASSIGNED_STACK" "[Ljava/lang/StackTraceElement;" ∈ lw_tbl := zt_8 (List.mem_of_getElem? (i := 98) (by decide +kernel))
theorem zlJ_15 : Cond.fieldLink RJ3 17 "java/lang/Throwable" "stackTrace" "[Ljava/lang/StackTraceElement;" ∈ lw_tbl := zt_8 (List.mem_of_getElem? (i := 126) (by decide +kernel))
theorem zlJ_16 : Cond.fieldLink RJ3 20 "java/lang/Throwable" "SUPPRESSED_SENTINEL" "Ljava/util/List;" ∈ lw_tbl := zt_8 (List.mem_of_getElem? (i := 100) (by decide +kernel))
theorem zlJ_17 : Cond.fieldLink RJ3 24 "java/lang/Throwable" "suppressedExceptions" "Ljava/util/List;" ∈ lw_tbl := zt_8 (List.mem_of_getElem? (i := 127) (by decide +kernel))
theorem zlJ_18 : Cond.fieldLink RJ3 31 "java/lang/Throwable" "detailMessage" "Ljava/lang/String;" ∈ lw_tbl := zt_8 (List.mem_of_getElem? (i := 124) (by decide +kernel))
theorem zlJ_19 : Cond.classLink RX16 485 "[[LSumHouseModel$U;" ∈ lw_tbl := zt_8 (List.mem_of_getElem? (i := 138) (by decide +kernel))
theorem zJ_in : ∀ w ∈ zJ, w ∈ lw_tbl := List.forall_mem_cons.mpr ⟨zlJ_0, List.forall_mem_cons.mpr ⟨zlJ_1, List.forall_mem_cons.mpr ⟨zlJ_2, List.forall_mem_cons.mpr ⟨zlJ_3, List.forall_mem_cons.mpr ⟨zlJ_4, List.forall_mem_cons.mpr ⟨zlJ_5, List.forall_mem_cons.mpr ⟨zlJ_6, List.forall_mem_cons.mpr ⟨zlJ_7, List.forall_mem_cons.mpr ⟨zlJ_8, List.forall_mem_cons.mpr ⟨zlJ_9, List.forall_mem_cons.mpr ⟨zlJ_10, List.forall_mem_cons.mpr ⟨zlJ_11, List.forall_mem_cons.mpr ⟨zlJ_12, List.forall_mem_cons.mpr ⟨zlJ_13, List.forall_mem_cons.mpr ⟨zlJ_14, List.forall_mem_cons.mpr ⟨zlJ_15, List.forall_mem_cons.mpr ⟨zlJ_16, List.forall_mem_cons.mpr ⟨zlJ_17, List.forall_mem_cons.mpr ⟨zlJ_18, List.forall_mem_cons.mpr ⟨zlJ_19, fun _ h => absurd h List.not_mem_nil⟩⟩⟩⟩⟩⟩⟩⟩⟩⟩⟩⟩⟩⟩⟩⟩⟩⟩⟩⟩
theorem zBig_in : ∀ w ∈ zBig, w ∈ lw_tbl := fun w h => (List.mem_append.mp h).elim (zAll_in w) (zJ_in w)
theorem zlo_o6 : Cond.arrayOver (.object RX6) ∈ lw_tbl := zt_1 (List.mem_of_getElem? (i := 32) (by decide +kernel))
theorem zlo_o15 : Cond.arrayOver (.object RX15) ∈ lw_tbl := zt_8 (List.mem_of_getElem? (i := 7) (by decide +kernel))
theorem zlo_o12 : Cond.arrayOver (.object RX12) ∈ lw_tbl := zt_8 (List.mem_of_getElem? (i := 9) (by decide +kernel))
theorem zlo_o14 : Cond.arrayOver (.object RX14) ∈ lw_tbl := zt_8 (List.mem_of_getElem? (i := 137) (by decide +kernel))
theorem zlo_nest : Cond.methodLinkNest RX16 442 yX14_init RX16 ∈ lw_tbl := zt_8 (List.mem_of_getElem? (i := 14) (by decide +kernel))
theorem zlo_cast : Cond.castable RX13 RX13 ∈ lw_tbl := zt_8 (List.mem_of_getElem? (i := 74) (by decide +kernel))
theorem zlo_ai : Cond.arrayOver (.array .int) ∈ lw_tbl := zt_8 (List.mem_of_getElem? (i := 11) (by decide +kernel))
theorem zlo_au : Cond.arrayOver (.array (.object RX15)) ∈ lw_tbl := zt_8 (List.mem_of_getElem? (i := 139) (by decide +kernel))
theorem zlo_s1 : Cond.laysStatic RJ3 "UNASSIGNED_STACK" "[Ljava/lang/StackTraceElement;" ∈ lw_tbl := zt_8 (List.mem_of_getElem? (i := 99) (by decide +kernel))
theorem zlo_s2 : Cond.laysStatic RJ3 "SUPPRESSED_SENTINEL" "Ljava/util/List;" ∈ lw_tbl := zt_8 (List.mem_of_getElem? (i := 101) (by decide +kernel))
/-- what the tables say of an array class, in the words of a world -/
theorem zTi {s : State} {args : Array Value} {ty : FieldType} (h : (Cond.arrayClass ty).before args s = true) : ∃ cA : ClassId, ArrOfT s cA ty ∧ s.vm.findClass ("[" ++ ty.toString) = some cA := by
  obtain ⟨cA, k, comp, h1, h2, h3⟩ := Cond.arrayClass_spec h
  exact ⟨cA, fun n z => ⟨(fun k h => by cases h), k, h2, comp, h3⟩, h1⟩
theorem zTo {s : State} {args : Array Value} {C : String} (h : (Cond.arrayOver (.object C)).before args s = true) : ∃ cA : ClassId, ArrOfT s cA (.object C) ∧ va_RA s cA (.object C) := by
  obtain ⟨comp, cA, k, h1, -, h3, h4, h5⟩ := Cond.arrayOver_spec h
  exact ⟨cA, fun n z => ⟨(fun k h => by cases h), k, h3, comp, h4⟩, k, comp, h3, h4, h1, h5⟩
theorem zArr {s : State} {args : Array Value} {ty : FieldType} (h : (Cond.arrayOver (.array ty)).before args s = true) : (Cond.arrayOver (.array ty)).before #[] s = true := h
/-- addresses that rise -/
def zUp : Nat → va_W → Prop
  | _, [] => True
  | lo, x :: xs => lo ≤ x.1 ∧ zUp (x.1 + 1) xs
theorem zUp_n {lo : Nat} : zUp lo [] := trivial
theorem zUp_c {lo a : Nat} {e : va_E} {xs : va_W} (h : lo ≤ a) (t : zUp (a + 1) xs) : zUp lo ((a, e) :: xs) := ⟨h, t⟩
theorem zUp_lo : ∀ {ws : va_W} {lo : Nat}, zUp lo ws → ∀ (k : Nat) (q : Nat × va_E), ws[k]? = some q → lo ≤ q.1
  | [], _, _, k, q, hq => by simp at hq
  | x :: xs, lo, h, 0, q, hq => by cases hq; exact h.1
  | x :: xs, lo, h, k + 1, q, hq => Nat.le_trans h.1 (Nat.le_trans (Nat.le_succ _) (zUp_lo h.2 k q hq))
theorem zUp_ap : ∀ {ws : va_W} {lo : Nat}, zUp lo ws → ∀ (i j : Nat) (p q : Nat × va_E), ws[i]? = some p → ws[j]? = some q → p.1 = q.1 → i = j
  | [], _, _, i, j, p, q, hp, _, _ => by simp at hp
  | x :: xs, lo, h, 0, 0, p, q, hp, hq, e => rfl
  | x :: xs, lo, h, 0, j + 1, p, q, hp, hq, e => by
    cases hp
    have := zUp_lo h.2 j q hq
    omega
  | x :: xs, lo, h, i + 1, 0, p, q, hp, hq, e => by
    cases hq
    have := zUp_lo h.2 i p hp
    omega
  | x :: xs, lo, h, i + 1, j + 1, p, q, hp, hq, e => congrArg (· + 1) (zUp_ap h.2 i j p q hp hq e)
theorem zUp_D {A : Nat → Prop} {lo : Nat} {ws : va_W} (hA : ∀ q, lo ≤ q → A q) (h : zUp lo ws) : va_D A ws := ⟨zUp_ap h, fun k q hq => hA _ (zUp_lo h k q hq)⟩
theorem zP_n {D : va_G} {cl : List vw_C} {H : Heap} : va_P D cl [] H := fun k q h => by simp at h
theorem zP_c {D : va_G} {cl : List vw_C} {H : Heap} {a : Nat} {e : va_E} {ws : va_W} (h : va_at D cl (a, e) H) (t : va_P D cl ws H) : va_P D cl ((a, e) :: ws) H := fun k q hq => by
  rcases k with _ | k
  · cases hq; exact h
  · exact t k q hq
theorem zslot_1 {b : Nat} {x : Int32} (h : zok x = true) : zslot b x = some (b + (1 + 6 * x.toNatClampNeg)) := by
  have ⟨h1, h2⟩ := of_decide_eq_true h
  rw [zslot, if_neg h1, if_neg h2]
theorem zslot_0 {b : Nat} {x : Int32} (h : ¬ zok x = true) : zslot b x = none := by
  unfold zslot
  by_cases h1 : x < 0
  · rw [if_pos h1]
  · rw [if_neg h1]
    by_cases h2 : 12 ≤ x
    · rw [if_pos h2]
    · exact absurd (decide_eq_true ⟨h1, h2⟩) h
theorem zok_12 {x : Int32} (h : zok x = true) : x.toNatClampNeg < 12 := Nat.not_le.mp fun q => zok_in h (Or.inr q)
/-! THE CLAIM OUT OF ONE WALK OF THE LAW'S BODY. Your part is whole_start (and what it stands on); all else here is the same for every law, but numbers. -/
def R_law : String := "SumHouseLaw"
def lw_P (b : Addr) (xs : List Int32) (args : Array Value) (s : State) : Prop := args = #[.ref b] ∧ s.IntsAt b xs ∧ xs.length ≤ 6 ∧ (Jvm.Cond.and given_1 narrow_1).before args s = true
def lw_Q (_ : Array Value) (s : State) (o : Outcome) (t : State) : Prop := o = .returned (some (.int 1)) ∧ Framed s o t [] 600002 7302232
def lw_Z (below : List Frame) (a : Array Value) (s : State) : State → Prop := fun t => ∃ o, t.status = .running ∧ Ended t below o ∧ lw_Q a s o t
/-- the law's own end, with 1 on the stack, nothing written that was there before, its room as the claim has it -/
theorem lw_ret {p : Program} {l : Launch} {e : Env} {s : State} {m : MethodId} {below : List Frame} {meth : Method} {c : Code} {b : Nat} (hx : p.tables.exec = Jvm.exec) (hb : c.code = code) (hr : meth.sig.returnType = ret) (hlocks : meth.locks = false) {pc : Nat} {H : Heap} {ls : Array Slot} (hdg : decode code pc = .ok (.ireturn, 1)) : W p l e room_1 s m #[Value.ref b] below meth c H [] 600002 7302232 (lw_Z below #[Value.ref b] s) (F0 m pc ls [.int 1]) := by
  intro T hT X
  obtain ⟨fs, hret, hrun, hended, hW, hframe⟩ := X.leave (v := some (.int 1)) (hlocks := hlocks) (fun h => by rw [hr] at h; cases h)
  have hmeth' : T.vm.method? m = some meth := X.method'
  refine ⟨T.setFrames fs, ?_, .returned (some (.int 1)), hrun, hended, rfl, ⟨_, rfl⟩, hW, hframe⟩
  jvm_step X.here [X.here.top, hx, hb, hdg, hmeth', hr, ret, narrow_b1]
  (try refine ⟨rfl, ?_⟩); (try refine ⟨rfl, ?_⟩)
  first | (intro acts; rw [hret _ acts rfl rfl rfl]) | rw [hret _ _ rfl rfl rfl]
  exact Steps.refl _
/-- what holds at the law's entry: the machine, the code, the tables' words (any of lw_tbl by 'hts w (by decide +kernel)'), the script of L ints xs at the cell b, what the Statement gives of the start (any of its parts by flat_of_before) -/
def lw_At (p : Program) (s : State) (m : MethodId) (meth : Method) (c : Code) (b L : Nat) (xs : Nat → Int32) : Prop :=
  p.tables.exec = Jvm.exec ∧ c.code = code ∧ meth.sig.returnType = ret ∧ c.maxLocals = 4 ∧ s.vm.findClass R_law = some m.cls ∧ (∀ w ∈ lw_tbl, w.before #[Value.ref b] s = true) ∧ va_X b L xs s s.heap ∧ b < s.heap.size ∧ meth.locks = false ∧ (Jvm.Cond.and given_1 narrow_1).before #[Value.ref b] s = true

section ZSL
variable {p : Program} {l : Launch} {e : Env} {R : Room} {s : State} {m : MethodId} {args : Array Value} {below : List Frame} {meth : Method} {c : Code} {H : Heap} {locs : List Loc} {cells slots : Nat} {Q : State → Prop}
variable {cc : ByteArray} {pc : Nat} {ls : Array Slot} {rest : List Value} {A : Nat → Prop} {H0 : Heap}
theorem zsld (hexec : p.tables.exec = Jvm.exec) (hb : c.code = cc) {b L : Nat} {xs : Nat → Int32} (hX : va_X b L xs s H0) (hbl : b < H0.size) (hbA : ¬ A b) (hS : va_S A H0 H locs) {i v : Int32} (hin : vp_in i L) (hv : xs i.toNatClampNeg = v) (hdg : decode cc pc = .ok (.iaload, 1))
    (kk : W p l e R s m args below meth c H locs cells slots Q (F0 m (pc + 1) ls (.int v :: rest))) : W p l e R s m args below meth c H locs cells slots Q (F0 m pc ls (.int i :: .ref b :: rest)) := va_sld hexec hb hX hbl hbA hS hin hdg (by rw [hv]; exact kk)
end ZSL
set_option maxHeartbeats 4000000 in
/-- the law's end: nothing is left of the script -/
theorem law_exit {p : Program} {l : Launch} {e : Env} {s : State} {m : MethodId} {below : List Frame} {meth : Method} {c : Code} {b L : Nat} {xs : Nat → Int32} (C0 : lw_At p s m meth c b L xs) {H : Heap} {locs : List Loc} {ls : Array Slot} {k n : Nat} (hk : k ≤ 600002) (hn : n ≤ 7302232) (hS : va_S (fun q => s.heap.size ≤ q) s.heap H locs) : W p l e room_1 s m #[Value.ref b] below meth c H locs k n (lw_Z below #[Value.ref b] s) (F0 m 1449 ls []) := by
  obtain ⟨hx, hb, hr, hml, hown, hts, hX, hbl, hlocks, hgv⟩ := C0
  refine lv_iconst (v := 1) hx hb dL_law_1449 (by decide) ?_
  refine va_forget (fun q hq => hS.2.2 q hq) ?_
  refine W.widen (k := 600002) (n := 7302232) hk hn ?_
  exact lw_ret hx hb hr hlocks dL_law_1450
theorem law_len : ∀ L : Nat, L ≤ 6 → L ≠ 6 → Int32.ofNat L - 6 < 0 := by decide
set_option maxHeartbeats 4000000 in
/-- behind a case: the loop's head finds no further call -/
theorem law_tail {p : Program} {l : Launch} {e : Env} {s : State} {m : MethodId} {below : List Frame} {meth : Method} {c : Code} {b : Nat} {xs : Nat → Int32} (C0 : lw_At p s m meth c b 6 xs) {H : Heap} {locs : List Loc} {ls : Array Slot} {k n : Nat} (hk : k ≤ 600002) (hn : n ≤ 7302232) (hS : va_S (fun q => s.heap.size ≤ q) s.heap H locs) (hl : lv_has ls 4 [(3, .int 0), (0, .ref b)]) : W p l e room_1 s m #[Value.ref b] below meth c H locs k n (lw_Z below #[Value.ref b] s) (F0 m 1443 ls []) := by
  have C1 := C0
  obtain ⟨hx, hb, hr, hml, hown, hts, hX, hbl, hlocks, hgv⟩ := C0
  have hbA : ¬ (fun q : Nat => s.heap.size ≤ q) b := Nat.not_le.mpr hbl
  refine lv_iinc (v := 6) (lv' := [(3, .int 6), (0, .ref b)]) hx hb dL_law_1443 hl (k := 0) rfl (by decide) (by decide) rfl (fun ls1 hl1 => ?_)
  refine lv_goto (tgt := 18) hx hb dL_law_1446 (by decide) ?_
  refine lv_iload_n hx hb dL_law_18 rfl (lv_at hl1 0 rfl) ?_
  refine lv_aload_n hx hb dL_law_19 rfl (lv_at hl1 1 rfl) ?_
  refine va_slen hx hb hX hbl hbA hS dL_law_20 ?_
  refine lv_bipush (v := 6) hx hb dL_law_21 (by decide) ?_
  refine lv_isub hx hb dL_law_23 ?_
  refine lv_icmp_gt (tgt := 1449) hx hb dL_law_24 (by decide) (fun _ => ?_) (fun h => absurd (by decide) h)
  exact law_exit C1 hk hn hS