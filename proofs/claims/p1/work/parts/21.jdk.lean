
def RJ1 : String := "java/lang/RuntimeException"
abbrev cJ1_init : ByteArray := prog_21_method_5_code
def yJ1_init : MethodName := ⟨RJ1, "<init>", "(Ljava/lang/String;Ljava/lang/Throwable;ZZ)V"⟩
def RJ2 : String := "java/lang/Exception"
abbrev cJ2_init : ByteArray := prog_19_method_5_code
def yJ2_init : MethodName := ⟨RJ2, "<init>", "(Ljava/lang/String;Ljava/lang/Throwable;ZZ)V"⟩
def RJ3 : String := "java/lang/Throwable"
abbrev cJ3_init : ByteArray := prog_23_method_5_code
def yJ3_init : MethodName := ⟨RJ3, "<init>", "(Ljava/lang/String;Ljava/lang/Throwable;ZZ)V"⟩
def zJ : List Cond := [Cond.methodLink RX13 1 yJ1_init, Cond.methodLink RJ1 16 yJ2_init, Cond.methodLink RJ2 16 yJ3_init, Cond.methodLink RJ3 1 objectInit, Cond.instanceMethod yJ1_init, Cond.code yJ1_init cJ1_init 5 none, Cond.initialized RJ1, Cond.instanceMethod yJ2_init, Cond.code yJ2_init cJ2_init 5 none, Cond.initialized RJ2, Cond.instanceMethod yJ3_init, Cond.code yJ3_init cJ3_init 5 none, Cond.initialized RJ3, Cond.fieldLink RJ3 7 "java/lang/Throwable" "cause" "Ljava/lang/Throwable;", Cond.fieldLink RJ3 13 "java/lang/Throwable" "UNASSIGNED_STACK" "[Ljava/lang/StackTraceElement;", Cond.fieldLink RJ3 17 "java/lang/Throwable" "stackTrace" "[Ljava/lang/StackTraceElement;", Cond.fieldLink RJ3 20 "java/lang/Throwable" "SUPPRESSED_SENTINEL" "Ljava/util/List;", Cond.fieldLink RJ3 24 "java/lang/Throwable" "suppressedExceptions" "Ljava/util/List;", Cond.fieldLink RJ3 31 "java/lang/Throwable" "detailMessage" "Ljava/lang/String;", Cond.classLink RX16 485 "[[LSumHouseModel$U;"]
def zBig : List Cond := zAll ++ zJ
theorem zJ_good : ∀ w ∈ zJ, goodWord w = true := List.all_eq_true.mp (by decide +kernel)
theorem zBig_self : GoodIn zBig zBig := fun w h => ⟨h, good_of_word ((List.mem_append.mp h).elim (zAll_good w) (zJ_good w))⟩
theorem zw_9000 : Cond.methodLink RX13 1 yJ1_init ∈ zJ := List.mem_of_getElem? (i := 0) (by decide +kernel)
theorem zw_9001 : Cond.methodLink RJ1 16 yJ2_init ∈ zJ := List.mem_of_getElem? (i := 1) (by decide +kernel)
theorem zw_9002 : Cond.methodLink RJ2 16 yJ3_init ∈ zJ := List.mem_of_getElem? (i := 2) (by decide +kernel)
theorem zw_9003 : Cond.methodLink RJ3 1 objectInit ∈ zJ := List.mem_of_getElem? (i := 3) (by decide +kernel)
theorem zw_9004 : Cond.instanceMethod yJ1_init ∈ zJ := List.mem_of_getElem? (i := 4) (by decide +kernel)
theorem zw_9005 : Cond.code yJ1_init cJ1_init 5 none ∈ zJ := List.mem_of_getElem? (i := 5) (by rfl)
theorem zw_9006 : Cond.initialized RJ1 ∈ zJ := List.mem_of_getElem? (i := 6) (by decide +kernel)
theorem zw_9007 : Cond.instanceMethod yJ2_init ∈ zJ := List.mem_of_getElem? (i := 7) (by decide +kernel)
theorem zw_9008 : Cond.code yJ2_init cJ2_init 5 none ∈ zJ := List.mem_of_getElem? (i := 8) (by rfl)
theorem zw_9009 : Cond.initialized RJ2 ∈ zJ := List.mem_of_getElem? (i := 9) (by decide +kernel)
theorem zw_9010 : Cond.instanceMethod yJ3_init ∈ zJ := List.mem_of_getElem? (i := 10) (by decide +kernel)
theorem zw_9011 : Cond.code yJ3_init cJ3_init 5 none ∈ zJ := List.mem_of_getElem? (i := 11) (by rfl)
theorem zw_9012 : Cond.initialized RJ3 ∈ zJ := List.mem_of_getElem? (i := 12) (by decide +kernel)
theorem zw_9013 : Cond.fieldLink RJ3 7 "java/lang/Throwable" "cause" "Ljava/lang/Throwable;" ∈ zJ := List.mem_of_getElem? (i := 13) (by decide +kernel)
theorem zw_9014 : Cond.fieldLink RJ3 13 "java/lang/Throwable" "UNASSIGNED_STACK" "[Ljava/lang/StackTraceElement;" ∈ zJ := List.mem_of_getElem? (i := 14) (by decide +kernel)
theorem zw_9015 : Cond.fieldLink RJ3 17 "java/lang/Throwable" "stackTrace" "[Ljava/lang/StackTraceElement;" ∈ zJ := List.mem_of_getElem? (i := 15) (by decide +kernel)
theorem zw_9016 : Cond.fieldLink RJ3 20 "java/lang/Throwable" "SUPPRESSED_SENTINEL" "Ljava/util/List;" ∈ zJ := List.mem_of_getElem? (i := 16) (by decide +kernel)
theorem zw_9017 : Cond.fieldLink RJ3 24 "java/lang/Throwable" "suppressedExceptions" "Ljava/util/List;" ∈ zJ := List.mem_of_getElem? (i := 17) (by decide +kernel)
theorem zw_9018 : Cond.fieldLink RJ3 31 "java/lang/Throwable" "detailMessage" "Ljava/lang/String;" ∈ zJ := List.mem_of_getElem? (i := 18) (by decide +kernel)
theorem zw_9019 : Cond.classLink RX16 485 "[[LSumHouseModel$U;" ∈ zJ := List.mem_of_getElem? (i := 19) (by decide +kernel)
abbrev w_J1_init : List Cond := Cond.code yJ1_init cJ1_init 5 none :: zBig
theorem g_J1_init : GoodIn zBig w_J1_init := fun w h => (List.mem_cons.mp h).elim (fun e => e ▸ zBig_self _ (List.mem_append_right _ zw_9005)) (zBig_self w)
abbrev w_J2_init : List Cond := Cond.code yJ2_init cJ2_init 5 none :: zBig
theorem g_J2_init : GoodIn zBig w_J2_init := fun w h => (List.mem_cons.mp h).elim (fun e => e ▸ zBig_self _ (List.mem_append_right _ zw_9008)) (zBig_self w)
abbrev w_J3_init : List Cond := Cond.code yJ3_init cJ3_init 5 none :: zBig
theorem g_J3_init : GoodIn zBig w_J3_init := fun w h => (List.mem_cons.mp h).elim (fun e => e ▸ zBig_self _ (List.mem_append_right _ zw_9011)) (zBig_self w)
abbrev wb_X13_init : List Cond := Cond.code yX13_init cX13_init 1 none :: zBig
theorem gb_X13_init : GoodIn zBig wb_X13_init := fun w h => (List.mem_cons.mp h).elim (fun e => e ▸ zBig_self _ (List.mem_append_left _ zw_330)) (zBig_self w)
abbrev wb_X16_init : List Cond := Cond.code yX16_init cX16_init 3 none :: zBig
theorem gb_X16_init : GoodIn zBig wb_X16_init := fun w h => (List.mem_cons.mp h).elim (fun e => e ▸ zBig_self _ (List.mem_append_left _ zw_494)) (zBig_self w)
/-! statics that Throwable() reads; arrays of arrays: what the tables say of them -/
def zT1 : String := "[Ljava/lang/StackTraceElement;"
def zX (A : Nat → Prop) (U : State) (H : Heap) : Prop := (va_Zq RJ3 "UNASSIGNED_STACK" "[Ljava/lang/StackTraceElement;" A U H ∧ va_Zq RJ3 "SUPPRESSED_SENTINEL" "Ljava/util/List;" A U H) ∧ (Cond.arrayOver (.array .int)).before #[] U = true ∧ (Cond.arrayOver (.array (.object RX15))).before #[] U = true
theorem zX.moved {A : Nat → Prop} {u U : State} {H : Heap} (hvm : u.vm.Alike U.vm) (h : zX A u H) : zX A U H := ⟨⟨h.1.1.moved hvm, h.1.2.moved hvm⟩, Jvm.Stand.arrayOver_alikeB hvm h.2.1, Jvm.Stand.arrayOver_alikeB hvm h.2.2⟩
theorem zX.kept {A : Nat → Prop} {U : State} {H H1 : Heap} (h : zX A U H) (hq : ∀ a : Nat, a < H.size → ¬ A a → H1[a]? = H[a]?) : zX A U H1 := ⟨⟨h.1.1.kept hq, h.1.2.kept hq⟩, h.2⟩
theorem zX.narrow {A B : Nat → Prop} {U : State} {H : Heap} (h : zX A U H) (hAB : ∀ q, B q → A q) : zX B U H := ⟨⟨h.1.1.narrow hAB, h.1.2.narrow hAB⟩, h.2⟩
def zPreX (D : va_G) (aC : Nat → ClassId) (ws : va_W) (sz : Nat) (av : List Value) : Array Value → State → Prop := va_Pc av (fun U => U.heap.size = sz ∧ va_P D vwCl ws U.heap ∧ zK D aC U ∧ va_D (fun _ => True) ws ∧ zX (va_A ws sz) U U.heap)
theorem zPreX_blind {D : va_G} {aC : Nat → ClassId} {ws : va_W} {sz : Nat} {av : List Value} : FrameBlind (zPreX D aC ws sz av) := fun a U g mk q => by
  obtain ⟨q0, q1, q2, q3, q4, q5⟩ := q
  exact ⟨q0, q1, q2, q3.calling, q4, zX.moved (u := U) (U := U.calling g mk a) (Vm.Alike.refl U.vm) q5⟩
theorem zPreX_S {D : va_G} {aC : Nat → ClassId} {ws wc : va_W} {s : State} {H : Heap} {A : Nat → Prop} {As : List Value} {locs : List Loc} (hK : zK D aC s) (hP : va_P D vwCl ws H) (hD : va_D A ws) (hS : va_S A s.heap H locs) (hA : ∀ q, s.heap.size ≤ q → A q) (hX : zX A s s.heap) (isC : List Nat) (hC : isC.map (fun i => ws[i]?) = wc.map some) (hn : va_nd isC = true) : PreS s H (zPreX D aC wc H.size As) As :=
  ⟨zPreX_blind, fun U hU hW => ⟨rfl, by rw [hU], by rw [hU]; exact zsubP hP isC hC, hK.warm hW, (hD.sub isC hn hC).weaken (fun _ _ _ _ => trivial), by rw [hU]; exact zX.moved hW.alike ((hX.kept hS.2.1).narrow (va_free (wc := wc) hD hS hA isC hC))⟩⟩
section ZG
variable {p : Program} {l : Launch} {e : Env} {R : Room} {s : State} {m : MethodId} {args : Array Value} {below : List Frame} {meth : Method} {c : Code} {H : Heap} {locs : List Loc} {cells slots : Nat} {Q : State → Prop}
variable {cc : ByteArray} {pc : Nat} {ls : Array Slot} {rest : List Value} {A : Nat → Prop}
theorem zgets (hexec : p.tables.exec = Jvm.exec) (hb : c.code = cc) {C n d own : String} {index : Nat} (hZ : va_Zq C n d A s s.heap) (hS : va_S A s.heap H locs) (hown : s.vm.findClass own = some m.cls) (hlink : (Cond.fieldLink own index C n d).before args s = true) (hdg : decode cc pc = .ok (.getstatic index, 3))
    (kk : ∀ r : Option Nat, W p l e R s m args below meth c H locs cells slots Q (F0 m (pc + 3) ls (va_rf r :: rest))) : W p l e R s m args below meth c H locs cells slots Q (F0 m pc ls rest) := by
  rcases hZ with h | ⟨t, h⟩
  · exact va_gets hexec hb h hS hown hlink (fun _ h => h) hdg (kk none)
  · exact va_gets hexec hb h hS hown hlink (fun _ h => h) hdg (kk (some t))
end ZG
