/-! worlds as functions: what stands at an address -/
def zT (aC : Nat → ClassId) : List (ClassId × FieldType) := [(aC 0, .int), (aC 1, .byte), (aC 2, .boolean), (aC 3, .object RX6), (aC 4, .object RX15), (aC 5, .object RX12), (aC 6, .object RX14), (aC 7, .array .int), (aC 8, .array (.object RX15))]
/-- the inner arrays of an array of arrays are of its class's component -/
def zCo (U : State) (cA cI : ClassId) : Prop := ∃ (kA kI : Class) (t : FieldType), U.vm.classes[cA]? = some kA ∧ kA.kind = .array cI t ∧ t.isReference = true ∧ U.vm.classes[cI]? = some kI
theorem zCo.moved {u U : State} {cA cI : ClassId} (hvm : u.vm.Alike U.vm) (h : zCo u cA cI) : zCo U cA cI := by
  obtain ⟨kA, kI, t, h1, h2, h3, h4⟩ := h
  obtain ⟨k', hk', he⟩ := hvm.2.2 _ _ h1
  obtain ⟨k2, hk2, -⟩ := hvm.2.2 _ _ h4
  exact ⟨k', k2, t, hk', by rw [he]; exact h2, h3, hk2⟩
theorem zas_self {vm : Vm} {c : ClassId} : vm.assignable c c = true := by
  show vm.assignableAux (255 + 1) c c = true
  rw [Vm.assignableAux]
  simp only [beq_self_eq_true, Bool.true_or]
def zO (aC : Nat → ClassId) (U : State) : Prop := va_AO RX6 U ∧ va_AO RX15 U ∧ va_AO RX12 U ∧ va_AO RX14 U ∧ va_Nw (.methodLinkNest RX16 442 yX14_init RX16) U ∧ va_Nw (.castable RX13 RX13) U ∧ zCo U (aC 7) (aC 0) ∧ zCo U (aC 8) (aC 4)
def zK (D : va_G) (aC : Nat → ClassId) (U : State) : Prop := va_K D vwCl (zT aC) U ∧ zO aC U
theorem zO.warm {aC : Nat → ClassId} {s U : State} (hW : s.WarmedH U.vm) (h : zO aC s) : zO aC U := ⟨h.1.moved hW.alike, h.2.1.moved hW.alike, h.2.2.1.moved hW.alike, h.2.2.2.1.moved hW.alike, va_Nw.warmM hW h.2.2.2.2.1, va_Nw.warmC hW h.2.2.2.2.2.1, h.2.2.2.2.2.2.1.moved hW.alike, h.2.2.2.2.2.2.2.moved hW.alike⟩
theorem zK.warm {D : va_G} {aC : Nat → ClassId} {s U : State} (hW : s.WarmedH U.vm) (h : zK D aC s) : zK D aC U := ⟨va_K.moved hW.alike h.1, h.2.warm hW⟩
theorem zK.calling {D : va_G} {aC : Nat → ClassId} {U : State} {g : JFrame} {mk : MethodId} {a : Array Value} (h : zK D aC U) : zK D aC (U.calling g mk a) := ⟨va_K.moved (u := U) (U := U.calling g mk a) (Vm.Alike.refl U.vm) h.1, h.2.1.moved (u := U) (U := U.calling g mk a) (Vm.Alike.refl U.vm), h.2.2.1.moved (u := U) (U := U.calling g mk a) (Vm.Alike.refl U.vm), h.2.2.2.1.moved (u := U) (U := U.calling g mk a) (Vm.Alike.refl U.vm), h.2.2.2.2.1.moved (u := U) (U := U.calling g mk a) (Vm.Alike.refl U.vm), va_tabs rfl (rfl : U.vm = (U.calling g mk a).vm) h.2.2.2.2.2.1, va_tabs rfl (rfl : U.vm = (U.calling g mk a).vm) h.2.2.2.2.2.2.1, h.2.2.2.2.2.2.2.1.moved (u := U) (U := U.calling g mk a) (Vm.Alike.refl U.vm), h.2.2.2.2.2.2.2.2.moved (u := U) (U := U.calling g mk a) (Vm.Alike.refl U.vm)⟩
abbrev zA : Type := (Nat → Int32) ⊕ (Nat → Option Nat)
/-- a cell: an object (its class, its fields), or an array (its type's place, its length, its contents) -/
abbrev zC : Type := (Nat × List Value) ⊕ (Nat × Nat × zA)
abbrev zM : Type := Nat → Option zC
def zup (w : zM) (a : Nat) (c : zC) : zM := fun b => if b = a then some c else w b
theorem zup_s {w : zM} {a : Nat} {c : zC} : zup w a c a = some c := by simp [zup]
theorem zup_n {w : zM} {a b : Nat} {c : zC} (h : b ≠ a) : zup w a c b = w b := by simp [zup, h]
def zcell (aC : Nat → ClassId) : zC → va_E
  | .inl o => .inr o
  | .inr (t, n, .inl f) => .inl (aC t, n, .inl f)
  | .inr (t, n, .inr f) => .inl (aC t, n, .inr (.inr (.inr (.inr f))))
def zFW (D : va_G) (aC : Nat → ClassId) (base : Nat) (w : zM) (H : Heap) : Prop := ∀ a c, w a = some c → base ≤ a ∧ va_at D vwCl (a, zcell aC c) H
theorem zFW.put {D : va_G} {aC : Nat → ClassId} {base a : Nat} {w : zM} {H H1 : Heap} {c : zC} (h : zFW D aC base w H) (hb : zBut a H H1) (ha : base ≤ a) (hc : va_at D vwCl (a, zcell aC c) H1) : zFW D aC base (zup w a c) H1 := by
  intro q c' hq
  by_cases e : q = a
  · subst e
    rw [zup_s] at hq
    cases hq
    exact ⟨ha, hc⟩
  · rw [zup_n e] at hq
    obtain ⟨h1, h2⟩ := h q c' hq
    exact ⟨h1, h2.kept (hb.2 q e)⟩
theorem zFW.new {D : va_G} {aC : Nat → ClassId} {base : Nat} {w : zM} {H H1 : Heap} {c : zC} (h : zFW D aC base w H) (hk : zKeep H H1) (ha : base ≤ H.size) (hc : va_at D vwCl (H.size, zcell aC c) H1) : zFW D aC base (zup w H.size c) H1 := by
  intro q c' hq
  by_cases e : q = H.size
  · subst e
    rw [zup_s] at hq
    cases hq
    exact ⟨ha, hc⟩
  · rw [zup_n e] at hq
    obtain ⟨h1, h2⟩ := h q c' hq
    exact ⟨h1, h2.kept (hk.2 q h2.lt)⟩
theorem zone {D : va_G} {aC : Nat → ClassId} {base a : Nat} {w : zM} {H : Heap} {c : zC} (h : zFW D aC base w H) (hc : w a = some c) : va_P D vwCl [(a, zcell aC c)] H := fun k q hq => by
  have hz : k < 1 := (List.getElem?_eq_some_iff.mp hq).1
  rw [show k = 0 by omega] at hq
  cases hq
  exact (h a c hc).2
theorem zoneD {A : Nat → Prop} {a : Nat} {e : va_E} (h : A a) : va_D A [(a, e)] := ⟨fun i j p q h1 h2 _ => by
  have z1 : i < 1 := (List.getElem?_eq_some_iff.mp h1).1
  have z2 : j < 1 := (List.getElem?_eq_some_iff.mp h2).1
  omega, fun k q hq => by
  have hz : k < 1 := (List.getElem?_eq_some_iff.mp hq).1
  rw [show k = 0 by omega] at hq
  cases hq
  exact h⟩
theorem zone0 {D : va_G} {a : Nat} {e : va_E} {H : Heap} (h : va_P D vwCl [(a, e)] H) : va_at D vwCl (a, e) H := h 0 _ rfl
def zN (base : Nat) : Nat → Prop := fun q => base ≤ q
/-- the fields of the classes: their types, and which are final -/
def zFT : List (List (FieldType × Bool)) := [[(.object "SumHouse$Room", true), (.object "SumHouse$Planes", true), (.array .int, true), (.array .int, true), (.array .int, true)],
  [(.object "SumHouse$Room", true)],
  [(.object "SumHouse$Room", true), (.object "SumHouse$Planes", true), (.object "SumHouse$Divisors", true)],
  [(.array .int, true), (.int, false), (.boolean, false)],
  [(.object "SumHouse$Room", true), (.object "SumHouse$Planes", true), (.object "SumHouse$Divisors", true), (.object "SumHouse$Solver", true), (.array .int, true), (.array .int, true), (.array .int, true), (.array .int, true), (.array .int, true)],
  [(.int, false), (.int, false), (.int, false), (.int, false), (.int, false), (.int, false), (.int, false), (.array .int, true), (.array .int, true), (.array .int, true), (.array .int, true), (.array .int, true)],
  [(.object "SumHouse$Room", true), (.array .int, true), (.array .int, true), (.array .int, true), (.int, false), (.int, false), (.int, false), (.int, false), (.int, false), (.int, false), (.int, false), (.int, false), (.boolean, false), (.int, false)],
  [(.object "SumHouse$Room", true), (.object "SumHouse$Planes", true), (.object "SumHouse$Divisors", true), (.object "SumHouse$Ratios", true), (.object "SumHouse$Terms", true), (.object "SumHouse$Solver", true), (.int, false), (.int, false), (.int, false), (.int, false), (.int, false), (.int, false), (.int, false), (.array .int, true), (.array .int, true), (.array .int, true), (.array .int, true), (.int, false)],
  [(.object "SumHouse$Room", true), (.object "SumHouse$Planes", true), (.object "SumHouse$Divisors", true), (.object "SumHouse$Ratios", true), (.array .int, true), (.array .int, true), (.int, false), (.int, false)],
  [(.object "SumHouse$Terms", true), (.array .int, true), (.int, false), (.array .int, true), (.int, false), (.array .int, true), (.int, false), (.array .int, true), (.int, false), (.array .int, true), (.int, false), (.int, false), (.int, false), (.array .int, true), (.int, false), (.int, false), (.int, false), (.int, false), (.int, false)],
  [(.array (.object "SumHouse$Slot"), true), (.object "SumHouse$Room", true), (.object "SumHouse$Planes", true), (.object "SumHouse$Divisors", true), (.object "SumHouse$Ratios", true), (.object "SumHouse$Terms", true), (.object "SumHouse$Texts", true), (.object "SumHouse$Sums", true), (.object "SumHouse$Sequences", true), (.array .int, true), (.int, false), (.array .int, true), (.int, false)],
  [(.array (.object "SumHouseModel$U"), true), (.int, false)],
  [(.object "java/lang/Throwable", false), (.array (.object "java/lang/StackTraceElement"), false), (.object "java/util/List", false), (.object "java/lang/String", false), (.object "java/lang/Object", false), (.int, false)],
  [(.int, false), (.array .int, true), (.array .int, true), (.int, false), (.int, false), (.int, false), (.array .int, true), (.array .int, true), (.array .int, true), (.array .int, true), (.int, false), (.array .int, true), (.int, false), (.int, false), (.array .int, true)],
  [(.array .int, true), (.int, false)],
  [(.array (.object "SumHouseModel$U"), true), (.int, false), (.array (.object "SumHouseModel$B"), true), (.int, false), (.array .int, true), (.array (.array .int), true), (.object "SumHouseModel$Thing", true), (.array .boolean, true), (.object "SumHouseModel$Stop", true), (.int, false), (.int, false), (.array (.object ""), true), (.int, false), (.int, false), (.int, false), (.array (.object "SumHouseModel$Thing"), true), (.int, false), (.int, false), (.int, false), (.int, false), (.array (.object "SumHouseModel$Thing"), true), (.object "SumHouseModel$Thing", true), (.int, false), (.array (.object ""), true), (.int, false), (.int, false), (.array (.object ""), true), (.boolean, false), (.array .int, true), (.int, false), (.array .int, true), (.int, false), (.array .int, true), (.array .int, true), (.array .int, true), (.array .int, true), (.int, false), (.int, false), (.array (.array .int), true), (.object "SumHouseModel$B", false), (.object "SumHouseModel$B", false), (.object "SumHouseModel$B", false), (.object "SumHouseModel$U", false), (.object "SumHouseModel$U", false), (.array (.array (.object "SumHouseModel$U")), true), (.array (.object "SumHouseModel$U"), true), (.array .boolean, true), (.array .int, true), (.int, false), (.array (.object "SumHouseModel$B"), true), (.array (.object "SumHouseModel$U"), true), (.array (.array .int), true), (.array (.array .int), true), (.array (.object "SumHouseModel$B"), true), (.array (.object "SumHouseModel$B"), true), (.array (.object "SumHouseModel$U"), true), (.array (.array (.object "SumHouseModel$U")), true), (.array (.array (.object "SumHouseModel$U")), true), (.array (.object "SumHouseModel$U"), true), (.array (.object "SumHouseModel$U"), true), (.array (.array .int), true), (.array .int, true), (.array .int, true), (.int, false), (.array .int, true)]]
def zft (ci k : Nat) : Option (FieldType × Bool) := match zFT[ci]? with
  | some r => r[k]?
  | none => none
/-- what the tables say of a field that is put -/
def zPt (ci k : Nat) (ty : FieldType) : Prop := ∃ (C : String) (T : u_T) (N : Nat) (ty0 : Nat → FieldType), vwCl[ci]? = some (C, T, N) ∧ k < N ∧ (∀ j, j < N → parseFieldDescriptor (T j).2.2.1 = some (ty0 j)) ∧ (∀ a, a < N → ∀ b, b < N → a ≠ b → (T a).2.1 ≠ (T b).2.1) ∧ (T k).2.2.2 = false ∧ parseFieldDescriptor (T k).2.2.1 = some ty
theorem zpt_3_1 : zPt 3 1 (.int) := ⟨RX4, TX4, 3, tyX4, rfl, by decide, tyX4_ok, nmX4, rfl, by decide +kernel⟩
theorem zpt_3_2 : zPt 3 2 (.boolean) := ⟨RX4, TX4, 3, tyX4, rfl, by decide, tyX4_ok, nmX4, rfl, by decide +kernel⟩
theorem zpt_5_0 : zPt 5 0 (.int) := ⟨RX6, TX6, 12, tyX6, rfl, by decide, tyX6_ok, nmX6, rfl, by decide +kernel⟩
theorem zpt_5_1 : zPt 5 1 (.int) := ⟨RX6, TX6, 12, tyX6, rfl, by decide, tyX6_ok, nmX6, rfl, by decide +kernel⟩
theorem zpt_5_2 : zPt 5 2 (.int) := ⟨RX6, TX6, 12, tyX6, rfl, by decide, tyX6_ok, nmX6, rfl, by decide +kernel⟩
theorem zpt_5_3 : zPt 5 3 (.int) := ⟨RX6, TX6, 12, tyX6, rfl, by decide, tyX6_ok, nmX6, rfl, by decide +kernel⟩
theorem zpt_5_4 : zPt 5 4 (.int) := ⟨RX6, TX6, 12, tyX6, rfl, by decide, tyX6_ok, nmX6, rfl, by decide +kernel⟩
theorem zpt_5_5 : zPt 5 5 (.int) := ⟨RX6, TX6, 12, tyX6, rfl, by decide, tyX6_ok, nmX6, rfl, by decide +kernel⟩
theorem zpt_5_6 : zPt 5 6 (.int) := ⟨RX6, TX6, 12, tyX6, rfl, by decide, tyX6_ok, nmX6, rfl, by decide +kernel⟩
theorem zpt_6_4 : zPt 6 4 (.int) := ⟨RX7, TX7, 14, tyX7, rfl, by decide, tyX7_ok, nmX7, rfl, by decide +kernel⟩
theorem zpt_6_5 : zPt 6 5 (.int) := ⟨RX7, TX7, 14, tyX7, rfl, by decide, tyX7_ok, nmX7, rfl, by decide +kernel⟩
theorem zpt_6_6 : zPt 6 6 (.int) := ⟨RX7, TX7, 14, tyX7, rfl, by decide, tyX7_ok, nmX7, rfl, by decide +kernel⟩
theorem zpt_6_7 : zPt 6 7 (.int) := ⟨RX7, TX7, 14, tyX7, rfl, by decide, tyX7_ok, nmX7, rfl, by decide +kernel⟩
theorem zpt_6_8 : zPt 6 8 (.int) := ⟨RX7, TX7, 14, tyX7, rfl, by decide, tyX7_ok, nmX7, rfl, by decide +kernel⟩
theorem zpt_6_9 : zPt 6 9 (.int) := ⟨RX7, TX7, 14, tyX7, rfl, by decide, tyX7_ok, nmX7, rfl, by decide +kernel⟩
theorem zpt_6_10 : zPt 6 10 (.int) := ⟨RX7, TX7, 14, tyX7, rfl, by decide, tyX7_ok, nmX7, rfl, by decide +kernel⟩
theorem zpt_6_11 : zPt 6 11 (.int) := ⟨RX7, TX7, 14, tyX7, rfl, by decide, tyX7_ok, nmX7, rfl, by decide +kernel⟩
theorem zpt_6_12 : zPt 6 12 (.boolean) := ⟨RX7, TX7, 14, tyX7, rfl, by decide, tyX7_ok, nmX7, rfl, by decide +kernel⟩
theorem zpt_6_13 : zPt 6 13 (.int) := ⟨RX7, TX7, 14, tyX7, rfl, by decide, tyX7_ok, nmX7, rfl, by decide +kernel⟩
theorem zpt_7_6 : zPt 7 6 (.int) := ⟨RX8, TX8, 18, tyX8, rfl, by decide, tyX8_ok, nmX8, rfl, by decide +kernel⟩
theorem zpt_7_7 : zPt 7 7 (.int) := ⟨RX8, TX8, 18, tyX8, rfl, by decide, tyX8_ok, nmX8, rfl, by decide +kernel⟩
theorem zpt_7_8 : zPt 7 8 (.int) := ⟨RX8, TX8, 18, tyX8, rfl, by decide, tyX8_ok, nmX8, rfl, by decide +kernel⟩
theorem zpt_7_9 : zPt 7 9 (.int) := ⟨RX8, TX8, 18, tyX8, rfl, by decide, tyX8_ok, nmX8, rfl, by decide +kernel⟩
theorem zpt_7_10 : zPt 7 10 (.int) := ⟨RX8, TX8, 18, tyX8, rfl, by decide, tyX8_ok, nmX8, rfl, by decide +kernel⟩
theorem zpt_7_11 : zPt 7 11 (.int) := ⟨RX8, TX8, 18, tyX8, rfl, by decide, tyX8_ok, nmX8, rfl, by decide +kernel⟩
theorem zpt_7_12 : zPt 7 12 (.int) := ⟨RX8, TX8, 18, tyX8, rfl, by decide, tyX8_ok, nmX8, rfl, by decide +kernel⟩
theorem zpt_7_17 : zPt 7 17 (.int) := ⟨RX8, TX8, 18, tyX8, rfl, by decide, tyX8_ok, nmX8, rfl, by decide +kernel⟩
theorem zpt_8_6 : zPt 8 6 (.int) := ⟨RX9, TX9, 8, tyX9, rfl, by decide, tyX9_ok, nmX9, rfl, by decide +kernel⟩
theorem zpt_8_7 : zPt 8 7 (.int) := ⟨RX9, TX9, 8, tyX9, rfl, by decide, tyX9_ok, nmX9, rfl, by decide +kernel⟩
theorem zpt_9_2 : zPt 9 2 (.int) := ⟨RX10, TX10, 19, tyX10, rfl, by decide, tyX10_ok, nmX10, rfl, by decide +kernel⟩
theorem zpt_9_4 : zPt 9 4 (.int) := ⟨RX10, TX10, 19, tyX10, rfl, by decide, tyX10_ok, nmX10, rfl, by decide +kernel⟩
theorem zpt_9_6 : zPt 9 6 (.int) := ⟨RX10, TX10, 19, tyX10, rfl, by decide, tyX10_ok, nmX10, rfl, by decide +kernel⟩
theorem zpt_9_8 : zPt 9 8 (.int) := ⟨RX10, TX10, 19, tyX10, rfl, by decide, tyX10_ok, nmX10, rfl, by decide +kernel⟩
theorem zpt_9_10 : zPt 9 10 (.int) := ⟨RX10, TX10, 19, tyX10, rfl, by decide, tyX10_ok, nmX10, rfl, by decide +kernel⟩
theorem zpt_9_11 : zPt 9 11 (.int) := ⟨RX10, TX10, 19, tyX10, rfl, by decide, tyX10_ok, nmX10, rfl, by decide +kernel⟩
theorem zpt_9_12 : zPt 9 12 (.int) := ⟨RX10, TX10, 19, tyX10, rfl, by decide, tyX10_ok, nmX10, rfl, by decide +kernel⟩
theorem zpt_9_14 : zPt 9 14 (.int) := ⟨RX10, TX10, 19, tyX10, rfl, by decide, tyX10_ok, nmX10, rfl, by decide +kernel⟩
theorem zpt_9_15 : zPt 9 15 (.int) := ⟨RX10, TX10, 19, tyX10, rfl, by decide, tyX10_ok, nmX10, rfl, by decide +kernel⟩
theorem zpt_9_16 : zPt 9 16 (.int) := ⟨RX10, TX10, 19, tyX10, rfl, by decide, tyX10_ok, nmX10, rfl, by decide +kernel⟩
theorem zpt_9_17 : zPt 9 17 (.int) := ⟨RX10, TX10, 19, tyX10, rfl, by decide, tyX10_ok, nmX10, rfl, by decide +kernel⟩
theorem zpt_9_18 : zPt 9 18 (.int) := ⟨RX10, TX10, 19, tyX10, rfl, by decide, tyX10_ok, nmX10, rfl, by decide +kernel⟩
theorem zpt_10_10 : zPt 10 10 (.int) := ⟨RX11, TX11, 13, tyX11, rfl, by decide, tyX11_ok, nmX11, rfl, by decide +kernel⟩
theorem zpt_10_12 : zPt 10 12 (.int) := ⟨RX11, TX11, 13, tyX11, rfl, by decide, tyX11_ok, nmX11, rfl, by decide +kernel⟩
theorem zpt_11_1 : zPt 11 1 (.int) := ⟨RX12, TX12, 2, tyX12, rfl, by decide, tyX12_ok, nmX12, rfl, by decide +kernel⟩
theorem zpt_12_0 : zPt 12 0 (.object "java/lang/Throwable") := ⟨RX13, TX13, 6, tyX13, rfl, by decide, tyX13_ok, nmX13, rfl, by decide +kernel⟩
theorem zpt_12_1 : zPt 12 1 (.array (.object "java/lang/StackTraceElement")) := ⟨RX13, TX13, 6, tyX13, rfl, by decide, tyX13_ok, nmX13, rfl, by decide +kernel⟩
theorem zpt_12_2 : zPt 12 2 (.object "java/util/List") := ⟨RX13, TX13, 6, tyX13, rfl, by decide, tyX13_ok, nmX13, rfl, by decide +kernel⟩
theorem zpt_12_3 : zPt 12 3 (.object "java/lang/String") := ⟨RX13, TX13, 6, tyX13, rfl, by decide, tyX13_ok, nmX13, rfl, by decide +kernel⟩
theorem zpt_12_4 : zPt 12 4 (.object "java/lang/Object") := ⟨RX13, TX13, 6, tyX13, rfl, by decide, tyX13_ok, nmX13, rfl, by decide +kernel⟩
theorem zpt_12_5 : zPt 12 5 (.int) := ⟨RX13, TX13, 6, tyX13, rfl, by decide, tyX13_ok, nmX13, rfl, by decide +kernel⟩
theorem zpt_13_0 : zPt 13 0 (.int) := ⟨RX14, TX14, 15, tyX14, rfl, by decide, tyX14_ok, nmX14, rfl, by decide +kernel⟩
theorem zpt_13_3 : zPt 13 3 (.int) := ⟨RX14, TX14, 15, tyX14, rfl, by decide, tyX14_ok, nmX14, rfl, by decide +kernel⟩
theorem zpt_13_4 : zPt 13 4 (.int) := ⟨RX14, TX14, 15, tyX14, rfl, by decide, tyX14_ok, nmX14, rfl, by decide +kernel⟩
theorem zpt_13_5 : zPt 13 5 (.int) := ⟨RX14, TX14, 15, tyX14, rfl, by decide, tyX14_ok, nmX14, rfl, by decide +kernel⟩
theorem zpt_13_10 : zPt 13 10 (.int) := ⟨RX14, TX14, 15, tyX14, rfl, by decide, tyX14_ok, nmX14, rfl, by decide +kernel⟩
theorem zpt_13_12 : zPt 13 12 (.int) := ⟨RX14, TX14, 15, tyX14, rfl, by decide, tyX14_ok, nmX14, rfl, by decide +kernel⟩
theorem zpt_13_13 : zPt 13 13 (.int) := ⟨RX14, TX14, 15, tyX14, rfl, by decide, tyX14_ok, nmX14, rfl, by decide +kernel⟩
theorem zpt_14_1 : zPt 14 1 (.int) := ⟨RX15, TX15, 2, tyX15, rfl, by decide, tyX15_ok, nmX15, rfl, by decide +kernel⟩
theorem zpt_15_1 : zPt 15 1 (.int) := ⟨RX16, TX16, 65, tyX16, rfl, by decide, tyX16_ok, nmX16, rfl, by decide +kernel⟩
theorem zpt_15_3 : zPt 15 3 (.int) := ⟨RX16, TX16, 65, tyX16, rfl, by decide, tyX16_ok, nmX16, rfl, by decide +kernel⟩
theorem zpt_15_9 : zPt 15 9 (.int) := ⟨RX16, TX16, 65, tyX16, rfl, by decide, tyX16_ok, nmX16, rfl, by decide +kernel⟩
theorem zpt_15_10 : zPt 15 10 (.int) := ⟨RX16, TX16, 65, tyX16, rfl, by decide, tyX16_ok, nmX16, rfl, by decide +kernel⟩
theorem zpt_15_12 : zPt 15 12 (.int) := ⟨RX16, TX16, 65, tyX16, rfl, by decide, tyX16_ok, nmX16, rfl, by decide +kernel⟩
theorem zpt_15_13 : zPt 15 13 (.int) := ⟨RX16, TX16, 65, tyX16, rfl, by decide, tyX16_ok, nmX16, rfl, by decide +kernel⟩
theorem zpt_15_14 : zPt 15 14 (.int) := ⟨RX16, TX16, 65, tyX16, rfl, by decide, tyX16_ok, nmX16, rfl, by decide +kernel⟩
theorem zpt_15_16 : zPt 15 16 (.int) := ⟨RX16, TX16, 65, tyX16, rfl, by decide, tyX16_ok, nmX16, rfl, by decide +kernel⟩
theorem zpt_15_17 : zPt 15 17 (.int) := ⟨RX16, TX16, 65, tyX16, rfl, by decide, tyX16_ok, nmX16, rfl, by decide +kernel⟩
theorem zpt_15_18 : zPt 15 18 (.int) := ⟨RX16, TX16, 65, tyX16, rfl, by decide, tyX16_ok, nmX16, rfl, by decide +kernel⟩
theorem zpt_15_19 : zPt 15 19 (.int) := ⟨RX16, TX16, 65, tyX16, rfl, by decide, tyX16_ok, nmX16, rfl, by decide +kernel⟩
theorem zpt_15_22 : zPt 15 22 (.int) := ⟨RX16, TX16, 65, tyX16, rfl, by decide, tyX16_ok, nmX16, rfl, by decide +kernel⟩
theorem zpt_15_24 : zPt 15 24 (.int) := ⟨RX16, TX16, 65, tyX16, rfl, by decide, tyX16_ok, nmX16, rfl, by decide +kernel⟩
theorem zpt_15_25 : zPt 15 25 (.int) := ⟨RX16, TX16, 65, tyX16, rfl, by decide, tyX16_ok, nmX16, rfl, by decide +kernel⟩
theorem zpt_15_27 : zPt 15 27 (.boolean) := ⟨RX16, TX16, 65, tyX16, rfl, by decide, tyX16_ok, nmX16, rfl, by decide +kernel⟩
theorem zpt_15_29 : zPt 15 29 (.int) := ⟨RX16, TX16, 65, tyX16, rfl, by decide, tyX16_ok, nmX16, rfl, by decide +kernel⟩
theorem zpt_15_31 : zPt 15 31 (.int) := ⟨RX16, TX16, 65, tyX16, rfl, by decide, tyX16_ok, nmX16, rfl, by decide +kernel⟩
theorem zpt_15_36 : zPt 15 36 (.int) := ⟨RX16, TX16, 65, tyX16, rfl, by decide, tyX16_ok, nmX16, rfl, by decide +kernel⟩
theorem zpt_15_37 : zPt 15 37 (.int) := ⟨RX16, TX16, 65, tyX16, rfl, by decide, tyX16_ok, nmX16, rfl, by decide +kernel⟩
theorem zpt_15_39 : zPt 15 39 (.object "SumHouseModel$B") := ⟨RX16, TX16, 65, tyX16, rfl, by decide, tyX16_ok, nmX16, rfl, by decide +kernel⟩
theorem zpt_15_40 : zPt 15 40 (.object "SumHouseModel$B") := ⟨RX16, TX16, 65, tyX16, rfl, by decide, tyX16_ok, nmX16, rfl, by decide +kernel⟩
theorem zpt_15_41 : zPt 15 41 (.object "SumHouseModel$B") := ⟨RX16, TX16, 65, tyX16, rfl, by decide, tyX16_ok, nmX16, rfl, by decide +kernel⟩
theorem zpt_15_42 : zPt 15 42 (.object "SumHouseModel$U") := ⟨RX16, TX16, 65, tyX16, rfl, by decide, tyX16_ok, nmX16, rfl, by decide +kernel⟩
theorem zpt_15_43 : zPt 15 43 (.object "SumHouseModel$U") := ⟨RX16, TX16, 65, tyX16, rfl, by decide, tyX16_ok, nmX16, rfl, by decide +kernel⟩
theorem zpt_15_48 : zPt 15 48 (.int) := ⟨RX16, TX16, 65, tyX16, rfl, by decide, tyX16_ok, nmX16, rfl, by decide +kernel⟩
theorem zpt_15_63 : zPt 15 63 (.int) := ⟨RX16, TX16, 65, tyX16, rfl, by decide, tyX16_ok, nmX16, rfl, by decide +kernel⟩
theorem zpt_all : ∀ ci k ty, zft ci k = some (ty, false) → zPt ci k ty := by
  intro ci k ty h
  unfold zft at h
  rcases ci with _ | _ | _ | _ | _ | _ | _ | _ | _ | _ | _ | _ | _ | _ | _ | _ | ci
  · rcases k with _ | _ | _ | _ | _ | k
    · cases h
    · cases h
    · cases h
    · cases h
    · cases h
    · simp [zFT] at h
  · rcases k with _ | k
    · cases h
    · simp [zFT] at h
  · rcases k with _ | _ | _ | k
    · cases h
    · cases h
    · cases h
    · simp [zFT] at h
  · rcases k with _ | _ | _ | k
    · cases h
    · cases h; exact zpt_3_1
    · cases h; exact zpt_3_2
    · simp [zFT] at h
  · rcases k with _ | _ | _ | _ | _ | _ | _ | _ | _ | k
    · cases h
    · cases h
    · cases h
    · cases h
    · cases h
    · cases h
    · cases h
    · cases h
    · cases h
    · simp [zFT] at h
  · rcases k with _ | _ | _ | _ | _ | _ | _ | _ | _ | _ | _ | _ | k
    · cases h; exact zpt_5_0
    · cases h; exact zpt_5_1
    · cases h; exact zpt_5_2
    · cases h; exact zpt_5_3
    · cases h; exact zpt_5_4
    · cases h; exact zpt_5_5
    · cases h; exact zpt_5_6
    · cases h
    · cases h
    · cases h
    · cases h
    · cases h
    · simp [zFT] at h
  · rcases k with _ | _ | _ | _ | _ | _ | _ | _ | _ | _ | _ | _ | _ | _ | k
    · cases h
    · cases h
    · cases h
    · cases h
    · cases h; exact zpt_6_4
    · cases h; exact zpt_6_5
    · cases h; exact zpt_6_6
    · cases h; exact zpt_6_7
    · cases h; exact zpt_6_8
    · cases h; exact zpt_6_9
    · cases h; exact zpt_6_10
    · cases h; exact zpt_6_11
    · cases h; exact zpt_6_12
    · cases h; exact zpt_6_13
    · simp [zFT] at h
  · rcases k with _ | _ | _ | _ | _ | _ | _ | _ | _ | _ | _ | _ | _ | _ | _ | _ | _ | _ | k
    · cases h
    · cases h
    · cases h
    · cases h
    · cases h
    · cases h
    · cases h; exact zpt_7_6
    · cases h; exact zpt_7_7
    · cases h; exact zpt_7_8
    · cases h; exact zpt_7_9
    · cases h; exact zpt_7_10
    · cases h; exact zpt_7_11
    · cases h; exact zpt_7_12
    · cases h
    · cases h
    · cases h
    · cases h
    · cases h; exact zpt_7_17
    · simp [zFT] at h
  · rcases k with _ | _ | _ | _ | _ | _ | _ | _ | k
    · cases h
    · cases h
    · cases h
    · cases h
    · cases h
    · cases h
    · cases h; exact zpt_8_6
    · cases h; exact zpt_8_7
    · simp [zFT] at h
  · rcases k with _ | _ | _ | _ | _ | _ | _ | _ | _ | _ | _ | _ | _ | _ | _ | _ | _ | _ | _ | k
    · cases h
    · cases h
    · cases h; exact zpt_9_2
    · cases h
    · cases h; exact zpt_9_4
    · cases h
    · cases h; exact zpt_9_6
    · cases h
    · cases h; exact zpt_9_8
    · cases h
    · cases h; exact zpt_9_10
    · cases h; exact zpt_9_11
    · cases h; exact zpt_9_12
    · cases h
    · cases h; exact zpt_9_14
    · cases h; exact zpt_9_15
    · cases h; exact zpt_9_16
    · cases h; exact zpt_9_17
    · cases h; exact zpt_9_18
    · simp [zFT] at h
  · rcases k with _ | _ | _ | _ | _ | _ | _ | _ | _ | _ | _ | _ | _ | k
    · cases h
    · cases h
    · cases h
    · cases h
    · cases h
    · cases h
    · cases h
    · cases h
    · cases h
    · cases h
    · cases h; exact zpt_10_10
    · cases h
    · cases h; exact zpt_10_12
    · simp [zFT] at h
  · rcases k with _ | _ | k
    · cases h
    · cases h; exact zpt_11_1
    · simp [zFT] at h
  · rcases k with _ | _ | _ | _ | _ | _ | k
    · cases h; exact zpt_12_0
    · cases h; exact zpt_12_1
    · cases h; exact zpt_12_2
    · cases h; exact zpt_12_3
    · cases h; exact zpt_12_4
    · cases h; exact zpt_12_5
    · simp [zFT] at h
  · rcases k with _ | _ | _ | _ | _ | _ | _ | _ | _ | _ | _ | _ | _ | _ | _ | k
    · cases h; exact zpt_13_0
    · cases h
    · cases h
    · cases h; exact zpt_13_3
    · cases h; exact zpt_13_4
    · cases h; exact zpt_13_5
    · cases h
    · cases h
    · cases h
    · cases h
    · cases h; exact zpt_13_10
    · cases h
    · cases h; exact zpt_13_12
    · cases h; exact zpt_13_13
    · cases h
    · simp [zFT] at h
  · rcases k with _ | _ | k
    · cases h
    · cases h; exact zpt_14_1
    · simp [zFT] at h
  · rcases k with _ | _ | _ | _ | _ | _ | _ | _ | _ | _ | _ | _ | _ | _ | _ | _ | _ | _ | _ | _ | _ | _ | _ | _ | _ | _ | _ | _ | _ | _ | _ | _ | _ | _ | _ | _ | _ | _ | _ | _ | _ | _ | _ | _ | _ | _ | _ | _ | _ | _ | _ | _ | _ | _ | _ | _ | _ | _ | _ | _ | _ | _ | _ | _ | _ | k
    · cases h
    · cases h; exact zpt_15_1
    · cases h
    · cases h; exact zpt_15_3
    · cases h
    · cases h
    · cases h
    · cases h
    · cases h
    · cases h; exact zpt_15_9
    · cases h; exact zpt_15_10
    · cases h
    · cases h; exact zpt_15_12
    · cases h; exact zpt_15_13
    · cases h; exact zpt_15_14
    · cases h
    · cases h; exact zpt_15_16
    · cases h; exact zpt_15_17
    · cases h; exact zpt_15_18
    · cases h; exact zpt_15_19
    · cases h
    · cases h
    · cases h; exact zpt_15_22
    · cases h
    · cases h; exact zpt_15_24
    · cases h; exact zpt_15_25
    · cases h
    · cases h; exact zpt_15_27
    · cases h
    · cases h; exact zpt_15_29
    · cases h
    · cases h; exact zpt_15_31
    · cases h
    · cases h
    · cases h
    · cases h
    · cases h; exact zpt_15_36
    · cases h; exact zpt_15_37
    · cases h
    · cases h; exact zpt_15_39
    · cases h; exact zpt_15_40
    · cases h; exact zpt_15_41
    · cases h; exact zpt_15_42
    · cases h; exact zpt_15_43
    · cases h
    · cases h
    · cases h
    · cases h
    · cases h; exact zpt_15_48
    · cases h
    · cases h
    · cases h
    · cases h
    · cases h
    · cases h
    · cases h
    · cases h
    · cases h
    · cases h
    · cases h
    · cases h
    · cases h
    · cases h
    · cases h; exact zpt_15_63
    · cases h
    · simp [zFT] at h
  · simp [zFT] at h
/-- what the tables say of a field's name in a class's pool -/
def zFl (own : String) (idx ci k : Nat) : Prop := ∃ (C : String) (T : u_T) (N : Nat), vwCl[ci]? = some (C, T, N) ∧ k < N ∧ (∀ w ∈ u_ws C T N, w ∈ zAll) ∧ Cond.fieldLink own idx (T k).1 (T k).2.1 (T k).2.2.1 ∈ zAll
def zfit (ty : FieldType) (v : Value) : Bool := match ty, v with
  | .int, .int _ => true
  | .boolean, .int x => decide (x = 0) || decide (x = 1)
  | .long, .long _ => true
  | .object _, .ref _ => true
  | .object _, .null => true
  | .array _, .ref _ => true
  | .array _, .null => true
  | _, _ => false
theorem zfit_ok {ty : FieldType} {v : Value} (h : zfit ty v = true) : narrow ty v = v ∧ fits ty v = true := by
  unfold zfit at h
  split at h
  · exact ⟨rfl, rfl⟩
  · rw [Bool.or_eq_true, decide_eq_true_eq, decide_eq_true_eq] at h
    rcases h with h | h <;> subst h <;> exact ⟨by decide, by decide⟩
  · exact ⟨rfl, rfl⟩
  · exact ⟨rfl, rfl⟩
  · exact ⟨rfl, rfl⟩
  · exact ⟨rfl, rfl⟩
  · exact ⟨rfl, rfl⟩
  · cases h
/-- a class's pool, as far as it is used: fields, ints, longs -/
abbrev zPool : Type := List (Nat × Nat × Nat) × List (Nat × Int32) × List (Nat × Int64)
def zPoolOk (own : String) (q : zPool) : Prop := (∀ x ∈ q.1, zFl own x.1 x.2.1 x.2.2) ∧ (∀ x ∈ q.2.1, Cond.constant own x.1 x.2 ∈ zAll) ∧ ∀ x ∈ q.2.2, Cond.constantLong own x.1 x.2 ∈ zAll
/-- the class of an array's elements -/
def zEl (t : Nat) : Nat := match t with
  | 3 => 5
  | 4 => 14
  | 5 => 11
  | 6 => 13
  | _ => 1000
set_option maxHeartbeats 4000000 in
def zheap (pl : zPool) (i : Instr) (pc : Nat) (lv : zL) (st : List Value) (w : zM) : Option (Nat × zL × List Value × zM) :=
  match i with
  | .getfield idx => match st with
    | .ref a :: r => match zlk pl.1 idx, w a with
      | some (ci, k), some (.inl (cj, fs)) => if cj = ci then match fs[k]? with
          | some v => some (pc + 3, lv, v :: r, w)
          | none => none
        else none
      | _, _ => none
    | _ => none
  | .putfield idx => match st with
    | v :: .ref a :: r => match zlk pl.1 idx, w a with
      | some (ci, k), some (.inl (cj, fs)) => if cj = ci ∧ k < fs.length then match zft ci k with
          | some (ty, false) => bif zfit ty v then some (pc + 3, lv, r, zup w a (.inl (ci, fs.set k v))) else none
          | _ => none
        else none
      | _, _ => none
    | _ => none
  | .iaload => match st with
    | .int j :: .ref a :: r => match w a with
      | some (.inr (0, n, .inl f)) => if ¬ (j < 0 ∨ n ≤ j.toNatClampNeg) then some (pc + 1, lv, .int (f j.toNatClampNeg) :: r, w) else none
      | _ => none
    | _ => none
  | .iastore => match st with
    | .int x :: .int j :: .ref a :: r => match w a with
      | some (.inr (0, n, .inl f)) => if ¬ (j < 0 ∨ n ≤ j.toNatClampNeg) then some (pc + 1, lv, r, zup w a (.inr (0, n, .inl (upd f j.toNatClampNeg x)))) else none
      | _ => none
    | _ => none
  | .baload => match st with
    | .int j :: .ref a :: r => match w a with
      | some (.inr (1, n, .inl f)) => if ¬ (j < 0 ∨ n ≤ j.toNatClampNeg) then some (pc + 1, lv, .int (f j.toNatClampNeg) :: r, w) else none
      | some (.inr (2, n, .inl f)) => if ¬ (j < 0 ∨ n ≤ j.toNatClampNeg) then some (pc + 1, lv, .int (f j.toNatClampNeg) :: r, w) else none
      | _ => none
    | _ => none
  | .bastore => match st with
    | .int x :: .int j :: .ref a :: r => match w a with
      | some (.inr (1, n, .inl f)) => if ¬ (j < 0 ∨ n ≤ j.toNatClampNeg) then some (pc + 1, lv, r, zup w a (.inr (1, n, .inl (upd f j.toNatClampNeg (vp_nar .byte x))))) else none
      | some (.inr (2, n, .inl f)) => if ¬ (j < 0 ∨ n ≤ j.toNatClampNeg) then some (pc + 1, lv, r, zup w a (.inr (2, n, .inl (upd f j.toNatClampNeg (vp_nar .boolean x))))) else none
      | _ => none
    | _ => none
  | .aaload => match st with
    | .int j :: .ref a :: r => match w a with
      | some (.inr (t, n, .inr f)) => if 3 ≤ t ∧ t ≤ 8 ∧ ¬ (j < 0 ∨ n ≤ j.toNatClampNeg) then some (pc + 1, lv, va_rf (f j.toNatClampNeg) :: r, w) else none
      | _ => none
    | _ => none
  | .aastore => match st with
    | .ref v :: .int j :: .ref a :: r => match w a, w v with
      | some (.inr (t, n, .inr f)), some (.inl (ci, _)) => if 3 ≤ t ∧ t ≤ 6 ∧ ci = zEl t ∧ ¬ (j < 0 ∨ n ≤ j.toNatClampNeg) then some (pc + 1, lv, r, zup w a (.inr (t, n, .inr (va_up f j.toNatClampNeg (some v))))) else none
      | some (.inr (t, n, .inr f)), some (.inr (u, _, _)) => if (t = 7 ∧ u = 0 ∨ t = 8 ∧ u = 4) ∧ ¬ (j < 0 ∨ n ≤ j.toNatClampNeg) then some (pc + 1, lv, r, zup w a (.inr (t, n, .inr (va_up f j.toNatClampNeg (some v))))) else none
      | _, _ => none
    | _ => none
  | .arraylength => match st with
    | .ref a :: r => match w a with
      | some (.inr (t, n, .inl _)) => if t ≤ 2 then some (pc + 1, lv, .int (Int32.ofNat n) :: r, w) else none
      | some (.inr (t, n, .inr _)) => if 3 ≤ t ∧ t ≤ 8 then some (pc + 1, lv, .int (Int32.ofNat n) :: r, w) else none
      | _ => none
    | _ => none
  | .ldc idx => match zlk pl.2.1 idx with
    | some v => some (pc + 2, lv, .int v :: st, w)
    | none => none
  | .ldc_w idx => match zlk pl.2.1 idx with
    | some v => some (pc + 3, lv, .int v :: st, w)
    | none => none
  | .ldc2_w idx => match zlk pl.2.2 idx with
    | some v => some (pc + 3, lv, .long v :: st, w)
    | none => none
  | .if_acmp .eq off => match st with
    | .ref y :: .ref x :: r => bif ztgok pc off then some (if x = y then ztg pc off else pc + 3, lv, r, w) else none
    | _ => none
  | .if_acmp .ne off => match st with
    | .ref y :: .ref x :: r => bif ztgok pc off then some (if ¬ x = y then ztg pc off else pc + 3, lv, r, w) else none
    | _ => none
  | _ => none
