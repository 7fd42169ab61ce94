/-! what a method starts from, what it leaves: worlds as lists of cells, with the class ids of all arrays once and for all -/
def zT (aC : Nat → ClassId) : List (ClassId × FieldType) := [(aC 0, .int), (aC 1, .byte), (aC 2, .boolean), (aC 3, .object RX6), (aC 4, .object RX15), (aC 5, .object RX12), (aC 6, .object RX14)]
def zO (U : State) : Prop := va_AO RX6 U ∧ va_AO RX15 U ∧ va_AO RX12 U ∧ va_AO RX14 U ∧ va_Nw (.methodLinkNest RX16 442 yX14_init RX16) U ∧ va_Nw (.castable RX13 RX13) U
theorem zO.warm {s U : State} (hW : s.WarmedH U.vm) (h : zO s) : zO U := ⟨h.1.moved hW.alike, h.2.1.moved hW.alike, h.2.2.1.moved hW.alike, h.2.2.2.1.moved hW.alike, va_Nw.warmM hW h.2.2.2.2.1, va_Nw.warmC hW h.2.2.2.2.2⟩
def zK (D : va_G) (aC : Nat → ClassId) (U : State) : Prop := va_K D vwCl (zT aC) U ∧ zO U
theorem zK.warm {D : va_G} {aC : Nat → ClassId} {s U : State} (hW : s.WarmedH U.vm) (h : zK D aC s) : zK D aC U := ⟨va_K.moved hW.alike h.1, h.2.warm hW⟩
theorem zK.calling {D : va_G} {aC : Nat → ClassId} {U : State} {g : JFrame} {mk : MethodId} {a : Array Value} (h : zK D aC U) : zK D aC (U.calling g mk a) := ⟨va_K.moved (u := U) (U := U.calling g mk a) (Vm.Alike.refl U.vm) h.1, h.2.1.moved (u := U) (U := U.calling g mk a) (Vm.Alike.refl U.vm), h.2.2.1.moved (u := U) (U := U.calling g mk a) (Vm.Alike.refl U.vm), h.2.2.2.1.moved (u := U) (U := U.calling g mk a) (Vm.Alike.refl U.vm), h.2.2.2.2.1.moved (u := U) (U := U.calling g mk a) (Vm.Alike.refl U.vm), va_tabs rfl (rfl : U.vm = (U.calling g mk a).vm) h.2.2.2.2.2.1, va_tabs rfl (rfl : U.vm = (U.calling g mk a).vm) h.2.2.2.2.2.2⟩
def zPre (D : va_G) (aC : Nat → ClassId) (ws : va_W) (sz : Nat) (av : List Value) : Array Value → State → Prop := va_Pc av (fun U => U.heap.size = sz ∧ va_P D vwCl ws U.heap ∧ zK D aC U ∧ va_D (fun _ => True) ws)
theorem zPre_blind {D : va_G} {aC : Nat → ClassId} {ws : va_W} {sz : Nat} {av : List Value} : FrameBlind (zPre D aC ws sz av) := fun a U g mk q => by
  obtain ⟨q0, q1, q2, q3, q4⟩ := q
  exact ⟨q0, q1, q2, q3.calling, q4⟩
theorem zsubP {D : va_G} {cl : List vw_C} {ws wc : va_W} {H : Heap} (hP : va_P D cl ws H) (isC : List Nat) (hC : isC.map (fun i => ws[i]?) = wc.map some) : va_P D cl wc H := fun k q hq => by
  have h1 : (isC.map (fun i => ws[i]?))[k]? = some (some q) := by rw [hC, List.getElem?_map, hq]; rfl
  rw [List.getElem?_map] at h1
  cases hi : isC[k]? with
  | none => rw [hi] at h1; cases h1
  | some i => rw [hi] at h1; exact hP i q (Option.some.inj h1)
theorem zPre_S {D : va_G} {aC : Nat → ClassId} {ws wc : va_W} {s : State} {H : Heap} {A : Nat → Prop} {As : List Value} (hK : zK D aC s) (hP : va_P D vwCl ws H) (hD : va_D A ws) (isC : List Nat) (hC : isC.map (fun i => ws[i]?) = wc.map some) (hn : va_nd isC = true) : PreS s H (zPre D aC wc H.size As) As :=
  ⟨zPre_blind, fun U hU hW => ⟨rfl, by rw [hU], by rw [hU]; exact zsubP hP isC hC, hK.warm hW, (hD.sub isC hn hC).weaken (fun _ _ _ _ => trivial)⟩⟩
theorem zPre_V {D : va_G} {aC : Nat → ClassId} {ws wc : va_W} {s : State} {H : Heap} {A : Nat → Prop} {b ci q0 : Nat} {q : vw_C} {fs As : List Value} (hK : zK D aC s) (hP : va_P D vwCl ws H) (hD : va_D A ws) (isC : List Nat) (hC : isC.map (fun i => ws[i]?) = wc.map some) (hn : va_nd isC = true) (hc : vwCl[ci]? = some q) (he : wc[q0]? = some (b, .inr (ci, fs))) : PreV s H q.1 b (zPre D aC wc H.size (.ref b :: As)) As :=
  ⟨zPre_blind, va_recv hK.1 (zsubP hP isC hC) hc he, (zPre_S (As := .ref b :: As) hK hP hD isC hC hn).2⟩
/-- the cells at a method's end, and how many there are -/
def zB (D : va_G) (ws : va_W) (A : Nat → Prop) (sz : Nat) (t : State) : Prop := va_P D vwCl ws t.heap ∧ va_D A ws ∧ t.heap.size = sz
/-- a method that writes to no cell that was there, and makes none -/
def zN (sz : Nat) : Nat → Prop := fun q => sz ≤ q
theorem zgV {big : List Cond} {own C : String} {idx : Nat} {y : MethodName} {ws : List Cond} (h1 : Cond.methodLink own idx y ∈ zAll) (h2 : Cond.instanceMethod y ∈ zAll) (h3 : Cond.selects C y y ∈ zAll) (h4 : Cond.initialized C ∈ zAll) (g : GoodIn zAll ws) (hb : big = zAll) : GoodIn big (wsV own idx C y ws) := by
  subst hb
  unfold wsV
  refine goodIn_app (fun w h => zAll_self w ?_) g
  rcases List.mem_cons.mp h with rfl | h
  · exact h1
  rcases List.mem_cons.mp h with rfl | h
  · exact h2
  rcases List.mem_cons.mp h with rfl | h
  · exact h3
  rcases List.mem_cons.mp h with rfl | h
  · exact h4
  cases h
theorem zgS {own : String} {idx : Nat} {y : MethodName} {ws : List Cond} (h1 : Cond.methodLink own idx y ∈ zAll) (h2 : Cond.static y ∈ zAll) (h4 : Cond.initialized y.cls ∈ zAll) (g : GoodIn zAll ws) : GoodIn zAll (va_wsS own idx y ws) := by
  unfold va_wsS
  refine goodIn_app (fun w h => zAll_self w ?_) g
  rcases List.mem_cons.mp h with rfl | h
  · exact h1
  rcases List.mem_cons.mp h with rfl | h
  · exact h2
  rcases List.mem_cons.mp h with rfl | h
  · exact h4
  cases h
theorem zheap_eq {H H1 : Heap} (hz : H1.size = H.size) (hk : ∀ q : Nat, q < H.size → H1[q]? = H[q]?) : H1 = H := by
  apply Array.ext hz
  intro i h1 h2
  have h := hk i h2
  rw [Array.getElem?_eq_getElem h1, Array.getElem?_eq_getElem h2] at h
  exact Option.some.inj h
section ZC
variable {p : Program} {l : Launch} {e : Env} {R : Room} {s : State} {m : MethodId} {args : Array Value} {below : List Frame} {meth : Method} {c : Code} {H : Heap} {locs : List Loc} {cells slots : Nat} {Q : State → Prop}
variable {pc : Nat} {ls : Array Slot} {rest st0 : List Value} {a : Array Value} {A : Nat → Prop} {H0 : Heap} {mc ms k : Nat} {D : va_G} {ws wc wr : va_W}
/-- calls that only read: the heap is the same behind them -/
theorem zro_i {post : Int32 → Prop} (hS : va_S A H0 H locs) (hA : ∀ q, H0.size ≤ q → A q) (hr : va_Run p l e R s m args below meth c H locs cells slots 0 0 (F0 m pc ls st0) rest (va_Qi (fun r (_ : Unit) => post r) (fun _ t => t.heap.size = H.size) (zN H.size) a) (zN H.size))
    (kk : ∀ (r : Int32) (locs1 : List Loc), post r → va_S A H0 H locs1 → W p l e R s m args below meth c H locs1 cells slots Q (F0 m (pc + 3) ls (.int r :: rest))) : W p l e R s m args below meth c H locs cells slots Q (F0 m pc ls st0) := by
  refine va_calli hr hS (fun q h1 h2 => absurd h2 (Nat.not_le.mpr h1)) (fun q h => hA q (Nat.le_trans hS.1 h)) (fun r u t H1 locs1 ht hvm hp hB hz hk hS1 => ?_)
  have e1 : H1 = H := zheap_eq (by rw [← ht]; exact hB) (fun q h => hk q h (fun z => absurd z (Nat.not_le.mpr h)))
  subst e1
  exact kk r locs1 hp hS1
theorem zro_q {post : Option Nat → Prop} (hS : va_S A H0 H locs) (hA : ∀ q, H0.size ≤ q → A q) (hr : va_Run p l e R s m args below meth c H locs cells slots 0 0 (F0 m pc ls st0) rest (va_Qq (fun r (_ : Unit) => post r) (fun _ t => t.heap.size = H.size) (zN H.size) a) (zN H.size))
    (kk : ∀ (r : Option Nat) (locs1 : List Loc), post r → va_S A H0 H locs1 → W p l e R s m args below meth c H locs1 cells slots Q (F0 m (pc + 3) ls (va_rf r :: rest))) : W p l e R s m args below meth c H locs cells slots Q (F0 m pc ls st0) := by
  refine va_callq hr hS (fun q h1 h2 => absurd h2 (Nat.not_le.mpr h1)) (fun q h => hA q (Nat.le_trans hS.1 h)) (fun r u t H1 locs1 ht hvm hp hB hz hk hS1 => ?_)
  have e1 : H1 = H := zheap_eq (by rw [← ht]; exact hB) (fun q h => hk q h (fun z => absurd z (Nat.not_le.mpr h)))
  subst e1
  exact kk r locs1 hp hS1
theorem zrw_i {S : Type} {post : Int32 → S → Prop} {w1 : S → va_W} {f : Nat → Prop} {B : S → State → Prop} (hP : va_P D vwCl ws H) (hD : va_D A ws) (hS : va_S A H0 H locs) (hA : ∀ q, H0.size ≤ q → A q) (isC isR : List Nat) (hC : isC.map (fun i => ws[i]?) = wc.map some) (hR : isR.map (fun i => ws[i]?) = wr.map some) (hn : va_nd isR = true) (hdis : ∀ i ∈ isR, i ∉ isC)
    (hr : va_Run p l e R s m args below meth c H locs cells slots mc ms (F0 m pc ls st0) rest (va_Qi post (fun u t => zB D (w1 u) (va_A wc H.size) (H.size + k) t) (va_A wc H.size) a) (va_A wc H.size))
    (kk : ∀ (r : Int32) (u : S) (H1 : Heap) (locs1 : List Loc), post r u → H1.size = H.size + k → (∀ q : Nat, q < H.size → ¬ va_A wc H.size q → H1[q]? = H[q]?) → va_P D vwCl (wr ++ w1 u) H1 → va_D A (wr ++ w1 u) → va_S A H0 H1 locs1 → W p l e R s m args below meth c H1 locs1 (cells + mc) (slots + ms) Q (F0 m (pc + 3) ls (.int r :: rest))) : W p l e R s m args below meth c H locs cells slots Q (F0 m pc ls st0) := by
  have hF := va_free (wc := wc) hD hS hA isC hC
  refine va_calli hr hS (fun q _ h => hF q h) hF (fun r u t H1 locs1 ht hvm hp hB hz hk hS1 => ?_)
  obtain ⟨b1, b2, b3⟩ := hB
  rw [ht] at b1 b3
  obtain ⟨j1, j2⟩ := va_join (wr := wr) (w1 := w1 u) hP hD isC isR hC hR hn hdis hk hF b1 b2
  exact kk r u H1 locs1 hp b3 hk j1 j2 hS1
theorem zrw_v {S : Type} {post : S → Prop} {w1 : S → va_W} (hP : va_P D vwCl ws H) (hD : va_D A ws) (hS : va_S A H0 H locs) (hA : ∀ q, H0.size ≤ q → A q) (isC isR : List Nat) (hC : isC.map (fun i => ws[i]?) = wc.map some) (hR : isR.map (fun i => ws[i]?) = wr.map some) (hn : va_nd isR = true) (hdis : ∀ i ∈ isR, i ∉ isC)
    (hr : va_Run p l e R s m args below meth c H locs cells slots mc ms (F0 m pc ls st0) rest (va_Qv post (fun u t => zB D (w1 u) (va_A wc H.size) (H.size + k) t) (va_A wc H.size) a) (va_A wc H.size))
    (kk : ∀ (u : S) (H1 : Heap) (locs1 : List Loc), post u → H1.size = H.size + k → (∀ q : Nat, q < H.size → ¬ va_A wc H.size q → H1[q]? = H[q]?) → va_P D vwCl (wr ++ w1 u) H1 → va_D A (wr ++ w1 u) → va_S A H0 H1 locs1 → W p l e R s m args below meth c H1 locs1 (cells + mc) (slots + ms) Q (F0 m (pc + 3) ls rest)) : W p l e R s m args below meth c H locs cells slots Q (F0 m pc ls st0) := by
  have hF := va_free (wc := wc) hD hS hA isC hC
  refine va_callv hr hS (fun q _ h => hF q h) hF (fun u t H1 locs1 ht hvm hp hB hz hk hS1 => ?_)
  obtain ⟨b1, b2, b3⟩ := hB
  rw [ht] at b1 b3
  obtain ⟨j1, j2⟩ := va_join (wr := wr) (w1 := w1 u) hP hD isC isR hC hR hn hdis hk hF b1 b2
  exact kk u H1 locs1 hp b3 hk j1 j2 hS1
end ZC
/-- a family of small worlds -/
def zFam (D : va_G) (F : Nat → va_W) (n : Nat) (H : Heap) : Prop := ∀ i, i < n → va_P D vwCl (F i) H
theorem zFam_keep {D : va_G} {F : Nat → va_W} {n lo hi : Nat} {H H1 : Heap} (h : zFam D F n H) (hr : ∀ i, i < n → ∀ (k : Nat) (x : Nat × va_E), (F i)[k]? = some x → lo ≤ x.1 ∧ x.1 < hi) (hq : ∀ q : Nat, lo ≤ q → q < hi → H1[q]? = H[q]?) : zFam D F n H1 :=
  fun i hi => (h i hi).kept (fun k x hx => hq x.1 (hr i hi k x hx).1 (hr i hi k x hx).2)
theorem zFam_0 {D : va_G} {F : Nat → va_W} {H : Heap} : zFam D F 0 H := fun i h => absurd h (Nat.not_lt_zero i)
theorem zFam_1 {D : va_G} {F : Nat → va_W} {n : Nat} {H : Heap} (h : zFam D F n H) (h1 : va_P D vwCl (F n) H) : zFam D F (n + 1) H := fun i hi => by
  rcases Nat.lt_or_ge i n with q | q
  · exact h i q
  · have e : i = n := by omega
    subst e; exact h1
theorem zAbout1 {a sz q : Nat} {e : va_E} (h1 : q ≠ a) (h2 : q < sz) : ¬ va_A [(a, e)] sz q := by
  intro h
  rcases h with ⟨k, e', h⟩ | h
  · cases k with
    | zero => cases h; exact h1 rfl
    | succ k => simp at h
  · omega
/-- a world out of a part of another one's, by places -/
theorem zcut {D : va_G} {A : Nat → Prop} {ws w : va_W} {H : Heap} (hP : va_P D vwCl ws H) (hD : va_D A ws) (is : List Nat) (hC : is.map (fun i => ws[i]?) = w.map some) (hn : va_nd is = true) : va_P D vwCl w H ∧ va_D A w := ⟨zsubP hP is hC, hD.sub is hn hC⟩
