
/-! new T[n][m] -/
theorem zs441 : "[" ++ (FieldType.array .int).toString = "[[I" := by decide +kernel
theorem zs485 : "[" ++ (FieldType.array (.object RX15)).toString = "[[LSumHouseModel$U;" := by decide +kernel
theorem zAC {C : String} {args : Array Value} {s : State} (h : va_AO C s) : (Cond.arrayClass (.object C)).before args s = true := by
  obtain ⟨comp, c, k, h1, h2, h3, h4, h5⟩ := Cond.arrayOver_spec (args := args) (va_AO.use h)
  simp [Cond.before, Cond.holds, Cond.value, h3, h4, h5]
theorem zouter (c : ClassId) (N h0 : Nat) : ∀ i : Nat, Jvm.Free.Multi.outerC c N h0 i = arrV c N (fun j => va_rf (if j < i then some (h0 + 1 + j) else none))
  | 0 => by
    show ({ cls := c, slots := Array.replicate N .null, vm := .none } : Cell) = _
    rw [arrV_new]
    exact congrArg (arrV c N) (funext fun j => by simp [va_rf])
  | i + 1 => by
    show (Jvm.Free.Multi.outerC c N h0 i).setSlot i (.ref (h0 + 1 + i)) = _
    rw [zouter c N h0 i, arrV_store]
    refine congrArg (arrV c N) (funext fun j => ?_)
    by_cases e : j = i
    · subst e
      simp [updV, va_rf]
    · by_cases h : j < i
      · simp [updV, e, h, Nat.lt_succ_of_lt h]
      · simp [updV, e, h, show ¬ j < i + 1 by omega]
section ZMN
variable {p : Program} {l : Launch} {e : Env} {R : Room} {s : State} {m : MethodId} {args : Array Value} {below : List Frame} {meth : Method} {c : Code} {H : Heap} {locs : List Loc} {cells slots : Nat} {Q : State → Prop}
variable {cc : ByteArray} {pc : Nat} {ls : Array Slot} {rest : List Value} {D : va_G} {cl : List vw_C} {A : Nat → Prop} {tys : List (ClassId × FieldType)} {ws : va_W} {H0 : Heap}
theorem zmna (hexec : p.tables.exec = Jvm.exec) (hb : c.code = cc) {own : String} {index : Nat} {ty : FieldType} (hown : s.vm.findClass own = some m.cls) (hclink : (Cond.classLink own index ("[" ++ (FieldType.array ty).toString)).before args s = true) (hover : (Cond.arrayOver (.array ty)).before #[] s = true) (harr : (Cond.arrayClass ty).before args s = true)
    (hK : va_K D cl tys s) (hP : va_P D cl ws H) (hS : va_S A H0 H locs) {n k : Int32} {N' K' : Nat} (hn : ¬ n < 0) (hk : ¬ k < 0) (hN : n.toNatClampNeg = N') (hM : k.toNatClampNeg = K') (hb1 : N' * 4 ≤ 536870912) (hb2 : K' * componentBytes ty ≤ 536870912) (hb3 : K' ≤ 536870912) (hdf : fits ty (defaultValue ty) = true) (hdd : (defaultValue ty).isDefault = true) (hcells : cells + (1 + N') ≤ R.cells) (hslots : slots + (N' + N' * K') ≤ R.slots) (hdg : decode cc pc = .ok (.multianewarray index 2, 4))
    (kk : ∀ (q : Nat) (cA comp : ClassId) (H1 : Heap), q = H.size → H1.size = H.size + (1 + N') → zKeep H H1 → va_K D cl (tys ++ [(cA, .array ty)]) s → s.vm.findClass (FieldType.array ty).toString = some comp → H1[H.size]? = some (vp_cell cA (N', .inr (.inr (.inr (.inr (fun i => if i < N' then some (H.size + 1 + i) else none)))))) → (∀ j : Nat, j < N' → H1[H.size + 1 + j]? = some (Jvm.Free.Multi.innerC comp K' (defaultValue ty))) → va_P D cl ws H1 → va_S A H0 H1 locs →
      W p l e R s m args below meth c H1 locs (cells + (1 + N')) (slots + (N' + N' * K')) Q (F0 m (pc + 4) ls (.ref q :: rest))) : W p l e R s m args below meth c H locs cells slots Q (F0 m pc ls (.int k :: .int n :: rest)) := by
  subst hN
  subst hM
  intro T hT Xs
  obtain ⟨vm₁, cA, comp, -, fA, fC, hO, -, X', step⟩ := Xs.multianewarray2F hexec hown hclink (Jvm.Stand.arrayOver_alikeB (Vm.Alike.refl _) hover) harr (g := F0 m pc ls (.int k :: .int n :: rest)) rfl (by rw [hb]; exact hdg) rfl hn hk hb1 hb2 hb3 hdf hdd hcells hslots
  generalize hF : Jvm.Free.Multi.fill (T.setVm vm₁) cA comp n.toNatClampNeg k.toNatClampNeg (defaultValue ty) n.toNatClampNeg = F at X' step
  have hTh : (T.setVm vm₁).heap = H := hT
  obtain ⟨f1, f2, -, -⟩ := Jvm.Free.Multi.fill_facts (T.setVm vm₁) cA comp n.toNatClampNeg k.toNatClampNeg (defaultValue ty) n.toNatClampNeg
  rw [hF, hTh] at f1 f2
  have hold : ∀ x : Nat, x < H.size → F.heap[x]? = H[x]? := fun x hx => by
    have := Jvm.Free.Multi.fill_old (T.setVm vm₁) cA comp n.toNatClampNeg k.toNatClampNeg (defaultValue ty) (a := x) (by rw [hTh]; exact hx) n.toNatClampNeg
    rw [hF, hTh] at this
    exact this
  have hrow : ∀ j : Nat, j < n.toNatClampNeg → F.heap[H.size + 1 + j]? = some (Jvm.Free.Multi.innerC comp k.toNatClampNeg (defaultValue ty)) := fun j hj => by
    have := Jvm.Free.Multi.fill_inner (T.setVm vm₁) cA comp n.toNatClampNeg k.toNatClampNeg (defaultValue ty) n.toNatClampNeg j hj
    rw [hF, hTh] at this
    exact this
  rw [zouter] at f2
  have hAr : ArrOfT s cA (.array ty) := fun N9 z9 => by
    obtain ⟨-, k9, hk9, cm9, hkk9⟩ := (hO 0 0 0).1
    exact ⟨(fun q hq => by cases hq), k9, hk9, cm9, hkk9⟩
  have hK2 : va_K D cl (tys ++ [(cA, .array ty)]) s := ⟨hK.1, fun k9 x hx => by
    by_cases hl : k9 < tys.length
    · rw [List.getElem?_append_left hl] at hx
      exact hK.2 k9 x hx
    · rw [List.getElem?_append_right (by omega)] at hx
      have h0 : k9 - tys.length < 1 := (List.getElem?_eq_some_iff.mp hx).1
      rw [show k9 - tys.length = 0 by omega] at hx
      cases hx
      exact ⟨hAr, fA⟩⟩
  have hz : F.heap.size = H.size + (1 + n.toNatClampNeg) := by rw [f1]; omega
  have hkp : zKeep H F.heap := ⟨by omega, hold⟩
  have X2 : Stand p l e R s m args below meth c F locs (cells + (1 + n.toNatClampNeg)) (slots + (n.toNatClampNeg + n.toNatClampNeg * k.toNatClampNeg)) := X'.more (by omega) (by omega)
  obtain ⟨t, a1, b1⟩ := kk H.size cA comp F.heap rfl hz hkp hK2 fC (by rw [f2, vp_cell_q]) hrow (hP.kept (fun k9 x hx => hold x.1 ((hP k9 x hx).lt))) (zS_keep hS hkp) F rfl X2
  refine ⟨t, step t ?_, b1⟩
  have e : T.heap.size = H.size := by rw [hT]
  rw [e]
  exact a1
end ZMN
def zThW (aC : Nat → ClassId) (a : Nat) : va_W := [(a, .inr (13, [.int 0, .ref (a + 1 + 0), .ref (a + 1 + 1), .int 0, .int 0, .int 0, .ref (a + 1 + 2), .ref (a + 1 + 3), .ref (a + 1 + 4), .ref (a + 1 + 5), .int 0, .ref (a + 1 + 6), .int 0, .int 0, .ref (a + 1 + 7)])), (a + 1, .inl (aC 0, 325, .inl (fun _ => 0))), (a + 2, .inl (aC 0, 325, .inl (fun _ => 0))), (a + 3, .inl (aC 0, 13, .inl (fun _ => 0))), (a + 4, .inl (aC 0, 13, .inl (fun _ => 0))), (a + 5, .inl (aC 0, 13, .inl (fun _ => 0))), (a + 6, .inl (aC 0, 13, .inl (fun _ => 0))), (a + 7, .inl (aC 0, 175, .inl (fun _ => 0))), (a + 8, .inl (aC 0, 361, .inl (fun _ => 0)))]
theorem zThW_rng {aC : Nat → ClassId} {a k : Nat} {x : Nat × va_E} (h : (zThW aC a)[k]? = some x) : a ≤ x.1 ∧ x.1 < a + 9 := by
  rcases k with _ | _ | _ | _ | _ | _ | _ | _ | _ | k <;> simp [zThW] at h <;> subst h <;> simp
def zGrid (cA : ClassId) (a N M : Nat) (H : Heap) : Prop := ∀ j : Nat, j < N → ∃ f : Nat → Option Nat, H[a + j]? = some (vp_cell cA (M, .inr (.inr (.inr (.inr f)))))
theorem zGrid_keep {cA : ClassId} {a N M : Nat} {H H1 : Heap} (h : zGrid cA a N M H) (hq : ∀ q : Nat, a ≤ q → q < a + N → H1[q]? = H[q]?) : zGrid cA a N M H1 := fun j hj => by
  obtain ⟨f, hf⟩ := h j hj
  exact ⟨f, by rw [hq _ (by omega) (by omega)]; exact hf⟩
theorem zinner (c : ClassId) (M : Nat) : Jvm.Free.Multi.innerC c M (defaultValue (.object RX15)) = vp_cell c (M, .inr (.inr (.inr (.inr (fun _ => none))))) := by
  rw [vp_cell_q]
  show ({ cls := c, slots := Array.replicate M .null, vm := .none } : Cell) = _
  rw [arrV_new]
  rfl
section ZGR
variable {p : Program} {l : Launch} {e : Env} {R : Room} {s : State} {m : MethodId} {args : Array Value} {below : List Frame} {meth : Method} {c : Code} {H : Heap} {locs : List Loc} {cells slots : Nat} {Q : State → Prop}
variable {cc : ByteArray} {pc : Nat} {ls : Array Slot} {rest : List Value} {D : va_G} {cl : List vw_C} {A : Nat → Prop} {a : Nat} {tys : List (ClassId × FieldType)} {ws : va_W} {H0 : Heap}
theorem zaldA (hexec : p.tables.exec = Jvm.exec) (hb : c.code = cc) (hK : va_K D cl tys s) (hP : va_P D cl ws H) (q0 t0 : Nat) {cA : ClassId} {ty : FieldType} {n : Nat} {f : Nat → Option Nat} (ha : ws[q0]? = some (a, .inl (cA, n, .inr (.inr (.inr (.inr f)))))) (ht : tys[t0]? = some (cA, .array ty)) {i : Int32} (hin : vp_in i n) {q : Nat} (hq : f i.toNatClampNeg = some q) (hdg : decode cc pc = .ok (.aaload, 1))
    (kk : W p l e R s m args below meth c H locs cells slots Q (F0 m (pc + 1) ls (.ref q :: rest))) : W p l e R s m args below meth c H locs cells slots Q (F0 m pc ls (.int i :: .ref a :: rest)) := by
  have hlt : i.toNatClampNeg < n := Nat.not_le.mp fun q => hin (Or.inr q)
  exact W.aald (v := .ref q) (ty := .array ty) hexec hb (hP q0 _ ha) ((hK.2 t0 _ ht).1 n (fun j => va_rf (f j))) rfl (fun q => by cases q) (by show ¬ (i < 0 ∨ (arrV _ _ _).slots.size ≤ _); rw [arrV_size]; exact hin) (by show (arrV _ _ _).slots[_]? = _; rw [arrV_read _ _ hlt, hq]; rfl) rfl rfl hdg kk
theorem zgast (hexec : p.tables.exec = Jvm.exec) (hb : c.code = cc) (hK : va_K D cl tys s) (hP : va_P D cl ws H) (hD : va_D A ws) (hS : va_S A H0 H locs) {cA : ClassId} {a0 N M i : Nat} (hG : zGrid cA a0 N M H) (hi : i < N) (hA0 : A (a0 + i)) (hne : ∀ x ∈ ws, x.1 ≠ a0 + i) (t0 ci : Nat) {r : vw_C} {v : Nat} {vs : List Value} (ht : tys[t0]? = some (cA, .object r.1)) (hv : va_at D cl (v, .inr (ci, vs)) H) (hc : cl[ci]? = some r) {j : Int32} (hin : vp_in j M) (hdg : decode cc pc = .ok (.aastore, 1))
    (kk : ∀ (H1 : Heap) (locs1 : List Loc), zBut (a0 + i) H H1 → zGrid cA a0 N M H1 → va_P D cl ws H1 → va_S A H0 H1 locs1 → W p l e R s m args below meth c H1 locs1 cells slots Q (F0 m (pc + 1) ls rest)) : W p l e R s m args below meth c H locs cells slots Q (F0 m pc ls (.ref v :: .int j :: .ref (a0 + i) :: rest)) := by
  obtain ⟨f, hf⟩ := hG i hi
  have hP2 : va_P D cl (ws ++ [(a0 + i, .inl (cA, M, .inr (.inr (.inr (.inr f)))))]) H := hP.app (fun k x hx => by
    have h0 : k < 1 := (List.getElem?_eq_some_iff.mp hx).1
    rw [show k = 0 by omega] at hx
    cases hx
    exact hf)
  have hD2 : va_D A (ws ++ [(a0 + i, .inl (cA, M, .inr (.inr (.inr (.inr f)))))]) := by
    refine ⟨fun k1 k2 x y hx hy hxy => ?_, fun k x hx => ?_⟩
    · by_cases h1 : k1 < ws.length <;> by_cases h2 : k2 < ws.length
      · rw [List.getElem?_append_left h1] at hx
        rw [List.getElem?_append_left h2] at hy
        exact hD.1 k1 k2 x y hx hy hxy
      · rw [List.getElem?_append_left h1] at hx
        rw [List.getElem?_append_right (by omega)] at hy
        have h0 : k2 - ws.length < 1 := (List.getElem?_eq_some_iff.mp hy).1
        rw [show k2 - ws.length = 0 by omega] at hy
        cases hy
        exact absurd hxy (hne x (List.mem_of_getElem? hx))
      · rw [List.getElem?_append_left h2] at hy
        rw [List.getElem?_append_right (by omega)] at hx
        have h0 : k1 - ws.length < 1 := (List.getElem?_eq_some_iff.mp hx).1
        rw [show k1 - ws.length = 0 by omega] at hx
        cases hx
        exact absurd hxy.symm (hne y (List.mem_of_getElem? hy))
      · rw [List.getElem?_append_right (by omega)] at hx hy
        have h0 : k1 - ws.length < 1 := (List.getElem?_eq_some_iff.mp hx).1
        have h3 : k2 - ws.length < 1 := (List.getElem?_eq_some_iff.mp hy).1
        omega
    · by_cases h1 : k < ws.length
      · rw [List.getElem?_append_left h1] at hx
        exact hD.2 k x hx
      · rw [List.getElem?_append_right (by omega)] at hx
        have h0 : k - ws.length < 1 := (List.getElem?_eq_some_iff.mp hx).1
        rw [show k - ws.length = 0 by omega] at hx
        cases hx
        exact hA0
  refine zastq (f := f) hexec hb hK hP2 hD2 hS ws.length t0 ci (by simp) ht hv hc hin hdg (fun H1 locs1 hB hP' hD' hS' => kk H1 locs1 hB (fun j2 hj2 => ?_) (hP.kept (fun k x hx => hB.2 x.1 (hne x (List.mem_of_getElem? hx)))) hS')
  by_cases hji : j2 = i
  · subst hji
    exact ⟨va_up f j.toNatClampNeg (some v), hP' ws.length (a0 + j2, .inl (cA, M, .inr (.inr (.inr (.inr (va_up f j.toNatClampNeg (some v))))))) (by simp)⟩
  · obtain ⟨g, hg⟩ := hG j2 hj2
    exact ⟨g, by rw [hB.2 _ (by omega)]; exact hg⟩
theorem zFam_keepL {w : va_W} {lo hi : Nat} {H H1 : Heap} (h : zFam D (fun _ => w) 1 H) (hr : ∀ x ∈ w, lo ≤ x.1 ∧ x.1 < hi) (hq : ∀ q : Nat, lo ≤ q → q < hi → H1[q]? = H[q]?) : zFam D (fun _ => w) 1 H1 := zFam_keep h (fun _ _ k x hx => hr x (List.mem_of_getElem? hx)) hq
end ZGR
