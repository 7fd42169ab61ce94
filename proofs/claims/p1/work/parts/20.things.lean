theorem dX15_init_0 : decode cX15_init 0 = .ok (.aload_n 0, 1) := by decide +kernel
theorem dX15_init_1 : decode cX15_init 1 = .ok (.invokespecial 1, 3) := by decide +kernel
theorem dX15_init_4 : decode cX15_init 4 = .ok (.aload_n 0, 1) := by decide +kernel
theorem dX15_init_5 : decode cX15_init 5 = .ok (.iload_n 1, 1) := by decide +kernel
theorem dX15_init_6 : decode cX15_init 6 = .ok (.newarray .int, 2) := by decide +kernel
theorem dX15_init_8 : decode cX15_init 8 = .ok (.putfield 7, 3) := by decide +kernel
theorem dX15_init_11 : decode cX15_init 11 = .ok (.return_, 1) := by decide +kernel
theorem dX14_init_0 : decode cX14_init 0 = .ok (.aload_n 0, 1) := by decide +kernel
theorem dX14_init_1 : decode cX14_init 1 = .ok (.invokespecial 3, 3) := by decide +kernel
theorem dX14_init_4 : decode cX14_init 4 = .ok (.aload_n 0, 1) := by decide +kernel
theorem dX14_init_5 : decode cX14_init 5 = .ok (.sipush 325, 3) := by decide +kernel
theorem dX14_init_8 : decode cX14_init 8 = .ok (.newarray .int, 2) := by decide +kernel
theorem dX14_init_10 : decode cX14_init 10 = .ok (.putfield 9, 3) := by decide +kernel
theorem dX14_init_13 : decode cX14_init 13 = .ok (.aload_n 0, 1) := by decide +kernel
theorem dX14_init_14 : decode cX14_init 14 = .ok (.sipush 325, 3) := by decide +kernel
theorem dX14_init_17 : decode cX14_init 17 = .ok (.newarray .int, 2) := by decide +kernel
theorem dX14_init_19 : decode cX14_init 19 = .ok (.putfield 15, 3) := by decide +kernel
theorem dX14_init_22 : decode cX14_init 22 = .ok (.aload_n 0, 1) := by decide +kernel
theorem dX14_init_23 : decode cX14_init 23 = .ok (.bipush 13, 2) := by decide +kernel
theorem dX14_init_25 : decode cX14_init 25 = .ok (.newarray .int, 2) := by decide +kernel
theorem dX14_init_27 : decode cX14_init 27 = .ok (.putfield 18, 3) := by decide +kernel
theorem dX14_init_30 : decode cX14_init 30 = .ok (.aload_n 0, 1) := by decide +kernel
theorem dX14_init_31 : decode cX14_init 31 = .ok (.bipush 13, 2) := by decide +kernel
theorem dX14_init_33 : decode cX14_init 33 = .ok (.newarray .int, 2) := by decide +kernel
theorem dX14_init_35 : decode cX14_init 35 = .ok (.putfield 21, 3) := by decide +kernel
theorem dX14_init_38 : decode cX14_init 38 = .ok (.aload_n 0, 1) := by decide +kernel
theorem dX14_init_39 : decode cX14_init 39 = .ok (.bipush 13, 2) := by decide +kernel
theorem dX14_init_41 : decode cX14_init 41 = .ok (.newarray .int, 2) := by decide +kernel
theorem dX14_init_43 : decode cX14_init 43 = .ok (.putfield 24, 3) := by decide +kernel
theorem dX14_init_46 : decode cX14_init 46 = .ok (.aload_n 0, 1) := by decide +kernel
theorem dX14_init_47 : decode cX14_init 47 = .ok (.bipush 13, 2) := by decide +kernel
theorem dX14_init_49 : decode cX14_init 49 = .ok (.newarray .int, 2) := by decide +kernel
theorem dX14_init_51 : decode cX14_init 51 = .ok (.putfield 27, 3) := by decide +kernel
theorem dX14_init_54 : decode cX14_init 54 = .ok (.aload_n 0, 1) := by decide +kernel
theorem dX14_init_55 : decode cX14_init 55 = .ok (.sipush 175, 3) := by decide +kernel
theorem dX14_init_58 : decode cX14_init 58 = .ok (.newarray .int, 2) := by decide +kernel
theorem dX14_init_60 : decode cX14_init 60 = .ok (.putfield 30, 3) := by decide +kernel
theorem dX14_init_63 : decode cX14_init 63 = .ok (.aload_n 0, 1) := by decide +kernel
theorem dX14_init_64 : decode cX14_init 64 = .ok (.sipush 361, 3) := by decide +kernel
theorem dX14_init_67 : decode cX14_init 67 = .ok (.newarray .int, 2) := by decide +kernel
theorem dX14_init_69 : decode cX14_init 69 = .ok (.putfield 33, 3) := by decide +kernel
theorem dX14_init_72 : decode cX14_init 72 = .ok (.return_, 1) := by decide +kernel
theorem dX12_init_0 : decode cX12_init 0 = .ok (.aload_n 0, 1) := by decide +kernel
theorem dX12_init_1 : decode cX12_init 1 = .ok (.invokespecial 3, 3) := by decide +kernel
theorem dX12_init_4 : decode cX12_init 4 = .ok (.aload_n 0, 1) := by decide +kernel
theorem dX12_init_5 : decode cX12_init 5 = .ok (.bipush 64, 2) := by decide +kernel
theorem dX12_init_7 : decode cX12_init 7 = .ok (.anewarray 9, 3) := by decide +kernel
theorem dX12_init_10 : decode cX12_init 10 = .ok (.putfield 11, 3) := by decide +kernel
theorem dX12_init_13 : decode cX12_init 13 = .ok (.iconst 0, 1) := by decide +kernel
theorem dX12_init_14 : decode cX12_init 14 = .ok (.istore_n 1, 1) := by decide +kernel
theorem dX12_init_15 : decode cX12_init 15 = .ok (.iload_n 1, 1) := by decide +kernel
theorem dX12_init_16 : decode cX12_init 16 = .ok (.bipush 64, 2) := by decide +kernel
theorem dX12_init_18 : decode cX12_init 18 = .ok (.if_icmp .ge 25, 3) := by decide +kernel
theorem dX12_init_21 : decode cX12_init 21 = .ok (.aload_n 0, 1) := by decide +kernel
theorem dX12_init_22 : decode cX12_init 22 = .ok (.getfield 11, 3) := by decide +kernel
theorem dX12_init_25 : decode cX12_init 25 = .ok (.iload_n 1, 1) := by decide +kernel
theorem dX12_init_26 : decode cX12_init 26 = .ok (.new 9, 3) := by decide +kernel
theorem dX12_init_29 : decode cX12_init 29 = .ok (.dup, 1) := by decide +kernel
theorem dX12_init_30 : decode cX12_init 30 = .ok (.sipush 200, 3) := by decide +kernel
theorem dX12_init_33 : decode cX12_init 33 = .ok (.invokespecial 17, 3) := by decide +kernel
theorem dX12_init_36 : decode cX12_init 36 = .ok (.aastore, 1) := by decide +kernel
theorem dX12_init_37 : decode cX12_init 37 = .ok (.iinc 1 1, 3) := by decide +kernel
theorem dX12_init_40 : decode cX12_init 40 = .ok (.goto (-25), 3) := by decide +kernel
theorem dX12_init_43 : decode cX12_init 43 = .ok (.return_, 1) := by decide +kernel
set_option maxHeartbeats 4000000 in
set_option maxRecDepth 100000 in
theorem c_X15_init_1000 (l : Launch) (dC : Nat → ClassId) (dI : Nat → Nat → Nat) (aC : Nat → ClassId) (h0 : Nat) (sz : Nat) : Met l yX15_init w_X15_init ({ frames := 1, cells := 1, slots := 1000, locals := 24 }) (zPre (dC, dI) aC [(h0, .inr (14, [.null, .int 0]))] sz [.ref h0, .int 1000]) (va_Qv (fun (u : Unit) => True) (fun u zt => zB (dC, dI) [(h0, .inr (14, [.ref (sz + 0), .int 0])), (sz + 0, .inl (aC 0, 1000, .inl (fun _ => 0)))] (va_A [(h0, .inr (14, [.null, .int 0]))] sz) (sz + 1) zt) (va_A [(h0, .inr (14, [.null, .int 0]))] sz)) 1 1000 (va_A [(h0, .inr (14, [.null, .int 0]))] sz) := by
  refine Met.ofW (cc := cX15_init) (maxL := 2) (ret := none) (by decide) rfl ?_
  intro p e s m args below meth c s₁ B hml hv
  generalize hQ : MQ below _ _ s _ _ _ = QQ
  obtain ⟨rfl, hsz, hP, hK, hD0⟩ := hv
  have hx := B.exec
  have hb := B.bytes
  have hr := B.returns
  have hts := atoms_spec (ws := w_X15_init) B.pre
  have hall := fun (w : Cond) (h : w ∈ zAll) => hts w (List.mem_cons_of_mem _ h)
  have hown : s.vm.findClass RX15 = some m.cls := findClass_of_methodNamed B.named
  have hlocks := B.notSynchronized
  have hin : meth.name = "<init>" := (name_of_methodNamed B.named B.method).1
  subst hsz
  have hD := hD0.self (sz := s.heap.size)
  generalize hAe : va_A [(h0, .inr (14, [.null, .int 0]))] s.heap.size = A at hD ⊢
  have hA : ∀ q : Nat, s.heap.size ≤ q → A q := fun q h => by rw [← hAe]; exact Or.inr h
  have hS : va_S A s.heap s.heap [] := va_S.rf
  have hz0 : s.heap.size = s.heap.size + 0 := rfl
  have hl := lv_entry ([.ref h0, .int 1000]) (n := 2) (Nat.le_of_ble_eq_true rfl)
  rw [lg_entry_eq]
  generalize (lg_sl ([.ref h0, .int 1000]) ++ List.replicate (2 - (lg_sl ([.ref h0, .int 1000])).length) Slot.unset).toArray = ls at hl ⊢
  have hl : lv_has ls 2 [(0, .ref h0), (1, .int 1000)] := hl
  refine lv_aload_n hx hb dX15_init_0 rfl (lv_at hl 0 rfl) ?_
  refine W.objInit hx hb hown (hall _ zw_293) (hall _ zw_2) (hall _ zw_3) rfl (hl.1.trans hml.symm) rfl dX15_init_1 (Nat.le_of_ble_eq_true rfl) (Nat.le_of_ble_eq_true rfl) ?_
  refine lv_aload_n hx hb dX15_init_4 rfl (lv_at hl 0 rfl) ?_
  refine lv_iload_n hx hb dX15_init_5 rfl (lv_at hl 1 rfl) ?_
  refine znewa (atype := .int) (ty := .int) (cA := aC 0) (N' := 1000) (a0 := (1000, .inl (fun _ => 0))) hx hb (hall _ zw_4) rfl hK.1 hP hD hS hA 0 rfl (fun h => h) rfl (by decide) (by decide) (Nat.le_of_ble_eq_true rfl) (Nat.le_of_ble_eq_true rfl) (Nat.le_of_ble_eq_true rfl) dX15_init_6 (fun q30001 H30002 eq30001 hz hB hP' hD' hS' => ?_)
  obtain rfl : q30001 = s.heap.size + 0 := eq30001.trans hz0
  clear eq30001
  replace hz0 : H30002.size = s.heap.size + 1 := by omega
  clear hz
  clear hP hD hS hB
  have hP : va_P (dC, dI) vwCl [(h0, .inr (14, [.null, .int 0])), (s.heap.size + 0, .inl (aC 0, 1000, .inl (fun _ => 0)))] H30002 := hP'
  have hD : va_D A [(h0, .inr (14, [.null, .int 0])), (s.heap.size + 0, .inl (aC 0, 1000, .inl (fun _ => 0)))] := hD'
  have hS : va_S A s.heap H30002 [] := hS'
  clear hP' hD' hS'
  show W p l e _ s m _ below meth c _ _ _ _ QQ (F0 m 8 ls [.ref (s.heap.size + 0), .ref h0])
  refine zputF (D := (dC, dI)) (ci := 14) (v := .ref (s.heap.size + 0)) (ty := (.array .int)) (C := RX15) (T := TX15) (N := 2) hx hb hall zx_15 tyX15 tyX15_ok nmX15 hown hK.1 hP hD hS 0 rfl rfl 0 (by decide) (hall _ zw_294) (fun _ h9 => h9) rfl hin rfl (by decide +kernel) rfl rfl (Nat.le_of_ble_eq_true rfl) dX15_init_8 (fun H30003 L30004 hB hP' hD' hS' => ?_)
  replace hz0 : H30003.size = s.heap.size + 1 := hB.1.trans hz0
  clear hP hD hS hB
  have hP : va_P (dC, dI) vwCl [(h0, .inr (14, [.ref (s.heap.size + 0), .int 0])), (s.heap.size + 0, .inl (aC 0, 1000, .inl (fun _ => 0)))] H30003 := hP'
  have hD : va_D A [(h0, .inr (14, [.ref (s.heap.size + 0), .int 0])), (s.heap.size + 0, .inl (aC 0, 1000, .inl (fun _ => 0)))] := hD'
  have hS : va_S A s.heap H30003 L30004 := hS'
  clear hP' hD' hS'
  clear H30002
  refine W.widen (k := 1) (n := 1000) (Nat.le_of_ble_eq_true rfl) (Nat.le_of_ble_eq_true rfl) ?_
  rw [← hQ, hAe]
  have hP := zsubP (wc := [(h0, .inr (14, [.ref (s.heap.size + 0), .int 0])), (s.heap.size + 0, .inl (aC 0, 1000, .inl (fun _ => 0)))]) hP [0, 1] rfl
  have hD := hD.sub (ws' := [(h0, .inr (14, [.ref (s.heap.size + 0), .int 0])), (s.heap.size + 0, .inl (aC 0, 1000, .inl (fun _ => 0)))]) [0, 1] (by decide) rfl
  exact W.vret hx hb hr (fun zt ht hW => ⟨⟨(), rfl, trivial, by rw [ht]; exact hP, hD, by rw [ht]; exact hz0⟩, hS.F ht⟩) hS.2.2 dX15_init_11

set_option maxHeartbeats 4000000 in
set_option maxRecDepth 100000 in
theorem c_X15_init_200 (l : Launch) (dC : Nat → ClassId) (dI : Nat → Nat → Nat) (aC : Nat → ClassId) (h0 : Nat) (sz : Nat) : Met l yX15_init w_X15_init ({ frames := 1, cells := 1, slots := 200, locals := 24 }) (zPre (dC, dI) aC [(h0, .inr (14, [.null, .int 0]))] sz [.ref h0, .int 200]) (va_Qv (fun (u : Unit) => True) (fun u zt => zB (dC, dI) [(h0, .inr (14, [.ref (sz + 0), .int 0])), (sz + 0, .inl (aC 0, 200, .inl (fun _ => 0)))] (va_A [(h0, .inr (14, [.null, .int 0]))] sz) (sz + 1) zt) (va_A [(h0, .inr (14, [.null, .int 0]))] sz)) 1 200 (va_A [(h0, .inr (14, [.null, .int 0]))] sz) := by
  refine Met.ofW (cc := cX15_init) (maxL := 2) (ret := none) (by decide) rfl ?_
  intro p e s m args below meth c s₁ B hml hv
  generalize hQ : MQ below _ _ s _ _ _ = QQ
  obtain ⟨rfl, hsz, hP, hK, hD0⟩ := hv
  have hx := B.exec
  have hb := B.bytes
  have hr := B.returns
  have hts := atoms_spec (ws := w_X15_init) B.pre
  have hall := fun (w : Cond) (h : w ∈ zAll) => hts w (List.mem_cons_of_mem _ h)
  have hown : s.vm.findClass RX15 = some m.cls := findClass_of_methodNamed B.named
  have hlocks := B.notSynchronized
  have hin : meth.name = "<init>" := (name_of_methodNamed B.named B.method).1
  subst hsz
  have hD := hD0.self (sz := s.heap.size)
  generalize hAe : va_A [(h0, .inr (14, [.null, .int 0]))] s.heap.size = A at hD ⊢
  have hA : ∀ q : Nat, s.heap.size ≤ q → A q := fun q h => by rw [← hAe]; exact Or.inr h
  have hS : va_S A s.heap s.heap [] := va_S.rf
  have hz0 : s.heap.size = s.heap.size + 0 := rfl
  have hl := lv_entry ([.ref h0, .int 200]) (n := 2) (Nat.le_of_ble_eq_true rfl)
  rw [lg_entry_eq]
  generalize (lg_sl ([.ref h0, .int 200]) ++ List.replicate (2 - (lg_sl ([.ref h0, .int 200])).length) Slot.unset).toArray = ls at hl ⊢
  have hl : lv_has ls 2 [(0, .ref h0), (1, .int 200)] := hl
  refine lv_aload_n hx hb dX15_init_0 rfl (lv_at hl 0 rfl) ?_
  refine W.objInit hx hb hown (hall _ zw_293) (hall _ zw_2) (hall _ zw_3) rfl (hl.1.trans hml.symm) rfl dX15_init_1 (Nat.le_of_ble_eq_true rfl) (Nat.le_of_ble_eq_true rfl) ?_
  refine lv_aload_n hx hb dX15_init_4 rfl (lv_at hl 0 rfl) ?_
  refine lv_iload_n hx hb dX15_init_5 rfl (lv_at hl 1 rfl) ?_
  refine znewa (atype := .int) (ty := .int) (cA := aC 0) (N' := 200) (a0 := (200, .inl (fun _ => 0))) hx hb (hall _ zw_4) rfl hK.1 hP hD hS hA 0 rfl (fun h => h) rfl (by decide) (by decide) (Nat.le_of_ble_eq_true rfl) (Nat.le_of_ble_eq_true rfl) (Nat.le_of_ble_eq_true rfl) dX15_init_6 (fun q30005 H30006 eq30005 hz hB hP' hD' hS' => ?_)
  obtain rfl : q30005 = s.heap.size + 0 := eq30005.trans hz0
  clear eq30005
  replace hz0 : H30006.size = s.heap.size + 1 := by omega
  clear hz
  clear hP hD hS hB
  have hP : va_P (dC, dI) vwCl [(h0, .inr (14, [.null, .int 0])), (s.heap.size + 0, .inl (aC 0, 200, .inl (fun _ => 0)))] H30006 := hP'
  have hD : va_D A [(h0, .inr (14, [.null, .int 0])), (s.heap.size + 0, .inl (aC 0, 200, .inl (fun _ => 0)))] := hD'
  have hS : va_S A s.heap H30006 [] := hS'
  clear hP' hD' hS'
  show W p l e _ s m _ below meth c _ _ _ _ QQ (F0 m 8 ls [.ref (s.heap.size + 0), .ref h0])
  refine zputF (D := (dC, dI)) (ci := 14) (v := .ref (s.heap.size + 0)) (ty := (.array .int)) (C := RX15) (T := TX15) (N := 2) hx hb hall zx_15 tyX15 tyX15_ok nmX15 hown hK.1 hP hD hS 0 rfl rfl 0 (by decide) (hall _ zw_294) (fun _ h9 => h9) rfl hin rfl (by decide +kernel) rfl rfl (Nat.le_of_ble_eq_true rfl) dX15_init_8 (fun H30007 L30008 hB hP' hD' hS' => ?_)
  replace hz0 : H30007.size = s.heap.size + 1 := hB.1.trans hz0
  clear hP hD hS hB
  have hP : va_P (dC, dI) vwCl [(h0, .inr (14, [.ref (s.heap.size + 0), .int 0])), (s.heap.size + 0, .inl (aC 0, 200, .inl (fun _ => 0)))] H30007 := hP'
  have hD : va_D A [(h0, .inr (14, [.ref (s.heap.size + 0), .int 0])), (s.heap.size + 0, .inl (aC 0, 200, .inl (fun _ => 0)))] := hD'
  have hS : va_S A s.heap H30007 L30008 := hS'
  clear hP' hD' hS'
  clear H30006
  refine W.widen (k := 1) (n := 200) (Nat.le_of_ble_eq_true rfl) (Nat.le_of_ble_eq_true rfl) ?_
  rw [← hQ, hAe]
  have hP := zsubP (wc := [(h0, .inr (14, [.ref (s.heap.size + 0), .int 0])), (s.heap.size + 0, .inl (aC 0, 200, .inl (fun _ => 0)))]) hP [0, 1] rfl
  have hD := hD.sub (ws' := [(h0, .inr (14, [.ref (s.heap.size + 0), .int 0])), (s.heap.size + 0, .inl (aC 0, 200, .inl (fun _ => 0)))]) [0, 1] (by decide) rfl
  exact W.vret hx hb hr (fun zt ht hW => ⟨⟨(), rfl, trivial, by rw [ht]; exact hP, hD, by rw [ht]; exact hz0⟩, hS.F ht⟩) hS.2.2 dX15_init_11

set_option maxHeartbeats 4000000 in
set_option maxRecDepth 100000 in
theorem c_X14_init (l : Launch) (dC : Nat → ClassId) (dI : Nat → Nat → Nat) (aC : Nat → ClassId) (h0 : Nat) (sz : Nat) : Met l yX14_init w_X14_init ({ frames := 1, cells := 8, slots := 1238, locals := 24 }) (zPre (dC, dI) aC [(h0, .inr (13, [.int 0, .null, .null, .int 0, .int 0, .int 0, .null, .null, .null, .null, .int 0, .null, .int 0, .int 0, .null]))] sz [.ref h0]) (va_Qv (fun (u : Unit) => True) (fun u zt => zB (dC, dI) [(h0, .inr (13, [.int 0, .ref (sz + 0), .ref (sz + 1), .int 0, .int 0, .int 0, .ref (sz + 2), .ref (sz + 3), .ref (sz + 4), .ref (sz + 5), .int 0, .ref (sz + 6), .int 0, .int 0, .ref (sz + 7)])), (sz + 0, .inl (aC 0, 325, .inl (fun _ => 0))), (sz + 1, .inl (aC 0, 325, .inl (fun _ => 0))), (sz + 2, .inl (aC 0, 13, .inl (fun _ => 0))), (sz + 3, .inl (aC 0, 13, .inl (fun _ => 0))), (sz + 4, .inl (aC 0, 13, .inl (fun _ => 0))), (sz + 5, .inl (aC 0, 13, .inl (fun _ => 0))), (sz + 6, .inl (aC 0, 175, .inl (fun _ => 0))), (sz + 7, .inl (aC 0, 361, .inl (fun _ => 0)))] (va_A [(h0, .inr (13, [.int 0, .null, .null, .int 0, .int 0, .int 0, .null, .null, .null, .null, .int 0, .null, .int 0, .int 0, .null]))] sz) (sz + 8) zt) (va_A [(h0, .inr (13, [.int 0, .null, .null, .int 0, .int 0, .int 0, .null, .null, .null, .null, .int 0, .null, .int 0, .int 0, .null]))] sz)) 8 1238 (va_A [(h0, .inr (13, [.int 0, .null, .null, .int 0, .int 0, .int 0, .null, .null, .null, .null, .int 0, .null, .int 0, .int 0, .null]))] sz) := by
  refine Met.ofW (cc := cX14_init) (maxL := 1) (ret := none) (by decide) rfl ?_
  intro p e s m args below meth c s₁ B hml hv
  generalize hQ : MQ below _ _ s _ _ _ = QQ
  obtain ⟨rfl, hsz, hP, hK, hD0⟩ := hv
  have hx := B.exec
  have hb := B.bytes
  have hr := B.returns
  have hts := atoms_spec (ws := w_X14_init) B.pre
  have hall := fun (w : Cond) (h : w ∈ zAll) => hts w (List.mem_cons_of_mem _ h)
  have hown : s.vm.findClass RX14 = some m.cls := findClass_of_methodNamed B.named
  have hlocks := B.notSynchronized
  have hin : meth.name = "<init>" := (name_of_methodNamed B.named B.method).1
  subst hsz
  have hD := hD0.self (sz := s.heap.size)
  generalize hAe : va_A [(h0, .inr (13, [.int 0, .null, .null, .int 0, .int 0, .int 0, .null, .null, .null, .null, .int 0, .null, .int 0, .int 0, .null]))] s.heap.size = A at hD ⊢
  have hA : ∀ q : Nat, s.heap.size ≤ q → A q := fun q h => by rw [← hAe]; exact Or.inr h
  have hS : va_S A s.heap s.heap [] := va_S.rf
  have hz0 : s.heap.size = s.heap.size + 0 := rfl
  have hl := lv_entry ([.ref h0]) (n := 1) (Nat.le_of_ble_eq_true rfl)
  rw [lg_entry_eq]
  generalize (lg_sl ([.ref h0]) ++ List.replicate (1 - (lg_sl ([.ref h0])).length) Slot.unset).toArray = ls at hl ⊢
  have hl : lv_has ls 1 [(0, .ref h0)] := hl
  refine lv_aload_n hx hb dX14_init_0 rfl (lv_at hl 0 rfl) ?_
  refine W.objInit hx hb hown (hall _ zw_307) (hall _ zw_2) (hall _ zw_3) rfl (hl.1.trans hml.symm) rfl dX14_init_1 (Nat.le_of_ble_eq_true rfl) (Nat.le_of_ble_eq_true rfl) ?_
  refine lv_aload_n hx hb dX14_init_4 rfl (lv_at hl 0 rfl) ?_
  refine lv_sipush (v := 325) hx hb dX14_init_5 (by decide) ?_
  refine znewa (atype := .int) (ty := .int) (cA := aC 0) (N' := 325) (a0 := (325, .inl (fun _ => 0))) hx hb (hall _ zw_4) rfl hK.1 hP hD hS hA 0 rfl (fun h => h) rfl (by decide) (by decide) (Nat.le_of_ble_eq_true rfl) (Nat.le_of_ble_eq_true rfl) (Nat.le_of_ble_eq_true rfl) dX14_init_8 (fun q30009 H30010 eq30009 hz hB hP' hD' hS' => ?_)
  obtain rfl : q30009 = s.heap.size + 0 := eq30009.trans hz0
  clear eq30009
  replace hz0 : H30010.size = s.heap.size + 1 := by omega
  clear hz
  clear hP hD hS hB
  have hP : va_P (dC, dI) vwCl [(h0, .inr (13, [.int 0, .null, .null, .int 0, .int 0, .int 0, .null, .null, .null, .null, .int 0, .null, .int 0, .int 0, .null])), (s.heap.size + 0, .inl (aC 0, 325, .inl (fun _ => 0)))] H30010 := hP'
  have hD : va_D A [(h0, .inr (13, [.int 0, .null, .null, .int 0, .int 0, .int 0, .null, .null, .null, .null, .int 0, .null, .int 0, .int 0, .null])), (s.heap.size + 0, .inl (aC 0, 325, .inl (fun _ => 0)))] := hD'
  have hS : va_S A s.heap H30010 [] := hS'
  clear hP' hD' hS'
  show W p l e _ s m _ below meth c _ _ _ _ QQ (F0 m 10 ls [.ref (s.heap.size + 0), .ref h0])
  refine zputF (D := (dC, dI)) (ci := 13) (v := .ref (s.heap.size + 0)) (ty := (.array .int)) (C := RX14) (T := TX14) (N := 15) hx hb hall zx_14 tyX14 tyX14_ok nmX14 hown hK.1 hP hD hS 0 rfl rfl 1 (by decide) (hall _ zw_308) (fun _ h9 => h9) rfl hin rfl (by decide +kernel) rfl rfl (Nat.le_of_ble_eq_true rfl) dX14_init_10 (fun H30011 L30012 hB hP' hD' hS' => ?_)
  replace hz0 : H30011.size = s.heap.size + 1 := hB.1.trans hz0
  clear hP hD hS hB
  have hP : va_P (dC, dI) vwCl [(h0, .inr (13, [.int 0, .ref (s.heap.size + 0), .null, .int 0, .int 0, .int 0, .null, .null, .null, .null, .int 0, .null, .int 0, .int 0, .null])), (s.heap.size + 0, .inl (aC 0, 325, .inl (fun _ => 0)))] H30011 := hP'
  have hD : va_D A [(h0, .inr (13, [.int 0, .ref (s.heap.size + 0), .null, .int 0, .int 0, .int 0, .null, .null, .null, .null, .int 0, .null, .int 0, .int 0, .null])), (s.heap.size + 0, .inl (aC 0, 325, .inl (fun _ => 0)))] := hD'
  have hS : va_S A s.heap H30011 L30012 := hS'
  clear hP' hD' hS'
  clear H30010
  refine lv_aload_n hx hb dX14_init_13 rfl (lv_at hl 0 rfl) ?_
  refine lv_sipush (v := 325) hx hb dX14_init_14 (by decide) ?_
  refine znewa (atype := .int) (ty := .int) (cA := aC 0) (N' := 325) (a0 := (325, .inl (fun _ => 0))) hx hb (hall _ zw_4) rfl hK.1 hP hD hS hA 0 rfl (fun h => h) rfl (by decide) (by decide) (Nat.le_of_ble_eq_true rfl) (Nat.le_of_ble_eq_true rfl) (Nat.le_of_ble_eq_true rfl) dX14_init_17 (fun q30013 H30014 eq30013 hz hB hP' hD' hS' => ?_)
  obtain rfl : q30013 = s.heap.size + 1 := eq30013.trans hz0
  clear eq30013
  replace hz0 : H30014.size = s.heap.size + 2 := by omega
  clear hz
  clear hP hD hS hB
  have hP : va_P (dC, dI) vwCl [(h0, .inr (13, [.int 0, .ref (s.heap.size + 0), .null, .int 0, .int 0, .int 0, .null, .null, .null, .null, .int 0, .null, .int 0, .int 0, .null])), (s.heap.size + 0, .inl (aC 0, 325, .inl (fun _ => 0))), (s.heap.size + 1, .inl (aC 0, 325, .inl (fun _ => 0)))] H30014 := hP'
  have hD : va_D A [(h0, .inr (13, [.int 0, .ref (s.heap.size + 0), .null, .int 0, .int 0, .int 0, .null, .null, .null, .null, .int 0, .null, .int 0, .int 0, .null])), (s.heap.size + 0, .inl (aC 0, 325, .inl (fun _ => 0))), (s.heap.size + 1, .inl (aC 0, 325, .inl (fun _ => 0)))] := hD'
  have hS : va_S A s.heap H30014 L30012 := hS'
  clear hP' hD' hS'
  clear H30011
  refine zputF (D := (dC, dI)) (ci := 13) (v := .ref (s.heap.size + 1)) (ty := (.array .int)) (C := RX14) (T := TX14) (N := 15) hx hb hall zx_14 tyX14 tyX14_ok nmX14 hown hK.1 hP hD hS 0 rfl rfl 2 (by decide) (hall _ zw_309) (fun _ h9 => h9) rfl hin rfl (by decide +kernel) rfl rfl (Nat.le_of_ble_eq_true rfl) dX14_init_19 (fun H30015 L30016 hB hP' hD' hS' => ?_)
  replace hz0 : H30015.size = s.heap.size + 2 := hB.1.trans hz0
  clear hP hD hS hB
  have hP : va_P (dC, dI) vwCl [(h0, .inr (13, [.int 0, .ref (s.heap.size + 0), .ref (s.heap.size + 1), .int 0, .int 0, .int 0, .null, .null, .null, .null, .int 0, .null, .int 0, .int 0, .null])), (s.heap.size + 0, .inl (aC 0, 325, .inl (fun _ => 0))), (s.heap.size + 1, .inl (aC 0, 325, .inl (fun _ => 0)))] H30015 := hP'
  have hD : va_D A [(h0, .inr (13, [.int 0, .ref (s.heap.size + 0), .ref (s.heap.size + 1), .int 0, .int 0, .int 0, .null, .null, .null, .null, .int 0, .null, .int 0, .int 0, .null])), (s.heap.size + 0, .inl (aC 0, 325, .inl (fun _ => 0))), (s.heap.size + 1, .inl (aC 0, 325, .inl (fun _ => 0)))] := hD'
  have hS : va_S A s.heap H30015 L30016 := hS'
  clear hP' hD' hS'
  clear L30012 H30014
  show W p l e _ s m _ below meth c _ _ _ _ QQ (F0 m 22 ls [])
  refine lv_aload_n hx hb dX14_init_22 rfl (lv_at hl 0 rfl) ?_
  refine lv_bipush (v := 13) hx hb dX14_init_23 (by decide) ?_
  refine znewa (atype := .int) (ty := .int) (cA := aC 0) (N' := 13) (a0 := (13, .inl (fun _ => 0))) hx hb (hall _ zw_4) rfl hK.1 hP hD hS hA 0 rfl (fun h => h) rfl (by decide) (by decide) (Nat.le_of_ble_eq_true rfl) (Nat.le_of_ble_eq_true rfl) (Nat.le_of_ble_eq_true rfl) dX14_init_25 (fun q30017 H30018 eq30017 hz hB hP' hD' hS' => ?_)
  obtain rfl : q30017 = s.heap.size + 2 := eq30017.trans hz0
  clear eq30017
  replace hz0 : H30018.size = s.heap.size + 3 := by omega
  clear hz
  clear hP hD hS hB
  have hP : va_P (dC, dI) vwCl [(h0, .inr (13, [.int 0, .ref (s.heap.size + 0), .ref (s.heap.size + 1), .int 0, .int 0, .int 0, .null, .null, .null, .null, .int 0, .null, .int 0, .int 0, .null])), (s.heap.size + 0, .inl (aC 0, 325, .inl (fun _ => 0))), (s.heap.size + 1, .inl (aC 0, 325, .inl (fun _ => 0))), (s.heap.size + 2, .inl (aC 0, 13, .inl (fun _ => 0)))] H30018 := hP'
  have hD : va_D A [(h0, .inr (13, [.int 0, .ref (s.heap.size + 0), .ref (s.heap.size + 1), .int 0, .int 0, .int 0, .null, .null, .null, .null, .int 0, .null, .int 0, .int 0, .null])), (s.heap.size + 0, .inl (aC 0, 325, .inl (fun _ => 0))), (s.heap.size + 1, .inl (aC 0, 325, .inl (fun _ => 0))), (s.heap.size + 2, .inl (aC 0, 13, .inl (fun _ => 0)))] := hD'
  have hS : va_S A s.heap H30018 L30016 := hS'
  clear hP' hD' hS'
  clear H30015
  refine zputF (D := (dC, dI)) (ci := 13) (v := .ref (s.heap.size + 2)) (ty := (.array .int)) (C := RX14) (T := TX14) (N := 15) hx hb hall zx_14 tyX14 tyX14_ok nmX14 hown hK.1 hP hD hS 0 rfl rfl 6 (by decide) (hall _ zw_310) (fun _ h9 => h9) rfl hin rfl (by decide +kernel) rfl rfl (Nat.le_of_ble_eq_true rfl) dX14_init_27 (fun H30019 L30020 hB hP' hD' hS' => ?_)
  replace hz0 : H30019.size = s.heap.size + 3 := hB.1.trans hz0
  clear hP hD hS hB
  have hP : va_P (dC, dI) vwCl [(h0, .inr (13, [.int 0, .ref (s.heap.size + 0), .ref (s.heap.size + 1), .int 0, .int 0, .int 0, .ref (s.heap.size + 2), .null, .null, .null, .int 0, .null, .int 0, .int 0, .null])), (s.heap.size + 0, .inl (aC 0, 325, .inl (fun _ => 0))), (s.heap.size + 1, .inl (aC 0, 325, .inl (fun _ => 0))), (s.heap.size + 2, .inl (aC 0, 13, .inl (fun _ => 0)))] H30019 := hP'
  have hD : va_D A [(h0, .inr (13, [.int 0, .ref (s.heap.size + 0), .ref (s.heap.size + 1), .int 0, .int 0, .int 0, .ref (s.heap.size + 2), .null, .null, .null, .int 0, .null, .int 0, .int 0, .null])), (s.heap.size + 0, .inl (aC 0, 325, .inl (fun _ => 0))), (s.heap.size + 1, .inl (aC 0, 325, .inl (fun _ => 0))), (s.heap.size + 2, .inl (aC 0, 13, .inl (fun _ => 0)))] := hD'
  have hS : va_S A s.heap H30019 L30020 := hS'
  clear hP' hD' hS'
  clear L30016 H30018
  refine lv_aload_n hx hb dX14_init_30 rfl (lv_at hl 0 rfl) ?_
  show W p l e _ s m _ below meth c _ _ _ _ QQ (F0 m 31 ls [.ref h0])
  refine lv_bipush (v := 13) hx hb dX14_init_31 (by decide) ?_
  refine znewa (atype := .int) (ty := .int) (cA := aC 0) (N' := 13) (a0 := (13, .inl (fun _ => 0))) hx hb (hall _ zw_4) rfl hK.1 hP hD hS hA 0 rfl (fun h => h) rfl (by decide) (by decide) (Nat.le_of_ble_eq_true rfl) (Nat.le_of_ble_eq_true rfl) (Nat.le_of_ble_eq_true rfl) dX14_init_33 (fun q30021 H30022 eq30021 hz hB hP' hD' hS' => ?_)
  obtain rfl : q30021 = s.heap.size + 3 := eq30021.trans hz0
  clear eq30021
  replace hz0 : H30022.size = s.heap.size + 4 := by omega
  clear hz
  clear hP hD hS hB
  have hP : va_P (dC, dI) vwCl [(h0, .inr (13, [.int 0, .ref (s.heap.size + 0), .ref (s.heap.size + 1), .int 0, .int 0, .int 0, .ref (s.heap.size + 2), .null, .null, .null, .int 0, .null, .int 0, .int 0, .null])), (s.heap.size + 0, .inl (aC 0, 325, .inl (fun _ => 0))), (s.heap.size + 1, .inl (aC 0, 325, .inl (fun _ => 0))), (s.heap.size + 2, .inl (aC 0, 13, .inl (fun _ => 0))), (s.heap.size + 3, .inl (aC 0, 13, .inl (fun _ => 0)))] H30022 := hP'
  have hD : va_D A [(h0, .inr (13, [.int 0, .ref (s.heap.size + 0), .ref (s.heap.size + 1), .int 0, .int 0, .int 0, .ref (s.heap.size + 2), .null, .null, .null, .int 0, .null, .int 0, .int 0, .null])), (s.heap.size + 0, .inl (aC 0, 325, .inl (fun _ => 0))), (s.heap.size + 1, .inl (aC 0, 325, .inl (fun _ => 0))), (s.heap.size + 2, .inl (aC 0, 13, .inl (fun _ => 0))), (s.heap.size + 3, .inl (aC 0, 13, .inl (fun _ => 0)))] := hD'
  have hS : va_S A s.heap H30022 L30020 := hS'
  clear hP' hD' hS'
  clear H30019
  refine zputF (D := (dC, dI)) (ci := 13) (v := .ref (s.heap.size + 3)) (ty := (.array .int)) (C := RX14) (T := TX14) (N := 15) hx hb hall zx_14 tyX14 tyX14_ok nmX14 hown hK.1 hP hD hS 0 rfl rfl 7 (by decide) (hall _ zw_311) (fun _ h9 => h9) rfl hin rfl (by decide +kernel) rfl rfl (Nat.le_of_ble_eq_true rfl) dX14_init_35 (fun H30023 L30024 hB hP' hD' hS' => ?_)
  replace hz0 : H30023.size = s.heap.size + 4 := hB.1.trans hz0
  clear hP hD hS hB
  have hP : va_P (dC, dI) vwCl [(h0, .inr (13, [.int 0, .ref (s.heap.size + 0), .ref (s.heap.size + 1), .int 0, .int 0, .int 0, .ref (s.heap.size + 2), .ref (s.heap.size + 3), .null, .null, .int 0, .null, .int 0, .int 0, .null])), (s.heap.size + 0, .inl (aC 0, 325, .inl (fun _ => 0))), (s.heap.size + 1, .inl (aC 0, 325, .inl (fun _ => 0))), (s.heap.size + 2, .inl (aC 0, 13, .inl (fun _ => 0))), (s.heap.size + 3, .inl (aC 0, 13, .inl (fun _ => 0)))] H30023 := hP'
  have hD : va_D A [(h0, .inr (13, [.int 0, .ref (s.heap.size + 0), .ref (s.heap.size + 1), .int 0, .int 0, .int 0, .ref (s.heap.size + 2), .ref (s.heap.size + 3), .null, .null, .int 0, .null, .int 0, .int 0, .null])), (s.heap.size + 0, .inl (aC 0, 325, .inl (fun _ => 0))), (s.heap.size + 1, .inl (aC 0, 325, .inl (fun _ => 0))), (s.heap.size + 2, .inl (aC 0, 13, .inl (fun _ => 0))), (s.heap.size + 3, .inl (aC 0, 13, .inl (fun _ => 0)))] := hD'
  have hS : va_S A s.heap H30023 L30024 := hS'
  clear hP' hD' hS'
  clear L30020 H30022
  refine lv_aload_n hx hb dX14_init_38 rfl (lv_at hl 0 rfl) ?_
  refine lv_bipush (v := 13) hx hb dX14_init_39 (by decide) ?_
  show W p l e _ s m _ below meth c _ _ _ _ QQ (F0 m 41 ls [.int 13, .ref h0])
  refine znewa (atype := .int) (ty := .int) (cA := aC 0) (N' := 13) (a0 := (13, .inl (fun _ => 0))) hx hb (hall _ zw_4) rfl hK.1 hP hD hS hA 0 rfl (fun h => h) rfl (by decide) (by decide) (Nat.le_of_ble_eq_true rfl) (Nat.le_of_ble_eq_true rfl) (Nat.le_of_ble_eq_true rfl) dX14_init_41 (fun q30025 H30026 eq30025 hz hB hP' hD' hS' => ?_)
  obtain rfl : q30025 = s.heap.size + 4 := eq30025.trans hz0
  clear eq30025
  replace hz0 : H30026.size = s.heap.size + 5 := by omega
  clear hz
  clear hP hD hS hB
  have hP : va_P (dC, dI) vwCl [(h0, .inr (13, [.int 0, .ref (s.heap.size + 0), .ref (s.heap.size + 1), .int 0, .int 0, .int 0, .ref (s.heap.size + 2), .ref (s.heap.size + 3), .null, .null, .int 0, .null, .int 0, .int 0, .null])), (s.heap.size + 0, .inl (aC 0, 325, .inl (fun _ => 0))), (s.heap.size + 1, .inl (aC 0, 325, .inl (fun _ => 0))), (s.heap.size + 2, .inl (aC 0, 13, .inl (fun _ => 0))), (s.heap.size + 3, .inl (aC 0, 13, .inl (fun _ => 0))), (s.heap.size + 4, .inl (aC 0, 13, .inl (fun _ => 0)))] H30026 := hP'
  have hD : va_D A [(h0, .inr (13, [.int 0, .ref (s.heap.size + 0), .ref (s.heap.size + 1), .int 0, .int 0, .int 0, .ref (s.heap.size + 2), .ref (s.heap.size + 3), .null, .null, .int 0, .null, .int 0, .int 0, .null])), (s.heap.size + 0, .inl (aC 0, 325, .inl (fun _ => 0))), (s.heap.size + 1, .inl (aC 0, 325, .inl (fun _ => 0))), (s.heap.size + 2, .inl (aC 0, 13, .inl (fun _ => 0))), (s.heap.size + 3, .inl (aC 0, 13, .inl (fun _ => 0))), (s.heap.size + 4, .inl (aC 0, 13, .inl (fun _ => 0)))] := hD'
  have hS : va_S A s.heap H30026 L30024 := hS'
  clear hP' hD' hS'
  clear H30023
  refine zputF (D := (dC, dI)) (ci := 13) (v := .ref (s.heap.size + 4)) (ty := (.array .int)) (C := RX14) (T := TX14) (N := 15) hx hb hall zx_14 tyX14 tyX14_ok nmX14 hown hK.1 hP hD hS 0 rfl rfl 8 (by decide) (hall _ zw_312) (fun _ h9 => h9) rfl hin rfl (by decide +kernel) rfl rfl (Nat.le_of_ble_eq_true rfl) dX14_init_43 (fun H30027 L30028 hB hP' hD' hS' => ?_)
  replace hz0 : H30027.size = s.heap.size + 5 := hB.1.trans hz0
  clear hP hD hS hB
  have hP : va_P (dC, dI) vwCl [(h0, .inr (13, [.int 0, .ref (s.heap.size + 0), .ref (s.heap.size + 1), .int 0, .int 0, .int 0, .ref (s.heap.size + 2), .ref (s.heap.size + 3), .ref (s.heap.size + 4), .null, .int 0, .null, .int 0, .int 0, .null])), (s.heap.size + 0, .inl (aC 0, 325, .inl (fun _ => 0))), (s.heap.size + 1, .inl (aC 0, 325, .inl (fun _ => 0))), (s.heap.size + 2, .inl (aC 0, 13, .inl (fun _ => 0))), (s.heap.size + 3, .inl (aC 0, 13, .inl (fun _ => 0))), (s.heap.size + 4, .inl (aC 0, 13, .inl (fun _ => 0)))] H30027 := hP'
  have hD : va_D A [(h0, .inr (13, [.int 0, .ref (s.heap.size + 0), .ref (s.heap.size + 1), .int 0, .int 0, .int 0, .ref (s.heap.size + 2), .ref (s.heap.size + 3), .ref (s.heap.size + 4), .null, .int 0, .null, .int 0, .int 0, .null])), (s.heap.size + 0, .inl (aC 0, 325, .inl (fun _ => 0))), (s.heap.size + 1, .inl (aC 0, 325, .inl (fun _ => 0))), (s.heap.size + 2, .inl (aC 0, 13, .inl (fun _ => 0))), (s.heap.size + 3, .inl (aC 0, 13, .inl (fun _ => 0))), (s.heap.size + 4, .inl (aC 0, 13, .inl (fun _ => 0)))] := hD'
  have hS : va_S A s.heap H30027 L30028 := hS'
  clear hP' hD' hS'
  clear L30024 H30026
  refine lv_aload_n hx hb dX14_init_46 rfl (lv_at hl 0 rfl) ?_
  refine lv_bipush (v := 13) hx hb dX14_init_47 (by decide) ?_
  refine znewa (atype := .int) (ty := .int) (cA := aC 0) (N' := 13) (a0 := (13, .inl (fun _ => 0))) hx hb (hall _ zw_4) rfl hK.1 hP hD hS hA 0 rfl (fun h => h) rfl (by decide) (by decide) (Nat.le_of_ble_eq_true rfl) (Nat.le_of_ble_eq_true rfl) (Nat.le_of_ble_eq_true rfl) dX14_init_49 (fun q30029 H30030 eq30029 hz hB hP' hD' hS' => ?_)
  obtain rfl : q30029 = s.heap.size + 5 := eq30029.trans hz0
  clear eq30029
  replace hz0 : H30030.size = s.heap.size + 6 := by omega
  clear hz
  clear hP hD hS hB
  have hP : va_P (dC, dI) vwCl [(h0, .inr (13, [.int 0, .ref (s.heap.size + 0), .ref (s.heap.size + 1), .int 0, .int 0, .int 0, .ref (s.heap.size + 2), .ref (s.heap.size + 3), .ref (s.heap.size + 4), .null, .int 0, .null, .int 0, .int 0, .null])), (s.heap.size + 0, .inl (aC 0, 325, .inl (fun _ => 0))), (s.heap.size + 1, .inl (aC 0, 325, .inl (fun _ => 0))), (s.heap.size + 2, .inl (aC 0, 13, .inl (fun _ => 0))), (s.heap.size + 3, .inl (aC 0, 13, .inl (fun _ => 0))), (s.heap.size + 4, .inl (aC 0, 13, .inl (fun _ => 0))), (s.heap.size + 5, .inl (aC 0, 13, .inl (fun _ => 0)))] H30030 := hP'
  have hD : va_D A [(h0, .inr (13, [.int 0, .ref (s.heap.size + 0), .ref (s.heap.size + 1), .int 0, .int 0, .int 0, .ref (s.heap.size + 2), .ref (s.heap.size + 3), .ref (s.heap.size + 4), .null, .int 0, .null, .int 0, .int 0, .null])), (s.heap.size + 0, .inl (aC 0, 325, .inl (fun _ => 0))), (s.heap.size + 1, .inl (aC 0, 325, .inl (fun _ => 0))), (s.heap.size + 2, .inl (aC 0, 13, .inl (fun _ => 0))), (s.heap.size + 3, .inl (aC 0, 13, .inl (fun _ => 0))), (s.heap.size + 4, .inl (aC 0, 13, .inl (fun _ => 0))), (s.heap.size + 5, .inl (aC 0, 13, .inl (fun _ => 0)))] := hD'
  have hS : va_S A s.heap H30030 L30028 := hS'
  clear hP' hD' hS'
  clear H30027
  show W p l e _ s m _ below meth c _ _ _ _ QQ (F0 m 51 ls [.ref (s.heap.size + 5), .ref h0])
  refine zputF (D := (dC, dI)) (ci := 13) (v := .ref (s.heap.size + 5)) (ty := (.array .int)) (C := RX14) (T := TX14) (N := 15) hx hb hall zx_14 tyX14 tyX14_ok nmX14 hown hK.1 hP hD hS 0 rfl rfl 9 (by decide) (hall _ zw_313) (fun _ h9 => h9) rfl hin rfl (by decide +kernel) rfl rfl (Nat.le_of_ble_eq_true rfl) dX14_init_51 (fun H30031 L30032 hB hP' hD' hS' => ?_)
  replace hz0 : H30031.size = s.heap.size + 6 := hB.1.trans hz0
  clear hP hD hS hB
  have hP : va_P (dC, dI) vwCl [(h0, .inr (13, [.int 0, .ref (s.heap.size + 0), .ref (s.heap.size + 1), .int 0, .int 0, .int 0, .ref (s.heap.size + 2), .ref (s.heap.size + 3), .ref (s.heap.size + 4), .ref (s.heap.size + 5), .int 0, .null, .int 0, .int 0, .null])), (s.heap.size + 0, .inl (aC 0, 325, .inl (fun _ => 0))), (s.heap.size + 1, .inl (aC 0, 325, .inl (fun _ => 0))), (s.heap.size + 2, .inl (aC 0, 13, .inl (fun _ => 0))), (s.heap.size + 3, .inl (aC 0, 13, .inl (fun _ => 0))), (s.heap.size + 4, .inl (aC 0, 13, .inl (fun _ => 0))), (s.heap.size + 5, .inl (aC 0, 13, .inl (fun _ => 0)))] H30031 := hP'
  have hD : va_D A [(h0, .inr (13, [.int 0, .ref (s.heap.size + 0), .ref (s.heap.size + 1), .int 0, .int 0, .int 0, .ref (s.heap.size + 2), .ref (s.heap.size + 3), .ref (s.heap.size + 4), .ref (s.heap.size + 5), .int 0, .null, .int 0, .int 0, .null])), (s.heap.size + 0, .inl (aC 0, 325, .inl (fun _ => 0))), (s.heap.size + 1, .inl (aC 0, 325, .inl (fun _ => 0))), (s.heap.size + 2, .inl (aC 0, 13, .inl (fun _ => 0))), (s.heap.size + 3, .inl (aC 0, 13, .inl (fun _ => 0))), (s.heap.size + 4, .inl (aC 0, 13, .inl (fun _ => 0))), (s.heap.size + 5, .inl (aC 0, 13, .inl (fun _ => 0)))] := hD'
  have hS : va_S A s.heap H30031 L30032 := hS'
  clear hP' hD' hS'
  clear L30028 H30030
  refine lv_aload_n hx hb dX14_init_54 rfl (lv_at hl 0 rfl) ?_
  refine lv_sipush (v := 175) hx hb dX14_init_55 (by decide) ?_
  refine znewa (atype := .int) (ty := .int) (cA := aC 0) (N' := 175) (a0 := (175, .inl (fun _ => 0))) hx hb (hall _ zw_4) rfl hK.1 hP hD hS hA 0 rfl (fun h => h) rfl (by decide) (by decide) (Nat.le_of_ble_eq_true rfl) (Nat.le_of_ble_eq_true rfl) (Nat.le_of_ble_eq_true rfl) dX14_init_58 (fun q30033 H30034 eq30033 hz hB hP' hD' hS' => ?_)
  obtain rfl : q30033 = s.heap.size + 6 := eq30033.trans hz0
  clear eq30033
  replace hz0 : H30034.size = s.heap.size + 7 := by omega
  clear hz
  clear hP hD hS hB
  have hP : va_P (dC, dI) vwCl [(h0, .inr (13, [.int 0, .ref (s.heap.size + 0), .ref (s.heap.size + 1), .int 0, .int 0, .int 0, .ref (s.heap.size + 2), .ref (s.heap.size + 3), .ref (s.heap.size + 4), .ref (s.heap.size + 5), .int 0, .null, .int 0, .int 0, .null])), (s.heap.size + 0, .inl (aC 0, 325, .inl (fun _ => 0))), (s.heap.size + 1, .inl (aC 0, 325, .inl (fun _ => 0))), (s.heap.size + 2, .inl (aC 0, 13, .inl (fun _ => 0))), (s.heap.size + 3, .inl (aC 0, 13, .inl (fun _ => 0))), (s.heap.size + 4, .inl (aC 0, 13, .inl (fun _ => 0))), (s.heap.size + 5, .inl (aC 0, 13, .inl (fun _ => 0))), (s.heap.size + 6, .inl (aC 0, 175, .inl (fun _ => 0)))] H30034 := hP'
  have hD : va_D A [(h0, .inr (13, [.int 0, .ref (s.heap.size + 0), .ref (s.heap.size + 1), .int 0, .int 0, .int 0, .ref (s.heap.size + 2), .ref (s.heap.size + 3), .ref (s.heap.size + 4), .ref (s.heap.size + 5), .int 0, .null, .int 0, .int 0, .null])), (s.heap.size + 0, .inl (aC 0, 325, .inl (fun _ => 0))), (s.heap.size + 1, .inl (aC 0, 325, .inl (fun _ => 0))), (s.heap.size + 2, .inl (aC 0, 13, .inl (fun _ => 0))), (s.heap.size + 3, .inl (aC 0, 13, .inl (fun _ => 0))), (s.heap.size + 4, .inl (aC 0, 13, .inl (fun _ => 0))), (s.heap.size + 5, .inl (aC 0, 13, .inl (fun _ => 0))), (s.heap.size + 6, .inl (aC 0, 175, .inl (fun _ => 0)))] := hD'
  have hS : va_S A s.heap H30034 L30032 := hS'
  clear hP' hD' hS'
  clear H30031
  refine zputF (D := (dC, dI)) (ci := 13) (v := .ref (s.heap.size + 6)) (ty := (.array .int)) (C := RX14) (T := TX14) (N := 15) hx hb hall zx_14 tyX14 tyX14_ok nmX14 hown hK.1 hP hD hS 0 rfl rfl 11 (by decide) (hall _ zw_314) (fun _ h9 => h9) rfl hin rfl (by decide +kernel) rfl rfl (Nat.le_of_ble_eq_true rfl) dX14_init_60 (fun H30035 L30036 hB hP' hD' hS' => ?_)
  replace hz0 : H30035.size = s.heap.size + 7 := hB.1.trans hz0
  clear hP hD hS hB
  have hP : va_P (dC, dI) vwCl [(h0, .inr (13, [.int 0, .ref (s.heap.size + 0), .ref (s.heap.size + 1), .int 0, .int 0, .int 0, .ref (s.heap.size + 2), .ref (s.heap.size + 3), .ref (s.heap.size + 4), .ref (s.heap.size + 5), .int 0, .ref (s.heap.size + 6), .int 0, .int 0, .null])), (s.heap.size + 0, .inl (aC 0, 325, .inl (fun _ => 0))), (s.heap.size + 1, .inl (aC 0, 325, .inl (fun _ => 0))), (s.heap.size + 2, .inl (aC 0, 13, .inl (fun _ => 0))), (s.heap.size + 3, .inl (aC 0, 13, .inl (fun _ => 0))), (s.heap.size + 4, .inl (aC 0, 13, .inl (fun _ => 0))), (s.heap.size + 5, .inl (aC 0, 13, .inl (fun _ => 0))), (s.heap.size + 6, .inl (aC 0, 175, .inl (fun _ => 0)))] H30035 := hP'
  have hD : va_D A [(h0, .inr (13, [.int 0, .ref (s.heap.size + 0), .ref (s.heap.size + 1), .int 0, .int 0, .int 0, .ref (s.heap.size + 2), .ref (s.heap.size + 3), .ref (s.heap.size + 4), .ref (s.heap.size + 5), .int 0, .ref (s.heap.size + 6), .int 0, .int 0, .null])), (s.heap.size + 0, .inl (aC 0, 325, .inl (fun _ => 0))), (s.heap.size + 1, .inl (aC 0, 325, .inl (fun _ => 0))), (s.heap.size + 2, .inl (aC 0, 13, .inl (fun _ => 0))), (s.heap.size + 3, .inl (aC 0, 13, .inl (fun _ => 0))), (s.heap.size + 4, .inl (aC 0, 13, .inl (fun _ => 0))), (s.heap.size + 5, .inl (aC 0, 13, .inl (fun _ => 0))), (s.heap.size + 6, .inl (aC 0, 175, .inl (fun _ => 0)))] := hD'
  have hS : va_S A s.heap H30035 L30036 := hS'
  clear hP' hD' hS'
  clear L30032 H30034
  show W p l e _ s m _ below meth c _ _ _ _ QQ (F0 m 63 ls [])
  refine lv_aload_n hx hb dX14_init_63 rfl (lv_at hl 0 rfl) ?_
  refine lv_sipush (v := 361) hx hb dX14_init_64 (by decide) ?_
  refine znewa (atype := .int) (ty := .int) (cA := aC 0) (N' := 361) (a0 := (361, .inl (fun _ => 0))) hx hb (hall _ zw_4) rfl hK.1 hP hD hS hA 0 rfl (fun h => h) rfl (by decide) (by decide) (Nat.le_of_ble_eq_true rfl) (Nat.le_of_ble_eq_true rfl) (Nat.le_of_ble_eq_true rfl) dX14_init_67 (fun q30037 H30038 eq30037 hz hB hP' hD' hS' => ?_)
  obtain rfl : q30037 = s.heap.size + 7 := eq30037.trans hz0
  clear eq30037
  replace hz0 : H30038.size = s.heap.size + 8 := by omega
  clear hz
  clear hP hD hS hB
  have hP : va_P (dC, dI) vwCl [(h0, .inr (13, [.int 0, .ref (s.heap.size + 0), .ref (s.heap.size + 1), .int 0, .int 0, .int 0, .ref (s.heap.size + 2), .ref (s.heap.size + 3), .ref (s.heap.size + 4), .ref (s.heap.size + 5), .int 0, .ref (s.heap.size + 6), .int 0, .int 0, .null])), (s.heap.size + 0, .inl (aC 0, 325, .inl (fun _ => 0))), (s.heap.size + 1, .inl (aC 0, 325, .inl (fun _ => 0))), (s.heap.size + 2, .inl (aC 0, 13, .inl (fun _ => 0))), (s.heap.size + 3, .inl (aC 0, 13, .inl (fun _ => 0))), (s.heap.size + 4, .inl (aC 0, 13, .inl (fun _ => 0))), (s.heap.size + 5, .inl (aC 0, 13, .inl (fun _ => 0))), (s.heap.size + 6, .inl (aC 0, 175, .inl (fun _ => 0))), (s.heap.size + 7, .inl (aC 0, 361, .inl (fun _ => 0)))] H30038 := hP'
  have hD : va_D A [(h0, .inr (13, [.int 0, .ref (s.heap.size + 0), .ref (s.heap.size + 1), .int 0, .int 0, .int 0, .ref (s.heap.size + 2), .ref (s.heap.size + 3), .ref (s.heap.size + 4), .ref (s.heap.size + 5), .int 0, .ref (s.heap.size + 6), .int 0, .int 0, .null])), (s.heap.size + 0, .inl (aC 0, 325, .inl (fun _ => 0))), (s.heap.size + 1, .inl (aC 0, 325, .inl (fun _ => 0))), (s.heap.size + 2, .inl (aC 0, 13, .inl (fun _ => 0))), (s.heap.size + 3, .inl (aC 0, 13, .inl (fun _ => 0))), (s.heap.size + 4, .inl (aC 0, 13, .inl (fun _ => 0))), (s.heap.size + 5, .inl (aC 0, 13, .inl (fun _ => 0))), (s.heap.size + 6, .inl (aC 0, 175, .inl (fun _ => 0))), (s.heap.size + 7, .inl (aC 0, 361, .inl (fun _ => 0)))] := hD'
  have hS : va_S A s.heap H30038 L30036 := hS'
  clear hP' hD' hS'
  clear H30035
  refine zputF (D := (dC, dI)) (ci := 13) (v := .ref (s.heap.size + 7)) (ty := (.array .int)) (C := RX14) (T := TX14) (N := 15) hx hb hall zx_14 tyX14 tyX14_ok nmX14 hown hK.1 hP hD hS 0 rfl rfl 14 (by decide) (hall _ zw_315) (fun _ h9 => h9) rfl hin rfl (by decide +kernel) rfl rfl (Nat.le_of_ble_eq_true rfl) dX14_init_69 (fun H30039 L30040 hB hP' hD' hS' => ?_)
  replace hz0 : H30039.size = s.heap.size + 8 := hB.1.trans hz0
  clear hP hD hS hB
  have hP : va_P (dC, dI) vwCl [(h0, .inr (13, [.int 0, .ref (s.heap.size + 0), .ref (s.heap.size + 1), .int 0, .int 0, .int 0, .ref (s.heap.size + 2), .ref (s.heap.size + 3), .ref (s.heap.size + 4), .ref (s.heap.size + 5), .int 0, .ref (s.heap.size + 6), .int 0, .int 0, .ref (s.heap.size + 7)])), (s.heap.size + 0, .inl (aC 0, 325, .inl (fun _ => 0))), (s.heap.size + 1, .inl (aC 0, 325, .inl (fun _ => 0))), (s.heap.size + 2, .inl (aC 0, 13, .inl (fun _ => 0))), (s.heap.size + 3, .inl (aC 0, 13, .inl (fun _ => 0))), (s.heap.size + 4, .inl (aC 0, 13, .inl (fun _ => 0))), (s.heap.size + 5, .inl (aC 0, 13, .inl (fun _ => 0))), (s.heap.size + 6, .inl (aC 0, 175, .inl (fun _ => 0))), (s.heap.size + 7, .inl (aC 0, 361, .inl (fun _ => 0)))] H30039 := hP'
  have hD : va_D A [(h0, .inr (13, [.int 0, .ref (s.heap.size + 0), .ref (s.heap.size + 1), .int 0, .int 0, .int 0, .ref (s.heap.size + 2), .ref (s.heap.size + 3), .ref (s.heap.size + 4), .ref (s.heap.size + 5), .int 0, .ref (s.heap.size + 6), .int 0, .int 0, .ref (s.heap.size + 7)])), (s.heap.size + 0, .inl (aC 0, 325, .inl (fun _ => 0))), (s.heap.size + 1, .inl (aC 0, 325, .inl (fun _ => 0))), (s.heap.size + 2, .inl (aC 0, 13, .inl (fun _ => 0))), (s.heap.size + 3, .inl (aC 0, 13, .inl (fun _ => 0))), (s.heap.size + 4, .inl (aC 0, 13, .inl (fun _ => 0))), (s.heap.size + 5, .inl (aC 0, 13, .inl (fun _ => 0))), (s.heap.size + 6, .inl (aC 0, 175, .inl (fun _ => 0))), (s.heap.size + 7, .inl (aC 0, 361, .inl (fun _ => 0)))] := hD'
  have hS : va_S A s.heap H30039 L30040 := hS'
  clear hP' hD' hS'
  clear L30036 H30038
  refine W.widen (k := 8) (n := 1238) (Nat.le_of_ble_eq_true rfl) (Nat.le_of_ble_eq_true rfl) ?_
  rw [← hQ, hAe]
  have hP := zsubP (wc := [(h0, .inr (13, [.int 0, .ref (s.heap.size + 0), .ref (s.heap.size + 1), .int 0, .int 0, .int 0, .ref (s.heap.size + 2), .ref (s.heap.size + 3), .ref (s.heap.size + 4), .ref (s.heap.size + 5), .int 0, .ref (s.heap.size + 6), .int 0, .int 0, .ref (s.heap.size + 7)])), (s.heap.size + 0, .inl (aC 0, 325, .inl (fun _ => 0))), (s.heap.size + 1, .inl (aC 0, 325, .inl (fun _ => 0))), (s.heap.size + 2, .inl (aC 0, 13, .inl (fun _ => 0))), (s.heap.size + 3, .inl (aC 0, 13, .inl (fun _ => 0))), (s.heap.size + 4, .inl (aC 0, 13, .inl (fun _ => 0))), (s.heap.size + 5, .inl (aC 0, 13, .inl (fun _ => 0))), (s.heap.size + 6, .inl (aC 0, 175, .inl (fun _ => 0))), (s.heap.size + 7, .inl (aC 0, 361, .inl (fun _ => 0)))]) hP [0, 1, 2, 3, 4, 5, 6, 7, 8] rfl
  have hD := hD.sub (ws' := [(h0, .inr (13, [.int 0, .ref (s.heap.size + 0), .ref (s.heap.size + 1), .int 0, .int 0, .int 0, .ref (s.heap.size + 2), .ref (s.heap.size + 3), .ref (s.heap.size + 4), .ref (s.heap.size + 5), .int 0, .ref (s.heap.size + 6), .int 0, .int 0, .ref (s.heap.size + 7)])), (s.heap.size + 0, .inl (aC 0, 325, .inl (fun _ => 0))), (s.heap.size + 1, .inl (aC 0, 325, .inl (fun _ => 0))), (s.heap.size + 2, .inl (aC 0, 13, .inl (fun _ => 0))), (s.heap.size + 3, .inl (aC 0, 13, .inl (fun _ => 0))), (s.heap.size + 4, .inl (aC 0, 13, .inl (fun _ => 0))), (s.heap.size + 5, .inl (aC 0, 13, .inl (fun _ => 0))), (s.heap.size + 6, .inl (aC 0, 175, .inl (fun _ => 0))), (s.heap.size + 7, .inl (aC 0, 361, .inl (fun _ => 0)))]) [0, 1, 2, 3, 4, 5, 6, 7, 8] (by decide) rfl
  exact W.vret hx hb hr (fun zt ht hW => ⟨⟨(), rfl, trivial, by rw [ht]; exact hP, hD, by rw [ht]; exact hz0⟩, hS.F ht⟩) hS.2.2 dX14_init_72

set_option maxHeartbeats 4000000 in
set_option maxRecDepth 100000 in
theorem c_X12_init (l : Launch) (dC : Nat → ClassId) (dI : Nat → Nat → Nat) (aC : Nat → ClassId) (h0 : Nat) (sz : Nat) : Met l yX12_init w_X12_init ({ frames := 2, cells := 129, slots := 12992, locals := 45 }) (zPre (dC, dI) aC [(h0, .inr (11, [.null, .int 0]))] sz [.ref h0]) (va_Qv (fun (u : Unit) => True) (fun u zt => zB (dC, dI) [(h0, .inr (11, [.ref (sz + 0), .int 0])), (sz + 0, .inl (aC 4, 64, .inr (.inr (.inr (.inr (zrefs (fun zj => sz + (1 + 2 * zj)) 64)))))), (sz + 1, .inr (14, [.ref (sz + 2), .int 0])), (sz + 2, .inl (aC 0, 200, .inl (fun _ => 0)))] (va_A [(h0, .inr (11, [.null, .int 0]))] sz) (sz + 129) zt) (va_A [(h0, .inr (11, [.null, .int 0]))] sz)) 129 12992 (va_A [(h0, .inr (11, [.null, .int 0]))] sz) := by
  refine Met.ofW (cc := cX12_init) (maxL := 2) (ret := none) (by decide) rfl ?_
  intro p e s m args below meth c s₁ B hml hv
  generalize hQ : MQ below _ _ s _ _ _ = QQ
  obtain ⟨rfl, hsz, hP, hK, hD0⟩ := hv
  have hx := B.exec
  have hb := B.bytes
  have hr := B.returns
  have hts := atoms_spec (ws := w_X12_init) B.pre
  have hall := fun (w : Cond) (h : w ∈ zAll) => hts w (List.mem_cons_of_mem _ h)
  have hown : s.vm.findClass RX12 = some m.cls := findClass_of_methodNamed B.named
  have hlocks := B.notSynchronized
  have hin : meth.name = "<init>" := (name_of_methodNamed B.named B.method).1
  subst hsz
  have hD := hD0.self (sz := s.heap.size)
  generalize hAe : va_A [(h0, .inr (11, [.null, .int 0]))] s.heap.size = A at hD ⊢
  have hA : ∀ q : Nat, s.heap.size ≤ q → A q := fun q h => by rw [← hAe]; exact Or.inr h
  have hS : va_S A s.heap s.heap [] := va_S.rf
  have hz0 : s.heap.size = s.heap.size + 0 := rfl
  have hl := lv_entry ([.ref h0]) (n := 2) (Nat.le_of_ble_eq_true rfl)
  rw [lg_entry_eq]
  generalize (lg_sl ([.ref h0]) ++ List.replicate (2 - (lg_sl ([.ref h0])).length) Slot.unset).toArray = ls at hl ⊢
  have hl : lv_has ls 2 [(0, .ref h0)] := hl
  refine lv_aload_n hx hb dX12_init_0 rfl (lv_at hl 0 rfl) ?_
  refine W.objInit hx hb hown (hall _ zw_296) (hall _ zw_2) (hall _ zw_3) rfl (hl.1.trans hml.symm) rfl dX12_init_1 (Nat.le_of_ble_eq_true rfl) (Nat.le_of_ble_eq_true rfl) ?_
  refine lv_aload_n hx hb dX12_init_4 rfl (lv_at hl 0 rfl) ?_
  refine lv_bipush (v := 64) hx hb dX12_init_5 (by decide) ?_
  refine znewq (C := RX15) (cA := aC 4) (N' := 64) hx hb hown (hall _ zw_297) hK.2.2.1 hK.1 hP hD hS hA 4 rfl (by decide) (by decide) (Nat.le_of_ble_eq_true rfl) (Nat.le_of_ble_eq_true rfl) (Nat.le_of_ble_eq_true rfl) dX12_init_7 (fun q30041 H30042 eq30041 hz hB hP' hD' hS' => ?_)
  obtain rfl : q30041 = s.heap.size + 0 := eq30041.trans hz0
  clear eq30041
  replace hz0 : H30042.size = s.heap.size + 1 := by omega
  clear hz
  clear hP hD hS hB
  have hP : va_P (dC, dI) vwCl [(h0, .inr (11, [.null, .int 0])), (s.heap.size + 0, .inl (aC 4, 64, .inr (.inr (.inr (.inr (fun _ => none))))))] H30042 := hP'
  have hD : va_D A [(h0, .inr (11, [.null, .int 0])), (s.heap.size + 0, .inl (aC 4, 64, .inr (.inr (.inr (.inr (fun _ => none))))))] := hD'
  have hS : va_S A s.heap H30042 [] := hS'
  clear hP' hD' hS'
  show W p l e _ s m _ below meth c _ _ _ _ QQ (F0 m 10 ls [.ref (s.heap.size + 0), .ref h0])
  refine zputF (D := (dC, dI)) (ci := 11) (v := .ref (s.heap.size + 0)) (ty := (.array (.object "SumHouseModel$U"))) (C := RX12) (T := TX12) (N := 2) hx hb hall zx_12 tyX12 tyX12_ok nmX12 hown hK.1 hP hD hS 0 rfl rfl 0 (by decide) (hall _ zw_298) (fun _ h9 => h9) rfl hin rfl (by decide +kernel) rfl rfl (Nat.le_of_ble_eq_true rfl) dX12_init_10 (fun H30043 L30044 hB hP' hD' hS' => ?_)
  replace hz0 : H30043.size = s.heap.size + 1 := hB.1.trans hz0
  clear hP hD hS hB
  have hP : va_P (dC, dI) vwCl [(h0, .inr (11, [.ref (s.heap.size + 0), .int 0])), (s.heap.size + 0, .inl (aC 4, 64, .inr (.inr (.inr (.inr (fun _ => none))))))] H30043 := hP'
  have hD : va_D A [(h0, .inr (11, [.ref (s.heap.size + 0), .int 0])), (s.heap.size + 0, .inl (aC 4, 64, .inr (.inr (.inr (.inr (fun _ => none))))))] := hD'
  have hS : va_S A s.heap H30043 L30044 := hS'
  clear hP' hD' hS'
  clear H30042
  refine lv_iconst (v := 0) hx hb dX12_init_13 (by decide) ?_
  refine lv_istore_n (lv' := [(1, .int 0), (0, .ref h0)]) hx hb dX12_init_14 rfl hl (by decide) rfl (fun ls30045 hl' => ?_)
  clear hl
  have hl : lv_has ls30045 2 [(1, .int 0), (0, .ref h0)] := hl'
  clear hl'
  refine lv_iload_n hx hb dX12_init_15 rfl (lv_at hl 0 rfl) ?_
  refine lv_bipush (v := 64) hx hb dX12_init_16 (by decide) ?_
  refine lv_icmp_ge (tgt := 43) hx hb dX12_init_18 (by decide) (fun c_18_b30046 => absurd c_18_b30046 (by decide)) (fun _ => ?_)
  show W p l e _ s m _ below meth c _ _ _ _ QQ (F0 m 21 ls30045 [])
  refine lv_aload_n hx hb dX12_init_21 rfl (lv_at hl 1 rfl) ?_
  refine va_get (D := (dC, dI)) (ci := 11) (v := .ref (s.heap.size + 0)) (C := RX12) (T := TX12) (N := 2) hx hb hall zx_12 hown hK.1 hP 0 rfl rfl 0 (by decide) (hall _ zw_298) (fun _ h9 => h9) rfl dX12_init_22 ?_
  refine lv_iload_n hx hb dX12_init_25 rfl (lv_at hl 0 rfl) ?_
  refine znew (D := (dC, dI)) (ci := 14) (C := RX15) (T := TX15) (N := 2) (fs := [.null, .int 0]) hx hb hall zx_15 tyX15 tyX15_ok hown (hall _ zw_297) (hall _ zw_809) (hall _ zw_810) hK.1 hP hD hS hA rfl (by decide +kernel) (Nat.le_of_ble_eq_true rfl) (Nat.le_of_ble_eq_true rfl) dX12_init_26 (fun q30047 H30048 eq30047 hz hB hP' hD' hS' => ?_)
  obtain rfl : q30047 = s.heap.size + 1 := eq30047.trans hz0
  clear eq30047
  replace hz0 : H30048.size = s.heap.size + 2 := by omega
  clear hz
  clear hP hD hS hB
  have hP : va_P (dC, dI) vwCl [(h0, .inr (11, [.ref (s.heap.size + 0), .int 0])), (s.heap.size + 0, .inl (aC 4, 64, .inr (.inr (.inr (.inr (fun _ => none)))))), (s.heap.size + 1, .inr (14, [.null, .int 0]))] H30048 := hP'
  have hD : va_D A [(h0, .inr (11, [.ref (s.heap.size + 0), .int 0])), (s.heap.size + 0, .inl (aC 4, 64, .inr (.inr (.inr (.inr (fun _ => none)))))), (s.heap.size + 1, .inr (14, [.null, .int 0]))] := hD'
  have hS : va_S A s.heap H30048 L30044 := hS'
  clear hP' hD' hS'
  clear H30043
  refine lv_dup hx hb dX12_init_29 rfl ?_
  show W p l e _ s m _ below meth c _ _ _ _ QQ (F0 m 30 ls30045 [.ref (s.heap.size + 1), .ref (s.heap.size + 1), .int 0, .ref (s.heap.size + 0)])
  refine lv_sipush (v := 200) hx hb dX12_init_30 (by decide) ?_
  refine zrw_v (k := 1) (wr := [(h0, .inr (11, [.ref (s.heap.size + 0), .int 0])), (s.heap.size + 0, .inl (aC 4, 64, .inr (.inr (.inr (.inr (fun _ => none))))))]) (wc := [(s.heap.size + 1, .inr (14, [.null, .int 0]))]) (w1 := fun _ => [((s.heap.size + 1), .inr (14, [.ref (H30048.size + 0), .int 0])), (H30048.size + 0, .inl (aC 0, 200, .inl (fun _ => 0)))]) hP hD hS hA [2] [0, 1] rfl rfl (by decide +kernel) (by decide +kernel) (va_runI (As := [.int 200]) (rest := [.ref (s.heap.size + 1), .int 0, .ref (s.heap.size + 0)]) ⟨hx, hb, hml, hown, hall⟩ (c_X15_init_200 l dC dI aC (s.heap.size + 1) H30048.size) (cwI 1 hall g_X15_init rfl rfl rfl (hall _ zw_810) (hall _ zw_299) (hall _ zw_301) rfl (by decide +kernel) ⟨Nat.le_of_ble_eq_true rfl, Nat.le_of_ble_eq_true rfl⟩) (zPre_S (As := .ref (s.heap.size + 1) :: [.int 200]) hK hP hD [2] rfl (by decide +kernel)) rfl rfl hl.1 rfl (lv_room (Nat.le_of_ble_eq_true rfl)) dX12_init_33 ⟨Nat.le_of_ble_eq_true rfl, Nat.le_of_ble_eq_true rfl⟩) (fun u H30050 L30051 hw hz hk hP' hD' hS' => ?_)
  try rw [hz0] at hP'
  try rw [hz0] at hD'
  rw [hz0] at hz
  replace hz0 : H30050.size = s.heap.size + 3 := by omega
  clear hz
  clear hP hD hS hk
  have hP : va_P (dC, dI) vwCl [(h0, .inr (11, [.ref (s.heap.size + 0), .int 0])), (s.heap.size + 0, .inl (aC 4, 64, .inr (.inr (.inr (.inr (fun _ => none)))))), ((s.heap.size + 1), .inr (14, [.ref (s.heap.size + 2), .int 0])), (s.heap.size + 2, .inl (aC 0, 200, .inl (fun _ => 0)))] H30050 := hP'
  have hD : va_D A [(h0, .inr (11, [.ref (s.heap.size + 0), .int 0])), (s.heap.size + 0, .inl (aC 4, 64, .inr (.inr (.inr (.inr (fun _ => none)))))), ((s.heap.size + 1), .inr (14, [.ref (s.heap.size + 2), .int 0])), (s.heap.size + 2, .inl (aC 0, 200, .inl (fun _ => 0)))] := hD'
  have hS : va_S A s.heap H30050 L30051 := hS'
  clear hP' hD' hS'
  clear L30044 H30048
  refine zastq hx hb hK.1 hP hD hS 1 4 14 (r := (RX15, TX15, 2)) rfl rfl (hP 2 _ rfl) rfl (zvp (by decide)) dX12_init_36 (fun H30052 L30053 hB hP' hD' hS' => ?_)
  replace hz0 : H30052.size = s.heap.size + 3 := hB.1.trans hz0
  clear hP hD hS hB
  have hP : va_P (dC, dI) vwCl [(h0, .inr (11, [.ref (s.heap.size + 0), .int 0])), (s.heap.size + 0, .inl (aC 4, 64, .inr (.inr (.inr (.inr (va_up (fun _ => none) (0 : Int32).toNatClampNeg (some (s.heap.size + 1)))))))), ((s.heap.size + 1), .inr (14, [.ref (s.heap.size + 2), .int 0])), (s.heap.size + 2, .inl (aC 0, 200, .inl (fun _ => 0)))] H30052 := hP'
  have hD : va_D A [(h0, .inr (11, [.ref (s.heap.size + 0), .int 0])), (s.heap.size + 0, .inl (aC 4, 64, .inr (.inr (.inr (.inr (va_up (fun _ => none) (0 : Int32).toNatClampNeg (some (s.heap.size + 1)))))))), ((s.heap.size + 1), .inr (14, [.ref (s.heap.size + 2), .int 0])), (s.heap.size + 2, .inl (aC 0, 200, .inl (fun _ => 0)))] := hD'
  have hS : va_S A s.heap H30052 L30053 := hS'
  clear hP' hD' hS'
  clear L30051 H30050
  obtain ⟨hP', hD'⟩ := zcut (w := [(h0, .inr (11, [.ref (s.heap.size + 0), .int 0])), (s.heap.size + 0, .inl (aC 4, 64, .inr (.inr (.inr (.inr (zrefs (fun i => s.heap.size + (1 + 2 * i)) 1)))))), (s.heap.size + 1, .inr (14, [.ref (s.heap.size + 2), .int 0])), (s.heap.size + 2, .inl (aC 0, 200, .inl (fun _ => 0)))]) hP hD [0, 1, 2, 3] (by rw [← zrefs_1]; rfl) (by decide +kernel)
  clear hP hD
  have hP := hP'
  have hD := hD'
  clear hP' hD'
  refine lv_iinc (v := 1) (lv' := [(1, .int 1), (0, .ref h0)]) hx hb dX12_init_37 hl (k := 0) rfl (by decide) (by decide) rfl (fun ls30054 hl' => ?_)
  clear hl
  have hl : lv_has ls30054 2 [(1, .int 1), (0, .ref h0)] := hl'
  clear hl'
  refine lv_goto (tgt := 15) hx hb dX12_init_40 (by decide) ?_
  have key : ∀ (n i : Nat), i ≤ 64 → 64 < i + n → ∀ (H : Heap) (locs : List Loc) (ls : Array Slot), H.size = s.heap.size + (1 + 2 * i) → va_P (dC, dI) vwCl [(h0, .inr (11, [.ref (s.heap.size + 0), .int 0])), (s.heap.size + 0, .inl (aC 4, 64, .inr (.inr (.inr (.inr (zrefs (fun i => s.heap.size + (1 + 2 * i)) i)))))), (s.heap.size + 1, .inr (14, [.ref (s.heap.size + 2), .int 0])), (s.heap.size + 2, .inl (aC 0, 200, .inl (fun _ => 0)))] H → va_D A [(h0, .inr (11, [.ref (s.heap.size + 0), .int 0])), (s.heap.size + 0, .inl (aC 4, 64, .inr (.inr (.inr (.inr (zrefs (fun i => s.heap.size + (1 + 2 * i)) i)))))), (s.heap.size + 1, .inr (14, [.ref (s.heap.size + 2), .int 0])), (s.heap.size + 2, .inl (aC 0, 200, .inl (fun _ => 0)))] → va_S A s.heap H locs → lv_has ls 2 [(1, .int (nI i)), (0, .ref h0)] → W p l e (headSpec w_X12_init ({ frames := 2, cells := 129, slots := 12992, locals := 45 })).room s m ([.ref h0] : List Value).toArray below meth c H locs (1 + 2 * i) (64 + 202 * i) QQ (F0 m 15 ls []) := by
    intro n
    induction n with
    | zero => exact fun i h1 h2 => absurd h2 (by omega)
    | succ n ih =>
      intro i hi hfu H locs ls hz0 hP hD hS hl
      rcases Nat.lt_or_ge i 64 with hlt | hge
      · have hcl : (nI i).toNatClampNeg = i := nI_clamp (by omega)
        refine lv_iload_n hx hb dX12_init_15 rfl (lv_at hl 0 rfl) ?_
        show W p l e _ s m _ below meth c _ _ _ _ QQ (F0 m 16 ls [.int (nI i)])
        refine lv_bipush (v := 64) hx hb dX12_init_16 (by decide) ?_
        refine lv_icmp_ge (tgt := 43) hx hb dX12_init_18 (by decide) (fun c_18_b30055 => absurd c_18_b30055 (nI_ge hlt (by decide))) (fun _ => ?_)
        refine lv_aload_n hx hb dX12_init_21 rfl (lv_at hl 1 rfl) ?_
        refine va_get (D := (dC, dI)) (ci := 11) (v := .ref (s.heap.size + 0)) (C := RX12) (T := TX12) (N := 2) hx hb hall zx_12 hown hK.1 hP 0 rfl rfl 0 (by decide) (hall _ zw_298) (fun _ h9 => h9) rfl dX12_init_22 ?_
        refine lv_iload_n hx hb dX12_init_25 rfl (lv_at hl 0 rfl) ?_
        show W p l e _ s m _ below meth c _ _ _ _ QQ (F0 m 26 ls [.int (nI i), .ref (s.heap.size + 0)])
        refine znew (D := (dC, dI)) (ci := 14) (C := RX15) (T := TX15) (N := 2) (fs := [.null, .int 0]) hx hb hall zx_15 tyX15 tyX15_ok hown (hall _ zw_297) (hall _ zw_809) (hall _ zw_810) hK.1 hP hD hS hA rfl (by decide +kernel) (by show 1 + 2 * i + 1 ≤ 129; omega) (by show 64 + 202 * i + 2 ≤ 12992; omega) dX12_init_26 (fun q30056 H30057 eq30056 hz hB hP' hD' hS' => ?_)
        obtain rfl : q30056 = s.heap.size + (1 + 2 * i) := eq30056.trans hz0
        clear eq30056
        replace hz0 : H30057.size = s.heap.size + ((1 + 2 * i) + 1) := by omega
        clear hz
        clear hP hD hS hB
        have hP : va_P (dC, dI) vwCl [(h0, .inr (11, [.ref (s.heap.size + 0), .int 0])), (s.heap.size + 0, .inl (aC 4, 64, .inr (.inr (.inr (.inr (zrefs (fun i => s.heap.size + (1 + 2 * i)) i)))))), (s.heap.size + 1, .inr (14, [.ref (s.heap.size + 2), .int 0])), (s.heap.size + 2, .inl (aC 0, 200, .inl (fun _ => 0))), (s.heap.size + (1 + 2 * i), .inr (14, [.null, .int 0]))] H30057 := hP'
        have hD : va_D A [(h0, .inr (11, [.ref (s.heap.size + 0), .int 0])), (s.heap.size + 0, .inl (aC 4, 64, .inr (.inr (.inr (.inr (zrefs (fun i => s.heap.size + (1 + 2 * i)) i)))))), (s.heap.size + 1, .inr (14, [.ref (s.heap.size + 2), .int 0])), (s.heap.size + 2, .inl (aC 0, 200, .inl (fun _ => 0))), (s.heap.size + (1 + 2 * i), .inr (14, [.null, .int 0]))] := hD'
        have hS : va_S A s.heap H30057 locs := hS'
        clear hP' hD' hS'
        refine lv_dup hx hb dX12_init_29 rfl ?_
        refine lv_sipush (v := 200) hx hb dX12_init_30 (by decide) ?_
        refine zrw_v (k := 1) (wr := [(h0, .inr (11, [.ref (s.heap.size + 0), .int 0])), (s.heap.size + 0, .inl (aC 4, 64, .inr (.inr (.inr (.inr (zrefs (fun i => s.heap.size + (1 + 2 * i)) i)))))), (s.heap.size + 1, .inr (14, [.ref (s.heap.size + 2), .int 0])), (s.heap.size + 2, .inl (aC 0, 200, .inl (fun _ => 0)))]) (wc := [(s.heap.size + (1 + 2 * i), .inr (14, [.null, .int 0]))]) (w1 := fun _ => [((s.heap.size + (1 + 2 * i)), .inr (14, [.ref (H30057.size + 0), .int 0])), (H30057.size + 0, .inl (aC 0, 200, .inl (fun _ => 0)))]) hP hD hS hA [4] [0, 1, 2, 3] rfl rfl (by decide +kernel) (by decide +kernel) (va_runI (As := [.int 200]) (rest := [.ref (s.heap.size + (1 + 2 * i)), .int (nI i), .ref (s.heap.size + 0)]) ⟨hx, hb, hml, hown, hall⟩ (c_X15_init_200 l dC dI aC (s.heap.size + (1 + 2 * i)) H30057.size) (cwI 1 hall g_X15_init rfl rfl rfl (hall _ zw_810) (hall _ zw_299) (hall _ zw_301) rfl (by decide +kernel) ⟨Nat.le_of_ble_eq_true rfl, Nat.le_of_ble_eq_true rfl⟩) (zPre_S (As := .ref (s.heap.size + (1 + 2 * i)) :: [.int 200]) hK hP hD [4] rfl (by decide +kernel)) rfl rfl hl.1 rfl (lv_room (Nat.le_of_ble_eq_true rfl)) dX12_init_33 ⟨by show 1 + 2 * i + 1 + 1 ≤ 129; omega, by show 64 + 202 * i + 2 + 200 ≤ 12992; omega⟩) (fun u H30059 L30060 hw hz hk hP' hD' hS' => ?_)
        try rw [hz0] at hP'
        try rw [hz0] at hD'
        rw [hz0] at hz
        replace hz0 : H30059.size = s.heap.size + (((1 + 2 * i) + 1) + 1) := by omega
        clear hz
        clear hP hD hS hk
        have hP : va_P (dC, dI) vwCl [(h0, .inr (11, [.ref (s.heap.size + 0), .int 0])), (s.heap.size + 0, .inl (aC 4, 64, .inr (.inr (.inr (.inr (zrefs (fun i => s.heap.size + (1 + 2 * i)) i)))))), (s.heap.size + 1, .inr (14, [.ref (s.heap.size + 2), .int 0])), (s.heap.size + 2, .inl (aC 0, 200, .inl (fun _ => 0))), ((s.heap.size + (1 + 2 * i)), .inr (14, [.ref ((s.heap.size + ((1 + 2 * i) + 1)) + 0), .int 0])), ((s.heap.size + ((1 + 2 * i) + 1)) + 0, .inl (aC 0, 200, .inl (fun _ => 0)))] H30059 := hP'
        have hD : va_D A [(h0, .inr (11, [.ref (s.heap.size + 0), .int 0])), (s.heap.size + 0, .inl (aC 4, 64, .inr (.inr (.inr (.inr (zrefs (fun i => s.heap.size + (1 + 2 * i)) i)))))), (s.heap.size + 1, .inr (14, [.ref (s.heap.size + 2), .int 0])), (s.heap.size + 2, .inl (aC 0, 200, .inl (fun _ => 0))), ((s.heap.size + (1 + 2 * i)), .inr (14, [.ref ((s.heap.size + ((1 + 2 * i) + 1)) + 0), .int 0])), ((s.heap.size + ((1 + 2 * i) + 1)) + 0, .inl (aC 0, 200, .inl (fun _ => 0)))] := hD'
        have hS : va_S A s.heap H30059 L30060 := hS'
        clear hP' hD' hS'
        clear locs H30057
        refine zastq hx hb hK.1 hP hD hS 1 4 14 (r := (RX15, TX15, 2)) rfl rfl (hP 4 _ rfl) rfl (vp_in_nI hlt (by decide)) dX12_init_36 (fun H30061 L30062 hB hP' hD' hS' => ?_)
        replace hz0 : H30061.size = s.heap.size + (((1 + 2 * i) + 1) + 1) := hB.1.trans hz0
        rw [hcl] at hP' hD'
        clear hP hD hS hB
        have hP : va_P (dC, dI) vwCl [(h0, .inr (11, [.ref (s.heap.size + 0), .int 0])), (s.heap.size + 0, .inl (aC 4, 64, .inr (.inr (.inr (.inr (va_up (zrefs (fun i => s.heap.size + (1 + 2 * i)) i) i (some (s.heap.size + (1 + 2 * i))))))))), (s.heap.size + 1, .inr (14, [.ref (s.heap.size + 2), .int 0])), (s.heap.size + 2, .inl (aC 0, 200, .inl (fun _ => 0))), ((s.heap.size + (1 + 2 * i)), .inr (14, [.ref ((s.heap.size + ((1 + 2 * i) + 1)) + 0), .int 0])), ((s.heap.size + ((1 + 2 * i) + 1)) + 0, .inl (aC 0, 200, .inl (fun _ => 0)))] H30061 := hP'
        have hD : va_D A [(h0, .inr (11, [.ref (s.heap.size + 0), .int 0])), (s.heap.size + 0, .inl (aC 4, 64, .inr (.inr (.inr (.inr (va_up (zrefs (fun i => s.heap.size + (1 + 2 * i)) i) i (some (s.heap.size + (1 + 2 * i))))))))), (s.heap.size + 1, .inr (14, [.ref (s.heap.size + 2), .int 0])), (s.heap.size + 2, .inl (aC 0, 200, .inl (fun _ => 0))), ((s.heap.size + (1 + 2 * i)), .inr (14, [.ref ((s.heap.size + ((1 + 2 * i) + 1)) + 0), .int 0])), ((s.heap.size + ((1 + 2 * i) + 1)) + 0, .inl (aC 0, 200, .inl (fun _ => 0)))] := hD'
        have hS : va_S A s.heap H30061 L30062 := hS'
        clear hP' hD' hS'
        clear L30060 H30059
        obtain ⟨hP', hD'⟩ := zcut (w := [(h0, .inr (11, [.ref (s.heap.size + 0), .int 0])), (s.heap.size + 0, .inl (aC 4, 64, .inr (.inr (.inr (.inr (zrefs (fun i => s.heap.size + (1 + 2 * i)) (i + 1))))))), (s.heap.size + 1, .inr (14, [.ref (s.heap.size + 2), .int 0])), (s.heap.size + 2, .inl (aC 0, 200, .inl (fun _ => 0)))]) hP hD [0, 1, 2, 3] (by rw [← zrefs_1]; rfl) (by decide +kernel)
        clear hP hD
        have hP := hP'
        have hD := hD'
        clear hP' hD'
        obtain ⟨y30063, ey30063⟩ : ∃ z : Int32, z = (nI i) + 1 := ⟨_, rfl⟩
        refine lv_iinc (v := y30063) (lv' := [(1, .int y30063), (0, .ref h0)]) hx hb dX12_init_37 hl (k := 0) rfl (by rw [ey30063]; rfl) (by decide) rfl (fun ls30064 hl' => ?_)
        clear hl
        have hl : lv_has ls30064 2 [(1, .int y30063), (0, .ref h0)] := hl'
        clear hl'
        refine lv_goto (tgt := 15) hx hb dX12_init_40 (by decide) ?_
        have ey : y30063 = nI (i + 1) := by rw [ey30063]; exact nI_1 i
        rw [ey] at hl
        refine W.widen (k := 1 + 2 * (i + 1)) (n := 64 + 202 * (i + 1)) (by omega) (by omega) ?_
        exact ih (i + 1) hlt (by omega) H30061 L30062 ls30064 (by omega) hP hD hS (lv_sub hl [0, 1] rfl)
      · obtain rfl : i = 64 := by omega
        replace hz0 : H.size = s.heap.size + 129 := by omega
        refine W.widen (k := 129) (n := 12992) (by omega) (by omega) ?_
        refine lv_iload_n hx hb dX12_init_15 rfl (lv_at hl 0 rfl) ?_
        show W p l e _ s m _ below meth c _ _ _ _ QQ (F0 m 16 ls [.int (nI 64)])
        refine lv_bipush (v := 64) hx hb dX12_init_16 (by decide) ?_
        refine lv_icmp_ge (tgt := 43) hx hb dX12_init_18 (by decide) (fun _ => ?_) (fun c_18_b30065 => absurd (Int32.le_refl _) c_18_b30065)
        refine W.widen (k := 129) (n := 12992) (Nat.le_of_ble_eq_true rfl) (Nat.le_of_ble_eq_true rfl) ?_
        rw [← hQ, hAe]
        have hP := zsubP (wc := [(h0, .inr (11, [.ref (s.heap.size + 0), .int 0])), (s.heap.size + 0, .inl (aC 4, 64, .inr (.inr (.inr (.inr (zrefs (fun i => s.heap.size + (1 + 2 * i)) 64)))))), (s.heap.size + 1, .inr (14, [.ref (s.heap.size + 2), .int 0])), (s.heap.size + 2, .inl (aC 0, 200, .inl (fun _ => 0)))]) hP [0, 1, 2, 3] rfl
        have hD := hD.sub (ws' := [(h0, .inr (11, [.ref (s.heap.size + 0), .int 0])), (s.heap.size + 0, .inl (aC 4, 64, .inr (.inr (.inr (.inr (zrefs (fun i => s.heap.size + (1 + 2 * i)) 64)))))), (s.heap.size + 1, .inr (14, [.ref (s.heap.size + 2), .int 0])), (s.heap.size + 2, .inl (aC 0, 200, .inl (fun _ => 0)))]) [0, 1, 2, 3] (by decide) rfl
        exact W.vret hx hb hr (fun zt ht hW => ⟨⟨(), rfl, trivial, by rw [ht]; exact hP, hD, by rw [ht]; exact hz0⟩, hS.F ht⟩) hS.2.2 dX12_init_43
  exact key 65 1 (by omega) (by omega) H30052 L30053 ls30054 hz0 hP hD hS (lv_sub hl [0, 1] rfl)
