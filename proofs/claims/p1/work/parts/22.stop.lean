theorem dJ3_init_0 : decode cJ3_init 0 = .ok (.aload_n 0, 1) := by decide +kernel
theorem dJ3_init_1 : decode cJ3_init 1 = .ok (.invokespecial 1, 3) := by decide +kernel
theorem dJ3_init_4 : decode cJ3_init 4 = .ok (.aload_n 0, 1) := by decide +kernel
theorem dJ3_init_5 : decode cJ3_init 5 = .ok (.aload_n 0, 1) := by decide +kernel
theorem dJ3_init_6 : decode cJ3_init 6 = .ok (.putfield 7, 3) := by decide +kernel
theorem dJ3_init_9 : decode cJ3_init 9 = .ok (.aload_n 0, 1) := by decide +kernel
theorem dJ3_init_10 : decode cJ3_init 10 = .ok (.getstatic 13, 3) := by decide +kernel
theorem dJ3_init_13 : decode cJ3_init 13 = .ok (.putfield 17, 3) := by decide +kernel
theorem dJ3_init_16 : decode cJ3_init 16 = .ok (.aload_n 0, 1) := by decide +kernel
theorem dJ3_init_17 : decode cJ3_init 17 = .ok (.getstatic 20, 3) := by decide +kernel
theorem dJ3_init_20 : decode cJ3_init 20 = .ok (.putfield 24, 3) := by decide +kernel
theorem dJ3_init_23 : decode cJ3_init 23 = .ok (.iload 4, 2) := by decide +kernel
theorem dJ3_init_25 : decode cJ3_init 25 = .ok (.ifCond (.eq) 11, 3) := by decide +kernel
theorem dJ3_init_36 : decode cJ3_init 36 = .ok (.aload_n 0, 1) := by decide +kernel
theorem dJ3_init_37 : decode cJ3_init 37 = .ok (.aconst_null, 1) := by decide +kernel
theorem dJ3_init_38 : decode cJ3_init 38 = .ok (.putfield 17, 3) := by decide +kernel
theorem dJ3_init_41 : decode cJ3_init 41 = .ok (.aload_n 0, 1) := by decide +kernel
theorem dJ3_init_42 : decode cJ3_init 42 = .ok (.aload_n 1, 1) := by decide +kernel
theorem dJ3_init_43 : decode cJ3_init 43 = .ok (.putfield 31, 3) := by decide +kernel
theorem dJ3_init_46 : decode cJ3_init 46 = .ok (.aload_n 0, 1) := by decide +kernel
theorem dJ3_init_47 : decode cJ3_init 47 = .ok (.aload_n 2, 1) := by decide +kernel
theorem dJ3_init_48 : decode cJ3_init 48 = .ok (.putfield 7, 3) := by decide +kernel
theorem dJ3_init_51 : decode cJ3_init 51 = .ok (.iload_n 3, 1) := by decide +kernel
theorem dJ3_init_52 : decode cJ3_init 52 = .ok (.ifCond (.ne) 8, 3) := by decide +kernel
theorem dJ3_init_55 : decode cJ3_init 55 = .ok (.aload_n 0, 1) := by decide +kernel
theorem dJ3_init_56 : decode cJ3_init 56 = .ok (.aconst_null, 1) := by decide +kernel
theorem dJ3_init_57 : decode cJ3_init 57 = .ok (.putfield 24, 3) := by decide +kernel
theorem dJ3_init_60 : decode cJ3_init 60 = .ok (.return_, 1) := by decide +kernel
theorem dJ2_init_0 : decode cJ2_init 0 = .ok (.aload_n 0, 1) := by decide +kernel
theorem dJ2_init_1 : decode cJ2_init 1 = .ok (.aload_n 1, 1) := by decide +kernel
theorem dJ2_init_2 : decode cJ2_init 2 = .ok (.aload_n 2, 1) := by decide +kernel
theorem dJ2_init_3 : decode cJ2_init 3 = .ok (.iload_n 3, 1) := by decide +kernel
theorem dJ2_init_4 : decode cJ2_init 4 = .ok (.iload 4, 2) := by decide +kernel
theorem dJ2_init_6 : decode cJ2_init 6 = .ok (.invokespecial 16, 3) := by decide +kernel
theorem dJ2_init_9 : decode cJ2_init 9 = .ok (.return_, 1) := by decide +kernel
theorem dJ1_init_0 : decode cJ1_init 0 = .ok (.aload_n 0, 1) := by decide +kernel
theorem dJ1_init_1 : decode cJ1_init 1 = .ok (.aload_n 1, 1) := by decide +kernel
theorem dJ1_init_2 : decode cJ1_init 2 = .ok (.aload_n 2, 1) := by decide +kernel
theorem dJ1_init_3 : decode cJ1_init 3 = .ok (.iload_n 3, 1) := by decide +kernel
theorem dJ1_init_4 : decode cJ1_init 4 = .ok (.iload 4, 2) := by decide +kernel
theorem dJ1_init_6 : decode cJ1_init 6 = .ok (.invokespecial 16, 3) := by decide +kernel
theorem dJ1_init_9 : decode cJ1_init 9 = .ok (.return_, 1) := by decide +kernel
theorem dX13_init_0 : decode cX13_init 0 = .ok (.aload_n 0, 1) := by decide +kernel
theorem dX13_init_1 : decode cX13_init 1 = .ok (.aconst_null, 1) := by decide +kernel
theorem dX13_init_2 : decode cX13_init 2 = .ok (.aconst_null, 1) := by decide +kernel
theorem dX13_init_3 : decode cX13_init 3 = .ok (.iconst 0, 1) := by decide +kernel
theorem dX13_init_4 : decode cX13_init 4 = .ok (.iconst 0, 1) := by decide +kernel
theorem dX13_init_5 : decode cX13_init 5 = .ok (.invokespecial 1, 3) := by decide +kernel
theorem dX13_init_8 : decode cX13_init 8 = .ok (.return_, 1) := by decide +kernel
set_option maxHeartbeats 4000000 in
set_option maxRecDepth 100000 in
theorem c_J3_init (l : Launch) (dC : Nat → ClassId) (dI : Nat → Nat → Nat) (aC : Nat → ClassId) (h0 : Nat) (sz : Nat) : Met l yJ3_init w_J3_init ({ frames := 1, cells := 0, slots := 0, locals := 24 }) (zPreX (dC, dI) aC [(h0, .inr (12, [.null, .null, .null, .null, .null, .int 0]))] sz [.ref h0, .null, .null, .int 0, .int 0]) (va_Qv (fun (u : Unit) => True) (fun u zt => zB (dC, dI) [(h0, .inr (12, [.null, .null, .null, .null, .null, .int 0]))] (va_A [(h0, .inr (12, [.null, .null, .null, .null, .null, .int 0]))] sz) (sz + 0) zt) (va_A [(h0, .inr (12, [.null, .null, .null, .null, .null, .int 0]))] sz)) 0 0 (va_A [(h0, .inr (12, [.null, .null, .null, .null, .null, .int 0]))] sz) := by
  refine Met.ofW (cc := cJ3_init) (maxL := 5) (ret := none) (by decide) rfl ?_
  intro p e s m args below meth c s₁ B hml hv
  generalize hQ : MQ below _ _ s _ _ _ = QQ
  obtain ⟨rfl, hsz, hP, hK, hD0, hX⟩ := hv
  have hx := B.exec
  have hb := B.bytes
  have hr := B.returns
  have hts := atoms_spec (ws := w_J3_init) B.pre
  have hallB := fun (w : Cond) (h : w ∈ zBig) => hts w (List.mem_cons_of_mem _ h)
  have hall := fun (w : Cond) (h : w ∈ zAll) => hallB w (List.mem_append_left _ h)
  have hallJ := fun (w : Cond) (h : w ∈ zJ) => hallB w (List.mem_append_right _ h)
  have hown : s.vm.findClass RJ3 = some m.cls := findClass_of_methodNamed B.named
  have hlocks := B.notSynchronized
  have hin : meth.name = "<init>" := (name_of_methodNamed B.named B.method).1
  subst hsz
  have hD := hD0.self (sz := s.heap.size)
  generalize hAe : va_A [(h0, .inr (12, [.null, .null, .null, .null, .null, .int 0]))] s.heap.size = A at hD hX ⊢
  have hA : ∀ q : Nat, s.heap.size ≤ q → A q := fun q h => by rw [← hAe]; exact Or.inr h
  have hS : va_S A s.heap s.heap [] := va_S.rf
  have hz0 : s.heap.size = s.heap.size + 0 := rfl
  have hl := lv_entry ([.ref h0, .null, .null, .int 0, .int 0]) (n := 5) (Nat.le_of_ble_eq_true rfl)
  rw [lg_entry_eq]
  generalize (lg_sl ([.ref h0, .null, .null, .int 0, .int 0]) ++ List.replicate (5 - (lg_sl ([.ref h0, .null, .null, .int 0, .int 0])).length) Slot.unset).toArray = ls at hl ⊢
  have hl : lv_has ls 5 [(0, .ref h0), (1, .null), (2, .null), (3, .int 0), (4, .int 0)] := hl
  refine lv_aload_n hx hb dJ3_init_0 rfl (lv_at hl 0 rfl) ?_
  refine W.objInit hx hb hown (hallJ _ zw_9003) (hall _ zw_2) (hall _ zw_3) rfl (hl.1.trans hml.symm) rfl dJ3_init_1 (Nat.le_of_ble_eq_true rfl) (Nat.le_of_ble_eq_true rfl) ?_
  refine lv_aload_n hx hb dJ3_init_4 rfl (lv_at hl 0 rfl) ?_
  refine lv_aload_n hx hb dJ3_init_5 rfl (lv_at hl 0 rfl) ?_
  refine zput (D := (dC, dI)) (ci := 12) (v := .ref h0) (ty := (.object "java/lang/Throwable")) (C := RX13) (T := TX13) (N := 6) hx hb hall zx_13 tyX13 tyX13_ok nmX13 hown hK.1 hP hD hS 0 rfl rfl 0 (by decide) (hallJ _ zw_9013) (fun _ h9 => h9) rfl (by decide +kernel) rfl rfl (Nat.le_of_ble_eq_true rfl) dJ3_init_6 (fun H40001 L40002 hB hP' hD' hS' => ?_)
  replace hz0 : H40001.size = s.heap.size + 0 := hB.1.trans hz0
  clear hP hD hS hB
  have hP : va_P (dC, dI) vwCl [(h0, .inr (12, [.ref h0, .null, .null, .null, .null, .int 0]))] H40001 := hP'
  have hD : va_D A [(h0, .inr (12, [.ref h0, .null, .null, .null, .null, .int 0]))] := hD'
  have hS : va_S A s.heap H40001 L40002 := hS'
  clear hP' hD' hS'
  show W p l e _ s m _ below meth c _ _ _ _ QQ (F0 m 9 ls [])
  refine lv_aload_n hx hb dJ3_init_9 rfl (lv_at hl 0 rfl) ?_
  refine zgets hx hb hX.1.1 hS hown (hallJ _ zw_9014) dJ3_init_10 (fun r40003 => ?_)
  refine zput (D := (dC, dI)) (ci := 12) (v := va_rf r40003) (ty := (.array (.object "java/lang/StackTraceElement"))) (C := RX13) (T := TX13) (N := 6) hx hb hall zx_13 tyX13 tyX13_ok nmX13 hown hK.1 hP hD hS 0 rfl rfl 1 (by decide) (hallJ _ zw_9015) (fun _ h9 => h9) rfl (by decide +kernel) (by cases r40003 <;> rfl) (by cases r40003 <;> rfl) (Nat.le_of_ble_eq_true rfl) dJ3_init_13 (fun H40004 L40005 hB hP' hD' hS' => ?_)
  replace hz0 : H40004.size = s.heap.size + 0 := hB.1.trans hz0
  clear hP hD hS hB
  have hP : va_P (dC, dI) vwCl [(h0, .inr (12, [.ref h0, va_rf r40003, .null, .null, .null, .int 0]))] H40004 := hP'
  have hD : va_D A [(h0, .inr (12, [.ref h0, va_rf r40003, .null, .null, .null, .int 0]))] := hD'
  have hS : va_S A s.heap H40004 L40005 := hS'
  clear hP' hD' hS'
  clear L40002 H40001
  refine lv_aload_n hx hb dJ3_init_16 rfl (lv_at hl 0 rfl) ?_
  refine zgets hx hb hX.1.2 hS hown (hallJ _ zw_9016) dJ3_init_17 (fun r40006 => ?_)
  show W p l e _ s m _ below meth c _ _ _ _ QQ (F0 m 20 ls [va_rf r40006, .ref h0])
  refine zput (D := (dC, dI)) (ci := 12) (v := va_rf r40006) (ty := (.object "java/util/List")) (C := RX13) (T := TX13) (N := 6) hx hb hall zx_13 tyX13 tyX13_ok nmX13 hown hK.1 hP hD hS 0 rfl rfl 2 (by decide) (hallJ _ zw_9017) (fun _ h9 => h9) rfl (by decide +kernel) (by cases r40006 <;> rfl) (by cases r40006 <;> rfl) (Nat.le_of_ble_eq_true rfl) dJ3_init_20 (fun H40007 L40008 hB hP' hD' hS' => ?_)
  replace hz0 : H40007.size = s.heap.size + 0 := hB.1.trans hz0
  clear hP hD hS hB
  have hP : va_P (dC, dI) vwCl [(h0, .inr (12, [.ref h0, va_rf r40003, va_rf r40006, .null, .null, .int 0]))] H40007 := hP'
  have hD : va_D A [(h0, .inr (12, [.ref h0, va_rf r40003, va_rf r40006, .null, .null, .int 0]))] := hD'
  have hS : va_S A s.heap H40007 L40008 := hS'
  clear hP' hD' hS'
  clear L40005 H40004
  refine lv_iload hx hb dJ3_init_23 (lv_at hl 4 rfl) ?_
  refine lv_if_eq (tgt := 36) hx hb dJ3_init_25 (by decide) (fun _ => ?_) (fun c_25_b40009 => absurd (by decide) c_25_b40009)
  refine lv_aload_n hx hb dJ3_init_36 rfl (lv_at hl 0 rfl) ?_
  refine lv_null hx hb dJ3_init_37 ?_
  show W p l e _ s m _ below meth c _ _ _ _ QQ (F0 m 38 ls [.null, .ref h0])
  refine zput (D := (dC, dI)) (ci := 12) (v := .null) (ty := (.array (.object "java/lang/StackTraceElement"))) (C := RX13) (T := TX13) (N := 6) hx hb hall zx_13 tyX13 tyX13_ok nmX13 hown hK.1 hP hD hS 0 rfl rfl 1 (by decide) (hallJ _ zw_9015) (fun _ h9 => h9) rfl (by decide +kernel) rfl rfl (Nat.le_of_ble_eq_true rfl) dJ3_init_38 (fun H40010 L40011 hB hP' hD' hS' => ?_)
  replace hz0 : H40010.size = s.heap.size + 0 := hB.1.trans hz0
  clear hP hD hS hB
  have hP : va_P (dC, dI) vwCl [(h0, .inr (12, [.ref h0, .null, va_rf r40006, .null, .null, .int 0]))] H40010 := hP'
  have hD : va_D A [(h0, .inr (12, [.ref h0, .null, va_rf r40006, .null, .null, .int 0]))] := hD'
  have hS : va_S A s.heap H40010 L40011 := hS'
  clear hP' hD' hS'
  clear L40008 H40007
  refine lv_aload_n hx hb dJ3_init_41 rfl (lv_at hl 0 rfl) ?_
  refine lv_aload_nN hx hb dJ3_init_42 rfl (lv_at hl 1 rfl) ?_
  refine zput (D := (dC, dI)) (ci := 12) (v := .null) (ty := (.object "java/lang/String")) (C := RX13) (T := TX13) (N := 6) hx hb hall zx_13 tyX13 tyX13_ok nmX13 hown hK.1 hP hD hS 0 rfl rfl 3 (by decide) (hallJ _ zw_9018) (fun _ h9 => h9) rfl (by decide +kernel) rfl rfl (Nat.le_of_ble_eq_true rfl) dJ3_init_43 (fun H40012 L40013 hB hP' hD' hS' => ?_)
  replace hz0 : H40012.size = s.heap.size + 0 := hB.1.trans hz0
  clear hP hD hS hB
  have hP : va_P (dC, dI) vwCl [(h0, .inr (12, [.ref h0, .null, va_rf r40006, .null, .null, .int 0]))] H40012 := hP'
  have hD : va_D A [(h0, .inr (12, [.ref h0, .null, va_rf r40006, .null, .null, .int 0]))] := hD'
  have hS : va_S A s.heap H40012 L40013 := hS'
  clear hP' hD' hS'
  clear L40011 H40010
  refine lv_aload_n hx hb dJ3_init_46 rfl (lv_at hl 0 rfl) ?_
  show W p l e _ s m _ below meth c _ _ _ _ QQ (F0 m 47 ls [.ref h0])
  refine lv_aload_nN hx hb dJ3_init_47 rfl (lv_at hl 2 rfl) ?_
  refine zput (D := (dC, dI)) (ci := 12) (v := .null) (ty := (.object "java/lang/Throwable")) (C := RX13) (T := TX13) (N := 6) hx hb hall zx_13 tyX13 tyX13_ok nmX13 hown hK.1 hP hD hS 0 rfl rfl 0 (by decide) (hallJ _ zw_9013) (fun _ h9 => h9) rfl (by decide +kernel) rfl rfl (Nat.le_of_ble_eq_true rfl) dJ3_init_48 (fun H40014 L40015 hB hP' hD' hS' => ?_)
  replace hz0 : H40014.size = s.heap.size + 0 := hB.1.trans hz0
  clear hP hD hS hB
  have hP : va_P (dC, dI) vwCl [(h0, .inr (12, [.null, .null, va_rf r40006, .null, .null, .int 0]))] H40014 := hP'
  have hD : va_D A [(h0, .inr (12, [.null, .null, va_rf r40006, .null, .null, .int 0]))] := hD'
  have hS : va_S A s.heap H40014 L40015 := hS'
  clear hP' hD' hS'
  clear L40013 H40012
  refine lv_iload_n hx hb dJ3_init_51 rfl (lv_at hl 3 rfl) ?_
  refine lv_if_ne (tgt := 60) hx hb dJ3_init_52 (by decide) (fun c_52_b40016 => absurd (by decide) c_52_b40016) (fun _ => ?_)
  refine lv_aload_n hx hb dJ3_init_55 rfl (lv_at hl 0 rfl) ?_
  show W p l e _ s m _ below meth c _ _ _ _ QQ (F0 m 56 ls [.ref h0])
  refine lv_null hx hb dJ3_init_56 ?_
  refine zput (D := (dC, dI)) (ci := 12) (v := .null) (ty := (.object "java/util/List")) (C := RX13) (T := TX13) (N := 6) hx hb hall zx_13 tyX13 tyX13_ok nmX13 hown hK.1 hP hD hS 0 rfl rfl 2 (by decide) (hallJ _ zw_9017) (fun _ h9 => h9) rfl (by decide +kernel) rfl rfl (Nat.le_of_ble_eq_true rfl) dJ3_init_57 (fun H40017 L40018 hB hP' hD' hS' => ?_)
  replace hz0 : H40017.size = s.heap.size + 0 := hB.1.trans hz0
  clear hP hD hS hB
  have hP : va_P (dC, dI) vwCl [(h0, .inr (12, [.null, .null, .null, .null, .null, .int 0]))] H40017 := hP'
  have hD : va_D A [(h0, .inr (12, [.null, .null, .null, .null, .null, .int 0]))] := hD'
  have hS : va_S A s.heap H40017 L40018 := hS'
  clear hP' hD' hS'
  clear L40015 H40014
  refine W.widen (k := 0) (n := 0) (Nat.le_of_ble_eq_true rfl) (Nat.le_of_ble_eq_true rfl) ?_
  rw [← hQ, hAe]
  have hP := zsubP (wc := [(h0, .inr (12, [.null, .null, .null, .null, .null, .int 0]))]) hP [0] rfl
  have hD := hD.sub (ws' := [(h0, .inr (12, [.null, .null, .null, .null, .null, .int 0]))]) [0] (by decide) rfl
  exact W.vret hx hb hr (fun zt ht hW => ⟨⟨(), rfl, trivial, by rw [ht]; exact hP, hD, by rw [ht]; exact hz0⟩, hS.F ht⟩) hS.2.2 dJ3_init_60

set_option maxHeartbeats 4000000 in
set_option maxRecDepth 100000 in
theorem c_J2_init (l : Launch) (dC : Nat → ClassId) (dI : Nat → Nat → Nat) (aC : Nat → ClassId) (h0 : Nat) (sz : Nat) : Met l yJ2_init w_J2_init ({ frames := 2, cells := 0, slots := 0, locals := 48 }) (zPreX (dC, dI) aC [(h0, .inr (12, [.null, .null, .null, .null, .null, .int 0]))] sz [.ref h0, .null, .null, .int 0, .int 0]) (va_Qv (fun (u : Unit) => True) (fun u zt => zB (dC, dI) [(h0, .inr (12, [.null, .null, .null, .null, .null, .int 0]))] (va_A [(h0, .inr (12, [.null, .null, .null, .null, .null, .int 0]))] sz) (sz + 0) zt) (va_A [(h0, .inr (12, [.null, .null, .null, .null, .null, .int 0]))] sz)) 0 0 (va_A [(h0, .inr (12, [.null, .null, .null, .null, .null, .int 0]))] sz) := by
  refine Met.ofW (cc := cJ2_init) (maxL := 5) (ret := none) (by decide) rfl ?_
  intro p e s m args below meth c s₁ B hml hv
  generalize hQ : MQ below _ _ s _ _ _ = QQ
  obtain ⟨rfl, hsz, hP, hK, hD0, hX⟩ := hv
  have hx := B.exec
  have hb := B.bytes
  have hr := B.returns
  have hts := atoms_spec (ws := w_J2_init) B.pre
  have hallB := fun (w : Cond) (h : w ∈ zBig) => hts w (List.mem_cons_of_mem _ h)
  have hall := fun (w : Cond) (h : w ∈ zAll) => hallB w (List.mem_append_left _ h)
  have hallJ := fun (w : Cond) (h : w ∈ zJ) => hallB w (List.mem_append_right _ h)
  have hown : s.vm.findClass RJ2 = some m.cls := findClass_of_methodNamed B.named
  have hlocks := B.notSynchronized
  have hin : meth.name = "<init>" := (name_of_methodNamed B.named B.method).1
  subst hsz
  have hD := hD0.self (sz := s.heap.size)
  generalize hAe : va_A [(h0, .inr (12, [.null, .null, .null, .null, .null, .int 0]))] s.heap.size = A at hD hX ⊢
  have hA : ∀ q : Nat, s.heap.size ≤ q → A q := fun q h => by rw [← hAe]; exact Or.inr h
  have hS : va_S A s.heap s.heap [] := va_S.rf
  have hz0 : s.heap.size = s.heap.size + 0 := rfl
  have hl := lv_entry ([.ref h0, .null, .null, .int 0, .int 0]) (n := 5) (Nat.le_of_ble_eq_true rfl)
  rw [lg_entry_eq]
  generalize (lg_sl ([.ref h0, .null, .null, .int 0, .int 0]) ++ List.replicate (5 - (lg_sl ([.ref h0, .null, .null, .int 0, .int 0])).length) Slot.unset).toArray = ls at hl ⊢
  have hl : lv_has ls 5 [(0, .ref h0), (1, .null), (2, .null), (3, .int 0), (4, .int 0)] := hl
  refine lv_aload_n hx hb dJ2_init_0 rfl (lv_at hl 0 rfl) ?_
  refine lv_aload_nN hx hb dJ2_init_1 rfl (lv_at hl 1 rfl) ?_
  refine lv_aload_nN hx hb dJ2_init_2 rfl (lv_at hl 2 rfl) ?_
  refine lv_iload_n hx hb dJ2_init_3 rfl (lv_at hl 3 rfl) ?_
  refine lv_iload hx hb dJ2_init_4 (lv_at hl 4 rfl) ?_
  show W p l e _ s m _ below meth c _ _ _ _ QQ (F0 m 6 ls [.int 0, .int 0, .null, .null, .ref h0])
  refine zrw_v (k := 0) (wr := []) (wc := [(h0, .inr (12, [.null, .null, .null, .null, .null, .int 0]))]) (w1 := fun _ => [(h0, .inr (12, [.null, .null, .null, .null, .null, .int 0]))]) hP hD hS hA [0] [] rfl rfl (by decide +kernel) (by decide +kernel) (va_runI (As := [.null, .null, .int 0, .int 0]) (rest := []) ⟨hx, hb, hml, hown, hall⟩ (c_J3_init l dC dI aC h0 s.heap.size) (cwI 4 hallB g_J3_init rfl rfl rfl (hallJ _ zw_9012) (hallJ _ zw_9002) (hallJ _ zw_9010) rfl (by decide +kernel) ⟨Nat.le_of_ble_eq_true rfl, Nat.le_of_ble_eq_true rfl⟩) (zPreX_S (As := .ref h0 :: [.null, .null, .int 0, .int 0]) hK hP hD hS hA hX [0] rfl (by decide +kernel)) rfl rfl hl.1 rfl (lv_room (Nat.le_of_ble_eq_true rfl)) dJ2_init_6 ⟨Nat.le_of_ble_eq_true rfl, Nat.le_of_ble_eq_true rfl⟩) (fun u H40020 L40021 hw hz hk hP' hD' hS' => ?_)
  try rw [hz0] at hP'
  try rw [hz0] at hD'
  rw [hz0] at hz
  replace hz0 : H40020.size = s.heap.size + 0 := by omega
  clear hz
  clear hP hD hS hk
  have hP : va_P (dC, dI) vwCl [(h0, .inr (12, [.null, .null, .null, .null, .null, .int 0]))] H40020 := hP'
  have hD : va_D A [(h0, .inr (12, [.null, .null, .null, .null, .null, .int 0]))] := hD'
  have hS : va_S A s.heap H40020 L40021 := hS'
  clear hP' hD' hS'
  refine W.widen (k := 0) (n := 0) (Nat.le_of_ble_eq_true rfl) (Nat.le_of_ble_eq_true rfl) ?_
  rw [← hQ, hAe]
  have hP := zsubP (wc := [(h0, .inr (12, [.null, .null, .null, .null, .null, .int 0]))]) hP [0] rfl
  have hD := hD.sub (ws' := [(h0, .inr (12, [.null, .null, .null, .null, .null, .int 0]))]) [0] (by decide) rfl
  exact W.vret hx hb hr (fun zt ht hW => ⟨⟨(), rfl, trivial, by rw [ht]; exact hP, hD, by rw [ht]; exact hz0⟩, hS.F ht⟩) hS.2.2 dJ2_init_9

set_option maxHeartbeats 4000000 in
set_option maxRecDepth 100000 in
theorem c_J1_init (l : Launch) (dC : Nat → ClassId) (dI : Nat → Nat → Nat) (aC : Nat → ClassId) (h0 : Nat) (sz : Nat) : Met l yJ1_init w_J1_init ({ frames := 3, cells := 0, slots := 0, locals := 72 }) (zPreX (dC, dI) aC [(h0, .inr (12, [.null, .null, .null, .null, .null, .int 0]))] sz [.ref h0, .null, .null, .int 0, .int 0]) (va_Qv (fun (u : Unit) => True) (fun u zt => zB (dC, dI) [(h0, .inr (12, [.null, .null, .null, .null, .null, .int 0]))] (va_A [(h0, .inr (12, [.null, .null, .null, .null, .null, .int 0]))] sz) (sz + 0) zt) (va_A [(h0, .inr (12, [.null, .null, .null, .null, .null, .int 0]))] sz)) 0 0 (va_A [(h0, .inr (12, [.null, .null, .null, .null, .null, .int 0]))] sz) := by
  refine Met.ofW (cc := cJ1_init) (maxL := 5) (ret := none) (by decide) rfl ?_
  intro p e s m args below meth c s₁ B hml hv
  generalize hQ : MQ below _ _ s _ _ _ = QQ
  obtain ⟨rfl, hsz, hP, hK, hD0, hX⟩ := hv
  have hx := B.exec
  have hb := B.bytes
  have hr := B.returns
  have hts := atoms_spec (ws := w_J1_init) B.pre
  have hallB := fun (w : Cond) (h : w ∈ zBig) => hts w (List.mem_cons_of_mem _ h)
  have hall := fun (w : Cond) (h : w ∈ zAll) => hallB w (List.mem_append_left _ h)
  have hallJ := fun (w : Cond) (h : w ∈ zJ) => hallB w (List.mem_append_right _ h)
  have hown : s.vm.findClass RJ1 = some m.cls := findClass_of_methodNamed B.named
  have hlocks := B.notSynchronized
  have hin : meth.name = "<init>" := (name_of_methodNamed B.named B.method).1
  subst hsz
  have hD := hD0.self (sz := s.heap.size)
  generalize hAe : va_A [(h0, .inr (12, [.null, .null, .null, .null, .null, .int 0]))] s.heap.size = A at hD hX ⊢
  have hA : ∀ q : Nat, s.heap.size ≤ q → A q := fun q h => by rw [← hAe]; exact Or.inr h
  have hS : va_S A s.heap s.heap [] := va_S.rf
  have hz0 : s.heap.size = s.heap.size + 0 := rfl
  have hl := lv_entry ([.ref h0, .null, .null, .int 0, .int 0]) (n := 5) (Nat.le_of_ble_eq_true rfl)
  rw [lg_entry_eq]
  generalize (lg_sl ([.ref h0, .null, .null, .int 0, .int 0]) ++ List.replicate (5 - (lg_sl ([.ref h0, .null, .null, .int 0, .int 0])).length) Slot.unset).toArray = ls at hl ⊢
  have hl : lv_has ls 5 [(0, .ref h0), (1, .null), (2, .null), (3, .int 0), (4, .int 0)] := hl
  refine lv_aload_n hx hb dJ1_init_0 rfl (lv_at hl 0 rfl) ?_
  refine lv_aload_nN hx hb dJ1_init_1 rfl (lv_at hl 1 rfl) ?_
  refine lv_aload_nN hx hb dJ1_init_2 rfl (lv_at hl 2 rfl) ?_
  refine lv_iload_n hx hb dJ1_init_3 rfl (lv_at hl 3 rfl) ?_
  refine lv_iload hx hb dJ1_init_4 (lv_at hl 4 rfl) ?_
  show W p l e _ s m _ below meth c _ _ _ _ QQ (F0 m 6 ls [.int 0, .int 0, .null, .null, .ref h0])
  refine zrw_v (k := 0) (wr := []) (wc := [(h0, .inr (12, [.null, .null, .null, .null, .null, .int 0]))]) (w1 := fun _ => [(h0, .inr (12, [.null, .null, .null, .null, .null, .int 0]))]) hP hD hS hA [0] [] rfl rfl (by decide +kernel) (by decide +kernel) (va_runI (As := [.null, .null, .int 0, .int 0]) (rest := []) ⟨hx, hb, hml, hown, hall⟩ (c_J2_init l dC dI aC h0 s.heap.size) (cwI 4 hallB g_J2_init rfl rfl rfl (hallJ _ zw_9009) (hallJ _ zw_9001) (hallJ _ zw_9007) rfl (by decide +kernel) ⟨Nat.le_of_ble_eq_true rfl, Nat.le_of_ble_eq_true rfl⟩) (zPreX_S (As := .ref h0 :: [.null, .null, .int 0, .int 0]) hK hP hD hS hA hX [0] rfl (by decide +kernel)) rfl rfl hl.1 rfl (lv_room (Nat.le_of_ble_eq_true rfl)) dJ1_init_6 ⟨Nat.le_of_ble_eq_true rfl, Nat.le_of_ble_eq_true rfl⟩) (fun u H40023 L40024 hw hz hk hP' hD' hS' => ?_)
  try rw [hz0] at hP'
  try rw [hz0] at hD'
  rw [hz0] at hz
  replace hz0 : H40023.size = s.heap.size + 0 := by omega
  clear hz
  clear hP hD hS hk
  have hP : va_P (dC, dI) vwCl [(h0, .inr (12, [.null, .null, .null, .null, .null, .int 0]))] H40023 := hP'
  have hD : va_D A [(h0, .inr (12, [.null, .null, .null, .null, .null, .int 0]))] := hD'
  have hS : va_S A s.heap H40023 L40024 := hS'
  clear hP' hD' hS'
  refine W.widen (k := 0) (n := 0) (Nat.le_of_ble_eq_true rfl) (Nat.le_of_ble_eq_true rfl) ?_
  rw [← hQ, hAe]
  have hP := zsubP (wc := [(h0, .inr (12, [.null, .null, .null, .null, .null, .int 0]))]) hP [0] rfl
  have hD := hD.sub (ws' := [(h0, .inr (12, [.null, .null, .null, .null, .null, .int 0]))]) [0] (by decide) rfl
  exact W.vret hx hb hr (fun zt ht hW => ⟨⟨(), rfl, trivial, by rw [ht]; exact hP, hD, by rw [ht]; exact hz0⟩, hS.F ht⟩) hS.2.2 dJ1_init_9

set_option maxHeartbeats 4000000 in
set_option maxRecDepth 100000 in
theorem c_X13_init (l : Launch) (dC : Nat → ClassId) (dI : Nat → Nat → Nat) (aC : Nat → ClassId) (h0 : Nat) (sz : Nat) : Met l yX13_init wb_X13_init ({ frames := 4, cells := 0, slots := 0, locals := 96 }) (zPreX (dC, dI) aC [(h0, .inr (12, [.null, .null, .null, .null, .null, .int 0]))] sz [.ref h0]) (va_Qv (fun (u : Unit) => True) (fun u zt => zB (dC, dI) [(h0, .inr (12, [.null, .null, .null, .null, .null, .int 0]))] (va_A [(h0, .inr (12, [.null, .null, .null, .null, .null, .int 0]))] sz) (sz + 0) zt) (va_A [(h0, .inr (12, [.null, .null, .null, .null, .null, .int 0]))] sz)) 0 0 (va_A [(h0, .inr (12, [.null, .null, .null, .null, .null, .int 0]))] sz) := by
  refine Met.ofW (cc := cX13_init) (maxL := 1) (ret := none) (by decide) rfl ?_
  intro p e s m args below meth c s₁ B hml hv
  generalize hQ : MQ below _ _ s _ _ _ = QQ
  obtain ⟨rfl, hsz, hP, hK, hD0, hX⟩ := hv
  have hx := B.exec
  have hb := B.bytes
  have hr := B.returns
  have hts := atoms_spec (ws := wb_X13_init) B.pre
  have hallB := fun (w : Cond) (h : w ∈ zBig) => hts w (List.mem_cons_of_mem _ h)
  have hall := fun (w : Cond) (h : w ∈ zAll) => hallB w (List.mem_append_left _ h)
  have hallJ := fun (w : Cond) (h : w ∈ zJ) => hallB w (List.mem_append_right _ h)
  have hown : s.vm.findClass RX13 = some m.cls := findClass_of_methodNamed B.named
  have hlocks := B.notSynchronized
  have hin : meth.name = "<init>" := (name_of_methodNamed B.named B.method).1
  subst hsz
  have hD := hD0.self (sz := s.heap.size)
  generalize hAe : va_A [(h0, .inr (12, [.null, .null, .null, .null, .null, .int 0]))] s.heap.size = A at hD hX ⊢
  have hA : ∀ q : Nat, s.heap.size ≤ q → A q := fun q h => by rw [← hAe]; exact Or.inr h
  have hS : va_S A s.heap s.heap [] := va_S.rf
  have hz0 : s.heap.size = s.heap.size + 0 := rfl
  have hl := lv_entry ([.ref h0]) (n := 1) (Nat.le_of_ble_eq_true rfl)
  rw [lg_entry_eq]
  generalize (lg_sl ([.ref h0]) ++ List.replicate (1 - (lg_sl ([.ref h0])).length) Slot.unset).toArray = ls at hl ⊢
  have hl : lv_has ls 1 [(0, .ref h0)] := hl
  refine lv_aload_n hx hb dX13_init_0 rfl (lv_at hl 0 rfl) ?_
  refine lv_null hx hb dX13_init_1 ?_
  refine lv_null hx hb dX13_init_2 ?_
  refine lv_iconst (v := 0) hx hb dX13_init_3 (by decide) ?_
  refine lv_iconst (v := 0) hx hb dX13_init_4 (by decide) ?_
  show W p l e _ s m _ below meth c _ _ _ _ QQ (F0 m 5 ls [.int 0, .int 0, .null, .null, .ref h0])
  refine zrw_v (k := 0) (wr := []) (wc := [(h0, .inr (12, [.null, .null, .null, .null, .null, .int 0]))]) (w1 := fun _ => [(h0, .inr (12, [.null, .null, .null, .null, .null, .int 0]))]) hP hD hS hA [0] [] rfl rfl (by decide +kernel) (by decide +kernel) (va_runI (As := [.null, .null, .int 0, .int 0]) (rest := []) ⟨hx, hb, hml, hown, hall⟩ (c_J1_init l dC dI aC h0 s.heap.size) (cwI 4 hallB g_J1_init rfl rfl rfl (hallJ _ zw_9006) (hallJ _ zw_9000) (hallJ _ zw_9004) rfl (by decide +kernel) ⟨Nat.le_of_ble_eq_true rfl, Nat.le_of_ble_eq_true rfl⟩) (zPreX_S (As := .ref h0 :: [.null, .null, .int 0, .int 0]) hK hP hD hS hA hX [0] rfl (by decide +kernel)) rfl rfl hl.1 rfl (lv_room (Nat.le_of_ble_eq_true rfl)) dX13_init_5 ⟨Nat.le_of_ble_eq_true rfl, Nat.le_of_ble_eq_true rfl⟩) (fun u H40026 L40027 hw hz hk hP' hD' hS' => ?_)
  try rw [hz0] at hP'
  try rw [hz0] at hD'
  rw [hz0] at hz
  replace hz0 : H40026.size = s.heap.size + 0 := by omega
  clear hz
  clear hP hD hS hk
  have hP : va_P (dC, dI) vwCl [(h0, .inr (12, [.null, .null, .null, .null, .null, .int 0]))] H40026 := hP'
  have hD : va_D A [(h0, .inr (12, [.null, .null, .null, .null, .null, .int 0]))] := hD'
  have hS : va_S A s.heap H40026 L40027 := hS'
  clear hP' hD' hS'
  refine W.widen (k := 0) (n := 0) (Nat.le_of_ble_eq_true rfl) (Nat.le_of_ble_eq_true rfl) ?_
  rw [← hQ, hAe]
  have hP := zsubP (wc := [(h0, .inr (12, [.null, .null, .null, .null, .null, .int 0]))]) hP [0] rfl
  have hD := hD.sub (ws' := [(h0, .inr (12, [.null, .null, .null, .null, .null, .int 0]))]) [0] (by decide) rfl
  exact W.vret hx hb hr (fun zt ht hW => ⟨⟨(), rfl, trivial, by rw [ht]; exact hP, hD, by rw [ht]; exact hz0⟩, hS.F ht⟩) hS.2.2 dX13_init_8
