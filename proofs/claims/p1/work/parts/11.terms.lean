theorem dX9_init_0 : decode cX9_init 0 = .ok (.aload_n 0, 1) := by decide +kernel
theorem dX9_init_1 : decode cX9_init 1 = .ok (.invokespecial 5, 3) := by decide +kernel
theorem dX9_init_4 : decode cX9_init 4 = .ok (.aload_n 0, 1) := by decide +kernel
theorem dX9_init_5 : decode cX9_init 5 = .ok (.aload_n 1, 1) := by decide +kernel
theorem dX9_init_6 : decode cX9_init 6 = .ok (.putfield 11, 3) := by decide +kernel
theorem dX9_init_9 : decode cX9_init 9 = .ok (.aload_n 0, 1) := by decide +kernel
theorem dX9_init_10 : decode cX9_init 10 = .ok (.aload_n 2, 1) := by decide +kernel
theorem dX9_init_11 : decode cX9_init 11 = .ok (.putfield 15, 3) := by decide +kernel
theorem dX9_init_14 : decode cX9_init 14 = .ok (.aload_n 0, 1) := by decide +kernel
theorem dX9_init_15 : decode cX9_init 15 = .ok (.aload_n 3, 1) := by decide +kernel
theorem dX9_init_16 : decode cX9_init 16 = .ok (.putfield 19, 3) := by decide +kernel
theorem dX9_init_19 : decode cX9_init 19 = .ok (.aload_n 0, 1) := by decide +kernel
theorem dX9_init_20 : decode cX9_init 20 = .ok (.aload 4, 2) := by decide +kernel
theorem dX9_init_22 : decode cX9_init 22 = .ok (.putfield 23, 3) := by decide +kernel
theorem dX9_init_25 : decode cX9_init 25 = .ok (.aload_n 0, 1) := by decide +kernel
theorem dX9_init_26 : decode cX9_init 26 = .ok (.sipush 3051, 3) := by decide +kernel
theorem dX9_init_29 : decode cX9_init 29 = .ok (.newarray .int, 2) := by decide +kernel
theorem dX9_init_31 : decode cX9_init 31 = .ok (.putfield 27, 3) := by decide +kernel
theorem dX9_init_34 : decode cX9_init 34 = .ok (.aload_n 0, 1) := by decide +kernel
theorem dX9_init_35 : decode cX9_init 35 = .ok (.bipush 9, 2) := by decide +kernel
theorem dX9_init_37 : decode cX9_init 37 = .ok (.newarray .int, 2) := by decide +kernel
theorem dX9_init_39 : decode cX9_init 39 = .ok (.putfield 31, 3) := by decide +kernel
theorem dX9_init_42 : decode cX9_init 42 = .ok (.lconst 1, 1) := by decide +kernel
theorem dX9_init_43 : decode cX9_init 43 = .ok (.lstore 5, 2) := by decide +kernel
theorem dX9_init_45 : decode cX9_init 45 = .ok (.iconst 0, 1) := by decide +kernel
theorem dX9_init_46 : decode cX9_init 46 = .ok (.istore 7, 2) := by decide +kernel
theorem dX9_init_48 : decode cX9_init 48 = .ok (.iload 7, 2) := by decide +kernel
theorem dX9_init_50 : decode cX9_init 50 = .ok (.aload_n 0, 1) := by decide +kernel
theorem dX9_init_51 : decode cX9_init 51 = .ok (.getfield 27, 3) := by decide +kernel
theorem dX9_init_54 : decode cX9_init 54 = .ok (.arraylength, 1) := by decide +kernel
theorem dX9_init_55 : decode cX9_init 55 = .ok (.if_icmp .ge 40, 3) := by decide +kernel
theorem dX9_init_58 : decode cX9_init 58 = .ok (.iload 7, 2) := by decide +kernel
theorem dX9_init_60 : decode cX9_init 60 = .ok (.ifCond .ne 7, 3) := by decide +kernel
theorem dX9_init_67 : decode cX9_init 67 = .ok (.lload 5, 2) := by decide +kernel
theorem dX9_init_69 : decode cX9_init 69 = .ok (.iload 7, 2) := by decide +kernel
theorem dX9_init_71 : decode cX9_init 71 = .ok (.i2l, 1) := by decide +kernel
theorem dX9_init_72 : decode cX9_init 72 = .ok (.lmul, 1) := by decide +kernel
theorem dX9_init_73 : decode cX9_init 73 = .ok (.ldc2_w 34, 3) := by decide +kernel
theorem dX9_init_76 : decode cX9_init 76 = .ok (.lrem, 1) := by decide +kernel
theorem dX9_init_77 : decode cX9_init 77 = .ok (.lstore 5, 2) := by decide +kernel
theorem dX9_init_79 : decode cX9_init 79 = .ok (.aload_n 0, 1) := by decide +kernel
theorem dX9_init_80 : decode cX9_init 80 = .ok (.getfield 27, 3) := by decide +kernel
theorem dX9_init_83 : decode cX9_init 83 = .ok (.iload 7, 2) := by decide +kernel
theorem dX9_init_85 : decode cX9_init 85 = .ok (.lload 5, 2) := by decide +kernel
theorem dX9_init_87 : decode cX9_init 87 = .ok (.l2i, 1) := by decide +kernel
theorem dX9_init_88 : decode cX9_init 88 = .ok (.iastore, 1) := by decide +kernel
theorem dX9_init_89 : decode cX9_init 89 = .ok (.iinc 7 1, 3) := by decide +kernel
theorem dX9_init_92 : decode cX9_init 92 = .ok (.goto (-44), 3) := by decide +kernel
theorem dX9_init_63 : decode cX9_init 63 = .ok (.lconst 1, 1) := by decide +kernel
theorem dX9_init_64 : decode cX9_init 64 = .ok (.goto 13, 3) := by decide +kernel
theorem dX9_init_95 : decode cX9_init 95 = .ok (.return_, 1) := by decide +kernel
/-- the running product of the factorials modulo P, as the house keeps it in a long: ahead of turn i -/
def zfacP : Nat → Int64
  | 0 => 1
  | k + 1 => if nI k = 0 then 1 else zfacP k * (nI k).toInt64 - zfacP k * (nI k).toInt64 / 2147483647 * 2147483647
def zfill (g : Nat → Int32) (i : Nat) : Nat → Int32 := fun j => if j < i then g j else 0
theorem zfill_0 (g : Nat → Int32) : zfill g 0 = fun _ => 0 := rfl
theorem zfill_1 (g : Nat → Int32) (i : Nat) : upd (zfill g i) i (g i) = zfill g (i + 1) := by
  funext j
  by_cases h : j = i
  · subst h; simp [upd, zfill]
  · by_cases h2 : j < i
    · simp [upd, zfill, h, h2, Nat.lt_succ_of_lt h2]
    · simp [upd, zfill, h, h2, show ¬ j < i + 1 by omega]
abbrev zfacs : Nat → Int32 := fun j => (zfacP (j + 1)).toInt32

set_option maxHeartbeats 4000000 in
set_option maxRecDepth 100000 in
theorem c_X9_init (l : Launch) (dC : Nat → ClassId) (dI : Nat → Nat → Nat) (aC : Nat → ClassId) (h0 : Nat) (r1 r2 r3 r4 : Nat) (sz : Nat) : Met l yX9_init w_X9_init ({ frames := 1, cells := 2, slots := 3060, locals := 24 }) (zPre (dC, dI) aC [(h0, .inr (8, [.null, .null, .null, .null, .null, .null, .int 0, .int 0]))] sz [.ref h0, .ref r1, .ref r2, .ref r3, .ref r4]) (va_Qv (fun (u : Unit) => True) (fun u zt => zB (dC, dI) [(h0, .inr (8, [.ref r1, .ref r2, .ref r3, .ref r4, .ref (sz + 0), .ref (sz + 1), .int 0, .int 0])), (sz + 0, .inl (aC 0, 3051, .inl (zfill zfacs 3051))), (sz + 1, .inl (aC 0, 9, .inl (fun _ => 0)))] (va_A [(h0, .inr (8, [.null, .null, .null, .null, .null, .null, .int 0, .int 0]))] sz) (sz + 2) zt) (va_A [(h0, .inr (8, [.null, .null, .null, .null, .null, .null, .int 0, .int 0]))] sz)) 2 3060 (va_A [(h0, .inr (8, [.null, .null, .null, .null, .null, .null, .int 0, .int 0]))] sz) := by
  refine Met.ofW (cc := cX9_init) (maxL := 8) (ret := none) (by decide) rfl ?_
  intro p e s m args below meth c s₁ B hml hv
  generalize hQ : MQ below _ _ s _ _ _ = QQ
  obtain ⟨rfl, hsz, hP, hK, hD0⟩ := hv
  have hx := B.exec
  have hb := B.bytes
  have hr := B.returns
  have hts := atoms_spec (ws := w_X9_init) B.pre
  have hall := fun (w : Cond) (h : w ∈ zAll) => hts w (List.mem_cons_of_mem _ h)
  have hown : s.vm.findClass RX9 = some m.cls := findClass_of_methodNamed B.named
  have hlocks := B.notSynchronized
  have hin : meth.name = "<init>" := (name_of_methodNamed B.named B.method).1
  subst hsz
  have hD := hD0.self (sz := s.heap.size)
  generalize hAe : va_A [(h0, .inr (8, [.null, .null, .null, .null, .null, .null, .int 0, .int 0]))] s.heap.size = A at hD ⊢
  have hA : ∀ q : Nat, s.heap.size ≤ q → A q := fun q h => by rw [← hAe]; exact Or.inr h
  have hS : va_S A s.heap s.heap [] := va_S.rf
  have hz0 : s.heap.size = s.heap.size + 0 := rfl
  have hl := lv_entry ([.ref h0, .ref r1, .ref r2, .ref r3, .ref r4]) (n := 8) (Nat.le_of_ble_eq_true rfl)
  rw [lg_entry_eq]
  generalize (lg_sl ([.ref h0, .ref r1, .ref r2, .ref r3, .ref r4]) ++ List.replicate (8 - (lg_sl ([.ref h0, .ref r1, .ref r2, .ref r3, .ref r4])).length) Slot.unset).toArray = ls at hl ⊢
  have hl : lv_has ls 8 [(0, .ref h0), (1, .ref r1), (2, .ref r2), (3, .ref r3), (4, .ref r4)] := hl
  refine lv_aload_n hx hb dX9_init_0 rfl (lv_at hl 0 rfl) ?_
  refine W.objInit hx hb hown (hall _ zw_88) (hall _ zw_2) (hall _ zw_3) rfl (hl.1.trans hml.symm) rfl dX9_init_1 (Nat.le_of_ble_eq_true rfl) (Nat.le_of_ble_eq_true rfl) ?_
  refine lv_aload_n hx hb dX9_init_4 rfl (lv_at hl 0 rfl) ?_
  refine lv_aload_n hx hb dX9_init_5 rfl (lv_at hl 1 rfl) ?_
  refine zputF (D := (dC, dI)) (ci := 8) (v := .ref r1) (ty := (.object "SumHouse$Room")) (C := RX9) (T := TX9) (N := 8) hx hb hall zx_9 tyX9 tyX9_ok nmX9 hown hK.1 hP hD hS 0 rfl rfl 0 (by decide) (hall _ zw_89) (fun _ h9 => h9) rfl hin rfl (by decide +kernel) rfl rfl (Nat.le_of_ble_eq_true rfl) dX9_init_6 (fun H151 L152 hB hP' hD' hS' => ?_)
  replace hz0 : H151.size = s.heap.size + 0 := hB.1.trans hz0
  clear hP hD hS hB
  have hP : va_P (dC, dI) vwCl [(h0, .inr (8, [.ref r1, .null, .null, .null, .null, .null, .int 0, .int 0]))] H151 := hP'
  have hD : va_D A [(h0, .inr (8, [.ref r1, .null, .null, .null, .null, .null, .int 0, .int 0]))] := hD'
  have hS : va_S A s.heap H151 L152 := hS'
  clear hP' hD' hS'
  show W p l e _ s m _ below meth c _ _ _ _ QQ (F0 m 9 ls [])
  refine lv_aload_n hx hb dX9_init_9 rfl (lv_at hl 0 rfl) ?_
  refine lv_aload_n hx hb dX9_init_10 rfl (lv_at hl 2 rfl) ?_
  refine zputF (D := (dC, dI)) (ci := 8) (v := .ref r2) (ty := (.object "SumHouse$Planes")) (C := RX9) (T := TX9) (N := 8) hx hb hall zx_9 tyX9 tyX9_ok nmX9 hown hK.1 hP hD hS 0 rfl rfl 1 (by decide) (hall _ zw_90) (fun _ h9 => h9) rfl hin rfl (by decide +kernel) rfl rfl (Nat.le_of_ble_eq_true rfl) dX9_init_11 (fun H153 L154 hB hP' hD' hS' => ?_)
  replace hz0 : H153.size = s.heap.size + 0 := hB.1.trans hz0
  clear hP hD hS hB
  have hP : va_P (dC, dI) vwCl [(h0, .inr (8, [.ref r1, .ref r2, .null, .null, .null, .null, .int 0, .int 0]))] H153 := hP'
  have hD : va_D A [(h0, .inr (8, [.ref r1, .ref r2, .null, .null, .null, .null, .int 0, .int 0]))] := hD'
  have hS : va_S A s.heap H153 L154 := hS'
  clear hP' hD' hS'
  clear L152 H151
  refine lv_aload_n hx hb dX9_init_14 rfl (lv_at hl 0 rfl) ?_
  refine lv_aload_n hx hb dX9_init_15 rfl (lv_at hl 3 rfl) ?_
  show W p l e _ s m _ below meth c _ _ _ _ QQ (F0 m 16 ls [.ref r3, .ref h0])
  refine zputF (D := (dC, dI)) (ci := 8) (v := .ref r3) (ty := (.object "SumHouse$Divisors")) (C := RX9) (T := TX9) (N := 8) hx hb hall zx_9 tyX9 tyX9_ok nmX9 hown hK.1 hP hD hS 0 rfl rfl 2 (by decide) (hall _ zw_91) (fun _ h9 => h9) rfl hin rfl (by decide +kernel) rfl rfl (Nat.le_of_ble_eq_true rfl) dX9_init_16 (fun H155 L156 hB hP' hD' hS' => ?_)
  replace hz0 : H155.size = s.heap.size + 0 := hB.1.trans hz0
  clear hP hD hS hB
  have hP : va_P (dC, dI) vwCl [(h0, .inr (8, [.ref r1, .ref r2, .ref r3, .null, .null, .null, .int 0, .int 0]))] H155 := hP'
  have hD : va_D A [(h0, .inr (8, [.ref r1, .ref r2, .ref r3, .null, .null, .null, .int 0, .int 0]))] := hD'
  have hS : va_S A s.heap H155 L156 := hS'
  clear hP' hD' hS'
  clear L154 H153
  refine lv_aload_n hx hb dX9_init_19 rfl (lv_at hl 0 rfl) ?_
  refine lv_aload hx hb dX9_init_20 (lv_at hl 4 rfl) ?_
  refine zputF (D := (dC, dI)) (ci := 8) (v := .ref r4) (ty := (.object "SumHouse$Ratios")) (C := RX9) (T := TX9) (N := 8) hx hb hall zx_9 tyX9 tyX9_ok nmX9 hown hK.1 hP hD hS 0 rfl rfl 3 (by decide) (hall _ zw_92) (fun _ h9 => h9) rfl hin rfl (by decide +kernel) rfl rfl (Nat.le_of_ble_eq_true rfl) dX9_init_22 (fun H157 L158 hB hP' hD' hS' => ?_)
  replace hz0 : H157.size = s.heap.size + 0 := hB.1.trans hz0
  clear hP hD hS hB
  have hP : va_P (dC, dI) vwCl [(h0, .inr (8, [.ref r1, .ref r2, .ref r3, .ref r4, .null, .null, .int 0, .int 0]))] H157 := hP'
  have hD : va_D A [(h0, .inr (8, [.ref r1, .ref r2, .ref r3, .ref r4, .null, .null, .int 0, .int 0]))] := hD'
  have hS : va_S A s.heap H157 L158 := hS'
  clear hP' hD' hS'
  clear L156 H155
  refine lv_aload_n hx hb dX9_init_25 rfl (lv_at hl 0 rfl) ?_
  show W p l e _ s m _ below meth c _ _ _ _ QQ (F0 m 26 ls [.ref h0])
  refine lv_sipush (v := 3051) hx hb dX9_init_26 (by decide) ?_
  refine znewa (atype := .int) (ty := .int) (cA := aC 0) (N' := 3051) (a0 := (3051, .inl (fun _ => 0))) hx hb (hall _ zw_4) rfl hK.1 hP hD hS hA 0 rfl (fun h => h) rfl (by decide) (by decide) (Nat.le_of_ble_eq_true rfl) (Nat.le_of_ble_eq_true rfl) (Nat.le_of_ble_eq_true rfl) dX9_init_29 (fun q159 H160 eq159 hz hB hP' hD' hS' => ?_)
  obtain rfl : q159 = s.heap.size + 0 := eq159.trans hz0
  clear eq159
  replace hz0 : H160.size = s.heap.size + 1 := by omega
  clear hz
  clear hP hD hS hB
  have hP : va_P (dC, dI) vwCl [(h0, .inr (8, [.ref r1, .ref r2, .ref r3, .ref r4, .null, .null, .int 0, .int 0])), (s.heap.size + 0, .inl (aC 0, 3051, .inl (fun _ => 0)))] H160 := hP'
  have hD : va_D A [(h0, .inr (8, [.ref r1, .ref r2, .ref r3, .ref r4, .null, .null, .int 0, .int 0])), (s.heap.size + 0, .inl (aC 0, 3051, .inl (fun _ => 0)))] := hD'
  have hS : va_S A s.heap H160 L158 := hS'
  clear hP' hD' hS'
  clear H157
  refine zputF (D := (dC, dI)) (ci := 8) (v := .ref (s.heap.size + 0)) (ty := (.array .int)) (C := RX9) (T := TX9) (N := 8) hx hb hall zx_9 tyX9 tyX9_ok nmX9 hown hK.1 hP hD hS 0 rfl rfl 4 (by decide) (hall _ zw_93) (fun _ h9 => h9) rfl hin rfl (by decide +kernel) rfl rfl (Nat.le_of_ble_eq_true rfl) dX9_init_31 (fun H161 L162 hB hP' hD' hS' => ?_)
  replace hz0 : H161.size = s.heap.size + 1 := hB.1.trans hz0
  clear hP hD hS hB
  have hP : va_P (dC, dI) vwCl [(h0, .inr (8, [.ref r1, .ref r2, .ref r3, .ref r4, .ref (s.heap.size + 0), .null, .int 0, .int 0])), (s.heap.size + 0, .inl (aC 0, 3051, .inl (fun _ => 0)))] H161 := hP'
  have hD : va_D A [(h0, .inr (8, [.ref r1, .ref r2, .ref r3, .ref r4, .ref (s.heap.size + 0), .null, .int 0, .int 0])), (s.heap.size + 0, .inl (aC 0, 3051, .inl (fun _ => 0)))] := hD'
  have hS : va_S A s.heap H161 L162 := hS'
  clear hP' hD' hS'
  clear L158 H160
  refine lv_aload_n hx hb dX9_init_34 rfl (lv_at hl 0 rfl) ?_
  refine lv_bipush (v := 9) hx hb dX9_init_35 (by decide) ?_
  show W p l e _ s m _ below meth c _ _ _ _ QQ (F0 m 37 ls [.int 9, .ref h0])
  refine znewa (atype := .int) (ty := .int) (cA := aC 0) (N' := 9) (a0 := (9, .inl (fun _ => 0))) hx hb (hall _ zw_4) rfl hK.1 hP hD hS hA 0 rfl (fun h => h) rfl (by decide) (by decide) (Nat.le_of_ble_eq_true rfl) (Nat.le_of_ble_eq_true rfl) (Nat.le_of_ble_eq_true rfl) dX9_init_37 (fun q163 H164 eq163 hz hB hP' hD' hS' => ?_)
  obtain rfl : q163 = s.heap.size + 1 := eq163.trans hz0
  clear eq163
  replace hz0 : H164.size = s.heap.size + 2 := by omega
  clear hz
  clear hP hD hS hB
  have hP : va_P (dC, dI) vwCl [(h0, .inr (8, [.ref r1, .ref r2, .ref r3, .ref r4, .ref (s.heap.size + 0), .null, .int 0, .int 0])), (s.heap.size + 0, .inl (aC 0, 3051, .inl (fun _ => 0))), (s.heap.size + 1, .inl (aC 0, 9, .inl (fun _ => 0)))] H164 := hP'
  have hD : va_D A [(h0, .inr (8, [.ref r1, .ref r2, .ref r3, .ref r4, .ref (s.heap.size + 0), .null, .int 0, .int 0])), (s.heap.size + 0, .inl (aC 0, 3051, .inl (fun _ => 0))), (s.heap.size + 1, .inl (aC 0, 9, .inl (fun _ => 0)))] := hD'
  have hS : va_S A s.heap H164 L162 := hS'
  clear hP' hD' hS'
  clear H161
  refine zputF (D := (dC, dI)) (ci := 8) (v := .ref (s.heap.size + 1)) (ty := (.array .int)) (C := RX9) (T := TX9) (N := 8) hx hb hall zx_9 tyX9 tyX9_ok nmX9 hown hK.1 hP hD hS 0 rfl rfl 5 (by decide) (hall _ zw_94) (fun _ h9 => h9) rfl hin rfl (by decide +kernel) rfl rfl (Nat.le_of_ble_eq_true rfl) dX9_init_39 (fun H165 L166 hB hP' hD' hS' => ?_)
  replace hz0 : H165.size = s.heap.size + 2 := hB.1.trans hz0
  clear hP hD hS hB
  have hP : va_P (dC, dI) vwCl [(h0, .inr (8, [.ref r1, .ref r2, .ref r3, .ref r4, .ref (s.heap.size + 0), .ref (s.heap.size + 1), .int 0, .int 0])), (s.heap.size + 0, .inl (aC 0, 3051, .inl (fun _ => 0))), (s.heap.size + 1, .inl (aC 0, 9, .inl (fun _ => 0)))] H165 := hP'
  have hD : va_D A [(h0, .inr (8, [.ref r1, .ref r2, .ref r3, .ref r4, .ref (s.heap.size + 0), .ref (s.heap.size + 1), .int 0, .int 0])), (s.heap.size + 0, .inl (aC 0, 3051, .inl (fun _ => 0))), (s.heap.size + 1, .inl (aC 0, 9, .inl (fun _ => 0)))] := hD'
  have hS : va_S A s.heap H165 L166 := hS'
  clear hP' hD' hS'
  clear L162 H164
  refine lv_lconst (v := 1) hx hb dX9_init_42 (by decide) ?_
  refine lv_lstore (lv' := [(5, .long 1), (0, .ref h0), (1, .ref r1), (2, .ref r2), (3, .ref r3), (4, .ref r4)]) hx hb dX9_init_43 hl (by decide) rfl (fun ls167 hl' => ?_)
  clear hl
  have hl : lv_has ls167 8 [(5, .long 1), (0, .ref h0), (1, .ref r1), (2, .ref r2), (3, .ref r3), (4, .ref r4)] := hl'
  clear hl'
  refine lv_iconst (v := 0) hx hb dX9_init_45 (by decide) ?_
  show W p l e _ s m _ below meth c _ _ _ _ QQ (F0 m 46 ls167 [.int 0])
  refine lv_istore (lv' := [(7, .int 0), (5, .long 1), (0, .ref h0), (1, .ref r1), (2, .ref r2), (3, .ref r3), (4, .ref r4)]) hx hb dX9_init_46 hl (by decide) rfl (fun ls168 hl' => ?_)
  clear hl
  have hl : lv_has ls168 8 [(7, .int 0), (5, .long 1), (0, .ref h0), (1, .ref r1), (2, .ref r2), (3, .ref r3), (4, .ref r4)] := hl'
  clear hl'
  have key : ∀ (n i : Nat), i ≤ 3051 → 3051 < i + n → ∀ (H : Heap) (locs : List Loc) (ls : Array Slot), H.size = s.heap.size + 2 → va_P (dC, dI) vwCl [(h0, .inr (8, [.ref r1, .ref r2, .ref r3, .ref r4, .ref (s.heap.size + 0), .ref (s.heap.size + 1), .int 0, .int 0])), (s.heap.size + 0, .inl (aC 0, 3051, .inl (zfill zfacs i))), (s.heap.size + 1, .inl (aC 0, 9, .inl (fun _ => 0)))] H → va_D A [(h0, .inr (8, [.ref r1, .ref r2, .ref r3, .ref r4, .ref (s.heap.size + 0), .ref (s.heap.size + 1), .int 0, .int 0])), (s.heap.size + 0, .inl (aC 0, 3051, .inl (zfill zfacs i))), (s.heap.size + 1, .inl (aC 0, 9, .inl (fun _ => 0)))] → va_S A s.heap H locs → lv_has ls 8 [(7, .int (nI i)), (5, .long (zfacP i)), (0, .ref h0), (1, .ref r1), (2, .ref r2), (3, .ref r3), (4, .ref r4)] → W p l e (headSpec w_X9_init ({ frames := 1, cells := 2, slots := 3060, locals := 24 })).room s m ([.ref h0, .ref r1, .ref r2, .ref r3, .ref r4] : List Value).toArray below meth c H locs 2 3060 QQ (F0 m 48 ls []) := by
    intro n
    induction n with
    | zero => exact fun i h1 h2 => absurd h2 (by omega)
    | succ n ih =>
      intro i hi hfu H locs ls hz0 hP hD hS hl
      rcases Nat.lt_or_ge i 3051 with hlt | hge
      · refine lv_iload hx hb dX9_init_48 (lv_at hl 0 rfl) ?_
        refine lv_aload_n hx hb dX9_init_50 rfl (lv_at hl 2 rfl) ?_
        refine va_get (D := (dC, dI)) (ci := 8) (v := .ref (s.heap.size + 0)) (C := RX9) (T := TX9) (N := 8) hx hb hall zx_9 hown hK.1 hP 0 rfl rfl 4 (by decide) (hall _ zw_93) (fun _ h9 => h9) rfl dX9_init_51 ?_
        refine va_alen (v := 3051) hx hb hK.1 hP 1 0 rfl rfl rfl dX9_init_54 ?_
        refine lv_icmp_ge (tgt := 95) hx hb dX9_init_55 (by decide) (fun c_55_b169 => absurd c_55_b169 (nI_ge hlt (by decide))) (fun _ => ?_)
        show W p l e _ s m _ below meth c _ _ _ _ QQ (F0 m 58 ls [])
        refine lv_iload hx hb dX9_init_58 (lv_at hl 0 rfl) ?_
        have hcl : (nI i).toNatClampNeg = i := nI_clamp (by omega)
        refine lv_if_ne (tgt := 67) hx hb dX9_init_60 (by decide) (fun c0 => ?_) (fun c0 => ?_)
        · refine lv_lload hx hb dX9_init_67 (lv_at hl 1 rfl) ?_
          refine lv_iload hx hb dX9_init_69 (lv_at hl 0 rfl) ?_
          refine lv_i2l (v := (nI i).toInt64) hx hb dX9_init_71 rfl ?_
          refine lv_lmul hx hb dX9_init_72 ?_
          show W p l e _ s m _ below meth c _ _ _ _ QQ (F0 m 73 ls [.long ((zfacP i) * ((nI i).toInt64))])
          refine lv_ldc2 hx hb hown (hall _ zw_95) dX9_init_73 ?_
          refine lv_lrem hx hb dX9_init_76 (by decide) ?_
          have ep : ((zfacP i) * ((nI i).toInt64)) - ((zfacP i) * ((nI i).toInt64)) / 2147483647 * 2147483647 = zfacP (i + 1) := by show _ = (if nI i = 0 then _ else _); rw [if_neg c0]
          rw [ep]
          refine lv_lstore (lv' := [(5, .long (zfacP (i + 1))), (7, .int (nI i)), (0, .ref h0), (1, .ref r1), (2, .ref r2), (3, .ref r3), (4, .ref r4)]) hx hb dX9_init_77 hl (by decide) rfl (fun ls170 hl' => ?_)
          clear hl
          have hl : lv_has ls170 8 [(5, .long (zfacP (i + 1))), (7, .int (nI i)), (0, .ref h0), (1, .ref r1), (2, .ref r2), (3, .ref r3), (4, .ref r4)] := hl'
          clear hl'
          refine lv_aload_n hx hb dX9_init_79 rfl (lv_at hl 2 rfl) ?_
          refine va_get (D := (dC, dI)) (ci := 8) (v := .ref (s.heap.size + 0)) (C := RX9) (T := TX9) (N := 8) hx hb hall zx_9 hown hK.1 hP 0 rfl rfl 4 (by decide) (hall _ zw_93) (fun _ h9 => h9) rfl dX9_init_80 ?_
          show W p l e _ s m _ below meth c _ _ _ _ QQ (F0 m 83 ls170 [.ref (s.heap.size + 0)])
          refine lv_iload hx hb dX9_init_83 (lv_at hl 1 rfl) ?_
          refine lv_lload hx hb dX9_init_85 (lv_at hl 0 rfl) ?_
          refine lv_l2i (v := (zfacP (i + 1)).toInt32) hx hb dX9_init_87 rfl ?_
          refine ziast hx hb hK.1 hP hD hS 1 0 rfl rfl (vp_in_nI hlt (by decide)) dX9_init_88 (fun H171 L172 hB hP' hD' hS' => ?_)
          replace hz0 : H171.size = s.heap.size + 2 := hB.1.trans hz0
          clear hP hD hS hB
          have hP : va_P (dC, dI) vwCl [(h0, .inr (8, [.ref r1, .ref r2, .ref r3, .ref r4, .ref (s.heap.size + 0), .ref (s.heap.size + 1), .int 0, .int 0])), (s.heap.size + 0, .inl (aC 0, 3051, .inl (upd (zfill zfacs i) (nI i).toNatClampNeg ((zfacP (i + 1)).toInt32)))), (s.heap.size + 1, .inl (aC 0, 9, .inl (fun _ => 0)))] H171 := hP'
          have hD : va_D A [(h0, .inr (8, [.ref r1, .ref r2, .ref r3, .ref r4, .ref (s.heap.size + 0), .ref (s.heap.size + 1), .int 0, .int 0])), (s.heap.size + 0, .inl (aC 0, 3051, .inl (upd (zfill zfacs i) (nI i).toNatClampNeg ((zfacP (i + 1)).toInt32)))), (s.heap.size + 1, .inl (aC 0, 9, .inl (fun _ => 0)))] := hD'
          have hS : va_S A s.heap H171 L172 := hS'
          clear hP' hD' hS'
          rw [hcl] at hP hD
          replace hP : va_P (dC, dI) vwCl [(h0, .inr (8, [.ref r1, .ref r2, .ref r3, .ref r4, .ref (s.heap.size + 0), .ref (s.heap.size + 1), .int 0, .int 0])), (s.heap.size + 0, .inl (aC 0, 3051, .inl (zfill zfacs (i + 1)))), (s.heap.size + 1, .inl (aC 0, 9, .inl (fun _ => 0)))] H171 := by rw [← zfill_1]; exact hP
          replace hD : va_D A [(h0, .inr (8, [.ref r1, .ref r2, .ref r3, .ref r4, .ref (s.heap.size + 0), .ref (s.heap.size + 1), .int 0, .int 0])), (s.heap.size + 0, .inl (aC 0, 3051, .inl (zfill zfacs (i + 1)))), (s.heap.size + 1, .inl (aC 0, 9, .inl (fun _ => 0)))] := by rw [← zfill_1]; exact hD
          obtain ⟨y173, ey173⟩ : ∃ z : Int32, z = (nI i) + 1 := ⟨_, rfl⟩
          refine lv_iinc (v := y173) (lv' := [(7, .int y173), (5, .long (zfacP (i + 1))), (0, .ref h0), (1, .ref r1), (2, .ref r2), (3, .ref r3), (4, .ref r4)]) hx hb dX9_init_89 hl (k := 1) rfl (by rw [ey173]; rfl) (by decide) rfl (fun ls174 hl' => ?_)
          clear hl
          have hl : lv_has ls174 8 [(7, .int y173), (5, .long (zfacP (i + 1))), (0, .ref h0), (1, .ref r1), (2, .ref r2), (3, .ref r3), (4, .ref r4)] := hl'
          clear hl'
          refine lv_goto (tgt := 48) hx hb dX9_init_92 (by decide) ?_
          have ey : y173 = nI (i + 1) := by rw [ey173]; exact nI_1 i
          rw [ey] at hl
          exact ih (i + 1) hlt (by omega) H171 L172 ls174 hz0 hP hD hS (lv_sub hl [0, 1, 2, 3, 4, 5, 6] rfl)
        · refine lv_lconst (v := 1) hx hb dX9_init_63 (by decide) ?_
          refine lv_goto (tgt := 77) hx hb dX9_init_64 (by decide) ?_
          have ep : 1 = zfacP (i + 1) := by show _ = (if nI i = 0 then _ else _); rw [if_pos c0]
          rw [ep]
          refine lv_lstore (lv' := [(5, .long (zfacP (i + 1))), (7, .int (nI i)), (0, .ref h0), (1, .ref r1), (2, .ref r2), (3, .ref r3), (4, .ref r4)]) hx hb dX9_init_77 hl (by decide) rfl (fun ls175 hl' => ?_)
          clear hl
          have hl : lv_has ls175 8 [(5, .long (zfacP (i + 1))), (7, .int (nI i)), (0, .ref h0), (1, .ref r1), (2, .ref r2), (3, .ref r3), (4, .ref r4)] := hl'
          clear hl'
          refine lv_aload_n hx hb dX9_init_79 rfl (lv_at hl 2 rfl) ?_
          show W p l e _ s m _ below meth c _ _ _ _ QQ (F0 m 80 ls175 [.ref h0])
          refine va_get (D := (dC, dI)) (ci := 8) (v := .ref (s.heap.size + 0)) (C := RX9) (T := TX9) (N := 8) hx hb hall zx_9 hown hK.1 hP 0 rfl rfl 4 (by decide) (hall _ zw_93) (fun _ h9 => h9) rfl dX9_init_80 ?_
          refine lv_iload hx hb dX9_init_83 (lv_at hl 1 rfl) ?_
          refine lv_lload hx hb dX9_init_85 (lv_at hl 0 rfl) ?_
          refine lv_l2i (v := (zfacP (i + 1)).toInt32) hx hb dX9_init_87 rfl ?_
          refine ziast hx hb hK.1 hP hD hS 1 0 rfl rfl (vp_in_nI hlt (by decide)) dX9_init_88 (fun H176 L177 hB hP' hD' hS' => ?_)
          replace hz0 : H176.size = s.heap.size + 2 := hB.1.trans hz0
          clear hP hD hS hB
          have hP : va_P (dC, dI) vwCl [(h0, .inr (8, [.ref r1, .ref r2, .ref r3, .ref r4, .ref (s.heap.size + 0), .ref (s.heap.size + 1), .int 0, .int 0])), (s.heap.size + 0, .inl (aC 0, 3051, .inl (upd (zfill zfacs i) (nI i).toNatClampNeg ((zfacP (i + 1)).toInt32)))), (s.heap.size + 1, .inl (aC 0, 9, .inl (fun _ => 0)))] H176 := hP'
          have hD : va_D A [(h0, .inr (8, [.ref r1, .ref r2, .ref r3, .ref r4, .ref (s.heap.size + 0), .ref (s.heap.size + 1), .int 0, .int 0])), (s.heap.size + 0, .inl (aC 0, 3051, .inl (upd (zfill zfacs i) (nI i).toNatClampNeg ((zfacP (i + 1)).toInt32)))), (s.heap.size + 1, .inl (aC 0, 9, .inl (fun _ => 0)))] := hD'
          have hS : va_S A s.heap H176 L177 := hS'
          clear hP' hD' hS'
          rw [hcl] at hP hD
          replace hP : va_P (dC, dI) vwCl [(h0, .inr (8, [.ref r1, .ref r2, .ref r3, .ref r4, .ref (s.heap.size + 0), .ref (s.heap.size + 1), .int 0, .int 0])), (s.heap.size + 0, .inl (aC 0, 3051, .inl (zfill zfacs (i + 1)))), (s.heap.size + 1, .inl (aC 0, 9, .inl (fun _ => 0)))] H176 := by rw [← zfill_1]; exact hP
          replace hD : va_D A [(h0, .inr (8, [.ref r1, .ref r2, .ref r3, .ref r4, .ref (s.heap.size + 0), .ref (s.heap.size + 1), .int 0, .int 0])), (s.heap.size + 0, .inl (aC 0, 3051, .inl (zfill zfacs (i + 1)))), (s.heap.size + 1, .inl (aC 0, 9, .inl (fun _ => 0)))] := by rw [← zfill_1]; exact hD
          obtain ⟨y178, ey178⟩ : ∃ z : Int32, z = (nI i) + 1 := ⟨_, rfl⟩
          refine lv_iinc (v := y178) (lv' := [(7, .int y178), (5, .long (zfacP (i + 1))), (0, .ref h0), (1, .ref r1), (2, .ref r2), (3, .ref r3), (4, .ref r4)]) hx hb dX9_init_89 hl (k := 1) rfl (by rw [ey178]; rfl) (by decide) rfl (fun ls179 hl' => ?_)
          clear hl
          have hl : lv_has ls179 8 [(7, .int y178), (5, .long (zfacP (i + 1))), (0, .ref h0), (1, .ref r1), (2, .ref r2), (3, .ref r3), (4, .ref r4)] := hl'
          clear hl'
          refine lv_goto (tgt := 48) hx hb dX9_init_92 (by decide) ?_
          have ey : y178 = nI (i + 1) := by rw [ey178]; exact nI_1 i
          rw [ey] at hl
          exact ih (i + 1) hlt (by omega) H176 L177 ls179 hz0 hP hD hS (lv_sub hl [0, 1, 2, 3, 4, 5, 6] rfl)
      · obtain rfl : i = 3051 := by omega
        refine lv_iload hx hb dX9_init_48 (lv_at hl 0 rfl) ?_
        refine lv_aload_n hx hb dX9_init_50 rfl (lv_at hl 2 rfl) ?_
        refine va_get (D := (dC, dI)) (ci := 8) (v := .ref (s.heap.size + 0)) (C := RX9) (T := TX9) (N := 8) hx hb hall zx_9 hown hK.1 hP 0 rfl rfl 4 (by decide) (hall _ zw_93) (fun _ h9 => h9) rfl dX9_init_51 ?_
        refine va_alen (v := 3051) hx hb hK.1 hP 1 0 rfl rfl rfl dX9_init_54 ?_
        refine lv_icmp_ge (tgt := 95) hx hb dX9_init_55 (by decide) (fun _ => ?_) (fun c_55_b180 => absurd (Int32.le_refl _) c_55_b180)
        refine W.widen (k := 2) (n := 3060) (Nat.le_of_ble_eq_true rfl) (Nat.le_of_ble_eq_true rfl) ?_
        rw [← hQ, hAe]
        exact W.vret hx hb hr (fun zt ht hW => ⟨⟨(), rfl, trivial, by rw [ht]; exact hP, hD, by rw [ht]; exact hz0⟩, hS.F ht⟩) hS.2.2 dX9_init_95
  exact key 3052 0 (Nat.zero_le _) (by omega) H165 L166 ls168 hz0 hP hD hS (lv_sub hl [0, 1, 2, 3, 4, 5, 6] rfl)
