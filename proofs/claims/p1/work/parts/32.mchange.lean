theorem dX16_change_0 : decode cX16_change 0 = .ok (.iload_n 2, 1) := by decide +kernel
theorem dX16_change_1 : decode cX16_change 1 = .ok (.invokestatic 551, 3) := by decide +kernel
theorem dX16_change_4 : decode cX16_change 4 = .ok (.ifCond .eq 11, 3) := by decide +kernel
theorem dX16_change_15 : decode cX16_change 15 = .ok (.iconst (-1), 1) := by decide +kernel
theorem dX16_change_16 : decode cX16_change 16 = .ok (.ireturn, 1) := by decide +kernel
theorem dX16_change_7 : decode cX16_change 7 = .ok (.iload 4, 2) := by decide +kernel
theorem dX16_change_9 : decode cX16_change 9 = .ok (.invokestatic 551, 3) := by decide +kernel
theorem dX16_change_12 : decode cX16_change 12 = .ok (.ifCond .ne 5, 3) := by decide +kernel
theorem dX16_change_17 : decode cX16_change 17 = .ok (.aload_n 0, 1) := by decide +kernel
theorem dX16_change_18 : decode cX16_change 18 = .ok (.getfield 450, 3) := by decide +kernel
theorem dX16_change_21 : decode cX16_change 21 = .ok (.iload_n 2, 1) := by decide +kernel
theorem dX16_change_22 : decode cX16_change 22 = .ok (.aaload, 1) := by decide +kernel
theorem dX16_change_23 : decode cX16_change 23 = .ok (.astore 5, 2) := by decide +kernel
theorem dX16_change_25 : decode cX16_change 25 = .ok (.aload_n 0, 1) := by decide +kernel
theorem dX16_change_26 : decode cX16_change 26 = .ok (.invokevirtual 555, 3) := by decide +kernel
theorem dX16_change_29 : decode cX16_change 29 = .ok (.iload_n 1, 1) := by decide +kernel
theorem dX16_change_30 : decode cX16_change 30 = .ok (.bipush 10, 2) := by decide +kernel
theorem dX16_change_32 : decode cX16_change 32 = .ok (.if_icmp .ne 22, 3) := by decide +kernel
theorem dX16_change_54 : decode cX16_change 54 = .ok (.aload 5, 2) := by decide +kernel
theorem dX16_change_56 : decode cX16_change 56 = .ok (.getfield 202, 3) := by decide +kernel
theorem dX16_change_59 : decode cX16_change 59 = .ok (.iconst 1, 1) := by decide +kernel
theorem dX16_change_60 : decode cX16_change 60 = .ok (.if_icmp .eq 15, 3) := by decide +kernel
theorem dX16_change_63 : decode cX16_change 63 = .ok (.aload 5, 2) := by decide +kernel
theorem dX16_change_65 : decode cX16_change 65 = .ok (.getfield 202, 3) := by decide +kernel
theorem dX16_change_68 : decode cX16_change 68 = .ok (.iconst 2, 1) := by decide +kernel
theorem dX16_change_69 : decode cX16_change 69 = .ok (.if_icmp .eq 6, 3) := by decide +kernel
theorem dX16_change_72 : decode cX16_change 72 = .ok (.bipush (-3), 2) := by decide +kernel
theorem dX16_change_74 : decode cX16_change 74 = .ok (.ireturn, 1) := by decide +kernel
set_option maxHeartbeats 4000000 in
set_option maxRecDepth 100000 in
theorem c_X16_change_out (l : Launch) (dC : Nat → ClassId) (dI : Nat → Nat → Nat) (aC : Nat → ClassId) (h0 d : Nat) (o x v z : Int32) (sz : Nat) (hxm : ¬ zok x = true) : Met l yX16_change w_X16_change ({ frames := 2, cells := 0, slots := 0, locals := 44 }) (zPre (dC, dI) aC [(h0, .inr (15, [.ref (d + 0), .int 0, .ref (d + 1), .int 0, .ref (d + 2), .ref (d + 3), .ref (d + 68), .ref (d + 77), .ref (d + 78), .int 0, .int 0, .ref (d + 79), .int 0, .int 0, .int 0, .ref (d + 80), .int 0, .int 0, .int 0, .int 0, .ref (d + 81), .ref (d + 82), .int (-1), .ref (d + 91), .int 0, .int 0, .ref (d + 92), .int 0, .ref (d + 93), .int 0, .ref (d + 94), .int 0, .ref (d + 95), .ref (d + 96), .ref (d + 97), .ref (d + 98), .int 0, .int 0, .ref (d + 99), .null, .null, .null, .null, .null, .ref (d + 148), .ref (d + 175), .ref (d + 176), .ref (d + 177), .int 0, .ref (d + 178), .ref (d + 179), .ref (d + 180), .ref (d + 185), .ref (d + 190), .ref (d + 191), .ref (d + 192), .ref (d + 193), .ref (d + 201), .ref (d + 209), .ref (d + 210), .ref (d + 211), .ref (d + 272), .ref (d + 273), .int 0, .ref (d + 274)])), (d + 81, .inl (aC 6, 12, .inr (.inr (.inr (.inr (zrefs (fun i => d + (7485 + 9 * i)) 12))))))] sz [.ref h0, .int o, .int x, .int v, .int z]) (va_Qi (fun (r : Int32) (_ : Unit) => r = -1) (fun _ zt => zt.heap.size = sz) (zN sz)) 0 0 (zN sz) := by
  refine Met.ofW (cc := cX16_change) (maxL := 12) (ret := (some .int)) (by decide) rfl ?_
  intro p e s m args below meth c s₁ B hml hv
  generalize hQ : MQ below _ _ s _ _ _ = QQ
  obtain ⟨rfl, hsz, hP, hK, hD0⟩ := hv
  have hx := B.exec
  have hb := B.bytes
  have hr := B.returns
  have hts := atoms_spec (ws := w_X16_change) B.pre
  have hall := fun (w : Cond) (h : w ∈ zAll) => hts w (List.mem_cons_of_mem _ h)
  have hown : s.vm.findClass RX16 = some m.cls := findClass_of_methodNamed B.named
  have hlocks := B.notSynchronized
  subst hsz
  have hA : ∀ q : Nat, s.heap.size ≤ q → zN s.heap.size q := fun q h => h
  have hS : va_S (zN s.heap.size) s.heap s.heap [] := va_S.rf
  have hD := hD0
  have hl := lv_entry ([.ref h0, .int o, .int x, .int v, .int z]) (n := 12) (Nat.le_of_ble_eq_true rfl)
  rw [lg_entry_eq]
  generalize (lg_sl ([.ref h0, .int o, .int x, .int v, .int z]) ++ List.replicate (12 - (lg_sl ([.ref h0, .int o, .int x, .int v, .int z])).length) Slot.unset).toArray = ls at hl ⊢
  have hl : lv_has ls 12 [(0, .ref h0), (1, .int o), (2, .int x), (3, .int v), (4, .int z)] := hl
  refine lv_iload_n hx hb dX16_change_0 rfl (lv_at hl 2 rfl) ?_
  refine zro_i hS hA (va_runS (As := [.int x]) (rest := []) ⟨hx, hb, hml, hown, hall⟩ (c_X16_isSlot l dC dI aC x s.heap.size) (va_cwS 1 hall (zgS zw_434 zw_436 zw_812 g_X16_isSlot) rfl rfl rfl (by decide +kernel) ⟨Nat.le_of_ble_eq_true rfl, Nat.le_of_ble_eq_true rfl⟩) (zPre_S (As := [.int x]) hK hP hD [] rfl (by decide +kernel)) rfl rfl hl.1 rfl (lv_room (Nat.le_of_ble_eq_true rfl)) dX16_change_1 ⟨Nat.le_of_ble_eq_true rfl, Nat.le_of_ble_eq_true rfl⟩) (fun r80001 L80002 hw hS' => ?_)
  clear hS
  have hS := hS'
  clear hS'
  obtain rfl : r80001 = 0 := hw.trans (zisl_0 hxm)
  try clear hw
  refine lv_if_eq (tgt := 15) hx hb dX16_change_4 (by decide) (fun _ => ?_) (fun c_4_b80003 => absurd (by decide) c_4_b80003)
  refine lv_iconst (v := (-1)) hx hb dX16_change_15 (by decide) ?_
  rw [← hQ]
  exact W.iret (v := (-1)) hx hb hr (fun zt ht hW => ⟨⟨(-1), (), rfl, rfl, (show zt.heap.size = s.heap.size by rw [ht])⟩, hS.F ht⟩) hS.2.2 dX16_change_16

set_option maxHeartbeats 4000000 in
set_option maxRecDepth 100000 in
theorem c_X16_change_in (l : Launch) (dC : Nat → ClassId) (dI : Nat → Nat → Nat) (aC : Nat → ClassId) (h0 d a : Nat) (o x v z : Int32) (sz : Nat) (hxm : zok x = true) (ha : a = d + (7485 + 9 * x.toNatClampNeg)) (ho : zok z = true → ¬ o = 10) : Met l yX16_change w_X16_change ({ frames := 2, cells := 0, slots := 0, locals := 44 }) (zPre (dC, dI) aC [(h0, .inr (15, [.ref (d + 0), .int 0, .ref (d + 1), .int 0, .ref (d + 2), .ref (d + 3), .ref (d + 68), .ref (d + 77), .ref (d + 78), .int 0, .int 0, .ref (d + 79), .int 0, .int 0, .int 0, .ref (d + 80), .int 0, .int 0, .int 0, .int 0, .ref (d + 81), .ref (d + 82), .int (-1), .ref (d + 91), .int 0, .int 0, .ref (d + 92), .int 0, .ref (d + 93), .int 0, .ref (d + 94), .int 0, .ref (d + 95), .ref (d + 96), .ref (d + 97), .ref (d + 98), .int 0, .int 0, .ref (d + 99), .null, .null, .null, .null, .null, .ref (d + 148), .ref (d + 175), .ref (d + 176), .ref (d + 177), .int 0, .ref (d + 178), .ref (d + 179), .ref (d + 180), .ref (d + 185), .ref (d + 190), .ref (d + 191), .ref (d + 192), .ref (d + 193), .ref (d + 201), .ref (d + 209), .ref (d + 210), .ref (d + 211), .ref (d + 272), .ref (d + 273), .int 0, .ref (d + 274)])), (d + 81, .inl (aC 6, 12, .inr (.inr (.inr (.inr (zrefs (fun i => d + (7485 + 9 * i)) 12)))))), (a, .inr (13, [.int 0, .ref (a + 1 + 0), .ref (a + 1 + 1), .int 0, .int 0, .int 0, .ref (a + 1 + 2), .ref (a + 1 + 3), .ref (a + 1 + 4), .ref (a + 1 + 5), .int 0, .ref (a + 1 + 6), .int 0, .int 0, .ref (a + 1 + 7)]))] sz [.ref h0, .int o, .int x, .int v, .int z]) (va_Qi (fun (r : Int32) (u : Unit) => r = zface1 z (-3) (-1)) (fun u zt => zB (dC, dI) [] (va_A [(h0, .inr (15, [.ref (d + 0), .int 0, .ref (d + 1), .int 0, .ref (d + 2), .ref (d + 3), .ref (d + 68), .ref (d + 77), .ref (d + 78), .int 0, .int 0, .ref (d + 79), .int 0, .int 0, .int 0, .ref (d + 80), .int 0, .int 0, .int 0, .int 0, .ref (d + 81), .ref (d + 82), .int (-1), .ref (d + 91), .int 0, .int 0, .ref (d + 92), .int 0, .ref (d + 93), .int 0, .ref (d + 94), .int 0, .ref (d + 95), .ref (d + 96), .ref (d + 97), .ref (d + 98), .int 0, .int 0, .ref (d + 99), .null, .null, .null, .null, .null, .ref (d + 148), .ref (d + 175), .ref (d + 176), .ref (d + 177), .int 0, .ref (d + 178), .ref (d + 179), .ref (d + 180), .ref (d + 185), .ref (d + 190), .ref (d + 191), .ref (d + 192), .ref (d + 193), .ref (d + 201), .ref (d + 209), .ref (d + 210), .ref (d + 211), .ref (d + 272), .ref (d + 273), .int 0, .ref (d + 274)])), (d + 81, .inl (aC 6, 12, .inr (.inr (.inr (.inr (zrefs (fun i => d + (7485 + 9 * i)) 12)))))), (a, .inr (13, [.int 0, .ref (a + 1 + 0), .ref (a + 1 + 1), .int 0, .int 0, .int 0, .ref (a + 1 + 2), .ref (a + 1 + 3), .ref (a + 1 + 4), .ref (a + 1 + 5), .int 0, .ref (a + 1 + 6), .int 0, .int 0, .ref (a + 1 + 7)]))] sz) (sz + 0) zt) (va_A [(h0, .inr (15, [.ref (d + 0), .int 0, .ref (d + 1), .int 0, .ref (d + 2), .ref (d + 3), .ref (d + 68), .ref (d + 77), .ref (d + 78), .int 0, .int 0, .ref (d + 79), .int 0, .int 0, .int 0, .ref (d + 80), .int 0, .int 0, .int 0, .int 0, .ref (d + 81), .ref (d + 82), .int (-1), .ref (d + 91), .int 0, .int 0, .ref (d + 92), .int 0, .ref (d + 93), .int 0, .ref (d + 94), .int 0, .ref (d + 95), .ref (d + 96), .ref (d + 97), .ref (d + 98), .int 0, .int 0, .ref (d + 99), .null, .null, .null, .null, .null, .ref (d + 148), .ref (d + 175), .ref (d + 176), .ref (d + 177), .int 0, .ref (d + 178), .ref (d + 179), .ref (d + 180), .ref (d + 185), .ref (d + 190), .ref (d + 191), .ref (d + 192), .ref (d + 193), .ref (d + 201), .ref (d + 209), .ref (d + 210), .ref (d + 211), .ref (d + 272), .ref (d + 273), .int 0, .ref (d + 274)])), (d + 81, .inl (aC 6, 12, .inr (.inr (.inr (.inr (zrefs (fun i => d + (7485 + 9 * i)) 12)))))), (a, .inr (13, [.int 0, .ref (a + 1 + 0), .ref (a + 1 + 1), .int 0, .int 0, .int 0, .ref (a + 1 + 2), .ref (a + 1 + 3), .ref (a + 1 + 4), .ref (a + 1 + 5), .int 0, .ref (a + 1 + 6), .int 0, .int 0, .ref (a + 1 + 7)]))] sz)) 0 0 (va_A [(h0, .inr (15, [.ref (d + 0), .int 0, .ref (d + 1), .int 0, .ref (d + 2), .ref (d + 3), .ref (d + 68), .ref (d + 77), .ref (d + 78), .int 0, .int 0, .ref (d + 79), .int 0, .int 0, .int 0, .ref (d + 80), .int 0, .int 0, .int 0, .int 0, .ref (d + 81), .ref (d + 82), .int (-1), .ref (d + 91), .int 0, .int 0, .ref (d + 92), .int 0, .ref (d + 93), .int 0, .ref (d + 94), .int 0, .ref (d + 95), .ref (d + 96), .ref (d + 97), .ref (d + 98), .int 0, .int 0, .ref (d + 99), .null, .null, .null, .null, .null, .ref (d + 148), .ref (d + 175), .ref (d + 176), .ref (d + 177), .int 0, .ref (d + 178), .ref (d + 179), .ref (d + 180), .ref (d + 185), .ref (d + 190), .ref (d + 191), .ref (d + 192), .ref (d + 193), .ref (d + 201), .ref (d + 209), .ref (d + 210), .ref (d + 211), .ref (d + 272), .ref (d + 273), .int 0, .ref (d + 274)])), (d + 81, .inl (aC 6, 12, .inr (.inr (.inr (.inr (zrefs (fun i => d + (7485 + 9 * i)) 12)))))), (a, .inr (13, [.int 0, .ref (a + 1 + 0), .ref (a + 1 + 1), .int 0, .int 0, .int 0, .ref (a + 1 + 2), .ref (a + 1 + 3), .ref (a + 1 + 4), .ref (a + 1 + 5), .int 0, .ref (a + 1 + 6), .int 0, .int 0, .ref (a + 1 + 7)]))] sz) := by
  refine Met.ofW (cc := cX16_change) (maxL := 12) (ret := (some .int)) (by decide) rfl ?_
  intro p e s m args below meth c s₁ B hml hv
  generalize hQ : MQ below _ _ s _ _ _ = QQ
  obtain ⟨rfl, hsz, hP, hK, hD0⟩ := hv
  have hx := B.exec
  have hb := B.bytes
  have hr := B.returns
  have hts := atoms_spec (ws := w_X16_change) B.pre
  have hall := fun (w : Cond) (h : w ∈ zAll) => hts w (List.mem_cons_of_mem _ h)
  have hown : s.vm.findClass RX16 = some m.cls := findClass_of_methodNamed B.named
  have hlocks := B.notSynchronized
  subst hsz
  have hD := hD0.self (sz := s.heap.size)
  generalize hAe : va_A [(h0, .inr (15, [.ref (d + 0), .int 0, .ref (d + 1), .int 0, .ref (d + 2), .ref (d + 3), .ref (d + 68), .ref (d + 77), .ref (d + 78), .int 0, .int 0, .ref (d + 79), .int 0, .int 0, .int 0, .ref (d + 80), .int 0, .int 0, .int 0, .int 0, .ref (d + 81), .ref (d + 82), .int (-1), .ref (d + 91), .int 0, .int 0, .ref (d + 92), .int 0, .ref (d + 93), .int 0, .ref (d + 94), .int 0, .ref (d + 95), .ref (d + 96), .ref (d + 97), .ref (d + 98), .int 0, .int 0, .ref (d + 99), .null, .null, .null, .null, .null, .ref (d + 148), .ref (d + 175), .ref (d + 176), .ref (d + 177), .int 0, .ref (d + 178), .ref (d + 179), .ref (d + 180), .ref (d + 185), .ref (d + 190), .ref (d + 191), .ref (d + 192), .ref (d + 193), .ref (d + 201), .ref (d + 209), .ref (d + 210), .ref (d + 211), .ref (d + 272), .ref (d + 273), .int 0, .ref (d + 274)])), (d + 81, .inl (aC 6, 12, .inr (.inr (.inr (.inr (zrefs (fun i => d + (7485 + 9 * i)) 12)))))), (a, .inr (13, [.int 0, .ref (a + 1 + 0), .ref (a + 1 + 1), .int 0, .int 0, .int 0, .ref (a + 1 + 2), .ref (a + 1 + 3), .ref (a + 1 + 4), .ref (a + 1 + 5), .int 0, .ref (a + 1 + 6), .int 0, .int 0, .ref (a + 1 + 7)]))] s.heap.size = A at hD ⊢
  have hA : ∀ q : Nat, s.heap.size ≤ q → A q := fun q h => by rw [← hAe]; exact Or.inr h
  have hS : va_S A s.heap s.heap [] := va_S.rf
  have hz0 : s.heap.size = s.heap.size + 0 := rfl
  have hl := lv_entry ([.ref h0, .int o, .int x, .int v, .int z]) (n := 12) (Nat.le_of_ble_eq_true rfl)
  rw [lg_entry_eq]
  generalize (lg_sl ([.ref h0, .int o, .int x, .int v, .int z]) ++ List.replicate (12 - (lg_sl ([.ref h0, .int o, .int x, .int v, .int z])).length) Slot.unset).toArray = ls at hl ⊢
  have hl : lv_has ls 12 [(0, .ref h0), (1, .int o), (2, .int x), (3, .int v), (4, .int z)] := hl
  refine lv_iload_n hx hb dX16_change_0 rfl (lv_at hl 2 rfl) ?_
  refine zro_i hS hA (va_runS (As := [.int x]) (rest := []) ⟨hx, hb, hml, hown, hall⟩ (c_X16_isSlot l dC dI aC x s.heap.size) (va_cwS 1 hall (zgS zw_434 zw_436 zw_812 g_X16_isSlot) rfl rfl rfl (by decide +kernel) ⟨Nat.le_of_ble_eq_true rfl, Nat.le_of_ble_eq_true rfl⟩) (zPre_S (As := [.int x]) hK hP hD [] rfl (by decide +kernel)) rfl rfl hl.1 rfl (lv_room (Nat.le_of_ble_eq_true rfl)) dX16_change_1 ⟨Nat.le_of_ble_eq_true rfl, Nat.le_of_ble_eq_true rfl⟩) (fun r80004 L80005 hw hS' => ?_)
  clear hS
  have hS := hS'
  clear hS'
  obtain rfl : r80004 = 1 := hw.trans (zisl_1 hxm)
  try clear hw
  refine lv_if_eq (tgt := 15) hx hb dX16_change_4 (by decide) (fun c_4_b80006 => absurd c_4_b80006 (by decide)) (fun _ => ?_)
  refine lv_iload hx hb dX16_change_7 (lv_at hl 4 rfl) ?_
  refine zro_i hS hA (va_runS (As := [.int z]) (rest := []) ⟨hx, hb, hml, hown, hall⟩ (c_X16_isSlot l dC dI aC z s.heap.size) (va_cwS 1 hall (zgS zw_434 zw_436 zw_812 g_X16_isSlot) rfl rfl rfl (by decide +kernel) ⟨Nat.le_of_ble_eq_true rfl, Nat.le_of_ble_eq_true rfl⟩) (zPre_S (As := [.int z]) hK hP hD [] rfl (by decide +kernel)) rfl rfl hl.1 rfl (lv_room (Nat.le_of_ble_eq_true rfl)) dX16_change_9 ⟨Nat.le_of_ble_eq_true rfl, Nat.le_of_ble_eq_true rfl⟩) (fun r80007 L80008 hw hS' => ?_)
  clear hS
  have hS := hS'
  clear hS'
  by_cases z80009 : zok z = true
  · obtain rfl : r80007 = 1 := hw.trans (zisl_1 z80009)
    try clear hw
    show W p l e _ s m _ below meth c _ _ _ _ QQ (F0 m 12 ls [.int 1])
    refine lv_if_ne (tgt := 17) hx hb dX16_change_12 (by decide) (fun _ => ?_) (fun c_12_b80010 => absurd c_12_b80010 (by decide))
    refine lv_aload_n hx hb dX16_change_17 rfl (lv_at hl 0 rfl) ?_
    refine va_get (D := (dC, dI)) (ci := 15) (v := .ref (d + 81)) (C := RX16) (T := TX16) (N := 65) hx hb hall zx_16 hown hK.1 hP 0 rfl rfl 20 (by decide) (hall _ zw_336) (fun _ h9 => h9) rfl dX16_change_18 ?_
    refine lv_iload_n hx hb dX16_change_21 rfl (lv_at hl 2 rfl) ?_
    refine zaldr hx hb hK.1 hP 1 6 rfl rfl (zok_in hxm) (zrefs_in (zok_in hxm)) dX16_change_22 ?_
    rw [← ha]
    show W p l e _ s m _ below meth c _ _ _ _ QQ (F0 m 23 ls [.ref a])
    refine lv_astore (lv' := [(5, .ref a), (0, .ref h0), (1, .int o), (2, .int x), (3, .int v), (4, .int z)]) hx hb dX16_change_23 hl (by decide) rfl (fun ls80011 hl' => ?_)
    clear hl
    have hl : lv_has ls80011 12 [(5, .ref a), (0, .ref h0), (1, .int o), (2, .int x), (3, .int v), (4, .int z)] := hl'
    clear hl'
    refine lv_aload_n hx hb dX16_change_25 rfl (lv_at hl 1 rfl) ?_
    refine zrw_v (k := 0) (wr := [(d + 81, .inl (aC 6, 12, .inr (.inr (.inr (.inr (zrefs (fun i => d + (7485 + 9 * i)) 12)))))), (a, .inr (13, [.int 0, .ref (a + 1 + 0), .ref (a + 1 + 1), .int 0, .int 0, .int 0, .ref (a + 1 + 2), .ref (a + 1 + 3), .ref (a + 1 + 4), .ref (a + 1 + 5), .int 0, .ref (a + 1 + 6), .int 0, .int 0, .ref (a + 1 + 7)]))]) (wc := [(h0, .inr (15, [.ref (d + 0), .int 0, .ref (d + 1), .int 0, .ref (d + 2), .ref (d + 3), .ref (d + 68), .ref (d + 77), .ref (d + 78), .int 0, .int 0, .ref (d + 79), .int 0, .int 0, .int 0, .ref (d + 80), .int 0, .int 0, .int 0, .int 0, .ref (d + 81), .ref (d + 82), .int (-1), .ref (d + 91), .int 0, .int 0, .ref (d + 92), .int 0, .ref (d + 93), .int 0, .ref (d + 94), .int 0, .ref (d + 95), .ref (d + 96), .ref (d + 97), .ref (d + 98), .int 0, .int 0, .ref (d + 99), .null, .null, .null, .null, .null, .ref (d + 148), .ref (d + 175), .ref (d + 176), .ref (d + 177), .int 0, .ref (d + 178), .ref (d + 179), .ref (d + 180), .ref (d + 185), .ref (d + 190), .ref (d + 191), .ref (d + 192), .ref (d + 193), .ref (d + 201), .ref (d + 209), .ref (d + 210), .ref (d + 211), .ref (d + 272), .ref (d + 273), .int 0, .ref (d + 274)]))]) (w1 := fun _ => [(h0, .inr (15, [.ref (d + 0), .int 0, .ref (d + 1), .int 0, .ref (d + 2), .ref (d + 3), .ref (d + 68), .ref (d + 77), .ref (d + 78), .int 0, .int 0, .ref (d + 79), .int 0, .int 0, .int 0, .ref (d + 80), .int 0, .int 0, .int 0, .int 0, .ref (d + 81), .ref (d + 82), .int (-1), .ref (d + 91), .int 0, .int 0, .ref (d + 92), .int 0, .ref (d + 93), .int 0, .ref (d + 94), .int 0, .ref (d + 95), .ref (d + 96), .ref (d + 97), .ref (d + 98), .int 0, .int 0, .ref (d + 99), .null, .null, .null, .null, .null, .ref (d + 148), .ref (d + 175), .ref (d + 176), .ref (d + 177), .int 0, .ref (d + 178), .ref (d + 179), .ref (d + 180), .ref (d + 185), .ref (d + 190), .ref (d + 191), .ref (d + 192), .ref (d + 193), .ref (d + 201), .ref (d + 209), .ref (d + 210), .ref (d + 211), .ref (d + 272), .ref (d + 273), .int 0, .ref (d + 274)]))]) hP hD hS hA [0] [1, 2] rfl rfl (by decide +kernel) (by decide +kernel) (va_runV (As := []) (rest := []) ⟨hx, hb, hml, hown, hall⟩ (c_X16_begin l dC dI aC h0 d s.heap.size) (cwV 0 hall (zgV zw_437 zw_439 zw_440 zw_812 g_X16_begin rfl) rfl rfl rfl (by decide +kernel) ⟨Nat.le_of_ble_eq_true rfl, Nat.le_of_ble_eq_true rfl⟩) (zPre_V (As := []) hK hP hD [0] rfl (by decide +kernel) (ci := 15) (q0 := 0) rfl rfl) rfl rfl hl.1 rfl (lv_room (Nat.le_of_ble_eq_true rfl)) dX16_change_26 ⟨Nat.le_of_ble_eq_true rfl, Nat.le_of_ble_eq_true rfl⟩) (fun u H80013 L80014 hw hz hk hP' hD' hS' => ?_)
    try rw [hz0] at hP'
    try rw [hz0] at hD'
    rw [hz0] at hz
    replace hz0 : H80013.size = s.heap.size + 0 := by omega
    clear hz
    clear hP hD hS hk
    have hP : va_P (dC, dI) vwCl [(d + 81, .inl (aC 6, 12, .inr (.inr (.inr (.inr (zrefs (fun i => d + (7485 + 9 * i)) 12)))))), (a, .inr (13, [.int 0, .ref (a + 1 + 0), .ref (a + 1 + 1), .int 0, .int 0, .int 0, .ref (a + 1 + 2), .ref (a + 1 + 3), .ref (a + 1 + 4), .ref (a + 1 + 5), .int 0, .ref (a + 1 + 6), .int 0, .int 0, .ref (a + 1 + 7)])), (h0, .inr (15, [.ref (d + 0), .int 0, .ref (d + 1), .int 0, .ref (d + 2), .ref (d + 3), .ref (d + 68), .ref (d + 77), .ref (d + 78), .int 0, .int 0, .ref (d + 79), .int 0, .int 0, .int 0, .ref (d + 80), .int 0, .int 0, .int 0, .int 0, .ref (d + 81), .ref (d + 82), .int (-1), .ref (d + 91), .int 0, .int 0, .ref (d + 92), .int 0, .ref (d + 93), .int 0, .ref (d + 94), .int 0, .ref (d + 95), .ref (d + 96), .ref (d + 97), .ref (d + 98), .int 0, .int 0, .ref (d + 99), .null, .null, .null, .null, .null, .ref (d + 148), .ref (d + 175), .ref (d + 176), .ref (d + 177), .int 0, .ref (d + 178), .ref (d + 179), .ref (d + 180), .ref (d + 185), .ref (d + 190), .ref (d + 191), .ref (d + 192), .ref (d + 193), .ref (d + 201), .ref (d + 209), .ref (d + 210), .ref (d + 211), .ref (d + 272), .ref (d + 273), .int 0, .ref (d + 274)]))] H80013 := hP'
    have hD : va_D A [(d + 81, .inl (aC 6, 12, .inr (.inr (.inr (.inr (zrefs (fun i => d + (7485 + 9 * i)) 12)))))), (a, .inr (13, [.int 0, .ref (a + 1 + 0), .ref (a + 1 + 1), .int 0, .int 0, .int 0, .ref (a + 1 + 2), .ref (a + 1 + 3), .ref (a + 1 + 4), .ref (a + 1 + 5), .int 0, .ref (a + 1 + 6), .int 0, .int 0, .ref (a + 1 + 7)])), (h0, .inr (15, [.ref (d + 0), .int 0, .ref (d + 1), .int 0, .ref (d + 2), .ref (d + 3), .ref (d + 68), .ref (d + 77), .ref (d + 78), .int 0, .int 0, .ref (d + 79), .int 0, .int 0, .int 0, .ref (d + 80), .int 0, .int 0, .int 0, .int 0, .ref (d + 81), .ref (d + 82), .int (-1), .ref (d + 91), .int 0, .int 0, .ref (d + 92), .int 0, .ref (d + 93), .int 0, .ref (d + 94), .int 0, .ref (d + 95), .ref (d + 96), .ref (d + 97), .ref (d + 98), .int 0, .int 0, .ref (d + 99), .null, .null, .null, .null, .null, .ref (d + 148), .ref (d + 175), .ref (d + 176), .ref (d + 177), .int 0, .ref (d + 178), .ref (d + 179), .ref (d + 180), .ref (d + 185), .ref (d + 190), .ref (d + 191), .ref (d + 192), .ref (d + 193), .ref (d + 201), .ref (d + 209), .ref (d + 210), .ref (d + 211), .ref (d + 272), .ref (d + 273), .int 0, .ref (d + 274)]))] := hD'
    have hS : va_S A s.heap H80013 L80014 := hS'
    clear hP' hD' hS'
    refine lv_iload_n hx hb dX16_change_29 rfl (lv_at hl 2 rfl) ?_
    refine lv_bipush (v := 10) hx hb dX16_change_30 (by decide) ?_
    refine lv_icmp_ne (tgt := 54) hx hb dX16_change_32 (by decide) (fun _ => ?_) (fun c_32_b80015 => absurd c_32_b80015 (ho z80009))
    show W p l e _ s m _ below meth c _ _ _ _ QQ (F0 m 54 ls80011 [])
    refine lv_aload hx hb dX16_change_54 (lv_at hl 0 rfl) ?_
    refine va_get (D := (dC, dI)) (ci := 13) (v := .int 0) (C := RX14) (T := TX14) (N := 15) hx hb hall zx_14 hown hK.1 hP 1 rfl rfl 0 (by decide) (hall _ zw_402) (fun _ h9 => h9) rfl dX16_change_56 ?_
    refine lv_iconst (v := 1) hx hb dX16_change_59 (by decide) ?_
    refine lv_icmp_eq (tgt := 75) hx hb dX16_change_60 (by decide) (fun c_60_b80016 => absurd c_60_b80016 (by decide)) (fun _ => ?_)
    refine lv_aload hx hb dX16_change_63 (lv_at hl 0 rfl) ?_
    show W p l e _ s m _ below meth c _ _ _ _ QQ (F0 m 65 ls80011 [.ref a])
    refine va_get (D := (dC, dI)) (ci := 13) (v := .int 0) (C := RX14) (T := TX14) (N := 15) hx hb hall zx_14 hown hK.1 hP 1 rfl rfl 0 (by decide) (hall _ zw_402) (fun _ h9 => h9) rfl dX16_change_65 ?_
    refine lv_iconst (v := 2) hx hb dX16_change_68 (by decide) ?_
    refine lv_icmp_eq (tgt := 75) hx hb dX16_change_69 (by decide) (fun c_69_b80017 => absurd c_69_b80017 (by decide)) (fun _ => ?_)
    refine lv_bipush (v := (-3)) hx hb dX16_change_72 (by decide) ?_
    refine W.widen (k := 0) (n := 0) (Nat.le_of_ble_eq_true rfl) (Nat.le_of_ble_eq_true rfl) ?_
    rw [← hQ, hAe]
    have hP := zsubP (wc := []) hP [] rfl
    have hD := hD.sub (ws' := []) [] (by decide) rfl
    exact W.iret (v := (-3)) hx hb hr (fun zt ht hW => ⟨⟨(-3), (), rfl, by simp [zface1, z80009], by rw [ht]; exact hP, hD, by rw [ht]; exact hz0⟩, hS.F ht⟩) hS.2.2 dX16_change_74
  · obtain rfl : r80007 = 0 := hw.trans (zisl_0 z80009)
    try clear hw
    show W p l e _ s m _ below meth c _ _ _ _ QQ (F0 m 12 ls [.int 0])
    refine lv_if_ne (tgt := 17) hx hb dX16_change_12 (by decide) (fun c_12_b80018 => absurd (by decide) c_12_b80018) (fun _ => ?_)
    refine lv_iconst (v := (-1)) hx hb dX16_change_15 (by decide) ?_
    refine W.widen (k := 0) (n := 0) (Nat.le_of_ble_eq_true rfl) (Nat.le_of_ble_eq_true rfl) ?_
    rw [← hQ, hAe]
    have hP := zsubP (wc := []) hP [] rfl
    have hD := hD.sub (ws' := []) [] (by decide) rfl
    exact W.iret (v := (-1)) hx hb hr (fun zt ht hW => ⟨⟨(-1), (), rfl, by simp [zface1, z80009], by rw [ht]; exact hP, hD, by rw [ht]; exact hz0⟩, hS.F ht⟩) hS.2.2 dX16_change_16
