theorem dX16_again_0 : decode cX16_again 0 = .ok (.aload_n 0, 1) := by decide +kernel
theorem dX16_again_1 : decode cX16_again 1 = .ok (.getfield 597, 3) := by decide +kernel
theorem dX16_again_4 : decode cX16_again 4 = .ok (.sipush 400, 3) := by decide +kernel
theorem dX16_again_7 : decode cX16_again 7 = .ok (.if_icmp .le 6, 3) := by decide +kernel
theorem dX16_again_13 : decode cX16_again 13 = .ok (.aload_n 0, 1) := by decide +kernel
theorem dX16_again_14 : decode cX16_again 14 = .ok (.getfield 459, 3) := by decide +kernel
theorem dX16_again_17 : decode cX16_again 17 = .ok (.iconst 0, 1) := by decide +kernel
theorem dX16_again_18 : decode cX16_again 18 = .ok (.aload_n 0, 1) := by decide +kernel
theorem dX16_again_19 : decode cX16_again 19 = .ok (.getfield 339, 3) := by decide +kernel
theorem dX16_again_22 : decode cX16_again 22 = .ok (.iconst 0, 1) := by decide +kernel
theorem dX16_again_23 : decode cX16_again 23 = .ok (.aload_n 0, 1) := by decide +kernel
theorem dX16_again_24 : decode cX16_again 24 = .ok (.getfield 597, 3) := by decide +kernel
theorem dX16_again_27 : decode cX16_again 27 = .ok (.invokestatic 34, 3) := by decide +kernel
theorem dX16_again_30 : decode cX16_again 30 = .ok (.aload_n 0, 1) := by decide +kernel
theorem dX16_again_31 : decode cX16_again 31 = .ok (.aload_n 0, 1) := by decide +kernel
theorem dX16_again_32 : decode cX16_again 32 = .ok (.getfield 597, 3) := by decide +kernel
theorem dX16_again_35 : decode cX16_again 35 = .ok (.putfield 336, 3) := by decide +kernel
theorem dX16_again_38 : decode cX16_again 38 = .ok (.aload_n 0, 1) := by decide +kernel
theorem dX16_again_39 : decode cX16_again 39 = .ok (.getfield 336, 3) := by decide +kernel
theorem dX16_again_42 : decode cX16_again 42 = .ok (.ireturn, 1) := by decide +kernel
section ZCY
variable {p : Program} {l : Launch} {e : Env} {R : Room} {s : State} {m : MethodId} {args : Array Value} {below : List Frame} {meth : Method} {c : Code} {H : Heap} {locs : List Loc} {cells slots : Nat} {Q : State → Prop}
variable {cc : ByteArray} {pc : Nat} {ls : Array Slot} {rest : List Value} {D : va_G} {cl : List vw_C} {A : Nat → Prop} {tys : List (ClassId × FieldType)} {ws : va_W} {H0 : Heap}
theorem znn {z : Int32} (hz : ¬ z < 0) : z.toInt = (z.toNatClampNeg : Int) := by
  have h0 : (0 : Int) ≤ z.toInt := by simpa using Int32.le_iff_toInt_le.mp (Int32.not_lt.mp hz)
  show z.toInt = ((z.toInt.toNat : Nat) : Int)
  omega
/-- System.arraycopy between two arrays of numbers; the heap keeps its size and all other cells -/
theorem zcopyi (hexec : p.tables.exec = Jvm.exec) (hb : c.code = cc) (hml : c.maxLocals = ls.size) {own : String} {index : Nat} (hown : s.vm.findClass own = some m.cls) (w1 : (Cond.methodLink own index arraycopyName).before args s = true) (w2 : (Cond.native arraycopyName).before args s = true) (w3 : (Cond.static arraycopyName).before args s = true) (w4 : (Cond.initialized "java/lang/System").before args s = true)
    (hK : va_K D cl tys s) (hP : va_P D cl ws H) (hD : va_D A ws) (hS : va_S A H0 H locs) (qf qt tf tt : Nat) {af at_ : Nat} {cf ct : ClassId} {nf nt N : Nat} {f g : Nat → Int32} {ty : FieldType} (hf : ws[qf]? = some (af, .inl (cf, nf, .inl f))) (ht : ws[qt]? = some (at_, .inl (ct, nt, .inl g))) (htf : tys[tf]? = some (cf, ty)) (htt : tys[tt]? = some (ct, ty)) (hprim : refKind ty = false)
    {n : Int32} (hn : ¬ n < 0) (hN : n.toNatClampNeg = N) (h4 : N ≤ nf) (h5 : N ≤ nt) (hfit : ∀ i, i < N → fits ty (.int (f i)) = true)
    (hframes : 1 ≤ R.frames) (hlocals : (rest.map fun v => v.category).sum + (nativeFrameWords "java/lang/System" "arraycopy" 5 + 11) ≤ R.locals) (hdg : decode cc pc = .ok (.invokestatic index, 3))
    (kk : ∀ (H1 : Heap) (locs1 : List Loc), zBut at_ H H1 → va_P D cl (ws.set qt (at_, .inl (ct, nt, .inl (va_cpy f g 0 0 N)))) H1 → va_D A (ws.set qt (at_, .inl (ct, nt, .inl (va_cpy f g 0 0 N)))) → va_S A H0 H1 locs1 → W p l e R s m args below meth c H1 locs1 cells slots Q (F0 m (pc + 3) ls rest)) : W p l e R s m args below meth c H locs cells slots Q (F0 m pc ls (.int n :: .int 0 :: .ref at_ :: .int 0 :: .ref af :: rest)) := by
  subst hN
  have z0 : (0 : Int32).toNatClampNeg = 0 := by decide
  have zi : (0 : Int32).toInt = 0 := by decide
  intro T hT X
  have gf : H[af]? = some (vp_cell cf (nf, .inl f)) := hP qf _ hf
  have gt : H[at_]? = some (vp_cell ct (nt, .inl g)) := hP qt _ ht
  obtain ⟨-, kf, hkf, cmf, hkkf⟩ := (hK.2 tf _ htf).1 nf (fun j => .int (f j))
  obtain ⟨-, kt, hkt, cmt, hkkt⟩ := (hK.2 tt _ htt).1 nt (fun j => .int (g j))
  obtain ⟨vm', X', step⟩ := X.arraycopy hexec hown w1 w2 w3 w4 (src := af) (dst := at_) (cs := vp_cell cf (nf, .inl f)) (cd := vp_cell ct (nt, .inl g)) (srcPos := 0) (destPos := 0) (n := n) (by rw [hT]; exact gf) (by rw [hT]; exact gt)
    (fun _ h => by cases h) (fun _ h => by cases h) (fun h => by cases h) (fun h => by cases h) hkf hkt hkkf hkkt (by simp [hprim]) (by decide) (by decide) hn
    (by rw [zi, znn hn]; show ¬ _ > ((arrV cf nf (fun j => .int (f j))).slots.size : Int); rw [arrV_size]; omega)
    (by rw [zi, znn hn]; show ¬ _ > ((arrV ct nt (fun j => .int (g j))).slots.size : Int); rw [arrV_size]; omega)
    (fun vm₁ _ i hi => by
      have e : (vp_cell cf (nf, .inl f)).slots.getD ((0 : Int32).toNatClampNeg + i) .null = .int (f i) := by
        rw [z0, Nat.zero_add]
        show (arrV cf nf (fun j => .int (f j))).slots.getD i .null = _
        rw [Array.getD_eq_getD_getElem?, arrV_read _ _ (by omega)]
        rfl
      rw [e]
      exact ⟨hfit i hi, trivial⟩)
    (g := F0 m pc ls (.int n :: .int 0 :: .ref at_ :: .int 0 :: .ref af :: rest)) rfl (by rw [hml]) (rest := rest) rfl (by rw [hb]; exact hdg) hframes (by show 2 * 0 + _ + _ ≤ _; omega)
  have ec : copied (vp_cell cf (nf, .inl f)) (vp_cell ct (nt, .inl g)) 0 0 n = vp_cell ct (nt, .inl (va_cpy f g 0 0 n.toNatClampNeg)) := va_copied (fun z => .int z) cf ct f g (by omega)
  rw [ec] at X' step
  have hl : at_ < H.size := (Array.getElem?_eq_some_iff.mp gt).1
  generalize hC : vp_cell ct (nt, .inl (va_cpy f g 0 0 n.toNatClampNeg)) = C at X' step
  have hh : ((T.setVm vm').setCell at_ C).heap = H.setIfInBounds at_ C := by rw [← hT]; rfl
  have oq : ∀ q : Nat, q ≠ at_ → (H.setIfInBounds at_ C)[q]? = H[q]? := fun q hq => by simp [Array.getElem?_setIfInBounds, Ne.symm hq]
  have sz : (H.setIfInBounds at_ C).size = H.size := by simp
  obtain ⟨t, a1, b1⟩ := kk _ _ ⟨sz, oq⟩ (hP.set hD ht (show (H.setIfInBounds at_ C)[at_]? = some (vp_cell ct (nt, .inl (va_cpy f g 0 0 n.toNatClampNeg))) by rw [hC]; simp [Array.getElem?_setIfInBounds, hl]) oq) (hD.set ht) ⟨by rw [sz]; exact hS.1, fun q g1 g2 => by
      rw [oq q (fun e => g2 (by rw [e]; exact hD.2 qt _ ht))]
      exact hS.2.1 q g1 g2, fun q hq => by
      rcases List.mem_append.mp hq with h | h
      · exact hS.2.2 q h
      · obtain ⟨z, -, hz⟩ := List.mem_map.mp h
        rw [← hz]
        exact hD.2 qt _ ht⟩ _ hh X'
  exact ⟨t, step t a1, b1⟩
end ZCY

set_option maxHeartbeats 4000000 in
set_option maxRecDepth 100000 in
theorem c_X16_again (l : Launch) (dC : Nat → ClassId) (dI : Nat → Nat → Nat) (aC : Nat → ClassId) (h0 d : Nat) (sz : Nat) : Met l yX16_again w_X16_again ({ frames := 1, cells := 0, slots := 0, locals := 60 }) (zPre (dC, dI) aC [(h0, .inr (15, [.ref (d + 0), .int 0, .ref (d + 1), .int 0, .ref (d + 2), .ref (d + 3), .ref (d + 68), .ref (d + 77), .ref (d + 78), .int 0, .int 0, .ref (d + 79), .int 0, .int 0, .int 0, .ref (d + 80), .int 0, .int 0, .int 0, .int 0, .ref (d + 81), .ref (d + 82), .int (-1), .ref (d + 91), .int 0, .int 0, .ref (d + 92), .int 0, .ref (d + 93), .int 0, .ref (d + 94), .int 0, .ref (d + 95), .ref (d + 96), .ref (d + 97), .ref (d + 98), .int 0, .int 0, .ref (d + 99), .null, .null, .null, .null, .null, .ref (d + 148), .ref (d + 175), .ref (d + 176), .ref (d + 177), .int 0, .ref (d + 178), .ref (d + 179), .ref (d + 180), .ref (d + 185), .ref (d + 190), .ref (d + 191), .ref (d + 192), .ref (d + 193), .ref (d + 201), .ref (d + 209), .ref (d + 210), .ref (d + 211), .ref (d + 272), .ref (d + 273), .int 0, .ref (d + 274)])), (d + 79, .inl (aC 1, 400, .inl (fun _ => 0))), (d + 91, .inl (aC 1, 4000, .inl (fun _ => 0)))] sz [.ref h0]) (va_Qi (fun (r : Int32) (u : Unit) => r = 0) (fun u zt => zB (dC, dI) [] (va_A [(h0, .inr (15, [.ref (d + 0), .int 0, .ref (d + 1), .int 0, .ref (d + 2), .ref (d + 3), .ref (d + 68), .ref (d + 77), .ref (d + 78), .int 0, .int 0, .ref (d + 79), .int 0, .int 0, .int 0, .ref (d + 80), .int 0, .int 0, .int 0, .int 0, .ref (d + 81), .ref (d + 82), .int (-1), .ref (d + 91), .int 0, .int 0, .ref (d + 92), .int 0, .ref (d + 93), .int 0, .ref (d + 94), .int 0, .ref (d + 95), .ref (d + 96), .ref (d + 97), .ref (d + 98), .int 0, .int 0, .ref (d + 99), .null, .null, .null, .null, .null, .ref (d + 148), .ref (d + 175), .ref (d + 176), .ref (d + 177), .int 0, .ref (d + 178), .ref (d + 179), .ref (d + 180), .ref (d + 185), .ref (d + 190), .ref (d + 191), .ref (d + 192), .ref (d + 193), .ref (d + 201), .ref (d + 209), .ref (d + 210), .ref (d + 211), .ref (d + 272), .ref (d + 273), .int 0, .ref (d + 274)])), (d + 79, .inl (aC 1, 400, .inl (fun _ => 0))), (d + 91, .inl (aC 1, 4000, .inl (fun _ => 0)))] sz) (sz + 0) zt) (va_A [(h0, .inr (15, [.ref (d + 0), .int 0, .ref (d + 1), .int 0, .ref (d + 2), .ref (d + 3), .ref (d + 68), .ref (d + 77), .ref (d + 78), .int 0, .int 0, .ref (d + 79), .int 0, .int 0, .int 0, .ref (d + 80), .int 0, .int 0, .int 0, .int 0, .ref (d + 81), .ref (d + 82), .int (-1), .ref (d + 91), .int 0, .int 0, .ref (d + 92), .int 0, .ref (d + 93), .int 0, .ref (d + 94), .int 0, .ref (d + 95), .ref (d + 96), .ref (d + 97), .ref (d + 98), .int 0, .int 0, .ref (d + 99), .null, .null, .null, .null, .null, .ref (d + 148), .ref (d + 175), .ref (d + 176), .ref (d + 177), .int 0, .ref (d + 178), .ref (d + 179), .ref (d + 180), .ref (d + 185), .ref (d + 190), .ref (d + 191), .ref (d + 192), .ref (d + 193), .ref (d + 201), .ref (d + 209), .ref (d + 210), .ref (d + 211), .ref (d + 272), .ref (d + 273), .int 0, .ref (d + 274)])), (d + 79, .inl (aC 1, 400, .inl (fun _ => 0))), (d + 91, .inl (aC 1, 4000, .inl (fun _ => 0)))] sz)) 0 0 (va_A [(h0, .inr (15, [.ref (d + 0), .int 0, .ref (d + 1), .int 0, .ref (d + 2), .ref (d + 3), .ref (d + 68), .ref (d + 77), .ref (d + 78), .int 0, .int 0, .ref (d + 79), .int 0, .int 0, .int 0, .ref (d + 80), .int 0, .int 0, .int 0, .int 0, .ref (d + 81), .ref (d + 82), .int (-1), .ref (d + 91), .int 0, .int 0, .ref (d + 92), .int 0, .ref (d + 93), .int 0, .ref (d + 94), .int 0, .ref (d + 95), .ref (d + 96), .ref (d + 97), .ref (d + 98), .int 0, .int 0, .ref (d + 99), .null, .null, .null, .null, .null, .ref (d + 148), .ref (d + 175), .ref (d + 176), .ref (d + 177), .int 0, .ref (d + 178), .ref (d + 179), .ref (d + 180), .ref (d + 185), .ref (d + 190), .ref (d + 191), .ref (d + 192), .ref (d + 193), .ref (d + 201), .ref (d + 209), .ref (d + 210), .ref (d + 211), .ref (d + 272), .ref (d + 273), .int 0, .ref (d + 274)])), (d + 79, .inl (aC 1, 400, .inl (fun _ => 0))), (d + 91, .inl (aC 1, 4000, .inl (fun _ => 0)))] sz) := by
  refine Met.ofW (cc := cX16_again) (maxL := 1) (ret := (some .int)) (by decide) rfl ?_
  intro p e s m args below meth c s₁ B hml hv
  generalize hQ : MQ below _ _ s _ _ _ = QQ
  obtain ⟨rfl, hsz, hP, hK, hD0⟩ := hv
  have hx := B.exec
  have hb := B.bytes
  have hr := B.returns
  have hts := atoms_spec (ws := w_X16_again) B.pre
  have hall := fun (w : Cond) (h : w ∈ zAll) => hts w (List.mem_cons_of_mem _ h)
  have hown : s.vm.findClass RX16 = some m.cls := findClass_of_methodNamed B.named
  have hlocks := B.notSynchronized
  subst hsz
  have hD := hD0.self (sz := s.heap.size)
  generalize hAe : va_A [(h0, .inr (15, [.ref (d + 0), .int 0, .ref (d + 1), .int 0, .ref (d + 2), .ref (d + 3), .ref (d + 68), .ref (d + 77), .ref (d + 78), .int 0, .int 0, .ref (d + 79), .int 0, .int 0, .int 0, .ref (d + 80), .int 0, .int 0, .int 0, .int 0, .ref (d + 81), .ref (d + 82), .int (-1), .ref (d + 91), .int 0, .int 0, .ref (d + 92), .int 0, .ref (d + 93), .int 0, .ref (d + 94), .int 0, .ref (d + 95), .ref (d + 96), .ref (d + 97), .ref (d + 98), .int 0, .int 0, .ref (d + 99), .null, .null, .null, .null, .null, .ref (d + 148), .ref (d + 175), .ref (d + 176), .ref (d + 177), .int 0, .ref (d + 178), .ref (d + 179), .ref (d + 180), .ref (d + 185), .ref (d + 190), .ref (d + 191), .ref (d + 192), .ref (d + 193), .ref (d + 201), .ref (d + 209), .ref (d + 210), .ref (d + 211), .ref (d + 272), .ref (d + 273), .int 0, .ref (d + 274)])), (d + 79, .inl (aC 1, 400, .inl (fun _ => 0))), (d + 91, .inl (aC 1, 4000, .inl (fun _ => 0)))] s.heap.size = A at hD ⊢
  have hA : ∀ q : Nat, s.heap.size ≤ q → A q := fun q h => by rw [← hAe]; exact Or.inr h
  have hS : va_S A s.heap s.heap [] := va_S.rf
  have hz0 : s.heap.size = s.heap.size + 0 := rfl
  have hl := lv_entry ([.ref h0]) (n := 1) (Nat.le_of_ble_eq_true rfl)
  rw [lg_entry_eq]
  generalize (lg_sl ([.ref h0]) ++ List.replicate (1 - (lg_sl ([.ref h0])).length) Slot.unset).toArray = ls at hl ⊢
  have hl : lv_has ls 1 [(0, .ref h0)] := hl
  refine lv_aload_n hx hb dX16_again_0 rfl (lv_at hl 0 rfl) ?_
  refine va_get (D := (dC, dI)) (ci := 15) (v := .int 0) (C := RX16) (T := TX16) (N := 65) hx hb hall zx_16 hown hK.1 hP 0 rfl rfl 24 (by decide) (hall _ zw_450) (fun _ h9 => h9) rfl dX16_again_1 ?_
  refine lv_sipush (v := 400) hx hb dX16_again_4 (by decide) ?_
  refine lv_icmp_le (tgt := 13) hx hb dX16_again_7 (by decide) (fun _ => ?_) (fun c_7_b90001 => absurd (by decide) c_7_b90001)
  refine lv_aload_n hx hb dX16_again_13 rfl (lv_at hl 0 rfl) ?_
  show W p l e _ s m _ below meth c _ _ _ _ QQ (F0 m 14 ls [.ref h0])
  refine va_get (D := (dC, dI)) (ci := 15) (v := .ref (d + 91)) (C := RX16) (T := TX16) (N := 65) hx hb hall zx_16 hown hK.1 hP 0 rfl rfl 23 (by decide) (hall _ zw_339) (fun _ h9 => h9) rfl dX16_again_14 ?_
  refine lv_iconst (v := 0) hx hb dX16_again_17 (by decide) ?_
  refine lv_aload_n hx hb dX16_again_18 rfl (lv_at hl 0 rfl) ?_
  refine va_get (D := (dC, dI)) (ci := 15) (v := .ref (d + 79)) (C := RX16) (T := TX16) (N := 65) hx hb hall zx_16 hown hK.1 hP 0 rfl rfl 11 (by decide) (hall _ zw_334) (fun _ h9 => h9) rfl dX16_again_19 ?_
  refine lv_iconst (v := 0) hx hb dX16_again_22 (by decide) ?_
  show W p l e _ s m _ below meth c _ _ _ _ QQ (F0 m 23 ls [.int 0, .ref (d + 79), .int 0, .ref (d + 91)])
  refine lv_aload_n hx hb dX16_again_23 rfl (lv_at hl 0 rfl) ?_
  refine va_get (D := (dC, dI)) (ci := 15) (v := .int 0) (C := RX16) (T := TX16) (N := 65) hx hb hall zx_16 hown hK.1 hP 0 rfl rfl 24 (by decide) (hall _ zw_450) (fun _ h9 => h9) rfl dX16_again_24 ?_
  refine zcopyi (N := 0) hx hb (hml.trans hl.1.symm) hown (hall _ zw_404) (hall _ zw_405) (hall _ zw_406) (hall _ zw_814) hK.1 hP hD hS 2 1 1 1 rfl rfl rfl rfl rfl (by decide) (by decide) (Nat.le_of_ble_eq_true rfl) (Nat.le_of_ble_eq_true rfl) (fun i h => absurd h (by omega)) (Nat.le_of_ble_eq_true rfl) (by decide +kernel) dX16_again_27 (fun H90002 L90003 hB hP' hD' hS' => ?_)
  replace hz0 : H90002.size = s.heap.size + 0 := hB.1.trans hz0
  clear hP hD hS hB
  have hP : va_P (dC, dI) vwCl [(h0, .inr (15, [.ref (d + 0), .int 0, .ref (d + 1), .int 0, .ref (d + 2), .ref (d + 3), .ref (d + 68), .ref (d + 77), .ref (d + 78), .int 0, .int 0, .ref (d + 79), .int 0, .int 0, .int 0, .ref (d + 80), .int 0, .int 0, .int 0, .int 0, .ref (d + 81), .ref (d + 82), .int (-1), .ref (d + 91), .int 0, .int 0, .ref (d + 92), .int 0, .ref (d + 93), .int 0, .ref (d + 94), .int 0, .ref (d + 95), .ref (d + 96), .ref (d + 97), .ref (d + 98), .int 0, .int 0, .ref (d + 99), .null, .null, .null, .null, .null, .ref (d + 148), .ref (d + 175), .ref (d + 176), .ref (d + 177), .int 0, .ref (d + 178), .ref (d + 179), .ref (d + 180), .ref (d + 185), .ref (d + 190), .ref (d + 191), .ref (d + 192), .ref (d + 193), .ref (d + 201), .ref (d + 209), .ref (d + 210), .ref (d + 211), .ref (d + 272), .ref (d + 273), .int 0, .ref (d + 274)])), (d + 79, .inl (aC 1, 400, .inl (va_cpy (fun _ => 0) (fun _ => 0) 0 0 0))), (d + 91, .inl (aC 1, 4000, .inl (fun _ => 0)))] H90002 := hP'
  have hD : va_D A [(h0, .inr (15, [.ref (d + 0), .int 0, .ref (d + 1), .int 0, .ref (d + 2), .ref (d + 3), .ref (d + 68), .ref (d + 77), .ref (d + 78), .int 0, .int 0, .ref (d + 79), .int 0, .int 0, .int 0, .ref (d + 80), .int 0, .int 0, .int 0, .int 0, .ref (d + 81), .ref (d + 82), .int (-1), .ref (d + 91), .int 0, .int 0, .ref (d + 92), .int 0, .ref (d + 93), .int 0, .ref (d + 94), .int 0, .ref (d + 95), .ref (d + 96), .ref (d + 97), .ref (d + 98), .int 0, .int 0, .ref (d + 99), .null, .null, .null, .null, .null, .ref (d + 148), .ref (d + 175), .ref (d + 176), .ref (d + 177), .int 0, .ref (d + 178), .ref (d + 179), .ref (d + 180), .ref (d + 185), .ref (d + 190), .ref (d + 191), .ref (d + 192), .ref (d + 193), .ref (d + 201), .ref (d + 209), .ref (d + 210), .ref (d + 211), .ref (d + 272), .ref (d + 273), .int 0, .ref (d + 274)])), (d + 79, .inl (aC 1, 400, .inl (va_cpy (fun _ => 0) (fun _ => 0) 0 0 0))), (d + 91, .inl (aC 1, 4000, .inl (fun _ => 0)))] := hD'
  have hS : va_S A s.heap H90002 L90003 := hS'
  clear hP' hD' hS'
  refine lv_aload_n hx hb dX16_again_30 rfl (lv_at hl 0 rfl) ?_
  refine lv_aload_n hx hb dX16_again_31 rfl (lv_at hl 0 rfl) ?_
  show W p l e _ s m _ below meth c _ _ _ _ QQ (F0 m 32 ls [.ref h0, .ref h0])
  refine va_get (D := (dC, dI)) (ci := 15) (v := .int 0) (C := RX16) (T := TX16) (N := 65) hx hb hall zx_16 hown hK.1 hP 0 rfl rfl 24 (by decide) (hall _ zw_450) (fun _ h9 => h9) rfl dX16_again_32 ?_
  refine zput (D := (dC, dI)) (ci := 15) (v := .int 0) (ty := .int) (C := RX16) (T := TX16) (N := 65) hx hb hall zx_16 tyX16 tyX16_ok nmX16 hown hK.1 hP hD hS 0 rfl rfl 12 (by decide) (hall _ zw_375) (fun _ h9 => h9) rfl (by decide +kernel) rfl rfl (Nat.le_of_ble_eq_true rfl) dX16_again_35 (fun H90004 L90005 hB hP' hD' hS' => ?_)
  replace hz0 : H90004.size = s.heap.size + 0 := hB.1.trans hz0
  clear hP hD hS hB
  have hP : va_P (dC, dI) vwCl [(h0, .inr (15, [.ref (d + 0), .int 0, .ref (d + 1), .int 0, .ref (d + 2), .ref (d + 3), .ref (d + 68), .ref (d + 77), .ref (d + 78), .int 0, .int 0, .ref (d + 79), .int 0, .int 0, .int 0, .ref (d + 80), .int 0, .int 0, .int 0, .int 0, .ref (d + 81), .ref (d + 82), .int (-1), .ref (d + 91), .int 0, .int 0, .ref (d + 92), .int 0, .ref (d + 93), .int 0, .ref (d + 94), .int 0, .ref (d + 95), .ref (d + 96), .ref (d + 97), .ref (d + 98), .int 0, .int 0, .ref (d + 99), .null, .null, .null, .null, .null, .ref (d + 148), .ref (d + 175), .ref (d + 176), .ref (d + 177), .int 0, .ref (d + 178), .ref (d + 179), .ref (d + 180), .ref (d + 185), .ref (d + 190), .ref (d + 191), .ref (d + 192), .ref (d + 193), .ref (d + 201), .ref (d + 209), .ref (d + 210), .ref (d + 211), .ref (d + 272), .ref (d + 273), .int 0, .ref (d + 274)])), (d + 79, .inl (aC 1, 400, .inl (va_cpy (fun _ => 0) (fun _ => 0) 0 0 0))), (d + 91, .inl (aC 1, 4000, .inl (fun _ => 0)))] H90004 := hP'
  have hD : va_D A [(h0, .inr (15, [.ref (d + 0), .int 0, .ref (d + 1), .int 0, .ref (d + 2), .ref (d + 3), .ref (d + 68), .ref (d + 77), .ref (d + 78), .int 0, .int 0, .ref (d + 79), .int 0, .int 0, .int 0, .ref (d + 80), .int 0, .int 0, .int 0, .int 0, .ref (d + 81), .ref (d + 82), .int (-1), .ref (d + 91), .int 0, .int 0, .ref (d + 92), .int 0, .ref (d + 93), .int 0, .ref (d + 94), .int 0, .ref (d + 95), .ref (d + 96), .ref (d + 97), .ref (d + 98), .int 0, .int 0, .ref (d + 99), .null, .null, .null, .null, .null, .ref (d + 148), .ref (d + 175), .ref (d + 176), .ref (d + 177), .int 0, .ref (d + 178), .ref (d + 179), .ref (d + 180), .ref (d + 185), .ref (d + 190), .ref (d + 191), .ref (d + 192), .ref (d + 193), .ref (d + 201), .ref (d + 209), .ref (d + 210), .ref (d + 211), .ref (d + 272), .ref (d + 273), .int 0, .ref (d + 274)])), (d + 79, .inl (aC 1, 400, .inl (va_cpy (fun _ => 0) (fun _ => 0) 0 0 0))), (d + 91, .inl (aC 1, 4000, .inl (fun _ => 0)))] := hD'
  have hS : va_S A s.heap H90004 L90005 := hS'
  clear hP' hD' hS'
  clear L90003 H90002
  refine lv_aload_n hx hb dX16_again_38 rfl (lv_at hl 0 rfl) ?_
  refine va_get (D := (dC, dI)) (ci := 15) (v := .int 0) (C := RX16) (T := TX16) (N := 65) hx hb hall zx_16 hown hK.1 hP 0 rfl rfl 12 (by decide) (hall _ zw_375) (fun _ h9 => h9) rfl dX16_again_39 ?_
  refine W.widen (k := 0) (n := 0) (Nat.le_of_ble_eq_true rfl) (Nat.le_of_ble_eq_true rfl) ?_
  rw [← hQ, hAe]
  have hP := zsubP (wc := []) hP [] rfl
  have hD := hD.sub (ws' := []) [] (by decide) rfl
  exact W.iret (v := 0) hx hb hr (fun zt ht hW => ⟨⟨0, (), rfl, rfl, by rw [ht]; exact hP, hD, by rw [ht]; exact hz0⟩, hS.F ht⟩) hS.2.2 dX16_again_42
