theorem dX15_number_0 : decode cX15_number 0 = .ok (.aload_n 0, 1) := by decide +kernel
theorem dX15_number_1 : decode cX15_number 1 = .ok (.getfield 7, 3) := by decide +kernel
theorem dX15_number_4 : decode cX15_number 4 = .ok (.iconst 0, 1) := by decide +kernel
theorem dX15_number_5 : decode cX15_number 5 = .ok (.iload_n 1, 1) := by decide +kernel
theorem dX15_number_6 : decode cX15_number 6 = .ok (.iastore, 1) := by decide +kernel
theorem dX15_number_7 : decode cX15_number 7 = .ok (.aload_n 0, 1) := by decide +kernel
theorem dX15_number_8 : decode cX15_number 8 = .ok (.iload_n 1, 1) := by decide +kernel
theorem dX15_number_9 : decode cX15_number 9 = .ok (.ifCond .ne 7, 3) := by decide +kernel
theorem dX15_number_16 : decode cX15_number 16 = .ok (.iconst 1, 1) := by decide +kernel
theorem dX15_number_17 : decode cX15_number 17 = .ok (.putfield 13, 3) := by decide +kernel
theorem dX15_number_20 : decode cX15_number 20 = .ok (.return_, 1) := by decide +kernel
theorem dX15_number_12 : decode cX15_number 12 = .ok (.iconst 0, 1) := by decide +kernel
theorem dX15_number_13 : decode cX15_number 13 = .ok (.goto 4, 3) := by decide +kernel
theorem dX15_at_0 : decode cX15_at 0 = .ok (.iload_n 1, 1) := by decide +kernel
theorem dX15_at_1 : decode cX15_at 1 = .ok (.ifCond .lt 20, 3) := by decide +kernel
theorem dX15_at_4 : decode cX15_at 4 = .ok (.iload_n 1, 1) := by decide +kernel
theorem dX15_at_5 : decode cX15_at 5 = .ok (.aload_n 0, 1) := by decide +kernel
theorem dX15_at_6 : decode cX15_at 6 = .ok (.getfield 13, 3) := by decide +kernel
theorem dX15_at_9 : decode cX15_at 9 = .ok (.if_icmp .ge 12, 3) := by decide +kernel
theorem dX15_at_21 : decode cX15_at 21 = .ok (.iconst 0, 1) := by decide +kernel
theorem dX15_at_22 : decode cX15_at 22 = .ok (.ireturn, 1) := by decide +kernel
theorem dX15_at_12 : decode cX15_at 12 = .ok (.aload_n 0, 1) := by decide +kernel
theorem dX15_at_13 : decode cX15_at 13 = .ok (.getfield 7, 3) := by decide +kernel
theorem dX15_at_16 : decode cX15_at 16 = .ok (.iload_n 1, 1) := by decide +kernel
theorem dX15_at_17 : decode cX15_at 17 = .ok (.iaload, 1) := by decide +kernel
theorem dX15_at_18 : decode cX15_at 18 = .ok (.goto 4, 3) := by decide +kernel
theorem dX12_number_0 : decode cX12_number 0 = .ok (.aload_n 0, 1) := by decide +kernel
theorem dX12_number_1 : decode cX12_number 1 = .ok (.getfield 11, 3) := by decide +kernel
theorem dX12_number_4 : decode cX12_number 4 = .ok (.iconst 0, 1) := by decide +kernel
theorem dX12_number_5 : decode cX12_number 5 = .ok (.aaload, 1) := by decide +kernel
theorem dX12_number_6 : decode cX12_number 6 = .ok (.iload_n 1, 1) := by decide +kernel
theorem dX12_number_7 : decode cX12_number 7 = .ok (.invokevirtual 27, 3) := by decide +kernel
theorem dX12_number_10 : decode cX12_number 10 = .ok (.aload_n 0, 1) := by decide +kernel
theorem dX12_number_11 : decode cX12_number 11 = .ok (.iload_n 1, 1) := by decide +kernel
theorem dX12_number_12 : decode cX12_number 12 = .ok (.ifCond .ne 7, 3) := by decide +kernel
theorem dX12_number_19 : decode cX12_number 19 = .ok (.iconst 1, 1) := by decide +kernel
theorem dX12_number_20 : decode cX12_number 20 = .ok (.putfield 20, 3) := by decide +kernel
theorem dX12_number_23 : decode cX12_number 23 = .ok (.return_, 1) := by decide +kernel
theorem dX12_number_15 : decode cX12_number 15 = .ok (.iconst 0, 1) := by decide +kernel
theorem dX12_number_16 : decode cX12_number 16 = .ok (.goto 4, 3) := by decide +kernel
theorem dX16_fits_0 : decode cX16_fits 0 = .ok (.aload_n 0, 1) := by decide +kernel
theorem dX16_fits_1 : decode cX16_fits 1 = .ok (.getfield 93, 3) := by decide +kernel
theorem dX16_fits_4 : decode cX16_fits 4 = .ok (.bipush 13, 2) := by decide +kernel
theorem dX16_fits_6 : decode cX16_fits 6 = .ok (.if_icmp .gt 7, 3) := by decide +kernel
theorem dX16_fits_9 : decode cX16_fits 9 = .ok (.iconst 1, 1) := by decide +kernel
theorem dX16_fits_10 : decode cX16_fits 10 = .ok (.goto 4, 3) := by decide +kernel
theorem dX16_fits_14 : decode cX16_fits 14 = .ok (.istore_n 1, 1) := by decide +kernel
theorem dX16_fits_15 : decode cX16_fits 15 = .ok (.iconst 0, 1) := by decide +kernel
theorem dX16_fits_16 : decode cX16_fits 16 = .ok (.istore_n 2, 1) := by decide +kernel
theorem dX16_fits_17 : decode cX16_fits 17 = .ok (.iload_n 2, 1) := by decide +kernel
theorem dX16_fits_18 : decode cX16_fits 18 = .ok (.aload_n 0, 1) := by decide +kernel
theorem dX16_fits_19 : decode cX16_fits 19 = .ok (.getfield 93, 3) := by decide +kernel
theorem dX16_fits_22 : decode cX16_fits 22 = .ok (.if_icmp .ge 33, 3) := by decide +kernel
theorem dX16_fits_55 : decode cX16_fits 55 = .ok (.iload_n 1, 1) := by decide +kernel
theorem dX16_fits_56 : decode cX16_fits 56 = .ok (.ireturn, 1) := by decide +kernel
theorem dX16_fits_25 : decode cX16_fits 25 = .ok (.iload_n 1, 1) := by decide +kernel
theorem dX16_fits_26 : decode cX16_fits 26 = .ok (.ifCond .eq 29, 3) := by decide +kernel
theorem dX16_fits_29 : decode cX16_fits 29 = .ok (.aload_n 0, 1) := by decide +kernel
theorem dX16_fits_30 : decode cX16_fits 30 = .ok (.getfield 98, 3) := by decide +kernel
theorem dX16_fits_33 : decode cX16_fits 33 = .ok (.iload_n 2, 1) := by decide +kernel
theorem dX16_fits_34 : decode cX16_fits 34 = .ok (.aaload, 1) := by decide +kernel
theorem dX16_fits_35 : decode cX16_fits 35 = .ok (.getfield 25, 3) := by decide +kernel
theorem dX16_fits_38 : decode cX16_fits 38 = .ok (.bipush 25, 2) := by decide +kernel
theorem dX16_fits_40 : decode cX16_fits 40 = .ok (.if_icmp .gt 7, 3) := by decide +kernel
theorem dX16_fits_43 : decode cX16_fits 43 = .ok (.iconst 1, 1) := by decide +kernel
theorem dX16_fits_44 : decode cX16_fits 44 = .ok (.goto 4, 3) := by decide +kernel
theorem dX16_fits_48 : decode cX16_fits 48 = .ok (.istore_n 1, 1) := by decide +kernel
theorem dX16_fits_49 : decode cX16_fits 49 = .ok (.iinc 2 1, 3) := by decide +kernel
theorem dX16_fits_52 : decode cX16_fits 52 = .ok (.goto (-35), 3) := by decide +kernel
theorem dX16_plain_0 : decode cX16_plain 0 = .ok (.aload_n 0, 1) := by decide +kernel
theorem dX16_plain_1 : decode cX16_plain 1 = .ok (.iconst 1, 1) := by decide +kernel
theorem dX16_plain_2 : decode cX16_plain 2 = .ok (.putfield 202, 3) := by decide +kernel
theorem dX16_plain_5 : decode cX16_plain 5 = .ok (.aload_n 0, 1) := by decide +kernel
theorem dX16_plain_6 : decode cX16_plain 6 = .ok (.iconst 1, 1) := by decide +kernel
theorem dX16_plain_7 : decode cX16_plain 7 = .ok (.putfield 213, 3) := by decide +kernel
theorem dX16_plain_10 : decode cX16_plain 10 = .ok (.aload_n 0, 1) := by decide +kernel
theorem dX16_plain_11 : decode cX16_plain 11 = .ok (.iconst 1, 1) := by decide +kernel
theorem dX16_plain_12 : decode cX16_plain 12 = .ok (.putfield 216, 3) := by decide +kernel
theorem dX16_plain_15 : decode cX16_plain 15 = .ok (.aload_n 0, 1) := by decide +kernel
theorem dX16_plain_16 : decode cX16_plain 16 = .ok (.iconst 0, 1) := by decide +kernel
theorem dX16_plain_17 : decode cX16_plain 17 = .ok (.putfield 219, 3) := by decide +kernel
theorem dX16_plain_20 : decode cX16_plain 20 = .ok (.return_, 1) := by decide +kernel
section ZQQ
variable {p : Program} {l : Launch} {e : Env} {R : Room} {s : State} {m : MethodId} {args : Array Value} {below : List Frame} {meth : Method} {c : Code} {H : Heap} {locs : List Loc} {cells slots : Nat} {Q : State → Prop}
variable {pc : Nat} {ls : Array Slot} {rest st0 : List Value} {a : Array Value} {A : Nat → Prop} {H0 : Heap} {mc ms k : Nat} {D : va_G} {ws wc wr : va_W}
theorem zrw_q {S : Type} {post : Option Nat → S → Prop} {w1 : S → va_W} (hP : va_P D vwCl ws H) (hD : va_D A ws) (hS : va_S A H0 H locs) (hA : ∀ q, H0.size ≤ q → A q) (isC isR : List Nat) (hC : isC.map (fun i => ws[i]?) = wc.map some) (hR : isR.map (fun i => ws[i]?) = wr.map some) (hn : va_nd isR = true) (hdis : ∀ i ∈ isR, i ∉ isC)
    (hr : va_Run p l e R s m args below meth c H locs cells slots mc ms (F0 m pc ls st0) rest (va_Qq post (fun u t => zB D (w1 u) (va_A wc H.size) (H.size + k) t) (va_A wc H.size) a) (va_A wc H.size))
    (kk : ∀ (r : Option Nat) (u : S) (H1 : Heap) (locs1 : List Loc), post r u → H1.size = H.size + k → (∀ q : Nat, q < H.size → ¬ va_A wc H.size q → H1[q]? = H[q]?) → va_P D vwCl (wr ++ w1 u) H1 → va_D A (wr ++ w1 u) → va_S A H0 H1 locs1 → W p l e R s m args below meth c H1 locs1 (cells + mc) (slots + ms) Q (F0 m (pc + 3) ls (va_rf r :: rest))) : W p l e R s m args below meth c H locs cells slots Q (F0 m pc ls st0) := by
  have hF := va_free (wc := wc) hD hS hA isC hC
  refine va_callq hr hS (fun q _ h => hF q h) hF (fun r u t H1 locs1 ht hvm hp hB hz hk hS1 => ?_)
  obtain ⟨b1, b2, b3⟩ := hB
  rw [ht] at b1 b3
  obtain ⟨j1, j2⟩ := va_join (wr := wr) (w1 := w1 u) hP hD isC isR hC hR hn hdis hk hF b1 b2
  exact kk r u H1 locs1 hp b3 hk j1 j2 hS1
end ZQQ
theorem znI_ge {i : Nat} {N : Int32} (h : N = 1) (h2 : ¬ N ≤ nI i) (hi : i < 13) : nI i = 0 := by
  subst h
  rcases i with _ | i
  · rfl
  · exact absurd (nI_le (show 1 ≤ i + 1 by omega) (by omega)) h2
theorem z25a : ∀ i, i < 13 → ∀ j, j < 25 → ¬ (25 * nI i + nI j < 0 ∨ 325 ≤ (25 * nI i + nI j).toNatClampNeg) := by decide +kernel
theorem z25 (i : Nat) (hi : i < 13) (j : Nat) (hj : j < 25) : vp_in (25 * nI i + nI j) 325 := z25a i hi j hj
theorem znI_0 {i : Nat} (h : i < 200) : (0 : Int32) ≤ nI i := nI_le (Nat.zero_le i) (by omega)

set_option maxHeartbeats 4000000 in
set_option maxRecDepth 100000 in
theorem c_X15_number (l : Launch) (dC : Nat → ClassId) (dI : Nat → Nat → Nat) (aC : Nat → ClassId) (h0 ca : Nat) (f : Nat → Int32) (n0 v : Int32) (sz : Nat) : Met l yX15_number w_X15_number ({ frames := 1, cells := 0, slots := 0, locals := 24 }) (zPre (dC, dI) aC [(h0, .inr (14, [.ref ca, .int n0])), (ca, .inl (aC 0, 200, .inl f))] sz [.ref h0, .int v]) (va_Qv (fun (u : (Int32 × (Nat → Int32))) => u.1 = 0 ∨ u.1 = 1) (fun u zt => zB (dC, dI) [(h0, .inr (14, [.ref ca, .int u.1])), (ca, .inl (aC 0, 200, .inl u.2))] (va_A [(h0, .inr (14, [.ref ca, .int n0])), (ca, .inl (aC 0, 200, .inl f))] sz) (sz + 0) zt) (va_A [(h0, .inr (14, [.ref ca, .int n0])), (ca, .inl (aC 0, 200, .inl f))] sz)) 0 0 (va_A [(h0, .inr (14, [.ref ca, .int n0])), (ca, .inl (aC 0, 200, .inl f))] sz) := by
  refine Met.ofW (cc := cX15_number) (maxL := 2) (ret := none) (by decide) rfl ?_
  intro p e s m args below meth c s₁ B hml hv
  generalize hQ : MQ below _ _ s _ _ _ = QQ
  obtain ⟨rfl, hsz, hP, hK, hD0⟩ := hv
  have hx := B.exec
  have hb := B.bytes
  have hr := B.returns
  have hts := atoms_spec (ws := w_X15_number) B.pre
  have hall := fun (w : Cond) (h : w ∈ zAll) => hts w (List.mem_cons_of_mem _ h)
  have hown : s.vm.findClass RX15 = some m.cls := findClass_of_methodNamed B.named
  have hlocks := B.notSynchronized
  subst hsz
  have hD := hD0.self (sz := s.heap.size)
  generalize hAe : va_A [(h0, .inr (14, [.ref ca, .int n0])), (ca, .inl (aC 0, 200, .inl f))] s.heap.size = A at hD ⊢
  have hA : ∀ q : Nat, s.heap.size ≤ q → A q := fun q h => by rw [← hAe]; exact Or.inr h
  have hS : va_S A s.heap s.heap [] := va_S.rf
  have hz0 : s.heap.size = s.heap.size + 0 := rfl
  have hl := lv_entry ([.ref h0, .int v]) (n := 2) (Nat.le_of_ble_eq_true rfl)
  rw [lg_entry_eq]
  generalize (lg_sl ([.ref h0, .int v]) ++ List.replicate (2 - (lg_sl ([.ref h0, .int v])).length) Slot.unset).toArray = ls at hl ⊢
  have hl : lv_has ls 2 [(0, .ref h0), (1, .int v)] := hl
  refine lv_aload_n hx hb dX15_number_0 rfl (lv_at hl 0 rfl) ?_
  refine va_get (D := (dC, dI)) (ci := 14) (v := .ref ca) (C := RX15) (T := TX15) (N := 2) hx hb hall zx_15 hown hK.1 hP 0 rfl rfl 0 (by decide) (hall _ zw_294) (fun _ h9 => h9) rfl dX15_number_1 ?_
  refine lv_iconst (v := 0) hx hb dX15_number_4 (by decide) ?_
  refine lv_iload_n hx hb dX15_number_5 rfl (lv_at hl 1 rfl) ?_
  refine ziast hx hb hK.1 hP hD hS 1 0 rfl rfl (zvp (by decide)) dX15_number_6 (fun H100001 L100002 hB hP' hD' hS' => ?_)
  replace hz0 : H100001.size = s.heap.size + 0 := hB.1.trans hz0
  clear hP hD hS hB
  have hP : va_P (dC, dI) vwCl [(h0, .inr (14, [.ref ca, .int n0])), (ca, .inl (aC 0, 200, .inl (upd f (0 : Int32).toNatClampNeg v)))] H100001 := hP'
  have hD : va_D A [(h0, .inr (14, [.ref ca, .int n0])), (ca, .inl (aC 0, 200, .inl (upd f (0 : Int32).toNatClampNeg v)))] := hD'
  have hS : va_S A s.heap H100001 L100002 := hS'
  clear hP' hD' hS'
  show W p l e _ s m _ below meth c _ _ _ _ QQ (F0 m 7 ls [])
  refine lv_aload_n hx hb dX15_number_7 rfl (lv_at hl 0 rfl) ?_
  refine lv_iload_n hx hb dX15_number_8 rfl (lv_at hl 1 rfl) ?_
  refine lv_if_ne (tgt := 16) hx hb dX15_number_9 (by decide) (fun c_9_b100003 => ?_) (fun c_9_b100003 => ?_)
  · refine lv_iconst (v := 1) hx hb dX15_number_16 (by decide) ?_
    refine zput (D := (dC, dI)) (ci := 14) (v := .int 1) (ty := .int) (C := RX15) (T := TX15) (N := 2) hx hb hall zx_15 tyX15 tyX15_ok nmX15 hown hK.1 hP hD hS 0 rfl rfl 1 (by decide) (hall _ zw_295) (fun _ h9 => h9) rfl (by decide +kernel) rfl rfl (Nat.le_of_ble_eq_true rfl) dX15_number_17 (fun H100004 L100005 hB hP' hD' hS' => ?_)
    replace hz0 : H100004.size = s.heap.size + 0 := hB.1.trans hz0
    clear hP hD hS hB
    have hP : va_P (dC, dI) vwCl [(h0, .inr (14, [.ref ca, .int 1])), (ca, .inl (aC 0, 200, .inl (upd f (0 : Int32).toNatClampNeg v)))] H100004 := hP'
    have hD : va_D A [(h0, .inr (14, [.ref ca, .int 1])), (ca, .inl (aC 0, 200, .inl (upd f (0 : Int32).toNatClampNeg v)))] := hD'
    have hS : va_S A s.heap H100004 L100005 := hS'
    clear hP' hD' hS'
    clear L100002 H100001
    refine W.widen (k := 0) (n := 0) (Nat.le_of_ble_eq_true rfl) (Nat.le_of_ble_eq_true rfl) ?_
    rw [← hQ, hAe]
    have hP := zsubP (wc := [(h0, .inr (14, [.ref ca, .int 1])), (ca, .inl (aC 0, 200, .inl (upd f (0 : Int32).toNatClampNeg v)))]) hP [0, 1] rfl
    have hD := hD.sub (ws' := [(h0, .inr (14, [.ref ca, .int 1])), (ca, .inl (aC 0, 200, .inl (upd f (0 : Int32).toNatClampNeg v)))]) [0, 1] (by decide) rfl
    exact W.vret hx hb hr (fun zt ht hW => ⟨⟨(1, upd f (0 : Int32).toNatClampNeg v), rfl, Or.inr rfl, by rw [ht]; exact hP, hD, by rw [ht]; exact hz0⟩, hS.F ht⟩) hS.2.2 dX15_number_20
  · refine lv_iconst (v := 0) hx hb dX15_number_12 (by decide) ?_
    refine lv_goto (tgt := 17) hx hb dX15_number_13 (by decide) ?_
    refine zput (D := (dC, dI)) (ci := 14) (v := .int 0) (ty := .int) (C := RX15) (T := TX15) (N := 2) hx hb hall zx_15 tyX15 tyX15_ok nmX15 hown hK.1 hP hD hS 0 rfl rfl 1 (by decide) (hall _ zw_295) (fun _ h9 => h9) rfl (by decide +kernel) rfl rfl (Nat.le_of_ble_eq_true rfl) dX15_number_17 (fun H100006 L100007 hB hP' hD' hS' => ?_)
    replace hz0 : H100006.size = s.heap.size + 0 := hB.1.trans hz0
    clear hP hD hS hB
    have hP : va_P (dC, dI) vwCl [(h0, .inr (14, [.ref ca, .int 0])), (ca, .inl (aC 0, 200, .inl (upd f (0 : Int32).toNatClampNeg v)))] H100006 := hP'
    have hD : va_D A [(h0, .inr (14, [.ref ca, .int 0])), (ca, .inl (aC 0, 200, .inl (upd f (0 : Int32).toNatClampNeg v)))] := hD'
    have hS : va_S A s.heap H100006 L100007 := hS'
    clear hP' hD' hS'
    clear L100002 H100001
    refine W.widen (k := 0) (n := 0) (Nat.le_of_ble_eq_true rfl) (Nat.le_of_ble_eq_true rfl) ?_
    rw [← hQ, hAe]
    have hP := zsubP (wc := [(h0, .inr (14, [.ref ca, .int 0])), (ca, .inl (aC 0, 200, .inl (upd f (0 : Int32).toNatClampNeg v)))]) hP [0, 1] rfl
    have hD := hD.sub (ws' := [(h0, .inr (14, [.ref ca, .int 0])), (ca, .inl (aC 0, 200, .inl (upd f (0 : Int32).toNatClampNeg v)))]) [0, 1] (by decide) rfl
    exact W.vret hx hb hr (fun zt ht hW => ⟨⟨(0, upd f (0 : Int32).toNatClampNeg v), rfl, Or.inl rfl, by rw [ht]; exact hP, hD, by rw [ht]; exact hz0⟩, hS.F ht⟩) hS.2.2 dX15_number_20

set_option maxHeartbeats 4000000 in
set_option maxRecDepth 100000 in
theorem c_X15_at (l : Launch) (dC : Nat → ClassId) (dI : Nat → Nat → Nat) (aC : Nat → ClassId) (h0 ca i : Nat) (f : Nat → Int32) (n0 : Int32) (sz : Nat) (hi : i < 25) : Met l yX15_at w_X15_at ({ frames := 1, cells := 0, slots := 0, locals := 24 }) (zPre (dC, dI) aC [(h0, .inr (14, [.ref ca, .int n0])), (ca, .inl (aC 0, 200, .inl f))] sz [.ref h0, .int (nI i)]) (va_Qi (fun (r : Int32) (_ : Unit) => True) (fun _ zt => zt.heap.size = sz) (zN sz)) 0 0 (zN sz) := by
  refine Met.ofW (cc := cX15_at) (maxL := 2) (ret := (some .int)) (by decide) rfl ?_
  intro p e s m args below meth c s₁ B hml hv
  generalize hQ : MQ below _ _ s _ _ _ = QQ
  obtain ⟨rfl, hsz, hP, hK, hD0⟩ := hv
  have hx := B.exec
  have hb := B.bytes
  have hr := B.returns
  have hts := atoms_spec (ws := w_X15_at) B.pre
  have hall := fun (w : Cond) (h : w ∈ zAll) => hts w (List.mem_cons_of_mem _ h)
  have hown : s.vm.findClass RX15 = some m.cls := findClass_of_methodNamed B.named
  have hlocks := B.notSynchronized
  subst hsz
  have hA : ∀ q : Nat, s.heap.size ≤ q → zN s.heap.size q := fun q h => h
  have hS : va_S (zN s.heap.size) s.heap s.heap [] := va_S.rf
  have hD := hD0
  have hl := lv_entry ([.ref h0, .int (nI i)]) (n := 2) (Nat.le_of_ble_eq_true rfl)
  rw [lg_entry_eq]
  generalize (lg_sl ([.ref h0, .int (nI i)]) ++ List.replicate (2 - (lg_sl ([.ref h0, .int (nI i)])).length) Slot.unset).toArray = ls at hl ⊢
  have hl : lv_has ls 2 [(0, .ref h0), (1, .int (nI i))] := hl
  refine lv_iload_n hx hb dX15_at_0 rfl (lv_at hl 1 rfl) ?_
  refine lv_if_lt (tgt := 21) hx hb dX15_at_1 (by decide) (fun c_1_b100008 => absurd c_1_b100008 (Int32.not_lt.mpr (znI_0 (show i < 200 by omega)))) (fun _ => ?_)
  refine lv_iload_n hx hb dX15_at_4 rfl (lv_at hl 1 rfl) ?_
  refine lv_aload_n hx hb dX15_at_5 rfl (lv_at hl 0 rfl) ?_
  refine va_get (D := (dC, dI)) (ci := 14) (v := .int n0) (C := RX15) (T := TX15) (N := 2) hx hb hall zx_15 hown hK.1 hP 0 rfl rfl 1 (by decide) (hall _ zw_295) (fun _ h9 => h9) rfl dX15_at_6 ?_
  refine lv_icmp_ge (tgt := 21) hx hb dX15_at_9 (by decide) (fun c_9_b100009 => ?_) (fun c_9_b100009 => ?_)
  · refine lv_iconst (v := 0) hx hb dX15_at_21 (by decide) ?_
    rw [← hQ]
    exact W.iret (v := 0) hx hb hr (fun zt ht hW => ⟨⟨0, (), rfl, trivial, (show zt.heap.size = s.heap.size by rw [ht])⟩, hS.F ht⟩) hS.2.2 dX15_at_22
  · refine lv_aload_n hx hb dX15_at_12 rfl (lv_at hl 0 rfl) ?_
    show W p l e _ s m _ below meth c _ _ _ _ QQ (F0 m 13 ls [.ref h0])
    refine va_get (D := (dC, dI)) (ci := 14) (v := .ref ca) (C := RX15) (T := TX15) (N := 2) hx hb hall zx_15 hown hK.1 hP 0 rfl rfl 0 (by decide) (hall _ zw_294) (fun _ h9 => h9) rfl dX15_at_13 ?_
    refine lv_iload_n hx hb dX15_at_16 rfl (lv_at hl 1 rfl) ?_
    refine va_iald hx hb hK.1 hP 1 0 rfl rfl (vp_in_nI (show i < 200 by omega) (by decide)) dX15_at_17 ?_
    refine lv_goto (tgt := 22) hx hb dX15_at_18 (by decide) ?_
    rw [← hQ]
    exact W.iret (v := f (nI i).toNatClampNeg) hx hb hr (fun zt ht hW => ⟨⟨f (nI i).toNatClampNeg, (), rfl, trivial, (show zt.heap.size = s.heap.size by rw [ht])⟩, hS.F ht⟩) hS.2.2 dX15_at_22

set_option maxHeartbeats 4000000 in
set_option maxRecDepth 100000 in
theorem c_X12_number (l : Launch) (dC : Nat → ClassId) (dI : Nat → Nat → Nat) (aC : Nat → ClassId) (h0 ra u0 ca : Nat) (fr : Nat → Option Nat) (f : Nat → Int32) (n0 k0 : Int32) (v : Int32) (sz : Nat) (hr0 : fr 0 = some u0) : Met l yX12_number w_X12_number ({ frames := 2, cells := 0, slots := 0, locals := 45 }) (zPre (dC, dI) aC [(h0, .inr (11, [.ref ra, .int k0])), (ra, .inl (aC 4, 64, .inr (.inr (.inr (.inr fr))))), (u0, .inr (14, [.ref ca, .int n0])), (ca, .inl (aC 0, 200, .inl f))] sz [.ref h0, .int v]) (va_Qv (fun (u : (Int32 × Int32 × (Nat → Int32))) => (u.1 = 0 ∨ u.1 = 1) ∧ (u.2.1 = 0 ∨ u.2.1 = 1)) (fun u zt => zB (dC, dI) [(h0, .inr (11, [.ref ra, .int u.1])), (ra, .inl (aC 4, 64, .inr (.inr (.inr (.inr fr))))), (u0, .inr (14, [.ref ca, .int u.2.1])), (ca, .inl (aC 0, 200, .inl u.2.2))] (va_A [(h0, .inr (11, [.ref ra, .int k0])), (ra, .inl (aC 4, 64, .inr (.inr (.inr (.inr fr))))), (u0, .inr (14, [.ref ca, .int n0])), (ca, .inl (aC 0, 200, .inl f))] sz) (sz + 0) zt) (va_A [(h0, .inr (11, [.ref ra, .int k0])), (ra, .inl (aC 4, 64, .inr (.inr (.inr (.inr fr))))), (u0, .inr (14, [.ref ca, .int n0])), (ca, .inl (aC 0, 200, .inl f))] sz)) 0 0 (va_A [(h0, .inr (11, [.ref ra, .int k0])), (ra, .inl (aC 4, 64, .inr (.inr (.inr (.inr fr))))), (u0, .inr (14, [.ref ca, .int n0])), (ca, .inl (aC 0, 200, .inl f))] sz) := by
  refine Met.ofW (cc := cX12_number) (maxL := 2) (ret := none) (by decide) rfl ?_
  intro p e s m args below meth c s₁ B hml hv
  generalize hQ : MQ below _ _ s _ _ _ = QQ
  obtain ⟨rfl, hsz, hP, hK, hD0⟩ := hv
  have hx := B.exec
  have hb := B.bytes
  have hr := B.returns
  have hts := atoms_spec (ws := w_X12_number) B.pre
  have hall := fun (w : Cond) (h : w ∈ zAll) => hts w (List.mem_cons_of_mem _ h)
  have hown : s.vm.findClass RX12 = some m.cls := findClass_of_methodNamed B.named
  have hlocks := B.notSynchronized
  subst hsz
  have hD := hD0.self (sz := s.heap.size)
  generalize hAe : va_A [(h0, .inr (11, [.ref ra, .int k0])), (ra, .inl (aC 4, 64, .inr (.inr (.inr (.inr fr))))), (u0, .inr (14, [.ref ca, .int n0])), (ca, .inl (aC 0, 200, .inl f))] s.heap.size = A at hD ⊢
  have hA : ∀ q : Nat, s.heap.size ≤ q → A q := fun q h => by rw [← hAe]; exact Or.inr h
  have hS : va_S A s.heap s.heap [] := va_S.rf
  have hz0 : s.heap.size = s.heap.size + 0 := rfl
  have hl := lv_entry ([.ref h0, .int v]) (n := 2) (Nat.le_of_ble_eq_true rfl)
  rw [lg_entry_eq]
  generalize (lg_sl ([.ref h0, .int v]) ++ List.replicate (2 - (lg_sl ([.ref h0, .int v])).length) Slot.unset).toArray = ls at hl ⊢
  have hl : lv_has ls 2 [(0, .ref h0), (1, .int v)] := hl
  refine lv_aload_n hx hb dX12_number_0 rfl (lv_at hl 0 rfl) ?_
  refine va_get (D := (dC, dI)) (ci := 11) (v := .ref ra) (C := RX12) (T := TX12) (N := 2) hx hb hall zx_12 hown hK.1 hP 0 rfl rfl 0 (by decide) (hall _ zw_298) (fun _ h9 => h9) rfl dX12_number_1 ?_
  refine lv_iconst (v := 0) hx hb dX12_number_4 (by decide) ?_
  refine zaldr hx hb hK.1 hP 1 4 rfl rfl (zvp (by decide)) (hr0) dX12_number_5 ?_
  refine lv_iload_n hx hb dX12_number_6 rfl (lv_at hl 1 rfl) ?_
  show W p l e _ s m _ below meth c _ _ _ _ QQ (F0 m 7 ls [.int v, .ref u0])
  refine zrw_v (k := 0) (wr := [(h0, .inr (11, [.ref ra, .int k0])), (ra, .inl (aC 4, 64, .inr (.inr (.inr (.inr fr)))))]) (wc := [(u0, .inr (14, [.ref ca, .int n0])), (ca, .inl (aC 0, 200, .inl f))]) (w1 := fun (u100010 : (Int32 × (Nat → Int32))) => [(u0, .inr (14, [.ref ca, .int u100010.1])), (ca, .inl (aC 0, 200, .inl u100010.2))]) hP hD hS hA [2, 3] [0, 1] rfl rfl (by decide +kernel) (by decide +kernel) (va_runV (As := [.int v]) (rest := []) ⟨hx, hb, hml, hown, hall⟩ (c_X15_number l dC dI aC u0 ca f n0 v s.heap.size) (cwV 1 hall (zgV zw_302 zw_304 zw_305 zw_810 g_X15_number rfl) rfl rfl rfl (by decide +kernel) ⟨Nat.le_of_ble_eq_true rfl, Nat.le_of_ble_eq_true rfl⟩) (zPre_V (As := [.int v]) hK hP hD [2, 3] rfl (by decide +kernel) (ci := 14) (q0 := 0) rfl rfl) rfl rfl hl.1 rfl (lv_room (Nat.le_of_ble_eq_true rfl)) dX12_number_7 ⟨Nat.le_of_ble_eq_true rfl, Nat.le_of_ble_eq_true rfl⟩) (fun u100010 H100012 L100013 hw hz hk hP' hD' hS' => ?_)
  try rw [hz0] at hP'
  try rw [hz0] at hD'
  rw [hz0] at hz
  replace hz0 : H100012.size = s.heap.size + 0 := by omega
  clear hz
  clear hP hD hS hk
  have hP : va_P (dC, dI) vwCl [(h0, .inr (11, [.ref ra, .int k0])), (ra, .inl (aC 4, 64, .inr (.inr (.inr (.inr fr))))), (u0, .inr (14, [.ref ca, .int u100010.1])), (ca, .inl (aC 0, 200, .inl u100010.2))] H100012 := hP'
  have hD : va_D A [(h0, .inr (11, [.ref ra, .int k0])), (ra, .inl (aC 4, 64, .inr (.inr (.inr (.inr fr))))), (u0, .inr (14, [.ref ca, .int u100010.1])), (ca, .inl (aC 0, 200, .inl u100010.2))] := hD'
  have hS : va_S A s.heap H100012 L100013 := hS'
  clear hP' hD' hS'
  have hw1 := hw
  refine lv_aload_n hx hb dX12_number_10 rfl (lv_at hl 0 rfl) ?_
  refine lv_iload_n hx hb dX12_number_11 rfl (lv_at hl 1 rfl) ?_
  refine lv_if_ne (tgt := 19) hx hb dX12_number_12 (by decide) (fun c_12_b100014 => ?_) (fun c_12_b100014 => ?_)
  · refine lv_iconst (v := 1) hx hb dX12_number_19 (by decide) ?_
    refine zput (D := (dC, dI)) (ci := 11) (v := .int 1) (ty := .int) (C := RX12) (T := TX12) (N := 2) hx hb hall zx_12 tyX12 tyX12_ok nmX12 hown hK.1 hP hD hS 0 rfl rfl 1 (by decide) (hall _ zw_306) (fun _ h9 => h9) rfl (by decide +kernel) rfl rfl (Nat.le_of_ble_eq_true rfl) dX12_number_20 (fun H100015 L100016 hB hP' hD' hS' => ?_)
    replace hz0 : H100015.size = s.heap.size + 0 := hB.1.trans hz0
    clear hP hD hS hB
    have hP : va_P (dC, dI) vwCl [(h0, .inr (11, [.ref ra, .int 1])), (ra, .inl (aC 4, 64, .inr (.inr (.inr (.inr fr))))), (u0, .inr (14, [.ref ca, .int u100010.1])), (ca, .inl (aC 0, 200, .inl u100010.2))] H100015 := hP'
    have hD : va_D A [(h0, .inr (11, [.ref ra, .int 1])), (ra, .inl (aC 4, 64, .inr (.inr (.inr (.inr fr))))), (u0, .inr (14, [.ref ca, .int u100010.1])), (ca, .inl (aC 0, 200, .inl u100010.2))] := hD'
    have hS : va_S A s.heap H100015 L100016 := hS'
    clear hP' hD' hS'
    clear L100013 H100012
    refine W.widen (k := 0) (n := 0) (Nat.le_of_ble_eq_true rfl) (Nat.le_of_ble_eq_true rfl) ?_
    rw [← hQ, hAe]
    have hP := zsubP (wc := [(h0, .inr (11, [.ref ra, .int 1])), (ra, .inl (aC 4, 64, .inr (.inr (.inr (.inr fr))))), (u0, .inr (14, [.ref ca, .int u100010.1])), (ca, .inl (aC 0, 200, .inl u100010.2))]) hP [0, 1, 2, 3] rfl
    have hD := hD.sub (ws' := [(h0, .inr (11, [.ref ra, .int 1])), (ra, .inl (aC 4, 64, .inr (.inr (.inr (.inr fr))))), (u0, .inr (14, [.ref ca, .int u100010.1])), (ca, .inl (aC 0, 200, .inl u100010.2))]) [0, 1, 2, 3] (by decide) rfl
    exact W.vret hx hb hr (fun zt ht hW => ⟨⟨(1, u100010.1, u100010.2), rfl, ⟨Or.inr rfl, hw1⟩, by rw [ht]; exact hP, hD, by rw [ht]; exact hz0⟩, hS.F ht⟩) hS.2.2 dX12_number_23
  · refine lv_iconst (v := 0) hx hb dX12_number_15 (by decide) ?_
    refine lv_goto (tgt := 20) hx hb dX12_number_16 (by decide) ?_
    show W p l e _ s m _ below meth c _ _ _ _ QQ (F0 m 20 ls [.int 0, .ref h0])
    refine zput (D := (dC, dI)) (ci := 11) (v := .int 0) (ty := .int) (C := RX12) (T := TX12) (N := 2) hx hb hall zx_12 tyX12 tyX12_ok nmX12 hown hK.1 hP hD hS 0 rfl rfl 1 (by decide) (hall _ zw_306) (fun _ h9 => h9) rfl (by decide +kernel) rfl rfl (Nat.le_of_ble_eq_true rfl) dX12_number_20 (fun H100017 L100018 hB hP' hD' hS' => ?_)
    replace hz0 : H100017.size = s.heap.size + 0 := hB.1.trans hz0
    clear hP hD hS hB
    have hP : va_P (dC, dI) vwCl [(h0, .inr (11, [.ref ra, .int 0])), (ra, .inl (aC 4, 64, .inr (.inr (.inr (.inr fr))))), (u0, .inr (14, [.ref ca, .int u100010.1])), (ca, .inl (aC 0, 200, .inl u100010.2))] H100017 := hP'
    have hD : va_D A [(h0, .inr (11, [.ref ra, .int 0])), (ra, .inl (aC 4, 64, .inr (.inr (.inr (.inr fr))))), (u0, .inr (14, [.ref ca, .int u100010.1])), (ca, .inl (aC 0, 200, .inl u100010.2))] := hD'
    have hS : va_S A s.heap H100017 L100018 := hS'
    clear hP' hD' hS'
    clear L100013 H100012
    refine W.widen (k := 0) (n := 0) (Nat.le_of_ble_eq_true rfl) (Nat.le_of_ble_eq_true rfl) ?_
    rw [← hQ, hAe]
    have hP := zsubP (wc := [(h0, .inr (11, [.ref ra, .int 0])), (ra, .inl (aC 4, 64, .inr (.inr (.inr (.inr fr))))), (u0, .inr (14, [.ref ca, .int u100010.1])), (ca, .inl (aC 0, 200, .inl u100010.2))]) hP [0, 1, 2, 3] rfl
    have hD := hD.sub (ws' := [(h0, .inr (11, [.ref ra, .int 0])), (ra, .inl (aC 4, 64, .inr (.inr (.inr (.inr fr))))), (u0, .inr (14, [.ref ca, .int u100010.1])), (ca, .inl (aC 0, 200, .inl u100010.2))]) [0, 1, 2, 3] (by decide) rfl
    exact W.vret hx hb hr (fun zt ht hW => ⟨⟨(0, u100010.1, u100010.2), rfl, ⟨Or.inl rfl, hw1⟩, by rw [ht]; exact hP, hD, by rw [ht]; exact hz0⟩, hS.F ht⟩) hS.2.2 dX12_number_23

set_option maxHeartbeats 4000000 in
set_option maxRecDepth 100000 in
theorem c_X16_fits (l : Launch) (dC : Nat → ClassId) (dI : Nat → Nat → Nat) (aC : Nat → ClassId) (h0 ra u0 ca : Nat) (fr : Nat → Option Nat) (f : Nat → Int32) (n0 k0 : Int32) (sz : Nat) (hr0 : fr 0 = some u0) (e1 : k0 = 0 ∨ k0 = 1) (e2 : n0 = 0 ∨ n0 = 1) : Met l yX16_fits w_X16_fits ({ frames := 1, cells := 0, slots := 0, locals := 24 }) (zPre (dC, dI) aC [(h0, .inr (11, [.ref ra, .int k0])), (ra, .inl (aC 4, 64, .inr (.inr (.inr (.inr fr))))), (u0, .inr (14, [.ref ca, .int n0])), (ca, .inl (aC 0, 200, .inl f))] sz [.ref h0]) (va_Qi (fun (r : Int32) (_ : Unit) => r = 1) (fun _ zt => zt.heap.size = sz) (zN sz)) 0 0 (zN sz) := by
  refine Met.ofW (cc := cX16_fits) (maxL := 3) (ret := (some .boolean)) (by decide) rfl ?_
  intro p e s m args below meth c s₁ B hml hv
  generalize hQ : MQ below _ _ s _ _ _ = QQ
  obtain ⟨rfl, hsz, hP, hK, hD0⟩ := hv
  have hx := B.exec
  have hb := B.bytes
  have hr := B.returns
  have hts := atoms_spec (ws := w_X16_fits) B.pre
  have hall := fun (w : Cond) (h : w ∈ zAll) => hts w (List.mem_cons_of_mem _ h)
  have hown : s.vm.findClass RX16 = some m.cls := findClass_of_methodNamed B.named
  have hlocks := B.notSynchronized
  subst hsz
  have hA : ∀ q : Nat, s.heap.size ≤ q → zN s.heap.size q := fun q h => h
  have hS : va_S (zN s.heap.size) s.heap s.heap [] := va_S.rf
  have hD := hD0
  have hl := lv_entry ([.ref h0]) (n := 3) (Nat.le_of_ble_eq_true rfl)
  rw [lg_entry_eq]
  generalize (lg_sl ([.ref h0]) ++ List.replicate (3 - (lg_sl ([.ref h0])).length) Slot.unset).toArray = ls at hl ⊢
  have hl : lv_has ls 3 [(0, .ref h0)] := hl
  rcases e1 with rfl | rfl
  · rcases e2 with rfl | rfl
    · refine lv_aload_n hx hb dX16_fits_0 rfl (lv_at hl 0 rfl) ?_
      refine va_get (D := (dC, dI)) (ci := 11) (v := .int 0) (C := RX12) (T := TX12) (N := 2) hx hb hall zx_12 hown hK.1 hP 0 rfl rfl 1 (by decide) (hall _ zw_420) (fun _ h9 => h9) rfl dX16_fits_1 ?_
      refine lv_bipush (v := 13) hx hb dX16_fits_4 (by decide) ?_
      refine lv_icmp_gt (tgt := 13) hx hb dX16_fits_6 (by decide) (fun c_6_b100019 => absurd c_6_b100019 (by decide)) (fun _ => ?_)
      refine lv_iconst (v := 1) hx hb dX16_fits_9 (by decide) ?_
      refine lv_goto (tgt := 14) hx hb dX16_fits_10 (by decide) ?_
      show W p l e _ s m _ below meth c _ _ _ _ QQ (F0 m 14 ls [.int 1])
      refine lv_istore_n (lv' := [(1, .int 1), (0, .ref h0)]) hx hb dX16_fits_14 rfl hl (by decide) rfl (fun ls100020 hl' => ?_)
      clear hl
      have hl : lv_has ls100020 3 [(1, .int 1), (0, .ref h0)] := hl'
      clear hl'
      refine lv_iconst (v := 0) hx hb dX16_fits_15 (by decide) ?_
      refine lv_istore_n (lv' := [(2, .int 0), (1, .int 1), (0, .ref h0)]) hx hb dX16_fits_16 rfl hl (by decide) rfl (fun ls100021 hl' => ?_)
      clear hl
      have hl : lv_has ls100021 3 [(2, .int 0), (1, .int 1), (0, .ref h0)] := hl'
      clear hl'
      refine lv_iload_n hx hb dX16_fits_17 rfl (lv_at hl 0 rfl) ?_
      refine lv_aload_n hx hb dX16_fits_18 rfl (lv_at hl 2 rfl) ?_
      show W p l e _ s m _ below meth c _ _ _ _ QQ (F0 m 19 ls100021 [.ref h0, .int 0])
      refine va_get (D := (dC, dI)) (ci := 11) (v := .int 0) (C := RX12) (T := TX12) (N := 2) hx hb hall zx_12 hown hK.1 hP 0 rfl rfl 1 (by decide) (hall _ zw_420) (fun _ h9 => h9) rfl dX16_fits_19 ?_
      refine lv_icmp_ge (tgt := 55) hx hb dX16_fits_22 (by decide) (fun _ => ?_) (fun c_22_b100022 => absurd (by decide) c_22_b100022)
      refine lv_iload_n hx hb dX16_fits_55 rfl (lv_at hl 1 rfl) ?_
      rw [← hQ]
      exact W.zret (v := 1) hx hb hr (by rfl) (fun zt ht hW => ⟨⟨1, (), rfl, rfl, (show zt.heap.size = s.heap.size by rw [ht])⟩, hS.F ht⟩) hS.2.2 dX16_fits_56
    · refine lv_aload_n hx hb dX16_fits_0 rfl (lv_at hl 0 rfl) ?_
      refine va_get (D := (dC, dI)) (ci := 11) (v := .int 0) (C := RX12) (T := TX12) (N := 2) hx hb hall zx_12 hown hK.1 hP 0 rfl rfl 1 (by decide) (hall _ zw_420) (fun _ h9 => h9) rfl dX16_fits_1 ?_
      refine lv_bipush (v := 13) hx hb dX16_fits_4 (by decide) ?_
      refine lv_icmp_gt (tgt := 13) hx hb dX16_fits_6 (by decide) (fun c_6_b100023 => absurd c_6_b100023 (by decide)) (fun _ => ?_)
      refine lv_iconst (v := 1) hx hb dX16_fits_9 (by decide) ?_
      refine lv_goto (tgt := 14) hx hb dX16_fits_10 (by decide) ?_
      show W p l e _ s m _ below meth c _ _ _ _ QQ (F0 m 14 ls [.int 1])
      refine lv_istore_n (lv' := [(1, .int 1), (0, .ref h0)]) hx hb dX16_fits_14 rfl hl (by decide) rfl (fun ls100024 hl' => ?_)
      clear hl
      have hl : lv_has ls100024 3 [(1, .int 1), (0, .ref h0)] := hl'
      clear hl'
      refine lv_iconst (v := 0) hx hb dX16_fits_15 (by decide) ?_
      refine lv_istore_n (lv' := [(2, .int 0), (1, .int 1), (0, .ref h0)]) hx hb dX16_fits_16 rfl hl (by decide) rfl (fun ls100025 hl' => ?_)
      clear hl
      have hl : lv_has ls100025 3 [(2, .int 0), (1, .int 1), (0, .ref h0)] := hl'
      clear hl'
      refine lv_iload_n hx hb dX16_fits_17 rfl (lv_at hl 0 rfl) ?_
      refine lv_aload_n hx hb dX16_fits_18 rfl (lv_at hl 2 rfl) ?_
      show W p l e _ s m _ below meth c _ _ _ _ QQ (F0 m 19 ls100025 [.ref h0, .int 0])
      refine va_get (D := (dC, dI)) (ci := 11) (v := .int 0) (C := RX12) (T := TX12) (N := 2) hx hb hall zx_12 hown hK.1 hP 0 rfl rfl 1 (by decide) (hall _ zw_420) (fun _ h9 => h9) rfl dX16_fits_19 ?_
      refine lv_icmp_ge (tgt := 55) hx hb dX16_fits_22 (by decide) (fun _ => ?_) (fun c_22_b100026 => absurd (by decide) c_22_b100026)
      refine lv_iload_n hx hb dX16_fits_55 rfl (lv_at hl 1 rfl) ?_
      rw [← hQ]
      exact W.zret (v := 1) hx hb hr (by rfl) (fun zt ht hW => ⟨⟨1, (), rfl, rfl, (show zt.heap.size = s.heap.size by rw [ht])⟩, hS.F ht⟩) hS.2.2 dX16_fits_56
  · rcases e2 with rfl | rfl
    · refine lv_aload_n hx hb dX16_fits_0 rfl (lv_at hl 0 rfl) ?_
      refine va_get (D := (dC, dI)) (ci := 11) (v := .int 1) (C := RX12) (T := TX12) (N := 2) hx hb hall zx_12 hown hK.1 hP 0 rfl rfl 1 (by decide) (hall _ zw_420) (fun _ h9 => h9) rfl dX16_fits_1 ?_
      refine lv_bipush (v := 13) hx hb dX16_fits_4 (by decide) ?_
      refine lv_icmp_gt (tgt := 13) hx hb dX16_fits_6 (by decide) (fun c_6_b100027 => absurd c_6_b100027 (by decide)) (fun _ => ?_)
      refine lv_iconst (v := 1) hx hb dX16_fits_9 (by decide) ?_
      refine lv_goto (tgt := 14) hx hb dX16_fits_10 (by decide) ?_
      show W p l e _ s m _ below meth c _ _ _ _ QQ (F0 m 14 ls [.int 1])
      refine lv_istore_n (lv' := [(1, .int 1), (0, .ref h0)]) hx hb dX16_fits_14 rfl hl (by decide) rfl (fun ls100028 hl' => ?_)
      clear hl
      have hl : lv_has ls100028 3 [(1, .int 1), (0, .ref h0)] := hl'
      clear hl'
      refine lv_iconst (v := 0) hx hb dX16_fits_15 (by decide) ?_
      refine lv_istore_n (lv' := [(2, .int 0), (1, .int 1), (0, .ref h0)]) hx hb dX16_fits_16 rfl hl (by decide) rfl (fun ls100029 hl' => ?_)
      clear hl
      have hl : lv_has ls100029 3 [(2, .int 0), (1, .int 1), (0, .ref h0)] := hl'
      clear hl'
      refine lv_iload_n hx hb dX16_fits_17 rfl (lv_at hl 0 rfl) ?_
      refine lv_aload_n hx hb dX16_fits_18 rfl (lv_at hl 2 rfl) ?_
      show W p l e _ s m _ below meth c _ _ _ _ QQ (F0 m 19 ls100029 [.ref h0, .int 0])
      refine va_get (D := (dC, dI)) (ci := 11) (v := .int 1) (C := RX12) (T := TX12) (N := 2) hx hb hall zx_12 hown hK.1 hP 0 rfl rfl 1 (by decide) (hall _ zw_420) (fun _ h9 => h9) rfl dX16_fits_19 ?_
      refine lv_icmp_ge (tgt := 55) hx hb dX16_fits_22 (by decide) (fun c_22_b100030 => absurd c_22_b100030 (by decide)) (fun _ => ?_)
      refine lv_iload_n hx hb dX16_fits_25 rfl (lv_at hl 1 rfl) ?_
      refine lv_if_eq (tgt := 55) hx hb dX16_fits_26 (by decide) (fun c_26_b100031 => absurd c_26_b100031 (by decide)) (fun _ => ?_)
      refine lv_aload_n hx hb dX16_fits_29 rfl (lv_at hl 2 rfl) ?_
      show W p l e _ s m _ below meth c _ _ _ _ QQ (F0 m 30 ls100029 [.ref h0])
      refine va_get (D := (dC, dI)) (ci := 11) (v := .ref ra) (C := RX12) (T := TX12) (N := 2) hx hb hall zx_12 hown hK.1 hP 0 rfl rfl 0 (by decide) (hall _ zw_427) (fun _ h9 => h9) rfl dX16_fits_30 ?_
      refine lv_iload_n hx hb dX16_fits_33 rfl (lv_at hl 0 rfl) ?_
      refine zaldr hx hb hK.1 hP 1 4 rfl rfl (zvp (by decide)) (hr0) dX16_fits_34 ?_
      refine va_get (D := (dC, dI)) (ci := 14) (v := .int 0) (C := RX15) (T := TX15) (N := 2) hx hb hall zx_15 hown hK.1 hP 2 rfl rfl 1 (by decide) (hall _ zw_428) (fun _ h9 => h9) rfl dX16_fits_35 ?_
      refine lv_bipush (v := 25) hx hb dX16_fits_38 (by decide) ?_
      refine lv_icmp_gt (tgt := 47) hx hb dX16_fits_40 (by decide) (fun c_40_b100032 => absurd c_40_b100032 (by decide)) (fun _ => ?_)
      show W p l e _ s m _ below meth c _ _ _ _ QQ (F0 m 43 ls100029 [])
      refine lv_iconst (v := 1) hx hb dX16_fits_43 (by decide) ?_
      refine lv_goto (tgt := 48) hx hb dX16_fits_44 (by decide) ?_
      refine lv_istore_n (lv' := [(1, .int 1), (2, .int 0), (0, .ref h0)]) hx hb dX16_fits_48 rfl hl (by decide) rfl (fun ls100033 hl' => ?_)
      clear hl
      have hl : lv_has ls100033 3 [(1, .int 1), (2, .int 0), (0, .ref h0)] := hl'
      clear hl'
      refine lv_iinc (v := 1) (lv' := [(2, .int 1), (1, .int 1), (0, .ref h0)]) hx hb dX16_fits_49 hl (k := 1) rfl (by decide) (by decide) rfl (fun ls100034 hl' => ?_)
      clear hl
      have hl : lv_has ls100034 3 [(2, .int 1), (1, .int 1), (0, .ref h0)] := hl'
      clear hl'
      refine lv_goto (tgt := 17) hx hb dX16_fits_52 (by decide) ?_
      show W p l e _ s m _ below meth c _ _ _ _ QQ (F0 m 17 ls100034 [])
      refine lv_iload_n hx hb dX16_fits_17 rfl (lv_at hl 0 rfl) ?_
      refine lv_aload_n hx hb dX16_fits_18 rfl (lv_at hl 2 rfl) ?_
      refine va_get (D := (dC, dI)) (ci := 11) (v := .int 1) (C := RX12) (T := TX12) (N := 2) hx hb hall zx_12 hown hK.1 hP 0 rfl rfl 1 (by decide) (hall _ zw_420) (fun _ h9 => h9) rfl dX16_fits_19 ?_
      refine lv_icmp_ge (tgt := 55) hx hb dX16_fits_22 (by decide) (fun _ => ?_) (fun c_22_b100035 => absurd (by decide) c_22_b100035)
      refine lv_iload_n hx hb dX16_fits_55 rfl (lv_at hl 1 rfl) ?_
      rw [← hQ]
      exact W.zret (v := 1) hx hb hr (by rfl) (fun zt ht hW => ⟨⟨1, (), rfl, rfl, (show zt.heap.size = s.heap.size by rw [ht])⟩, hS.F ht⟩) hS.2.2 dX16_fits_56
    · refine lv_aload_n hx hb dX16_fits_0 rfl (lv_at hl 0 rfl) ?_
      refine va_get (D := (dC, dI)) (ci := 11) (v := .int 1) (C := RX12) (T := TX12) (N := 2) hx hb hall zx_12 hown hK.1 hP 0 rfl rfl 1 (by decide) (hall _ zw_420) (fun _ h9 => h9) rfl dX16_fits_1 ?_
      refine lv_bipush (v := 13) hx hb dX16_fits_4 (by decide) ?_
      refine lv_icmp_gt (tgt := 13) hx hb dX16_fits_6 (by decide) (fun c_6_b100036 => absurd c_6_b100036 (by decide)) (fun _ => ?_)
      refine lv_iconst (v := 1) hx hb dX16_fits_9 (by decide) ?_
      refine lv_goto (tgt := 14) hx hb dX16_fits_10 (by decide) ?_
      show W p l e _ s m _ below meth c _ _ _ _ QQ (F0 m 14 ls [.int 1])
      refine lv_istore_n (lv' := [(1, .int 1), (0, .ref h0)]) hx hb dX16_fits_14 rfl hl (by decide) rfl (fun ls100037 hl' => ?_)
      clear hl
      have hl : lv_has ls100037 3 [(1, .int 1), (0, .ref h0)] := hl'
      clear hl'
      refine lv_iconst (v := 0) hx hb dX16_fits_15 (by decide) ?_
      refine lv_istore_n (lv' := [(2, .int 0), (1, .int 1), (0, .ref h0)]) hx hb dX16_fits_16 rfl hl (by decide) rfl (fun ls100038 hl' => ?_)
      clear hl
      have hl : lv_has ls100038 3 [(2, .int 0), (1, .int 1), (0, .ref h0)] := hl'
      clear hl'
      refine lv_iload_n hx hb dX16_fits_17 rfl (lv_at hl 0 rfl) ?_
      refine lv_aload_n hx hb dX16_fits_18 rfl (lv_at hl 2 rfl) ?_
      show W p l e _ s m _ below meth c _ _ _ _ QQ (F0 m 19 ls100038 [.ref h0, .int 0])
      refine va_get (D := (dC, dI)) (ci := 11) (v := .int 1) (C := RX12) (T := TX12) (N := 2) hx hb hall zx_12 hown hK.1 hP 0 rfl rfl 1 (by decide) (hall _ zw_420) (fun _ h9 => h9) rfl dX16_fits_19 ?_
      refine lv_icmp_ge (tgt := 55) hx hb dX16_fits_22 (by decide) (fun c_22_b100039 => absurd c_22_b100039 (by decide)) (fun _ => ?_)
      refine lv_iload_n hx hb dX16_fits_25 rfl (lv_at hl 1 rfl) ?_
      refine lv_if_eq (tgt := 55) hx hb dX16_fits_26 (by decide) (fun c_26_b100040 => absurd c_26_b100040 (by decide)) (fun _ => ?_)
      refine lv_aload_n hx hb dX16_fits_29 rfl (lv_at hl 2 rfl) ?_
      show W p l e _ s m _ below meth c _ _ _ _ QQ (F0 m 30 ls100038 [.ref h0])
      refine va_get (D := (dC, dI)) (ci := 11) (v := .ref ra) (C := RX12) (T := TX12) (N := 2) hx hb hall zx_12 hown hK.1 hP 0 rfl rfl 0 (by decide) (hall _ zw_427) (fun _ h9 => h9) rfl dX16_fits_30 ?_
      refine lv_iload_n hx hb dX16_fits_33 rfl (lv_at hl 0 rfl) ?_
      refine zaldr hx hb hK.1 hP 1 4 rfl rfl (zvp (by decide)) (hr0) dX16_fits_34 ?_
      refine va_get (D := (dC, dI)) (ci := 14) (v := .int 1) (C := RX15) (T := TX15) (N := 2) hx hb hall zx_15 hown hK.1 hP 2 rfl rfl 1 (by decide) (hall _ zw_428) (fun _ h9 => h9) rfl dX16_fits_35 ?_
      refine lv_bipush (v := 25) hx hb dX16_fits_38 (by decide) ?_
      refine lv_icmp_gt (tgt := 47) hx hb dX16_fits_40 (by decide) (fun c_40_b100041 => absurd c_40_b100041 (by decide)) (fun _ => ?_)
      show W p l e _ s m _ below meth c _ _ _ _ QQ (F0 m 43 ls100038 [])
      refine lv_iconst (v := 1) hx hb dX16_fits_43 (by decide) ?_
      refine lv_goto (tgt := 48) hx hb dX16_fits_44 (by decide) ?_
      refine lv_istore_n (lv' := [(1, .int 1), (2, .int 0), (0, .ref h0)]) hx hb dX16_fits_48 rfl hl (by decide) rfl (fun ls100042 hl' => ?_)
      clear hl
      have hl : lv_has ls100042 3 [(1, .int 1), (2, .int 0), (0, .ref h0)] := hl'
      clear hl'
      refine lv_iinc (v := 1) (lv' := [(2, .int 1), (1, .int 1), (0, .ref h0)]) hx hb dX16_fits_49 hl (k := 1) rfl (by decide) (by decide) rfl (fun ls100043 hl' => ?_)
      clear hl
      have hl : lv_has ls100043 3 [(2, .int 1), (1, .int 1), (0, .ref h0)] := hl'
      clear hl'
      refine lv_goto (tgt := 17) hx hb dX16_fits_52 (by decide) ?_
      show W p l e _ s m _ below meth c _ _ _ _ QQ (F0 m 17 ls100043 [])
      refine lv_iload_n hx hb dX16_fits_17 rfl (lv_at hl 0 rfl) ?_
      refine lv_aload_n hx hb dX16_fits_18 rfl (lv_at hl 2 rfl) ?_
      refine va_get (D := (dC, dI)) (ci := 11) (v := .int 1) (C := RX12) (T := TX12) (N := 2) hx hb hall zx_12 hown hK.1 hP 0 rfl rfl 1 (by decide) (hall _ zw_420) (fun _ h9 => h9) rfl dX16_fits_19 ?_
      refine lv_icmp_ge (tgt := 55) hx hb dX16_fits_22 (by decide) (fun _ => ?_) (fun c_22_b100044 => absurd (by decide) c_22_b100044)
      refine lv_iload_n hx hb dX16_fits_55 rfl (lv_at hl 1 rfl) ?_
      rw [← hQ]
      exact W.zret (v := 1) hx hb hr (by rfl) (fun zt ht hW => ⟨⟨1, (), rfl, rfl, (show zt.heap.size = s.heap.size by rw [ht])⟩, hS.F ht⟩) hS.2.2 dX16_fits_56

set_option maxHeartbeats 4000000 in
set_option maxRecDepth 100000 in
theorem c_X16_plain (l : Launch) (dC : Nat → ClassId) (dI : Nat → Nat → Nat) (aC : Nat → ClassId) (d : Nat) (sz : Nat) : Met l yX16_plain w_X16_plain ({ frames := 1, cells := 0, slots := 0, locals := 24 }) (zPre (dC, dI) aC [(d + 82, .inr (13, [.int 0, .ref (d + 83), .ref (d + 84), .int 0, .int 0, .int 0, .ref (d + 85), .ref (d + 86), .ref (d + 87), .ref (d + 88), .int 0, .ref (d + 89), .int 0, .int 0, .ref (d + 90)]))] sz [.ref (d + 82)]) (va_Qv (fun (u : Unit) => True) (fun u zt => zB (dC, dI) [(d + 82, .inr (13, [.int 1, .ref (d + 83), .ref (d + 84), .int 1, .int 1, .int 0, .ref (d + 85), .ref (d + 86), .ref (d + 87), .ref (d + 88), .int 0, .ref (d + 89), .int 0, .int 0, .ref (d + 90)]))] (va_A [(d + 82, .inr (13, [.int 0, .ref (d + 83), .ref (d + 84), .int 0, .int 0, .int 0, .ref (d + 85), .ref (d + 86), .ref (d + 87), .ref (d + 88), .int 0, .ref (d + 89), .int 0, .int 0, .ref (d + 90)]))] sz) (sz + 0) zt) (va_A [(d + 82, .inr (13, [.int 0, .ref (d + 83), .ref (d + 84), .int 0, .int 0, .int 0, .ref (d + 85), .ref (d + 86), .ref (d + 87), .ref (d + 88), .int 0, .ref (d + 89), .int 0, .int 0, .ref (d + 90)]))] sz)) 0 0 (va_A [(d + 82, .inr (13, [.int 0, .ref (d + 83), .ref (d + 84), .int 0, .int 0, .int 0, .ref (d + 85), .ref (d + 86), .ref (d + 87), .ref (d + 88), .int 0, .ref (d + 89), .int 0, .int 0, .ref (d + 90)]))] sz) := by
  refine Met.ofW (cc := cX16_plain) (maxL := 1) (ret := none) (by decide) rfl ?_
  intro p e s m args below meth c s₁ B hml hv
  generalize hQ : MQ below _ _ s _ _ _ = QQ
  obtain ⟨rfl, hsz, hP, hK, hD0⟩ := hv
  have hx := B.exec
  have hb := B.bytes
  have hr := B.returns
  have hts := atoms_spec (ws := w_X16_plain) B.pre
  have hall := fun (w : Cond) (h : w ∈ zAll) => hts w (List.mem_cons_of_mem _ h)
  have hown : s.vm.findClass RX16 = some m.cls := findClass_of_methodNamed B.named
  have hlocks := B.notSynchronized
  subst hsz
  have hD := hD0.self (sz := s.heap.size)
  generalize hAe : va_A [(d + 82, .inr (13, [.int 0, .ref (d + 83), .ref (d + 84), .int 0, .int 0, .int 0, .ref (d + 85), .ref (d + 86), .ref (d + 87), .ref (d + 88), .int 0, .ref (d + 89), .int 0, .int 0, .ref (d + 90)]))] s.heap.size = A at hD ⊢
  have hA : ∀ q : Nat, s.heap.size ≤ q → A q := fun q h => by rw [← hAe]; exact Or.inr h
  have hS : va_S A s.heap s.heap [] := va_S.rf
  have hz0 : s.heap.size = s.heap.size + 0 := rfl
  have hl := lv_entry ([.ref (d + 82)]) (n := 1) (Nat.le_of_ble_eq_true rfl)
  rw [lg_entry_eq]
  generalize (lg_sl ([.ref (d + 82)]) ++ List.replicate (1 - (lg_sl ([.ref (d + 82)])).length) Slot.unset).toArray = ls at hl ⊢
  have hl : lv_has ls 1 [(0, .ref (d + 82))] := hl
  refine lv_aload_n hx hb dX16_plain_0 rfl (lv_at hl 0 rfl) ?_
  refine lv_iconst (v := 1) hx hb dX16_plain_1 (by decide) ?_
  refine zput (D := (dC, dI)) (ci := 13) (v := .int 1) (ty := .int) (C := RX14) (T := TX14) (N := 15) hx hb hall zx_14 tyX14 tyX14_ok nmX14 hown hK.1 hP hD hS 0 rfl rfl 0 (by decide) (hall _ zw_402) (fun _ h9 => h9) rfl (by decide +kernel) rfl rfl (Nat.le_of_ble_eq_true rfl) dX16_plain_2 (fun H100045 L100046 hB hP' hD' hS' => ?_)
  replace hz0 : H100045.size = s.heap.size + 0 := hB.1.trans hz0
  clear hP hD hS hB
  have hP : va_P (dC, dI) vwCl [(d + 82, .inr (13, [.int 1, .ref (d + 83), .ref (d + 84), .int 0, .int 0, .int 0, .ref (d + 85), .ref (d + 86), .ref (d + 87), .ref (d + 88), .int 0, .ref (d + 89), .int 0, .int 0, .ref (d + 90)]))] H100045 := hP'
  have hD : va_D A [(d + 82, .inr (13, [.int 1, .ref (d + 83), .ref (d + 84), .int 0, .int 0, .int 0, .ref (d + 85), .ref (d + 86), .ref (d + 87), .ref (d + 88), .int 0, .ref (d + 89), .int 0, .int 0, .ref (d + 90)]))] := hD'
  have hS : va_S A s.heap H100045 L100046 := hS'
  clear hP' hD' hS'
  refine lv_aload_n hx hb dX16_plain_5 rfl (lv_at hl 0 rfl) ?_
  refine lv_iconst (v := 1) hx hb dX16_plain_6 (by decide) ?_
  show W p l e _ s m _ below meth c _ _ _ _ QQ (F0 m 7 ls [.int 1, .ref (d + 82)])
  refine zput (D := (dC, dI)) (ci := 13) (v := .int 1) (ty := .int) (C := RX14) (T := TX14) (N := 15) hx hb hall zx_14 tyX14 tyX14_ok nmX14 hown hK.1 hP hD hS 0 rfl rfl 3 (by decide) (hall _ zw_408) (fun _ h9 => h9) rfl (by decide +kernel) rfl rfl (Nat.le_of_ble_eq_true rfl) dX16_plain_7 (fun H100047 L100048 hB hP' hD' hS' => ?_)
  replace hz0 : H100047.size = s.heap.size + 0 := hB.1.trans hz0
  clear hP hD hS hB
  have hP : va_P (dC, dI) vwCl [(d + 82, .inr (13, [.int 1, .ref (d + 83), .ref (d + 84), .int 1, .int 0, .int 0, .ref (d + 85), .ref (d + 86), .ref (d + 87), .ref (d + 88), .int 0, .ref (d + 89), .int 0, .int 0, .ref (d + 90)]))] H100047 := hP'
  have hD : va_D A [(d + 82, .inr (13, [.int 1, .ref (d + 83), .ref (d + 84), .int 1, .int 0, .int 0, .ref (d + 85), .ref (d + 86), .ref (d + 87), .ref (d + 88), .int 0, .ref (d + 89), .int 0, .int 0, .ref (d + 90)]))] := hD'
  have hS : va_S A s.heap H100047 L100048 := hS'
  clear hP' hD' hS'
  clear L100046 H100045
  refine lv_aload_n hx hb dX16_plain_10 rfl (lv_at hl 0 rfl) ?_
  refine lv_iconst (v := 1) hx hb dX16_plain_11 (by decide) ?_
  refine zput (D := (dC, dI)) (ci := 13) (v := .int 1) (ty := .int) (C := RX14) (T := TX14) (N := 15) hx hb hall zx_14 tyX14 tyX14_ok nmX14 hown hK.1 hP hD hS 0 rfl rfl 4 (by decide) (hall _ zw_409) (fun _ h9 => h9) rfl (by decide +kernel) rfl rfl (Nat.le_of_ble_eq_true rfl) dX16_plain_12 (fun H100049 L100050 hB hP' hD' hS' => ?_)
  replace hz0 : H100049.size = s.heap.size + 0 := hB.1.trans hz0
  clear hP hD hS hB
  have hP : va_P (dC, dI) vwCl [(d + 82, .inr (13, [.int 1, .ref (d + 83), .ref (d + 84), .int 1, .int 1, .int 0, .ref (d + 85), .ref (d + 86), .ref (d + 87), .ref (d + 88), .int 0, .ref (d + 89), .int 0, .int 0, .ref (d + 90)]))] H100049 := hP'
  have hD : va_D A [(d + 82, .inr (13, [.int 1, .ref (d + 83), .ref (d + 84), .int 1, .int 1, .int 0, .ref (d + 85), .ref (d + 86), .ref (d + 87), .ref (d + 88), .int 0, .ref (d + 89), .int 0, .int 0, .ref (d + 90)]))] := hD'
  have hS : va_S A s.heap H100049 L100050 := hS'
  clear hP' hD' hS'
  clear L100048 H100047
  refine lv_aload_n hx hb dX16_plain_15 rfl (lv_at hl 0 rfl) ?_
  show W p l e _ s m _ below meth c _ _ _ _ QQ (F0 m 16 ls [.ref (d + 82)])
  refine lv_iconst (v := 0) hx hb dX16_plain_16 (by decide) ?_
  refine zput (D := (dC, dI)) (ci := 13) (v := .int 0) (ty := .int) (C := RX14) (T := TX14) (N := 15) hx hb hall zx_14 tyX14 tyX14_ok nmX14 hown hK.1 hP hD hS 0 rfl rfl 5 (by decide) (hall _ zw_410) (fun _ h9 => h9) rfl (by decide +kernel) rfl rfl (Nat.le_of_ble_eq_true rfl) dX16_plain_17 (fun H100051 L100052 hB hP' hD' hS' => ?_)
  replace hz0 : H100051.size = s.heap.size + 0 := hB.1.trans hz0
  clear hP hD hS hB
  have hP : va_P (dC, dI) vwCl [(d + 82, .inr (13, [.int 1, .ref (d + 83), .ref (d + 84), .int 1, .int 1, .int 0, .ref (d + 85), .ref (d + 86), .ref (d + 87), .ref (d + 88), .int 0, .ref (d + 89), .int 0, .int 0, .ref (d + 90)]))] H100051 := hP'
  have hD : va_D A [(d + 82, .inr (13, [.int 1, .ref (d + 83), .ref (d + 84), .int 1, .int 1, .int 0, .ref (d + 85), .ref (d + 86), .ref (d + 87), .ref (d + 88), .int 0, .ref (d + 89), .int 0, .int 0, .ref (d + 90)]))] := hD'
  have hS : va_S A s.heap H100051 L100052 := hS'
  clear hP' hD' hS'
  clear L100050 H100049
  refine W.widen (k := 0) (n := 0) (Nat.le_of_ble_eq_true rfl) (Nat.le_of_ble_eq_true rfl) ?_
  rw [← hQ, hAe]
  have hP := zsubP (wc := [(d + 82, .inr (13, [.int 1, .ref (d + 83), .ref (d + 84), .int 1, .int 1, .int 0, .ref (d + 85), .ref (d + 86), .ref (d + 87), .ref (d + 88), .int 0, .ref (d + 89), .int 0, .int 0, .ref (d + 90)]))]) hP [0] rfl
  have hD := hD.sub (ws' := [(d + 82, .inr (13, [.int 1, .ref (d + 83), .ref (d + 84), .int 1, .int 1, .int 0, .ref (d + 85), .ref (d + 86), .ref (d + 87), .ref (d + 88), .int 0, .ref (d + 89), .int 0, .int 0, .ref (d + 90)]))]) [0] (by decide) rfl
  exact W.vret hx hb hr (fun zt ht hW => ⟨⟨(), rfl, trivial, by rw [ht]; exact hP, hD, by rw [ht]; exact hz0⟩, hS.F ht⟩) hS.2.2 dX16_plain_20
