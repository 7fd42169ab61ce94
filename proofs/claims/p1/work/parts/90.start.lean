theorem dL_law_0 : decode cL_law 0 = .ok (.new 7, 3) := by decide +kernel
theorem dL_law_3 : decode cL_law 3 = .ok (.dup, 1) := by decide +kernel
theorem dL_law_4 : decode cL_law 4 = .ok (.invokespecial 9, 3) := by decide +kernel
theorem dL_law_7 : decode cL_law 7 = .ok (.astore_n 1, 1) := by decide +kernel
theorem dL_law_8 : decode cL_law 8 = .ok (.new 10, 3) := by decide +kernel
theorem dL_law_11 : decode cL_law 11 = .ok (.dup, 1) := by decide +kernel
theorem dL_law_12 : decode cL_law 12 = .ok (.invokespecial 12, 3) := by decide +kernel
theorem dL_law_15 : decode cL_law 15 = .ok (.astore_n 2, 1) := by decide +kernel
theorem dL_law_16 : decode cL_law 16 = .ok (.iconst 0, 1) := by decide +kernel
theorem dL_law_17 : decode cL_law 17 = .ok (.istore_n 3, 1) := by decide +kernel
theorem dL_law_27 : decode cL_law 27 = .ok (.aload_n 0, 1) := by decide +kernel
theorem dL_law_28 : decode cL_law 28 = .ok (.iload_n 3, 1) := by decide +kernel
theorem dL_law_29 : decode cL_law 29 = .ok (.iaload, 1) := by decide +kernel
theorem dL_law_30 : decode cL_law 30 = .ok (.bipush 63, 2) := by decide +kernel
theorem dL_law_32 : decode cL_law 32 = .ok (.iand, 1) := by decide +kernel
theorem dL_law_33 : decode cL_law 33 = .ok (.tableswitch 1410 0 34 #[155, 218, 241, 254, 277, 300, 313, 336, 359, 402, 455, 488, 531, 584, 637, 680, 733, 776, 819, 852, 895, 938, 971, 1034, 1097, 1130, 1163, 1196, 1249, 1272, 1285, 1308, 1331, 1354, 1387], 155) := by decide +kernel
set_option maxHeartbeats 4000000 in
set_option maxRecDepth 100000 in
/-- YOUR PART: from the entry, for every script of at most 6 ints, the law comes to its end with true ('hflags': the launch's flags, for a law that throws: no stack traces) -/
theorem whole_start {p : Program} {e : Env} {s : State} {m : MethodId} {below : List Frame} {meth : Method} {c : Code} (l : Launch) (hflags : l.flags = flags0) {b L : Nat} {xs : Nat → Int32} (hL : L ≤ 6) (C0 : lw_At p s m meth c b L xs) : W p l e room_1 s m #[Value.ref b] below meth c s.heap [] 0 0 (lw_Z below #[Value.ref b] s) (entryFrame m ([Value.ref b] : List Value).toArray 4) := by
  have C1 := C0
  obtain ⟨hx, hb, hr, hml, hown0, hts, hSc, hbl, hlocks, hgv⟩ := C0
  have hown : s.vm.findClass RL = some m.cls := hown0
  have hallB : ∀ w ∈ zBig, w.before #[Value.ref b] s = true := fun w h => hts w (zBig_in w h)
  have hall : ∀ w ∈ zAll, w.before #[Value.ref b] s = true := fun w h => hallB w (List.mem_append_left _ h)
  have hallJ : ∀ w ∈ zJ, w.before #[Value.ref b] s = true := fun w h => hallB w (List.mem_append_right _ h)
  obtain ⟨k0, i0, hK0⟩ := u_known (C := RX0) (T := TX0) (N := 5) (n := 5) hall zx_0 (hall _ zw_780)
  obtain ⟨k2, i2, hK2⟩ := u_known (C := RX2) (T := TX2) (N := 1) (n := 1) hall zx_2 (hall _ zw_783)
  obtain ⟨k3, i3, hK3⟩ := u_known (C := RX3) (T := TX3) (N := 3) (n := 3) hall zx_3 (hall _ zw_785)
  obtain ⟨k4, i4, hK4⟩ := u_known (C := RX4) (T := TX4) (N := 3) (n := 3) hall zx_4 (hall _ zw_787)
  obtain ⟨k5, i5, hK5⟩ := u_known (C := RX5) (T := TX5) (N := 9) (n := 9) hall zx_5 (hall _ zw_789)
  obtain ⟨k6, i6, hK6⟩ := u_known (C := RX6) (T := TX6) (N := 12) (n := 12) hall zx_6 (hall _ zw_791)
  obtain ⟨k7, i7, hK7⟩ := u_known (C := RX7) (T := TX7) (N := 14) (n := 14) hall zx_7 (hall _ zw_793)
  obtain ⟨k8, i8, hK8⟩ := u_known (C := RX8) (T := TX8) (N := 18) (n := 18) hall zx_8 (hall _ zw_795)
  obtain ⟨k9, i9, hK9⟩ := u_known (C := RX9) (T := TX9) (N := 8) (n := 8) hall zx_9 (hall _ zw_797)
  obtain ⟨k10, i10, hK10⟩ := u_known (C := RX10) (T := TX10) (N := 19) (n := 19) hall zx_10 (hall _ zw_799)
  obtain ⟨k11, i11, hK11⟩ := u_known (C := RX11) (T := TX11) (N := 13) (n := 13) hall zx_11 (hall _ zw_801)
  obtain ⟨k12, i12, hK12⟩ := u_known (C := RX12) (T := TX12) (N := 2) (n := 2) hall zx_12 (hall _ zw_803)
  obtain ⟨k13, i13, hK13⟩ := u_known (C := RX13) (T := TX13) (N := 6) (n := 6) hall zx_13 (hall _ zw_805)
  obtain ⟨k14, i14, hK14⟩ := u_known (C := RX14) (T := TX14) (N := 15) (n := 15) hall zx_14 (hall _ zw_807)
  obtain ⟨k15, i15, hK15⟩ := u_known (C := RX15) (T := TX15) (N := 2) (n := 2) hall zx_15 (hall _ zw_809)
  obtain ⟨k16, i16, hK16⟩ := u_known (C := RX16) (T := TX16) (N := 65) (n := 65) hall zx_16 (hall _ zw_811)
  obtain ⟨dC, dI, hKc⟩ : ∃ (dC : Nat → ClassId) (dI : Nat → Nat → Nat), ∀ (k : Nat) (q : vw_C), vwCl[k]? = some q → u_Kn s q.1 q.2.1 q.2.2 (dC k) (dI k) := by
    refine ⟨fun k => [k0, k2, k3, k4, k5, k6, k7, k8, k9, k10, k11, k12, k13, k14, k15, k16].getD k k0, fun k => [i0, i2, i3, i4, i5, i6, i7, i8, i9, i10, i11, i12, i13, i14, i15, i16].getD k i0, ?_⟩
    intro k q hq
    match k, hq with
    | 0, hq => cases hq; exact hK0
    | 1, hq => cases hq; exact hK2
    | 2, hq => cases hq; exact hK3
    | 3, hq => cases hq; exact hK4
    | 4, hq => cases hq; exact hK5
    | 5, hq => cases hq; exact hK6
    | 6, hq => cases hq; exact hK7
    | 7, hq => cases hq; exact hK8
    | 8, hq => cases hq; exact hK9
    | 9, hq => cases hq; exact hK10
    | 10, hq => cases hq; exact hK11
    | 11, hq => cases hq; exact hK12
    | 12, hq => cases hq; exact hK13
    | 13, hq => cases hq; exact hK14
    | 14, hq => cases hq; exact hK15
    | 15, hq => cases hq; exact hK16
    | k + 16, hq => simp [vwCl] at hq
  clear hK0 hK2 hK3 hK4 hK5 hK6 hK7 hK8 hK9 hK10 hK11 hK12 hK13 hK14 hK15 hK16
  obtain ⟨a0, ha0, hn0⟩ := zTi (hall _ zw_4)
  obtain ⟨a1, ha1, hn1⟩ := zTi (hall _ zw_333)
  obtain ⟨a2, ha2, hn2⟩ := zTi (hall _ zw_326)
  obtain ⟨a3, ha3, hn3⟩ := zTo (hts _ zlo_o6)
  obtain ⟨a4, ha4, hn4⟩ := zTo (hts _ zlo_o15)
  obtain ⟨a5, ha5, hn5⟩ := zTo (hts _ zlo_o12)
  obtain ⟨a6, ha6, hn6⟩ := zTo (hts _ zlo_o14)
  obtain ⟨aC, hT⟩ : ∃ aC : Nat → ClassId, va_K (dC, dI) vwCl (zT aC) s := by
    refine ⟨fun k => [a0, a1, a2, a3, a4, a5, a6].getD k a0, hKc, fun k q hq => ?_⟩
    match k, hq with
    | 0, hq => cases hq; exact ⟨ha0, hn0⟩
    | 1, hq => cases hq; exact ⟨ha1, hn1⟩
    | 2, hq => cases hq; exact ⟨ha2, hn2⟩
    | 3, hq => cases hq; exact ⟨ha3, hn3⟩
    | 4, hq => cases hq; exact ⟨ha4, hn4⟩
    | 5, hq => cases hq; exact ⟨ha5, hn5⟩
    | 6, hq => cases hq; exact ⟨ha6, hn6⟩
    | k + 7, hq => simp [zT] at hq
  have hK : zK (dC, dI) aC s := ⟨hT, va_AO.of (hts _ zlo_o6), va_AO.of (hts _ zlo_o15), va_AO.of (hts _ zlo_o12), va_AO.of (hts _ zlo_o14), va_Nw.of rfl (hts _ zlo_nest), va_Nw.of rfl (hts _ zlo_cast)⟩
  have hgs := flat_of_before _ hgv
  have hX : zX (fun q : Nat => s.heap.size ≤ q) s s.heap := ⟨⟨va_Zqof (hts _ zlo_s1) (hallJ _ zw_9012) (hgs _ (by decide +kernel)) (fun a h => Nat.not_le.mpr h), va_Zqof (hts _ zlo_s2) (hallJ _ zw_9012) (hgs _ (by decide +kernel)) (fun a h => Nat.not_le.mpr h)⟩, zArr (hts _ zlo_ai), zArr (hts _ zlo_au)⟩
  clear hgs
  have hbA : ¬ (fun q : Nat => s.heap.size ≤ q) b := Nat.not_le.mpr hbl
  generalize hAe : (fun q : Nat => s.heap.size ≤ q) = A at hX hbA
  have hA : ∀ q : Nat, s.heap.size ≤ q → A q := fun q h => by rw [← hAe]; exact h
  generalize hQ : lw_Z below #[Value.ref b] s = QQ
  have hS : va_S A s.heap s.heap [] := va_S.rf
  have hz0 : s.heap.size = s.heap.size + 0 := rfl
  have hP : va_P (dC, dI) vwCl [] s.heap := zP_n
  have hD : va_D A [] := zUp_D (lo := s.heap.size) hA zUp_n
  have hl := lv_entry ([.ref b]) (n := 4) (Nat.le_of_ble_eq_true rfl)
  rw [lg_entry_eq]
  generalize (lg_sl ([.ref b]) ++ List.replicate (4 - (lg_sl ([.ref b])).length) Slot.unset).toArray = ls at hl ⊢
  have hl : lv_has ls 4 [(0, .ref b)] := hl
  refine znew (D := (dC, dI)) (ci := 10) (C := RX11) (T := TX11) (N := 13) (fs := [.null, .null, .null, .null, .null, .null, .null, .null, .null, .null, .int 0, .null, .int 0]) hx hb hall zx_11 tyX11 tyX11_ok hown (hall _ zw_488) (hall _ zw_801) (hall _ zw_802) hK.1 hP hD hS hA rfl (by decide +kernel) (Nat.le_of_ble_eq_true rfl) (Nat.le_of_ble_eq_true rfl) dL_law_0 (fun q160001 H160002 eq160001 hz hB hP' hD' hS' => ?_)
  obtain rfl : q160001 = s.heap.size + 0 := eq160001.trans hz0
  clear eq160001
  replace hz0 : H160002.size = s.heap.size + 1 := by omega
  clear hz
  clear hP hD hS hB
  have hP : va_P (dC, dI) vwCl [(s.heap.size + 0, .inr (10, [.null, .null, .null, .null, .null, .null, .null, .null, .null, .null, .int 0, .null, .int 0]))] H160002 := hP'
  have hD : va_D A [(s.heap.size + 0, .inr (10, [.null, .null, .null, .null, .null, .null, .null, .null, .null, .null, .int 0, .null, .int 0]))] := hD'
  have hS : va_S A s.heap H160002 [] := hS'
  clear hP' hD' hS'
  obtain ⟨hh, ehh⟩ : ∃ q, q = s.heap.size + 0 := ⟨_, rfl⟩
  rw [← ehh] at hP hD ⊢
  refine lv_dup hx hb dL_law_3 rfl ?_
  have hF0 := va_free (wc := [(hh, .inr (10, [.null, .null, .null, .null, .null, .null, .null, .null, .null, .null, .int 0, .null, .int 0]))]) hD hS hA [0] rfl
  refine va_callv (va_runI (As := []) (rest := [.ref hh]) ⟨hx, hb, hml, hown, hall⟩ (c_X11_init l dC dI aC hh H160002.size (by omega)) (cwI 0 hall g_X11_init rfl rfl rfl (hall _ zw_802) (hall _ zw_489) (hall _ zw_491) rfl (by decide +kernel) ⟨Nat.le_of_ble_eq_true rfl, Nat.le_of_ble_eq_true rfl⟩) (zPre_S (As := .ref hh :: []) hK hP hD [0] rfl (by decide +kernel)) rfl rfl hl.1 rfl (lv_room (Nat.le_of_ble_eq_true rfl)) dL_law_4 ⟨Nat.le_of_ble_eq_true rfl, Nat.le_of_ble_eq_true rfl⟩) hS (fun q _ h => hF0 q h) hF0 (fun u zt H160003 L160004 ht _ _ hB _ hk hS' => ?_)
  obtain ⟨⟨b1, b2, b3⟩, hf9⟩ := hB
  rw [ht] at b1 b3 hf9
  obtain ⟨j1, j2⟩ := va_join (wr := []) hP hD [0] [] rfl rfl (by decide) (by decide) hk hF0 b1 b2
  obtain ⟨bb, ez⟩ : ∃ q, q = H160002.size := ⟨_, rfl⟩
  rw [← ez] at j1 j2 b3 hf9
  have ebb : bb = s.heap.size + 1 := ez.trans hz0
  have hz0 : H160003.size = s.heap.size + 109 := by omega
  clear ez b1 b2 b3 hk hF0 hP hD hS ht
  have hP : va_P (dC, dI) vwCl [(hh, .inr (10, [.ref (bb + 0), .ref (bb + 73), .ref (bb + 75), .ref (bb + 76), .ref (bb + 80), .ref (bb + 81), .ref (bb + 88), .ref (bb + 95), .ref (bb + 100), .ref (bb + 106), .int 0, .ref (bb + 107), .int 0])), (bb + 0, .inl (aC 3, 12, .inr (.inr (.inr (.inr (zrefs (fun i => bb + (1 + 6 * i)) 12)))))), ((bb + 73), .inr (3, [.ref (bb + 74), .int 2048, .int 0])), (bb + 74, .inl (aC 0, 131072, .inl (fun _ => 0))), ((bb + 75), .inr (1, [.ref (bb + 73)])), ((bb + 80), .inr (2, [.ref (bb + 73), .ref (bb + 75), .ref (bb + 76)])), ((bb + 81), .inr (8, [.ref (bb + 73), .ref (bb + 75), .ref (bb + 76), .ref (bb + 80), .ref (bb + 82), .ref (bb + 83), .int 0, .int 0])), ((bb + 88), .inr (9, [.ref (bb + 81), .ref (bb + 89), .int 0, .ref (bb + 90), .int 0, .ref (bb + 91), .int 0, .ref (bb + 92), .int 0, .ref (bb + 93), .int 0, .int 0, .int 0, .ref (bb + 94), .int 0, .int 0, .int 0, .int 0, .int (-1)])), (bb + 89, .inl (aC 0, 400, .inl (fun _ => 0))), ((bb + 100), .inr (4, [.ref (bb + 73), .ref (bb + 75), .ref (bb + 76), .ref (bb + 84), .ref (bb + 101), .ref (bb + 102), .ref (bb + 103), .ref (bb + 104), .ref (bb + 105)])), (bb + 106, .inl (aC 0, 60, .inl (fun _ => 0)))] H160003 := j1
  have hD : va_D A [(hh, .inr (10, [.ref (bb + 0), .ref (bb + 73), .ref (bb + 75), .ref (bb + 76), .ref (bb + 80), .ref (bb + 81), .ref (bb + 88), .ref (bb + 95), .ref (bb + 100), .ref (bb + 106), .int 0, .ref (bb + 107), .int 0])), (bb + 0, .inl (aC 3, 12, .inr (.inr (.inr (.inr (zrefs (fun i => bb + (1 + 6 * i)) 12)))))), ((bb + 73), .inr (3, [.ref (bb + 74), .int 2048, .int 0])), (bb + 74, .inl (aC 0, 131072, .inl (fun _ => 0))), ((bb + 75), .inr (1, [.ref (bb + 73)])), ((bb + 80), .inr (2, [.ref (bb + 73), .ref (bb + 75), .ref (bb + 76)])), ((bb + 81), .inr (8, [.ref (bb + 73), .ref (bb + 75), .ref (bb + 76), .ref (bb + 80), .ref (bb + 82), .ref (bb + 83), .int 0, .int 0])), ((bb + 88), .inr (9, [.ref (bb + 81), .ref (bb + 89), .int 0, .ref (bb + 90), .int 0, .ref (bb + 91), .int 0, .ref (bb + 92), .int 0, .ref (bb + 93), .int 0, .int 0, .int 0, .ref (bb + 94), .int 0, .int 0, .int 0, .int 0, .int (-1)])), (bb + 89, .inl (aC 0, 400, .inl (fun _ => 0))), ((bb + 100), .inr (4, [.ref (bb + 73), .ref (bb + 75), .ref (bb + 76), .ref (bb + 84), .ref (bb + 101), .ref (bb + 102), .ref (bb + 103), .ref (bb + 104), .ref (bb + 105)])), (bb + 106, .inl (aC 0, 60, .inl (fun _ => 0)))] := j2
  have hS := hS'
  clear hS' j1 j2
  have hF := hf9
  clear hf9
  refine lv_astore_n (lv' := [(1, .ref hh), (0, .ref b)]) hx hb dL_law_7 rfl hl (by decide) rfl (fun ls160005 hl' => ?_)
  clear hl
  have hl : lv_has ls160005 4 [(1, .ref hh), (0, .ref b)] := hl'
  clear hl'
  refine znew (D := (dC, dI)) (ci := 15) (C := RX16) (T := TX16) (N := 65) (fs := [.null, .int 0, .null, .int 0, .null, .null, .null, .null, .null, .int 0, .int 0, .null, .int 0, .int 0, .int 0, .null, .int 0, .int 0, .int 0, .int 0, .null, .null, .int 0, .null, .int 0, .int 0, .null, .int 0, .null, .int 0, .null, .int 0, .null, .null, .null, .null, .int 0, .int 0, .null, .null, .null, .null, .null, .null, .null, .null, .null, .null, .int 0, .null, .null, .null, .null, .null, .null, .null, .null, .null, .null, .null, .null, .null, .null, .int 0, .null]) hx hb hall zx_16 tyX16 tyX16_ok hown (hall _ zw_492) (hall _ zw_811) (hall _ zw_812) hK.1 hP hD hS hA rfl (by decide +kernel) (Nat.le_of_ble_eq_true rfl) (Nat.le_of_ble_eq_true rfl) dL_law_8 (fun q160006 H160007 eq160006 hz hB hP' hD' hS' => ?_)
  obtain rfl : q160006 = s.heap.size + 109 := eq160006.trans hz0
  clear eq160006
  replace hF := zFam_keep (lo := bb + 1) (hi := bb + 73) hF (fun j hj k x hx => by have := zSlotW_rng hx; omega) (fun q h1 h2 => hB.2 q (by omega))
  replace hz0 : H160007.size = s.heap.size + 110 := by omega
  clear hz
  clear hP hD hS hB
  have hP : va_P (dC, dI) vwCl [(hh, .inr (10, [.ref (bb + 0), .ref (bb + 73), .ref (bb + 75), .ref (bb + 76), .ref (bb + 80), .ref (bb + 81), .ref (bb + 88), .ref (bb + 95), .ref (bb + 100), .ref (bb + 106), .int 0, .ref (bb + 107), .int 0])), (bb + 0, .inl (aC 3, 12, .inr (.inr (.inr (.inr (zrefs (fun i => bb + (1 + 6 * i)) 12)))))), ((bb + 73), .inr (3, [.ref (bb + 74), .int 2048, .int 0])), (bb + 74, .inl (aC 0, 131072, .inl (fun _ => 0))), ((bb + 75), .inr (1, [.ref (bb + 73)])), ((bb + 80), .inr (2, [.ref (bb + 73), .ref (bb + 75), .ref (bb + 76)])), ((bb + 81), .inr (8, [.ref (bb + 73), .ref (bb + 75), .ref (bb + 76), .ref (bb + 80), .ref (bb + 82), .ref (bb + 83), .int 0, .int 0])), ((bb + 88), .inr (9, [.ref (bb + 81), .ref (bb + 89), .int 0, .ref (bb + 90), .int 0, .ref (bb + 91), .int 0, .ref (bb + 92), .int 0, .ref (bb + 93), .int 0, .int 0, .int 0, .ref (bb + 94), .int 0, .int 0, .int 0, .int 0, .int (-1)])), (bb + 89, .inl (aC 0, 400, .inl (fun _ => 0))), ((bb + 100), .inr (4, [.ref (bb + 73), .ref (bb + 75), .ref (bb + 76), .ref (bb + 84), .ref (bb + 101), .ref (bb + 102), .ref (bb + 103), .ref (bb + 104), .ref (bb + 105)])), (bb + 106, .inl (aC 0, 60, .inl (fun _ => 0))), (s.heap.size + 109, .inr (15, [.null, .int 0, .null, .int 0, .null, .null, .null, .null, .null, .int 0, .int 0, .null, .int 0, .int 0, .int 0, .null, .int 0, .int 0, .int 0, .int 0, .null, .null, .int 0, .null, .int 0, .int 0, .null, .int 0, .null, .int 0, .null, .int 0, .null, .null, .null, .null, .int 0, .int 0, .null, .null, .null, .null, .null, .null, .null, .null, .null, .null, .int 0, .null, .null, .null, .null, .null, .null, .null, .null, .null, .null, .null, .null, .null, .null, .int 0, .null]))] H160007 := hP'
  have hD : va_D A [(hh, .inr (10, [.ref (bb + 0), .ref (bb + 73), .ref (bb + 75), .ref (bb + 76), .ref (bb + 80), .ref (bb + 81), .ref (bb + 88), .ref (bb + 95), .ref (bb + 100), .ref (bb + 106), .int 0, .ref (bb + 107), .int 0])), (bb + 0, .inl (aC 3, 12, .inr (.inr (.inr (.inr (zrefs (fun i => bb + (1 + 6 * i)) 12)))))), ((bb + 73), .inr (3, [.ref (bb + 74), .int 2048, .int 0])), (bb + 74, .inl (aC 0, 131072, .inl (fun _ => 0))), ((bb + 75), .inr (1, [.ref (bb + 73)])), ((bb + 80), .inr (2, [.ref (bb + 73), .ref (bb + 75), .ref (bb + 76)])), ((bb + 81), .inr (8, [.ref (bb + 73), .ref (bb + 75), .ref (bb + 76), .ref (bb + 80), .ref (bb + 82), .ref (bb + 83), .int 0, .int 0])), ((bb + 88), .inr (9, [.ref (bb + 81), .ref (bb + 89), .int 0, .ref (bb + 90), .int 0, .ref (bb + 91), .int 0, .ref (bb + 92), .int 0, .ref (bb + 93), .int 0, .int 0, .int 0, .ref (bb + 94), .int 0, .int 0, .int 0, .int 0, .int (-1)])), (bb + 89, .inl (aC 0, 400, .inl (fun _ => 0))), ((bb + 100), .inr (4, [.ref (bb + 73), .ref (bb + 75), .ref (bb + 76), .ref (bb + 84), .ref (bb + 101), .ref (bb + 102), .ref (bb + 103), .ref (bb + 104), .ref (bb + 105)])), (bb + 106, .inl (aC 0, 60, .inl (fun _ => 0))), (s.heap.size + 109, .inr (15, [.null, .int 0, .null, .int 0, .null, .null, .null, .null, .null, .int 0, .int 0, .null, .int 0, .int 0, .int 0, .null, .int 0, .int 0, .int 0, .int 0, .null, .null, .int 0, .null, .int 0, .int 0, .null, .int 0, .null, .int 0, .null, .int 0, .null, .null, .null, .null, .int 0, .int 0, .null, .null, .null, .null, .null, .null, .null, .null, .null, .null, .int 0, .null, .null, .null, .null, .null, .null, .null, .null, .null, .null, .null, .null, .null, .null, .int 0, .null]))] := hD'
  have hS : va_S A s.heap H160007 L160004 := hS'
  clear hP' hD' hS'
  obtain ⟨mm, emm⟩ : ∃ q, q = s.heap.size + 109 := ⟨_, rfl⟩
  rw [← emm] at hP hD ⊢
  refine lv_dup hx hb dL_law_11 rfl ?_
  show W p l e _ s m _ below meth c _ _ _ _ QQ (F0 m 12 ls160005 [.ref mm, .ref mm])
  have hF0 := va_free (wc := [(mm, .inr (15, [.null, .int 0, .null, .int 0, .null, .null, .null, .null, .null, .int 0, .int 0, .null, .int 0, .int 0, .int 0, .null, .int 0, .int 0, .int 0, .int 0, .null, .null, .int 0, .null, .int 0, .int 0, .null, .int 0, .null, .int 0, .null, .int 0, .null, .null, .null, .null, .int 0, .int 0, .null, .null, .null, .null, .null, .null, .null, .null, .null, .null, .int 0, .null, .null, .null, .null, .null, .null, .null, .null, .null, .null, .null, .null, .null, .null, .int 0, .null]))]) hD hS hA [11] rfl
  refine va_callv (va_runI (As := []) (rest := [.ref mm]) ⟨hx, hb, hml, hown, hallB⟩ (c_X16_init l dC dI aC mm H160007.size (by omega)) (cwI 0 hallB gb_X16_init rfl rfl rfl (hall _ zw_812) (hall _ zw_493) (hall _ zw_495) rfl (by decide +kernel) ⟨Nat.le_of_ble_eq_true rfl, Nat.le_of_ble_eq_true rfl⟩) (zPreX_S (As := .ref mm :: []) hK hP hD hS hA hX [11] rfl (by decide +kernel)) rfl rfl hl.1 rfl (lv_room (Nat.le_of_ble_eq_true rfl)) dL_law_12 ⟨Nat.le_of_ble_eq_true rfl, Nat.le_of_ble_eq_true rfl⟩) hS (fun q _ h => hF0 q h) hF0 (fun u zt H160008 L160009 ht _ _ hB _ hk hS' => ?_)
  obtain ⟨⟨b1, b2, b3⟩, hf9⟩ := hB
  rw [ht] at b1 b3 hf9
  obtain ⟨j1, j2⟩ := va_join (wr := [(hh, .inr (10, [.ref (bb + 0), .ref (bb + 73), .ref (bb + 75), .ref (bb + 76), .ref (bb + 80), .ref (bb + 81), .ref (bb + 88), .ref (bb + 95), .ref (bb + 100), .ref (bb + 106), .int 0, .ref (bb + 107), .int 0])), (bb + 0, .inl (aC 3, 12, .inr (.inr (.inr (.inr (zrefs (fun i => bb + (1 + 6 * i)) 12)))))), ((bb + 73), .inr (3, [.ref (bb + 74), .int 2048, .int 0])), (bb + 74, .inl (aC 0, 131072, .inl (fun _ => 0))), ((bb + 75), .inr (1, [.ref (bb + 73)])), ((bb + 80), .inr (2, [.ref (bb + 73), .ref (bb + 75), .ref (bb + 76)])), ((bb + 81), .inr (8, [.ref (bb + 73), .ref (bb + 75), .ref (bb + 76), .ref (bb + 80), .ref (bb + 82), .ref (bb + 83), .int 0, .int 0])), ((bb + 88), .inr (9, [.ref (bb + 81), .ref (bb + 89), .int 0, .ref (bb + 90), .int 0, .ref (bb + 91), .int 0, .ref (bb + 92), .int 0, .ref (bb + 93), .int 0, .int 0, .int 0, .ref (bb + 94), .int 0, .int 0, .int 0, .int 0, .int (-1)])), (bb + 89, .inl (aC 0, 400, .inl (fun _ => 0))), ((bb + 100), .inr (4, [.ref (bb + 73), .ref (bb + 75), .ref (bb + 76), .ref (bb + 84), .ref (bb + 101), .ref (bb + 102), .ref (bb + 103), .ref (bb + 104), .ref (bb + 105)])), (bb + 106, .inl (aC 0, 60, .inl (fun _ => 0)))]) hP hD [11] [0, 1, 2, 3, 4, 5, 6, 7, 8, 9, 10] rfl rfl (by decide) (by decide) hk hF0 b1 b2
  replace hF := zFam_keep (lo := bb + 1) (hi := bb + 73) hF (fun j hj k x hx => by have := zSlotW_rng hx; omega) (fun q h1 h2 => hk q (by omega) (zAbout1 (by omega) (by omega)))
  obtain ⟨d, ez⟩ : ∃ q, q = H160007.size := ⟨_, rfl⟩
  rw [← ez] at j1 j2 b3 hf9
  have ed : d = s.heap.size + 110 := ez.trans hz0
  have hz0 : H160008.size = s.heap.size + 8431 := by omega
  clear ez b1 b2 b3 hk hF0 hP hD hS ht
  have hP : va_P (dC, dI) vwCl [(hh, .inr (10, [.ref (bb + 0), .ref (bb + 73), .ref (bb + 75), .ref (bb + 76), .ref (bb + 80), .ref (bb + 81), .ref (bb + 88), .ref (bb + 95), .ref (bb + 100), .ref (bb + 106), .int 0, .ref (bb + 107), .int 0])), (bb + 0, .inl (aC 3, 12, .inr (.inr (.inr (.inr (zrefs (fun i => bb + (1 + 6 * i)) 12)))))), ((bb + 73), .inr (3, [.ref (bb + 74), .int 2048, .int 0])), (bb + 74, .inl (aC 0, 131072, .inl (fun _ => 0))), ((bb + 75), .inr (1, [.ref (bb + 73)])), ((bb + 80), .inr (2, [.ref (bb + 73), .ref (bb + 75), .ref (bb + 76)])), ((bb + 81), .inr (8, [.ref (bb + 73), .ref (bb + 75), .ref (bb + 76), .ref (bb + 80), .ref (bb + 82), .ref (bb + 83), .int 0, .int 0])), ((bb + 88), .inr (9, [.ref (bb + 81), .ref (bb + 89), .int 0, .ref (bb + 90), .int 0, .ref (bb + 91), .int 0, .ref (bb + 92), .int 0, .ref (bb + 93), .int 0, .int 0, .int 0, .ref (bb + 94), .int 0, .int 0, .int 0, .int 0, .int (-1)])), (bb + 89, .inl (aC 0, 400, .inl (fun _ => 0))), ((bb + 100), .inr (4, [.ref (bb + 73), .ref (bb + 75), .ref (bb + 76), .ref (bb + 84), .ref (bb + 101), .ref (bb + 102), .ref (bb + 103), .ref (bb + 104), .ref (bb + 105)])), (bb + 106, .inl (aC 0, 60, .inl (fun _ => 0))), (mm, .inr (15, [.ref (d + 0), .int 0, .ref (d + 1), .int 0, .ref (d + 2), .ref (d + 3), .ref (d + 68), .ref (d + 77), .ref (d + 78), .int 0, .int 0, .ref (d + 79), .int 0, .int 0, .int 0, .ref (d + 80), .int 0, .int 0, .int 0, .int 0, .ref (d + 81), .ref (d + 82), .int (-1), .ref (d + 91), .int 0, .int 0, .ref (d + 92), .int 0, .ref (d + 93), .int 0, .ref (d + 94), .int 0, .ref (d + 95), .ref (d + 96), .ref (d + 97), .ref (d + 98), .int 0, .int 0, .ref (d + 99), .null, .null, .null, .null, .null, .ref (d + 148), .ref (d + 175), .ref (d + 176), .ref (d + 177), .int 0, .ref (d + 178), .ref (d + 179), .ref (d + 180), .ref (d + 185), .ref (d + 190), .ref (d + 191), .ref (d + 192), .ref (d + 193), .ref (d + 201), .ref (d + 209), .ref (d + 210), .ref (d + 211), .ref (d + 272), .ref (d + 273), .int 0, .ref (d + 274)])), ((d + 78), .inr (12, [.null, .null, .null, .null, .null, .int 0])), (d + 79, .inl (aC 1, 400, .inl (fun _ => 0))), ((d + 82), .inr (13, [.int 0, .ref (d + 83), .ref (d + 84), .int 0, .int 0, .int 0, .ref (d + 85), .ref (d + 86), .ref (d + 87), .ref (d + 88), .int 0, .ref (d + 89), .int 0, .int 0, .ref (d + 90)])), (d + 83, .inl (aC 0, 325, .inl (fun _ => 0))), (d + 84, .inl (aC 0, 325, .inl (fun _ => 0))), (d + 85, .inl (aC 0, 13, .inl (fun _ => 0))), (d + 86, .inl (aC 0, 13, .inl (fun _ => 0))), (d + 87, .inl (aC 0, 13, .inl (fun _ => 0))), (d + 88, .inl (aC 0, 13, .inl (fun _ => 0))), (d + 89, .inl (aC 0, 175, .inl (fun _ => 0))), (d + 90, .inl (aC 0, 361, .inl (fun _ => 0))), (d + 91, .inl (aC 1, 4000, .inl (fun _ => 0))), (d + 93, .inl (aC 0, 60, .inl (fun _ => 0))), (d + 1, .inl (aC 5, 44, .inr (.inr (.inr (.inr (zrefs (fun i => d + (595 + 130 * i)) 44)))))), (d + 81, .inl (aC 6, 12, .inr (.inr (.inr (.inr (zrefs (fun i => d + (7485 + 9 * i)) 12)))))), ((d + 595), .inr (11, [.ref (d + 596), .int 0])), (d + 596, .inl (aC 4, 64, .inr (.inr (.inr (.inr (zrefs (fun zj => (d + 596) + (1 + 2 * zj)) 64)))))), (d + 597, .inr (14, [.ref (d + 598), .int 0])), (d + 598, .inl (aC 0, 200, .inl (fun _ => 0))), ((d + 725), .inr (11, [.ref (d + 726), .int 0])), (d + 726, .inl (aC 4, 64, .inr (.inr (.inr (.inr (zrefs (fun zj => (d + 726) + (1 + 2 * zj)) 64)))))), (d + 727, .inr (14, [.ref (d + 728), .int 0])), (d + 728, .inl (aC 0, 200, .inl (fun _ => 0)))] H160008 := j1
  have hD : va_D A [(hh, .inr (10, [.ref (bb + 0), .ref (bb + 73), .ref (bb + 75), .ref (bb + 76), .ref (bb + 80), .ref (bb + 81), .ref (bb + 88), .ref (bb + 95), .ref (bb + 100), .ref (bb + 106), .int 0, .ref (bb + 107), .int 0])), (bb + 0, .inl (aC 3, 12, .inr (.inr (.inr (.inr (zrefs (fun i => bb + (1 + 6 * i)) 12)))))), ((bb + 73), .inr (3, [.ref (bb + 74), .int 2048, .int 0])), (bb + 74, .inl (aC 0, 131072, .inl (fun _ => 0))), ((bb + 75), .inr (1, [.ref (bb + 73)])), ((bb + 80), .inr (2, [.ref (bb + 73), .ref (bb + 75), .ref (bb + 76)])), ((bb + 81), .inr (8, [.ref (bb + 73), .ref (bb + 75), .ref (bb + 76), .ref (bb + 80), .ref (bb + 82), .ref (bb + 83), .int 0, .int 0])), ((bb + 88), .inr (9, [.ref (bb + 81), .ref (bb + 89), .int 0, .ref (bb + 90), .int 0, .ref (bb + 91), .int 0, .ref (bb + 92), .int 0, .ref (bb + 93), .int 0, .int 0, .int 0, .ref (bb + 94), .int 0, .int 0, .int 0, .int 0, .int (-1)])), (bb + 89, .inl (aC 0, 400, .inl (fun _ => 0))), ((bb + 100), .inr (4, [.ref (bb + 73), .ref (bb + 75), .ref (bb + 76), .ref (bb + 84), .ref (bb + 101), .ref (bb + 102), .ref (bb + 103), .ref (bb + 104), .ref (bb + 105)])), (bb + 106, .inl (aC 0, 60, .inl (fun _ => 0))), (mm, .inr (15, [.ref (d + 0), .int 0, .ref (d + 1), .int 0, .ref (d + 2), .ref (d + 3), .ref (d + 68), .ref (d + 77), .ref (d + 78), .int 0, .int 0, .ref (d + 79), .int 0, .int 0, .int 0, .ref (d + 80), .int 0, .int 0, .int 0, .int 0, .ref (d + 81), .ref (d + 82), .int (-1), .ref (d + 91), .int 0, .int 0, .ref (d + 92), .int 0, .ref (d + 93), .int 0, .ref (d + 94), .int 0, .ref (d + 95), .ref (d + 96), .ref (d + 97), .ref (d + 98), .int 0, .int 0, .ref (d + 99), .null, .null, .null, .null, .null, .ref (d + 148), .ref (d + 175), .ref (d + 176), .ref (d + 177), .int 0, .ref (d + 178), .ref (d + 179), .ref (d + 180), .ref (d + 185), .ref (d + 190), .ref (d + 191), .ref (d + 192), .ref (d + 193), .ref (d + 201), .ref (d + 209), .ref (d + 210), .ref (d + 211), .ref (d + 272), .ref (d + 273), .int 0, .ref (d + 274)])), ((d + 78), .inr (12, [.null, .null, .null, .null, .null, .int 0])), (d + 79, .inl (aC 1, 400, .inl (fun _ => 0))), ((d + 82), .inr (13, [.int 0, .ref (d + 83), .ref (d + 84), .int 0, .int 0, .int 0, .ref (d + 85), .ref (d + 86), .ref (d + 87), .ref (d + 88), .int 0, .ref (d + 89), .int 0, .int 0, .ref (d + 90)])), (d + 83, .inl (aC 0, 325, .inl (fun _ => 0))), (d + 84, .inl (aC 0, 325, .inl (fun _ => 0))), (d + 85, .inl (aC 0, 13, .inl (fun _ => 0))), (d + 86, .inl (aC 0, 13, .inl (fun _ => 0))), (d + 87, .inl (aC 0, 13, .inl (fun _ => 0))), (d + 88, .inl (aC 0, 13, .inl (fun _ => 0))), (d + 89, .inl (aC 0, 175, .inl (fun _ => 0))), (d + 90, .inl (aC 0, 361, .inl (fun _ => 0))), (d + 91, .inl (aC 1, 4000, .inl (fun _ => 0))), (d + 93, .inl (aC 0, 60, .inl (fun _ => 0))), (d + 1, .inl (aC 5, 44, .inr (.inr (.inr (.inr (zrefs (fun i => d + (595 + 130 * i)) 44)))))), (d + 81, .inl (aC 6, 12, .inr (.inr (.inr (.inr (zrefs (fun i => d + (7485 + 9 * i)) 12)))))), ((d + 595), .inr (11, [.ref (d + 596), .int 0])), (d + 596, .inl (aC 4, 64, .inr (.inr (.inr (.inr (zrefs (fun zj => (d + 596) + (1 + 2 * zj)) 64)))))), (d + 597, .inr (14, [.ref (d + 598), .int 0])), (d + 598, .inl (aC 0, 200, .inl (fun _ => 0))), ((d + 725), .inr (11, [.ref (d + 726), .int 0])), (d + 726, .inl (aC 4, 64, .inr (.inr (.inr (.inr (zrefs (fun zj => (d + 726) + (1 + 2 * zj)) 64)))))), (d + 727, .inr (14, [.ref (d + 728), .int 0])), (d + 728, .inl (aC 0, 200, .inl (fun _ => 0)))] := j2
  have hS := hS'
  clear hS' j1 j2
  have hFm := hf9
  clear hf9
  refine lv_astore_n (lv' := [(2, .ref mm), (1, .ref hh), (0, .ref b)]) hx hb dL_law_15 rfl hl (by decide) rfl (fun ls160010 hl' => ?_)
  clear hl
  have hl : lv_has ls160010 4 [(2, .ref mm), (1, .ref hh), (0, .ref b)] := hl'
  clear hl'
  refine lv_iconst (v := 0) hx hb dL_law_16 (by decide) ?_
  refine lv_istore_n (lv' := [(3, .int 0), (2, .ref mm), (1, .ref hh), (0, .ref b)]) hx hb dL_law_17 rfl hl (by decide) rfl (fun ls160011 hl' => ?_)
  clear hl
  have hl : lv_has ls160011 4 [(3, .int 0), (2, .ref mm), (1, .ref hh), (0, .ref b)] := hl'
  clear hl'
  have hR : zReady s H160008 dC dI aC hh bb mm d := ⟨zsubP hP [0, 1, 2, 3, 4, 5, 6, 7, 8, 9, 10] rfl, hF, zsubP hP [11, 12, 13, 14, 15, 16, 17, 18, 19, 20, 21, 22, 23, 24, 25, 26, 27, 28, 29, 30, 31, 32, 33, 34] rfl, hFm, ehh, ebb, emm, ed, hz0⟩
  clear hP hD hF hFm
  refine W.widen (k := 8431) (n := 1660372) (Nat.le_of_ble_eq_true rfl) (Nat.le_of_ble_eq_true rfl) ?_
  subst hAe
  refine lv_iload_n hx hb dL_law_18 rfl (lv_at hl 0 rfl) ?_
  show W p l e _ s m _ below meth c _ _ _ _ QQ (F0 m 19 ls160011 [.int 0])
  refine lv_aload_n hx hb dL_law_19 rfl (lv_at hl 3 rfl) ?_
  refine va_slen hx hb hSc hbl hbA hS dL_law_20 ?_
  refine lv_bipush (v := 6) hx hb dL_law_21 (by decide) ?_
  refine lv_isub hx hb dL_law_23 ?_
  by_cases hL6 : L = 6
  · subst hL6
    refine lv_icmp_gt (tgt := 1449) hx hb dL_law_24 (by decide) (fun h => absurd h (by decide)) (fun _ => ?_)
    obtain ⟨x0, hx0⟩ : ∃ y, xs (0 : Int32).toNatClampNeg = y := ⟨_, rfl⟩
    refine lv_aload_n hx hb dL_law_27 rfl (lv_at hl 3 rfl) ?_
    show W p l e _ s m _ below meth c _ _ _ _ QQ (F0 m 28 ls160011 [.ref b])
    refine lv_iload_n hx hb dL_law_28 rfl (lv_at hl 0 rfl) ?_
    refine zsld hx hb hSc hbl hbA hS (zvp (by decide)) hx0 dL_law_29 ?_
    refine lv_bipush (v := 63) hx hb dL_law_30 (by decide) ?_
    refine lv_iand hx hb dL_law_32 ?_
    refine lv_topi (fun y ey => ?_)
    clear ey
    subst hQ
    rcases pk_ix y (n := 35) (by decide) with h6 | h6 | ⟨j6, hj6, e6⟩
    · refine lv_tableOut (tgt := 1443) hx hb dL_law_33 (Or.inl (Int32.lt_iff_toInt_lt.mp h6)) (by decide) ?_
      exact law_tail C1 (Nat.le_of_ble_eq_true rfl) (Nat.le_of_ble_eq_true rfl) hS (lv_sub hl [0, 3] rfl)
    · refine lv_tableOut (tgt := 1443) hx hb dL_law_33 (Or.inr (by have h7 := Int32.le_iff_toInt_le.mp h6; have e7 : (nI 35).toInt = 35 := (by decide); omega)) (by decide) ?_
      exact law_tail C1 (Nat.le_of_ble_eq_true rfl) (Nat.le_of_ble_eq_true rfl) hS (lv_sub hl [0, 3] rfl)
    · rcases j6 with _ | _ | _ | _ | _ | _ | _ | _ | _ | _ | _ | _ | _ | _ | _ | _ | _ | _ | _ | _ | _ | _ | _ | _ | _ | _ | _ | _ | _ | _ | _ | _ | _ | _ | _ | j6
      · subst e6
        refine lv_tableIn (off := 155) (tgt := 188) hx hb dL_law_33 (by decide) (by decide) (by decide) (by decide) ?_
        exact law_type C1 hK hR hS hl
      · subst e6
        refine lv_tableIn (off := 218) (tgt := 251) hx hb dL_law_33 (by decide) (by decide) (by decide) (by decide) ?_
        exact law_read C1 hK hR hS hl
      · subst e6
        refine lv_tableIn (off := 241) (tgt := 274) hx hb dL_law_33 (by decide) (by decide) (by decide) (by decide) ?_
        exact law_place C1 hK hR hS hl
      · subst e6
        refine lv_tableIn (off := 254) (tgt := 287) hx hb dL_law_33 (by decide) (by decide) (by decide) (by decide) ?_
        exact law_write C1 hK hR hS hl
      · subst e6
        refine lv_tableIn (off := 277) (tgt := 310) hx hb dL_law_33 (by decide) (by decide) (by decide) (by decide) ?_
        exact law_written C1 hK hR hS hl
      · subst e6
        refine lv_tableIn (off := 300) (tgt := 333) hx hb dL_law_33 (by decide) (by decide) (by decide) (by decide) ?_
        exact law_again C1 hK hR hS hl
      · subst e6
        refine lv_tableIn (off := 313) (tgt := 346) hx hb dL_law_33 (by decide) (by decide) (by decide) (by decide) ?_
        exact law_kind C1 hK hR hS hl
      · subst e6
        refine lv_tableIn (off := 336) (tgt := 369) hx hb dL_law_33 (by decide) (by decide) (by decide) (by decide) ?_
        exact law_drop C1 hK hR hS hl
      · subst e6
        refine lv_tableIn (off := 359) (tgt := 392) hx hb dL_law_33 (by decide) (by decide) (by decide) (by decide) ?_
        exact law_degree C1 hK hR hS hl
      · subst e6
        refine lv_tableIn (off := 402) (tgt := 435) hx hb dL_law_33 (by decide) (by decide) (by decide) (by decide) ?_
        exact law_number C1 hK hR hS hl
      · subst e6
        refine lv_tableIn (off := 455) (tgt := 488) hx hb dL_law_33 (by decide) (by decide) (by decide) (by decide) ?_
        exact law_told C1 hK hR hS hl
      · subst e6
        refine lv_tableIn (off := 488) (tgt := 521) hx hb dL_law_33 (by decide) (by decide) (by decide) (by decide) ?_
        exact law_factorial C1 hK hR hS hl
      · subst e6
        refine lv_tableIn (off := 531) (tgt := 564) hx hb dL_law_33 (by decide) (by decide) (by decide) (by decide) ?_
        exact law_work C1 hK hR hS hl
      · subst e6
        refine lv_tableIn (off := 584) (tgt := 617) hx hb dL_law_33 (by decide) (by decide) (by decide) (by decide) ?_
        exact law_change C1 hK hR hS hl
      · subst e6
        refine lv_tableIn (off := 637) (tgt := 670) hx hb dL_law_33 (by decide) (by decide) (by decide) (by decide) ?_
        exact law_value C1 hK hR hS hl
      · subst e6
        refine lv_tableIn (off := 680) (tgt := 713) hx hb dL_law_33 (by decide) (by decide) (by decide) (by decide) ?_
        exact law_sum C1 hK hR hS hl
      · subst e6
        refine lv_tableIn (off := 733) (tgt := 766) hx hb dL_law_33 (by decide) (by decide) (by decide) (by decide) ?_
        exact law_quotient C1 hK hR hS hl
      · subst e6
        refine lv_tableIn (off := 776) (tgt := 809) hx hb dL_law_33 (by decide) (by decide) (by decide) (by decide) ?_
        exact law_form C1 hK hR hS hl
      · subst e6
        refine lv_tableIn (off := 819) (tgt := 852) hx hb dL_law_33 (by decide) (by decide) (by decide) (by decide) ?_
        exact law_close C1 hK hR hS hl
      · subst e6
        refine lv_tableIn (off := 852) (tgt := 885) hx hb dL_law_33 (by decide) (by decide) (by decide) (by decide) ?_
        exact law_recur C1 hK hR hS hl
      · subst e6
        refine lv_tableIn (off := 895) (tgt := 928) hx hb dL_law_33 (by decide) (by decide) (by decide) (by decide) ?_
        exact law_part C1 hK hR hS hl
      · subst e6
        refine lv_tableIn (off := 938) (tgt := 971) hx hb dL_law_33 (by decide) (by decide) (by decide) (by decide) ?_
        exact law_check C1 hK hR hS hl
      · subst e6
        refine lv_tableIn (off := 971) (tgt := 1004) hx hb dL_law_33 (by decide) (by decide) (by decide) (by decide) ?_
        exact law_poke C1 hK hR hS hl
      · subst e6
        refine lv_tableIn (off := 1034) (tgt := 1067) hx hb dL_law_33 (by decide) (by decide) (by decide) (by decide) ?_
        exact law_holds C1 hK hR hS hl
      · subst e6
        refine lv_tableIn (off := 1097) (tgt := 1130) hx hb dL_law_33 (by decide) (by decide) (by decide) (by decide) ?_
        exact law_row C1 hK hR hS hl
      · subst e6
        refine lv_tableIn (off := 1130) (tgt := 1163) hx hb dL_law_33 (by decide) (by decide) (by decide) (by decide) ?_
        exact law_first C1 hK hR hS hl
      · subst e6
        refine lv_tableIn (off := 1163) (tgt := 1196) hx hb dL_law_33 (by decide) (by decide) (by decide) (by decide) ?_
        exact law_at C1 hK hR hS hl
      · subst e6
        refine lv_tableIn (off := 1196) (tgt := 1229) hx hb dL_law_33 (by decide) (by decide) (by decide) (by decide) ?_
        exact law_join C1 hK hR hS hl
      · subst e6
        refine lv_tableIn (off := 1249) (tgt := 1282) hx hb dL_law_33 (by decide) (by decide) (by decide) (by decide) ?_
        exact law_feed C1 hK hR hS hl
      · subst e6
        refine lv_tableIn (off := 1272) (tgt := 1305) hx hb dL_law_33 (by decide) (by decide) (by decide) (by decide) ?_
        exact law_clear C1 hK hR hS hl
      · subst e6
        refine lv_tableIn (off := 1285) (tgt := 1318) hx hb dL_law_33 (by decide) (by decide) (by decide) (by decide) ?_
        exact law_guess C1 hK hR hS hl
      · subst e6
        refine lv_tableIn (off := 1308) (tgt := 1341) hx hb dL_law_33 (by decide) (by decide) (by decide) (by decide) ?_
        exact law_roots C1 hK hR hS hl
      · subst e6
        refine lv_tableIn (off := 1331) (tgt := 1364) hx hb dL_law_33 (by decide) (by decide) (by decide) (by decide) ?_
        exact law_root C1 hK hR hS hl
      · subst e6
        refine lv_tableIn (off := 1354) (tgt := 1387) hx hb dL_law_33 (by decide) (by decide) (by decide) (by decide) ?_
        exact law_solve C1 hK hR hS hl
      · subst e6
        refine lv_tableIn (off := 1387) (tgt := 1420) hx hb dL_law_33 (by decide) (by decide) (by decide) (by decide) ?_
        exact law_count C1 hK hR hS hl
      · exact absurd hj6 (by omega)
  · refine lv_icmp_gt (tgt := 1449) hx hb dL_law_24 (by decide) (fun _ => ?_) (fun h => absurd (law_len L hL hL6) h)
    subst hQ
    exact law_exit C1 (Nat.le_of_ble_eq_true rfl) (Nat.le_of_ble_eq_true rfl) hS
