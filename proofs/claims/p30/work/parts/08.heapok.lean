section ZHEAP
variable {p : Program} {l : Launch} {e : Env} {R : Room} {s : State} {m : MethodId} {args : Array Value} {below : List Frame} {meth : Method} {c : Code} {H : Heap} {locs : List Loc} {cells slots : Nat} {Q : State → Prop}
variable {cc : ByteArray} {pc nL : Nat} {ls : Array Slot} {lv lv' : zL} {rest st st' : List Value} {pc' : Nat} {i : Instr} {D : va_G} {aC : Nat → ClassId} {base a : Nat} {w w' : zM} {H0 : Heap} {own : String} {pl : zPool}
theorem zcell_lt (hF : zFW D aC base w H) {x : zC} (h : w a = some x) : base ≤ a := (hF a x h).1
theorem zs_get (hx : p.tables.exec = Jvm.exec) (hb : c.code = cc) (hown : s.vm.findClass own = some m.cls) (hall : ∀ w ∈ zAll, w.before args s = true) (hK : zK D aC s) (hF : zFW D aC base w H) {idx ci k : Nat} {fs : List Value} {v : Value} (hl : zFl own idx ci k) (hw : w a = some (.inl (ci, fs))) (hv : fs[k]? = some v) (hdg : decode cc pc = .ok (.getfield idx, 3))
    (kk : W p l e R s m args below meth c H locs cells slots Q (F0 m (pc + 3) ls (v :: rest))) : W p l e R s m args below meth c H locs cells slots Q (F0 m pc ls (.ref a :: rest)) := by
  obtain ⟨C, T, N, hc, hk, hin, hlk⟩ := hl
  exact va_get (D := D) hx hb hall hin hown hK.1 (zone hF hw) 0 rfl hc k hk (hall _ hlk) (fun _ h => h) hv hdg kk
theorem zs_put (hx : p.tables.exec = Jvm.exec) (hb : c.code = cc) (hown : s.vm.findClass own = some m.cls) (hall : ∀ w ∈ zAll, w.before args s = true) (hK : zK D aC s) (hF : zFW D aC base w H) (hS : va_S (zN base) H0 H locs) {idx ci k : Nat} {fs : List Value} {v : Value} {ty : FieldType} (hl : zFl own idx ci k) (hp : zPt ci k ty) (hw : w a = some (.inl (ci, fs))) (hlen : k < fs.length) (hfit : zfit ty v = true) (hdg : decode cc pc = .ok (.putfield idx, 3))
    (kk : ∀ (H1 : Heap) (locs1 : List Loc), H1.size = H.size → zFW D aC base (zup w a (.inl (ci, fs.set k v))) H1 → va_S (zN base) H0 H1 locs1 → W p l e R s m args below meth c H1 locs1 cells slots Q (F0 m (pc + 3) ls rest)) : W p l e R s m args below meth c H locs cells slots Q (F0 m pc ls (v :: .ref a :: rest)) := by
  obtain ⟨C, T, N, hc, hk, hin, hlk⟩ := hl
  obtain ⟨C', T', N', ty0, hc', hk', hty, hnm, hfin, hd⟩ := hp
  cases hc.symm.trans hc'
  obtain ⟨g1, g2⟩ := zfit_ok hfit
  refine zput (D := D) hx hb hall hin ty0 hty hnm hown hK.1 (zone hF hw) (zoneD (A := zN base) (zcell_lt hF hw)) hS 0 rfl hc k hk (hall _ hlk) (fun _ h => h) hfin hd g1 g2 hlen hdg (fun H1 locs1 hb1 hP1 hD1 hS1 => ?_)
  exact kk H1 locs1 hb1.1 (hF.put hb1 (zcell_lt hF hw) (zone0 hP1)) hS1
theorem zs_iast (hx : p.tables.exec = Jvm.exec) (hb : c.code = cc) (hK : zK D aC s) (hF : zFW D aC base w H) (hS : va_S (zN base) H0 H locs) {n : Nat} {f : Nat → Int32} {j x : Int32} (hw : w a = some (.inr (0, n, .inl f))) (hin : vp_in j n) (hdg : decode cc pc = .ok (.iastore, 1))
    (kk : ∀ (H1 : Heap) (locs1 : List Loc), H1.size = H.size → zFW D aC base (zup w a (.inr (0, n, .inl (upd f j.toNatClampNeg x)))) H1 → va_S (zN base) H0 H1 locs1 → W p l e R s m args below meth c H1 locs1 cells slots Q (F0 m (pc + 1) ls rest)) : W p l e R s m args below meth c H locs cells slots Q (F0 m pc ls (.int x :: .int j :: .ref a :: rest)) :=
  ziast (D := D) hx hb hK.1 (zone hF hw) (zoneD (A := zN base) (zcell_lt hF hw)) hS 0 0 rfl rfl hin hdg (fun H1 locs1 hb1 hP1 _ hS1 => kk H1 locs1 hb1.1 (hF.put hb1 (zcell_lt hF hw) (zone0 hP1)) hS1)
theorem zs_bast (hx : p.tables.exec = Jvm.exec) (hb : c.code = cc) (hK : zK D aC s) (hF : zFW D aC base w H) (hS : va_S (zN base) H0 H locs) {n : Nat} {f : Nat → Int32} {j x : Int32} (hw : w a = some (.inr (1, n, .inl f))) (hin : vp_in j n) (hdg : decode cc pc = .ok (.bastore, 1))
    (kk : ∀ (H1 : Heap) (locs1 : List Loc), H1.size = H.size → zFW D aC base (zup w a (.inr (1, n, .inl (upd f j.toNatClampNeg (vp_nar .byte x))))) H1 → va_S (zN base) H0 H1 locs1 → W p l e R s m args below meth c H1 locs1 cells slots Q (F0 m (pc + 1) ls rest)) : W p l e R s m args below meth c H locs cells slots Q (F0 m pc ls (.int x :: .int j :: .ref a :: rest)) := by
  have hP : va_P D vwCl [(a, zcell aC (.inr (1, n, .inl f)))] H := zone hF hw
  have hD : va_D (zN base) [(a, zcell aC (.inr (1, n, .inl f)))] := zoneD (zcell_lt hF hw)
  have ha : ([(a, zcell aC (.inr (1, n, .inl f)))] : va_W)[0]? = some (a, .inl (aC 1, n, .inl f)) := rfl
  have ht : (zT aC)[1]? = some (aC 1, .byte) := rfl
  refine W.bast hx hb (hP 0 _ ha) ((hK.1.2 1 _ ht).1 n (fun j => .int (f j))) (fun q => by cases q) (by show ¬ (j < 0 ∨ (arrV _ _ _).slots.size ≤ _); rw [arrV_size]; exact hin) rfl rfl hdg fun H1 e z oq => ?_
  refine kk H1 _ z (hF.put ⟨z, oq⟩ (zcell_lt hF hw) ?_) (hS.put z oq (hD.2 0 _ ha))
  show H1[a]? = some (vp_cell _ _)
  rw [e, vp_cell_i, vp_cell_i, arrV_store]
  congr 2
  funext q
  by_cases hq : q = j.toNatClampNeg
  · subst hq
    simp [updV, upd, vp_nar]
    try rfl
  · simp [updV, upd, hq]
theorem zs_zast (hx : p.tables.exec = Jvm.exec) (hb : c.code = cc) (hK : zK D aC s) (hF : zFW D aC base w H) (hS : va_S (zN base) H0 H locs) {n : Nat} {f : Nat → Int32} {j x : Int32} (hw : w a = some (.inr (2, n, .inl f))) (hin : vp_in j n) (hdg : decode cc pc = .ok (.bastore, 1))
    (kk : ∀ (H1 : Heap) (locs1 : List Loc), H1.size = H.size → zFW D aC base (zup w a (.inr (2, n, .inl (upd f j.toNatClampNeg (vp_nar .boolean x))))) H1 → va_S (zN base) H0 H1 locs1 → W p l e R s m args below meth c H1 locs1 cells slots Q (F0 m (pc + 1) ls rest)) : W p l e R s m args below meth c H locs cells slots Q (F0 m pc ls (.int x :: .int j :: .ref a :: rest)) := by
  have hP : va_P D vwCl [(a, zcell aC (.inr (2, n, .inl f)))] H := zone hF hw
  have hD : va_D (zN base) [(a, zcell aC (.inr (2, n, .inl f)))] := zoneD (zcell_lt hF hw)
  have ha : ([(a, zcell aC (.inr (2, n, .inl f)))] : va_W)[0]? = some (a, .inl (aC 2, n, .inl f)) := rfl
  have ht : (zT aC)[2]? = some (aC 2, .boolean) := rfl
  refine W.zast hx hb (hP 0 _ ha) ((hK.1.2 2 _ ht).1 n (fun j => .int (f j))) (fun q => by cases q) (by show ¬ (j < 0 ∨ (arrV _ _ _).slots.size ≤ _); rw [arrV_size]; exact hin) rfl rfl hdg fun H1 e z oq => ?_
  refine kk H1 _ z (hF.put ⟨z, oq⟩ (zcell_lt hF hw) ?_) (hS.put z oq (hD.2 0 _ ha))
  show H1[a]? = some (vp_cell _ _)
  rw [e, vp_cell_i, vp_cell_i, arrV_store]
  congr 2
  funext q
  by_cases hq : q = j.toNatClampNeg
  · subst hq
    simp [updV, upd, vp_nar]
    try rfl
  · simp [updV, upd, hq]
theorem zs_aald (hx : p.tables.exec = Jvm.exec) (hb : c.code = cc) (hK : zK D aC s) (hF : zFW D aC base w H) {t n : Nat} {f : Nat → Option Nat} {j : Int32} (hw : w a = some (.inr (t, n, .inr f))) (h3 : 3 ≤ t) (h8 : t ≤ 8) (hin : vp_in j n) (hdg : decode cc pc = .ok (.aaload, 1))
    (kk : W p l e R s m args below meth c H locs cells slots Q (F0 m (pc + 1) ls (va_rf (f j.toNatClampNeg) :: rest))) : W p l e R s m args below meth c H locs cells slots Q (F0 m pc ls (.int j :: .ref a :: rest)) := by
  have ht : ∃ ty : FieldType, (zT aC)[t]? = some (aC t, ty) ∧ ty.isReference = true := by
    obtain rfl | rfl | rfl | rfl | rfl | rfl : t = 3 ∨ t = 4 ∨ t = 5 ∨ t = 6 ∨ t = 7 ∨ t = 8 := by omega
    all_goals exact ⟨_, rfl, rfl⟩
  obtain ⟨ty, ht, hr⟩ := ht
  have hlt : j.toNatClampNeg < n := Nat.not_le.mp fun q => hin (Or.inr q)
  exact W.aald (v := va_rf (f j.toNatClampNeg)) (ty := ty) hx hb (hF a _ hw).2 ((hK.1.2 t _ ht).1 n (fun j => va_rf (f j))) hr (fun q => by cases q) (by show ¬ (j < 0 ∨ (arrV _ _ _).slots.size ≤ _); rw [arrV_size]; exact hin) (by show (arrV _ _ _).slots[_]? = _; rw [arrV_read _ _ hlt]) rfl rfl hdg kk
theorem zs_aast (hx : p.tables.exec = Jvm.exec) (hb : c.code = cc) (hK : zK D aC s) (hF : zFW D aC base w H) (hS : va_S (zN base) H0 H locs) {t n ci v : Nat} {fs : List Value} {f : Nat → Option Nat} {j : Int32} (hw : w a = some (.inr (t, n, .inr f))) (hv : w v = some (.inl (ci, fs))) (h3 : 3 ≤ t) (h6 : t ≤ 6) (he : ci = zEl t) (hin : vp_in j n) (hdg : decode cc pc = .ok (.aastore, 1))
    (kk : ∀ (H1 : Heap) (locs1 : List Loc), H1.size = H.size → zFW D aC base (zup w a (.inr (t, n, .inr (va_up f j.toNatClampNeg (some v))))) H1 → va_S (zN base) H0 H1 locs1 → W p l e R s m args below meth c H1 locs1 cells slots Q (F0 m (pc + 1) ls rest)) : W p l e R s m args below meth c H locs cells slots Q (F0 m pc ls (.ref v :: .int j :: .ref a :: rest)) := by
  subst he
  have ht : ∃ r : vw_C, (zT aC)[t]? = some (aC t, .object r.1) ∧ vwCl[zEl t]? = some r := by
    obtain rfl | rfl | rfl | rfl : t = 3 ∨ t = 4 ∨ t = 5 ∨ t = 6 := by omega
    all_goals exact ⟨_, rfl, rfl⟩
  obtain ⟨r, ht, hr⟩ := ht
  refine zastq (D := D) (r := r) hx hb hK.1 (zone hF hw) (zoneD (A := zN base) (zcell_lt hF hw)) hS 0 t (zEl t) rfl ht (hF v _ hv).2 hr hin hdg (fun H1 locs1 hb1 hP1 _ hS1 => ?_)
  exact kk H1 locs1 hb1.1 (hF.put hb1 (zcell_lt hF hw) (zone0 hP1)) hS1
theorem zs_aastA (hx : p.tables.exec = Jvm.exec) (hb : c.code = cc) (hK : zK D aC s) (hF : zFW D aC base w H) (hS : va_S (zN base) H0 H locs) {t u n n2 v : Nat} {g2 : zA} {f : Nat → Option Nat} {j : Int32} (hw : w a = some (.inr (t, n, .inr f))) (hv : w v = some (.inr (u, n2, g2))) (htu : t = 7 ∧ u = 0 ∨ t = 8 ∧ u = 4) (hin : vp_in j n) (hdg : decode cc pc = .ok (.aastore, 1))
    (kk : ∀ (H1 : Heap) (locs1 : List Loc), H1.size = H.size → zFW D aC base (zup w a (.inr (t, n, .inr (va_up f j.toNatClampNeg (some v))))) H1 → va_S (zN base) H0 H1 locs1 → W p l e R s m args below meth c H1 locs1 cells slots Q (F0 m (pc + 1) ls rest)) : W p l e R s m args below meth c H locs cells slots Q (F0 m pc ls (.ref v :: .int j :: .ref a :: rest)) := by
  have hco : zCo s (aC t) (aC u) := by
    rcases htu with ⟨rfl, rfl⟩ | ⟨rfl, rfl⟩
    · exact hK.2.2.2.2.2.2.2.1
    · exact hK.2.2.2.2.2.2.2.2
  obtain ⟨kA, kI, ty, k1, k2, k3, k4⟩ := hco
  have hlt : j.toNatClampNeg < n := Nat.not_le.mp fun q => hin (Or.inr q)
  have h0 : ¬ j < 0 := fun q => hin (Or.inl q)
  obtain ⟨cv, hcv, hcl, hvm⟩ : ∃ cv : Cell, H[v]? = some cv ∧ cv.cls = aC u ∧ cv.vm = .none := by
    have h := (hF v _ hv).2
    rcases g2 with g2 | g2
    · exact ⟨_, h, rfl, rfl⟩
    · exact ⟨_, h, rfl, rfl⟩
  refine W.aast hx hb (hF a _ hw).2 (fun q h => by cases h) (fun h => by cases h) k1 k2 k3 k4 ⟨h0, by show _ < (arrV _ _ _).slots.size; rw [arrV_size]; exact hlt⟩ hcv (fun q h => by rw [hvm] at h; cases h) (by rw [hcl]; exact k4) (by rw [hcl]; exact zas_self) rfl rfl hdg fun H1 e z oq => ?_
  refine kk H1 _ z (hF.put ⟨z, oq⟩ (zcell_lt hF hw) ?_) (hS.put z oq (zcell_lt hF hw))
  show H1[a]? = some (vp_cell _ _)
  rw [e]
  rw [vp_cell_q, vp_cell_q, arrV_store]
  congr 2
  funext q
  by_cases hq : q = j.toNatClampNeg
  · subst hq
    simp [updV, va_up, va_rf]
  · simp [updV, va_up, hq]
theorem zs_alen (hx : p.tables.exec = Jvm.exec) (hb : c.code = cc) (hK : zK D aC s) (hF : zFW D aC base w H) {t n : Nat} {g : zA} (hw : w a = some (.inr (t, n, g))) (h8 : t ≤ 8) (hdg : decode cc pc = .ok (.arraylength, 1))
    (kk : W p l e R s m args below meth c H locs cells slots Q (F0 m (pc + 1) ls (.int (Int32.ofNat n) :: rest))) : W p l e R s m args below meth c H locs cells slots Q (F0 m pc ls (.ref a :: rest)) := by
  have ht : ∃ ty : FieldType, (zT aC)[t]? = some (aC t, ty) := by
    obtain rfl | rfl | rfl | rfl | rfl | rfl | rfl | rfl | rfl : t = 0 ∨ t = 1 ∨ t = 2 ∨ t = 3 ∨ t = 4 ∨ t = 5 ∨ t = 6 ∨ t = 7 ∨ t = 8 := by omega
    all_goals exact ⟨_, rfl⟩
  obtain ⟨ty, ht⟩ := ht
  rcases g with g | g
  · exact va_alen (D := D) hx hb hK.1 (zone hF hw) 0 t rfl ht rfl hdg kk
  · exact va_alen (D := D) hx hb hK.1 (zone hF hw) 0 t rfl ht rfl hdg kk
set_option maxHeartbeats 4000000 in
theorem zheap_ok (hx : p.tables.exec = Jvm.exec) (hb : c.code = cc) (hown : s.vm.findClass own = some m.cls) (hall : ∀ w ∈ zAll, w.before args s = true) (hK : zK D aC s) (hpl : zPoolOk own pl) (hF : zFW D aC base w H) (hS : va_S (zN base) H0 H locs) (hl : lv_has ls nL lv) (hdg : decode cc pc = .ok (i, zlen i)) (hp : zheap pl i pc lv st w = some (pc', lv', st', w'))
    (kk : ∀ (H1 : Heap) (locs1 : List Loc), H1.size = H.size → zFW D aC base w' H1 → va_S (zN base) H0 H1 locs1 → lv_has ls nL lv' → W p l e R s m args below meth c H1 locs1 cells slots Q (F0 m pc' ls st')) : W p l e R s m args below meth c H locs cells slots Q (F0 m pc ls st) := by
  cases i with
  | getfield idx =>
    simp only [zheap] at hp
    split at hp
    · split at hp
      · next hz hw =>
        split at hp
        · next hci =>
          subst hci
          split at hp
          · next hv => cases hp; exact zs_get hx hb hown hall hK hF (hpl.1 _ (zlk_mem hz)) hw hv hdg (kk H locs rfl hF hS hl)
          · cases hp
        · cases hp
      · cases hp
    · cases hp
  | putfield idx =>
    simp only [zheap] at hp
    split at hp
    · split at hp
      · next hz hw =>
        split at hp
        · next hci =>
          obtain ⟨hci, hlen⟩ := hci
          subst hci
          split at hp
          · next hft =>
            cases hfit : zfit _ _ with
            | false => rw [hfit] at hp; cases hp
            | true =>
              rw [hfit] at hp
              cases hp
              exact zs_put hx hb hown hall hK hF hS (hpl.1 _ (zlk_mem hz)) (zpt_all _ _ _ hft) hw hlen hfit hdg (fun H1 locs1 z h1 h2 => kk H1 locs1 z h1 h2 hl)
          · cases hp
        · cases hp
      · cases hp
    · cases hp
  | iaload =>
    simp only [zheap] at hp
    split at hp
    · split at hp
      · next hw =>
        split at hp
        · next hin => cases hp; exact va_iald (D := D) hx hb hK.1 (zone hF hw) 0 0 rfl rfl hin hdg (kk H locs rfl hF hS hl)
        · cases hp
      · cases hp
    · cases hp
  | iastore =>
    simp only [zheap] at hp
    split at hp
    · split at hp
      · next hw =>
        split at hp
        · next hin => cases hp; exact zs_iast hx hb hK hF hS hw hin hdg (fun H1 locs1 z h1 h2 => kk H1 locs1 z h1 h2 hl)
        · cases hp
      · cases hp
    · cases hp
  | baload =>
    simp only [zheap] at hp
    split at hp
    · split at hp
      · next hw =>
        split at hp
        · next hin => cases hp; exact va_bald (D := D) hx hb hK.1 (zone hF hw) 0 1 rfl rfl hin hdg (kk H locs rfl hF hS hl)
        · cases hp
      · next hw =>
        split at hp
        · next hin => cases hp; exact va_zald (D := D) hx hb hK.1 (zone hF hw) 0 2 rfl rfl hin hdg (kk H locs rfl hF hS hl)
        · cases hp
      · cases hp
    · cases hp
  | bastore =>
    simp only [zheap] at hp
    split at hp
    · split at hp
      · next hw =>
        split at hp
        · next hin => cases hp; exact zs_bast hx hb hK hF hS hw hin hdg (fun H1 locs1 z h1 h2 => kk H1 locs1 z h1 h2 hl)
        · cases hp
      · next hw =>
        split at hp
        · next hin => cases hp; exact zs_zast hx hb hK hF hS hw hin hdg (fun H1 locs1 z h1 h2 => kk H1 locs1 z h1 h2 hl)
        · cases hp
      · cases hp
    · cases hp
  | aaload =>
    simp only [zheap] at hp
    split at hp
    · split at hp
      · next hw =>
        split at hp
        · next hin => cases hp; exact zs_aald hx hb hK hF hw hin.1 hin.2.1 hin.2.2 hdg (kk H locs rfl hF hS hl)
        · cases hp
      · cases hp
    · cases hp
  | aastore =>
    simp only [zheap] at hp
    split at hp
    · split at hp
      · next hw hv =>
        split at hp
        · next hin => cases hp; exact zs_aast hx hb hK hF hS hw hv hin.1 hin.2.1 hin.2.2.1 hin.2.2.2 hdg (fun H1 locs1 z h1 h2 => kk H1 locs1 z h1 h2 hl)
        · cases hp
      · next hw hv =>
        split at hp
        · next hin => cases hp; exact zs_aastA hx hb hK hF hS hw hv hin.1 hin.2 hdg (fun H1 locs1 z h1 h2 => kk H1 locs1 z h1 h2 hl)
        · cases hp
      · cases hp
    · cases hp
  | arraylength =>
    simp only [zheap] at hp
    split at hp
    · split at hp
      · next hw =>
        split at hp
        · next ht => cases hp; exact zs_alen hx hb hK hF hw (by omega) hdg (kk H locs rfl hF hS hl)
        · cases hp
      · next hw =>
        split at hp
        · next ht => cases hp; exact zs_alen hx hb hK hF hw (by omega) hdg (kk H locs rfl hF hS hl)
        · cases hp
      · cases hp
    · cases hp
  | ldc idx =>
    simp only [zheap] at hp
    split at hp
    · next hz => cases hp; exact lv_ldc hx hb hown (hall _ (hpl.2.1 _ (zlk_mem hz))) hdg (kk H locs rfl hF hS hl)
    · cases hp
  | ldc_w idx =>
    simp only [zheap] at hp
    split at hp
    · next hz => cases hp; exact lv_ldcw hx hb hown (hall _ (hpl.2.1 _ (zlk_mem hz))) hdg (kk H locs rfl hF hS hl)
    · cases hp
  | ldc2_w idx =>
    simp only [zheap] at hp
    split at hp
    · next hz => cases hp; exact lv_ldc2 hx hb hown (hall _ (hpl.2.2 _ (zlk_mem hz))) hdg (kk H locs rfl hF hS hl)
    · cases hp
  | if_acmp cnd off =>
    cases cnd with
    | eq =>
      simp only [zheap] at hp
      split at hp
      · next y x r =>
        cases hg : ztgok pc off with
        | false => rw [hg] at hp; cases hp
        | true =>
          rw [hg] at hp
          simp only [cond_true, Option.some.injEq, Prod.mk.injEq] at hp
          obtain ⟨h1, h2, h3, h4⟩ := hp
          subst h2; subst h3; subst h4
          refine lv_acmp_eq (rx := some x) (ry := some y) hx hb hdg (ztg_eq hg) (fun q => ?_) (fun q => ?_)
          · rw [if_pos (Option.some.inj q)] at h1; subst h1; exact kk H locs rfl hF hS hl
          · rw [if_neg (fun z => q (congrArg some z))] at h1; subst h1; exact kk H locs rfl hF hS hl
      · cases hp
    | ne =>
      simp only [zheap] at hp
      split at hp
      · next y x r =>
        cases hg : ztgok pc off with
        | false => rw [hg] at hp; cases hp
        | true =>
          rw [hg] at hp
          simp only [cond_true, Option.some.injEq, Prod.mk.injEq] at hp
          obtain ⟨h1, h2, h3, h4⟩ := hp
          subst h2; subst h3; subst h4
          refine lv_acmp_ne (rx := some x) (ry := some y) hx hb hdg (ztg_eq hg) (fun q => ?_) (fun q => ?_)
          · rw [if_pos (fun z => q (congrArg some z))] at h1; subst h1; exact kk H locs rfl hF hS hl
          · rw [if_neg (fun z => z (Option.some.inj q))] at h1; subst h1; exact kk H locs rfl hF hS hl
      · cases hp
  | _ => exact absurd hp (by intro q; cases q)
end ZHEAP
