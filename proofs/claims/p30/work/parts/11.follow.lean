/-! the real machine follows the small one's runs -/
section ZSIM
variable {p : Program} {l : Launch} {e : Env} {R : Room} {s : State} {m : MethodId} {args : Array Value} {below : List Frame} {meth : Method} {c : Code} {H : Heap} {locs : List Loc} {cells slots : Nat} {Q : State → Prop}
variable {cc : ByteArray} {pc nL : Nat} {ls : Array Slot} {lv : zL} {rest st : List Value} {i : Instr} {D : va_G} {aC : Nat → ClassId} {base a : Nat} {w : zM} {H0 : Heap} {Qc : Array Value → State → Outcome → State → Prop} {free : Addr → Prop}
theorem zret_ok {ret : Option FieldType} {r : Option Value} (hx : p.tables.exec = Jvm.exec) (hb : c.code = cc) (hret : meth.sig.returnType = ret) (hlocks : meth.locks = false) (hdg : decode cc pc = .ok (i, zlen i)) (hr : zret ret i st = some r)
    (hq : ∀ t : State, t.heap = H → s.WarmedH t.vm → Qc args s (.returned r) t) (hf : ∀ q ∈ locs, free q.base) : W p l e R s m args below meth c H locs cells slots (MQ below Qc args s cells slots free) (F0 m pc ls st) := by
  cases i with
  | ireturn =>
    simp only [zret] at hr
    split at hr
    · split at hr
      · cases hr; exact W.zret hx hb hret rfl hq hf hdg hlocks
      · split at hr
        · next hv => cases hr; exact W.zret hx hb hret (by rcases hv with h | h <;> subst h <;> decide) hq hf hdg hlocks
        · cases hr
      · cases hr
    · cases hr
  | areturn =>
    simp only [zret] at hr
    split at hr
    · split at hr
      · cases hr; exact W.aret hx hb hret (Or.inl ⟨_, rfl⟩) (Or.inr ⟨_, rfl⟩) hq hf hdg hlocks
      · cases hr; exact W.aret hx hb hret (Or.inr ⟨_, rfl⟩) (Or.inr ⟨_, rfl⟩) hq hf hdg hlocks
      · cases hr
    · split at hr
      · cases hr; exact W.aret hx hb hret (Or.inl ⟨_, rfl⟩) (Or.inl rfl) hq hf hdg hlocks
      · cases hr; exact W.aret hx hb hret (Or.inr ⟨_, rfl⟩) (Or.inl rfl) hq hf hdg hlocks
      · cases hr
    · cases hr
  | return_ =>
    simp only [zret] at hr
    split at hr
    · split at hr
      · cases hr; exact W.vret hx hb hret hq hf hdg hlocks
      · cases hr
    · cases hr
  | _ => exact absurd hr (by intro q; cases q)
theorem znn {z : Int32} (hz : ¬ z < 0) : z.toInt = (z.toNatClampNeg : Int) := by
  have h0 : (0 : Int) ≤ z.toInt := by simpa using Int32.le_iff_toInt_le.mp (Int32.not_lt.mp hz)
  show z.toInt = ((z.toInt.toNat : Nat) : Int)
  omega
/-- System.arraycopy between two arrays of numbers; the heap keeps its size and all other cells -/
theorem zs_copy (hx : p.tables.exec = Jvm.exec) (hb : c.code = cc) (hml : c.maxLocals = ls.size) {own : String} {index : Nat} (hown : s.vm.findClass own = some m.cls) (w1 : (Cond.methodLink own index arraycopyName).before args s = true) (w2 : (Cond.native arraycopyName).before args s = true) (w3 : (Cond.static arraycopyName).before args s = true) (w4 : (Cond.initialized "java/lang/System").before args s = true)
    (hK : zK D aC s) (hF : zFW D aC base w H) (hS : va_S (zN base) H0 H locs) {af at_ t nf nt : Nat} {f g : Nat → Int32} {ty : FieldType} (hf : w af = some (.inr (t, nf, .inl f))) (ht : w at_ = some (.inr (t, nt, .inl g))) (hty : (zT aC)[t]? = some (aC t, ty)) (hprim : refKind ty = false)
    {n sp dp : Int32} (h1 : ¬ sp < 0) (h2 : ¬ dp < 0) (h3 : ¬ n < 0) (h4 : sp.toNatClampNeg + n.toNatClampNeg ≤ nf) (h5 : dp.toNatClampNeg + n.toNatClampNeg ≤ nt) (hfit : ∀ i, i < n.toNatClampNeg → fits ty (.int (f (sp.toNatClampNeg + i))) = true)
    (hframes : 1 ≤ R.frames) (hlocals : zsum rest + (nativeFrameWords "java/lang/System" "arraycopy" 5 + 11) ≤ R.locals) (hdg : decode cc pc = .ok (.invokestatic index, 3))
    (kk : ∀ (H1 : Heap) (locs1 : List Loc), H1.size = H.size → zFW D aC base (zup w at_ (.inr (t, nt, .inl (va_cpy f g sp.toNatClampNeg dp.toNatClampNeg n.toNatClampNeg)))) H1 → va_S (zN base) H0 H1 locs1 → W p l e R s m args below meth c H1 locs1 cells slots Q (F0 m (pc + 3) ls rest)) : W p l e R s m args below meth c H locs cells slots Q (F0 m pc ls (.int n :: .int dp :: .ref at_ :: .int sp :: .ref af :: rest)) := by
  intro T hT X
  have gf : H[af]? = some (vp_cell (aC t) (nf, .inl f)) := (hF af _ hf).2
  have gt : H[at_]? = some (vp_cell (aC t) (nt, .inl g)) := (hF at_ _ ht).2
  obtain ⟨-, kf, hkf, cmf, hkkf⟩ := (hK.1.2 t _ hty).1 nf (fun j => .int (f j))
  obtain ⟨-, kt, hkt, cmt, hkkt⟩ := (hK.1.2 t _ hty).1 nt (fun j => .int (g j))
  obtain ⟨vm', X', step⟩ := X.arraycopy hx hown w1 w2 w3 w4 (src := af) (dst := at_) (cs := vp_cell (aC t) (nf, .inl f)) (cd := vp_cell (aC t) (nt, .inl g)) (srcPos := sp) (destPos := dp) (n := n) (by rw [hT]; exact gf) (by rw [hT]; exact gt)
    (fun _ h => by cases h) (fun _ h => by cases h) (fun h => by cases h) (fun h => by cases h) hkf hkt hkkf hkkt (by simp [hprim]) h1 h2 h3
    (by rw [znn h1, znn h3]; show ¬ _ > ((arrV (aC t) nf (fun j => .int (f j))).slots.size : Int); rw [arrV_size]; omega)
    (by rw [znn h2, znn h3]; show ¬ _ > ((arrV (aC t) nt (fun j => .int (g j))).slots.size : Int); rw [arrV_size]; omega)
    (fun vm₁ _ i hi => by
      have e : (vp_cell (aC t) (nf, .inl f)).slots.getD (sp.toNatClampNeg + i) .null = .int (f (sp.toNatClampNeg + i)) := by
        show (arrV (aC t) nf (fun j => .int (f j))).slots.getD (sp.toNatClampNeg + i) .null = _
        rw [Array.getD_eq_getD_getElem?, arrV_read _ _ (by omega)]
        rfl
      rw [e]
      exact ⟨hfit i hi, trivial⟩)
    (g := F0 m pc ls (.int n :: .int dp :: .ref at_ :: .int sp :: .ref af :: rest)) rfl (by rw [hml]) (rest := rest) rfl (by rw [hb]; exact hdg) hframes (by show 2 * 0 + _ + _ ≤ _; unfold zsum at hlocals; omega)
  have ec : copied (vp_cell (aC t) (nf, .inl f)) (vp_cell (aC t) (nt, .inl g)) sp dp n = vp_cell (aC t) (nt, .inl (va_cpy f g sp.toNatClampNeg dp.toNatClampNeg n.toNatClampNeg)) := va_copied (fun z => .int z) (aC t) (aC t) f g (by omega)
  rw [ec] at X' step
  have hl : at_ < H.size := (Array.getElem?_eq_some_iff.mp gt).1
  generalize hC : vp_cell (aC t) (nt, .inl (va_cpy f g sp.toNatClampNeg dp.toNatClampNeg n.toNatClampNeg)) = C at X' step
  have hh : ((T.setVm vm').setCell at_ C).heap = H.setIfInBounds at_ C := by rw [← hT]; rfl
  have oq : ∀ q : Nat, q ≠ at_ → (H.setIfInBounds at_ C)[q]? = H[q]? := fun q hq => by simp [Array.getElem?_setIfInBounds, Ne.symm hq]
  have sz : (H.setIfInBounds at_ C).size = H.size := by simp
  have hbs : base ≤ at_ := (hF at_ _ ht).1
  obtain ⟨t', a1, b1⟩ := kk _ _ sz (hF.put (H1 := H.setIfInBounds at_ C) ⟨sz, oq⟩ hbs (show (H.setIfInBounds at_ C)[at_]? = some (vp_cell (aC t) (nt, .inl (va_cpy f g sp.toNatClampNeg dp.toNatClampNeg n.toNatClampNeg))) by rw [hC]; simp [Array.getElem?_setIfInBounds, hl])) ⟨by rw [sz]; exact hS.1, fun q g1 g2 => by
      rw [oq q (fun e => g2 (by rw [e]; exact hbs))]
      exact hS.2.1 q g1 g2, fun q hq => by
      rcases List.mem_append.mp hq with h | h
      · exact hS.2.2 q h
      · obtain ⟨z, -, hz⟩ := List.mem_map.mp h
        rw [← hz]
        exact hbs⟩ _ hh X'
  exact ⟨t', step t' a1, b1⟩
end ZSIM
theorem zgo {ws : List Cond} (h : ∀ w ∈ ws, w ∈ zAll) : GoodIn zAll ws := fun w hw => zAll_self w (h w hw)
theorem zws_in {q : zQ} (h : Cond.code (zqY q) (zqB q) (zqL q) (zqR q) ∈ zAll) : ∀ w ∈ zws q, w ∈ zAll := fun w hw => by
  rcases List.mem_cons.mp hw with h1 | h1
  · rw [h1]; exact h
  · exact h1
section ZCALL
variable {p : Program} {l : Launch} {e : Env} {R : Room} {s : State} {m : MethodId} {args : Array Value} {below : List Frame} {meth : Method} {c : Code} {H : Heap} {locs : List Loc} {cells slots : Nat} {Q : State → Prop}
variable {cc : ByteArray} {pc nL index : Nat} {ls : Array Slot} {lv : zL} {rest st As : List Value} {i : Instr} {D : va_G} {aC : Nat → ClassId} {base a b : Nat} {w w2 : zM} {M : Nat → Option zQ} {q q2 : zQ} {sz sz2 f d : Nat} {res : Option (Option Value)}
/-- a call of the receiver's own method -/
theorem zcallV (hM : zOk M q2) (hc : zCx p s m args meth c q D aC base) (hRf : R.frames = d + 1) (hRl : R.locals = 42 * (d + 1)) (hlk : Cond.methodLink (zqY q).cls index (zqY q2) ∈ zAll) (hst : zqS q2 = false) (hF : zFW D aC base w H) (hsz : H.size = sz) (hbs : base ≤ sz) (hl : lv_has ls (zqL q) lv)
    {fs : List Value} (hw : w b = some (.inl (zqC q2, fs))) (hlen : As.length = zqN q2) (hsg : (lg_sl (.ref b :: As)).length ≤ zqL q2) (hsum : zsum rest ≤ 8) (hcm : cells + (zqM q2).1 ≤ R.cells) (hsm : slots + (zqM q2).2 ≤ R.slots) (hdg : decode (zqB q) pc = .ok (.invokevirtual index, 3))
    (h : zS M l D aC base f) (hr : zrun M f d q2 0 (lv_args 0 (.ref b :: As)) [] w sz (zqM q2).1 (zqM q2).2 = some (res, w2, sz2)) :
    vx_Run p l e R s m args below meth c H locs cells slots (zqM q2).1 (zqM q2).2 (F0 m pc ls (As.reverse ++ .ref b :: rest)) rest (zQc D aC base res w2 sz2 (Value.ref b :: As).toArray) (zXc D aC base res w2 sz2) (zN base) := by
  obtain ⟨hx, hb, hml, hown, hall, hK, hlocks, hret, hnt, hbase⟩ := hc
  have hm := zmetOf (l := l) h hM hr hsg
  obtain ⟨q1, q2', q3, q4, q5, q6, q7, q8, q9, q10⟩ := hM
  rw [if_neg (by rw [hst]; decide)] at q8
  obtain ⟨g1, g2, T, N, hcl⟩ := q8
  refine vx_runV (y := zqY q2) (bytes := zqB q2) (maxL := zqL q2) (ret := zqR q2) (C := (zqY q2).cls) (n := zqN q2) ⟨hx, hb, hml, hown, hall⟩ hm (cwV (zqN q2) hall (zgo fun w' hw' => ?_) rfl rfl rfl ⟨rfl, q6.1, q6.2, q9⟩ ⟨by rw [hRf]; exact Nat.le_refl _, by rw [hRl]; show 8 + (zqL q2 + 11) + 42 * d ≤ _; omega⟩)
    ⟨zPc_blind, va_recv (q0 := 0) hK.1 (zone hF hw) hcl rfl, fun U hU hW => ⟨rfl, by rw [hU]; exact hsz, by rw [hU]; exact hF, hK.warm hW, hbs⟩⟩ rfl hlen hl.1 rfl (by show 2 * 0 + zsum rest ≤ 8; omega) hdg ⟨hcm, hsm⟩
  unfold wsV at hw'
  rcases List.mem_append.mp hw' with h1 | h1
  · rcases List.mem_cons.mp h1 with rfl | h1
    · exact hlk
    rcases List.mem_cons.mp h1 with rfl | h1
    · exact g1
    rcases List.mem_cons.mp h1 with rfl | h1
    · exact g2
    rcases List.mem_cons.mp h1 with rfl | h1
    · exact q7
    cases h1
  · exact zws_in q2' _ h1
theorem zcallS (hM : zOk M q2) (hc : zCx p s m args meth c q D aC base) (hRf : R.frames = d + 1) (hRl : R.locals = 42 * (d + 1)) (hlk : Cond.methodLink (zqY q).cls index (zqY q2) ∈ zAll) (hst : zqS q2 = true) (hF : zFW D aC base w H) (hsz : H.size = sz) (hbs : base ≤ sz) (hl : lv_has ls (zqL q) lv)
    (hlen : As.length = zqN q2) (hsg : (lg_sl As).length ≤ zqL q2) (hsum : zsum rest ≤ 8) (hcm : cells + (zqM q2).1 ≤ R.cells) (hsm : slots + (zqM q2).2 ≤ R.slots) (hdg : decode (zqB q) pc = .ok (.invokestatic index, 3))
    (h : zS M l D aC base f) (hr : zrun M f d q2 0 (lv_args 0 As) [] w sz (zqM q2).1 (zqM q2).2 = some (res, w2, sz2)) :
    vx_Run p l e R s m args below meth c H locs cells slots (zqM q2).1 (zqM q2).2 (F0 m pc ls (As.reverse ++ rest)) rest (zQc D aC base res w2 sz2 As.toArray) (zXc D aC base res w2 sz2) (zN base) := by
  obtain ⟨hx, hb, hml, hown, hall, hK, hlocks, hret, hnt, hbase⟩ := hc
  have hm := zmetOf (l := l) h hM hr hsg
  obtain ⟨q1, q2', q3, q4, q5, q6, q7, q8, q9, q10⟩ := hM
  rw [if_pos hst] at q8
  refine vx_runS (y := zqY q2) (bytes := zqB q2) (maxL := zqL q2) (ret := zqR q2) (n := zqN q2) ⟨hx, hb, hml, hown, hall⟩ hm (va_cwS (zqN q2) hall (zgo fun w' hw' => ?_) rfl rfl rfl ⟨q6.1, q6.2, q9⟩ ⟨by rw [hRf]; exact Nat.le_refl _, by rw [hRl]; show 8 + (zqL q2 + 11) + 42 * d ≤ _; omega⟩)
    ⟨zPc_blind, fun U hU hW => ⟨rfl, by rw [hU]; exact hsz, by rw [hU]; exact hF, hK.warm hW, hbs⟩⟩ rfl hlen hl.1 rfl (by show 2 * 0 + zsum rest ≤ 8; omega) hdg ⟨hcm, hsm⟩
  unfold va_wsS at hw'
  rcases List.mem_append.mp hw' with h1 | h1
  · rcases List.mem_cons.mp h1 with rfl | h1
    · exact hlk
    rcases List.mem_cons.mp h1 with rfl | h1
    · exact q8
    rcases List.mem_cons.mp h1 with rfl | h1
    · exact q7
    cases h1
  · exact zws_in q2' _ h1
end ZCALL
