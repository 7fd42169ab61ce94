/-! every run of the small machine is one of the real machine -/
def zCont (M : Nat → Option zQ) (f d : Nat) (q : zQ) (pc : Nat) (lv : zL) (rest : List Value) (mc ms : Nat) (res : Option (Option Value)) (w' : zM) (sz' : Nat) (res2 : Option (Option Value)) (w2 : zM) (sz2 : Nat) : Prop := match res2 with
  | some r => zrun M f d q pc lv (r.toList ++ rest) w2 sz2 mc ms = some (res, w', sz')
  | none => res = none ∧ w' = w2 ∧ sz' = sz2
section ZSIM2
variable {M : Nat → Option zQ} {l : Launch} {D : va_G} {aC : Nat → ClassId} {base f : Nat}
variable {p : Program} {e : Env} {R : Room} {s : State} {m : MethodId} {args : Array Value} {below : List Frame} {meth : Method} {c : Code} {H : Heap} {locs : List Loc} {cells slots : Nat}
/-- behind a call: what came back, or what was thrown -/
theorem zback {d : Nat} {q : zQ} {pc : Nat} {ls : Array Slot} {lv : zL} {rest st0 : List Value} {w2 w' : zM} {sz2 sz' mc ms mc2 ms2 : Nat} {res res2 : Option (Option Value)} {As' : Array Value}
    (ih : zS M l D aC base f) (hq0 : zOk M q) (hc0 : zCx p s m args meth c q D aC base) (hRf : R.frames = d) (hRl : R.locals = 42 * d) (hS : va_S (zN base) s.heap H locs) (hl : lv_has ls (zqL q) lv)
    (h1 : mc2 ≤ mc) (h2 : ms2 ≤ ms) (hcm : cells + mc ≤ R.cells) (hsm : slots + ms ≤ R.slots)
    (hrun : vx_Run p l e R s m args below meth c H locs cells slots mc2 ms2 (F0 m pc ls st0) rest (zQc D aC base res2 w2 sz2 As') (zXc D aC base res2 w2 sz2) (zN base))
    (hk : zCont M f d q (pc + 3) lv rest (mc - mc2) (ms - ms2) res w' sz' res2 w2 sz2) :
    W p l e R s m args below meth c H locs cells slots (vx_MQ below (zQc D aC base res w' sz') (zXc D aC base res w' sz') args s R.cells R.slots (zN base)) (F0 m pc ls st0) := by
  intro T hT X
  rcases hrun T hT X with ⟨v, st₀, t, T', L, h0, X', hL, e1, e2, ⟨r, hres, hv, z1, z2, z3⟩, st⟩ | ⟨qq, st₀, t, T', L, E, ce, h0, X', hL, e1, e2, ⟨hres, hE, z1, z2, z3⟩, hce, hcv, hcl, st⟩
  · subst hres
    cases hv
    obtain ⟨k1, k2, k3⟩ := vx_keep (A1 := zN base) (free := zN base) h0 e1 hS (fun _ _ h => h) (fun _ h => h) hL z3
    obtain ⟨t2, a1, b1⟩ := ih d q (pc + 3) lv _ w2 sz2 _ _ res w' sz' hq0 hk p e R s m args below meth c hc0 hRf hRl T'.heap (locs ++ L) (cells + mc2) (slots + ms2) ls (by rw [e1]; exact z1) (by rw [e1]; exact z2) k3 hl (by omega) (by omega) T' rfl X'
    exact ⟨t2, st t2 a1, b1⟩
  · subst hres
    obtain ⟨hr1, hr2, hr3⟩ := hk
    subst hr1; subst hr2; subst hr3; subst hE
    obtain ⟨k1, k2, k3⟩ := vx_keep (A1 := zN base) (free := zN base) h0 e1 hS (fun _ _ h => h) (fun _ h => h) hL z3
    obtain ⟨hx, hb, hml, hown, hall, hK, hlocks, hret, hnt, hbase⟩ := hc0
    have ho : vx_W p l e R s m args below meth c T'.heap (locs ++ L) (cells + mc2) (slots + ms2) (vx_MQ below (zQc D aC base none w' sz') (zXc D aC base none w' sz') args s R.cells R.slots (zN base)) (F0 m pc ls rest) qq :=
      vx_out (E := RX13) (fun x hx => (hnt x hx).elim) hlocks (by rw [e1]; exact hce) hcv hcl (fun zt ht hvm => ⟨rfl, rfl, by rw [ht, e1]; exact z1, by rw [ht, e1]; exact z2, k3.F ht⟩) k3.2.2 (by omega) (by omega)
    obtain ⟨t2, a1, b1⟩ := ho T' rfl X'
    exact ⟨t2, st.trans a1, b1⟩
set_option maxHeartbeats 8000000 in
theorem zsim (hM : ∀ j q, M j = some q → zOk M q) (hN : ∀ j, 1000 ≤ j → M j = none) (hj : zJdk) : ∀ f, zS M l D aC base f := by
  intro f
  induction f with
  | zero =>
    intro d q pc lv st w sz mc ms res w' sz' hq hr
    simp [zrun] at hr
  | succ f ih =>
    intro d q pc lv st w sz mc ms res w' sz' hq0 hr p e R s m args below meth c hc0 hRf hRl H locs cells slots ls hsz hF hS hl hcm hsm
    obtain ⟨q1, q2, q3, q4, q5, q6, q7, q8, q9, q10⟩ := hq0
    have hq0 : zOk M q := ⟨q1, q2, q3, q4, q5, q6, q7, q8, q9, q10⟩
    obtain ⟨hx, hb, hml, hown, hall, hK, hlocks, hret, hnt, hbase⟩ := hc0
    have hc0 : zCx p s m args meth c q D aC base := ⟨hx, hb, hml, hown, hall, hK, hlocks, hret, hnt, hbase⟩
    have hbs : base ≤ sz := by rw [← hsz]; exact Nat.le_trans hbase hS.1
    have hml' : c.maxLocals = ls.size := by rw [hml, hl.1]
    rw [zrun] at hr
    split at hr
    · cases hr
    next i hi =>
    have hdec := q3 _ (zlk_mem hi)
    split at hr
    · next x hx1 =>
      obtain ⟨pc', lv', st'⟩ := x
      rcases hdec with hdg | ⟨z1, z2, z3, z4, z5, z6, z7⟩
      · exact zpure_ok hx hb hl hdg hx1 (fun ls' hl' => ih d q _ _ _ w sz mc ms res w' sz' hq0 hr p e R s m args below meth c hc0 hRf hRl H locs cells slots ls' hsz hF hS hl' hcm hsm)
      · dsimp only at z6; subst z6; cases hx1
    split at hr
    · next x hx1 =>
      obtain ⟨pc', lv', st', w1⟩ := x
      rcases hdec with hdg | ⟨z1, z2, z3, z4, z5, z6, z7⟩
      · exact zheap_ok hx hb hown hall hK q4 hF hS hl hdg hx1 (fun H1 locs1 e1 hF1 hS1 hl1 => ih d q _ _ _ w1 sz mc ms res w' sz' hq0 hr p e R s m args below meth c hc0 hRf hRl H1 locs1 cells slots ls (by rw [e1]; exact hsz) hF1 hS1 hl1 hcm hsm)
      · dsimp only at z6; subst z6; cases hx1
    split at hr
    · next r hx1 =>
      cases hr
      rcases hdec with hdg | ⟨z1, z2, z3, z4, z5, z6, z7⟩
      · refine vx_ret (W.widen (k := R.cells) (n := R.slots) (by omega) (by omega) (zret_ok hx hb hret hlocks hdg hx1 (fun t ht hW => ⟨r, rfl, rfl, by rw [ht]; exact hsz, by rw [ht]; exact hF, hS.F ht⟩) hS.2.2))
      · dsimp only at z6; subst z6; cases hx1
    split at hr
    · next hx1 =>
      cases hr
      rcases hdec with hdg | ⟨z1, z2, z3, z4, z5, z6, z7⟩
      · unfold zthr at hx1
        split at hx1
        · split at hx1
          · next a r =>
            split at hx1
            · next ci fs hw =>
              have hci := of_decide_eq_true hx1
              subst hci
              obtain ⟨q', h1, cell, g1, g2, g3, -⟩ := (hF _ _ hw).2
              cases h1
              refine vx_athrow hx hb hdg ?_
              exact vx_out (E := RX13) (fun x hx => (hnt x hx).elim) hlocks g1 g3 (by rw [g2]; exact (hK.1.1 12 _ rfl).2.1) (fun zt ht hvm => ⟨rfl, rfl, by rw [ht]; exact hsz, by rw [ht]; exact hF, hS.F ht⟩) hS.2.2 (by omega) (by omega)
            · cases hx1
          · cases hx1
        · cases hx1
      · dsimp only at z6; subst z6; cases hx1
    split at hr
    · next x hx1 =>
      obtain ⟨pc', st', w1, sz1, mc1, ms1⟩ := x
      dsimp only at hr
      cases i with
      | invokestatic idx =>
        rcases hdec with hdg | ⟨z1, z2, z3, z4, z5, z6, z7⟩
        case inr => cases z6
        simp only [zspec] at hx1
        split at hx1
        · next hk =>
          split at hx1
          · split at hx1
            · next hg =>
              cases hx1
              exact va_mmax hx hb hml' hown (hall _ (q10 _ (zlk_mem hk))) (hall _ hj.1) (hall _ hj.2.2.2.1) (hall _ hj.2.2.2.2.1) (by omega) (by rw [hRl]; have := hg.2; unfold zsum at this; omega) (by omega) (by omega) hdg
                (ih d q _ _ _ w sz mc ms res w' sz' hq0 hr p e R s m args below meth c hc0 hRf hRl H locs cells slots ls hsz hF hS hl hcm hsm)
            · cases hx1
          · cases hx1
        · next hk =>
          split at hx1
          · split at hx1
            · next hg =>
              cases hx1
              exact va_mmin hx hb hml' hown (hall _ (q10 _ (zlk_mem hk))) (hall _ hj.2.1) (hall _ hj.2.2.2.1) (hall _ hj.2.2.2.2.2.1) (by omega) (by rw [hRl]; have := hg.2; unfold zsum at this; omega) (by omega) (by omega) hdg
                (ih d q _ _ _ w sz mc ms res w' sz' hq0 hr p e R s m args below meth c hc0 hRf hRl H locs cells slots ls hsz hF hS hl hcm hsm)
            · cases hx1
          · cases hx1
        · next hk =>
          split at hx1
          · split at hx1
            · next hg =>
              cases hx1
              exact va_mabs hx hb hml' hown (hall _ (q10 _ (zlk_mem hk))) (hall _ hj.2.2.1) (hall _ hj.2.2.2.1) (hall _ hj.2.2.2.2.2.2.1) (by omega) (by rw [hRl]; have := hg.2; unfold zsum at this; omega) (by omega) (by omega) hdg
                (ih d q _ _ _ w sz mc ms res w' sz' hq0 hr p e R s m args below meth c hc0 hRf hRl H locs cells slots ls hsz hF hS hl hcm hsm)
            · cases hx1
          · cases hx1
        · next hk =>
          split at hx1
          · split at hx1
            · next hwa hwb =>
              split at hx1
              · next hg =>
                obtain ⟨g1, g2, g3, g4, g5, g6, g7, g8⟩ := hg
                subst g3
                have hnw : nativeFrameWords "java/lang/System" "arraycopy" 5 = 7 := by decide
                split at hx1
                · cases hx1
                  exact zs_copy (ty := .int) hx hb hml' hown (hall _ (q10 _ (zlk_mem hk))) (hall _ hj.2.2.2.2.2.2.2.1) (hall _ hj.2.2.2.2.2.2.2.2.1) (hall _ hj.2.2.2.2.2.2.2.2.2) hK hF hS hwa hwb rfl rfl g4 g5 g6 g7 g8 (fun _ _ => rfl) (by omega) (by rw [hRl, hnw]; omega) hdg
                    (fun H1 locs1 e1 hF1 hS1 => ih d q _ _ _ _ sz mc ms res w' sz' hq0 hr p e R s m args below meth c hc0 hRf hRl H1 locs1 cells slots ls (by rw [e1]; exact hsz) hF1 hS1 hl hcm hsm)
                · split at hx1
                  · next hfit =>
                    cases hx1
                    exact zs_copy (ty := .byte) hx hb hml' hown (hall _ (q10 _ (zlk_mem hk))) (hall _ hj.2.2.2.2.2.2.2.1) (hall _ hj.2.2.2.2.2.2.2.2.1) (hall _ hj.2.2.2.2.2.2.2.2.2) hK hF hS hwa hwb rfl rfl g4 g5 g6 g7 g8 hfit (by omega) (by rw [hRl, hnw]; omega) hdg
                      (fun H1 locs1 e1 hF1 hS1 => ih d q _ _ _ _ sz mc ms res w' sz' hq0 hr p e R s m args below meth c hc0 hRf hRl H1 locs1 cells slots ls (by rw [e1]; exact hsz) hF1 hS1 hl hcm hsm)
                  · cases hx1
                · cases hx1
              · cases hx1
            · cases hx1
          · cases hx1
        · cases hx1
      | anewarray idx =>
        rcases hdec with hdg | ⟨z1, z2, z3, z4, z5, z6, z7⟩
        case inr => cases z6
        simp only [zspec] at hx1
        split at hx1
        · next hk =>
          split at hx1
          · next n r =>
            split at hx1
            · next hg =>
              obtain ⟨g1, g2, g3, g4⟩ := hg
              cases hx1
              refine znewq (D := D) (ws := []) (A := zN base) hx hb hown (hall _ (q10 _ (zlk_mem hk))) hK.2.2.1 hK.1 (fun k x h => by simp at h) ⟨fun i j x y h => by simp at h, fun k x h => by simp at h⟩ hS (fun q h => Nat.le_trans hbase h) 4 rfl g1 rfl g2 (by omega) (by omega) hdg (fun qq H1 e1 e2 hkp hP1 hD1 hS1 => ?_)
              subst e1
              rw [← hsz] at hr
              exact ih d q _ _ _ _ _ _ _ res w' sz' hq0 hr p e R s m args below meth c hc0 hRf hRl H1 locs (cells + 1) (slots + _) ls e2 (hF.new hkp (by rw [hsz]; exact hbs) (hP1 0 _ rfl)) hS1 hl (by omega) (by omega)
            · cases hx1
          · cases hx1
        · cases hx1
      | tableswitch dflt lo hgh offs =>
        have hdg : ∃ n, decode (zqB q) pc = .ok (.tableswitch dflt lo hgh offs, n) := by
          rcases hdec with hdg | ⟨z1, z2, z3, z4, z5, z6, z7⟩
          · exact ⟨_, hdg⟩
          · exact ⟨_, z7⟩
        obtain ⟨n, hdg⟩ := hdg
        simp only [zspec] at hx1
        split at hx1
        · next x r =>
          split at hx1
          · next ho =>
            cases hg : ztgok pc dflt with
            | false => rw [hg] at hx1; cases hx1
            | true =>
              rw [hg] at hx1
              cases hx1
              exact lv_tableOut hx hb hdg ho (ztg_eq hg) (ih d q _ _ _ w sz mc ms res w' sz' hq0 hr p e R s m args below meth c hc0 hRf hRl H locs cells slots ls hsz hF hS hl hcm hsm)
          · next ho =>
            split at hx1
            · next off hof =>
              cases hg : ztgok pc off with
              | false => rw [hg] at hx1; cases hx1
              | true =>
                rw [hg] at hx1
                cases hx1
                exact lv_tableIn hx hb hdg (fun h => ho (Or.inl h)) (fun h => ho (Or.inr h)) hof (ztg_eq hg) (ih d q _ _ _ w sz mc ms res w' sz' hq0 hr p e R s m args below meth c hc0 hRf hRl H locs cells slots ls hsz hF hS hl hcm hsm)
            · cases hx1
        · cases hx1
      | _ => exact absurd hx1 (by intro z; cases z)
    split at hr
    · next x hx1 =>
      obtain ⟨qc, As, rest⟩ := x
      cases d with
      | zero => cases hr
      | succ d' =>
      dsimp only at hr
      split at hr
      · next hg =>
        obtain ⟨g1, g2, g3, g4⟩ := hg
        have hk : ∃ res2 w2 sz2, zrun M f d' qc 0 (lv_args 0 As) [] w sz (zqM qc).1 (zqM qc).2 = some (res2, w2, sz2) ∧ zCont M f (d' + 1) q (pc + 3) lv rest (mc - (zqM qc).1) (ms - (zqM qc).2) res w' sz' res2 w2 sz2 := by
          split at hr
          · next r w2 sz2 hrr => exact ⟨_, _, _, hrr, hr⟩
          · next w2 sz2 hrr => cases hr; exact ⟨_, _, _, hrr, rfl, rfl, rfl⟩
          · cases hr
        obtain ⟨res2, w2, sz2, hrr, hk⟩ := hk
        cases i with
        | invokevirtual idx =>
          rcases hdec with hdg | ⟨z1, z2, z3, z4, z5, z6, z7⟩
          case inr => cases z6
          simp only [zinv] at hx1
          split at hx1
          · next j hj1 =>
            split at hx1
            · next qd hqd =>
              split at hx1
              · next hst =>
                split at hx1
                · next b rs hdrop =>
                  split at hx1
                  · next ci fs hw =>
                    split at hx1
                    · next hci =>
                      subst hci
                      cases hx1
                      have hlk : Cond.methodLink (zqY q).cls idx (zqY qc) ∈ zAll := by
                        have h := q10 _ (zlk_mem hj1)
                        split at h
                        · next hh => dsimp only at hh; subst hh; exact absurd hqd (by rw [hN _ (by decide)]; intro z; cases z)
                        · next hh => dsimp only at hh; subst hh; exact absurd hqd (by rw [hN _ (by decide)]; intro z; cases z)
                        · next hh => dsimp only at hh; subst hh; exact absurd hqd (by rw [hN _ (by decide)]; intro z; cases z)
                        · next hh => dsimp only at hh; subst hh; exact absurd hqd (by rw [hN _ (by decide)]; intro z; cases z)
                        · next hh => dsimp only at hh; subst hh; exact absurd hqd (by rw [hN _ (by decide)]; intro z; cases z)
                        · obtain ⟨q5', h5, h6⟩ := h
                          cases h5.symm.trans hqd
                          exact h6
                      have hst' : st = ((st.take (zqN qc)).reverse).reverse ++ .ref b :: rest := by
                        rw [List.reverse_reverse, ← hdrop, List.take_append_drop]
                      rw [hst']
                      exact zback ih hq0 hc0 hRf hRl hS hl g1 g2 hcm hsm (zcallV (hM _ _ hqd) hc0 hRf hRl hlk hst.1 hF hsz hbs hl hw (by rw [List.length_reverse, List.length_take]; omega) g4 g3 (by omega) (by omega) hdg ih hrr) hk
                    · cases hx1
                  · cases hx1
                · cases hx1
              · cases hx1
            · cases hx1
          · cases hx1
        | invokestatic idx =>
          rcases hdec with hdg | ⟨z1, z2, z3, z4, z5, z6, z7⟩
          case inr => cases z6
          simp only [zinv] at hx1
          split at hx1
          · next j hj1 =>
            split at hx1
            · next qd hqd =>
              split at hx1
              · next hst =>
                cases hx1
                have hlk : Cond.methodLink (zqY q).cls idx (zqY qc) ∈ zAll := by
                  have h := q10 _ (zlk_mem hj1)
                  split at h
                  · next hh => dsimp only at hh; subst hh; exact absurd hqd (by rw [hN _ (by decide)]; intro z; cases z)
                  · next hh => dsimp only at hh; subst hh; exact absurd hqd (by rw [hN _ (by decide)]; intro z; cases z)
                  · next hh => dsimp only at hh; subst hh; exact absurd hqd (by rw [hN _ (by decide)]; intro z; cases z)
                  · next hh => dsimp only at hh; subst hh; exact absurd hqd (by rw [hN _ (by decide)]; intro z; cases z)
                  · next hh => dsimp only at hh; subst hh; exact absurd hqd (by rw [hN _ (by decide)]; intro z; cases z)
                  · obtain ⟨q5', h5, h6⟩ := h
                    cases h5.symm.trans hqd
                    exact h6
                have hst' : st = ((st.take (zqN qc)).reverse).reverse ++ st.drop (zqN qc) := by
                  rw [List.reverse_reverse, List.take_append_drop]
                have hb2 := zback (e := e) (below := below) (st0 := ((st.take (zqN qc)).reverse).reverse ++ st.drop (zqN qc)) (pc := pc) ih hq0 hc0 hRf hRl hS hl g1 g2 hcm hsm (zcallS (hM _ _ hqd) hc0 hRf hRl hlk hst.1 hF hsz hbs hl (by rw [List.length_reverse, List.length_take]; omega) g4 g3 (by omega) (by omega) hdg ih hrr) hk
                rw [← hst'] at hb2
                exact hb2
              · cases hx1
            · cases hx1
          · cases hx1
        | _ => exact absurd hx1 (by intro z; cases z)
      · cases hr
    · cases hr
end ZSIM2
