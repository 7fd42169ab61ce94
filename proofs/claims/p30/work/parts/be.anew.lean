/-! methods that make arrays of their own: where the room began, what came of it -/
theorem zSI.new {w : zM} {a : Nat} {c : zC} (h : w a = none) : zSI w (zup w a c) := fun x d hx => by
  by_cases e : x = a
  · subst e; rw [h] at hx; cases hx
  · exact ⟨d, by rw [zup_n e]; exact hx, Or.inl rfl⟩
theorem zr_anew {d : Nat} {q : zQ} {pc : Nat} {lv : zL} {r : List Value} {w : zM} {sz mc ms : Nat} {Post : Option (Option Value) → zM → Nat → Prop} {idx : Nat} {x : Int32} {N : Nat} (hi : zlk (zqI q) pc = some (.anewarray idx)) (hk : zlk (zqK q) idx = some 1004) (hx : ¬ x < 0) (hN : x.toNatClampNeg = N) (hb : N * 4 ≤ 536870912) (h1 : 1 ≤ mc) (h2 : N ≤ ms)
    (kk : zP d q (pc + 3) lv (.ref sz :: r) (zup w sz (.inr (4, N, .inr (fun _ => none)))) (sz + 1) (mc - 1) (ms - N) Post) : zP d q pc lv (.int x :: r) w sz mc ms Post := by
  subst hN
  exact zp_spec hi rfl rfl rfl rfl (by simp only [zspec, hk]; rw [if_pos ⟨hx, hb, h1, h2⟩]) kk
def zConN (k b cm cs : Nat) (y : zQ) (As : List Value) (w : zM) (φ : Option Value → zM → Prop) : Prop := ∀ d sz, k ≤ d → b ≤ sz → sz + cm ≤ b + 1000000000000 → (∀ x, sz ≤ x → w x = none) → zP d y 0 (lv_args 0 As) [] w sz cm cs (fun r w' z => (sz ≤ z ∧ z ≤ sz + cm) ∧ (∀ x, z ≤ x → w' x = none) ∧ ∃ v, r = some v ∧ φ v w')
theorem zr_callVN {q : zQ} {pc : Nat} {lv : zL} {st : List Value} {w : zM} {sz mc ms : Nat} {Post : Option (Option Value) → zM → Nat → Prop} {d idx j k bb cm cs : Nat} {q2 : zQ} {b : Nat} {fs As rest : List Value} {φ : Option Value → zM → Prop} (hi : zlk (zqI q) pc = some (.invokevirtual idx)) (hk : zlk (zqK q) idx = some j) (hj : zMe j = some q2) (hs : zqS q2 = false) (hm1 : (zqM q2).1 = cm) (hm2 : (zqM q2).2 = cs) (hn : zqN q2 ≤ st.length) (hd : st.drop (zqN q2) = .ref b :: rest) (hA : .ref b :: (st.take (zqN q2)).reverse = As)
    (hw : w b = some (.inl (zqC q2, fs))) (hsum : zsum rest ≤ 8) (hg : (lg_sl As).length ≤ zqL q2) (hc : zConN k bb cm cs q2 As w φ) (hkd : k ≤ d) (hmc : cm ≤ mc) (hms : cs ≤ ms) (hb : bb ≤ sz) (hb2 : sz + cm ≤ bb + 1000000000000) (hno : ∀ x, sz ≤ x → w x = none)
    (kk : ∀ v w2 z, (sz ≤ z ∧ z ≤ sz + cm) → (∀ x, z ≤ x → w2 x = none) → φ v w2 → zP (d + 1) q (pc + 3) lv (v.toList ++ rest) w2 z (mc - cm) (ms - cs) Post) : zP (d + 1) q pc lv st w sz mc ms Post := by
  subst hA
  refine zp_call (q2 := q2) hi rfl rfl rfl rfl (fun _ => rfl) (by simp only [zinv, hk, hj]; rw [if_pos ⟨hs, hn⟩, hd]; simp only [hw, if_true]) (by rw [hm1]; exact hmc) (by rw [hm2]; exact hms) hsum hg (by rw [hm1, hm2]; exact hc d sz hkd hb hb2 hno) (fun r w2 z hp => ?_) (fun w2 z hp => ?_)
  · obtain ⟨h1, h2, v, hv, hφ⟩ := hp
    cases hv
    have := kk r w2 z h1 h2 hφ
    rw [hm1, hm2]
    exact this
  · obtain ⟨-, -, v, hv, -⟩ := hp
    cases hv
