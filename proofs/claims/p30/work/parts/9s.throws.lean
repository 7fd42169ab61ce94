/-! methods that return or throw -/
/-- from depth k on: returns with φ, or throws with χ; nothing is made -/
def zConT (k : Nat) (y : zQ) (As : List Value) (w : zM) (φ : Option Value → zM → Prop) (χ : zM → Prop) : Prop := ∀ d sz, k ≤ d → zP d y 0 (lv_args 0 As) [] w sz 0 0 (fun r w' z => z = sz ∧ ((∃ v, r = some v ∧ φ v w') ∨ (r = none ∧ χ w')))
theorem zConT.of {k : Nat} {y : zQ} {As : List Value} {w : zM} {φ : Option Value → zM → Prop} {χ : zM → Prop} (h : zCon k y As w φ) : zConT k y As w φ χ := fun d sz hd => by
  obtain ⟨f, r, w2, z, h1, h2, v, h3, h4⟩ := h d sz hd
  exact ⟨f, r, w2, z, h1, h2, Or.inl ⟨v, h3, h4⟩⟩
section ZTH
variable {d : Nat} {q : zQ} {pc : Nat} {lv : zL} {st : List Value} {w : zM} {sz mc ms : Nat} {Post : Option (Option Value) → zM → Nat → Prop}
theorem zr_callVT {idx j k : Nat} {q2 : zQ} {b : Nat} {fs As rest : List Value} {φ : Option Value → zM → Prop} {χ : zM → Prop} (hi : zlk (zqI q) pc = some (.invokevirtual idx)) (hk : zlk (zqK q) idx = some j) (hj : zMe j = some q2) (hs : zqS q2 = false) (hm : zqM q2 = (0, 0)) (hn : zqN q2 ≤ st.length) (hd : st.drop (zqN q2) = .ref b :: rest) (hA : .ref b :: (st.take (zqN q2)).reverse = As)
    (hw : w b = some (.inl (zqC q2, fs))) (hsum : zsum rest ≤ 8) (hg : (lg_sl As).length ≤ zqL q2) (hc : zConT k q2 As w φ χ) (hkd : k ≤ d) (kk : ∀ v w2, φ v w2 → zP (d + 1) q (pc + 3) lv (v.toList ++ rest) w2 sz mc ms Post) (kx : ∀ w2, χ w2 → Post none w2 sz) : zP (d + 1) q pc lv st w sz mc ms Post := by
  subst hA
  refine zp_call (q2 := q2) hi rfl rfl rfl rfl (fun _ => rfl) (by simp only [zinv, hk, hj]; rw [if_pos ⟨hs, hn⟩, hd]; simp only [hw, if_true]) (by rw [hm]; exact Nat.zero_le _) (by rw [hm]; exact Nat.zero_le _) hsum hg (by rw [hm]; have := hc d sz hkd; exact this) (fun r w2 z hp => ?_) (fun w2 z hp => ?_)
  · obtain ⟨rfl, ⟨v, hv, hφ⟩ | ⟨hv, _⟩⟩ := hp
    · cases hv
      have := kk r w2 hφ
      rw [hm]
      exact this
    · cases hv
  · obtain ⟨rfl, ⟨v, hv, _⟩ | ⟨_, hχ⟩⟩ := hp
    · cases hv
    · exact kx w2 hχ
end ZTH
