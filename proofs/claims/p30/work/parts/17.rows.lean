/-! a row an instruction, for the small machine -/
section ZR
variable {d : Nat} {q : zQ} {pc pc' : Nat} {lv lv' : zL} {st st' r : List Value} {w w' : zM} {sz mc ms : Nat} {Post : Option (Option Value) → zM → Nat → Prop} {i : Instr} {a : Nat}
theorem zr_get {idx ci k : Nat} {fs : List Value} {v : Value} (hi : zlk (zqI q) pc = some (.getfield idx)) (hl : zlk (zqP q).1 idx = some (ci, k)) (hw : w a = some (.inl (ci, fs))) (hv : fs[k]? = some v) (kk : zP d q (pc + 3) lv (v :: r) w sz mc ms Post) : zP d q pc lv (.ref a :: r) w sz mc ms Post :=
  zp_heap hi rfl (by simp only [zheap, hl, hw, if_true, hv]) kk
theorem zr_put {idx ci k : Nat} {fs : List Value} {v : Value} {ty : FieldType} (hi : zlk (zqI q) pc = some (.putfield idx)) (hl : zlk (zqP q).1 idx = some (ci, k)) (hw : w a = some (.inl (ci, fs))) (hk : k < fs.length) (ht : zft ci k = some (ty, false)) (hf : zfit ty v = true) (kk : zP d q (pc + 3) lv r (zup w a (.inl (ci, fs.set k v))) sz mc ms Post) : zP d q pc lv (v :: .ref a :: r) w sz mc ms Post :=
  zp_heap hi rfl (by simp only [zheap, hl, hw, hk, and_self, if_true, ht, hf, cond_true]) kk
theorem zr_iald {n : Nat} {f : Nat → Int32} {j : Int32} (hi : zlk (zqI q) pc = some .iaload) (hw : w a = some (.inr (0, n, .inl f))) (hin : vp_in j n) (kk : zP d q (pc + 1) lv (.int (f j.toNatClampNeg) :: r) w sz mc ms Post) : zP d q pc lv (.int j :: .ref a :: r) w sz mc ms Post :=
  zp_heap hi rfl (by unfold vp_in at hin; simp only [zheap, hw]; rw [if_pos hin]) kk
theorem zr_iast {n : Nat} {f : Nat → Int32} {j x : Int32} (hi : zlk (zqI q) pc = some .iastore) (hw : w a = some (.inr (0, n, .inl f))) (hin : vp_in j n) (kk : zP d q (pc + 1) lv r (zup w a (.inr (0, n, .inl (upd f j.toNatClampNeg x)))) sz mc ms Post) : zP d q pc lv (.int x :: .int j :: .ref a :: r) w sz mc ms Post :=
  zp_heap hi rfl (by unfold vp_in at hin; simp only [zheap, hw]; rw [if_pos hin]) kk
theorem zr_bald {t n : Nat} {f : Nat → Int32} {j : Int32} (hi : zlk (zqI q) pc = some .baload) (hw : w a = some (.inr (t, n, .inl f))) (ht : t = 1 ∨ t = 2) (hin : vp_in j n) (kk : zP d q (pc + 1) lv (.int (f j.toNatClampNeg) :: r) w sz mc ms Post) : zP d q pc lv (.int j :: .ref a :: r) w sz mc ms Post := by
  unfold vp_in at hin
  rcases ht with rfl | rfl
  · exact zp_heap hi rfl (by simp only [zheap, hw]; rw [if_pos hin]) kk
  · exact zp_heap hi rfl (by simp only [zheap, hw]; rw [if_pos hin]) kk
theorem zr_bast {n : Nat} {f : Nat → Int32} {j x : Int32} (hi : zlk (zqI q) pc = some .bastore) (hw : w a = some (.inr (1, n, .inl f))) (hin : vp_in j n) (kk : zP d q (pc + 1) lv r (zup w a (.inr (1, n, .inl (upd f j.toNatClampNeg (vp_nar .byte x))))) sz mc ms Post) : zP d q pc lv (.int x :: .int j :: .ref a :: r) w sz mc ms Post :=
  zp_heap hi rfl (by unfold vp_in at hin; simp only [zheap, hw]; rw [if_pos hin]) kk
theorem zr_zast {n : Nat} {f : Nat → Int32} {j x : Int32} (hi : zlk (zqI q) pc = some .bastore) (hw : w a = some (.inr (2, n, .inl f))) (hin : vp_in j n) (kk : zP d q (pc + 1) lv r (zup w a (.inr (2, n, .inl (upd f j.toNatClampNeg (vp_nar .boolean x))))) sz mc ms Post) : zP d q pc lv (.int x :: .int j :: .ref a :: r) w sz mc ms Post :=
  zp_heap hi rfl (by unfold vp_in at hin; simp only [zheap, hw]; rw [if_pos hin]) kk
theorem zr_aald {t n : Nat} {f : Nat → Option Nat} {j : Int32} (hi : zlk (zqI q) pc = some .aaload) (hw : w a = some (.inr (t, n, .inr f))) (ht : 3 ≤ t ∧ t ≤ 8) (hin : vp_in j n) {v : Value} (hv : va_rf (f j.toNatClampNeg) = v) (kk : zP d q (pc + 1) lv (v :: r) w sz mc ms Post) : zP d q pc lv (.int j :: .ref a :: r) w sz mc ms Post := by
  subst hv
  exact zp_heap hi rfl (by unfold vp_in at hin; simp only [zheap, hw]; rw [if_pos ⟨ht.1, ht.2, hin⟩]) kk
theorem zr_aast {t n ci b : Nat} {f : Nat → Option Nat} {fs : List Value} {j : Int32} (hi : zlk (zqI q) pc = some .aastore) (hw : w a = some (.inr (t, n, .inr f))) (hb : w b = some (.inl (ci, fs))) (ht : 3 ≤ t ∧ t ≤ 6 ∧ ci = zEl t) (hin : vp_in j n) (kk : zP d q (pc + 1) lv r (zup w a (.inr (t, n, .inr (va_up f j.toNatClampNeg (some b))))) sz mc ms Post) : zP d q pc lv (.ref b :: .int j :: .ref a :: r) w sz mc ms Post :=
  zp_heap hi rfl (by unfold vp_in at hin; simp only [zheap, hw, hb]; rw [if_pos ⟨ht.1, ht.2.1, ht.2.2, hin⟩]) kk
theorem zr_aastA {t u n n2 b : Nat} {f : Nat → Option Nat} {g : zA} {j : Int32} (hi : zlk (zqI q) pc = some .aastore) (hw : w a = some (.inr (t, n, .inr f))) (hb : w b = some (.inr (u, n2, g))) (ht : t = 7 ∧ u = 0 ∨ t = 8 ∧ u = 4) (hin : vp_in j n) (kk : zP d q (pc + 1) lv r (zup w a (.inr (t, n, .inr (va_up f j.toNatClampNeg (some b))))) sz mc ms Post) : zP d q pc lv (.ref b :: .int j :: .ref a :: r) w sz mc ms Post :=
  zp_heap hi rfl (by unfold vp_in at hin; simp only [zheap, hw, hb]; rw [if_pos ⟨ht, hin⟩]) kk
theorem zr_alenI {t n : Nat} {f : Nat → Int32} (hi : zlk (zqI q) pc = some .arraylength) (hw : w a = some (.inr (t, n, .inl f))) (ht : t ≤ 2) {v : Int32} (hv : Int32.ofNat n = v) (kk : zP d q (pc + 1) lv (.int v :: r) w sz mc ms Post) : zP d q pc lv (.ref a :: r) w sz mc ms Post := by
  subst hv
  exact zp_heap hi rfl (by simp only [zheap, hw]; rw [if_pos ht]) kk
theorem zr_alenA {t n : Nat} {f : Nat → Option Nat} (hi : zlk (zqI q) pc = some .arraylength) (hw : w a = some (.inr (t, n, .inr f))) (ht : 3 ≤ t ∧ t ≤ 8) {v : Int32} (hv : Int32.ofNat n = v) (kk : zP d q (pc + 1) lv (.int v :: r) w sz mc ms Post) : zP d q pc lv (.ref a :: r) w sz mc ms Post := by
  subst hv
  exact zp_heap hi rfl (by simp only [zheap, hw]; rw [if_pos ht]) kk
theorem zr_ldc {idx : Nat} {v : Int32} (hi : zlk (zqI q) pc = some (.ldc idx)) (hl : zlk (zqP q).2.1 idx = some v) (kk : zP d q (pc + 2) lv (.int v :: st) w sz mc ms Post) : zP d q pc lv st w sz mc ms Post :=
  zp_heap hi rfl (by simp only [zheap, hl]) kk
theorem zr_ldcw {idx : Nat} {v : Int32} (hi : zlk (zqI q) pc = some (.ldc_w idx)) (hl : zlk (zqP q).2.1 idx = some v) (kk : zP d q (pc + 3) lv (.int v :: st) w sz mc ms Post) : zP d q pc lv st w sz mc ms Post :=
  zp_heap hi rfl (by simp only [zheap, hl]) kk
theorem zr_ldc2 {idx : Nat} {v : Int64} (hi : zlk (zqI q) pc = some (.ldc2_w idx)) (hl : zlk (zqP q).2.2 idx = some v) (kk : zP d q (pc + 3) lv (.long v :: st) w sz mc ms Post) : zP d q pc lv st w sz mc ms Post :=
  zp_heap hi rfl (by simp only [zheap, hl]) kk
/-- an instruction that may fail or not by a number: a division -/
theorem zr_irem {x y : Int32} (hi : zlk (zqI q) pc = some .irem) (hne : ¬ y = 0) (kk : zP d q (pc + 1) lv (.int (x - x / y * y) :: r) w sz mc ms Post) : zP d q pc lv (.int y :: .int x :: r) w sz mc ms Post :=
  zp_pure hi (by simp only [zpure]; rw [if_pos hne]) kk
theorem zr_idiv {x y : Int32} (hi : zlk (zqI q) pc = some .idiv) (hne : ¬ y = 0) (kk : zP d q (pc + 1) lv (.int (x / y) :: r) w sz mc ms Post) : zP d q pc lv (.int y :: .int x :: r) w sz mc ms Post :=
  zp_pure hi (by simp only [zpure]; rw [if_pos hne]) kk
theorem zr_lrem {x y : Int64} (hi : zlk (zqI q) pc = some .lrem) (hne : ¬ y = 0) (kk : zP d q (pc + 1) lv (.long (x - x / y * y) :: r) w sz mc ms Post) : zP d q pc lv (.long y :: .long x :: r) w sz mc ms Post :=
  zp_pure hi (by simp only [zpure]; rw [if_pos hne]) kk
theorem zr_ldiv {x y : Int64} (hi : zlk (zqI q) pc = some .ldiv) (hne : ¬ y = 0) (kk : zP d q (pc + 1) lv (.long (x / y) :: r) w sz mc ms Post) : zP d q pc lv (.long y :: .long x :: r) w sz mc ms Post :=
  zp_pure hi (by simp only [zpure]; rw [if_pos hne]) kk
theorem zr_retB {v : Int32} (hi : zlk (zqI q) pc = some .ireturn) (hr : zqR q = some .boolean) (hv : v = 0 ∨ v = 1) (k : Post (some (some (.int v))) w sz) : zP d q pc lv [.int v] w sz mc ms Post :=
  zp_ret hi rfl rfl (by simp only [zret, hr]; rw [if_pos hv]) k
theorem zr_retI {v : Int32} (hi : zlk (zqI q) pc = some .ireturn) (hr : zqR q = some .int) (k : Post (some (some (.int v))) w sz) : zP d q pc lv [.int v] w sz mc ms Post :=
  zp_ret hi rfl rfl (by simp only [zret, hr]) k
theorem zr_retV (hi : zlk (zqI q) pc = some .return_) (hr : zqR q = none) (k : Post (some none) w sz) : zP d q pc lv [] w sz mc ms Post :=
  zp_ret hi rfl rfl (by simp only [zret, hr]) k
theorem zr_retA {C : String} (hi : zlk (zqI q) pc = some .areturn) (hr : zqR q = some (.object C)) (k : Post (some (some (.ref a))) w sz) : zP d q pc lv [.ref a] w sz mc ms Post :=
  zp_ret hi rfl rfl (by simp only [zret, hr]) k
theorem zr_retN {C : String} (hi : zlk (zqI q) pc = some .areturn) (hr : zqR q = some (.object C)) (k : Post (some (some .null)) w sz) : zP d q pc lv [.null] w sz mc ms Post :=
  zp_ret hi rfl rfl (by simp only [zret, hr]) k
theorem zr_max {idx : Nat} {x y : Int32} (hi : zlk (zqI q) pc = some (.invokestatic idx)) (hk : zlk (zqK q) idx = some 1000) (hd : 1 ≤ d) (hs : zsum r ≤ 8) (kk : zP d q (pc + 3) lv (.int (if x < y then y else x) :: r) w sz mc ms Post) : zP d q pc lv (.int y :: .int x :: r) w sz mc ms Post :=
  zp_spec hi rfl rfl rfl rfl (by simp only [zspec, hk]; rw [if_pos ⟨hd, hs⟩]) kk
theorem zr_min {idx : Nat} {x y : Int32} (hi : zlk (zqI q) pc = some (.invokestatic idx)) (hk : zlk (zqK q) idx = some 1001) (hd : 1 ≤ d) (hs : zsum r ≤ 8) (kk : zP d q (pc + 3) lv (.int (if y < x then y else x) :: r) w sz mc ms Post) : zP d q pc lv (.int y :: .int x :: r) w sz mc ms Post :=
  zp_spec hi rfl rfl rfl rfl (by simp only [zspec, hk]; rw [if_pos ⟨hd, hs⟩]) kk
theorem zr_abs {idx : Nat} {x : Int32} (hi : zlk (zqI q) pc = some (.invokestatic idx)) (hk : zlk (zqK q) idx = some 1002) (hd : 1 ≤ d) (hs : zsum r ≤ 8) (kk : zP d q (pc + 3) lv (.int (if 0 ≤ x then x else 0 - x) :: r) w sz mc ms Post) : zP d q pc lv (.int x :: r) w sz mc ms Post :=
  zp_spec hi rfl rfl rfl rfl (by simp only [zspec, hk]; rw [if_pos ⟨hd, hs⟩]) kk
/-- calls of methods that return, make nothing, throw nothing -/
theorem zr_callV {idx j k : Nat} {q2 : zQ} {b : Nat} {fs As rest : List Value} {φ : Option Value → zM → Prop} (hi : zlk (zqI q) pc = some (.invokevirtual idx)) (hk : zlk (zqK q) idx = some j) (hj : zMe j = some q2) (hs : zqS q2 = false) (hm : zqM q2 = (0, 0)) (hn : zqN q2 ≤ st.length) (hd : st.drop (zqN q2) = .ref b :: rest) (hA : .ref b :: (st.take (zqN q2)).reverse = As)
    (hw : w b = some (.inl (zqC q2, fs))) (hsum : zsum rest ≤ 8) (hg : (lg_sl As).length ≤ zqL q2) (hc : zCon k q2 As w φ) (hkd : k ≤ d) (kk : ∀ v w2, φ v w2 → zP (d + 1) q (pc + 3) lv (v.toList ++ rest) w2 sz mc ms Post) : zP (d + 1) q pc lv st w sz mc ms Post := by
  subst hA
  refine zp_call (q2 := q2) hi rfl rfl rfl rfl (fun _ => rfl) (by simp only [zinv, hk, hj]; rw [if_pos ⟨hs, hn⟩, hd]; simp only [hw, if_true]) (by rw [hm]; exact Nat.zero_le _) (by rw [hm]; exact Nat.zero_le _) hsum hg (by rw [hm]; have := hc d sz hkd; exact this) (fun r w2 z hp => ?_) (fun w2 z hp => ?_)
  · obtain ⟨rfl, v, hv, hφ⟩ := hp
    cases hv
    have := kk r w2 hφ
    rw [hm]
    exact this
  · obtain ⟨-, v, hv, -⟩ := hp
    cases hv
theorem zr_callS {idx j k : Nat} {q2 : zQ} {As rest : List Value} {φ : Option Value → zM → Prop} (hi : zlk (zqI q) pc = some (.invokestatic idx)) (hk : zlk (zqK q) idx = some j) (h1000 : j < 1000) (hj : zMe j = some q2) (hs : zqS q2 = true) (hm : zqM q2 = (0, 0)) (hn : zqN q2 ≤ st.length) (hd : st.drop (zqN q2) = rest) (hA : (st.take (zqN q2)).reverse = As)
    (hsum : zsum rest ≤ 8) (hg : (lg_sl As).length ≤ zqL q2) (hc : zCon k q2 As w φ) (hkd : k ≤ d) (kk : ∀ v w2, φ v w2 → zP (d + 1) q (pc + 3) lv (v.toList ++ rest) w2 sz mc ms Post) : zP (d + 1) q pc lv st w sz mc ms Post := by
  subst hA
  subst hd
  refine zp_call (q2 := q2) hi rfl rfl rfl rfl (fun _ => ?_) (by simp only [zinv, hk, hj]; rw [if_pos ⟨hs, hn⟩]) (by rw [hm]; exact Nat.zero_le _) (by rw [hm]; exact Nat.zero_le _) hsum hg (by rw [hm]; have := hc d sz hkd; exact this) (fun r w2 z hp => ?_) (fun w2 z hp => ?_)
  · simp only [zspec, hk]
    split
    · next h => cases h; exact absurd h1000 (by decide)
    · next h => cases h; exact absurd h1000 (by decide)
    · next h => cases h; exact absurd h1000 (by decide)
    · next h => cases h; exact absurd h1000 (by decide)
    · rfl
  · obtain ⟨rfl, v, hv, hφ⟩ := hp
    cases hv
    have := kk r w2 hφ
    rw [hm]
    exact this
  · obtain ⟨-, v, hv, -⟩ := hp
    cases hv
end ZR
