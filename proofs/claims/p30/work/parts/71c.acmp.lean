/-! two places alike or not -/
section ZAC
variable {d : Nat} {q : zQ} {pc : Nat} {lv : zL} {r : List Value} {w : zM} {sz mc ms : Nat} {Post : Option (Option Value) → zM → Nat → Prop} {x y : Nat}
theorem zr_acEt {off : Int} {t : Nat} (hi : zlk (zqI q) pc = some (.if_acmp .eq off)) (ho : ztgok pc off = true) (ht : ztg pc off = t) (h : x = y) (kk : zP d q t lv r w sz mc ms Post) : zP d q pc lv (.ref y :: .ref x :: r) w sz mc ms Post :=
  zp_heap hi rfl (by simp only [zheap, ho, cond_true]; rw [if_pos h, ht]) kk
theorem zr_acEf {off : Int} (hi : zlk (zqI q) pc = some (.if_acmp .eq off)) (ho : ztgok pc off = true) (h : ¬ x = y) (kk : zP d q (pc + 3) lv r w sz mc ms Post) : zP d q pc lv (.ref y :: .ref x :: r) w sz mc ms Post :=
  zp_heap hi rfl (by simp only [zheap, ho, cond_true]; rw [if_neg h]) kk
theorem zr_acNt {off : Int} {t : Nat} (hi : zlk (zqI q) pc = some (.if_acmp .ne off)) (ho : ztgok pc off = true) (ht : ztg pc off = t) (h : ¬ x = y) (kk : zP d q t lv r w sz mc ms Post) : zP d q pc lv (.ref y :: .ref x :: r) w sz mc ms Post :=
  zp_heap hi rfl (by simp only [zheap, ho, cond_true]; rw [if_pos h, ht]) kk
theorem zr_acNf {off : Int} (hi : zlk (zqI q) pc = some (.if_acmp .ne off)) (ho : ztgok pc off = true) (h : x = y) (kk : zP d q (pc + 3) lv r w sz mc ms Post) : zP d q pc lv (.ref y :: .ref x :: r) w sz mc ms Post :=
  zp_heap hi rfl (by simp only [zheap, ho, cond_true]; rw [if_neg (fun k => k h)]) kk
end ZAC
