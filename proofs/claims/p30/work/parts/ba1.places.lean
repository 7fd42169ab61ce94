/-! the places that the object holds: one set, the others stay-/
theorem zsv_s {r : Nat → Value} {k : Nat} {v : Value} : zsv r k v k = v := if_pos rfl
theorem zsv_n {r : Nat → Value} {k j : Nat} {v : Value} (h : j ≠ k) : zsv r k v j = r j := if_neg h
theorem zMo_sv39 (m : Nat) (g : Nat → Int32) (r : Nat → Value) (v : Value) : (zMo m g r).set 39 v = zMo m g (zsv r 39 v) := rfl
theorem zMo_sv40 (m : Nat) (g : Nat → Int32) (r : Nat → Value) (v : Value) : (zMo m g r).set 40 v = zMo m g (zsv r 40 v) := rfl
theorem zMo_sv41 (m : Nat) (g : Nat → Int32) (r : Nat → Value) (v : Value) : (zMo m g r).set 41 v = zMo m g (zsv r 41 v) := rfl
theorem zMo_sv42 (m : Nat) (g : Nat → Int32) (r : Nat → Value) (v : Value) : (zMo m g r).set 42 v = zMo m g (zsv r 42 v) := rfl
theorem zMo_sv43 (m : Nat) (g : Nat → Int32) (r : Nat → Value) (v : Value) : (zMo m g r).set 43 v = zMo m g (zsv r 43 v) := rfl
