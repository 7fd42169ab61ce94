/-! turned round: what lies behind the end -/
theorem zbTn_end {q : zA2} (j : Nat) (h : zrw q = 0 ∨ zdn q < j) : (zbTn q).1 j = zaZ := by
  rcases h with h | h
  · refine za_ext fun i => ?_
    rw [zbTn_c, zrw_dg q i (by omega), zaZ_c, zaZ_c]
  · exact zbOf_n (by omega)
