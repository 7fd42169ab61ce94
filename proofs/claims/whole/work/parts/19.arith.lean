/-! whole numbers of the machine as integers, for omega -/
theorem zrng (x : Int32) : -2147483648 ≤ x.toInt ∧ x.toInt ≤ 2147483647 := ⟨Int32.le_toInt x, Int32.toInt_le x⟩
theorem zrngL (x : Int64) : -9223372036854775808 ≤ x.toInt ∧ x.toInt ≤ 9223372036854775807 := ⟨Int64.le_toInt x, Int64.toInt_le x⟩
theorem zbm (a : Int) : a.bmod (2 ^ 32) = (a + 2147483648) % 4294967296 - 2147483648 := by
  rw [Int.bmod_def]
  split <;> omega
theorem zbmL (a : Int) : a.bmod (2 ^ 64) = (a + 9223372036854775808) % 18446744073709551616 - 9223372036854775808 := by
  rw [Int.bmod_def]
  split <;> omega
theorem zaddM (x y : Int32) : (x + y).toInt = (x.toInt + y.toInt + 2147483648) % 4294967296 - 2147483648 := by rw [Int32.toInt_add, zbm]
theorem zsubM (x y : Int32) : (x - y).toInt = (x.toInt - y.toInt + 2147483648) % 4294967296 - 2147483648 := by rw [Int32.toInt_sub, zbm]
theorem zmulM (x y : Int32) : (x * y).toInt = (x.toInt * y.toInt + 2147483648) % 4294967296 - 2147483648 := by rw [Int32.toInt_mul, zbm]
theorem znegM (x : Int32) : (-x).toInt = (-x.toInt + 2147483648) % 4294967296 - 2147483648 := by rw [Int32.toInt_neg, zbm]
theorem zadd (x y : Int32) (h1 : -2147483648 ≤ x.toInt + y.toInt) (h2 : x.toInt + y.toInt ≤ 2147483647) : (x + y).toInt = x.toInt + y.toInt := by rw [zaddM]; omega
theorem zsub (x y : Int32) (h1 : -2147483648 ≤ x.toInt - y.toInt) (h2 : x.toInt - y.toInt ≤ 2147483647) : (x - y).toInt = x.toInt - y.toInt := by rw [zsubM]; omega
theorem zmul (x y : Int32) (h1 : -2147483648 ≤ x.toInt * y.toInt) (h2 : x.toInt * y.toInt ≤ 2147483647) : (x * y).toInt = x.toInt * y.toInt := by rw [zmulM]; omega
theorem zltI {x y : Int32} (h : x < y) : x.toInt < y.toInt := Int32.lt_iff_toInt_lt.mp h
theorem zleI {x y : Int32} (h : x ≤ y) : x.toInt ≤ y.toInt := Int32.le_iff_toInt_le.mp h
theorem znltI {x y : Int32} (h : ¬ x < y) : y.toInt ≤ x.toInt := Int.not_lt.mp fun q => h (Int32.lt_iff_toInt_lt.mpr q)
theorem znleI {x y : Int32} (h : ¬ x ≤ y) : y.toInt < x.toInt := Int.not_le.mp fun q => h (Int32.le_iff_toInt_le.mpr q)
theorem zeqI {x y : Int32} (h : x = y) : x.toInt = y.toInt := congrArg Int32.toInt h
theorem zneI {x y : Int32} (h : ¬ x = y) : ¬ x.toInt = y.toInt := fun q => h (Int32.toInt_inj.mp q)
theorem zin {x : Int32} {n : Nat} (h0 : 0 ≤ x.toInt) (h1 : x.toInt < n) : vp_in x n := vp_in_iff.mpr ⟨h0, h1⟩
theorem znat {x : Int32} (h0 : 0 ≤ x.toInt) : (x.toNatClampNeg : Int) = x.toInt := by
  show ((x.toInt.toNat : Nat) : Int) = x.toInt
  omega
theorem zfitB {x : Int32} (h : x = 0 ∨ x = 1) : zfit .boolean (.int x) = true := by
  rcases h with h | h <;> subst h <;> rfl
theorem zt_lit : (5 : Int32).toInt = 5 := by decide
theorem zt_seg (x y : Int32) (q : zQ) : zps 5 [(0, .iload_n 1), (1, .iconst 5), (2, .iadd), (3, .istore_n 2), (4, .iinc 2 (-3))] (0, [(1, .int x)], []) = some (7, [(2, .int (x + 5 + (-3))), (1, .int x)], []) := rfl
theorem zt_seg2 (x y : Int32) (q : zQ) : zpure (.ifCond .lt 18) 4 5 [(1, .int x)] [.int x] = some (if x < 0 then 22 else 7, [(1, .int x)], []) := rfl
theorem zt_om (x y t : Int32) (h1 : ¬ x < 0) (h2 : ¬ 131072 - t < x) (h3 : t.toInt ≤ 131072) (h4 : 2048 ≤ t.toInt) : (t + x).toInt ≤ 131072 := by
  have f1 := znltI h1
  have f2 := znltI h2
  have e1 := zaddM t x
  have e2 := zsubM 131072 t
  have l1 : (131072 : Int32).toInt = 131072 := by decide
  have l2 : (0 : Int32).toInt = 0 := by decide
  have r1 := zrng x
  omega
