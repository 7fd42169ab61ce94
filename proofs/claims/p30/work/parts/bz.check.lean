theorem zx_X16_check_0 {m x : Nat} (h0 : x < m + 0 ∨ m + 0 + 8322 ≤ x) : x < m ∨ m + 1 ≤ x := by omega
theorem zx_X16_check_1 {m x : Nat} (h0 : x < m + 0 ∨ m + 0 + 8322 ≤ x) : x < m + 191 ∨ m + 191 + 1 ≤ x := by omega
theorem zx_X16_check_2 {m x : Nat} (h0 : x < m + 0 ∨ m + 0 + 8322 ≤ x) : x < m + 192 ∨ m + 192 + 1 ≤ x := by omega
theorem zx_X16_check_3 {m x : Nat} (h0 : x < m + 0 ∨ m + 0 + 8322 ≤ x) : x < m + 96 ∨ m + 96 + 4 ≤ x := by omega
theorem zx_X16_check_4 {m x : Nat} (h0 : x < m + 0 ∨ m + 0 + 8322 ≤ x) : x < m + 276 ∨ m + 276 + 320 ≤ x := by omega
theorem zx_X16_check_5 {m x : Nat} (h0 : x < m + 0 ∨ m + 0 + 8322 ≤ x) : x < m + 596 ∨ m + 596 + 5720 ≤ x := by omega
theorem zx_X16_check_6 {m x : Nat} (h0 : x < m + 0 ∨ m + 0 + 8322 ≤ x) : x < m + 3 ∨ m + 3 + 1 ≤ x := by omega
theorem zx_X16_check_7 {m x : Nat} (h0 : x < m + 0 ∨ m + 0 + 8322 ≤ x) : x < m + 5 ∨ m + 5 + 64 ≤ x := by omega
theorem zx_X16_check_8 {m x : Nat} (h0 : x < m + 0 ∨ m + 0 + 8322 ≤ x) : x ≠ m := by omega
theorem zx_X16_check_9 {m x : Nat} (h0 : m + 7486 ≤ x) (h1 : x < m + 7486 + 108) : x < m ∨ m + 1 ≤ x := by omega
theorem zx_X16_check_10 {m x : Nat} (h0 : m + 7486 ≤ x) (h1 : x < m + 7486 + 108) : x < m + 191 ∨ m + 191 + 1 ≤ x := by omega
theorem zx_X16_check_11 {m x : Nat} (h0 : m + 7486 ≤ x) (h1 : x < m + 7486 + 108) : x < m + 192 ∨ m + 192 + 1 ≤ x := by omega
theorem zx_X16_check_12 {m x : Nat} (h0 : m + 7486 ≤ x) (h1 : x < m + 7486 + 108) : x < m + 96 ∨ m + 96 + 4 ≤ x := by omega
theorem zx_X16_check_13 {m x : Nat} (h0 : m + 7486 ≤ x) (h1 : x < m + 7486 + 108) : x < m + 276 ∨ m + 276 + 320 ≤ x := by omega
theorem zx_X16_check_14 {m x : Nat} (h0 : m + 7486 ≤ x) (h1 : x < m + 7486 + 108) : x < m + 596 ∨ m + 596 + 5720 ≤ x := by omega
theorem zx_X16_check_15 {m x : Nat} (h0 : m + 7486 ≤ x) (h1 : x < m + 7486 + 108) : x < m + 3 ∨ m + 3 + 1 ≤ x := by omega
theorem zx_X16_check_16 {m x : Nat} (h0 : m + 7486 ≤ x) (h1 : x < m + 7486 + 108) : x < m + 5 ∨ m + 5 + 64 ≤ x := by omega
theorem zx_X16_check_17 {m x : Nat} (h0 : m + 7486 ≤ x) (h1 : x < m + 7486 + 108) : x ≠ m := by omega
theorem zx_X16_check_18 {m x : Nat} (h0 : m + 83 ≤ x) (h1 : x < m + 83 + 9) : x < m ∨ m + 1 ≤ x := by omega
theorem zx_X16_check_19 {m x : Nat} (h0 : m + 83 ≤ x) (h1 : x < m + 83 + 9) : x < m + 191 ∨ m + 191 + 1 ≤ x := by omega
theorem zx_X16_check_20 {m x : Nat} (h0 : m + 83 ≤ x) (h1 : x < m + 83 + 9) : x < m + 192 ∨ m + 192 + 1 ≤ x := by omega
theorem zx_X16_check_21 {m x : Nat} (h0 : m + 83 ≤ x) (h1 : x < m + 83 + 9) : x < m + 96 ∨ m + 96 + 4 ≤ x := by omega
theorem zx_X16_check_22 {m x : Nat} (h0 : m + 83 ≤ x) (h1 : x < m + 83 + 9) : x < m + 276 ∨ m + 276 + 320 ≤ x := by omega
theorem zx_X16_check_23 {m x : Nat} (h0 : m + 83 ≤ x) (h1 : x < m + 83 + 9) : x < m + 596 ∨ m + 596 + 5720 ≤ x := by omega
theorem zx_X16_check_24 {m x : Nat} (h0 : m + 83 ≤ x) (h1 : x < m + 83 + 9) : x < m + 3 ∨ m + 3 + 1 ≤ x := by omega
theorem zx_X16_check_25 {m x : Nat} (h0 : m + 83 ≤ x) (h1 : x < m + 83 + 9) : x < m + 5 ∨ m + 5 + 64 ≤ x := by omega
theorem zx_X16_check_26 {m x : Nat} (h0 : m + 83 ≤ x) (h1 : x < m + 83 + 9) : x ≠ m := by omega
theorem zx_X16_check_27 {m x : Nat} (h0 : m + 6316 ≤ x) (h1 : x < m + 6316 + 1170) : x < m ∨ m + 1 ≤ x := by omega
theorem zx_X16_check_28 {m x : Nat} (h0 : m + 6316 ≤ x) (h1 : x < m + 6316 + 1170) : x < m + 191 ∨ m + 191 + 1 ≤ x := by omega
theorem zx_X16_check_29 {m x : Nat} (h0 : m + 6316 ≤ x) (h1 : x < m + 6316 + 1170) : x < m + 192 ∨ m + 192 + 1 ≤ x := by omega
theorem zx_X16_check_30 {m x : Nat} (h0 : m + 6316 ≤ x) (h1 : x < m + 6316 + 1170) : x < m + 96 ∨ m + 96 + 4 ≤ x := by omega
theorem zx_X16_check_31 {m x : Nat} (h0 : m + 6316 ≤ x) (h1 : x < m + 6316 + 1170) : x < m + 276 ∨ m + 276 + 320 ≤ x := by omega
theorem zx_X16_check_32 {m x : Nat} (h0 : m + 6316 ≤ x) (h1 : x < m + 6316 + 1170) : x < m + 596 ∨ m + 596 + 5720 ≤ x := by omega
theorem zx_X16_check_33 {m x : Nat} (h0 : m + 6316 ≤ x) (h1 : x < m + 6316 + 1170) : x < m + 3 ∨ m + 3 + 1 ≤ x := by omega
theorem zx_X16_check_34 {m x : Nat} (h0 : m + 6316 ≤ x) (h1 : x < m + 6316 + 1170) : x < m + 5 ∨ m + 5 + 64 ≤ x := by omega
theorem zx_X16_check_35 {m x : Nat} (h0 : m + 6316 ≤ x) (h1 : x < m + 6316 + 1170) : x ≠ m := by omega
theorem zx_X16_check_36 {m x : Nat} (h0 : m + 92 ≤ x) (h1 : x < m + 92 + 1) : x < m ∨ m + 1 ≤ x := by omega
theorem zx_X16_check_37 {m x : Nat} (h0 : m + 92 ≤ x) (h1 : x < m + 92 + 1) : x < m + 191 ∨ m + 191 + 1 ≤ x := by omega
theorem zx_X16_check_38 {m x : Nat} (h0 : m + 92 ≤ x) (h1 : x < m + 92 + 1) : x < m + 192 ∨ m + 192 + 1 ≤ x := by omega
theorem zx_X16_check_39 {m x : Nat} (h0 : m + 92 ≤ x) (h1 : x < m + 92 + 1) : x < m + 96 ∨ m + 96 + 4 ≤ x := by omega
theorem zx_X16_check_40 {m x : Nat} (h0 : m + 92 ≤ x) (h1 : x < m + 92 + 1) : x < m + 276 ∨ m + 276 + 320 ≤ x := by omega
theorem zx_X16_check_41 {m x : Nat} (h0 : m + 92 ≤ x) (h1 : x < m + 92 + 1) : x < m + 596 ∨ m + 596 + 5720 ≤ x := by omega
theorem zx_X16_check_42 {m x : Nat} (h0 : m + 92 ≤ x) (h1 : x < m + 92 + 1) : x < m + 3 ∨ m + 3 + 1 ≤ x := by omega
theorem zx_X16_check_43 {m x : Nat} (h0 : m + 92 ≤ x) (h1 : x < m + 92 + 1) : x < m + 5 ∨ m + 5 + 64 ≤ x := by omega
theorem zx_X16_check_44 {m x : Nat} (h0 : m + 92 ≤ x) (h1 : x < m + 92 + 1) : x ≠ m := by omega
theorem zx_X16_check_45 {m x : Nat} (h0 : m + 93 ≤ x) (h1 : x < m + 93 + 1) : x < m ∨ m + 1 ≤ x := by omega
theorem zx_X16_check_46 {m x : Nat} (h0 : m + 93 ≤ x) (h1 : x < m + 93 + 1) : x < m + 191 ∨ m + 191 + 1 ≤ x := by omega
theorem zx_X16_check_47 {m x : Nat} (h0 : m + 93 ≤ x) (h1 : x < m + 93 + 1) : x < m + 192 ∨ m + 192 + 1 ≤ x := by omega
theorem zx_X16_check_48 {m x : Nat} (h0 : m + 93 ≤ x) (h1 : x < m + 93 + 1) : x < m + 96 ∨ m + 96 + 4 ≤ x := by omega
theorem zx_X16_check_49 {m x : Nat} (h0 : m + 93 ≤ x) (h1 : x < m + 93 + 1) : x < m + 276 ∨ m + 276 + 320 ≤ x := by omega
theorem zx_X16_check_50 {m x : Nat} (h0 : m + 93 ≤ x) (h1 : x < m + 93 + 1) : x < m + 596 ∨ m + 596 + 5720 ≤ x := by omega
theorem zx_X16_check_51 {m x : Nat} (h0 : m + 93 ≤ x) (h1 : x < m + 93 + 1) : x < m + 3 ∨ m + 3 + 1 ≤ x := by omega
theorem zx_X16_check_52 {m x : Nat} (h0 : m + 93 ≤ x) (h1 : x < m + 93 + 1) : x < m + 5 ∨ m + 5 + 64 ≤ x := by omega
theorem zx_X16_check_53 {m x : Nat} (h0 : m + 93 ≤ x) (h1 : x < m + 93 + 1) : x ≠ m := by omega
theorem zx_X16_check_54 {m x : Nat} (h0 : m + 100 ≤ x) (h1 : x < m + 100 + 49) : x < m ∨ m + 1 ≤ x := by omega
theorem zx_X16_check_55 {m x : Nat} (h0 : m + 100 ≤ x) (h1 : x < m + 100 + 49) : x < m + 191 ∨ m + 191 + 1 ≤ x := by omega
theorem zx_X16_check_56 {m x : Nat} (h0 : m + 100 ≤ x) (h1 : x < m + 100 + 49) : x < m + 192 ∨ m + 192 + 1 ≤ x := by omega
theorem zx_X16_check_57 {m x : Nat} (h0 : m + 100 ≤ x) (h1 : x < m + 100 + 49) : x < m + 96 ∨ m + 96 + 4 ≤ x := by omega
theorem zx_X16_check_58 {m x : Nat} (h0 : m + 100 ≤ x) (h1 : x < m + 100 + 49) : x < m + 276 ∨ m + 276 + 320 ≤ x := by omega
theorem zx_X16_check_59 {m x : Nat} (h0 : m + 100 ≤ x) (h1 : x < m + 100 + 49) : x < m + 596 ∨ m + 596 + 5720 ≤ x := by omega
theorem zx_X16_check_60 {m x : Nat} (h0 : m + 100 ≤ x) (h1 : x < m + 100 + 49) : x < m + 3 ∨ m + 3 + 1 ≤ x := by omega
theorem zx_X16_check_61 {m x : Nat} (h0 : m + 100 ≤ x) (h1 : x < m + 100 + 49) : x < m + 5 ∨ m + 5 + 64 ≤ x := by omega
theorem zx_X16_check_62 {m x : Nat} (h0 : m + 100 ≤ x) (h1 : x < m + 100 + 49) : x ≠ m := by omega
theorem zx_X16_check_63 {m x : Nat} (h0 : m + 212 ≤ x) (h1 : x < m + 212 + 61) : x < m ∨ m + 1 ≤ x := by omega
theorem zx_X16_check_64 {m x : Nat} (h0 : m + 212 ≤ x) (h1 : x < m + 212 + 61) : x < m + 191 ∨ m + 191 + 1 ≤ x := by omega
theorem zx_X16_check_65 {m x : Nat} (h0 : m + 212 ≤ x) (h1 : x < m + 212 + 61) : x < m + 192 ∨ m + 192 + 1 ≤ x := by omega
theorem zx_X16_check_66 {m x : Nat} (h0 : m + 212 ≤ x) (h1 : x < m + 212 + 61) : x < m + 96 ∨ m + 96 + 4 ≤ x := by omega
theorem zx_X16_check_67 {m x : Nat} (h0 : m + 212 ≤ x) (h1 : x < m + 212 + 61) : x < m + 276 ∨ m + 276 + 320 ≤ x := by omega
theorem zx_X16_check_68 {m x : Nat} (h0 : m + 212 ≤ x) (h1 : x < m + 212 + 61) : x < m + 596 ∨ m + 596 + 5720 ≤ x := by omega
theorem zx_X16_check_69 {m x : Nat} (h0 : m + 212 ≤ x) (h1 : x < m + 212 + 61) : x < m + 3 ∨ m + 3 + 1 ≤ x := by omega
theorem zx_X16_check_70 {m x : Nat} (h0 : m + 212 ≤ x) (h1 : x < m + 212 + 61) : x < m + 5 ∨ m + 5 + 64 ≤ x := by omega
theorem zx_X16_check_71 {m x : Nat} (h0 : m + 212 ≤ x) (h1 : x < m + 212 + 61) : x ≠ m := by omega
theorem zx_X16_check_72 {m x : Nat} (h0 : m + 149 ≤ x) (h1 : x < m + 149 + 27) : x < m ∨ m + 1 ≤ x := by omega
theorem zx_X16_check_73 {m x : Nat} (h0 : m + 149 ≤ x) (h1 : x < m + 149 + 27) : x < m + 191 ∨ m + 191 + 1 ≤ x := by omega
theorem zx_X16_check_74 {m x : Nat} (h0 : m + 149 ≤ x) (h1 : x < m + 149 + 27) : x < m + 192 ∨ m + 192 + 1 ≤ x := by omega
theorem zx_X16_check_75 {m x : Nat} (h0 : m + 149 ≤ x) (h1 : x < m + 149 + 27) : x < m + 96 ∨ m + 96 + 4 ≤ x := by omega
theorem zx_X16_check_76 {m x : Nat} (h0 : m + 149 ≤ x) (h1 : x < m + 149 + 27) : x < m + 276 ∨ m + 276 + 320 ≤ x := by omega
theorem zx_X16_check_77 {m x : Nat} (h0 : m + 149 ≤ x) (h1 : x < m + 149 + 27) : x < m + 596 ∨ m + 596 + 5720 ≤ x := by omega
theorem zx_X16_check_78 {m x : Nat} (h0 : m + 149 ≤ x) (h1 : x < m + 149 + 27) : x < m + 3 ∨ m + 3 + 1 ≤ x := by omega
theorem zx_X16_check_79 {m x : Nat} (h0 : m + 149 ≤ x) (h1 : x < m + 149 + 27) : x < m + 5 ∨ m + 5 + 64 ≤ x := by omega
theorem zx_X16_check_80 {m x : Nat} (h0 : m + 149 ≤ x) (h1 : x < m + 149 + 27) : x ≠ m := by omega
theorem zx_X16_check_81 {m : Nat}  : (m + 94) < m ∨ m + 1 ≤ (m + 94) := by omega
theorem zx_X16_check_82 {m : Nat}  : (m + 94) < m + 191 ∨ m + 191 + 1 ≤ (m + 94) := by omega
theorem zx_X16_check_83 {m : Nat}  : (m + 94) < m + 192 ∨ m + 192 + 1 ≤ (m + 94) := by omega
theorem zx_X16_check_84 {m : Nat}  : (m + 94) < m + 96 ∨ m + 96 + 4 ≤ (m + 94) := by omega
theorem zx_X16_check_85 {m : Nat}  : (m + 94) < m + 276 ∨ m + 276 + 320 ≤ (m + 94) := by omega
theorem zx_X16_check_86 {m : Nat}  : (m + 94) < m + 596 ∨ m + 596 + 5720 ≤ (m + 94) := by omega
theorem zx_X16_check_87 {m : Nat}  : (m + 94) < m + 3 ∨ m + 3 + 1 ≤ (m + 94) := by omega
theorem zx_X16_check_88 {m : Nat}  : (m + 94) < m + 5 ∨ m + 5 + 64 ≤ (m + 94) := by omega
theorem zx_X16_check_89 {m : Nat}  : (m + 94) ≠ m := by omega
theorem zx_X16_check_90 {m : Nat}  : (m + 191) < m ∨ m + 1 ≤ (m + 191) := by omega
theorem zx_X16_check_91 {m : Nat}  : (m + 192) < m ∨ m + 1 ≤ (m + 192) := by omega
theorem zx_X16_check_92 {m : Nat}  : m ≠ m + 191 := by omega
theorem zx_X16_check_93 {m : Nat}  : (m + 192) ≠ m + 191 := by omega
theorem zx_X16_check_94 {m : Nat}  : m ≠ m + 192 := by omega
theorem zx_X16_check_95 {m : Nat}  : (m + 191) ≠ m + 192 := by omega
theorem zx_X16_check_96 {m x : Nat} (h0 : x < m + 191 ∨ m + 191 + 1 ≤ x) : x ≠ m + 191 := by omega
theorem zx_X16_check_97 {m x : Nat} (h0 : x < m + 192 ∨ m + 192 + 1 ≤ x) : x ≠ m + 192 := by omega
theorem zx_X16_check_98 {m x : Nat} (h0 : x < m + 0 ∨ m + 0 + 8322 ≤ x) : x ≠ m + 191 := by omega
theorem zx_X16_check_99 {m x : Nat} (h0 : x < m + 0 ∨ m + 0 + 8322 ≤ x) : x ≠ m + 192 := by omega
theorem zx_X16_check_100 {m x : Nat} (h0 : m + 7486 ≤ x) (h1 : x < m + 7486 + 108) : x ≠ m + 191 := by omega
theorem zx_X16_check_101 {m x : Nat} (h0 : m + 7486 ≤ x) (h1 : x < m + 7486 + 108) : x ≠ m + 192 := by omega
theorem zx_X16_check_102 {m x : Nat} (h0 : m + 83 ≤ x) (h1 : x < m + 83 + 9) : x ≠ m + 191 := by omega
theorem zx_X16_check_103 {m x : Nat} (h0 : m + 83 ≤ x) (h1 : x < m + 83 + 9) : x ≠ m + 192 := by omega
theorem zx_X16_check_104 {m x : Nat} (h0 : m + 6316 ≤ x) (h1 : x < m + 6316 + 1170) : x ≠ m + 191 := by omega
theorem zx_X16_check_105 {m x : Nat} (h0 : m + 6316 ≤ x) (h1 : x < m + 6316 + 1170) : x ≠ m + 192 := by omega
theorem zx_X16_check_106 {m x : Nat} (h0 : m + 92 ≤ x) (h1 : x < m + 92 + 1) : x ≠ m + 191 := by omega
theorem zx_X16_check_107 {m x : Nat} (h0 : m + 92 ≤ x) (h1 : x < m + 92 + 1) : x ≠ m + 192 := by omega
theorem zx_X16_check_108 {m x : Nat} (h0 : m + 93 ≤ x) (h1 : x < m + 93 + 1) : x ≠ m + 191 := by omega
theorem zx_X16_check_109 {m x : Nat} (h0 : m + 93 ≤ x) (h1 : x < m + 93 + 1) : x ≠ m + 192 := by omega
theorem zx_X16_check_110 {m x : Nat} (h0 : m + 100 ≤ x) (h1 : x < m + 100 + 49) : x ≠ m + 191 := by omega
theorem zx_X16_check_111 {m x : Nat} (h0 : m + 100 ≤ x) (h1 : x < m + 100 + 49) : x ≠ m + 192 := by omega
theorem zx_X16_check_112 {m x : Nat} (h0 : m + 212 ≤ x) (h1 : x < m + 212 + 61) : x ≠ m + 191 := by omega
theorem zx_X16_check_113 {m x : Nat} (h0 : m + 212 ≤ x) (h1 : x < m + 212 + 61) : x ≠ m + 192 := by omega
theorem zx_X16_check_114 {m x : Nat} (h0 : m + 149 ≤ x) (h1 : x < m + 149 + 27) : x ≠ m + 191 := by omega
theorem zx_X16_check_115 {m x : Nat} (h0 : m + 149 ≤ x) (h1 : x < m + 149 + 27) : x ≠ m + 192 := by omega
theorem zx_X16_check_116 {m : Nat}  : (m + 94) ≠ m + 191 := by omega
theorem zx_X16_check_117 {m : Nat}  : (m + 94) ≠ m + 192 := by omega
set_option maxHeartbeats 8000000 in
set_option maxRecDepth 100000 in
theorem c_X16_check {w : zM} {n9 : Int32} (m : Nat) (s9 : Int32) (s8 : Int32) (hI : zInv w m n9) : zCon 12 zq_X16_check [.ref m, .int s9, .int s8] w (fun v9 w9' => zSI w w9' ∧ (∀ x, (x < m + 0 ∨ m + 0 + 8322 ≤ x) → w9' x = w x) ∧ zInv w9' m n9 ∧ ∃ r9 : Int32, v9 = some (.int r9) ∧ True) := by
  intro d sz hd
  obtain ⟨d, rfl⟩ : ∃ d9, d = d9 + 1 := ⟨d - 1, by omega⟩
  generalize hPost : (fun (r9' : Option (Option Value)) (w9' : zM) (z9 : Nat) => z9 = sz ∧ ∃ v9, r9' = some v9 ∧ (zSI w w9' ∧ (∀ x, (x < m + 0 ∨ m + 0 + 8322 ≤ x) → w9' x = w x) ∧ zInv w9' m n9 ∧ ∃ r9 : Int32, v9 = some (.int r9) ∧ True)) = Post
  show zP (d + 1) zq_X16_check 0 [(0, .ref m), (1, .int s9), (2, .int s8)] [] w sz 0 0 Post
  have k1 := zrng s9
  have k2 := zrng s8
  obtain ⟨g, r, hm, hR_m, hSl0, hMd0, hPl0, ⟨ff, hAf0, hff⟩, hBo0, hBl0, hGa0, hGb0, hBd0, hI12, hI24, hI29, hI31, hIn⟩ := hI
  have k3 := zrng (g 12)
  have hz4 : ((g 12).toNatClampNeg : Int) = (g 12).toInt := znat (by first | omega | decide)
  have k5 := zrng (g 24)
  have hz6 : ((g 24).toNatClampNeg : Int) = (g 24).toInt := znat (by first | omega | decide)
  have k7 := zrng (g 29)
  have hz8 : ((g 29).toNatClampNeg : Int) = (g 29).toInt := znat (by first | omega | decide)
  have k9 := zrng (g 31)
  have hz10 : ((g 31).toNatClampNeg : Int) = (g 31).toInt := znat (by first | omega | decide)
  refine zp_seg (pc' := 1) (lv' := [(0, .ref m), (1, .int s9), (2, .int s8)]) (st' := [.int s9]) [(0, .iload_n 1)] (by decide +kernel) rfl ?_
  refine zr_callS (idx := 551) (j := 336) (by decide +kernel) (by decide +kernel) (by decide) (show zMe 336 = some zq_X16_isSlot from rfl) rfl rfl (Nat.le_of_ble_eq_true rfl) rfl rfl (Nat.le_of_ble_eq_true rfl) (Nat.le_of_ble_eq_true rfl) (c_X16_isSlot (w := w) s9 ) (by omega) (fun v1 w1 hp1 => ?_)
  obtain ⟨hpw1, r1, rfl, hrb1, hr1⟩ := hp1
  replace hpw1 := hpw1.symm
  subst hpw1
  have kr1 := zrng r1
  show zP _ _ _ _ [.int r1] _ _ _ _ _
  refine zp_if (i := .ifCond .eq 10) (c := r1 = 0) (t := 14) (e := 7) (lv' := [(0, .ref m), (1, .int s9), (2, .int s8)]) (st' := []) (by decide +kernel) rfl (fun cc4 => ?_) (fun cc4 => ?_)
  ·
    have f12 := zeqI cc4
    rw [show (0 : Int32).toInt = 0 from by decide] at f12
    refine zp_seg (pc' := 15) (lv' := [(0, .ref m), (1, .int s9), (2, .int s8)]) (st' := [.int (Int32.ofInt (-1))]) [(14, .iconst (-1))] (by decide +kernel) rfl ?_
    have hoffend : ∀ x, (x < m + 0 ∨ m + 0 + 8322 ≤ x) → w x = w x := fun x hx => rfl
    refine zr_retI (by decide +kernel) rfl ?_
    rw [← hPost]; exact ⟨rfl, _, rfl, zSI.rf, hoffend, ⟨_, _, hm, hR_m, hSl0, hMd0, hPl0, ⟨_, hAf0, hff⟩, hBo0, hBl0, hGa0, hGb0, hBd0, hI12, hI24, hI29, hI31, hIn⟩, _, rfl, trivial⟩
  ·
    have f15 := zneI cc4
    rw [show (0 : Int32).toInt = 0 from by decide] at f15
    refine zp_seg (pc' := 8) (lv' := [(0, .ref m), (1, .int s9), (2, .int s8)]) (st' := [.int s8]) [(7, .iload_n 2)] (by decide +kernel) rfl ?_
    refine zr_callS (idx := 551) (j := 336) (by decide +kernel) (by decide +kernel) (by decide) (show zMe 336 = some zq_X16_isSlot from rfl) rfl rfl (Nat.le_of_ble_eq_true rfl) rfl rfl (Nat.le_of_ble_eq_true rfl) (Nat.le_of_ble_eq_true rfl) (c_X16_isSlot (w := w) s8 ) (by omega) (fun v8 w8 hp8 => ?_)
    obtain ⟨hpw8, r8, rfl, hrb8, hr8⟩ := hp8
    replace hpw8 := hpw8.symm
    subst hpw8
    have kr8 := zrng r8
    show zP _ _ _ _ [.int r8] _ _ _ _ _
    refine zp_if (i := .ifCond .ne 5) (c := ¬ r8 = 0) (t := 16) (e := 14) (lv' := [(0, .ref m), (1, .int s9), (2, .int s8)]) (st' := []) (by decide +kernel) rfl (fun cc11 => ?_) (fun cc11 => ?_)
    ·
      have f16 := zneI cc11
      rw [show (0 : Int32).toInt = 0 from by decide] at f16
      have his1 := hr1 (hrb1.resolve_left cc4)
      have his2 := hr8 (hrb8.resolve_left cc11)
      refine zp_seg (pc' := 17) (lv' := [(0, .ref m), (1, .int s9), (2, .int s8)]) (st' := [.ref m]) [(16, .aload_n 0)] (by decide +kernel) rfl ?_
      refine zr_get (idx := 450) (k := 20) (v := .ref (m + 82)) (by decide +kernel) (by decide +kernel) hm rfl ?_
      refine zp_seg (pc' := 21) (lv' := [(0, .ref m), (1, .int s9), (2, .int s8)]) (st' := [.int s9, .ref (m + 82)]) [(20, .iload_n 1)] (by decide +kernel) rfl ?_
      have hb18 := hR_m.slots
      have hz19 : (s9.toNatClampNeg : Int) = s9.toInt := znat (by first | omega | decide)
      refine zr_aald (v := .ref (m + 7486 + 9 * s9.toNatClampNeg)) (by decide +kernel) hb18 (by decide) (zin (by first | omega | decide) (by first | omega | decide)) (zsl_at (by omega)) ?_
      refine zp_seg (pc' := 23) (lv' := [(3, .ref (m + 7486 + 9 * s9.toNatClampNeg)), (0, .ref m), (1, .int s9), (2, .int s8)]) (st' := []) [(22, .astore_n 3)] (by decide +kernel) rfl ?_
      obtain ⟨kS1, hkS1⟩ := hSl0 s9.toNatClampNeg (by omega)
      obtain ⟨g1, fn1, fd1, fa1, fb1, fc1, fe1, fr1, fu1, hT1, hAn1, hAd1, hAa1, hAb1, hAc1, hAe1, hAr1, hAu1, hK1⟩ := id hkS1
      obtain ⟨hK10, hKn1, hKd1, hKx1, hKm1, hKl1, hKr1, hKu1, hKk1⟩ := id hK1
      refine zp_seg (pc' := 24) (lv' := [(3, .ref (m + 7486 + 9 * s9.toNatClampNeg)), (0, .ref m), (1, .int s9), (2, .int s8)]) (st' := [.ref m]) [(23, .aload_n 0)] (by decide +kernel) rfl ?_
      refine zr_get (idx := 450) (k := 20) (v := .ref (m + 82)) (by decide +kernel) (by decide +kernel) hm rfl ?_
      refine zp_seg (pc' := 28) (lv' := [(3, .ref (m + 7486 + 9 * s9.toNatClampNeg)), (0, .ref m), (1, .int s9), (2, .int s8)]) (st' := [.int s8, .ref (m + 82)]) [(27, .iload_n 2)] (by decide +kernel) rfl ?_
      have hz20 : (s8.toNatClampNeg : Int) = s8.toInt := znat (by first | omega | decide)
      refine zr_aald (v := .ref (m + 7486 + 9 * s8.toNatClampNeg)) (by decide +kernel) hb18 (by decide) (zin (by first | omega | decide) (by first | omega | decide)) (zsl_at (by omega)) ?_
      refine zp_seg (pc' := 31) (lv' := [(4, .ref (m + 7486 + 9 * s8.toNatClampNeg)), (3, .ref (m + 7486 + 9 * s9.toNatClampNeg)), (0, .ref m), (1, .int s9), (2, .int s8)]) (st' := []) [(29, .astore 4)] (by decide +kernel) rfl ?_
      obtain ⟨kS2, hkS2⟩ := hSl0 s8.toNatClampNeg (by omega)
      obtain ⟨g2, fn2, fd2, fa2, fb2, fc2, fe2, fr2, fu2, hT2, hAn2, hAd2, hAa2, hAb2, hAc2, hAe2, hAr2, hAu2, hK2⟩ := id hkS2
      obtain ⟨hK20, hKn2, hKd2, hKx2, hKm2, hKl2, hKr2, hKu2, hKk2⟩ := id hK2
      refine zp_seg (pc' := 32) (lv' := [(4, .ref (m + 7486 + 9 * s8.toNatClampNeg)), (3, .ref (m + 7486 + 9 * s9.toNatClampNeg)), (0, .ref m), (1, .int s9), (2, .int s8)]) (st' := [.ref (m + 7486 + 9 * s9.toNatClampNeg)]) [(31, .aload_n 3)] (by decide +kernel) rfl ?_
      refine zr_get (idx := 202) (k := 0) (v := .int (g1 0)) (by decide +kernel) (by decide +kernel) hT1 rfl ?_
      refine zp_seg (pc' := 36) (lv' := [(4, .ref (m + 7486 + 9 * s8.toNatClampNeg)), (3, .ref (m + 7486 + 9 * s9.toNatClampNeg)), (0, .ref m), (1, .int s9), (2, .int s8)]) (st' := [.int 3, .int (g1 0)]) [(35, .iconst 3)] (by decide +kernel) rfl ?_
      refine zp_if (i := .if_icmp .ne 21) (c := ¬ (g1 0) = 3) (t := 57) (e := 39) (lv' := [(4, .ref (m + 7486 + 9 * s8.toNatClampNeg)), (3, .ref (m + 7486 + 9 * s9.toNatClampNeg)), (0, .ref m), (1, .int s9), (2, .int s8)]) (st' := []) (by decide +kernel) rfl (fun cc36 => ?_) (fun cc36 => ?_)
      ·
        have k21 := zrng (g1 0)
        have f23 := zneI cc36
        rw [show (3 : Int32).toInt = 3 from by decide] at f23
        refine zp_seg (pc' := 59) (lv' := [(4, .ref (m + 7486 + 9 * s8.toNatClampNeg)), (3, .ref (m + 7486 + 9 * s9.toNatClampNeg)), (0, .ref m), (1, .int s9), (2, .int s8)]) (st' := [.int (Int32.ofInt (-3))]) [(57, .bipush (-3))] (by decide +kernel) rfl ?_
        have hoffend : ∀ x, (x < m + 0 ∨ m + 0 + 8322 ≤ x) → w x = w x := fun x hx => rfl
        refine zr_retI (by decide +kernel) rfl ?_
        rw [← hPost]; exact ⟨rfl, _, rfl, zSI.rf, hoffend, ⟨_, _, hm, hR_m, hSl0, hMd0, hPl0, ⟨_, hAf0, hff⟩, hBo0, hBl0, hGa0, hGb0, hBd0, hI12, hI24, hI29, hI31, hIn⟩, _, rfl, trivial⟩
      ·
        replace cc36 := Classical.not_not.mp cc36
        have k25 := zrng (g1 0)
        have f27 := zeqI cc36
        rw [show (3 : Int32).toInt = 3 from by decide] at f27
        refine zp_seg (pc' := 41) (lv' := [(4, .ref (m + 7486 + 9 * s8.toNatClampNeg)), (3, .ref (m + 7486 + 9 * s9.toNatClampNeg)), (0, .ref m), (1, .int s9), (2, .int s8)]) (st' := [.ref (m + 7486 + 9 * s8.toNatClampNeg)]) [(39, .aload 4)] (by decide +kernel) rfl ?_
        refine zr_get (idx := 202) (k := 0) (v := .int (g2 0)) (by decide +kernel) (by decide +kernel) hT2 rfl ?_
        refine zp_seg (pc' := 45) (lv' := [(4, .ref (m + 7486 + 9 * s8.toNatClampNeg)), (3, .ref (m + 7486 + 9 * s9.toNatClampNeg)), (0, .ref m), (1, .int s9), (2, .int s8)]) (st' := [.int 1, .int (g2 0)]) [(44, .iconst 1)] (by decide +kernel) rfl ?_
        have hJ60 : ∀ (_ : True), (kS2 = 1 ∨ kS2 = 2) → zP (d + 1) zq_X16_check 60 [(0, .ref m), (3, .ref (m + 7486 + 9 * s9.toNatClampNeg)), (4, .ref (m + 7486 + 9 * s8.toNatClampNeg))] [] w sz 0 0 Post := by
          intro _ hkk9
          refine zp_seg (pc' := 62) (lv' := [(0, .ref m), (3, .ref (m + 7486 + 9 * s9.toNatClampNeg)), (4, .ref (m + 7486 + 9 * s8.toNatClampNeg))]) (st' := [.ref (m + 7486 + 9 * s8.toNatClampNeg)]) [(60, .aload 4)] (by decide +kernel) rfl ?_
          refine zr_callS (idx := 288) (j := 306) (by decide +kernel) (by decide +kernel) (by decide) (show zMe 306 = some zq_X16_isZero from rfl) rfl rfl (Nat.le_of_ble_eq_true rfl) rfl rfl (Nat.le_of_ble_eq_true rfl) (Nat.le_of_ble_eq_true rfl) (c_X16_isZero (w := w) (m + 7486 + 9 * s8.toNatClampNeg) hT2 hAn2 (by exact hKn2)) (by omega) (fun v62 w62 hp62 => ?_)
          obtain ⟨hpw62, r62, rfl, hrb62, hr62⟩ := hp62
          replace hpw62 := hpw62.symm
          subst hpw62
          have kr62 := zrng r62
          show zP _ _ _ _ [.int r62] _ _ _ _ _
          refine zp_if (i := .ifCond .eq 5) (c := r62 = 0) (t := 70) (e := 68) (lv' := [(0, .ref m), (3, .ref (m + 7486 + 9 * s9.toNatClampNeg)), (4, .ref (m + 7486 + 9 * s8.toNatClampNeg))]) (st' := []) (by decide +kernel) rfl (fun cc65 => ?_) (fun cc65 => ?_)
          ·
            have f28 := zeqI cc65
            rw [show (0 : Int32).toInt = 0 from by decide] at f28
            have hnn9 : 0 < zrw (zbT fn2) := hkk9.elim (fun e => hr62.2 cc65 (hK20.trans e)) (fun e => hKk2.2.2.1 e)
            have hk39 : kS1 = 3 := hK10.symm.trans cc36
            have hord9 := hKk1.2.2.2.2.1 hk39
            have k29 := zrng (g1 10)
            have hz30 : ((g1 10).toNatClampNeg : Int) = (g1 10).toInt := znat (by first | omega | decide)
            refine zp_seg (pc' := 71) (lv' := [(0, .ref m), (3, .ref (m + 7486 + 9 * s9.toNatClampNeg)), (4, .ref (m + 7486 + 9 * s8.toNatClampNeg))]) (st' := [.ref m]) [(70, .aload_n 0)] (by decide +kernel) rfl ?_
            refine zr_callV (idx := 555) (j := 337) (by decide +kernel) (by decide +kernel) (show zMe 337 = some zq_X16_begin from rfl) rfl rfl (Nat.le_of_ble_eq_true rfl) rfl rfl hm (Nat.le_of_ble_eq_true rfl) (Nat.le_of_ble_eq_true rfl) (c_X16_beginZ (w := w) m hm hR_m) (by omega) (fun v71 w71 hp71 => ?_)
            obtain ⟨Z9_71, hsi71, heq71, hp71_0, hp71_1, rfl⟩ := hp71
            have hM71 : w71 m = some (.inl (15, zMo m (zs (zs (zs g 1 Z9_71) 3 Z9_71) 16 Z9_71) r)) := hp71_0
            show zP _ _ _ _ [] _ _ _ _ _
            have k31 := zrng Z9_71
            have hz32 : (Z9_71.toNatClampNeg : Int) = Z9_71.toInt := znat (by first | omega | decide)
            have hgzZ9_71_0 : Z9_71.toNatClampNeg = 0 := by omega
            have k34 := zaddC Z9_71 1 (n := 1) (by decide) (by omega) (by omega)
            have hz35 : ((Z9_71 + 1).toNatClampNeg : Int) = (Z9_71 + 1).toInt := znat (by first | omega | decide)
            have hgzZ9_71_1 : (Z9_71 + 1).toNatClampNeg = 1 := by omega
            refine zp_seg (pc' := 84) (lv' := [(7, .int 0), (6, .int 0), (5, .int 24), (0, .ref m), (3, .ref (m + 7486 + 9 * s9.toNatClampNeg)), (4, .ref (m + 7486 + 9 * s8.toNatClampNeg))]) (st' := []) [(74, .bipush 24), (76, .istore 5), (78, .iconst 0), (79, .istore 6), (81, .iconst 0), (82, .istore 7)] (by decide +kernel) rfl ?_
            have hL84 : ∀ (mm84 : Nat) (wL84 : zM) (y5_84 : Int32) (y6_84 : Int32) (y7_84 : Int32) (xB : Int32) (xL : Int32) (xN : Int32) (fT : Nat → Option Nat) (fU : Nat → Option Nat), (zSI w71 wL84) → (∀ x, ((x < m ∨ m + 1 ≤ x) ∧ (x < m + 191 ∨ m + 191 + 1 ≤ x) ∧ (x < m + 192 ∨ m + 192 + 1 ≤ x) ∧ (x < m + 96 ∨ m + 96 + 4 ≤ x) ∧ (x < m + 276 ∨ m + 276 + 320 ≤ x) ∧ (x < m + 596 ∨ m + 596 + 5720 ≤ x) ∧ (x < m + 3 ∨ m + 3 + 1 ≤ x) ∧ (x < m + 5 ∨ m + 5 + 64 ≤ x)) ∧ x ≠ m → wL84 x = w71 x) → (0 ≤ y7_84.toInt) → (y7_84.toInt ≤ (g1 10).toInt + 1) → (0 ≤ y5_84.toInt) → (y5_84.toInt ≤ 24 + 30 * y7_84.toInt) → (0 ≤ y6_84.toInt) → (y6_84.toInt ≤ 30 * y7_84.toInt) → (wL84 m = some (.inl (15, zMo m (zs (zs (zs (zs (zs g 1 Z9_71) 3 xB) 16 Z9_71) 36 xL) 37 xN) r))) → (wL84 (m + 191) = some (.inr (5, 4, .inr fT))) → (wL84 (m + 192) = some (.inr (5, 4, .inr fU))) → (xB.toInt = 2 * y7_84.toInt) → (∀ t, t < y7_84.toNatClampNeg → fT t = some (m + 596 + 130 * Z9_71.toNatClampNeg + 260 * t) ∧ fU t = some (m + 596 + 130 * Z9_71.toNatClampNeg + 130 + 260 * t) ∧ (∃ P, zB wL84 (m + 596 + 130 * Z9_71.toNatClampNeg + 260 * t) P) ∧ ∃ P, zB wL84 (m + 596 + 130 * Z9_71.toNatClampNeg + 130 + 260 * t) P) → (20 - y7_84.toInt).toNat < mm84 → zP (d + 1) zq_X16_check 84 [(0, .ref m), (3, .ref (m + 7486 + 9 * s9.toNatClampNeg)), (4, .ref (m + 7486 + 9 * s8.toNatClampNeg)), (5, .int y5_84), (6, .int y6_84), (7, .int y7_84)] [] wL84 sz 0 0 Post := by
              intro mm84
              induction mm84 with
              | zero => intros; omega
              | succ mm84 ih84 =>
              intro wL84 y5_84 y6_84 y7_84 xB xL xN fT fU hsiL84 heqL84 hi84_0 hi84_1 hi84_2 hi84_3 hi84_4 hi84_5 hxM hVt hVu hxB9 hft9 hmu84
              have ky5_84 := zrng y5_84
              have ky6_84 := zrng y6_84
              have ky7_84 := zrng y7_84
              have hz36 : (y7_84.toNatClampNeg : Int) = y7_84.toInt := znat (by first | omega | decide)
              refine zp_seg (pc' := 87) (lv' := [(0, .ref m), (3, .ref (m + 7486 + 9 * s9.toNatClampNeg)), (4, .ref (m + 7486 + 9 * s8.toNatClampNeg)), (5, .int y5_84), (6, .int y6_84), (7, .int y7_84)]) (st' := [.ref (m + 7486 + 9 * s9.toNatClampNeg), .int y7_84]) [(84, .iload 7), (86, .aload_n 3)] (by decide +kernel) rfl ?_
              have hb37 : wL84 (m + 7486 + 9 * s9.toNatClampNeg) = some (.inl (13, zTo (m + 7486 + 9 * s9.toNatClampNeg) g1)) := ((heqL84 (m + 7486 + 9 * s9.toNatClampNeg) (by omega)).trans (heq71 (m + 7486 + 9 * s9.toNatClampNeg) (by omega))).trans hT1
              refine zr_get (idx := 234) (k := 10) (v := .int (g1 10)) (by decide +kernel) (by decide +kernel) hb37 rfl ?_
              refine zp_if (i := .if_icmp .gt 116) (c := (g1 10) < y7_84) (t := 206) (e := 93) (lv' := [(0, .ref m), (3, .ref (m + 7486 + 9 * s9.toNatClampNeg)), (4, .ref (m + 7486 + 9 * s8.toNatClampNeg)), (5, .int y5_84), (6, .int y6_84), (7, .int y7_84)]) (st' := []) (by decide +kernel) rfl (fun cc90 => ?_) (fun cc90 => ?_)
              ·
                have f38 := zltI cc90
                have k39 := zrng xB
                have hz40 : (xB.toNatClampNeg : Int) = xB.toInt := znat (by first | omega | decide)
                have k41 := zaddC xB 1 (n := 1) (by decide) (by omega) (by omega)
                have hz42 : ((xB + 1).toNatClampNeg : Int) = (xB + 1).toInt := znat (by first | omega | decide)
                have k43 := zaddC (xB + 1) 1 (n := 1) (by decide) (by omega) (by omega)
                have hz44 : ((xB + 1 + 1).toNatClampNeg : Int) = (xB + 1 + 1).toInt := znat (by first | omega | decide)
                have k45 := zaddC (xB + 1 + 1) 1 (n := 1) (by decide) (by omega) (by omega)
                have hz46 : ((xB + 1 + 1 + 1).toNatClampNeg : Int) = (xB + 1 + 1 + 1).toInt := znat (by first | omega | decide)
                have k47 := zaddC (xB + 1 + 1 + 1) 1 (n := 1) (by decide) (by omega) (by omega)
                have hz48 : ((xB + 1 + 1 + 1 + 1).toNatClampNeg : Int) = (xB + 1 + 1 + 1 + 1).toInt := znat (by first | omega | decide)
                refine zp_seg (pc' := 207) (lv' := [(0, .ref m), (3, .ref (m + 7486 + 9 * s9.toNatClampNeg)), (4, .ref (m + 7486 + 9 * s8.toNatClampNeg)), (5, .int y5_84), (6, .int y6_84), (7, .int y7_84)]) (st' := [.ref m]) [(206, .aload_n 0)] (by decide +kernel) rfl ?_
                have hb49 := hR_m.si (hsi71.tr hsiL84)
                refine zr_callV (idx := 140) (j := 274) (by decide +kernel) (by decide +kernel) (show zMe 274 = some zq_X16_newB from rfl) rfl rfl (Nat.le_of_ble_eq_true rfl) rfl rfl hxM (Nat.le_of_ble_eq_true rfl) (Nat.le_of_ble_eq_true rfl) (c_X16_newB (w := wL84) (g3 := xB) m hxM hb49 (by first | omega | decide | assumption | exact zr1_1 | exact zr1_0 | fail "num") rfl) (by omega) (fun v207 w207 hp207 => ?_)
                obtain ⟨hsi207, heq207, hp207_0, hp207_1, rfl⟩ := hp207
                have hM207 : w207 m = some (.inl (15, zMo m (zs (zs (zs (zs (zs g 1 Z9_71) 3 (xB + 1)) 16 Z9_71) 36 xL) 37 xN) r)) := hp207_0
                show zP _ _ _ _ [.ref (m + 596 + 130 * xB.toNatClampNeg)] _ _ _ _ _
                refine zp_seg (pc' := 213) (lv' := [(7, .ref (m + 596 + 130 * xB.toNatClampNeg)), (0, .ref m), (3, .ref (m + 7486 + 9 * s9.toNatClampNeg)), (4, .ref (m + 7486 + 9 * s8.toNatClampNeg)), (5, .int y5_84), (6, .int y6_84)]) (st' := [.ref m]) [(210, .astore 7), (212, .aload_n 0)] (by decide +kernel) rfl ?_
                have hb50 := hb49.si hsi207
                refine zr_callV (idx := 140) (j := 274) (by decide +kernel) (by decide +kernel) (show zMe 274 = some zq_X16_newB from rfl) rfl rfl (Nat.le_of_ble_eq_true rfl) rfl rfl hM207 (Nat.le_of_ble_eq_true rfl) (Nat.le_of_ble_eq_true rfl) (c_X16_newB (w := w207) (g3 := (xB + 1)) m hM207 hb50 (by first | omega | decide | assumption | exact zr1_1 | exact zr1_0 | fail "num") rfl) (by omega) (fun v213 w213 hp213 => ?_)
                obtain ⟨hsi213, heq213, hp213_0, hp213_1, rfl⟩ := hp213
                have hM213 : w213 m = some (.inl (15, zMo m (zs (zs (zs (zs (zs g 1 Z9_71) 3 (xB + 1 + 1)) 16 Z9_71) 36 xL) 37 xN) r)) := hp213_0
                show zP _ _ _ _ [.ref (m + 596 + 130 * (xB + 1).toNatClampNeg)] _ _ _ _ _
                refine zp_seg (pc' := 227) (lv' := [(8, .ref (m + 596 + 130 * (xB + 1).toNatClampNeg)), (7, .ref (m + 596 + 130 * xB.toNatClampNeg)), (0, .ref m), (3, .ref (m + 7486 + 9 * s9.toNatClampNeg)), (4, .ref (m + 7486 + 9 * s8.toNatClampNeg)), (5, .int y5_84), (6, .int y6_84)]) (st' := [.int 1, .int 0, .ref (m + 7486 + 9 * s8.toNatClampNeg), .ref (m + 596 + 130 * (xB + 1).toNatClampNeg), .ref (m + 596 + 130 * xB.toNatClampNeg), .ref m]) [(216, .astore 8), (218, .aload_n 0), (219, .aload 7), (221, .aload 8), (223, .aload 4), (225, .iconst 0), (226, .iconst 1)] (by decide +kernel) rfl ?_
                have hb51 := hb50.si hsi213
                have hb52 : zB w213 (m + 596 + 130 * xB.toNatClampNeg) zbZ := hp207_1.ag (fun x hx1 hx2 => (heq213 x (by omega)))
                have ho227_num := zB.o hb52
                have ho227_den := zB.o hp213_1
                have hb53 : zTi w213 (m + 7486 + 9 * s8.toNatClampNeg) kS2 := hkS2.ag (fun x hx1 hx2 => ((heq213 x (by omega)).trans ((heq207 x (by omega)).trans ((heqL84 x (by omega)).trans (heq71 x (by omega))))))
                have hb54 : w213 (m + 7486 + 9 * s8.toNatClampNeg + 1) = some (.inr (0, 325, .inl fn2)) := ((heq213 (m + 7486 + 9 * s8.toNatClampNeg + 1) (by omega)).trans ((heq207 (m + 7486 + 9 * s8.toNatClampNeg + 1) (by omega)).trans ((heqL84 (m + 7486 + 9 * s8.toNatClampNeg + 1) (by omega)).trans (heq71 (m + 7486 + 9 * s8.toNatClampNeg + 1) (by omega))))).trans hAn2
                refine zr_callV (idx := 633) (j := 361) (by decide +kernel) (by decide +kernel) (show zMe 361 = some zq_X16_quotient from rfl) rfl rfl (Nat.le_of_ble_eq_true rfl) rfl rfl hM213 (Nat.le_of_ble_eq_true rfl) (Nat.le_of_ble_eq_true rfl) (c_X16_quotient (w := w213) (g1 := Z9_71) (g3 := (xB + 1 + 1)) m (m + 596 + 130 * xB.toNatClampNeg) (m + 596 + 130 * (xB + 1).toNatClampNeg) (m + 7486 + 9 * s8.toNatClampNeg) 0 1 hM213 hb51 ho227_num ho227_den hb53 (by first | omega | decide | assumption | exact zr1_1 | exact zr1_0 | fail "num") (by first | omega | decide | assumption | exact zr1_1 | exact zr1_0 | fail "num") (by first | omega | decide | assumption | exact zr1_1 | exact zr1_0 | fail "num") (by first | omega | decide | assumption | exact zr1_1 | exact zr1_0 | fail "num") (by first | omega | decide | assumption | exact zr1_1 | exact zr1_0 | fail "num") (by first | omega | decide | assumption | exact zr1_1 | exact zr1_0 | fail "num") (by exact hkk9) (by exact ⟨_, hb54, hnn9⟩) (by decide) rfl rfl) (by omega) (fun v227 w227 hp227 => ?_)
                obtain ⟨L9_227, N9_227, P9_227, Q9_227, hsi227, heq227, hp227_0, hp227_1, hp227_2, hp227_3, r227, rfl, hrb227, hr227⟩ := hp227
                have hM227 : w227 m = some (.inl (15, zMo m (zs (zs (zs (zs (zs g 1 Z9_71) 3 (xB + 1 + 1)) 16 Z9_71) 36 L9_227) 37 N9_227) r)) := hp227_0
                have kr227 := zrng r227
                show zP _ _ _ _ [.int r227] _ _ _ _ _
                refine zp_if (i := .ifCond .ne 6) (c := ¬ r227 = 0) (t := 236) (e := 233) (lv' := [(8, .ref (m + 596 + 130 * (xB + 1).toNatClampNeg)), (7, .ref (m + 596 + 130 * xB.toNatClampNeg)), (0, .ref m), (3, .ref (m + 7486 + 9 * s9.toNatClampNeg)), (4, .ref (m + 7486 + 9 * s8.toNatClampNeg)), (5, .int y5_84), (6, .int y6_84)]) (st' := []) (by decide +kernel) rfl (fun cc230 => ?_) (fun cc230 => ?_)
                ·
                  have f55 := zneI cc230
                  rw [show (0 : Int32).toInt = 0 from by decide] at f55
                  have hqq9 := hr227 (hrb227.resolve_left cc230)
                  refine zp_seg (pc' := 237) (lv' := [(8, .ref (m + 596 + 130 * (xB + 1).toNatClampNeg)), (7, .ref (m + 596 + 130 * xB.toNatClampNeg)), (0, .ref m), (3, .ref (m + 7486 + 9 * s9.toNatClampNeg)), (4, .ref (m + 7486 + 9 * s8.toNatClampNeg)), (5, .int y5_84), (6, .int y6_84)]) (st' := [.ref m]) [(236, .aload_n 0)] (by decide +kernel) rfl ?_
                  have hb56 := hb51.si hsi227
                  refine zr_callV (idx := 140) (j := 274) (by decide +kernel) (by decide +kernel) (show zMe 274 = some zq_X16_newB from rfl) rfl rfl (Nat.le_of_ble_eq_true rfl) rfl rfl hM227 (Nat.le_of_ble_eq_true rfl) (Nat.le_of_ble_eq_true rfl) (c_X16_newB (w := w227) (g3 := (xB + 1 + 1)) m hM227 hb56 (by first | omega | decide | assumption | exact zr1_1 | exact zr1_0 | fail "num") rfl) (by omega) (fun v237 w237 hp237 => ?_)
                  obtain ⟨hsi237, heq237, hp237_0, hp237_1, rfl⟩ := hp237
                  have hM237 : w237 m = some (.inl (15, zMo m (zs (zs (zs (zs (zs g 1 Z9_71) 3 (xB + 1 + 1 + 1)) 16 Z9_71) 36 L9_227) 37 N9_227) r)) := hp237_0
                  show zP _ _ _ _ [.ref (m + 596 + 130 * (xB + 1 + 1).toNatClampNeg)] _ _ _ _ _
                  refine zp_seg (pc' := 243) (lv' := [(9, .ref (m + 596 + 130 * (xB + 1 + 1).toNatClampNeg)), (8, .ref (m + 596 + 130 * (xB + 1).toNatClampNeg)), (7, .ref (m + 596 + 130 * xB.toNatClampNeg)), (0, .ref m), (3, .ref (m + 7486 + 9 * s9.toNatClampNeg)), (4, .ref (m + 7486 + 9 * s8.toNatClampNeg)), (5, .int y5_84), (6, .int y6_84)]) (st' := [.ref m]) [(240, .astore 9), (242, .aload_n 0)] (by decide +kernel) rfl ?_
                  have hb57 := hb56.si hsi237
                  refine zr_callV (idx := 140) (j := 274) (by decide +kernel) (by decide +kernel) (show zMe 274 = some zq_X16_newB from rfl) rfl rfl (Nat.le_of_ble_eq_true rfl) rfl rfl hM237 (Nat.le_of_ble_eq_true rfl) (Nat.le_of_ble_eq_true rfl) (c_X16_newB (w := w237) (g3 := (xB + 1 + 1 + 1)) m hM237 hb57 (by first | omega | decide | assumption | exact zr1_1 | exact zr1_0 | fail "num") rfl) (by omega) (fun v243 w243 hp243 => ?_)
                  obtain ⟨hsi243, heq243, hp243_0, hp243_1, rfl⟩ := hp243
                  have hM243 : w243 m = some (.inl (15, zMo m (zs (zs (zs (zs (zs g 1 Z9_71) 3 (xB + 1 + 1 + 1 + 1)) 16 Z9_71) 36 L9_227) 37 N9_227) r)) := hp243_0
                  show zP _ _ _ _ [.ref (m + 596 + 130 * (xB + 1 + 1 + 1).toNatClampNeg)] _ _ _ _ _
                  refine zp_seg (pc' := 251) (lv' := [(10, .ref (m + 596 + 130 * (xB + 1 + 1 + 1).toNatClampNeg)), (9, .ref (m + 596 + 130 * (xB + 1 + 1).toNatClampNeg)), (8, .ref (m + 596 + 130 * (xB + 1).toNatClampNeg)), (7, .ref (m + 596 + 130 * xB.toNatClampNeg)), (0, .ref m), (3, .ref (m + 7486 + 9 * s9.toNatClampNeg)), (4, .ref (m + 7486 + 9 * s8.toNatClampNeg)), (5, .int y5_84), (6, .int y6_84)]) (st' := [.ref (m + 7486 + 9 * s9.toNatClampNeg), .ref (m + 596 + 130 * (xB + 1 + 1).toNatClampNeg)]) [(246, .astore 10), (248, .aload 9), (250, .aload_n 3)] (by decide +kernel) rfl ?_
                  have hb58 : w243 (m + 7486 + 9 * s9.toNatClampNeg) = some (.inl (13, zTo (m + 7486 + 9 * s9.toNatClampNeg) g1)) := ((heq243 (m + 7486 + 9 * s9.toNatClampNeg) (by omega)).trans ((heq237 (m + 7486 + 9 * s9.toNatClampNeg) (by omega)).trans ((heq227 (m + 7486 + 9 * s9.toNatClampNeg) (by omega)).trans ((heq213 (m + 7486 + 9 * s9.toNatClampNeg) (by omega)).trans (heq207 (m + 7486 + 9 * s9.toNatClampNeg) (by omega)))))).trans hb37
                  refine zr_get (idx := 207) (k := 1) (v := .ref (m + 7486 + 9 * s9.toNatClampNeg + 1)) (by decide +kernel) (by decide +kernel) hb58 rfl ?_
                  have hb59 : zB w243 (m + 596 + 130 * (xB + 1 + 1).toNatClampNeg) zbZ := hp237_1.ag (fun x hx1 hx2 => (heq243 x (by omega)))
                  have ho254_b := zB.o hb59
                  have hb60 : w243 (m + 7486 + 9 * s9.toNatClampNeg + 1) = some (.inr (0, 325, .inl fn1)) := ((heq243 (m + 7486 + 9 * s9.toNatClampNeg + 1) (by omega)).trans ((heq237 (m + 7486 + 9 * s9.toNatClampNeg + 1) (by omega)).trans ((heq227 (m + 7486 + 9 * s9.toNatClampNeg + 1) (by omega)).trans ((heq213 (m + 7486 + 9 * s9.toNatClampNeg + 1) (by omega)).trans ((heq207 (m + 7486 + 9 * s9.toNatClampNeg + 1) (by omega)).trans ((heqL84 (m + 7486 + 9 * s9.toNatClampNeg + 1) (by omega)).trans (heq71 (m + 7486 + 9 * s9.toNatClampNeg + 1) (by omega)))))))).trans hAn1
                  refine zr_callS (idx := 295) (j := 299) (by decide +kernel) (by decide +kernel) (by decide) (show zMe 299 = some zq_X16_load from rfl) rfl rfl (Nat.le_of_ble_eq_true rfl) rfl rfl (Nat.le_of_ble_eq_true rfl) (Nat.le_of_ble_eq_true rfl) (c_X16_load (w := w243) (m + 596 + 130 * (xB + 1 + 1).toNatClampNeg) (m + 7486 + 9 * s9.toNatClampNeg + 1) ho254_b hb60 (by exact hKn1) (by first | omega | decide | assumption | exact zr1_1 | exact zr1_0 | fail "num")) (by omega) (fun v254 w254 hp254 => ?_)
                  obtain ⟨hsi254, heq254, hp254_0, rfl⟩ := hp254
                  show zP _ _ _ _ [] _ _ _ _ _
                  refine zp_seg (pc' := 260) (lv' := [(10, .ref (m + 596 + 130 * (xB + 1 + 1 + 1).toNatClampNeg)), (9, .ref (m + 596 + 130 * (xB + 1 + 1).toNatClampNeg)), (8, .ref (m + 596 + 130 * (xB + 1).toNatClampNeg)), (7, .ref (m + 596 + 130 * xB.toNatClampNeg)), (0, .ref m), (3, .ref (m + 7486 + 9 * s9.toNatClampNeg)), (4, .ref (m + 7486 + 9 * s8.toNatClampNeg)), (5, .int y5_84), (6, .int y6_84)]) (st' := [.ref (m + 7486 + 9 * s9.toNatClampNeg), .ref (m + 596 + 130 * (xB + 1 + 1 + 1).toNatClampNeg)]) [(257, .aload 10), (259, .aload_n 3)] (by decide +kernel) rfl ?_
                  have hb61 : w254 (m + 7486 + 9 * s9.toNatClampNeg) = some (.inl (13, zTo (m + 7486 + 9 * s9.toNatClampNeg) g1)) := (heq254 (m + 7486 + 9 * s9.toNatClampNeg) (by omega)).trans hb58
                  refine zr_get (idx := 210) (k := 2) (v := .ref (m + 7486 + 9 * s9.toNatClampNeg + 2)) (by decide +kernel) (by decide +kernel) hb61 rfl ?_
                  have hb62 : zB w254 (m + 596 + 130 * (xB + 1 + 1 + 1).toNatClampNeg) zbZ := hp243_1.ag (fun x hx1 hx2 => (heq254 x (by omega)))
                  have ho263_b := zB.o hb62
                  have hb63 : w254 (m + 7486 + 9 * s9.toNatClampNeg + 2) = some (.inr (0, 325, .inl fd1)) := ((heq254 (m + 7486 + 9 * s9.toNatClampNeg + 2) (by omega)).trans ((heq243 (m + 7486 + 9 * s9.toNatClampNeg + 2) (by omega)).trans ((heq237 (m + 7486 + 9 * s9.toNatClampNeg + 2) (by omega)).trans ((heq227 (m + 7486 + 9 * s9.toNatClampNeg + 2) (by omega)).trans ((heq213 (m + 7486 + 9 * s9.toNatClampNeg + 2) (by omega)).trans ((heq207 (m + 7486 + 9 * s9.toNatClampNeg + 2) (by omega)).trans ((heqL84 (m + 7486 + 9 * s9.toNatClampNeg + 2) (by omega)).trans (heq71 (m + 7486 + 9 * s9.toNatClampNeg + 2) (by omega))))))))).trans hAd1
                  refine zr_callS (idx := 295) (j := 299) (by decide +kernel) (by decide +kernel) (by decide) (show zMe 299 = some zq_X16_load from rfl) rfl rfl (Nat.le_of_ble_eq_true rfl) rfl rfl (Nat.le_of_ble_eq_true rfl) (Nat.le_of_ble_eq_true rfl) (c_X16_load (w := w254) (m + 596 + 130 * (xB + 1 + 1 + 1).toNatClampNeg) (m + 7486 + 9 * s9.toNatClampNeg + 2) ho263_b hb63 (by exact hKd1) (by first | omega | decide | assumption | exact zr1_1 | exact zr1_0 | fail "num")) (by omega) (fun v263 w263 hp263 => ?_)
                  obtain ⟨hsi263, heq263, hp263_0, rfl⟩ := hp263
                  show zP _ _ _ _ [] _ _ _ _ _
                  have hdd9 : 0 < zrw (zbT fd1) := hKk1.2.1 (Or.inr (Or.inr hk39))
                  have hdn1 := zbT_dn fn1
                  have hrn1 := zbT_rw fn1
                  have hdn2 := zbT_dn fd1
                  have hrn2 := zbT_rw fd1
                  refine zp_seg (pc' := 270) (lv' := [(10, .ref (m + 596 + 130 * (xB + 1 + 1 + 1).toNatClampNeg)), (9, .ref (m + 596 + 130 * (xB + 1 + 1).toNatClampNeg)), (8, .ref (m + 596 + 130 * (xB + 1).toNatClampNeg)), (7, .ref (m + 596 + 130 * xB.toNatClampNeg)), (0, .ref m), (3, .ref (m + 7486 + 9 * s9.toNatClampNeg)), (4, .ref (m + 7486 + 9 * s8.toNatClampNeg)), (5, .int y5_84), (6, .int y6_84)]) (st' := [.ref (m + 596 + 130 * xB.toNatClampNeg), .int y5_84]) [(266, .iload 5), (268, .aload 7)] (by decide +kernel) rfl ?_
                  have hb64 : zB w263 (m + 596 + 130 * xB.toNatClampNeg) P9_227 := hp227_1.ag (fun x hx1 hx2 => ((heq263 x (by omega)).trans ((heq254 x (by omega)).trans ((heq243 x (by omega)).trans (heq237 x (by omega))))))
                  obtain ⟨n65, hb66, hb67, hb68, hb69, -⟩ := id hb64
                  have kn65 := zrng n65
                  refine zr_callV (idx := 119) (j := 248) (by decide +kernel) (by decide +kernel) (show zMe 248 = some zq_X12_degreeN from rfl) rfl rfl (Nat.le_of_ble_eq_true rfl) rfl rfl hb66 (Nat.le_of_ble_eq_true rfl) (Nat.le_of_ble_eq_true rfl) (c_X12_degreeN (w := w263) (m + 596 + 130 * xB.toNatClampNeg) hb64) (by omega) (fun v270 w270 hp270 => ?_)
                  obtain ⟨hpw270, r270, rfl, hr270⟩ := hp270
                  replace hpw270 := hpw270.symm
                  subst hpw270
                  have kr270 := zrng r270
                  show zP _ _ _ _ [.int r270, .int y5_84] _ _ _ _ _
                  refine zp_seg (pc' := 275) (lv' := [(10, .ref (m + 596 + 130 * (xB + 1 + 1 + 1).toNatClampNeg)), (9, .ref (m + 596 + 130 * (xB + 1 + 1).toNatClampNeg)), (8, .ref (m + 596 + 130 * (xB + 1).toNatClampNeg)), (7, .ref (m + 596 + 130 * xB.toNatClampNeg)), (0, .ref m), (3, .ref (m + 7486 + 9 * s9.toNatClampNeg)), (4, .ref (m + 7486 + 9 * s8.toNatClampNeg)), (5, .int y5_84), (6, .int y6_84)]) (st' := [.ref (m + 596 + 130 * (xB + 1).toNatClampNeg), .int r270, .int y5_84]) [(273, .aload 8)] (by decide +kernel) rfl ?_
                  have hb70 : zB w263 (m + 596 + 130 * (xB + 1).toNatClampNeg) Q9_227 := hp227_2.ag (fun x hx1 hx2 => ((heq263 x (by omega)).trans ((heq254 x (by omega)).trans ((heq243 x (by omega)).trans (heq237 x (by omega))))))
                  obtain ⟨n71, hb72, hb73, hb74, hb75, -⟩ := id hb70
                  have kn71 := zrng n71
                  refine zr_callV (idx := 119) (j := 248) (by decide +kernel) (by decide +kernel) (show zMe 248 = some zq_X12_degreeN from rfl) rfl rfl (Nat.le_of_ble_eq_true rfl) rfl rfl hb72 (Nat.le_of_ble_eq_true rfl) (Nat.le_of_ble_eq_true rfl) (c_X12_degreeN (w := w263) (m + 596 + 130 * (xB + 1).toNatClampNeg) hb70) (by omega) (fun v275 w275 hp275 => ?_)
                  obtain ⟨hpw275, r275, rfl, hr275⟩ := hp275
                  replace hpw275 := hpw275.symm
                  subst hpw275
                  have kr275 := zrng r275
                  show zP _ _ _ _ [.int r275, .int r270, .int y5_84] _ _ _ _ _
                  refine zr_max (idx := 40) (by decide +kernel) (by decide +kernel) (by omega) (Nat.le_of_ble_eq_true rfl) ?_
                  obtain ⟨m76, em76, hm76⟩ := zmaxI r270 r275
                  rw [← em76]
                  have km76 := zrng m76
                  refine zp_seg (pc' := 284) (lv' := [(10, .ref (m + 596 + 130 * (xB + 1 + 1 + 1).toNatClampNeg)), (9, .ref (m + 596 + 130 * (xB + 1 + 1).toNatClampNeg)), (8, .ref (m + 596 + 130 * (xB + 1).toNatClampNeg)), (7, .ref (m + 596 + 130 * xB.toNatClampNeg)), (0, .ref m), (3, .ref (m + 7486 + 9 * s9.toNatClampNeg)), (4, .ref (m + 7486 + 9 * s8.toNatClampNeg)), (5, .int y5_84), (6, .int y6_84)]) (st' := [.ref (m + 596 + 130 * (xB + 1 + 1).toNatClampNeg), .int 2, .int m76, .int y5_84]) [(281, .iconst 2), (282, .aload 9)] (by decide +kernel) rfl ?_
                  have hb77 : zB w263 (m + 596 + 130 * (xB + 1 + 1).toNatClampNeg) (zbT fn1) := hp254_0.ag (fun x hx1 hx2 => (heq263 x (by omega)))
                  obtain ⟨n78, hb79, hb80, hb81, hb82, -⟩ := id hb77
                  have kn78 := zrng n78
                  refine zr_callV (idx := 119) (j := 248) (by decide +kernel) (by decide +kernel) (show zMe 248 = some zq_X12_degreeN from rfl) rfl rfl (Nat.le_of_ble_eq_true rfl) rfl rfl hb79 (Nat.le_of_ble_eq_true rfl) (Nat.le_of_ble_eq_true rfl) (c_X12_degreeN (w := w263) (m + 596 + 130 * (xB + 1 + 1).toNatClampNeg) hb77) (by omega) (fun v284 w284 hp284 => ?_)
                  obtain ⟨hpw284, r284, rfl, hr284⟩ := hp284
                  replace hpw284 := hpw284.symm
                  subst hpw284
                  have kr284 := zrng r284
                  show zP _ _ _ _ [.int r284, .int 2, .int m76, .int y5_84] _ _ _ _ _
                  refine zp_seg (pc' := 289) (lv' := [(10, .ref (m + 596 + 130 * (xB + 1 + 1 + 1).toNatClampNeg)), (9, .ref (m + 596 + 130 * (xB + 1 + 1).toNatClampNeg)), (8, .ref (m + 596 + 130 * (xB + 1).toNatClampNeg)), (7, .ref (m + 596 + 130 * xB.toNatClampNeg)), (0, .ref m), (3, .ref (m + 7486 + 9 * s9.toNatClampNeg)), (4, .ref (m + 7486 + 9 * s8.toNatClampNeg)), (5, .int y5_84), (6, .int y6_84)]) (st' := [.ref (m + 596 + 130 * (xB + 1 + 1 + 1).toNatClampNeg), .int r284, .int 2, .int m76, .int y5_84]) [(287, .aload 10)] (by decide +kernel) rfl ?_
                  obtain ⟨n83, hb84, hb85, hb86, hb87, -⟩ := id hp263_0
                  have kn83 := zrng n83
                  refine zr_callV (idx := 119) (j := 248) (by decide +kernel) (by decide +kernel) (show zMe 248 = some zq_X12_degreeN from rfl) rfl rfl (Nat.le_of_ble_eq_true rfl) rfl rfl hb84 (Nat.le_of_ble_eq_true rfl) (Nat.le_of_ble_eq_true rfl) (c_X12_degreeN (w := w263) (m + 596 + 130 * (xB + 1 + 1 + 1).toNatClampNeg) hp263_0) (by omega) (fun v289 w289 hp289 => ?_)
                  obtain ⟨hpw289, r289, rfl, hr289⟩ := hp289
                  replace hpw289 := hpw289.symm
                  subst hpw289
                  have kr289 := zrng r289
                  show zP _ _ _ _ [.int r289, .int r284, .int 2, .int m76, .int y5_84] _ _ _ _ _
                  refine zr_max (idx := 40) (by decide +kernel) (by decide +kernel) (by omega) (Nat.le_of_ble_eq_true rfl) ?_
                  obtain ⟨m88, em88, hm88⟩ := zmaxI r284 r289
                  rw [← em88]
                  have km88 := zrng m88
                  refine zp_seg (pc' := 296) (lv' := [(10, .ref (m + 596 + 130 * (xB + 1 + 1 + 1).toNatClampNeg)), (9, .ref (m + 596 + 130 * (xB + 1 + 1).toNatClampNeg)), (8, .ref (m + 596 + 130 * (xB + 1).toNatClampNeg)), (7, .ref (m + 596 + 130 * xB.toNatClampNeg)), (0, .ref m), (3, .ref (m + 7486 + 9 * s9.toNatClampNeg)), (4, .ref (m + 7486 + 9 * s8.toNatClampNeg)), (5, .int y5_84), (6, .int y6_84)]) (st' := [.int (2 * m88), .int m76, .int y5_84]) [(295, .imul)] (by decide +kernel) rfl ?_
                  have k89 := zmulCl 2 m88 (n := 2) (by decide) (by omega) (by omega)
                  generalize ev296 : (2 * m88 : Int32) = v296 at k89 ⊢
                  have kv296 := zrng v296
                  refine zp_seg (pc' := 297) (lv' := [(10, .ref (m + 596 + 130 * (xB + 1 + 1 + 1).toNatClampNeg)), (9, .ref (m + 596 + 130 * (xB + 1 + 1).toNatClampNeg)), (8, .ref (m + 596 + 130 * (xB + 1).toNatClampNeg)), (7, .ref (m + 596 + 130 * xB.toNatClampNeg)), (0, .ref m), (3, .ref (m + 7486 + 9 * s9.toNatClampNeg)), (4, .ref (m + 7486 + 9 * s8.toNatClampNeg)), (5, .int y5_84), (6, .int y6_84)]) (st' := [.int (m76 + v296), .int y5_84]) [(296, .iadd)] (by decide +kernel) rfl ?_
                  have k90 := zadd m76 v296 (by omega) (by omega)
                  generalize ev297 : (m76 + v296 : Int32) = v297 at k90 ⊢
                  have kv297 := zrng v297
                  refine zp_seg (pc' := 298) (lv' := [(10, .ref (m + 596 + 130 * (xB + 1 + 1 + 1).toNatClampNeg)), (9, .ref (m + 596 + 130 * (xB + 1 + 1).toNatClampNeg)), (8, .ref (m + 596 + 130 * (xB + 1).toNatClampNeg)), (7, .ref (m + 596 + 130 * xB.toNatClampNeg)), (0, .ref m), (3, .ref (m + 7486 + 9 * s9.toNatClampNeg)), (4, .ref (m + 7486 + 9 * s8.toNatClampNeg)), (5, .int y5_84), (6, .int y6_84)]) (st' := [.int (y5_84 + v297)]) [(297, .iadd)] (by decide +kernel) rfl ?_
                  have k91 := zadd y5_84 v297 (by omega) (by omega)
                  generalize ev298 : (y5_84 + v297 : Int32) = v298 at k91 ⊢
                  have kv298 := zrng v298
                  refine zp_seg (pc' := 304) (lv' := [(5, .int v298), (10, .ref (m + 596 + 130 * (xB + 1 + 1 + 1).toNatClampNeg)), (9, .ref (m + 596 + 130 * (xB + 1 + 1).toNatClampNeg)), (8, .ref (m + 596 + 130 * (xB + 1).toNatClampNeg)), (7, .ref (m + 596 + 130 * xB.toNatClampNeg)), (0, .ref m), (3, .ref (m + 7486 + 9 * s9.toNatClampNeg)), (4, .ref (m + 7486 + 9 * s8.toNatClampNeg)), (6, .int y6_84)]) (st' := [.ref (m + 596 + 130 * xB.toNatClampNeg), .int y6_84]) [(298, .istore 5), (300, .iload 6), (302, .aload 7)] (by decide +kernel) rfl ?_
                  refine zr_callV (idx := 314) (j := 249) (by decide +kernel) (by decide +kernel) (show zMe 249 = some zq_X12_degreeK from rfl) rfl rfl (Nat.le_of_ble_eq_true rfl) rfl rfl hb66 (Nat.le_of_ble_eq_true rfl) (Nat.le_of_ble_eq_true rfl) (c_X12_degreeK (w := w263) (m + 596 + 130 * xB.toNatClampNeg) hb64) (by omega) (fun v304 w304 hp304 => ?_)
                  obtain ⟨hpw304, r304, rfl, hr304⟩ := hp304
                  replace hpw304 := hpw304.symm
                  subst hpw304
                  have kr304 := zrng r304
                  show zP _ _ _ _ [.int r304, .int y6_84] _ _ _ _ _
                  refine zp_seg (pc' := 309) (lv' := [(5, .int v298), (10, .ref (m + 596 + 130 * (xB + 1 + 1 + 1).toNatClampNeg)), (9, .ref (m + 596 + 130 * (xB + 1 + 1).toNatClampNeg)), (8, .ref (m + 596 + 130 * (xB + 1).toNatClampNeg)), (7, .ref (m + 596 + 130 * xB.toNatClampNeg)), (0, .ref m), (3, .ref (m + 7486 + 9 * s9.toNatClampNeg)), (4, .ref (m + 7486 + 9 * s8.toNatClampNeg)), (6, .int y6_84)]) (st' := [.ref (m + 596 + 130 * (xB + 1).toNatClampNeg), .int r304, .int y6_84]) [(307, .aload 8)] (by decide +kernel) rfl ?_
                  refine zr_callV (idx := 314) (j := 249) (by decide +kernel) (by decide +kernel) (show zMe 249 = some zq_X12_degreeK from rfl) rfl rfl (Nat.le_of_ble_eq_true rfl) rfl rfl hb72 (Nat.le_of_ble_eq_true rfl) (Nat.le_of_ble_eq_true rfl) (c_X12_degreeK (w := w263) (m + 596 + 130 * (xB + 1).toNatClampNeg) hb70) (by omega) (fun v309 w309 hp309 => ?_)
                  obtain ⟨hpw309, r309, rfl, hr309⟩ := hp309
                  replace hpw309 := hpw309.symm
                  subst hpw309
                  have kr309 := zrng r309
                  show zP _ _ _ _ [.int r309, .int r304, .int y6_84] _ _ _ _ _
                  refine zr_max (idx := 40) (by decide +kernel) (by decide +kernel) (by omega) (Nat.le_of_ble_eq_true rfl) ?_
                  obtain ⟨m92, em92, hm92⟩ := zmaxI r304 r309
                  rw [← em92]
                  have km92 := zrng m92
                  refine zp_seg (pc' := 318) (lv' := [(5, .int v298), (10, .ref (m + 596 + 130 * (xB + 1 + 1 + 1).toNatClampNeg)), (9, .ref (m + 596 + 130 * (xB + 1 + 1).toNatClampNeg)), (8, .ref (m + 596 + 130 * (xB + 1).toNatClampNeg)), (7, .ref (m + 596 + 130 * xB.toNatClampNeg)), (0, .ref m), (3, .ref (m + 7486 + 9 * s9.toNatClampNeg)), (4, .ref (m + 7486 + 9 * s8.toNatClampNeg)), (6, .int y6_84)]) (st' := [.ref (m + 596 + 130 * (xB + 1 + 1).toNatClampNeg), .int 2, .int m92, .int y6_84]) [(315, .iconst 2), (316, .aload 9)] (by decide +kernel) rfl ?_
                  refine zr_callV (idx := 314) (j := 249) (by decide +kernel) (by decide +kernel) (show zMe 249 = some zq_X12_degreeK from rfl) rfl rfl (Nat.le_of_ble_eq_true rfl) rfl rfl hb79 (Nat.le_of_ble_eq_true rfl) (Nat.le_of_ble_eq_true rfl) (c_X12_degreeK (w := w263) (m + 596 + 130 * (xB + 1 + 1).toNatClampNeg) hb77) (by omega) (fun v318 w318 hp318 => ?_)
                  obtain ⟨hpw318, r318, rfl, hr318⟩ := hp318
                  replace hpw318 := hpw318.symm
                  subst hpw318
                  have kr318 := zrng r318
                  show zP _ _ _ _ [.int r318, .int 2, .int m92, .int y6_84] _ _ _ _ _
                  refine zp_seg (pc' := 323) (lv' := [(5, .int v298), (10, .ref (m + 596 + 130 * (xB + 1 + 1 + 1).toNatClampNeg)), (9, .ref (m + 596 + 130 * (xB + 1 + 1).toNatClampNeg)), (8, .ref (m + 596 + 130 * (xB + 1).toNatClampNeg)), (7, .ref (m + 596 + 130 * xB.toNatClampNeg)), (0, .ref m), (3, .ref (m + 7486 + 9 * s9.toNatClampNeg)), (4, .ref (m + 7486 + 9 * s8.toNatClampNeg)), (6, .int y6_84)]) (st' := [.ref (m + 596 + 130 * (xB + 1 + 1 + 1).toNatClampNeg), .int r318, .int 2, .int m92, .int y6_84]) [(321, .aload 10)] (by decide +kernel) rfl ?_
                  refine zr_callV (idx := 314) (j := 249) (by decide +kernel) (by decide +kernel) (show zMe 249 = some zq_X12_degreeK from rfl) rfl rfl (Nat.le_of_ble_eq_true rfl) rfl rfl hb84 (Nat.le_of_ble_eq_true rfl) (Nat.le_of_ble_eq_true rfl) (c_X12_degreeK (w := w263) (m + 596 + 130 * (xB + 1 + 1 + 1).toNatClampNeg) hp263_0) (by omega) (fun v323 w323 hp323 => ?_)
                  obtain ⟨hpw323, r323, rfl, hr323⟩ := hp323
                  replace hpw323 := hpw323.symm
                  subst hpw323
                  have kr323 := zrng r323
                  show zP _ _ _ _ [.int r323, .int r318, .int 2, .int m92, .int y6_84] _ _ _ _ _
                  refine zr_max (idx := 40) (by decide +kernel) (by decide +kernel) (by omega) (Nat.le_of_ble_eq_true rfl) ?_
                  obtain ⟨m93, em93, hm93⟩ := zmaxI r318 r323
                  rw [← em93]
                  have km93 := zrng m93
                  refine zp_seg (pc' := 330) (lv' := [(5, .int v298), (10, .ref (m + 596 + 130 * (xB + 1 + 1 + 1).toNatClampNeg)), (9, .ref (m + 596 + 130 * (xB + 1 + 1).toNatClampNeg)), (8, .ref (m + 596 + 130 * (xB + 1).toNatClampNeg)), (7, .ref (m + 596 + 130 * xB.toNatClampNeg)), (0, .ref m), (3, .ref (m + 7486 + 9 * s9.toNatClampNeg)), (4, .ref (m + 7486 + 9 * s8.toNatClampNeg)), (6, .int y6_84)]) (st' := [.int (2 * m93), .int m92, .int y6_84]) [(329, .imul)] (by decide +kernel) rfl ?_
                  have k94 := zmulCl 2 m93 (n := 2) (by decide) (by omega) (by omega)
                  generalize ev330 : (2 * m93 : Int32) = v330 at k94 ⊢
                  have kv330 := zrng v330
                  refine zp_seg (pc' := 331) (lv' := [(5, .int v298), (10, .ref (m + 596 + 130 * (xB + 1 + 1 + 1).toNatClampNeg)), (9, .ref (m + 596 + 130 * (xB + 1 + 1).toNatClampNeg)), (8, .ref (m + 596 + 130 * (xB + 1).toNatClampNeg)), (7, .ref (m + 596 + 130 * xB.toNatClampNeg)), (0, .ref m), (3, .ref (m + 7486 + 9 * s9.toNatClampNeg)), (4, .ref (m + 7486 + 9 * s8.toNatClampNeg)), (6, .int y6_84)]) (st' := [.int (m92 + v330), .int y6_84]) [(330, .iadd)] (by decide +kernel) rfl ?_
                  have k95 := zadd m92 v330 (by omega) (by omega)
                  generalize ev331 : (m92 + v330 : Int32) = v331 at k95 ⊢
                  have kv331 := zrng v331
                  refine zp_seg (pc' := 332) (lv' := [(5, .int v298), (10, .ref (m + 596 + 130 * (xB + 1 + 1 + 1).toNatClampNeg)), (9, .ref (m + 596 + 130 * (xB + 1 + 1).toNatClampNeg)), (8, .ref (m + 596 + 130 * (xB + 1).toNatClampNeg)), (7, .ref (m + 596 + 130 * xB.toNatClampNeg)), (0, .ref m), (3, .ref (m + 7486 + 9 * s9.toNatClampNeg)), (4, .ref (m + 7486 + 9 * s8.toNatClampNeg)), (6, .int y6_84)]) (st' := [.int (y6_84 + v331)]) [(331, .iadd)] (by decide +kernel) rfl ?_
                  have k96 := zadd y6_84 v331 (by omega) (by omega)
                  generalize ev332 : (y6_84 + v331 : Int32) = v332 at k96 ⊢
                  have kv332 := zrng v332
                  refine zp_seg (pc' := 334) (lv' := [(6, .int v332), (5, .int v298), (10, .ref (m + 596 + 130 * (xB + 1 + 1 + 1).toNatClampNeg)), (9, .ref (m + 596 + 130 * (xB + 1 + 1).toNatClampNeg)), (8, .ref (m + 596 + 130 * (xB + 1).toNatClampNeg)), (7, .ref (m + 596 + 130 * xB.toNatClampNeg)), (0, .ref m), (3, .ref (m + 7486 + 9 * s9.toNatClampNeg)), (4, .ref (m + 7486 + 9 * s8.toNatClampNeg))]) (st' := []) [(332, .istore 6)] (by decide +kernel) rfl ?_
                  have hsp5 : 0 ≤ v298.toInt ∧ v298.toInt ≤ 9000 := by omega
                  have hsp6 : 0 ≤ v332.toInt ∧ v332.toInt ≤ 9000 := by omega
                  have hTS9 : ∀ i, i ≤ (g1 10).toNatClampNeg → fT i = some (m + 596 + 130 * Z9_71.toNatClampNeg + 260 * i) ∧ fU i = some (m + 596 + 130 * Z9_71.toNatClampNeg + 130 + 260 * i) ∧ (∃ P, zB w263 (m + 596 + 130 * Z9_71.toNatClampNeg + 260 * i) P) ∧ ∃ P, zB w263 (m + 596 + 130 * Z9_71.toNatClampNeg + 130 + 260 * i) P := by
                    intro i hi
                    obtain ⟨h1, h2, ⟨P, h3⟩, Q, h4⟩ := hft9 i (by omega)
                    exact ⟨h1, h2, ⟨P, h3.ag (fun x g1 g2 => ((heq263 x (by omega)).trans ((heq254 x (by omega)).trans ((heq243 x (by omega)).trans ((heq237 x (by omega)).trans ((heq227 x (by omega)).trans ((heq213 x (by omega)).trans (heq207 x (by omega)))))))))⟩, Q, h4.ag (fun x g1 g2 => ((heq263 x (by omega)).trans ((heq254 x (by omega)).trans ((heq243 x (by omega)).trans ((heq237 x (by omega)).trans ((heq227 x (by omega)).trans ((heq213 x (by omega)).trans (heq207 x (by omega)))))))))⟩
                  refine zp_seg (pc' := 337) (lv' := [(11, .int 0), (6, .int v332), (5, .int v298), (10, .ref (m + 596 + 130 * (xB + 1 + 1 + 1).toNatClampNeg)), (9, .ref (m + 596 + 130 * (xB + 1 + 1).toNatClampNeg)), (8, .ref (m + 596 + 130 * (xB + 1).toNatClampNeg)), (7, .ref (m + 596 + 130 * xB.toNatClampNeg)), (0, .ref m), (3, .ref (m + 7486 + 9 * s9.toNatClampNeg)), (4, .ref (m + 7486 + 9 * s8.toNatClampNeg))]) (st' := []) [(334, .iconst 0), (335, .istore 11)] (by decide +kernel) rfl ?_
                  have hL337 : ∀ (mm337 : Nat) (y11_337 : Int32), (0 ≤ y11_337.toInt) → (y11_337.toInt ≤ v298.toInt + 1) → (20000 - y11_337.toInt).toNat < mm337 → zP (d + 1) zq_X16_check 337 [(0, .ref m), (3, .ref (m + 7486 + 9 * s9.toNatClampNeg)), (5, .int v298), (6, .int v332), (7, .ref (m + 596 + 130 * xB.toNatClampNeg)), (8, .ref (m + 596 + 130 * (xB + 1).toNatClampNeg)), (9, .ref (m + 596 + 130 * (xB + 1 + 1).toNatClampNeg)), (10, .ref (m + 596 + 130 * (xB + 1 + 1 + 1).toNatClampNeg)), (11, .int y11_337)] [] w263 sz 0 0 Post := by
                    intro mm337
                    induction mm337 with
                    | zero => intros; omega
                    | succ mm337 ih337 =>
                    intro y11_337 hi337_0 hi337_1 hmu337
                    have ky11_337 := zrng y11_337
                    have hz97 : (y11_337.toNatClampNeg : Int) = y11_337.toInt := znat (by first | omega | decide)
                    refine zp_seg (pc' := 341) (lv' := [(0, .ref m), (3, .ref (m + 7486 + 9 * s9.toNatClampNeg)), (5, .int v298), (6, .int v332), (7, .ref (m + 596 + 130 * xB.toNatClampNeg)), (8, .ref (m + 596 + 130 * (xB + 1).toNatClampNeg)), (9, .ref (m + 596 + 130 * (xB + 1 + 1).toNatClampNeg)), (10, .ref (m + 596 + 130 * (xB + 1 + 1 + 1).toNatClampNeg)), (11, .int y11_337)]) (st' := [.int v298, .int y11_337]) [(337, .iload 11), (339, .iload 5)] (by decide +kernel) rfl ?_
                    refine zp_if (i := .if_icmp .gt 47) (c := v298 < y11_337) (t := 388) (e := 344) (lv' := [(0, .ref m), (3, .ref (m + 7486 + 9 * s9.toNatClampNeg)), (5, .int v298), (6, .int v332), (7, .ref (m + 596 + 130 * xB.toNatClampNeg)), (8, .ref (m + 596 + 130 * (xB + 1).toNatClampNeg)), (9, .ref (m + 596 + 130 * (xB + 1 + 1).toNatClampNeg)), (10, .ref (m + 596 + 130 * (xB + 1 + 1 + 1).toNatClampNeg)), (11, .int y11_337)]) (st' := []) (by decide +kernel) rfl (fun cc341 => ?_) (fun cc341 => ?_)
                    ·
                      have f98 := zltI cc341
                      refine zp_seg (pc' := 389) (lv' := [(0, .ref m), (3, .ref (m + 7486 + 9 * s9.toNatClampNeg)), (5, .int v298), (6, .int v332), (7, .ref (m + 596 + 130 * xB.toNatClampNeg)), (8, .ref (m + 596 + 130 * (xB + 1).toNatClampNeg)), (9, .ref (m + 596 + 130 * (xB + 1 + 1).toNatClampNeg)), (10, .ref (m + 596 + 130 * (xB + 1 + 1 + 1).toNatClampNeg)), (11, .int y11_337)]) (st' := [.int 1]) [(388, .iconst 1)] (by decide +kernel) rfl ?_
                      have hb99 : w263 m = some (.inl (15, zMo m (zs (zs (zs (zs (zs g 1 Z9_71) 3 (xB + 1 + 1 + 1 + 1)) 16 Z9_71) 36 L9_227) 37 N9_227) r)) := ((heq263 m (by omega)).trans (heq254 m (by omega))).trans hM243
                      have hoffend : ∀ x, (x < m + 0 ∨ m + 0 + 8322 ≤ x) → w263 x = w x := fun x hx => ((heq263 x (by omega)).trans ((heq254 x (by omega)).trans ((heq243 x (by omega)).trans ((heq237 x (by omega)).trans ((heq227 x (by omega)).trans ((heq213 x (by omega)).trans ((heq207 x (by omega)).trans ((heqL84 x ⟨⟨(zx_X16_check_0 hx), (zx_X16_check_1 hx), (zx_X16_check_2 hx), (zx_X16_check_3 hx), (zx_X16_check_4 hx), (zx_X16_check_5 hx), (zx_X16_check_6 hx), (zx_X16_check_7 hx)⟩, (zx_X16_check_8 hx)⟩).trans (heq71 x (zx_X16_check_0 hx))))))))))
                      have hb100 := hb57.si ((hsi243.tr hsi254).tr hsi263)
                      have hb101 : zSlo w263 (m + 7486) := hSl0.ag (fun x hx1 hx2 => ((heq263 x (by omega)).trans ((heq254 x (by omega)).trans ((heq243 x (by omega)).trans ((heq237 x (by omega)).trans ((heq227 x (by omega)).trans ((heq213 x (by omega)).trans ((heq207 x (by omega)).trans ((heqL84 x ⟨⟨(zx_X16_check_9 hx1 hx2), (zx_X16_check_10 hx1 hx2), (zx_X16_check_11 hx1 hx2), (zx_X16_check_12 hx1 hx2), (zx_X16_check_13 hx1 hx2), (zx_X16_check_14 hx1 hx2), (zx_X16_check_15 hx1 hx2), (zx_X16_check_16 hx1 hx2)⟩, (zx_X16_check_17 hx1 hx2)⟩).trans (heq71 x (zx_X16_check_9 hx1 hx2)))))))))))
                      have hb102 : zTm w263 (m + 83) := hMd0.ag (fun x hx1 hx2 => ((heq263 x (by omega)).trans ((heq254 x (by omega)).trans ((heq243 x (by omega)).trans ((heq237 x (by omega)).trans ((heq227 x (by omega)).trans ((heq213 x (by omega)).trans ((heq207 x (by omega)).trans ((heqL84 x ⟨⟨(zx_X16_check_18 hx1 hx2), (zx_X16_check_19 hx1 hx2), (zx_X16_check_20 hx1 hx2), (zx_X16_check_21 hx1 hx2), (zx_X16_check_22 hx1 hx2), (zx_X16_check_23 hx1 hx2), (zx_X16_check_24 hx1 hx2), (zx_X16_check_25 hx1 hx2)⟩, (zx_X16_check_26 hx1 hx2)⟩).trans (heq71 x (zx_X16_check_18 hx1 hx2)))))))))))
                      have hb103 : zPil w263 (m + 6316) := hPl0.ag (fun x hx1 hx2 => ((heq263 x (by omega)).trans ((heq254 x (by omega)).trans ((heq243 x (by omega)).trans ((heq237 x (by omega)).trans ((heq227 x (by omega)).trans ((heq213 x (by omega)).trans ((heq207 x (by omega)).trans ((heqL84 x ⟨⟨(zx_X16_check_27 hx1 hx2), (zx_X16_check_28 hx1 hx2), (zx_X16_check_29 hx1 hx2), (zx_X16_check_30 hx1 hx2), (zx_X16_check_31 hx1 hx2), (zx_X16_check_32 hx1 hx2), (zx_X16_check_33 hx1 hx2), (zx_X16_check_34 hx1 hx2)⟩, (zx_X16_check_35 hx1 hx2)⟩).trans (heq71 x (zx_X16_check_27 hx1 hx2)))))))))))
                      have hb104 : zBya w263 (m + 92) 4000 := hBo0.ag (fun x hx1 hx2 => ((heq263 x (by omega)).trans ((heq254 x (by omega)).trans ((heq243 x (by omega)).trans ((heq237 x (by omega)).trans ((heq227 x (by omega)).trans ((heq213 x (by omega)).trans ((heq207 x (by omega)).trans ((heqL84 x ⟨⟨(zx_X16_check_36 hx1 hx2), (zx_X16_check_37 hx1 hx2), (zx_X16_check_38 hx1 hx2), (zx_X16_check_39 hx1 hx2), (zx_X16_check_40 hx1 hx2), (zx_X16_check_41 hx1 hx2), (zx_X16_check_42 hx1 hx2), (zx_X16_check_43 hx1 hx2)⟩, (zx_X16_check_44 hx1 hx2)⟩).trans (heq71 x (zx_X16_check_36 hx1 hx2)))))))))))
                      have hb105 : zBya w263 (m + 93) 4000 := hBl0.ag (fun x hx1 hx2 => ((heq263 x (by omega)).trans ((heq254 x (by omega)).trans ((heq243 x (by omega)).trans ((heq237 x (by omega)).trans ((heq227 x (by omega)).trans ((heq213 x (by omega)).trans ((heq207 x (by omega)).trans ((heqL84 x ⟨⟨(zx_X16_check_45 hx1 hx2), (zx_X16_check_46 hx1 hx2), (zx_X16_check_47 hx1 hx2), (zx_X16_check_48 hx1 hx2), (zx_X16_check_49 hx1 hx2), (zx_X16_check_50 hx1 hx2), (zx_X16_check_51 hx1 hx2), (zx_X16_check_52 hx1 hx2)⟩, (zx_X16_check_53 hx1 hx2)⟩).trans (heq71 x (zx_X16_check_45 hx1 hx2)))))))))))
                      have hb106 : zGr w263 (m + 100) 48 48 := hGa0.ag (fun x hx1 hx2 => ((heq263 x (by omega)).trans ((heq254 x (by omega)).trans ((heq243 x (by omega)).trans ((heq237 x (by omega)).trans ((heq227 x (by omega)).trans ((heq213 x (by omega)).trans ((heq207 x (by omega)).trans ((heqL84 x ⟨⟨(zx_X16_check_54 hx1 hx2), (zx_X16_check_55 hx1 hx2), (zx_X16_check_56 hx1 hx2), (zx_X16_check_57 hx1 hx2), (zx_X16_check_58 hx1 hx2), (zx_X16_check_59 hx1 hx2), (zx_X16_check_60 hx1 hx2), (zx_X16_check_61 hx1 hx2)⟩, (zx_X16_check_62 hx1 hx2)⟩).trans (heq71 x (zx_X16_check_54 hx1 hx2)))))))))))
                      have hb107 : zGr w263 (m + 212) 60 46 := hGb0.ag (fun x hx1 hx2 => ((heq263 x (by omega)).trans ((heq254 x (by omega)).trans ((heq243 x (by omega)).trans ((heq237 x (by omega)).trans ((heq227 x (by omega)).trans ((heq213 x (by omega)).trans ((heq207 x (by omega)).trans ((heqL84 x ⟨⟨(zx_X16_check_63 hx1 hx2), (zx_X16_check_64 hx1 hx2), (zx_X16_check_65 hx1 hx2), (zx_X16_check_66 hx1 hx2), (zx_X16_check_67 hx1 hx2), (zx_X16_check_68 hx1 hx2), (zx_X16_check_69 hx1 hx2), (zx_X16_check_70 hx1 hx2)⟩, (zx_X16_check_71 hx1 hx2)⟩).trans (heq71 x (zx_X16_check_63 hx1 hx2)))))))))))
                      have hb108 : zBd w263 (m + 149) := hBd0.ag (fun x hx1 hx2 => ((heq263 x (by omega)).trans ((heq254 x (by omega)).trans ((heq243 x (by omega)).trans ((heq237 x (by omega)).trans ((heq227 x (by omega)).trans ((heq213 x (by omega)).trans ((heq207 x (by omega)).trans ((heqL84 x ⟨⟨(zx_X16_check_72 hx1 hx2), (zx_X16_check_73 hx1 hx2), (zx_X16_check_74 hx1 hx2), (zx_X16_check_75 hx1 hx2), (zx_X16_check_76 hx1 hx2), (zx_X16_check_77 hx1 hx2), (zx_X16_check_78 hx1 hx2), (zx_X16_check_79 hx1 hx2)⟩, (zx_X16_check_80 hx1 hx2)⟩).trans (heq71 x (zx_X16_check_72 hx1 hx2)))))))))))
                      have hb109 : w263 (m + 94) = some (.inr (0, 60, .inl ff)) := ((heq263 (m + 94) (by omega)).trans ((heq254 (m + 94) (by omega)).trans ((heq243 (m + 94) (by omega)).trans ((heq237 (m + 94) (by omega)).trans ((heq227 (m + 94) (by omega)).trans ((heq213 (m + 94) (by omega)).trans ((heq207 (m + 94) (by omega)).trans ((heqL84 (m + 94) ⟨⟨(zx_X16_check_81), (zx_X16_check_82), (zx_X16_check_83), (zx_X16_check_84), (zx_X16_check_85), (zx_X16_check_86), (zx_X16_check_87), (zx_X16_check_88)⟩, (zx_X16_check_89)⟩).trans (heq71 (m + 94) (zx_X16_check_81)))))))))).trans hAf0
                      refine zr_retI (by decide +kernel) rfl ?_
                      rw [← hPost]; exact ⟨rfl, _, rfl, ((((((((hsi71.tr hsiL84).tr hsi207).tr hsi213).tr hsi227).tr hsi237).tr hsi243).tr hsi254).tr hsi263), hoffend, ⟨_, _, hb99, hb100, hb101, hb102, hb103, ⟨_, hb109, hff⟩, hb104, hb105, hb106, hb107, hb108, hI12, hI24, hI29, hI31, hIn⟩, _, rfl, trivial⟩
                    ·
                      have f110 := znltI cc341
                      refine zp_seg (pc' := 347) (lv' := [(12, .int 0), (0, .ref m), (3, .ref (m + 7486 + 9 * s9.toNatClampNeg)), (5, .int v298), (6, .int v332), (7, .ref (m + 596 + 130 * xB.toNatClampNeg)), (8, .ref (m + 596 + 130 * (xB + 1).toNatClampNeg)), (9, .ref (m + 596 + 130 * (xB + 1 + 1).toNatClampNeg)), (10, .ref (m + 596 + 130 * (xB + 1 + 1 + 1).toNatClampNeg)), (11, .int y11_337)]) (st' := []) [(344, .iconst 0), (345, .istore 12)] (by decide +kernel) rfl ?_
                      have hL347 : ∀ (mm347 : Nat) (y12_347 : Int32), (0 ≤ y12_347.toInt) → (y12_347.toInt ≤ v332.toInt + 1) → (20000 - y12_347.toInt).toNat < mm347 → zP (d + 1) zq_X16_check 347 [(0, .ref m), (3, .ref (m + 7486 + 9 * s9.toNatClampNeg)), (5, .int v298), (6, .int v332), (7, .ref (m + 596 + 130 * xB.toNatClampNeg)), (8, .ref (m + 596 + 130 * (xB + 1).toNatClampNeg)), (9, .ref (m + 596 + 130 * (xB + 1 + 1).toNatClampNeg)), (10, .ref (m + 596 + 130 * (xB + 1 + 1 + 1).toNatClampNeg)), (11, .int y11_337), (12, .int y12_347)] [] w263 sz 0 0 Post := by
                        intro mm347
                        induction mm347 with
                        | zero => intros; omega
                        | succ mm347 ih347 =>
                        intro y12_347 hi347_0 hi347_1 hmu347
                        have ky12_347 := zrng y12_347
                        have hz111 : (y12_347.toNatClampNeg : Int) = y12_347.toInt := znat (by first | omega | decide)
                        refine zp_seg (pc' := 351) (lv' := [(0, .ref m), (3, .ref (m + 7486 + 9 * s9.toNatClampNeg)), (5, .int v298), (6, .int v332), (7, .ref (m + 596 + 130 * xB.toNatClampNeg)), (8, .ref (m + 596 + 130 * (xB + 1).toNatClampNeg)), (9, .ref (m + 596 + 130 * (xB + 1 + 1).toNatClampNeg)), (10, .ref (m + 596 + 130 * (xB + 1 + 1 + 1).toNatClampNeg)), (11, .int y11_337), (12, .int y12_347)]) (st' := [.int v332, .int y12_347]) [(347, .iload 12), (349, .iload 6)] (by decide +kernel) rfl ?_
                        refine zp_if (i := .if_icmp .gt 31) (c := v332 < y12_347) (t := 382) (e := 354) (lv' := [(0, .ref m), (3, .ref (m + 7486 + 9 * s9.toNatClampNeg)), (5, .int v298), (6, .int v332), (7, .ref (m + 596 + 130 * xB.toNatClampNeg)), (8, .ref (m + 596 + 130 * (xB + 1).toNatClampNeg)), (9, .ref (m + 596 + 130 * (xB + 1 + 1).toNatClampNeg)), (10, .ref (m + 596 + 130 * (xB + 1 + 1 + 1).toNatClampNeg)), (11, .int y11_337), (12, .int y12_347)]) (st' := []) (by decide +kernel) rfl (fun cc351 => ?_) (fun cc351 => ?_)
                        ·
                          have f112 := zltI cc351
                          refine zp_seg (pc' := 385) (lv' := [(11, .int (y11_337 + 1)), (0, .ref m), (3, .ref (m + 7486 + 9 * s9.toNatClampNeg)), (5, .int v298), (6, .int v332), (7, .ref (m + 596 + 130 * xB.toNatClampNeg)), (8, .ref (m + 596 + 130 * (xB + 1).toNatClampNeg)), (9, .ref (m + 596 + 130 * (xB + 1 + 1).toNatClampNeg)), (10, .ref (m + 596 + 130 * (xB + 1 + 1 + 1).toNatClampNeg)), (12, .int y12_347)]) (st' := []) [(382, .iinc 11 1)] (by decide +kernel) rfl ?_
                          have k113 := zaddC y11_337 1 (n := 1) (by decide) (by omega) (by omega)
                          generalize ev385 : (y11_337 + 1 : Int32) = v385 at k113 ⊢
                          have kv385 := zrng v385
                          refine zp_seg (pc' := 337) (lv' := [(11, .int v385), (0, .ref m), (3, .ref (m + 7486 + 9 * s9.toNatClampNeg)), (5, .int v298), (6, .int v332), (7, .ref (m + 596 + 130 * xB.toNatClampNeg)), (8, .ref (m + 596 + 130 * (xB + 1).toNatClampNeg)), (9, .ref (m + 596 + 130 * (xB + 1 + 1).toNatClampNeg)), (10, .ref (m + 596 + 130 * (xB + 1 + 1 + 1).toNatClampNeg)), (12, .int y12_347)]) (st' := []) [(385, .goto (-48))] (by decide +kernel) rfl ?_
                          have hz114 : (v385.toNatClampNeg : Int) = v385.toInt := znat (by first | omega | decide)
                          exact (ih337 v385 (by first | assumption | omega | decide) (by first | assumption | omega | decide) (by omega)).more (zfa1 rfl (zfa1 rfl (zfa1 rfl (zfa1 rfl (zfa1 rfl (zfa1 rfl (zfa1 rfl (zfa1 rfl (zfa1 rfl (zfa0))))))))))
                        ·
                          have f115 := znltI cc351
                          refine zp_seg (pc' := 368) (lv' := [(0, .ref m), (3, .ref (m + 7486 + 9 * s9.toNatClampNeg)), (5, .int v298), (6, .int v332), (7, .ref (m + 596 + 130 * xB.toNatClampNeg)), (8, .ref (m + 596 + 130 * (xB + 1).toNatClampNeg)), (9, .ref (m + 596 + 130 * (xB + 1 + 1).toNatClampNeg)), (10, .ref (m + 596 + 130 * (xB + 1 + 1 + 1).toNatClampNeg)), (11, .int y11_337), (12, .int y12_347)]) (st' := [.ref (m + 596 + 130 * (xB + 1 + 1 + 1).toNatClampNeg), .ref (m + 596 + 130 * (xB + 1 + 1).toNatClampNeg), .ref (m + 596 + 130 * (xB + 1).toNatClampNeg), .ref (m + 596 + 130 * xB.toNatClampNeg), .int y12_347, .int y11_337, .ref (m + 7486 + 9 * s9.toNatClampNeg), .ref m]) [(354, .aload_n 0), (355, .aload_n 3), (356, .iload 11), (358, .iload 12), (360, .aload 7), (362, .aload 8), (364, .aload 9), (366, .aload 10)] (by decide +kernel) rfl ?_
                          have hb116 : w263 m = some (.inl (15, zMo m (zs (zs (zs (zs (zs g 1 Z9_71) 3 (xB + 1 + 1 + 1 + 1)) 16 Z9_71) 36 L9_227) 37 N9_227) r)) := ((heq263 m (by omega)).trans (heq254 m (by omega))).trans hM243
                          have hb117 := hb57.si ((hsi243.tr hsi254).tr hsi263)
                          have hb118 : w263 (m + 7486 + 9 * s9.toNatClampNeg) = some (.inl (13, zTo (m + 7486 + 9 * s9.toNatClampNeg) g1)) := (heq263 (m + 7486 + 9 * s9.toNatClampNeg) (by omega)).trans hb61
                          have hb119 : w263 (m + 7486 + 9 * s9.toNatClampNeg + 7) = some (.inr (0, 175, .inl fr1)) := ((heq263 (m + 7486 + 9 * s9.toNatClampNeg + 7) (by omega)).trans ((heq254 (m + 7486 + 9 * s9.toNatClampNeg + 7) (by omega)).trans ((heq243 (m + 7486 + 9 * s9.toNatClampNeg + 7) (by omega)).trans ((heq237 (m + 7486 + 9 * s9.toNatClampNeg + 7) (by omega)).trans ((heq227 (m + 7486 + 9 * s9.toNatClampNeg + 7) (by omega)).trans ((heq213 (m + 7486 + 9 * s9.toNatClampNeg + 7) (by omega)).trans ((heq207 (m + 7486 + 9 * s9.toNatClampNeg + 7) (by omega)).trans ((heqL84 (m + 7486 + 9 * s9.toNatClampNeg + 7) (by omega)).trans (heq71 (m + 7486 + 9 * s9.toNatClampNeg + 7) (by omega)))))))))).trans hAr1
                          have hb120 : w263 (m + 191) = some (.inr (5, 4, .inr fT)) := ((heq263 (m + 191) (by omega)).trans ((heq254 (m + 191) (by omega)).trans ((heq243 (m + 191) (by omega)).trans ((heq237 (m + 191) (by omega)).trans ((heq227 (m + 191) (by omega)).trans ((heq213 (m + 191) (by omega)).trans (heq207 (m + 191) (by omega)))))))).trans hVt
                          have hb121 : w263 (m + 192) = some (.inr (5, 4, .inr fU)) := ((heq263 (m + 192) (by omega)).trans ((heq254 (m + 192) (by omega)).trans ((heq243 (m + 192) (by omega)).trans ((heq237 (m + 192) (by omega)).trans ((heq227 (m + 192) (by omega)).trans ((heq213 (m + 192) (by omega)).trans (heq207 (m + 192) (by omega)))))))).trans hVu
                          refine zr_callV (idx := 765) (j := 398) (by decide +kernel) (by decide +kernel) (show zMe 398 = some zq_X16_isRight from rfl) rfl rfl (Nat.le_of_ble_eq_true rfl) rfl rfl hb116 (Nat.le_of_ble_eq_true rfl) (Nat.le_of_ble_eq_true rfl) (c_X16_isRight (w := w263) m (m + 7486 + 9 * s9.toNatClampNeg) y11_337 y12_347 (m + 596 + 130 * xB.toNatClampNeg) (m + 596 + 130 * (xB + 1).toNatClampNeg) (m + 596 + 130 * (xB + 1 + 1).toNatClampNeg) (m + 596 + 130 * (xB + 1 + 1 + 1).toNatClampNeg) (m + 596 + 130 * Z9_71.toNatClampNeg) hb116 hb117 hb118 hb119 hb120 hb121 hb64 hb70 hb77 hp263_0 (by first | omega | decide | assumption | exact zr1_1 | exact zr1_0 | fail "num") (by first | omega | decide | assumption | exact zr1_1 | exact zr1_0 | fail "num") (by exact hKr1) (by exact hTS9)) (by omega) (fun v368 w368 hp368 => ?_)
                          obtain ⟨hpw368, r368, rfl, hrb368, hr368⟩ := hp368
                          replace hpw368 := hpw368.symm
                          subst hpw368
                          have kr368 := zrng r368
                          show zP _ _ _ _ [.int r368] _ _ _ _ _
                          refine zp_if (i := .ifCond .ne 5) (c := ¬ r368 = 0) (t := 376) (e := 374) (lv' := [(0, .ref m), (3, .ref (m + 7486 + 9 * s9.toNatClampNeg)), (5, .int v298), (6, .int v332), (7, .ref (m + 596 + 130 * xB.toNatClampNeg)), (8, .ref (m + 596 + 130 * (xB + 1).toNatClampNeg)), (9, .ref (m + 596 + 130 * (xB + 1 + 1).toNatClampNeg)), (10, .ref (m + 596 + 130 * (xB + 1 + 1 + 1).toNatClampNeg)), (11, .int y11_337), (12, .int y12_347)]) (st' := []) (by decide +kernel) rfl (fun cc371 => ?_) (fun cc371 => ?_)
                          ·
                            have f122 := zneI cc371
                            rw [show (0 : Int32).toInt = 0 from by decide] at f122
                            refine zp_seg (pc' := 379) (lv' := [(12, .int (y12_347 + 1)), (0, .ref m), (3, .ref (m + 7486 + 9 * s9.toNatClampNeg)), (5, .int v298), (6, .int v332), (7, .ref (m + 596 + 130 * xB.toNatClampNeg)), (8, .ref (m + 596 + 130 * (xB + 1).toNatClampNeg)), (9, .ref (m + 596 + 130 * (xB + 1 + 1).toNatClampNeg)), (10, .ref (m + 596 + 130 * (xB + 1 + 1 + 1).toNatClampNeg)), (11, .int y11_337)]) (st' := []) [(376, .iinc 12 1)] (by decide +kernel) rfl ?_
                            have k123 := zaddC y12_347 1 (n := 1) (by decide) (by omega) (by omega)
                            generalize ev379 : (y12_347 + 1 : Int32) = v379 at k123 ⊢
                            have kv379 := zrng v379
                            refine zp_seg (pc' := 347) (lv' := [(12, .int v379), (0, .ref m), (3, .ref (m + 7486 + 9 * s9.toNatClampNeg)), (5, .int v298), (6, .int v332), (7, .ref (m + 596 + 130 * xB.toNatClampNeg)), (8, .ref (m + 596 + 130 * (xB + 1).toNatClampNeg)), (9, .ref (m + 596 + 130 * (xB + 1 + 1).toNatClampNeg)), (10, .ref (m + 596 + 130 * (xB + 1 + 1 + 1).toNatClampNeg)), (11, .int y11_337)]) (st' := []) [(379, .goto (-32))] (by decide +kernel) rfl ?_
                            have hz124 : (v379.toNatClampNeg : Int) = v379.toInt := znat (by first | omega | decide)
                            exact (ih347 v379 (by first | assumption | omega | decide) (by first | assumption | omega | decide) (by omega)).more (zfa1 rfl (zfa1 rfl (zfa1 rfl (zfa1 rfl (zfa1 rfl (zfa1 rfl (zfa1 rfl (zfa1 rfl (zfa1 rfl (zfa1 rfl (zfa0)))))))))))
                          ·
                            replace cc371 := Classical.not_not.mp cc371
                            have f125 := zeqI cc371
                            rw [show (0 : Int32).toInt = 0 from by decide] at f125
                            refine zp_seg (pc' := 375) (lv' := [(0, .ref m), (3, .ref (m + 7486 + 9 * s9.toNatClampNeg)), (5, .int v298), (6, .int v332), (7, .ref (m + 596 + 130 * xB.toNatClampNeg)), (8, .ref (m + 596 + 130 * (xB + 1).toNatClampNeg)), (9, .ref (m + 596 + 130 * (xB + 1 + 1).toNatClampNeg)), (10, .ref (m + 596 + 130 * (xB + 1 + 1 + 1).toNatClampNeg)), (11, .int y11_337), (12, .int y12_347)]) (st' := [.int 0]) [(374, .iconst 0)] (by decide +kernel) rfl ?_
                            have hoffend : ∀ x, (x < m + 0 ∨ m + 0 + 8322 ≤ x) → w263 x = w x := fun x hx => ((heq263 x (by omega)).trans ((heq254 x (by omega)).trans ((heq243 x (by omega)).trans ((heq237 x (by omega)).trans ((heq227 x (by omega)).trans ((heq213 x (by omega)).trans ((heq207 x (by omega)).trans ((heqL84 x ⟨⟨(zx_X16_check_0 hx), (zx_X16_check_1 hx), (zx_X16_check_2 hx), (zx_X16_check_3 hx), (zx_X16_check_4 hx), (zx_X16_check_5 hx), (zx_X16_check_6 hx), (zx_X16_check_7 hx)⟩, (zx_X16_check_8 hx)⟩).trans (heq71 x (zx_X16_check_0 hx))))))))))
                            have hb126 : zSlo w263 (m + 7486) := hSl0.ag (fun x hx1 hx2 => ((heq263 x (by omega)).trans ((heq254 x (by omega)).trans ((heq243 x (by omega)).trans ((heq237 x (by omega)).trans ((heq227 x (by omega)).trans ((heq213 x (by omega)).trans ((heq207 x (by omega)).trans ((heqL84 x ⟨⟨(zx_X16_check_9 hx1 hx2), (zx_X16_check_10 hx1 hx2), (zx_X16_check_11 hx1 hx2), (zx_X16_check_12 hx1 hx2), (zx_X16_check_13 hx1 hx2), (zx_X16_check_14 hx1 hx2), (zx_X16_check_15 hx1 hx2), (zx_X16_check_16 hx1 hx2)⟩, (zx_X16_check_17 hx1 hx2)⟩).trans (heq71 x (zx_X16_check_9 hx1 hx2)))))))))))
                            have hb127 : zTm w263 (m + 83) := hMd0.ag (fun x hx1 hx2 => ((heq263 x (by omega)).trans ((heq254 x (by omega)).trans ((heq243 x (by omega)).trans ((heq237 x (by omega)).trans ((heq227 x (by omega)).trans ((heq213 x (by omega)).trans ((heq207 x (by omega)).trans ((heqL84 x ⟨⟨(zx_X16_check_18 hx1 hx2), (zx_X16_check_19 hx1 hx2), (zx_X16_check_20 hx1 hx2), (zx_X16_check_21 hx1 hx2), (zx_X16_check_22 hx1 hx2), (zx_X16_check_23 hx1 hx2), (zx_X16_check_24 hx1 hx2), (zx_X16_check_25 hx1 hx2)⟩, (zx_X16_check_26 hx1 hx2)⟩).trans (heq71 x (zx_X16_check_18 hx1 hx2)))))))))))
                            have hb128 : zPil w263 (m + 6316) := hPl0.ag (fun x hx1 hx2 => ((heq263 x (by omega)).trans ((heq254 x (by omega)).trans ((heq243 x (by omega)).trans ((heq237 x (by omega)).trans ((heq227 x (by omega)).trans ((heq213 x (by omega)).trans ((heq207 x (by omega)).trans ((heqL84 x ⟨⟨(zx_X16_check_27 hx1 hx2), (zx_X16_check_28 hx1 hx2), (zx_X16_check_29 hx1 hx2), (zx_X16_check_30 hx1 hx2), (zx_X16_check_31 hx1 hx2), (zx_X16_check_32 hx1 hx2), (zx_X16_check_33 hx1 hx2), (zx_X16_check_34 hx1 hx2)⟩, (zx_X16_check_35 hx1 hx2)⟩).trans (heq71 x (zx_X16_check_27 hx1 hx2)))))))))))
                            have hb129 : zBya w263 (m + 92) 4000 := hBo0.ag (fun x hx1 hx2 => ((heq263 x (by omega)).trans ((heq254 x (by omega)).trans ((heq243 x (by omega)).trans ((heq237 x (by omega)).trans ((heq227 x (by omega)).trans ((heq213 x (by omega)).trans ((heq207 x (by omega)).trans ((heqL84 x ⟨⟨(zx_X16_check_36 hx1 hx2), (zx_X16_check_37 hx1 hx2), (zx_X16_check_38 hx1 hx2), (zx_X16_check_39 hx1 hx2), (zx_X16_check_40 hx1 hx2), (zx_X16_check_41 hx1 hx2), (zx_X16_check_42 hx1 hx2), (zx_X16_check_43 hx1 hx2)⟩, (zx_X16_check_44 hx1 hx2)⟩).trans (heq71 x (zx_X16_check_36 hx1 hx2)))))))))))
                            have hb130 : zBya w263 (m + 93) 4000 := hBl0.ag (fun x hx1 hx2 => ((heq263 x (by omega)).trans ((heq254 x (by omega)).trans ((heq243 x (by omega)).trans ((heq237 x (by omega)).trans ((heq227 x (by omega)).trans ((heq213 x (by omega)).trans ((heq207 x (by omega)).trans ((heqL84 x ⟨⟨(zx_X16_check_45 hx1 hx2), (zx_X16_check_46 hx1 hx2), (zx_X16_check_47 hx1 hx2), (zx_X16_check_48 hx1 hx2), (zx_X16_check_49 hx1 hx2), (zx_X16_check_50 hx1 hx2), (zx_X16_check_51 hx1 hx2), (zx_X16_check_52 hx1 hx2)⟩, (zx_X16_check_53 hx1 hx2)⟩).trans (heq71 x (zx_X16_check_45 hx1 hx2)))))))))))
                            have hb131 : zGr w263 (m + 100) 48 48 := hGa0.ag (fun x hx1 hx2 => ((heq263 x (by omega)).trans ((heq254 x (by omega)).trans ((heq243 x (by omega)).trans ((heq237 x (by omega)).trans ((heq227 x (by omega)).trans ((heq213 x (by omega)).trans ((heq207 x (by omega)).trans ((heqL84 x ⟨⟨(zx_X16_check_54 hx1 hx2), (zx_X16_check_55 hx1 hx2), (zx_X16_check_56 hx1 hx2), (zx_X16_check_57 hx1 hx2), (zx_X16_check_58 hx1 hx2), (zx_X16_check_59 hx1 hx2), (zx_X16_check_60 hx1 hx2), (zx_X16_check_61 hx1 hx2)⟩, (zx_X16_check_62 hx1 hx2)⟩).trans (heq71 x (zx_X16_check_54 hx1 hx2)))))))))))
                            have hb132 : zGr w263 (m + 212) 60 46 := hGb0.ag (fun x hx1 hx2 => ((heq263 x (by omega)).trans ((heq254 x (by omega)).trans ((heq243 x (by omega)).trans ((heq237 x (by omega)).trans ((heq227 x (by omega)).trans ((heq213 x (by omega)).trans ((heq207 x (by omega)).trans ((heqL84 x ⟨⟨(zx_X16_check_63 hx1 hx2), (zx_X16_check_64 hx1 hx2), (zx_X16_check_65 hx1 hx2), (zx_X16_check_66 hx1 hx2), (zx_X16_check_67 hx1 hx2), (zx_X16_check_68 hx1 hx2), (zx_X16_check_69 hx1 hx2), (zx_X16_check_70 hx1 hx2)⟩, (zx_X16_check_71 hx1 hx2)⟩).trans (heq71 x (zx_X16_check_63 hx1 hx2)))))))))))
                            have hb133 : zBd w263 (m + 149) := hBd0.ag (fun x hx1 hx2 => ((heq263 x (by omega)).trans ((heq254 x (by omega)).trans ((heq243 x (by omega)).trans ((heq237 x (by omega)).trans ((heq227 x (by omega)).trans ((heq213 x (by omega)).trans ((heq207 x (by omega)).trans ((heqL84 x ⟨⟨(zx_X16_check_72 hx1 hx2), (zx_X16_check_73 hx1 hx2), (zx_X16_check_74 hx1 hx2), (zx_X16_check_75 hx1 hx2), (zx_X16_check_76 hx1 hx2), (zx_X16_check_77 hx1 hx2), (zx_X16_check_78 hx1 hx2), (zx_X16_check_79 hx1 hx2)⟩, (zx_X16_check_80 hx1 hx2)⟩).trans (heq71 x (zx_X16_check_72 hx1 hx2)))))))))))
                            have hb134 : w263 (m + 94) = some (.inr (0, 60, .inl ff)) := ((heq263 (m + 94) (by omega)).trans ((heq254 (m + 94) (by omega)).trans ((heq243 (m + 94) (by omega)).trans ((heq237 (m + 94) (by omega)).trans ((heq227 (m + 94) (by omega)).trans ((heq213 (m + 94) (by omega)).trans ((heq207 (m + 94) (by omega)).trans ((heqL84 (m + 94) ⟨⟨(zx_X16_check_81), (zx_X16_check_82), (zx_X16_check_83), (zx_X16_check_84), (zx_X16_check_85), (zx_X16_check_86), (zx_X16_check_87), (zx_X16_check_88)⟩, (zx_X16_check_89)⟩).trans (heq71 (m + 94) (zx_X16_check_81)))))))))).trans hAf0
                            refine zr_retI (by decide +kernel) rfl ?_
                            rw [← hPost]; exact ⟨rfl, _, rfl, ((((((((hsi71.tr hsiL84).tr hsi207).tr hsi213).tr hsi227).tr hsi237).tr hsi243).tr hsi254).tr hsi263), hoffend, ⟨_, _, hb116, hb117, hb126, hb127, hb128, ⟨_, hb134, hff⟩, hb129, hb130, hb131, hb132, hb133, hI12, hI24, hI29, hI31, hIn⟩, _, rfl, trivial⟩
                      have hl135 : (0 : Int32).toInt = 0 := by decide
                      have hz136 : ((0 : Int32).toNatClampNeg : Int) = 0 := by decide
                      exact (hL347 _ 0 (by first | assumption | omega | decide) (by first | assumption | omega | decide) (Nat.lt_succ_self _)).more (zfa1 rfl (zfa1 rfl (zfa1 rfl (zfa1 rfl (zfa1 rfl (zfa1 rfl (zfa1 rfl (zfa1 rfl (zfa1 rfl (zfa1 rfl (zfa0)))))))))))
                  have hl137 : (0 : Int32).toInt = 0 := by decide
                  have hz138 : ((0 : Int32).toNatClampNeg : Int) = 0 := by decide
                  exact (hL337 _ 0 (by first | assumption | omega | decide) (by first | assumption | omega | decide) (Nat.lt_succ_self _)).more (zfa1 rfl (zfa1 rfl (zfa1 rfl (zfa1 rfl (zfa1 rfl (zfa1 rfl (zfa1 rfl (zfa1 rfl (zfa1 rfl (zfa0))))))))))
                ·
                  replace cc230 := Classical.not_not.mp cc230
                  have f139 := zeqI cc230
                  rw [show (0 : Int32).toInt = 0 from by decide] at f139
                  refine zp_seg (pc' := 235) (lv' := [(8, .ref (m + 596 + 130 * (xB + 1).toNatClampNeg)), (7, .ref (m + 596 + 130 * xB.toNatClampNeg)), (0, .ref m), (3, .ref (m + 7486 + 9 * s9.toNatClampNeg)), (4, .ref (m + 7486 + 9 * s8.toNatClampNeg)), (5, .int y5_84), (6, .int y6_84)]) (st' := [.int (Int32.ofInt (-2))]) [(233, .bipush (-2))] (by decide +kernel) rfl ?_
                  have hoffend : ∀ x, (x < m + 0 ∨ m + 0 + 8322 ≤ x) → w227 x = w x := fun x hx => ((heq227 x (by omega)).trans ((heq213 x (by omega)).trans ((heq207 x (by omega)).trans ((heqL84 x ⟨⟨(zx_X16_check_0 hx), (zx_X16_check_1 hx), (zx_X16_check_2 hx), (zx_X16_check_3 hx), (zx_X16_check_4 hx), (zx_X16_check_5 hx), (zx_X16_check_6 hx), (zx_X16_check_7 hx)⟩, (zx_X16_check_8 hx)⟩).trans (heq71 x (zx_X16_check_0 hx))))))
                  have hb140 := hb51.si hsi227
                  have hb141 : zSlo w227 (m + 7486) := hSl0.ag (fun x hx1 hx2 => ((heq227 x (by omega)).trans ((heq213 x (by omega)).trans ((heq207 x (by omega)).trans ((heqL84 x ⟨⟨(zx_X16_check_9 hx1 hx2), (zx_X16_check_10 hx1 hx2), (zx_X16_check_11 hx1 hx2), (zx_X16_check_12 hx1 hx2), (zx_X16_check_13 hx1 hx2), (zx_X16_check_14 hx1 hx2), (zx_X16_check_15 hx1 hx2), (zx_X16_check_16 hx1 hx2)⟩, (zx_X16_check_17 hx1 hx2)⟩).trans (heq71 x (zx_X16_check_9 hx1 hx2)))))))
                  have hb142 : zTm w227 (m + 83) := hMd0.ag (fun x hx1 hx2 => ((heq227 x (by omega)).trans ((heq213 x (by omega)).trans ((heq207 x (by omega)).trans ((heqL84 x ⟨⟨(zx_X16_check_18 hx1 hx2), (zx_X16_check_19 hx1 hx2), (zx_X16_check_20 hx1 hx2), (zx_X16_check_21 hx1 hx2), (zx_X16_check_22 hx1 hx2), (zx_X16_check_23 hx1 hx2), (zx_X16_check_24 hx1 hx2), (zx_X16_check_25 hx1 hx2)⟩, (zx_X16_check_26 hx1 hx2)⟩).trans (heq71 x (zx_X16_check_18 hx1 hx2)))))))
                  have hb143 : zPil w227 (m + 6316) := hPl0.ag (fun x hx1 hx2 => ((heq227 x (by omega)).trans ((heq213 x (by omega)).trans ((heq207 x (by omega)).trans ((heqL84 x ⟨⟨(zx_X16_check_27 hx1 hx2), (zx_X16_check_28 hx1 hx2), (zx_X16_check_29 hx1 hx2), (zx_X16_check_30 hx1 hx2), (zx_X16_check_31 hx1 hx2), (zx_X16_check_32 hx1 hx2), (zx_X16_check_33 hx1 hx2), (zx_X16_check_34 hx1 hx2)⟩, (zx_X16_check_35 hx1 hx2)⟩).trans (heq71 x (zx_X16_check_27 hx1 hx2)))))))
                  have hb144 : zBya w227 (m + 92) 4000 := hBo0.ag (fun x hx1 hx2 => ((heq227 x (by omega)).trans ((heq213 x (by omega)).trans ((heq207 x (by omega)).trans ((heqL84 x ⟨⟨(zx_X16_check_36 hx1 hx2), (zx_X16_check_37 hx1 hx2), (zx_X16_check_38 hx1 hx2), (zx_X16_check_39 hx1 hx2), (zx_X16_check_40 hx1 hx2), (zx_X16_check_41 hx1 hx2), (zx_X16_check_42 hx1 hx2), (zx_X16_check_43 hx1 hx2)⟩, (zx_X16_check_44 hx1 hx2)⟩).trans (heq71 x (zx_X16_check_36 hx1 hx2)))))))
                  have hb145 : zBya w227 (m + 93) 4000 := hBl0.ag (fun x hx1 hx2 => ((heq227 x (by omega)).trans ((heq213 x (by omega)).trans ((heq207 x (by omega)).trans ((heqL84 x ⟨⟨(zx_X16_check_45 hx1 hx2), (zx_X16_check_46 hx1 hx2), (zx_X16_check_47 hx1 hx2), (zx_X16_check_48 hx1 hx2), (zx_X16_check_49 hx1 hx2), (zx_X16_check_50 hx1 hx2), (zx_X16_check_51 hx1 hx2), (zx_X16_check_52 hx1 hx2)⟩, (zx_X16_check_53 hx1 hx2)⟩).trans (heq71 x (zx_X16_check_45 hx1 hx2)))))))
                  have hb146 : zGr w227 (m + 100) 48 48 := hGa0.ag (fun x hx1 hx2 => ((heq227 x (by omega)).trans ((heq213 x (by omega)).trans ((heq207 x (by omega)).trans ((heqL84 x ⟨⟨(zx_X16_check_54 hx1 hx2), (zx_X16_check_55 hx1 hx2), (zx_X16_check_56 hx1 hx2), (zx_X16_check_57 hx1 hx2), (zx_X16_check_58 hx1 hx2), (zx_X16_check_59 hx1 hx2), (zx_X16_check_60 hx1 hx2), (zx_X16_check_61 hx1 hx2)⟩, (zx_X16_check_62 hx1 hx2)⟩).trans (heq71 x (zx_X16_check_54 hx1 hx2)))))))
                  have hb147 : zGr w227 (m + 212) 60 46 := hGb0.ag (fun x hx1 hx2 => ((heq227 x (by omega)).trans ((heq213 x (by omega)).trans ((heq207 x (by omega)).trans ((heqL84 x ⟨⟨(zx_X16_check_63 hx1 hx2), (zx_X16_check_64 hx1 hx2), (zx_X16_check_65 hx1 hx2), (zx_X16_check_66 hx1 hx2), (zx_X16_check_67 hx1 hx2), (zx_X16_check_68 hx1 hx2), (zx_X16_check_69 hx1 hx2), (zx_X16_check_70 hx1 hx2)⟩, (zx_X16_check_71 hx1 hx2)⟩).trans (heq71 x (zx_X16_check_63 hx1 hx2)))))))
                  have hb148 : zBd w227 (m + 149) := hBd0.ag (fun x hx1 hx2 => ((heq227 x (by omega)).trans ((heq213 x (by omega)).trans ((heq207 x (by omega)).trans ((heqL84 x ⟨⟨(zx_X16_check_72 hx1 hx2), (zx_X16_check_73 hx1 hx2), (zx_X16_check_74 hx1 hx2), (zx_X16_check_75 hx1 hx2), (zx_X16_check_76 hx1 hx2), (zx_X16_check_77 hx1 hx2), (zx_X16_check_78 hx1 hx2), (zx_X16_check_79 hx1 hx2)⟩, (zx_X16_check_80 hx1 hx2)⟩).trans (heq71 x (zx_X16_check_72 hx1 hx2)))))))
                  have hb149 : w227 (m + 94) = some (.inr (0, 60, .inl ff)) := ((heq227 (m + 94) (by omega)).trans ((heq213 (m + 94) (by omega)).trans ((heq207 (m + 94) (by omega)).trans ((heqL84 (m + 94) ⟨⟨(zx_X16_check_81), (zx_X16_check_82), (zx_X16_check_83), (zx_X16_check_84), (zx_X16_check_85), (zx_X16_check_86), (zx_X16_check_87), (zx_X16_check_88)⟩, (zx_X16_check_89)⟩).trans (heq71 (m + 94) (zx_X16_check_81)))))).trans hAf0
                  refine zr_retI (by decide +kernel) rfl ?_
                  rw [← hPost]; exact ⟨rfl, _, rfl, ((((hsi71.tr hsiL84).tr hsi207).tr hsi213).tr hsi227), hoffend, ⟨_, _, hM227, hb140, hb141, hb142, hb143, ⟨_, hb149, hff⟩, hb144, hb145, hb146, hb147, hb148, hI12, hI24, hI29, hI31, hIn⟩, _, rfl, trivial⟩
              ·
                have f151 := znltI cc90
                have k152 := zrng xB
                have hz153 : (xB.toNatClampNeg : Int) = xB.toInt := znat (by first | omega | decide)
                refine zp_seg (pc' := 94) (lv' := [(0, .ref m), (3, .ref (m + 7486 + 9 * s9.toNatClampNeg)), (4, .ref (m + 7486 + 9 * s8.toNatClampNeg)), (5, .int y5_84), (6, .int y6_84), (7, .int y7_84)]) (st' := [.ref m]) [(93, .aload_n 0)] (by decide +kernel) rfl ?_
                refine zr_get (idx := 511) (k := 53) (v := .ref (m + 191)) (by decide +kernel) (by decide +kernel) hxM rfl ?_
                refine zp_seg (pc' := 100) (lv' := [(0, .ref m), (3, .ref (m + 7486 + 9 * s9.toNatClampNeg)), (4, .ref (m + 7486 + 9 * s8.toNatClampNeg)), (5, .int y5_84), (6, .int y6_84), (7, .int y7_84)]) (st' := [.ref m, .int y7_84, .ref (m + 191)]) [(97, .iload 7), (99, .aload_n 0)] (by decide +kernel) rfl ?_
                have hb154 := hR_m.si (hsi71.tr hsiL84)
                refine zr_callV (idx := 140) (j := 274) (by decide +kernel) (by decide +kernel) (show zMe 274 = some zq_X16_newB from rfl) rfl rfl (Nat.le_of_ble_eq_true rfl) rfl rfl hxM (Nat.le_of_ble_eq_true rfl) (Nat.le_of_ble_eq_true rfl) (c_X16_newB (w := wL84) (g3 := xB) m hxM hb154 (by first | omega | decide | assumption | exact zr1_1 | exact zr1_0 | fail "num") rfl) (by omega) (fun v100 w100 hp100 => ?_)
                obtain ⟨hsi100, heq100, hp100_0, hp100_1, rfl⟩ := hp100
                have hM100 : w100 m = some (.inl (15, zMo m (zs (zs (zs (zs (zs g 1 Z9_71) 3 (xB + 1)) 16 Z9_71) 36 xL) 37 xN) r)) := hp100_0
                show zP _ _ _ _ [.ref (m + 596 + 130 * xB.toNatClampNeg), .int y7_84, .ref (m + 191)] _ _ _ _ _
                have hb155 : w100 (m + 191) = some (.inr (5, 4, .inr fT)) := (heq100 (m + 191) (by omega)).trans hVt
                obtain ⟨n156, hb157, hb158, hb159, hb160, -⟩ := id hp100_1
                have kn156 := zrng n156
                refine zr_aast (by decide +kernel) hb155 hb157 (by decide) (zin (by first | omega | decide) (by first | omega | decide)) ?_
                show zP (d + 1) zq_X16_check 104 [(0, .ref m), (3, .ref (m + 7486 + 9 * s9.toNatClampNeg)), (4, .ref (m + 7486 + 9 * s8.toNatClampNeg)), (5, .int y5_84), (6, .int y6_84), (7, .int y7_84)] [] (zup w100 (m + 191) (.inr (5, 4, .inr (va_up fT (y7_84.toNatClampNeg) (some (m + 596 + 130 * xB.toNatClampNeg)))))) sz 0 0 Post
                obtain ⟨w103, ew103⟩ : ∃ wz9, wz9 = zup w100 (m + 191) (.inr (5, 4, .inr (va_up fT (y7_84.toNatClampNeg) (some (m + 596 + 130 * xB.toNatClampNeg))))) := ⟨_, rfl⟩
                have hsi103 : zSI w100 w103 := by rw [ew103]; exact zSI.refs _ hb155 (by decide)
                have heq103 : ∀ x, x ≠ m + 191 → w103 x = w100 x := fun x hx => by rw [ew103]; exact zup_n hx
                have hc103 : w103 (m + 191) = some (.inr (5, 4, .inr (va_up fT (y7_84.toNatClampNeg) (some (m + 596 + 130 * xB.toNatClampNeg))))) := by rw [ew103]; exact zup_s
                rw [← ew103]
                clear ew103
                have k161 := zaddC xB 1 (n := 1) (by decide) (by omega) (by omega)
                have hz162 : ((xB + 1).toNatClampNeg : Int) = (xB + 1).toInt := znat (by first | omega | decide)
                refine zp_seg (pc' := 105) (lv' := [(0, .ref m), (3, .ref (m + 7486 + 9 * s9.toNatClampNeg)), (4, .ref (m + 7486 + 9 * s8.toNatClampNeg)), (5, .int y5_84), (6, .int y6_84), (7, .int y7_84)]) (st' := [.ref m]) [(104, .aload_n 0)] (by decide +kernel) rfl ?_
                have hb163 : w103 m = some (.inl (15, zMo m (zs (zs (zs (zs (zs g 1 Z9_71) 3 (xB + 1)) 16 Z9_71) 36 xL) 37 xN) r)) := (heq103 m (zx_X16_check_92)).trans hM100
                refine zr_get (idx := 514) (k := 54) (v := .ref (m + 192)) (by decide +kernel) (by decide +kernel) hb163 rfl ?_
                refine zp_seg (pc' := 111) (lv' := [(0, .ref m), (3, .ref (m + 7486 + 9 * s9.toNatClampNeg)), (4, .ref (m + 7486 + 9 * s8.toNatClampNeg)), (5, .int y5_84), (6, .int y6_84), (7, .int y7_84)]) (st' := [.ref m, .int y7_84, .ref (m + 192)]) [(108, .iload 7), (110, .aload_n 0)] (by decide +kernel) rfl ?_
                have hb164 := hb154.si (hsi100.tr hsi103)
                refine zr_callV (idx := 140) (j := 274) (by decide +kernel) (by decide +kernel) (show zMe 274 = some zq_X16_newB from rfl) rfl rfl (Nat.le_of_ble_eq_true rfl) rfl rfl hb163 (Nat.le_of_ble_eq_true rfl) (Nat.le_of_ble_eq_true rfl) (c_X16_newB (w := w103) (g3 := (xB + 1)) m hb163 hb164 (by first | omega | decide | assumption | exact zr1_1 | exact zr1_0 | fail "num") rfl) (by omega) (fun v111 w111 hp111 => ?_)
                obtain ⟨hsi111, heq111, hp111_0, hp111_1, rfl⟩ := hp111
                have hM111 : w111 m = some (.inl (15, zMo m (zs (zs (zs (zs (zs g 1 Z9_71) 3 (xB + 1 + 1)) 16 Z9_71) 36 xL) 37 xN) r)) := hp111_0
                show zP _ _ _ _ [.ref (m + 596 + 130 * (xB + 1).toNatClampNeg), .int y7_84, .ref (m + 192)] _ _ _ _ _
                have hb165 : w111 (m + 192) = some (.inr (5, 4, .inr fU)) := ((heq111 (m + 192) (by omega)).trans ((heq103 (m + 192) (zx_X16_check_93)).trans (heq100 (m + 192) (by omega)))).trans hVu
                obtain ⟨n166, hb167, hb168, hb169, hb170, -⟩ := id hp111_1
                have kn166 := zrng n166
                refine zr_aast (by decide +kernel) hb165 hb167 (by decide) (zin (by first | omega | decide) (by first | omega | decide)) ?_
                show zP (d + 1) zq_X16_check 115 [(0, .ref m), (3, .ref (m + 7486 + 9 * s9.toNatClampNeg)), (4, .ref (m + 7486 + 9 * s8.toNatClampNeg)), (5, .int y5_84), (6, .int y6_84), (7, .int y7_84)] [] (zup w111 (m + 192) (.inr (5, 4, .inr (va_up fU (y7_84.toNatClampNeg) (some (m + 596 + 130 * (xB + 1).toNatClampNeg)))))) sz 0 0 Post
                obtain ⟨w114, ew114⟩ : ∃ wz9, wz9 = zup w111 (m + 192) (.inr (5, 4, .inr (va_up fU (y7_84.toNatClampNeg) (some (m + 596 + 130 * (xB + 1).toNatClampNeg))))) := ⟨_, rfl⟩
                have hsi114 : zSI w111 w114 := by rw [ew114]; exact zSI.refs _ hb165 (by decide)
                have heq114 : ∀ x, x ≠ m + 192 → w114 x = w111 x := fun x hx => by rw [ew114]; exact zup_n hx
                have hc114 : w114 (m + 192) = some (.inr (5, 4, .inr (va_up fU (y7_84.toNatClampNeg) (some (m + 596 + 130 * (xB + 1).toNatClampNeg))))) := by rw [ew114]; exact zup_s
                rw [← ew114]
                clear ew114
                have k171 := zaddC (xB + 1) 1 (n := 1) (by decide) (by omega) (by omega)
                have hz172 : ((xB + 1 + 1).toNatClampNeg : Int) = (xB + 1 + 1).toInt := znat (by first | omega | decide)
                refine zp_seg (pc' := 117) (lv' := [(0, .ref m), (3, .ref (m + 7486 + 9 * s9.toNatClampNeg)), (4, .ref (m + 7486 + 9 * s8.toNatClampNeg)), (5, .int y5_84), (6, .int y6_84), (7, .int y7_84)]) (st' := [.ref m, .ref m]) [(115, .aload_n 0), (116, .aload_n 0)] (by decide +kernel) rfl ?_
                have hb173 : w114 m = some (.inl (15, zMo m (zs (zs (zs (zs (zs g 1 Z9_71) 3 (xB + 1 + 1)) 16 Z9_71) 36 xL) 37 xN) r)) := (heq114 m (zx_X16_check_94)).trans hM111
                refine zr_get (idx := 511) (k := 53) (v := .ref (m + 191)) (by decide +kernel) (by decide +kernel) hb173 rfl ?_
                refine zp_seg (pc' := 122) (lv' := [(0, .ref m), (3, .ref (m + 7486 + 9 * s9.toNatClampNeg)), (4, .ref (m + 7486 + 9 * s8.toNatClampNeg)), (5, .int y5_84), (6, .int y6_84), (7, .int y7_84)]) (st' := [.int y7_84, .ref (m + 191), .ref m]) [(120, .iload 7)] (by decide +kernel) rfl ?_
                have hb174 : w114 (m + 191) = some (.inr (5, 4, .inr (va_up fT (y7_84.toNatClampNeg) (some (m + 596 + 130 * xB.toNatClampNeg))))) := ((heq114 (m + 191) (zx_X16_check_95)).trans (heq111 (m + 191) (by omega))).trans hc103
                refine zr_aald (v := .ref (m + 596 + 130 * xB.toNatClampNeg)) (by decide +kernel) hb174 (by decide) (zin (by first | omega | decide) (by first | omega | decide)) (by rw [va_up_self]; rfl) ?_
                refine zp_seg (pc' := 124) (lv' := [(0, .ref m), (3, .ref (m + 7486 + 9 * s9.toNatClampNeg)), (4, .ref (m + 7486 + 9 * s8.toNatClampNeg)), (5, .int y5_84), (6, .int y6_84), (7, .int y7_84)]) (st' := [.ref m, .ref (m + 596 + 130 * xB.toNatClampNeg), .ref m]) [(123, .aload_n 0)] (by decide +kernel) rfl ?_
                refine zr_get (idx := 514) (k := 54) (v := .ref (m + 192)) (by decide +kernel) (by decide +kernel) hb173 rfl ?_
                refine zp_seg (pc' := 129) (lv' := [(0, .ref m), (3, .ref (m + 7486 + 9 * s9.toNatClampNeg)), (4, .ref (m + 7486 + 9 * s8.toNatClampNeg)), (5, .int y5_84), (6, .int y6_84), (7, .int y7_84)]) (st' := [.int y7_84, .ref (m + 192), .ref (m + 596 + 130 * xB.toNatClampNeg), .ref m]) [(127, .iload 7)] (by decide +kernel) rfl ?_
                refine zr_aald (v := .ref (m + 596 + 130 * (xB + 1).toNatClampNeg)) (by decide +kernel) hc114 (by decide) (zin (by first | omega | decide) (by first | omega | decide)) (by rw [va_up_self]; rfl) ?_
                refine zp_seg (pc' := 135) (lv' := [(0, .ref m), (3, .ref (m + 7486 + 9 * s9.toNatClampNeg)), (4, .ref (m + 7486 + 9 * s8.toNatClampNeg)), (5, .int y5_84), (6, .int y6_84), (7, .int y7_84)]) (st' := [.int 0, .int y7_84, .ref (m + 7486 + 9 * s8.toNatClampNeg), .ref (m + 596 + 130 * (xB + 1).toNatClampNeg), .ref (m + 596 + 130 * xB.toNatClampNeg), .ref m]) [(130, .aload 4), (132, .iload 7), (134, .iconst 0)] (by decide +kernel) rfl ?_
                have hb175 := hb164.si (hsi111.tr hsi114)
                have hb176 : zB w114 (m + 596 + 130 * xB.toNatClampNeg) zbZ := hp100_1.ag (fun x hx1 hx2 => ((heq114 x (by omega)).trans ((heq111 x (by omega)).trans (heq103 x (by omega)))))
                have ho135_num := zB.o hb176
                have hb177 : zB w114 (m + 596 + 130 * (xB + 1).toNatClampNeg) zbZ := hp111_1.ag (fun x hx1 hx2 => (heq114 x (by omega)))
                have ho135_den := zB.o hb177
                have hb178 : zTi w114 (m + 7486 + 9 * s8.toNatClampNeg) kS2 := hkS2.ag (fun x hx1 hx2 => ((heq114 x (by omega)).trans ((heq111 x (by omega)).trans ((heq103 x (by omega)).trans ((heq100 x (by omega)).trans ((heqL84 x (by omega)).trans (heq71 x (by omega))))))))
                have hb179 : w114 (m + 7486 + 9 * s8.toNatClampNeg + 1) = some (.inr (0, 325, .inl fn2)) := ((heq114 (m + 7486 + 9 * s8.toNatClampNeg + 1) (by omega)).trans ((heq111 (m + 7486 + 9 * s8.toNatClampNeg + 1) (by omega)).trans ((heq103 (m + 7486 + 9 * s8.toNatClampNeg + 1) (by omega)).trans ((heq100 (m + 7486 + 9 * s8.toNatClampNeg + 1) (by omega)).trans ((heqL84 (m + 7486 + 9 * s8.toNatClampNeg + 1) (by omega)).trans (heq71 (m + 7486 + 9 * s8.toNatClampNeg + 1) (by omega))))))).trans hAn2
                refine zr_callV (idx := 633) (j := 361) (by decide +kernel) (by decide +kernel) (show zMe 361 = some zq_X16_quotient from rfl) rfl rfl (Nat.le_of_ble_eq_true rfl) rfl rfl hb173 (Nat.le_of_ble_eq_true rfl) (Nat.le_of_ble_eq_true rfl) (c_X16_quotient (w := w114) (g1 := Z9_71) (g3 := (xB + 1 + 1)) m (m + 596 + 130 * xB.toNatClampNeg) (m + 596 + 130 * (xB + 1).toNatClampNeg) (m + 7486 + 9 * s8.toNatClampNeg) y7_84 0 hb173 hb175 ho135_num ho135_den hb178 (by first | omega | decide | assumption | exact zr1_1 | exact zr1_0 | fail "num") (by first | omega | decide | assumption | exact zr1_1 | exact zr1_0 | fail "num") (by first | omega | decide | assumption | exact zr1_1 | exact zr1_0 | fail "num") (by first | omega | decide | assumption | exact zr1_1 | exact zr1_0 | fail "num") (by first | omega | decide | assumption | exact zr1_1 | exact zr1_0 | fail "num") (by first | omega | decide | assumption | exact zr1_1 | exact zr1_0 | fail "num") (by exact hkk9) (by exact ⟨_, hb179, hnn9⟩) (by exact ⟨by omega, by decide, by have h9 : (0 : Int32).toInt = 0 := (by decide); omega⟩) rfl rfl) (by omega) (fun v135 w135 hp135 => ?_)
                obtain ⟨L9_135, N9_135, P9_135, Q9_135, hsi135, heq135, hp135_0, hp135_1, hp135_2, hp135_3, r135, rfl, hrb135, hr135⟩ := hp135
                have hM135 : w135 m = some (.inl (15, zMo m (zs (zs (zs (zs (zs g 1 Z9_71) 3 (xB + 1 + 1)) 16 Z9_71) 36 L9_135) 37 N9_135) r)) := hp135_0
                have kr135 := zrng r135
                show zP _ _ _ _ [.int r135] _ _ _ _ _
                refine zp_if (i := .ifCond .ne 6) (c := ¬ r135 = 0) (t := 144) (e := 141) (lv' := [(0, .ref m), (3, .ref (m + 7486 + 9 * s9.toNatClampNeg)), (4, .ref (m + 7486 + 9 * s8.toNatClampNeg)), (5, .int y5_84), (6, .int y6_84), (7, .int y7_84)]) (st' := []) (by decide +kernel) rfl (fun cc138 => ?_) (fun cc138 => ?_)
                ·
                  have f180 := zneI cc138
                  rw [show (0 : Int32).toInt = 0 from by decide] at f180
                  have hqq9 := hr135 (hrb135.resolve_left cc138)
                  refine zp_seg (pc' := 147) (lv' := [(0, .ref m), (3, .ref (m + 7486 + 9 * s9.toNatClampNeg)), (4, .ref (m + 7486 + 9 * s8.toNatClampNeg)), (5, .int y5_84), (6, .int y6_84), (7, .int y7_84)]) (st' := [.ref m, .int y5_84]) [(144, .iload 5), (146, .aload_n 0)] (by decide +kernel) rfl ?_
                  refine zr_get (idx := 511) (k := 53) (v := .ref (m + 191)) (by decide +kernel) (by decide +kernel) hM135 rfl ?_
                  refine zp_seg (pc' := 152) (lv' := [(0, .ref m), (3, .ref (m + 7486 + 9 * s9.toNatClampNeg)), (4, .ref (m + 7486 + 9 * s8.toNatClampNeg)), (5, .int y5_84), (6, .int y6_84), (7, .int y7_84)]) (st' := [.int y7_84, .ref (m + 191), .int y5_84]) [(150, .iload 7)] (by decide +kernel) rfl ?_
                  have hb181 : w135 (m + 191) = some (.inr (5, 4, .inr (va_up fT (y7_84.toNatClampNeg) (some (m + 596 + 130 * xB.toNatClampNeg))))) := (heq135 (m + 191) (by omega)).trans hb174
                  refine zr_aald (v := .ref (m + 596 + 130 * xB.toNatClampNeg)) (by decide +kernel) hb181 (by decide) (zin (by first | omega | decide) (by first | omega | decide)) (by rw [va_up_self]; rfl) ?_
                  obtain ⟨n182, hb183, hb184, hb185, hb186, -⟩ := id hp135_1
                  have kn182 := zrng n182
                  refine zr_callV (idx := 119) (j := 248) (by decide +kernel) (by decide +kernel) (show zMe 248 = some zq_X12_degreeN from rfl) rfl rfl (Nat.le_of_ble_eq_true rfl) rfl rfl hb183 (Nat.le_of_ble_eq_true rfl) (Nat.le_of_ble_eq_true rfl) (c_X12_degreeN (w := w135) (m + 596 + 130 * xB.toNatClampNeg) hp135_1) (by omega) (fun v153 w153 hp153 => ?_)
                  obtain ⟨hpw153, r153, rfl, hr153⟩ := hp153
                  replace hpw153 := hpw153.symm
                  subst hpw153
                  have kr153 := zrng r153
                  show zP _ _ _ _ [.int r153, .int y5_84] _ _ _ _ _
                  refine zp_seg (pc' := 157) (lv' := [(0, .ref m), (3, .ref (m + 7486 + 9 * s9.toNatClampNeg)), (4, .ref (m + 7486 + 9 * s8.toNatClampNeg)), (5, .int y5_84), (6, .int y6_84), (7, .int y7_84)]) (st' := [.ref m, .int r153, .int y5_84]) [(156, .aload_n 0)] (by decide +kernel) rfl ?_
                  refine zr_get (idx := 514) (k := 54) (v := .ref (m + 192)) (by decide +kernel) (by decide +kernel) hM135 rfl ?_
                  refine zp_seg (pc' := 162) (lv' := [(0, .ref m), (3, .ref (m + 7486 + 9 * s9.toNatClampNeg)), (4, .ref (m + 7486 + 9 * s8.toNatClampNeg)), (5, .int y5_84), (6, .int y6_84), (7, .int y7_84)]) (st' := [.int y7_84, .ref (m + 192), .int r153, .int y5_84]) [(160, .iload 7)] (by decide +kernel) rfl ?_
                  have hb187 : w135 (m + 192) = some (.inr (5, 4, .inr (va_up fU (y7_84.toNatClampNeg) (some (m + 596 + 130 * (xB + 1).toNatClampNeg))))) := (heq135 (m + 192) (by omega)).trans hc114
                  refine zr_aald (v := .ref (m + 596 + 130 * (xB + 1).toNatClampNeg)) (by decide +kernel) hb187 (by decide) (zin (by first | omega | decide) (by first | omega | decide)) (by rw [va_up_self]; rfl) ?_
                  obtain ⟨n188, hb189, hb190, hb191, hb192, -⟩ := id hp135_2
                  have kn188 := zrng n188
                  refine zr_callV (idx := 119) (j := 248) (by decide +kernel) (by decide +kernel) (show zMe 248 = some zq_X12_degreeN from rfl) rfl rfl (Nat.le_of_ble_eq_true rfl) rfl rfl hb189 (Nat.le_of_ble_eq_true rfl) (Nat.le_of_ble_eq_true rfl) (c_X12_degreeN (w := w135) (m + 596 + 130 * (xB + 1).toNatClampNeg) hp135_2) (by omega) (fun v163 w163 hp163 => ?_)
                  obtain ⟨hpw163, r163, rfl, hr163⟩ := hp163
                  replace hpw163 := hpw163.symm
                  subst hpw163
                  have kr163 := zrng r163
                  show zP _ _ _ _ [.int r163, .int r153, .int y5_84] _ _ _ _ _
                  refine zr_max (idx := 40) (by decide +kernel) (by decide +kernel) (by omega) (Nat.le_of_ble_eq_true rfl) ?_
                  obtain ⟨m193, em193, hm193⟩ := zmaxI r153 r163
                  rw [← em193]
                  have km193 := zrng m193
                  refine zp_seg (pc' := 170) (lv' := [(0, .ref m), (3, .ref (m + 7486 + 9 * s9.toNatClampNeg)), (4, .ref (m + 7486 + 9 * s8.toNatClampNeg)), (5, .int y5_84), (6, .int y6_84), (7, .int y7_84)]) (st' := [.int (y5_84 + m193)]) [(169, .iadd)] (by decide +kernel) rfl ?_
                  have k194 := zadd y5_84 m193 (by omega) (by omega)
                  generalize ev170 : (y5_84 + m193 : Int32) = v170 at k194 ⊢
                  have kv170 := zrng v170
                  refine zp_seg (pc' := 175) (lv' := [(5, .int v170), (0, .ref m), (3, .ref (m + 7486 + 9 * s9.toNatClampNeg)), (4, .ref (m + 7486 + 9 * s8.toNatClampNeg)), (6, .int y6_84), (7, .int y7_84)]) (st' := [.ref m, .int y6_84]) [(170, .istore 5), (172, .iload 6), (174, .aload_n 0)] (by decide +kernel) rfl ?_
                  refine zr_get (idx := 511) (k := 53) (v := .ref (m + 191)) (by decide +kernel) (by decide +kernel) hM135 rfl ?_
                  refine zp_seg (pc' := 180) (lv' := [(5, .int v170), (0, .ref m), (3, .ref (m + 7486 + 9 * s9.toNatClampNeg)), (4, .ref (m + 7486 + 9 * s8.toNatClampNeg)), (6, .int y6_84), (7, .int y7_84)]) (st' := [.int y7_84, .ref (m + 191), .int y6_84]) [(178, .iload 7)] (by decide +kernel) rfl ?_
                  refine zr_aald (v := .ref (m + 596 + 130 * xB.toNatClampNeg)) (by decide +kernel) hb181 (by decide) (zin (by first | omega | decide) (by first | omega | decide)) (by rw [va_up_self]; rfl) ?_
                  refine zr_callV (idx := 314) (j := 249) (by decide +kernel) (by decide +kernel) (show zMe 249 = some zq_X12_degreeK from rfl) rfl rfl (Nat.le_of_ble_eq_true rfl) rfl rfl hb183 (Nat.le_of_ble_eq_true rfl) (Nat.le_of_ble_eq_true rfl) (c_X12_degreeK (w := w135) (m + 596 + 130 * xB.toNatClampNeg) hp135_1) (by omega) (fun v181 w181 hp181 => ?_)
                  obtain ⟨hpw181, r181, rfl, hr181⟩ := hp181
                  replace hpw181 := hpw181.symm
                  subst hpw181
                  have kr181 := zrng r181
                  show zP _ _ _ _ [.int r181, .int y6_84] _ _ _ _ _
                  refine zp_seg (pc' := 185) (lv' := [(5, .int v170), (0, .ref m), (3, .ref (m + 7486 + 9 * s9.toNatClampNeg)), (4, .ref (m + 7486 + 9 * s8.toNatClampNeg)), (6, .int y6_84), (7, .int y7_84)]) (st' := [.ref m, .int r181, .int y6_84]) [(184, .aload_n 0)] (by decide +kernel) rfl ?_
                  refine zr_get (idx := 514) (k := 54) (v := .ref (m + 192)) (by decide +kernel) (by decide +kernel) hM135 rfl ?_
                  refine zp_seg (pc' := 190) (lv' := [(5, .int v170), (0, .ref m), (3, .ref (m + 7486 + 9 * s9.toNatClampNeg)), (4, .ref (m + 7486 + 9 * s8.toNatClampNeg)), (6, .int y6_84), (7, .int y7_84)]) (st' := [.int y7_84, .ref (m + 192), .int r181, .int y6_84]) [(188, .iload 7)] (by decide +kernel) rfl ?_
                  refine zr_aald (v := .ref (m + 596 + 130 * (xB + 1).toNatClampNeg)) (by decide +kernel) hb187 (by decide) (zin (by first | omega | decide) (by first | omega | decide)) (by rw [va_up_self]; rfl) ?_
                  refine zr_callV (idx := 314) (j := 249) (by decide +kernel) (by decide +kernel) (show zMe 249 = some zq_X12_degreeK from rfl) rfl rfl (Nat.le_of_ble_eq_true rfl) rfl rfl hb189 (Nat.le_of_ble_eq_true rfl) (Nat.le_of_ble_eq_true rfl) (c_X12_degreeK (w := w135) (m + 596 + 130 * (xB + 1).toNatClampNeg) hp135_2) (by omega) (fun v191 w191 hp191 => ?_)
                  obtain ⟨hpw191, r191, rfl, hr191⟩ := hp191
                  replace hpw191 := hpw191.symm
                  subst hpw191
                  have kr191 := zrng r191
                  show zP _ _ _ _ [.int r191, .int r181, .int y6_84] _ _ _ _ _
                  refine zr_max (idx := 40) (by decide +kernel) (by decide +kernel) (by omega) (Nat.le_of_ble_eq_true rfl) ?_
                  obtain ⟨m195, em195, hm195⟩ := zmaxI r181 r191
                  rw [← em195]
                  have km195 := zrng m195
                  refine zp_seg (pc' := 198) (lv' := [(5, .int v170), (0, .ref m), (3, .ref (m + 7486 + 9 * s9.toNatClampNeg)), (4, .ref (m + 7486 + 9 * s8.toNatClampNeg)), (6, .int y6_84), (7, .int y7_84)]) (st' := [.int (y6_84 + m195)]) [(197, .iadd)] (by decide +kernel) rfl ?_
                  have k196 := zadd y6_84 m195 (by omega) (by omega)
                  generalize ev198 : (y6_84 + m195 : Int32) = v198 at k196 ⊢
                  have kv198 := zrng v198
                  refine zp_seg (pc' := 203) (lv' := [(7, .int (y7_84 + 1)), (6, .int v198), (5, .int v170), (0, .ref m), (3, .ref (m + 7486 + 9 * s9.toNatClampNeg)), (4, .ref (m + 7486 + 9 * s8.toNatClampNeg))]) (st' := []) [(198, .istore 6), (200, .iinc 7 1)] (by decide +kernel) rfl ?_
                  have k197 := zaddC y7_84 1 (n := 1) (by decide) (by omega) (by omega)
                  generalize ev203 : (y7_84 + 1 : Int32) = v203 at k197 ⊢
                  have kv203 := zrng v203
                  refine zp_seg (pc' := 84) (lv' := [(7, .int v203), (6, .int v198), (5, .int v170), (0, .ref m), (3, .ref (m + 7486 + 9 * s9.toNatClampNeg)), (4, .ref (m + 7486 + 9 * s8.toNatClampNeg))]) (st' := []) [(203, .goto (-119))] (by decide +kernel) rfl ?_
                  have hz198 : (v203.toNatClampNeg : Int) = v203.toInt := znat (by first | omega | decide)
                  exact (ih84 w135 v170 v198 v203 (((xB + 1 + 1))) (L9_135) (N9_135) ((va_up fT (y7_84.toNatClampNeg) (some (m + 596 + 130 * xB.toNatClampNeg)))) ((va_up fU (y7_84.toNatClampNeg) (some (m + 596 + 130 * (xB + 1).toNatClampNeg)))) (((((hsiL84.tr hsi100).tr hsi103).tr hsi111).tr hsi114).tr hsi135) (fun x hx => ((heq135 x (by omega)).trans ((heq114 x (zx_X16_check_97 hx.1.2.2.1)).trans ((heq111 x (by omega)).trans ((heq103 x (zx_X16_check_96 hx.1.2.1)).trans ((heq100 x (by omega)).trans (heqL84 x ⟨⟨hx.1.1, hx.1.2.1, hx.1.2.2.1, hx.1.2.2.2.1, hx.1.2.2.2.2.1, hx.1.2.2.2.2.2.1, hx.1.2.2.2.2.2.2.1, hx.1.2.2.2.2.2.2.2⟩, hx.2⟩))))))) (by first | assumption | omega | decide) (by first | assumption | omega | decide) (by first | assumption | omega | decide) (by first | assumption | omega | decide) (by first | assumption | omega | decide) (by first | assumption | omega | decide) (by
                        exact hM135) hb181 hb187 (by
                        have z8 := zaddC xB 1 (n := 1) (by decide) (by omega) (by omega)
                        have z9 := zaddC (xB + 1) 1 (n := 1) (by decide) (by omega) (by omega)
                        omega) (by
                        intro t ht
                        have hzT := znat (x := xB) (by omega)
                        by_cases e : t = y7_84.toNatClampNeg
                        · rw [e, va_up_self, va_up_self, ← show m + 596 + 130 * xB.toNatClampNeg = m + 596 + 130 * Z9_71.toNatClampNeg + 260 * y7_84.toNatClampNeg by omega, ← show m + 596 + 130 * (xB + 1).toNatClampNeg = m + 596 + 130 * Z9_71.toNatClampNeg + 130 + 260 * y7_84.toNatClampNeg by omega]
                          exact ⟨rfl, rfl, ⟨_, hp135_1⟩, _, hp135_2⟩
                        · rw [va_up_ne _ _ e, va_up_ne _ _ e]
                          obtain ⟨h1, h2, ⟨P, h3⟩, Q, h4⟩ := hft9 t (by omega)
                          exact ⟨h1, h2, ⟨P, h3.ag (fun x g1 g2 => ((heq135 x (by omega)).trans ((heq114 x (by omega)).trans ((heq111 x (by omega)).trans ((heq103 x (by omega)).trans (heq100 x (by omega)))))))⟩, Q, h4.ag (fun x g1 g2 => ((heq135 x (by omega)).trans ((heq114 x (by omega)).trans ((heq111 x (by omega)).trans ((heq103 x (by omega)).trans (heq100 x (by omega)))))))⟩) (by omega)).more (zfa1 rfl (zfa1 rfl (zfa1 rfl (zfa1 rfl (zfa1 rfl (zfa1 rfl (zfa0)))))))
                ·
                  replace cc138 := Classical.not_not.mp cc138
                  have f199 := zeqI cc138
                  rw [show (0 : Int32).toInt = 0 from by decide] at f199
                  refine zp_seg (pc' := 143) (lv' := [(0, .ref m), (3, .ref (m + 7486 + 9 * s9.toNatClampNeg)), (4, .ref (m + 7486 + 9 * s8.toNatClampNeg)), (5, .int y5_84), (6, .int y6_84), (7, .int y7_84)]) (st' := [.int (Int32.ofInt (-2))]) [(141, .bipush (-2))] (by decide +kernel) rfl ?_
                  have hoffend : ∀ x, (x < m + 0 ∨ m + 0 + 8322 ≤ x) → w135 x = w x := fun x hx => ((heq135 x (by omega)).trans ((heq114 x (zx_X16_check_99 hx)).trans ((heq111 x (by omega)).trans ((heq103 x (zx_X16_check_98 hx)).trans ((heq100 x (by omega)).trans ((heqL84 x ⟨⟨(zx_X16_check_0 hx), (zx_X16_check_1 hx), (zx_X16_check_2 hx), (zx_X16_check_3 hx), (zx_X16_check_4 hx), (zx_X16_check_5 hx), (zx_X16_check_6 hx), (zx_X16_check_7 hx)⟩, (zx_X16_check_8 hx)⟩).trans (heq71 x (zx_X16_check_0 hx))))))))
                  have hb200 := hb175.si hsi135
                  have hb201 : zSlo w135 (m + 7486) := hSl0.ag (fun x hx1 hx2 => ((heq135 x (by omega)).trans ((heq114 x (zx_X16_check_101 hx1 hx2)).trans ((heq111 x (by omega)).trans ((heq103 x (zx_X16_check_100 hx1 hx2)).trans ((heq100 x (by omega)).trans ((heqL84 x ⟨⟨(zx_X16_check_9 hx1 hx2), (zx_X16_check_10 hx1 hx2), (zx_X16_check_11 hx1 hx2), (zx_X16_check_12 hx1 hx2), (zx_X16_check_13 hx1 hx2), (zx_X16_check_14 hx1 hx2), (zx_X16_check_15 hx1 hx2), (zx_X16_check_16 hx1 hx2)⟩, (zx_X16_check_17 hx1 hx2)⟩).trans (heq71 x (zx_X16_check_9 hx1 hx2)))))))))
                  have hb202 : zTm w135 (m + 83) := hMd0.ag (fun x hx1 hx2 => ((heq135 x (by omega)).trans ((heq114 x (zx_X16_check_103 hx1 hx2)).trans ((heq111 x (by omega)).trans ((heq103 x (zx_X16_check_102 hx1 hx2)).trans ((heq100 x (by omega)).trans ((heqL84 x ⟨⟨(zx_X16_check_18 hx1 hx2), (zx_X16_check_19 hx1 hx2), (zx_X16_check_20 hx1 hx2), (zx_X16_check_21 hx1 hx2), (zx_X16_check_22 hx1 hx2), (zx_X16_check_23 hx1 hx2), (zx_X16_check_24 hx1 hx2), (zx_X16_check_25 hx1 hx2)⟩, (zx_X16_check_26 hx1 hx2)⟩).trans (heq71 x (zx_X16_check_18 hx1 hx2)))))))))
                  have hb203 : zPil w135 (m + 6316) := hPl0.ag (fun x hx1 hx2 => ((heq135 x (by omega)).trans ((heq114 x (zx_X16_check_105 hx1 hx2)).trans ((heq111 x (by omega)).trans ((heq103 x (zx_X16_check_104 hx1 hx2)).trans ((heq100 x (by omega)).trans ((heqL84 x ⟨⟨(zx_X16_check_27 hx1 hx2), (zx_X16_check_28 hx1 hx2), (zx_X16_check_29 hx1 hx2), (zx_X16_check_30 hx1 hx2), (zx_X16_check_31 hx1 hx2), (zx_X16_check_32 hx1 hx2), (zx_X16_check_33 hx1 hx2), (zx_X16_check_34 hx1 hx2)⟩, (zx_X16_check_35 hx1 hx2)⟩).trans (heq71 x (zx_X16_check_27 hx1 hx2)))))))))
                  have hb204 : zBya w135 (m + 92) 4000 := hBo0.ag (fun x hx1 hx2 => ((heq135 x (by omega)).trans ((heq114 x (zx_X16_check_107 hx1 hx2)).trans ((heq111 x (by omega)).trans ((heq103 x (zx_X16_check_106 hx1 hx2)).trans ((heq100 x (by omega)).trans ((heqL84 x ⟨⟨(zx_X16_check_36 hx1 hx2), (zx_X16_check_37 hx1 hx2), (zx_X16_check_38 hx1 hx2), (zx_X16_check_39 hx1 hx2), (zx_X16_check_40 hx1 hx2), (zx_X16_check_41 hx1 hx2), (zx_X16_check_42 hx1 hx2), (zx_X16_check_43 hx1 hx2)⟩, (zx_X16_check_44 hx1 hx2)⟩).trans (heq71 x (zx_X16_check_36 hx1 hx2)))))))))
                  have hb205 : zBya w135 (m + 93) 4000 := hBl0.ag (fun x hx1 hx2 => ((heq135 x (by omega)).trans ((heq114 x (zx_X16_check_109 hx1 hx2)).trans ((heq111 x (by omega)).trans ((heq103 x (zx_X16_check_108 hx1 hx2)).trans ((heq100 x (by omega)).trans ((heqL84 x ⟨⟨(zx_X16_check_45 hx1 hx2), (zx_X16_check_46 hx1 hx2), (zx_X16_check_47 hx1 hx2), (zx_X16_check_48 hx1 hx2), (zx_X16_check_49 hx1 hx2), (zx_X16_check_50 hx1 hx2), (zx_X16_check_51 hx1 hx2), (zx_X16_check_52 hx1 hx2)⟩, (zx_X16_check_53 hx1 hx2)⟩).trans (heq71 x (zx_X16_check_45 hx1 hx2)))))))))
                  have hb206 : zGr w135 (m + 100) 48 48 := hGa0.ag (fun x hx1 hx2 => ((heq135 x (by omega)).trans ((heq114 x (zx_X16_check_111 hx1 hx2)).trans ((heq111 x (by omega)).trans ((heq103 x (zx_X16_check_110 hx1 hx2)).trans ((heq100 x (by omega)).trans ((heqL84 x ⟨⟨(zx_X16_check_54 hx1 hx2), (zx_X16_check_55 hx1 hx2), (zx_X16_check_56 hx1 hx2), (zx_X16_check_57 hx1 hx2), (zx_X16_check_58 hx1 hx2), (zx_X16_check_59 hx1 hx2), (zx_X16_check_60 hx1 hx2), (zx_X16_check_61 hx1 hx2)⟩, (zx_X16_check_62 hx1 hx2)⟩).trans (heq71 x (zx_X16_check_54 hx1 hx2)))))))))
                  have hb207 : zGr w135 (m + 212) 60 46 := hGb0.ag (fun x hx1 hx2 => ((heq135 x (by omega)).trans ((heq114 x (zx_X16_check_113 hx1 hx2)).trans ((heq111 x (by omega)).trans ((heq103 x (zx_X16_check_112 hx1 hx2)).trans ((heq100 x (by omega)).trans ((heqL84 x ⟨⟨(zx_X16_check_63 hx1 hx2), (zx_X16_check_64 hx1 hx2), (zx_X16_check_65 hx1 hx2), (zx_X16_check_66 hx1 hx2), (zx_X16_check_67 hx1 hx2), (zx_X16_check_68 hx1 hx2), (zx_X16_check_69 hx1 hx2), (zx_X16_check_70 hx1 hx2)⟩, (zx_X16_check_71 hx1 hx2)⟩).trans (heq71 x (zx_X16_check_63 hx1 hx2)))))))))
                  have hb208 : zBd w135 (m + 149) := hBd0.ag (fun x hx1 hx2 => ((heq135 x (by omega)).trans ((heq114 x (zx_X16_check_115 hx1 hx2)).trans ((heq111 x (by omega)).trans ((heq103 x (zx_X16_check_114 hx1 hx2)).trans ((heq100 x (by omega)).trans ((heqL84 x ⟨⟨(zx_X16_check_72 hx1 hx2), (zx_X16_check_73 hx1 hx2), (zx_X16_check_74 hx1 hx2), (zx_X16_check_75 hx1 hx2), (zx_X16_check_76 hx1 hx2), (zx_X16_check_77 hx1 hx2), (zx_X16_check_78 hx1 hx2), (zx_X16_check_79 hx1 hx2)⟩, (zx_X16_check_80 hx1 hx2)⟩).trans (heq71 x (zx_X16_check_72 hx1 hx2)))))))))
                  have hb209 : w135 (m + 94) = some (.inr (0, 60, .inl ff)) := ((heq135 (m + 94) (by omega)).trans ((heq114 (m + 94) (zx_X16_check_117)).trans ((heq111 (m + 94) (by omega)).trans ((heq103 (m + 94) (zx_X16_check_116)).trans ((heq100 (m + 94) (by omega)).trans ((heqL84 (m + 94) ⟨⟨(zx_X16_check_81), (zx_X16_check_82), (zx_X16_check_83), (zx_X16_check_84), (zx_X16_check_85), (zx_X16_check_86), (zx_X16_check_87), (zx_X16_check_88)⟩, (zx_X16_check_89)⟩).trans (heq71 (m + 94) (zx_X16_check_81)))))))).trans hAf0
                  refine zr_retI (by decide +kernel) rfl ?_
                  rw [← hPost]; exact ⟨rfl, _, rfl, ((((((hsi71.tr hsiL84).tr hsi100).tr hsi103).tr hsi111).tr hsi114).tr hsi135), hoffend, ⟨_, _, hM135, hb200, hb201, hb202, hb203, ⟨_, hb209, hff⟩, hb204, hb205, hb206, hb207, hb208, hI12, hI24, hI29, hI31, hIn⟩, _, rfl, trivial⟩
            have hl211 : (24 : Int32).toInt = 24 := by decide
            have hl212 : (0 : Int32).toInt = 0 := by decide
            have hz213 : ((0 : Int32).toNatClampNeg : Int) = 0 := by decide
            have hb214 := hR_m.si hsi71
            obtain ⟨f215, hb216⟩ := zR_va hb214 (j := 191) (t := 5) (n := 4) (by decide) rfl
            obtain ⟨f217, hb218⟩ := zR_va hb214 (j := 192) (t := 5) (n := 4) (by decide) rfl
            exact (hL84 _ w71 24 0 0 (Z9_71) ((g 36)) ((g 37)) (f215) (f217) zSI.rf (fun _ _ => rfl) (by first | assumption | omega | decide) (by first | assumption | omega | decide) (by first | assumption | omega | decide) (by first | assumption | omega | decide) (by first | assumption | omega | decide) (by first | assumption | omega | decide) (by
                  exact hM71) hb216 hb218 (by
                  omega) (by
                  exact fun t ht => absurd ht (by omega)) (Nat.lt_succ_self _)).more (zfa1 rfl (zfa1 rfl (zfa1 rfl (zfa1 rfl (zfa1 rfl (zfa1 rfl (zfa0)))))))
          ·
            have f219 := zneI cc65
            rw [show (0 : Int32).toInt = 0 from by decide] at f219
            refine zp_seg (pc' := 69) (lv' := [(0, .ref m), (3, .ref (m + 7486 + 9 * s9.toNatClampNeg)), (4, .ref (m + 7486 + 9 * s8.toNatClampNeg))]) (st' := [.int (Int32.ofInt (-1))]) [(68, .iconst (-1))] (by decide +kernel) rfl ?_
            have hoffend : ∀ x, (x < m + 0 ∨ m + 0 + 8322 ≤ x) → w x = w x := fun x hx => rfl
            refine zr_retI (by decide +kernel) rfl ?_
            rw [← hPost]; exact ⟨rfl, _, rfl, zSI.rf, hoffend, ⟨_, _, hm, hR_m, hSl0, hMd0, hPl0, ⟨_, hAf0, hff⟩, hBo0, hBl0, hGa0, hGb0, hBd0, hI12, hI24, hI29, hI31, hIn⟩, _, rfl, trivial⟩
        refine zp_if (i := .if_icmp .eq 15) (c := (g2 0) = 1) (t := 60) (e := 48) (lv' := [(4, .ref (m + 7486 + 9 * s8.toNatClampNeg)), (3, .ref (m + 7486 + 9 * s9.toNatClampNeg)), (0, .ref m), (1, .int s9), (2, .int s8)]) (st' := []) (by decide +kernel) rfl (fun cc45 => ?_) (fun cc45 => ?_)
        ·
          have k221 := zrng (g2 0)
          have f223 := zeqI cc45
          rw [show (1 : Int32).toInt = 1 from by decide] at f223
          exact (hJ60 trivial (by
                first | exact Or.inl (hK20.symm.trans cc45) | exact Or.inr (hK20.symm.trans cc54))).more (zfa1 rfl (zfa1 rfl (zfa1 rfl (zfa0))))
        ·
          have k224 := zrng (g2 0)
          have f226 := zneI cc45
          rw [show (1 : Int32).toInt = 1 from by decide] at f226
          refine zp_seg (pc' := 50) (lv' := [(4, .ref (m + 7486 + 9 * s8.toNatClampNeg)), (3, .ref (m + 7486 + 9 * s9.toNatClampNeg)), (0, .ref m), (1, .int s9), (2, .int s8)]) (st' := [.ref (m + 7486 + 9 * s8.toNatClampNeg)]) [(48, .aload 4)] (by decide +kernel) rfl ?_
          refine zr_get (idx := 202) (k := 0) (v := .int (g2 0)) (by decide +kernel) (by decide +kernel) hT2 rfl ?_
          refine zp_seg (pc' := 54) (lv' := [(4, .ref (m + 7486 + 9 * s8.toNatClampNeg)), (3, .ref (m + 7486 + 9 * s9.toNatClampNeg)), (0, .ref m), (1, .int s9), (2, .int s8)]) (st' := [.int 2, .int (g2 0)]) [(53, .iconst 2)] (by decide +kernel) rfl ?_
          refine zp_if (i := .if_icmp .eq 6) (c := (g2 0) = 2) (t := 60) (e := 57) (lv' := [(4, .ref (m + 7486 + 9 * s8.toNatClampNeg)), (3, .ref (m + 7486 + 9 * s9.toNatClampNeg)), (0, .ref m), (1, .int s9), (2, .int s8)]) (st' := []) (by decide +kernel) rfl (fun cc54 => ?_) (fun cc54 => ?_)
          ·
            have f228 := zeqI cc54
            rw [show (2 : Int32).toInt = 2 from by decide] at f228
            exact (hJ60 trivial (by
                  first | exact Or.inl (hK20.symm.trans cc45) | exact Or.inr (hK20.symm.trans cc54))).more (zfa1 rfl (zfa1 rfl (zfa1 rfl (zfa0))))
          ·
            have f230 := zneI cc54
            rw [show (2 : Int32).toInt = 2 from by decide] at f230
            refine zp_seg (pc' := 59) (lv' := [(4, .ref (m + 7486 + 9 * s8.toNatClampNeg)), (3, .ref (m + 7486 + 9 * s9.toNatClampNeg)), (0, .ref m), (1, .int s9), (2, .int s8)]) (st' := [.int (Int32.ofInt (-3))]) [(57, .bipush (-3))] (by decide +kernel) rfl ?_
            have hoffend : ∀ x, (x < m + 0 ∨ m + 0 + 8322 ≤ x) → w x = w x := fun x hx => rfl
            refine zr_retI (by decide +kernel) rfl ?_
            rw [← hPost]; exact ⟨rfl, _, rfl, zSI.rf, hoffend, ⟨_, _, hm, hR_m, hSl0, hMd0, hPl0, ⟨_, hAf0, hff⟩, hBo0, hBl0, hGa0, hGb0, hBd0, hI12, hI24, hI29, hI31, hIn⟩, _, rfl, trivial⟩
    ·
      replace cc11 := Classical.not_not.mp cc11
      have f232 := zeqI cc11
      rw [show (0 : Int32).toInt = 0 from by decide] at f232
      refine zp_seg (pc' := 15) (lv' := [(0, .ref m), (1, .int s9), (2, .int s8)]) (st' := [.int (Int32.ofInt (-1))]) [(14, .iconst (-1))] (by decide +kernel) rfl ?_
      have hoffend : ∀ x, (x < m + 0 ∨ m + 0 + 8322 ≤ x) → w x = w x := fun x hx => rfl
      refine zr_retI (by decide +kernel) rfl ?_
      rw [← hPost]; exact ⟨rfl, _, rfl, zSI.rf, hoffend, ⟨_, _, hm, hR_m, hSl0, hMd0, hPl0, ⟨_, hAf0, hff⟩, hBo0, hBl0, hGa0, hGb0, hBd0, hI12, hI24, hI29, hI31, hIn⟩, _, rfl, trivial⟩
