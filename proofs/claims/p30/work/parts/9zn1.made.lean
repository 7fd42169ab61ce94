theorem zx_X16_copyM_0 {t to : Nat} (h0 : to + 9 ≤ t ∨ t + 9 ≤ to) : t ≠ to := by omega
theorem zx_X16_copyM_1 {t to : Nat} (h0 : to + 9 ≤ t ∨ t + 9 ≤ to) : (t + 1) ≠ to := by omega
theorem zx_X16_copyM_2 {to : Nat}  : (to + 1) ≠ to := by omega
theorem zx_X16_copyM_3 {t to : Nat} (h0 : to + 9 ≤ t ∨ t + 9 ≤ to) : t ≠ to + 1 := by omega
theorem zx_X16_copyM_4 {to : Nat}  : to ≠ to + 1 := by omega
theorem zx_X16_copyM_5 {t to : Nat} (h0 : to + 9 ≤ t ∨ t + 9 ≤ to) : (t + 2) ≠ to := by omega
theorem zx_X16_copyM_6 {t to : Nat} (h0 : to + 9 ≤ t ∨ t + 9 ≤ to) : (t + 2) ≠ to + 1 := by omega
theorem zx_X16_copyM_7 {to : Nat}  : (to + 2) ≠ to := by omega
theorem zx_X16_copyM_8 {to : Nat}  : (to + 2) ≠ to + 1 := by omega
theorem zx_X16_copyM_9 {t to : Nat} (h0 : to + 9 ≤ t ∨ t + 9 ≤ to) : t ≠ to + 2 := by omega
theorem zx_X16_copyM_10 {to : Nat}  : to ≠ to + 2 := by omega
theorem zx_X16_copyM_11 {t to : Nat} (h0 : to + 9 ≤ t ∨ t + 9 ≤ to) : t < to + 3 ∨ to + 3 + 4 ≤ t := by omega
theorem zx_X16_copyM_12 {to : Nat}  : to < to + 3 ∨ to + 3 + 4 ≤ to := by omega
theorem zx_X16_copyM_13 {t to : Nat} (h0 : to + 9 ≤ t ∨ t + 9 ≤ to) : (t + 7) ≠ to := by omega
theorem zx_X16_copyM_14 {t to : Nat} (h0 : to + 9 ≤ t ∨ t + 9 ≤ to) : (t + 7) ≠ to + 1 := by omega
theorem zx_X16_copyM_15 {t to : Nat} (h0 : to + 9 ≤ t ∨ t + 9 ≤ to) : (t + 7) ≠ to + 2 := by omega
theorem zx_X16_copyM_16 {t to : Nat} (h0 : to + 9 ≤ t ∨ t + 9 ≤ to) : (t + 7) < to + 3 ∨ to + 3 + 4 ≤ (t + 7) := by omega
theorem zx_X16_copyM_17 {to : Nat}  : (to + 7) ≠ to := by omega
theorem zx_X16_copyM_18 {to : Nat}  : (to + 7) ≠ to + 1 := by omega
theorem zx_X16_copyM_19 {to : Nat}  : (to + 7) ≠ to + 2 := by omega
theorem zx_X16_copyM_20 {to : Nat}  : (to + 7) < to + 3 ∨ to + 3 + 4 ≤ (to + 7) := by omega
theorem zx_X16_copyM_21 {t to : Nat} (h0 : to + 9 ≤ t ∨ t + 9 ≤ to) : t ≠ to + 7 := by omega
theorem zx_X16_copyM_22 {to : Nat}  : to ≠ to + 7 := by omega
theorem zx_X16_copyM_23 {t to : Nat} (h0 : to + 9 ≤ t ∨ t + 9 ≤ to) : (t + 8) ≠ to := by omega
theorem zx_X16_copyM_24 {t to : Nat} (h0 : to + 9 ≤ t ∨ t + 9 ≤ to) : (t + 8) ≠ to + 1 := by omega
theorem zx_X16_copyM_25 {t to : Nat} (h0 : to + 9 ≤ t ∨ t + 9 ≤ to) : (t + 8) ≠ to + 2 := by omega
theorem zx_X16_copyM_26 {t to : Nat} (h0 : to + 9 ≤ t ∨ t + 9 ≤ to) : (t + 8) < to + 3 ∨ to + 3 + 4 ≤ (t + 8) := by omega
theorem zx_X16_copyM_27 {t to : Nat} (h0 : to + 9 ≤ t ∨ t + 9 ≤ to) : (t + 8) ≠ to + 7 := by omega
theorem zx_X16_copyM_28 {to : Nat}  : (to + 8) ≠ to := by omega
theorem zx_X16_copyM_29 {to : Nat}  : (to + 8) ≠ to + 1 := by omega
theorem zx_X16_copyM_30 {to : Nat}  : (to + 8) ≠ to + 2 := by omega
theorem zx_X16_copyM_31 {to : Nat}  : (to + 8) < to + 3 ∨ to + 3 + 4 ≤ (to + 8) := by omega
theorem zx_X16_copyM_32 {to : Nat}  : (to + 8) ≠ to + 7 := by omega
theorem zx_X16_copyM_33 {to : Nat}  : to ≠ to + 8 := by omega
theorem zx_X16_copyM_34 {to : Nat}  : (to + 1) ≠ to + 2 := by omega
theorem zx_X16_copyM_35 {to : Nat}  : (to + 1) < to + 3 ∨ to + 3 + 4 ≤ (to + 1) := by omega
theorem zx_X16_copyM_36 {to : Nat}  : (to + 1) ≠ to + 7 := by omega
theorem zx_X16_copyM_37 {to : Nat}  : (to + 1) ≠ to + 8 := by omega
theorem zx_X16_copyM_38 {to : Nat}  : (to + 2) < to + 3 ∨ to + 3 + 4 ≤ (to + 2) := by omega
theorem zx_X16_copyM_39 {to : Nat}  : (to + 2) ≠ to + 7 := by omega
theorem zx_X16_copyM_40 {to : Nat}  : (to + 2) ≠ to + 8 := by omega
theorem zx_X16_copyM_41 {to : Nat}  : (to + 3) ≠ to := by omega
theorem zx_X16_copyM_42 {to : Nat}  : (to + 3) ≠ to + 7 := by omega
theorem zx_X16_copyM_43 {to : Nat}  : (to + 3) ≠ to + 8 := by omega
theorem zx_X16_copyM_44 {to : Nat}  : (to + 4) ≠ to := by omega
theorem zx_X16_copyM_45 {to : Nat}  : (to + 4) ≠ to + 7 := by omega
theorem zx_X16_copyM_46 {to : Nat}  : (to + 4) ≠ to + 8 := by omega
theorem zx_X16_copyM_47 {to : Nat}  : (to + 5) ≠ to := by omega
theorem zx_X16_copyM_48 {to : Nat}  : (to + 5) ≠ to + 7 := by omega
theorem zx_X16_copyM_49 {to : Nat}  : (to + 5) ≠ to + 8 := by omega
theorem zx_X16_copyM_50 {to : Nat}  : (to + 6) ≠ to := by omega
theorem zx_X16_copyM_51 {to : Nat}  : (to + 6) ≠ to + 7 := by omega
theorem zx_X16_copyM_52 {to : Nat}  : (to + 6) ≠ to + 8 := by omega
theorem zx_X16_copyM_53 {to : Nat}  : (to + 7) ≠ to + 8 := by omega
theorem zx_X16_copyM_54 {to x : Nat} (h0 : x < to ∨ to + 9 ≤ x) : x ≠ to := by omega
theorem zx_X16_copyM_55 {to x : Nat} (h0 : x < to ∨ to + 9 ≤ x) : x ≠ to + 1 := by omega
theorem zx_X16_copyM_56 {to x : Nat} (h0 : x < to ∨ to + 9 ≤ x) : x ≠ to + 2 := by omega
theorem zx_X16_copyM_57 {to x : Nat} (h0 : x < to ∨ to + 9 ≤ x) : x < to + 3 ∨ to + 3 + 4 ≤ x := by omega
theorem zx_X16_copyM_58 {to x : Nat} (h0 : x < to ∨ to + 9 ≤ x) : x ≠ to + 7 := by omega
theorem zx_X16_copyM_59 {to x : Nat} (h0 : x < to ∨ to + 9 ≤ x) : x ≠ to + 8 := by omega
theorem zx_X16_copyM_60 {t to : Nat} (h0 : to + 9 ≤ t ∨ t + 9 ≤ to) : (t + 3) ≠ to := by omega
theorem zx_X16_copyM_61 {t to : Nat} (h0 : to + 9 ≤ t ∨ t + 9 ≤ to) : (t + 3) ≠ to + 1 := by omega
theorem zx_X16_copyM_62 {t to : Nat} (h0 : to + 9 ≤ t ∨ t + 9 ≤ to) : (t + 3) ≠ to + 2 := by omega
theorem zx_X16_copyM_63 {t to : Nat} (h0 : to + 9 ≤ t ∨ t + 9 ≤ to) : (t + 3) < to + 3 ∨ to + 3 + 4 ≤ (t + 3) := by omega
theorem zx_X16_copyM_64 {to : Nat}  : to ≠ to + 3 := by omega
theorem zx_X16_copyM_65 {t to : Nat} (h0 : to + 9 ≤ t ∨ t + 9 ≤ to) : t ≠ to + 3 := by omega
theorem zx_X16_copyM_66 {t to : Nat} (h0 : to + 9 ≤ t ∨ t + 9 ≤ to) : (t + 4) ≠ to := by omega
theorem zx_X16_copyM_67 {t to : Nat} (h0 : to + 9 ≤ t ∨ t + 9 ≤ to) : (t + 4) ≠ to + 1 := by omega
theorem zx_X16_copyM_68 {t to : Nat} (h0 : to + 9 ≤ t ∨ t + 9 ≤ to) : (t + 4) ≠ to + 2 := by omega
theorem zx_X16_copyM_69 {t to : Nat} (h0 : to + 9 ≤ t ∨ t + 9 ≤ to) : (t + 4) < to + 3 ∨ to + 3 + 4 ≤ (t + 4) := by omega
theorem zx_X16_copyM_70 {t to : Nat} (h0 : to + 9 ≤ t ∨ t + 9 ≤ to) : (t + 4) ≠ to + 3 := by omega
theorem zx_X16_copyM_71 {to : Nat}  : (to + 4) ≠ to + 3 := by omega
theorem zx_X16_copyM_72 {to : Nat}  : to ≠ to + 4 := by omega
theorem zx_X16_copyM_73 {t to : Nat} (h0 : to + 9 ≤ t ∨ t + 9 ≤ to) : t ≠ to + 4 := by omega
theorem zx_X16_copyM_74 {t to : Nat} (h0 : to + 9 ≤ t ∨ t + 9 ≤ to) : (t + 5) ≠ to := by omega
theorem zx_X16_copyM_75 {t to : Nat} (h0 : to + 9 ≤ t ∨ t + 9 ≤ to) : (t + 5) ≠ to + 1 := by omega
theorem zx_X16_copyM_76 {t to : Nat} (h0 : to + 9 ≤ t ∨ t + 9 ≤ to) : (t + 5) ≠ to + 2 := by omega
theorem zx_X16_copyM_77 {t to : Nat} (h0 : to + 9 ≤ t ∨ t + 9 ≤ to) : (t + 5) < to + 3 ∨ to + 3 + 4 ≤ (t + 5) := by omega
theorem zx_X16_copyM_78 {t to : Nat} (h0 : to + 9 ≤ t ∨ t + 9 ≤ to) : (t + 5) ≠ to + 3 := by omega
theorem zx_X16_copyM_79 {t to : Nat} (h0 : to + 9 ≤ t ∨ t + 9 ≤ to) : (t + 5) ≠ to + 4 := by omega
theorem zx_X16_copyM_80 {to : Nat}  : (to + 5) ≠ to + 3 := by omega
theorem zx_X16_copyM_81 {to : Nat}  : (to + 5) ≠ to + 4 := by omega
theorem zx_X16_copyM_82 {to : Nat}  : to ≠ to + 5 := by omega
theorem zx_X16_copyM_83 {t to : Nat} (h0 : to + 9 ≤ t ∨ t + 9 ≤ to) : t ≠ to + 5 := by omega
theorem zx_X16_copyM_84 {t to : Nat} (h0 : to + 9 ≤ t ∨ t + 9 ≤ to) : (t + 6) ≠ to := by omega
theorem zx_X16_copyM_85 {t to : Nat} (h0 : to + 9 ≤ t ∨ t + 9 ≤ to) : (t + 6) ≠ to + 1 := by omega
theorem zx_X16_copyM_86 {t to : Nat} (h0 : to + 9 ≤ t ∨ t + 9 ≤ to) : (t + 6) ≠ to + 2 := by omega
theorem zx_X16_copyM_87 {t to : Nat} (h0 : to + 9 ≤ t ∨ t + 9 ≤ to) : (t + 6) < to + 3 ∨ to + 3 + 4 ≤ (t + 6) := by omega
theorem zx_X16_copyM_88 {t to : Nat} (h0 : to + 9 ≤ t ∨ t + 9 ≤ to) : (t + 6) ≠ to + 3 := by omega
theorem zx_X16_copyM_89 {t to : Nat} (h0 : to + 9 ≤ t ∨ t + 9 ≤ to) : (t + 6) ≠ to + 4 := by omega
theorem zx_X16_copyM_90 {t to : Nat} (h0 : to + 9 ≤ t ∨ t + 9 ≤ to) : (t + 6) ≠ to + 5 := by omega
theorem zx_X16_copyM_91 {to : Nat}  : (to + 6) ≠ to + 3 := by omega
theorem zx_X16_copyM_92 {to : Nat}  : (to + 6) ≠ to + 4 := by omega
theorem zx_X16_copyM_93 {to : Nat}  : (to + 6) ≠ to + 5 := by omega
theorem zx_X16_copyM_94 {to x : Nat} (h0 : x < to + 3 ∨ to + 3 + 4 ≤ x) : x ≠ to + 3 := by omega
theorem zx_X16_copyM_95 {to x : Nat} (h0 : x < to + 3 ∨ to + 3 + 4 ≤ x) : x ≠ to + 4 := by omega
theorem zx_X16_copyM_96 {to x : Nat} (h0 : x < to + 3 ∨ to + 3 + 4 ≤ x) : x ≠ to + 5 := by omega
theorem zx_X16_copyM_97 {to x : Nat} (h0 : x < to + 3 ∨ to + 3 + 4 ≤ x) : x ≠ to + 6 := by omega
theorem zx_X16_copyM_98 {to : Nat}  : (to + 3) ≠ to + 4 := by omega
theorem zx_X16_copyM_99 {to : Nat}  : (to + 3) ≠ to + 5 := by omega
theorem zx_X16_copyM_100 {to : Nat}  : (to + 3) ≠ to + 6 := by omega
theorem zx_X16_copyM_101 {to : Nat}  : (to + 4) ≠ to + 5 := by omega
theorem zx_X16_copyM_102 {to : Nat}  : (to + 4) ≠ to + 6 := by omega
theorem zx_X16_copyM_103 {to : Nat}  : (to + 5) ≠ to + 6 := by omega
theorem zx_X16_copyM_104 {to : Nat}  : (to + 3) ≠ to + 1 := by omega
theorem zx_X16_copyM_105 {to : Nat}  : (to + 3) ≠ to + 2 := by omega
theorem zx_X16_copyM_106 {to : Nat}  : (to + 4) ≠ to + 1 := by omega
theorem zx_X16_copyM_107 {to : Nat}  : (to + 4) ≠ to + 2 := by omega
theorem zx_X16_copyM_108 {to : Nat}  : (to + 5) ≠ to + 1 := by omega
theorem zx_X16_copyM_109 {to : Nat}  : (to + 5) ≠ to + 2 := by omega
theorem zx_X16_copyM_110 {to : Nat}  : (to + 6) ≠ to + 1 := by omega
theorem zx_X16_copyM_111 {to : Nat}  : (to + 6) ≠ to + 2 := by omega
set_option maxHeartbeats 8000000 in
set_option maxRecDepth 100000 in
theorem c_X16_copyM {w : zM} {k : Int32} (to : Nat) (t : Nat) (hTm_to : zTm w to) (hTi_t : zTi w t k) (htt : to + 9 ≤ t ∨ t + 9 ≤ to) : zCon 1 zq_X16_copy [.ref to, .ref t] w (fun v9 w9' => zSI w w9' ∧ (∀ x, (x < to ∨ to + 9 ≤ x) → w9' x = w x) ∧ zTi w9' to k ∧ v9 = none) := by
  intro d sz hd
  obtain ⟨d, rfl⟩ : ∃ d9, d = d9 + 1 := ⟨d - 1, by omega⟩
  generalize hPost : (fun (r9' : Option (Option Value)) (w9' : zM) (z9 : Nat) => z9 = sz ∧ ∃ v9, r9' = some v9 ∧ (zSI w w9' ∧ (∀ x, (x < to ∨ to + 9 ≤ x) → w9' x = w x) ∧ zTi w9' to k ∧ v9 = none)) = Post
  show zP (d + 1) zq_X16_copy 0 [(0, .ref to), (1, .ref t)] [] w sz 0 0 Post
  obtain ⟨g1, fn1, fd1, fa1, fb1, fc1, fe1, fr1, fu1, hT1, hAn1, hAd1, hAa1, hAb1, hAc1, hAe1, hAr1, hAu1, hKn1, hKd1, hKr1, hKu1⟩ := id hTm_to
  obtain ⟨g2, fn2, fd2, fa2, fb2, fc2, fe2, fr2, fu2, hT2, hAn2, hAd2, hAa2, hAb2, hAc2, hAe2, hAr2, hAu2, hK2⟩ := id hTi_t
  obtain ⟨hK20, hKn2, hKd2, hKx2, hKm2, hKl2, hKr2, hKu2, hKk2⟩ := id hK2
  have k1 := zrng (g2 5)
  have hz2 : ((g2 5).toNatClampNeg : Int) = (g2 5).toInt := znat (by first | omega | decide)
  refine zp_seg (pc' := 2) (lv' := [(0, .ref to), (1, .ref t)]) (st' := [.ref t, .ref to]) [(0, .aload_n 0), (1, .aload_n 1)] (by decide +kernel) rfl ?_
  refine zr_get (idx := 202) (k := 0) (v := .int (g2 0)) (by decide +kernel) (by decide +kernel) hT2 rfl ?_
  refine zr_put2 (idx := 202) (k := 0) (fs2 := zTo to (zs g1 0 (g2 0))) (by decide +kernel) (by decide +kernel) hT1 (Nat.le_of_ble_eq_true rfl) rfl rfl rfl ?_
  show zP (d + 1) zq_X16_copy 8 [(0, .ref to), (1, .ref t)] [] (zup w to (.inl (13, zTo to (zs g1 0 (g2 0))))) sz 0 0 Post
  obtain ⟨w5, ew5⟩ : ∃ wz9, wz9 = zup w to (.inl (13, zTo to (zs g1 0 (g2 0)))) := ⟨_, rfl⟩
  have hsi5 : zSI w w5 := by rw [ew5]; exact zSI.setT hT1 _
  have heq5 : ∀ x, x ≠ to → w5 x = w x := fun x hx => by rw [ew5]; exact zup_n hx
  have hc5 : w5 to = some (.inl (13, zTo to (zs g1 0 (g2 0)))) := by rw [ew5]; exact zup_s
  rw [← ew5]
  clear ew5
  refine zp_seg (pc' := 9) (lv' := [(0, .ref to), (1, .ref t)]) (st' := [.ref t]) [(8, .aload_n 1)] (by decide +kernel) rfl ?_
  have hb3 : w5 t = some (.inl (13, zTo t g2)) := (heq5 t (zx_X16_copyM_0 htt)).trans hT2
  refine zr_get (idx := 207) (k := 1) (v := .ref (t + 1)) (by decide +kernel) (by decide +kernel) hb3 rfl ?_
  refine zp_seg (pc' := 14) (lv' := [(0, .ref to), (1, .ref t)]) (st' := [.ref to, .int 0, .ref (t + 1)]) [(12, .iconst 0), (13, .aload_n 0)] (by decide +kernel) rfl ?_
  refine zr_get (idx := 207) (k := 1) (v := .ref (to + 1)) (by decide +kernel) (by decide +kernel) hc5 rfl ?_
  refine zp_seg (pc' := 21) (lv' := [(0, .ref to), (1, .ref t)]) (st' := [.int 325, .int 0, .ref (to + 1), .int 0, .ref (t + 1)]) [(17, .iconst 0), (18, .sipush 325)] (by decide +kernel) rfl ?_
  have hb4 : w5 (t + 1) = some (.inr (0, 325, .inl fn2)) := (heq5 (t + 1) (zx_X16_copyM_1 htt)).trans hAn2
  have hb5 : w5 (to + 1) = some (.inr (0, 325, .inl fn1)) := (heq5 (to + 1) (zx_X16_copyM_2)).trans hAn1
  have hl6 : (325 : Int32).toInt = 325 := by decide
  have hl7 : (0 : Int32).toInt = 0 := by decide
  refine zr_acpy (idx := 34) (by decide +kernel) (by decide +kernel) hb4 hb5 (rfl) (by first | omega | decide) (by first | omega | decide) (by first | omega | decide) (by first | omega | decide) (by first | omega | decide) (by omega) (Nat.le_of_ble_eq_true rfl) ?_
  show zP (d + 1) zq_X16_copy 24 [(0, .ref to), (1, .ref t)] [] (zup w5 (to + 1) (.inr (0, 325, .inl (va_cpy fn2 fn1 ((0 : Int32).toNatClampNeg) ((0 : Int32).toNatClampNeg) ((325 : Int32).toNatClampNeg))))) sz 0 0 Post
  obtain ⟨w21, ew21⟩ : ∃ wz9, wz9 = zup w5 (to + 1) (.inr (0, 325, .inl (va_cpy fn2 fn1 ((0 : Int32).toNatClampNeg) ((0 : Int32).toNatClampNeg) ((325 : Int32).toNatClampNeg)))) := ⟨_, rfl⟩
  have hsi21 : zSI w5 w21 := by rw [ew21]; exact zSI.arr _ hb5
  have heq21 : ∀ x, x ≠ to + 1 → w21 x = w5 x := fun x hx => by rw [ew21]; exact zup_n hx
  have hc21 : w21 (to + 1) = some (.inr (0, 325, .inl (va_cpy fn2 fn1 ((0 : Int32).toNatClampNeg) ((0 : Int32).toNatClampNeg) ((325 : Int32).toNatClampNeg)))) := by rw [ew21]; exact zup_s
  rw [← ew21]
  clear ew21
  refine zp_seg (pc' := 25) (lv' := [(0, .ref to), (1, .ref t)]) (st' := [.ref t]) [(24, .aload_n 1)] (by decide +kernel) rfl ?_
  have hb8 : w21 t = some (.inl (13, zTo t g2)) := (heq21 t (zx_X16_copyM_3 htt)).trans hb3
  refine zr_get (idx := 210) (k := 2) (v := .ref (t + 2)) (by decide +kernel) (by decide +kernel) hb8 rfl ?_
  refine zp_seg (pc' := 30) (lv' := [(0, .ref to), (1, .ref t)]) (st' := [.ref to, .int 0, .ref (t + 2)]) [(28, .iconst 0), (29, .aload_n 0)] (by decide +kernel) rfl ?_
  have hb9 : w21 to = some (.inl (13, zTo to (zs g1 0 (g2 0)))) := (heq21 to (zx_X16_copyM_4)).trans hc5
  refine zr_get (idx := 210) (k := 2) (v := .ref (to + 2)) (by decide +kernel) (by decide +kernel) hb9 rfl ?_
  refine zp_seg (pc' := 37) (lv' := [(0, .ref to), (1, .ref t)]) (st' := [.int 325, .int 0, .ref (to + 2), .int 0, .ref (t + 2)]) [(33, .iconst 0), (34, .sipush 325)] (by decide +kernel) rfl ?_
  have hb10 : w21 (t + 2) = some (.inr (0, 325, .inl fd2)) := ((heq21 (t + 2) (zx_X16_copyM_6 htt)).trans (heq5 (t + 2) (zx_X16_copyM_5 htt))).trans hAd2
  have hb11 : w21 (to + 2) = some (.inr (0, 325, .inl fd1)) := ((heq21 (to + 2) (zx_X16_copyM_8)).trans (heq5 (to + 2) (zx_X16_copyM_7))).trans hAd1
  refine zr_acpy (idx := 34) (by decide +kernel) (by decide +kernel) hb10 hb11 (rfl) (by first | omega | decide) (by first | omega | decide) (by first | omega | decide) (by first | omega | decide) (by first | omega | decide) (by omega) (Nat.le_of_ble_eq_true rfl) ?_
  show zP (d + 1) zq_X16_copy 40 [(0, .ref to), (1, .ref t)] [] (zup w21 (to + 2) (.inr (0, 325, .inl (va_cpy fd2 fd1 ((0 : Int32).toNatClampNeg) ((0 : Int32).toNatClampNeg) ((325 : Int32).toNatClampNeg))))) sz 0 0 Post
  obtain ⟨w37, ew37⟩ : ∃ wz9, wz9 = zup w21 (to + 2) (.inr (0, 325, .inl (va_cpy fd2 fd1 ((0 : Int32).toNatClampNeg) ((0 : Int32).toNatClampNeg) ((325 : Int32).toNatClampNeg)))) := ⟨_, rfl⟩
  have hsi37 : zSI w21 w37 := by rw [ew37]; exact zSI.arr _ hb11
  have heq37 : ∀ x, x ≠ to + 2 → w37 x = w21 x := fun x hx => by rw [ew37]; exact zup_n hx
  have hc37 : w37 (to + 2) = some (.inr (0, 325, .inl (va_cpy fd2 fd1 ((0 : Int32).toNatClampNeg) ((0 : Int32).toNatClampNeg) ((325 : Int32).toNatClampNeg)))) := by rw [ew37]; exact zup_s
  rw [← ew37]
  clear ew37
  refine zp_seg (pc' := 42) (lv' := [(0, .ref to), (1, .ref t)]) (st' := [.ref t, .ref to]) [(40, .aload_n 0), (41, .aload_n 1)] (by decide +kernel) rfl ?_
  have hb12 : w37 t = some (.inl (13, zTo t g2)) := (heq37 t (zx_X16_copyM_9 htt)).trans hb8
  refine zr_get (idx := 213) (k := 3) (v := .int (g2 3)) (by decide +kernel) (by decide +kernel) hb12 rfl ?_
  have hb13 : w37 to = some (.inl (13, zTo to (zs g1 0 (g2 0)))) := (heq37 to (zx_X16_copyM_10)).trans hb9
  refine zr_put2 (idx := 213) (k := 3) (fs2 := zTo to (zs (zs g1 0 (g2 0)) 3 (g2 3))) (by decide +kernel) (by decide +kernel) hb13 (Nat.le_of_ble_eq_true rfl) rfl rfl rfl ?_
  show zP (d + 1) zq_X16_copy 48 [(0, .ref to), (1, .ref t)] [] (zup w37 to (.inl (13, zTo to (zs (zs g1 0 (g2 0)) 3 (g2 3))))) sz 0 0 Post
  obtain ⟨w45, ew45⟩ : ∃ wz9, wz9 = zup w37 to (.inl (13, zTo to (zs (zs g1 0 (g2 0)) 3 (g2 3)))) := ⟨_, rfl⟩
  have hsi45 : zSI w37 w45 := by rw [ew45]; exact zSI.setT hb13 _
  have heq45 : ∀ x, x ≠ to → w45 x = w37 x := fun x hx => by rw [ew45]; exact zup_n hx
  have hc45 : w45 to = some (.inl (13, zTo to (zs (zs g1 0 (g2 0)) 3 (g2 3)))) := by rw [ew45]; exact zup_s
  rw [← ew45]
  clear ew45
  refine zp_seg (pc' := 50) (lv' := [(0, .ref to), (1, .ref t)]) (st' := [.ref t, .ref to]) [(48, .aload_n 0), (49, .aload_n 1)] (by decide +kernel) rfl ?_
  have hb14 : w45 t = some (.inl (13, zTo t g2)) := (heq45 t (zx_X16_copyM_0 htt)).trans hb12
  refine zr_get (idx := 216) (k := 4) (v := .int (g2 4)) (by decide +kernel) (by decide +kernel) hb14 rfl ?_
  refine zr_put2 (idx := 216) (k := 4) (fs2 := zTo to (zs (zs (zs g1 0 (g2 0)) 3 (g2 3)) 4 (g2 4))) (by decide +kernel) (by decide +kernel) hc45 (Nat.le_of_ble_eq_true rfl) rfl rfl rfl ?_
  show zP (d + 1) zq_X16_copy 56 [(0, .ref to), (1, .ref t)] [] (zup w45 to (.inl (13, zTo to (zs (zs (zs g1 0 (g2 0)) 3 (g2 3)) 4 (g2 4))))) sz 0 0 Post
  obtain ⟨w53, ew53⟩ : ∃ wz9, wz9 = zup w45 to (.inl (13, zTo to (zs (zs (zs g1 0 (g2 0)) 3 (g2 3)) 4 (g2 4)))) := ⟨_, rfl⟩
  have hsi53 : zSI w45 w53 := by rw [ew53]; exact zSI.setT hc45 _
  have heq53 : ∀ x, x ≠ to → w53 x = w45 x := fun x hx => by rw [ew53]; exact zup_n hx
  have hc53 : w53 to = some (.inl (13, zTo to (zs (zs (zs g1 0 (g2 0)) 3 (g2 3)) 4 (g2 4)))) := by rw [ew53]; exact zup_s
  rw [← ew53]
  clear ew53
  refine zp_seg (pc' := 58) (lv' := [(0, .ref to), (1, .ref t)]) (st' := [.ref t, .ref to]) [(56, .aload_n 0), (57, .aload_n 1)] (by decide +kernel) rfl ?_
  have hb15 : w53 t = some (.inl (13, zTo t g2)) := (heq53 t (zx_X16_copyM_0 htt)).trans hb14
  refine zr_get (idx := 219) (k := 5) (v := .int (g2 5)) (by decide +kernel) (by decide +kernel) hb15 rfl ?_
  refine zr_put2 (idx := 219) (k := 5) (fs2 := zTo to (zs (zs (zs (zs g1 0 (g2 0)) 3 (g2 3)) 4 (g2 4)) 5 (g2 5))) (by decide +kernel) (by decide +kernel) hc53 (Nat.le_of_ble_eq_true rfl) rfl rfl rfl ?_
  show zP (d + 1) zq_X16_copy 64 [(0, .ref to), (1, .ref t)] [] (zup w53 to (.inl (13, zTo to (zs (zs (zs (zs g1 0 (g2 0)) 3 (g2 3)) 4 (g2 4)) 5 (g2 5))))) sz 0 0 Post
  obtain ⟨w61, ew61⟩ : ∃ wz9, wz9 = zup w53 to (.inl (13, zTo to (zs (zs (zs (zs g1 0 (g2 0)) 3 (g2 3)) 4 (g2 4)) 5 (g2 5)))) := ⟨_, rfl⟩
  have hsi61 : zSI w53 w61 := by rw [ew61]; exact zSI.setT hc53 _
  have heq61 : ∀ x, x ≠ to → w61 x = w53 x := fun x hx => by rw [ew61]; exact zup_n hx
  have hc61 : w61 to = some (.inl (13, zTo to (zs (zs (zs (zs g1 0 (g2 0)) 3 (g2 3)) 4 (g2 4)) 5 (g2 5)))) := by rw [ew61]; exact zup_s
  rw [← ew61]
  clear ew61
  refine zp_seg (pc' := 66) (lv' := [(2, .int 0), (0, .ref to), (1, .ref t)]) (st' := []) [(64, .iconst 0), (65, .istore_n 2)] (by decide +kernel) rfl ?_
  have hL66 : ∀ (mm66 : Nat) (wL66 : zM) (y2_66 : Int32) (pa : Nat → Int32) (pb : Nat → Int32) (pc : Nat → Int32) (pe : Nat → Int32), (zSI w61 wL66) → (∀ x, (x < to + 3 ∨ to + 3 + 4 ≤ x) → wL66 x = w61 x) → (0 ≤ y2_66.toInt) → (y2_66.toInt ≤ (g2 5).toInt) → (wL66 (to + 3) = some (.inr (0, 13, .inl pa))) → (wL66 (to + 4) = some (.inr (0, 13, .inl pb))) → (wL66 (to + 5) = some (.inr (0, 13, .inl pc))) → (wL66 (to + 6) = some (.inr (0, 13, .inl pe))) → (zLn pa pb pc y2_66.toNatClampNeg) → (2147483647 - y2_66.toInt).toNat < mm66 → zP (d + 1) zq_X16_copy 66 [(0, .ref to), (1, .ref t), (2, .int y2_66)] [] wL66 sz 0 0 Post := by
    intro mm66
    induction mm66 with
    | zero => intros; omega
    | succ mm66 ih66 =>
    intro wL66 y2_66 pa pb pc pe hsiL66 heqL66 hi66_0 hi66_1 hpa hpb hpc hpe hlp hmu66
    have ky2_66 := zrng y2_66
    have hz16 : (y2_66.toNatClampNeg : Int) = y2_66.toInt := znat (by first | omega | decide)
    refine zp_seg (pc' := 68) (lv' := [(0, .ref to), (1, .ref t), (2, .int y2_66)]) (st' := [.ref t, .int y2_66]) [(66, .iload_n 2), (67, .aload_n 1)] (by decide +kernel) rfl ?_
    have hb17 : wL66 t = some (.inl (13, zTo t g2)) := ((heqL66 t (zx_X16_copyM_11 htt)).trans (heq61 t (zx_X16_copyM_0 htt))).trans hb15
    refine zr_get (idx := 219) (k := 5) (v := .int (g2 5)) (by decide +kernel) (by decide +kernel) hb17 rfl ?_
    refine zp_if (i := .if_icmp .ge 57) (c := (g2 5) ≤ y2_66) (t := 128) (e := 74) (lv' := [(0, .ref to), (1, .ref t), (2, .int y2_66)]) (st' := []) (by decide +kernel) rfl (fun cc71 => ?_) (fun cc71 => ?_)
    ·
      have f18 := zleI cc71
      refine zp_seg (pc' := 130) (lv' := [(0, .ref to), (1, .ref t), (2, .int y2_66)]) (st' := [.ref t, .ref to]) [(128, .aload_n 0), (129, .aload_n 1)] (by decide +kernel) rfl ?_
      refine zr_get (idx := 234) (k := 10) (v := .int (g2 10)) (by decide +kernel) (by decide +kernel) hb17 rfl ?_
      have hb19 : wL66 to = some (.inl (13, zTo to (zs (zs (zs (zs g1 0 (g2 0)) 3 (g2 3)) 4 (g2 4)) 5 (g2 5)))) := (heqL66 to (zx_X16_copyM_12)).trans hc61
      refine zr_put2 (idx := 234) (k := 10) (fs2 := zTo to (zs (zs (zs (zs (zs g1 0 (g2 0)) 3 (g2 3)) 4 (g2 4)) 5 (g2 5)) 10 (g2 10))) (by decide +kernel) (by decide +kernel) hb19 (Nat.le_of_ble_eq_true rfl) rfl rfl rfl ?_
      show zP (d + 1) zq_X16_copy 136 [(0, .ref to), (1, .ref t), (2, .int y2_66)] [] (zup wL66 to (.inl (13, zTo to (zs (zs (zs (zs (zs g1 0 (g2 0)) 3 (g2 3)) 4 (g2 4)) 5 (g2 5)) 10 (g2 10))))) sz 0 0 Post
      obtain ⟨w133, ew133⟩ : ∃ wz9, wz9 = zup wL66 to (.inl (13, zTo to (zs (zs (zs (zs (zs g1 0 (g2 0)) 3 (g2 3)) 4 (g2 4)) 5 (g2 5)) 10 (g2 10)))) := ⟨_, rfl⟩
      have hsi133 : zSI wL66 w133 := by rw [ew133]; exact zSI.setT hb19 _
      have heq133 : ∀ x, x ≠ to → w133 x = wL66 x := fun x hx => by rw [ew133]; exact zup_n hx
      have hc133 : w133 to = some (.inl (13, zTo to (zs (zs (zs (zs (zs g1 0 (g2 0)) 3 (g2 3)) 4 (g2 4)) 5 (g2 5)) 10 (g2 10)))) := by rw [ew133]; exact zup_s
      rw [← ew133]
      clear ew133
      refine zp_seg (pc' := 137) (lv' := [(0, .ref to), (1, .ref t), (2, .int y2_66)]) (st' := [.ref t]) [(136, .aload_n 1)] (by decide +kernel) rfl ?_
      have hb20 : w133 t = some (.inl (13, zTo t g2)) := (heq133 t (zx_X16_copyM_0 htt)).trans hb17
      refine zr_get (idx := 237) (k := 11) (v := .ref (t + 7)) (by decide +kernel) (by decide +kernel) hb20 rfl ?_
      refine zp_seg (pc' := 142) (lv' := [(0, .ref to), (1, .ref t), (2, .int y2_66)]) (st' := [.ref to, .int 0, .ref (t + 7)]) [(140, .iconst 0), (141, .aload_n 0)] (by decide +kernel) rfl ?_
      refine zr_get (idx := 237) (k := 11) (v := .ref (to + 7)) (by decide +kernel) (by decide +kernel) hc133 rfl ?_
      refine zp_seg (pc' := 149) (lv' := [(0, .ref to), (1, .ref t), (2, .int y2_66)]) (st' := [.int 175, .int 0, .ref (to + 7), .int 0, .ref (t + 7)]) [(145, .iconst 0), (146, .sipush 175)] (by decide +kernel) rfl ?_
      have hb21 : w133 (t + 7) = some (.inr (0, 175, .inl fr2)) := ((heq133 (t + 7) (zx_X16_copyM_13 htt)).trans ((heqL66 (t + 7) (zx_X16_copyM_16 htt)).trans ((heq61 (t + 7) (zx_X16_copyM_13 htt)).trans ((heq53 (t + 7) (zx_X16_copyM_13 htt)).trans ((heq45 (t + 7) (zx_X16_copyM_13 htt)).trans ((heq37 (t + 7) (zx_X16_copyM_15 htt)).trans ((heq21 (t + 7) (zx_X16_copyM_14 htt)).trans (heq5 (t + 7) (zx_X16_copyM_13 htt))))))))).trans hAr2
      have hb22 : w133 (to + 7) = some (.inr (0, 175, .inl fr1)) := ((heq133 (to + 7) (zx_X16_copyM_17)).trans ((heqL66 (to + 7) (zx_X16_copyM_20)).trans ((heq61 (to + 7) (zx_X16_copyM_17)).trans ((heq53 (to + 7) (zx_X16_copyM_17)).trans ((heq45 (to + 7) (zx_X16_copyM_17)).trans ((heq37 (to + 7) (zx_X16_copyM_19)).trans ((heq21 (to + 7) (zx_X16_copyM_18)).trans (heq5 (to + 7) (zx_X16_copyM_17))))))))).trans hAr1
      have hl23 : (175 : Int32).toInt = 175 := by decide
      refine zr_acpy (idx := 34) (by decide +kernel) (by decide +kernel) hb21 hb22 (rfl) (by first | omega | decide) (by first | omega | decide) (by first | omega | decide) (by first | omega | decide) (by first | omega | decide) (by omega) (Nat.le_of_ble_eq_true rfl) ?_
      show zP (d + 1) zq_X16_copy 152 [(0, .ref to), (1, .ref t), (2, .int y2_66)] [] (zup w133 (to + 7) (.inr (0, 175, .inl (va_cpy fr2 fr1 ((0 : Int32).toNatClampNeg) ((0 : Int32).toNatClampNeg) ((175 : Int32).toNatClampNeg))))) sz 0 0 Post
      obtain ⟨w149, ew149⟩ : ∃ wz9, wz9 = zup w133 (to + 7) (.inr (0, 175, .inl (va_cpy fr2 fr1 ((0 : Int32).toNatClampNeg) ((0 : Int32).toNatClampNeg) ((175 : Int32).toNatClampNeg)))) := ⟨_, rfl⟩
      have hsi149 : zSI w133 w149 := by rw [ew149]; exact zSI.arr _ hb22
      have heq149 : ∀ x, x ≠ to + 7 → w149 x = w133 x := fun x hx => by rw [ew149]; exact zup_n hx
      have hc149 : w149 (to + 7) = some (.inr (0, 175, .inl (va_cpy fr2 fr1 ((0 : Int32).toNatClampNeg) ((0 : Int32).toNatClampNeg) ((175 : Int32).toNatClampNeg)))) := by rw [ew149]; exact zup_s
      rw [← ew149]
      clear ew149
      refine zp_seg (pc' := 154) (lv' := [(0, .ref to), (1, .ref t), (2, .int y2_66)]) (st' := [.ref t, .ref to]) [(152, .aload_n 0), (153, .aload_n 1)] (by decide +kernel) rfl ?_
      have hb24 : w149 t = some (.inl (13, zTo t g2)) := (heq149 t (zx_X16_copyM_21 htt)).trans hb20
      refine zr_get (idx := 240) (k := 12) (v := .int (g2 12)) (by decide +kernel) (by decide +kernel) hb24 rfl ?_
      have hb25 : w149 to = some (.inl (13, zTo to (zs (zs (zs (zs (zs g1 0 (g2 0)) 3 (g2 3)) 4 (g2 4)) 5 (g2 5)) 10 (g2 10)))) := (heq149 to (zx_X16_copyM_22)).trans hc133
      refine zr_put2 (idx := 240) (k := 12) (fs2 := zTo to (zs (zs (zs (zs (zs (zs g1 0 (g2 0)) 3 (g2 3)) 4 (g2 4)) 5 (g2 5)) 10 (g2 10)) 12 (g2 12))) (by decide +kernel) (by decide +kernel) hb25 (Nat.le_of_ble_eq_true rfl) rfl rfl rfl ?_
      show zP (d + 1) zq_X16_copy 160 [(0, .ref to), (1, .ref t), (2, .int y2_66)] [] (zup w149 to (.inl (13, zTo to (zs (zs (zs (zs (zs (zs g1 0 (g2 0)) 3 (g2 3)) 4 (g2 4)) 5 (g2 5)) 10 (g2 10)) 12 (g2 12))))) sz 0 0 Post
      obtain ⟨w157, ew157⟩ : ∃ wz9, wz9 = zup w149 to (.inl (13, zTo to (zs (zs (zs (zs (zs (zs g1 0 (g2 0)) 3 (g2 3)) 4 (g2 4)) 5 (g2 5)) 10 (g2 10)) 12 (g2 12)))) := ⟨_, rfl⟩
      have hsi157 : zSI w149 w157 := by rw [ew157]; exact zSI.setT hb25 _
      have heq157 : ∀ x, x ≠ to → w157 x = w149 x := fun x hx => by rw [ew157]; exact zup_n hx
      have hc157 : w157 to = some (.inl (13, zTo to (zs (zs (zs (zs (zs (zs g1 0 (g2 0)) 3 (g2 3)) 4 (g2 4)) 5 (g2 5)) 10 (g2 10)) 12 (g2 12)))) := by rw [ew157]; exact zup_s
      rw [← ew157]
      clear ew157
      refine zp_seg (pc' := 162) (lv' := [(0, .ref to), (1, .ref t), (2, .int y2_66)]) (st' := [.ref t, .ref to]) [(160, .aload_n 0), (161, .aload_n 1)] (by decide +kernel) rfl ?_
      have hb26 : w157 t = some (.inl (13, zTo t g2)) := (heq157 t (zx_X16_copyM_0 htt)).trans hb24
      refine zr_get (idx := 243) (k := 13) (v := .int (g2 13)) (by decide +kernel) (by decide +kernel) hb26 rfl ?_
      refine zr_put2 (idx := 243) (k := 13) (fs2 := zTo to (zs (zs (zs (zs (zs (zs (zs g1 0 (g2 0)) 3 (g2 3)) 4 (g2 4)) 5 (g2 5)) 10 (g2 10)) 12 (g2 12)) 13 (g2 13))) (by decide +kernel) (by decide +kernel) hc157 (Nat.le_of_ble_eq_true rfl) rfl rfl rfl ?_
      show zP (d + 1) zq_X16_copy 168 [(0, .ref to), (1, .ref t), (2, .int y2_66)] [] (zup w157 to (.inl (13, zTo to (zs (zs (zs (zs (zs (zs (zs g1 0 (g2 0)) 3 (g2 3)) 4 (g2 4)) 5 (g2 5)) 10 (g2 10)) 12 (g2 12)) 13 (g2 13))))) sz 0 0 Post
      obtain ⟨w165, ew165⟩ : ∃ wz9, wz9 = zup w157 to (.inl (13, zTo to (zs (zs (zs (zs (zs (zs (zs g1 0 (g2 0)) 3 (g2 3)) 4 (g2 4)) 5 (g2 5)) 10 (g2 10)) 12 (g2 12)) 13 (g2 13)))) := ⟨_, rfl⟩
      have hsi165 : zSI w157 w165 := by rw [ew165]; exact zSI.setT hc157 _
      have heq165 : ∀ x, x ≠ to → w165 x = w157 x := fun x hx => by rw [ew165]; exact zup_n hx
      have hc165 : w165 to = some (.inl (13, zTo to (zs (zs (zs (zs (zs (zs (zs g1 0 (g2 0)) 3 (g2 3)) 4 (g2 4)) 5 (g2 5)) 10 (g2 10)) 12 (g2 12)) 13 (g2 13)))) := by rw [ew165]; exact zup_s
      rw [← ew165]
      clear ew165
      refine zp_seg (pc' := 169) (lv' := [(0, .ref to), (1, .ref t), (2, .int y2_66)]) (st' := [.ref t]) [(168, .aload_n 1)] (by decide +kernel) rfl ?_
      have hb27 : w165 t = some (.inl (13, zTo t g2)) := (heq165 t (zx_X16_copyM_0 htt)).trans hb26
      refine zr_get (idx := 246) (k := 14) (v := .ref (t + 8)) (by decide +kernel) (by decide +kernel) hb27 rfl ?_
      refine zp_seg (pc' := 174) (lv' := [(0, .ref to), (1, .ref t), (2, .int y2_66)]) (st' := [.ref to, .int 0, .ref (t + 8)]) [(172, .iconst 0), (173, .aload_n 0)] (by decide +kernel) rfl ?_
      refine zr_get (idx := 246) (k := 14) (v := .ref (to + 8)) (by decide +kernel) (by decide +kernel) hc165 rfl ?_
      refine zp_seg (pc' := 181) (lv' := [(0, .ref to), (1, .ref t), (2, .int y2_66)]) (st' := [.int 361, .int 0, .ref (to + 8), .int 0, .ref (t + 8)]) [(177, .iconst 0), (178, .sipush 361)] (by decide +kernel) rfl ?_
      have hb28 : w165 (t + 8) = some (.inr (0, 361, .inl fu2)) := ((heq165 (t + 8) (zx_X16_copyM_23 htt)).trans ((heq157 (t + 8) (zx_X16_copyM_23 htt)).trans ((heq149 (t + 8) (zx_X16_copyM_27 htt)).trans ((heq133 (t + 8) (zx_X16_copyM_23 htt)).trans ((heqL66 (t + 8) (zx_X16_copyM_26 htt)).trans ((heq61 (t + 8) (zx_X16_copyM_23 htt)).trans ((heq53 (t + 8) (zx_X16_copyM_23 htt)).trans ((heq45 (t + 8) (zx_X16_copyM_23 htt)).trans ((heq37 (t + 8) (zx_X16_copyM_25 htt)).trans ((heq21 (t + 8) (zx_X16_copyM_24 htt)).trans (heq5 (t + 8) (zx_X16_copyM_23 htt)))))))))))).trans hAu2
      have hb29 : w165 (to + 8) = some (.inr (0, 361, .inl fu1)) := ((heq165 (to + 8) (zx_X16_copyM_28)).trans ((heq157 (to + 8) (zx_X16_copyM_28)).trans ((heq149 (to + 8) (zx_X16_copyM_32)).trans ((heq133 (to + 8) (zx_X16_copyM_28)).trans ((heqL66 (to + 8) (zx_X16_copyM_31)).trans ((heq61 (to + 8) (zx_X16_copyM_28)).trans ((heq53 (to + 8) (zx_X16_copyM_28)).trans ((heq45 (to + 8) (zx_X16_copyM_28)).trans ((heq37 (to + 8) (zx_X16_copyM_30)).trans ((heq21 (to + 8) (zx_X16_copyM_29)).trans (heq5 (to + 8) (zx_X16_copyM_28)))))))))))).trans hAu1
      have hl30 : (361 : Int32).toInt = 361 := by decide
      refine zr_acpy (idx := 34) (by decide +kernel) (by decide +kernel) hb28 hb29 (rfl) (by first | omega | decide) (by first | omega | decide) (by first | omega | decide) (by first | omega | decide) (by first | omega | decide) (by omega) (Nat.le_of_ble_eq_true rfl) ?_
      show zP (d + 1) zq_X16_copy 184 [(0, .ref to), (1, .ref t), (2, .int y2_66)] [] (zup w165 (to + 8) (.inr (0, 361, .inl (va_cpy fu2 fu1 ((0 : Int32).toNatClampNeg) ((0 : Int32).toNatClampNeg) ((361 : Int32).toNatClampNeg))))) sz 0 0 Post
      obtain ⟨w181, ew181⟩ : ∃ wz9, wz9 = zup w165 (to + 8) (.inr (0, 361, .inl (va_cpy fu2 fu1 ((0 : Int32).toNatClampNeg) ((0 : Int32).toNatClampNeg) ((361 : Int32).toNatClampNeg)))) := ⟨_, rfl⟩
      have hsi181 : zSI w165 w181 := by rw [ew181]; exact zSI.arr _ hb29
      have heq181 : ∀ x, x ≠ to + 8 → w181 x = w165 x := fun x hx => by rw [ew181]; exact zup_n hx
      have hc181 : w181 (to + 8) = some (.inr (0, 361, .inl (va_cpy fu2 fu1 ((0 : Int32).toNatClampNeg) ((0 : Int32).toNatClampNeg) ((361 : Int32).toNatClampNeg)))) := by rw [ew181]; exact zup_s
      rw [← ew181]
      clear ew181
      have hb31 : w181 to = some (.inl (13, zTo to (zs (zs (zs (zs (zs (zs (zs g1 0 (g2 0)) 3 (g2 3)) 4 (g2 4)) 5 (g2 5)) 10 (g2 10)) 12 (g2 12)) 13 (g2 13)))) := (heq181 to (zx_X16_copyM_33)).trans hc165
      have hb32 : w181 (to + 1) = some (.inr (0, 325, .inl (va_cpy fn2 fn1 ((0 : Int32).toNatClampNeg) ((0 : Int32).toNatClampNeg) ((325 : Int32).toNatClampNeg)))) := ((heq181 (to + 1) (zx_X16_copyM_37)).trans ((heq165 (to + 1) (zx_X16_copyM_2)).trans ((heq157 (to + 1) (zx_X16_copyM_2)).trans ((heq149 (to + 1) (zx_X16_copyM_36)).trans ((heq133 (to + 1) (zx_X16_copyM_2)).trans ((heqL66 (to + 1) (zx_X16_copyM_35)).trans ((heq61 (to + 1) (zx_X16_copyM_2)).trans ((heq53 (to + 1) (zx_X16_copyM_2)).trans ((heq45 (to + 1) (zx_X16_copyM_2)).trans (heq37 (to + 1) (zx_X16_copyM_34))))))))))).trans hc21
      have hb33 : w181 (to + 2) = some (.inr (0, 325, .inl (va_cpy fd2 fd1 ((0 : Int32).toNatClampNeg) ((0 : Int32).toNatClampNeg) ((325 : Int32).toNatClampNeg)))) := ((heq181 (to + 2) (zx_X16_copyM_40)).trans ((heq165 (to + 2) (zx_X16_copyM_7)).trans ((heq157 (to + 2) (zx_X16_copyM_7)).trans ((heq149 (to + 2) (zx_X16_copyM_39)).trans ((heq133 (to + 2) (zx_X16_copyM_7)).trans ((heqL66 (to + 2) (zx_X16_copyM_38)).trans ((heq61 (to + 2) (zx_X16_copyM_7)).trans ((heq53 (to + 2) (zx_X16_copyM_7)).trans (heq45 (to + 2) (zx_X16_copyM_7)))))))))).trans hc37
      have hb34 : w181 (to + 3) = some (.inr (0, 13, .inl pa)) := ((heq181 (to + 3) (zx_X16_copyM_43)).trans ((heq165 (to + 3) (zx_X16_copyM_41)).trans ((heq157 (to + 3) (zx_X16_copyM_41)).trans ((heq149 (to + 3) (zx_X16_copyM_42)).trans (heq133 (to + 3) (zx_X16_copyM_41)))))).trans hpa
      have hb35 : w181 (to + 4) = some (.inr (0, 13, .inl pb)) := ((heq181 (to + 4) (zx_X16_copyM_46)).trans ((heq165 (to + 4) (zx_X16_copyM_44)).trans ((heq157 (to + 4) (zx_X16_copyM_44)).trans ((heq149 (to + 4) (zx_X16_copyM_45)).trans (heq133 (to + 4) (zx_X16_copyM_44)))))).trans hpb
      have hb36 : w181 (to + 5) = some (.inr (0, 13, .inl pc)) := ((heq181 (to + 5) (zx_X16_copyM_49)).trans ((heq165 (to + 5) (zx_X16_copyM_47)).trans ((heq157 (to + 5) (zx_X16_copyM_47)).trans ((heq149 (to + 5) (zx_X16_copyM_48)).trans (heq133 (to + 5) (zx_X16_copyM_47)))))).trans hpc
      have hb37 : w181 (to + 6) = some (.inr (0, 13, .inl pe)) := ((heq181 (to + 6) (zx_X16_copyM_52)).trans ((heq165 (to + 6) (zx_X16_copyM_50)).trans ((heq157 (to + 6) (zx_X16_copyM_50)).trans ((heq149 (to + 6) (zx_X16_copyM_51)).trans (heq133 (to + 6) (zx_X16_copyM_50)))))).trans hpe
      have hb38 : w181 (to + 7) = some (.inr (0, 175, .inl (va_cpy fr2 fr1 ((0 : Int32).toNatClampNeg) ((0 : Int32).toNatClampNeg) ((175 : Int32).toNatClampNeg)))) := ((heq181 (to + 7) (zx_X16_copyM_53)).trans ((heq165 (to + 7) (zx_X16_copyM_17)).trans (heq157 (to + 7) (zx_X16_copyM_17)))).trans hc149
      have hTi9 : zTi w181 (to) k := ⟨_, _, _, _, _, _, _, _, _, hb31, hb32, hb33, hb34, hb35, hb36, hb37, hb38, hc181, zKd_cpy hK2 rfl rfl rfl rfl rfl rfl rfl (zLn_mono hlp (by omega))⟩
      have hoffend : ∀ x, (x < to ∨ to + 9 ≤ x) → w181 x = w x := fun x hx => ((heq181 x (zx_X16_copyM_59 hx)).trans ((heq165 x (zx_X16_copyM_54 hx)).trans ((heq157 x (zx_X16_copyM_54 hx)).trans ((heq149 x (zx_X16_copyM_58 hx)).trans ((heq133 x (zx_X16_copyM_54 hx)).trans ((heqL66 x (zx_X16_copyM_57 hx)).trans ((heq61 x (zx_X16_copyM_54 hx)).trans ((heq53 x (zx_X16_copyM_54 hx)).trans ((heq45 x (zx_X16_copyM_54 hx)).trans ((heq37 x (zx_X16_copyM_56 hx)).trans ((heq21 x (zx_X16_copyM_55 hx)).trans (heq5 x (zx_X16_copyM_54 hx)))))))))))))
      refine zr_retV (by decide +kernel) rfl ?_
      rw [← hPost]; exact ⟨rfl, _, rfl, (((((((((((hsi5.tr hsi21).tr hsi37).tr hsi45).tr hsi53).tr hsi61).tr hsiL66).tr hsi133).tr hsi149).tr hsi157).tr hsi165).tr hsi181), hoffend, hTi9, rfl⟩
    ·
      have f39 := znleI cc71
      refine zp_seg (pc' := 75) (lv' := [(0, .ref to), (1, .ref t), (2, .int y2_66)]) (st' := [.ref to]) [(74, .aload_n 0)] (by decide +kernel) rfl ?_
      have hb40 : wL66 to = some (.inl (13, zTo to (zs (zs (zs (zs g1 0 (g2 0)) 3 (g2 3)) 4 (g2 4)) 5 (g2 5)))) := (heqL66 to (zx_X16_copyM_12)).trans hc61
      refine zr_get (idx := 222) (k := 6) (v := .ref (to + 3)) (by decide +kernel) (by decide +kernel) hb40 rfl ?_
      refine zp_seg (pc' := 80) (lv' := [(0, .ref to), (1, .ref t), (2, .int y2_66)]) (st' := [.ref t, .int y2_66, .ref (to + 3)]) [(78, .iload_n 2), (79, .aload_n 1)] (by decide +kernel) rfl ?_
      refine zr_get (idx := 222) (k := 6) (v := .ref (t + 3)) (by decide +kernel) (by decide +kernel) hb17 rfl ?_
      refine zp_seg (pc' := 84) (lv' := [(0, .ref to), (1, .ref t), (2, .int y2_66)]) (st' := [.int y2_66, .ref (t + 3), .int y2_66, .ref (to + 3)]) [(83, .iload_n 2)] (by decide +kernel) rfl ?_
      have hb41 : wL66 (t + 3) = some (.inr (0, 13, .inl fa2)) := ((heqL66 (t + 3) (zx_X16_copyM_63 htt)).trans ((heq61 (t + 3) (zx_X16_copyM_60 htt)).trans ((heq53 (t + 3) (zx_X16_copyM_60 htt)).trans ((heq45 (t + 3) (zx_X16_copyM_60 htt)).trans ((heq37 (t + 3) (zx_X16_copyM_62 htt)).trans ((heq21 (t + 3) (zx_X16_copyM_61 htt)).trans (heq5 (t + 3) (zx_X16_copyM_60 htt)))))))).trans hAa2
      refine zr_iald (by decide +kernel) hb41 (zin (by first | omega | decide) (by first | omega | decide)) ?_
      obtain ⟨x84, ex84⟩ : ∃ x9, x9 = fa2 (y2_66.toNatClampNeg) := ⟨_, rfl⟩
      rw [← ex84]
      have kx84 := zrng x84
      refine zr_iast (by decide +kernel) hpa (zin (by first | omega | decide) (by first | omega | decide)) ?_
      show zP (d + 1) zq_X16_copy 86 [(0, .ref to), (1, .ref t), (2, .int y2_66)] [] (zup wL66 (to + 3) (.inr (0, 13, .inl (upd pa (y2_66.toNatClampNeg) x84)))) sz 0 0 Post
      obtain ⟨w85, ew85⟩ : ∃ wz9, wz9 = zup wL66 (to + 3) (.inr (0, 13, .inl (upd pa (y2_66.toNatClampNeg) x84))) := ⟨_, rfl⟩
      have hsi85 : zSI wL66 w85 := by rw [ew85]; exact zSI.arr _ hpa
      have heq85 : ∀ x, x ≠ to + 3 → w85 x = wL66 x := fun x hx => by rw [ew85]; exact zup_n hx
      have hc85 : w85 (to + 3) = some (.inr (0, 13, .inl (upd pa (y2_66.toNatClampNeg) x84))) := by rw [ew85]; exact zup_s
      rw [← ew85]
      clear ew85
      refine zp_seg (pc' := 87) (lv' := [(0, .ref to), (1, .ref t), (2, .int y2_66)]) (st' := [.ref to]) [(86, .aload_n 0)] (by decide +kernel) rfl ?_
      have hb42 : w85 to = some (.inl (13, zTo to (zs (zs (zs (zs g1 0 (g2 0)) 3 (g2 3)) 4 (g2 4)) 5 (g2 5)))) := (heq85 to (zx_X16_copyM_64)).trans hb40
      refine zr_get (idx := 225) (k := 7) (v := .ref (to + 4)) (by decide +kernel) (by decide +kernel) hb42 rfl ?_
      refine zp_seg (pc' := 92) (lv' := [(0, .ref to), (1, .ref t), (2, .int y2_66)]) (st' := [.ref t, .int y2_66, .ref (to + 4)]) [(90, .iload_n 2), (91, .aload_n 1)] (by decide +kernel) rfl ?_
      have hb43 : w85 t = some (.inl (13, zTo t g2)) := (heq85 t (zx_X16_copyM_65 htt)).trans hb17
      refine zr_get (idx := 225) (k := 7) (v := .ref (t + 4)) (by decide +kernel) (by decide +kernel) hb43 rfl ?_
      refine zp_seg (pc' := 96) (lv' := [(0, .ref to), (1, .ref t), (2, .int y2_66)]) (st' := [.int y2_66, .ref (t + 4), .int y2_66, .ref (to + 4)]) [(95, .iload_n 2)] (by decide +kernel) rfl ?_
      have hb44 : w85 (t + 4) = some (.inr (0, 13, .inl fb2)) := ((heq85 (t + 4) (zx_X16_copyM_70 htt)).trans ((heqL66 (t + 4) (zx_X16_copyM_69 htt)).trans ((heq61 (t + 4) (zx_X16_copyM_66 htt)).trans ((heq53 (t + 4) (zx_X16_copyM_66 htt)).trans ((heq45 (t + 4) (zx_X16_copyM_66 htt)).trans ((heq37 (t + 4) (zx_X16_copyM_68 htt)).trans ((heq21 (t + 4) (zx_X16_copyM_67 htt)).trans (heq5 (t + 4) (zx_X16_copyM_66 htt))))))))).trans hAb2
      refine zr_iald (by decide +kernel) hb44 (zin (by first | omega | decide) (by first | omega | decide)) ?_
      obtain ⟨x96, ex96⟩ : ∃ x9, x9 = fb2 (y2_66.toNatClampNeg) := ⟨_, rfl⟩
      rw [← ex96]
      have kx96 := zrng x96
      have hb45 : w85 (to + 4) = some (.inr (0, 13, .inl pb)) := (heq85 (to + 4) (zx_X16_copyM_71)).trans hpb
      refine zr_iast (by decide +kernel) hb45 (zin (by first | omega | decide) (by first | omega | decide)) ?_
      show zP (d + 1) zq_X16_copy 98 [(0, .ref to), (1, .ref t), (2, .int y2_66)] [] (zup w85 (to + 4) (.inr (0, 13, .inl (upd pb (y2_66.toNatClampNeg) x96)))) sz 0 0 Post
      obtain ⟨w97, ew97⟩ : ∃ wz9, wz9 = zup w85 (to + 4) (.inr (0, 13, .inl (upd pb (y2_66.toNatClampNeg) x96))) := ⟨_, rfl⟩
      have hsi97 : zSI w85 w97 := by rw [ew97]; exact zSI.arr _ hb45
      have heq97 : ∀ x, x ≠ to + 4 → w97 x = w85 x := fun x hx => by rw [ew97]; exact zup_n hx
      have hc97 : w97 (to + 4) = some (.inr (0, 13, .inl (upd pb (y2_66.toNatClampNeg) x96))) := by rw [ew97]; exact zup_s
      rw [← ew97]
      clear ew97
      refine zp_seg (pc' := 99) (lv' := [(0, .ref to), (1, .ref t), (2, .int y2_66)]) (st' := [.ref to]) [(98, .aload_n 0)] (by decide +kernel) rfl ?_
      have hb46 : w97 to = some (.inl (13, zTo to (zs (zs (zs (zs g1 0 (g2 0)) 3 (g2 3)) 4 (g2 4)) 5 (g2 5)))) := (heq97 to (zx_X16_copyM_72)).trans hb42
      refine zr_get (idx := 228) (k := 8) (v := .ref (to + 5)) (by decide +kernel) (by decide +kernel) hb46 rfl ?_
      refine zp_seg (pc' := 104) (lv' := [(0, .ref to), (1, .ref t), (2, .int y2_66)]) (st' := [.ref t, .int y2_66, .ref (to + 5)]) [(102, .iload_n 2), (103, .aload_n 1)] (by decide +kernel) rfl ?_
      have hb47 : w97 t = some (.inl (13, zTo t g2)) := (heq97 t (zx_X16_copyM_73 htt)).trans hb43
      refine zr_get (idx := 228) (k := 8) (v := .ref (t + 5)) (by decide +kernel) (by decide +kernel) hb47 rfl ?_
      refine zp_seg (pc' := 108) (lv' := [(0, .ref to), (1, .ref t), (2, .int y2_66)]) (st' := [.int y2_66, .ref (t + 5), .int y2_66, .ref (to + 5)]) [(107, .iload_n 2)] (by decide +kernel) rfl ?_
      have hb48 : w97 (t + 5) = some (.inr (0, 13, .inl fc2)) := ((heq97 (t + 5) (zx_X16_copyM_79 htt)).trans ((heq85 (t + 5) (zx_X16_copyM_78 htt)).trans ((heqL66 (t + 5) (zx_X16_copyM_77 htt)).trans ((heq61 (t + 5) (zx_X16_copyM_74 htt)).trans ((heq53 (t + 5) (zx_X16_copyM_74 htt)).trans ((heq45 (t + 5) (zx_X16_copyM_74 htt)).trans ((heq37 (t + 5) (zx_X16_copyM_76 htt)).trans ((heq21 (t + 5) (zx_X16_copyM_75 htt)).trans (heq5 (t + 5) (zx_X16_copyM_74 htt)))))))))).trans hAc2
      refine zr_iald (by decide +kernel) hb48 (zin (by first | omega | decide) (by first | omega | decide)) ?_
      obtain ⟨x108, ex108⟩ : ∃ x9, x9 = fc2 (y2_66.toNatClampNeg) := ⟨_, rfl⟩
      rw [← ex108]
      have kx108 := zrng x108
      have hb49 : w97 (to + 5) = some (.inr (0, 13, .inl pc)) := ((heq97 (to + 5) (zx_X16_copyM_81)).trans (heq85 (to + 5) (zx_X16_copyM_80))).trans hpc
      refine zr_iast (by decide +kernel) hb49 (zin (by first | omega | decide) (by first | omega | decide)) ?_
      show zP (d + 1) zq_X16_copy 110 [(0, .ref to), (1, .ref t), (2, .int y2_66)] [] (zup w97 (to + 5) (.inr (0, 13, .inl (upd pc (y2_66.toNatClampNeg) x108)))) sz 0 0 Post
      obtain ⟨w109, ew109⟩ : ∃ wz9, wz9 = zup w97 (to + 5) (.inr (0, 13, .inl (upd pc (y2_66.toNatClampNeg) x108))) := ⟨_, rfl⟩
      have hsi109 : zSI w97 w109 := by rw [ew109]; exact zSI.arr _ hb49
      have heq109 : ∀ x, x ≠ to + 5 → w109 x = w97 x := fun x hx => by rw [ew109]; exact zup_n hx
      have hc109 : w109 (to + 5) = some (.inr (0, 13, .inl (upd pc (y2_66.toNatClampNeg) x108))) := by rw [ew109]; exact zup_s
      rw [← ew109]
      clear ew109
      refine zp_seg (pc' := 111) (lv' := [(0, .ref to), (1, .ref t), (2, .int y2_66)]) (st' := [.ref to]) [(110, .aload_n 0)] (by decide +kernel) rfl ?_
      have hb50 : w109 to = some (.inl (13, zTo to (zs (zs (zs (zs g1 0 (g2 0)) 3 (g2 3)) 4 (g2 4)) 5 (g2 5)))) := (heq109 to (zx_X16_copyM_82)).trans hb46
      refine zr_get (idx := 231) (k := 9) (v := .ref (to + 6)) (by decide +kernel) (by decide +kernel) hb50 rfl ?_
      refine zp_seg (pc' := 116) (lv' := [(0, .ref to), (1, .ref t), (2, .int y2_66)]) (st' := [.ref t, .int y2_66, .ref (to + 6)]) [(114, .iload_n 2), (115, .aload_n 1)] (by decide +kernel) rfl ?_
      have hb51 : w109 t = some (.inl (13, zTo t g2)) := (heq109 t (zx_X16_copyM_83 htt)).trans hb47
      refine zr_get (idx := 231) (k := 9) (v := .ref (t + 6)) (by decide +kernel) (by decide +kernel) hb51 rfl ?_
      refine zp_seg (pc' := 120) (lv' := [(0, .ref to), (1, .ref t), (2, .int y2_66)]) (st' := [.int y2_66, .ref (t + 6), .int y2_66, .ref (to + 6)]) [(119, .iload_n 2)] (by decide +kernel) rfl ?_
      have hb52 : w109 (t + 6) = some (.inr (0, 13, .inl fe2)) := ((heq109 (t + 6) (zx_X16_copyM_90 htt)).trans ((heq97 (t + 6) (zx_X16_copyM_89 htt)).trans ((heq85 (t + 6) (zx_X16_copyM_88 htt)).trans ((heqL66 (t + 6) (zx_X16_copyM_87 htt)).trans ((heq61 (t + 6) (zx_X16_copyM_84 htt)).trans ((heq53 (t + 6) (zx_X16_copyM_84 htt)).trans ((heq45 (t + 6) (zx_X16_copyM_84 htt)).trans ((heq37 (t + 6) (zx_X16_copyM_86 htt)).trans ((heq21 (t + 6) (zx_X16_copyM_85 htt)).trans (heq5 (t + 6) (zx_X16_copyM_84 htt))))))))))).trans hAe2
      refine zr_iald (by decide +kernel) hb52 (zin (by first | omega | decide) (by first | omega | decide)) ?_
      obtain ⟨x120, ex120⟩ : ∃ x9, x9 = fe2 (y2_66.toNatClampNeg) := ⟨_, rfl⟩
      rw [← ex120]
      have kx120 := zrng x120
      have hb53 : w109 (to + 6) = some (.inr (0, 13, .inl pe)) := ((heq109 (to + 6) (zx_X16_copyM_93)).trans ((heq97 (to + 6) (zx_X16_copyM_92)).trans (heq85 (to + 6) (zx_X16_copyM_91)))).trans hpe
      refine zr_iast (by decide +kernel) hb53 (zin (by first | omega | decide) (by first | omega | decide)) ?_
      show zP (d + 1) zq_X16_copy 122 [(0, .ref to), (1, .ref t), (2, .int y2_66)] [] (zup w109 (to + 6) (.inr (0, 13, .inl (upd pe (y2_66.toNatClampNeg) x120)))) sz 0 0 Post
      obtain ⟨w121, ew121⟩ : ∃ wz9, wz9 = zup w109 (to + 6) (.inr (0, 13, .inl (upd pe (y2_66.toNatClampNeg) x120))) := ⟨_, rfl⟩
      have hsi121 : zSI w109 w121 := by rw [ew121]; exact zSI.arr _ hb53
      have heq121 : ∀ x, x ≠ to + 6 → w121 x = w109 x := fun x hx => by rw [ew121]; exact zup_n hx
      have hc121 : w121 (to + 6) = some (.inr (0, 13, .inl (upd pe (y2_66.toNatClampNeg) x120))) := by rw [ew121]; exact zup_s
      rw [← ew121]
      clear ew121
      refine zp_seg (pc' := 125) (lv' := [(2, .int (y2_66 + 1)), (0, .ref to), (1, .ref t)]) (st' := []) [(122, .iinc 2 1)] (by decide +kernel) rfl ?_
      have k54 := zaddC y2_66 1 (n := 1) (by decide) (by omega) (by omega)
      generalize ev125 : (y2_66 + 1 : Int32) = v125 at k54 ⊢
      have kv125 := zrng v125
      refine zp_seg (pc' := 66) (lv' := [(2, .int v125), (0, .ref to), (1, .ref t)]) (st' := []) [(125, .goto (-59))] (by decide +kernel) rfl ?_
      have hz55 : (v125.toNatClampNeg : Int) = v125.toInt := znat (by first | omega | decide)
      have hb56 : w121 (to + 3) = some (.inr (0, 13, .inl (upd pa (y2_66.toNatClampNeg) x84))) := ((heq121 (to + 3) (zx_X16_copyM_100)).trans ((heq109 (to + 3) (zx_X16_copyM_99)).trans (heq97 (to + 3) (zx_X16_copyM_98)))).trans hc85
      have hb57 : w121 (to + 4) = some (.inr (0, 13, .inl (upd pb (y2_66.toNatClampNeg) x96))) := ((heq121 (to + 4) (zx_X16_copyM_102)).trans (heq109 (to + 4) (zx_X16_copyM_101))).trans hc97
      have hb58 : w121 (to + 5) = some (.inr (0, 13, .inl (upd pc (y2_66.toNatClampNeg) x108))) := (heq121 (to + 5) (zx_X16_copyM_103)).trans hc109
      exact (ih66 w121 v125 ((upd pa (y2_66.toNatClampNeg) x84)) ((upd pb (y2_66.toNatClampNeg) x96)) ((upd pc (y2_66.toNatClampNeg) x108)) ((upd pe (y2_66.toNatClampNeg) x120)) ((((hsiL66.tr hsi85).tr hsi97).tr hsi109).tr hsi121) (fun x hx => ((heq121 x (zx_X16_copyM_97 hx)).trans ((heq109 x (zx_X16_copyM_96 hx)).trans ((heq97 x (zx_X16_copyM_95 hx)).trans ((heq85 x (zx_X16_copyM_94 hx)).trans (heqL66 x hx)))))) (by first | assumption | omega | decide) (by first | assumption | omega | decide) hb56 hb57 hb58 hc121 (by
            intro i hi
            by_cases e : i = y2_66.toNatClampNeg
            · rw [e, zupd_s, zupd_s, zupd_s, ex84, ex96, ex108]
              exact hKl2 _ (by omega)
            · rw [zupd_n _ _ e, zupd_n _ _ e, zupd_n _ _ e]
              exact hlp i (by omega)) (by omega)).more (zfa1 rfl (zfa1 rfl (zfa1 rfl (zfa0))))
  have hz59 : ((0 : Int32).toNatClampNeg : Int) = 0 := by decide
  have hb60 : w61 (to + 3) = some (.inr (0, 13, .inl fa1)) := ((heq61 (to + 3) (zx_X16_copyM_41)).trans ((heq53 (to + 3) (zx_X16_copyM_41)).trans ((heq45 (to + 3) (zx_X16_copyM_41)).trans ((heq37 (to + 3) (zx_X16_copyM_105)).trans ((heq21 (to + 3) (zx_X16_copyM_104)).trans (heq5 (to + 3) (zx_X16_copyM_41))))))).trans hAa1
  have hb61 : w61 (to + 4) = some (.inr (0, 13, .inl fb1)) := ((heq61 (to + 4) (zx_X16_copyM_44)).trans ((heq53 (to + 4) (zx_X16_copyM_44)).trans ((heq45 (to + 4) (zx_X16_copyM_44)).trans ((heq37 (to + 4) (zx_X16_copyM_107)).trans ((heq21 (to + 4) (zx_X16_copyM_106)).trans (heq5 (to + 4) (zx_X16_copyM_44))))))).trans hAb1
  have hb62 : w61 (to + 5) = some (.inr (0, 13, .inl fc1)) := ((heq61 (to + 5) (zx_X16_copyM_47)).trans ((heq53 (to + 5) (zx_X16_copyM_47)).trans ((heq45 (to + 5) (zx_X16_copyM_47)).trans ((heq37 (to + 5) (zx_X16_copyM_109)).trans ((heq21 (to + 5) (zx_X16_copyM_108)).trans (heq5 (to + 5) (zx_X16_copyM_47))))))).trans hAc1
  have hb63 : w61 (to + 6) = some (.inr (0, 13, .inl fe1)) := ((heq61 (to + 6) (zx_X16_copyM_50)).trans ((heq53 (to + 6) (zx_X16_copyM_50)).trans ((heq45 (to + 6) (zx_X16_copyM_50)).trans ((heq37 (to + 6) (zx_X16_copyM_111)).trans ((heq21 (to + 6) (zx_X16_copyM_110)).trans (heq5 (to + 6) (zx_X16_copyM_50))))))).trans hAe1
  exact (hL66 _ w61 0 (fa1) (fb1) (fc1) (fe1) zSI.rf (fun _ _ => rfl) (by first | assumption | omega | decide) (by first | assumption | omega | decide) hb60 hb61 hb62 hb63 (by
        exact fun i hi => absurd hi (by omega)) (Nat.lt_succ_self _)).more (zfa1 rfl (zfa1 rfl (zfa1 rfl (zfa0))))

theorem zx_X16_numberM_0 {m t : Nat} (h0 : (m + 83 ≤ t ∧ t + 9 ≤ m + 92) ∨ (m + 6316 ≤ t ∧ t + 9 ≤ m + 7594)) : t < m ∨ m + 1 ≤ t := by omega
theorem zx_X16_numberM_1 {G3_0 m t : Nat} (h0 : (m + 83 ≤ t ∧ t + 9 ≤ m + 92) ∨ (m + 6316 ≤ t ∧ t + 9 ≤ m + 7594)) (h1 : G3_0 + 2 ≤ 44) : t < m + 596 + 130 * G3_0 ∨ m + 596 + 130 * G3_0 + 130 ≤ t := by omega
theorem zx_X16_numberM_2 {G3_0 G3_1 m t : Nat} (h0 : (m + 83 ≤ t ∧ t + 9 ≤ m + 92) ∨ (m + 6316 ≤ t ∧ t + 9 ≤ m + 7594)) (h1 : G3_1 = G3_0 + 1) (h2 : G3_0 + 2 ≤ 44) : t < m + 596 + 130 * G3_1 ∨ m + 596 + 130 * G3_1 + 130 ≤ t := by omega
theorem zx_X16_numberM_3 {G3_0 m x : Nat} (h0 : m + 596 + 130 * G3_0 ≤ x) (h1 : x < m + 596 + 130 * G3_0 + 130) (h2 : G3_0 + 2 ≤ 44) : x < m ∨ m + 1 ≤ x := by omega
theorem zx_X16_numberM_4 {G3_0 G3_1 m x : Nat} (h0 : m + 596 + 130 * G3_0 ≤ x) (h1 : x < m + 596 + 130 * G3_0 + 130) (h2 : G3_1 = G3_0 + 1) (h3 : G3_0 + 2 ≤ 44) : x < m + 596 + 130 * G3_1 ∨ m + 596 + 130 * G3_1 + 130 ≤ x := by omega
theorem zx_X16_numberM_5 {G3_0 m t x : Nat} (h0 : m + 596 + 130 * G3_0 ≤ x) (h1 : x < m + 596 + 130 * G3_0 + 130) (h2 : (m + 83 ≤ t ∧ t + 9 ≤ m + 92) ∨ (m + 6316 ≤ t ∧ t + 9 ≤ m + 7594)) (h3 : G3_0 + 2 ≤ 44) : x < t ∨ t + 1 ≤ x := by omega
theorem zx_X16_numberM_6 {G3_0 G3_1 m t x : Nat} (h0 : m + 596 + 130 * G3_1 ≤ x) (h1 : x < m + 596 + 130 * G3_1 + 130) (h2 : (m + 83 ≤ t ∧ t + 9 ≤ m + 92) ∨ (m + 6316 ≤ t ∧ t + 9 ≤ m + 7594)) (h3 : G3_1 = G3_0 + 1) (h4 : G3_0 + 2 ≤ 44) : x < t ∨ t + 1 ≤ x := by omega
theorem zx_X16_numberM_7 {G3_0 G3_1 m x : Nat} (h0 : m + 596 + 130 * G3_1 ≤ x) (h1 : x < m + 596 + 130 * G3_1 + 130) (h2 : G3_1 = G3_0 + 1) (h3 : G3_0 + 2 ≤ 44) : x < m + 596 + 130 * G3_0 ∨ m + 596 + 130 * G3_0 + 130 ≤ x := by omega
theorem zx_X16_numberM_8 {m t : Nat} (h0 : (m + 83 ≤ t ∧ t + 9 ≤ m + 92) ∨ (m + 6316 ≤ t ∧ t + 9 ≤ m + 7594)) : (t + 1) < m ∨ m + 1 ≤ (t + 1) := by omega
theorem zx_X16_numberM_9 {G3_0 m t : Nat} (h0 : (m + 83 ≤ t ∧ t + 9 ≤ m + 92) ∨ (m + 6316 ≤ t ∧ t + 9 ≤ m + 7594)) (h1 : G3_0 + 2 ≤ 44) : (t + 1) < m + 596 + 130 * G3_0 ∨ m + 596 + 130 * G3_0 + 130 ≤ (t + 1) := by omega
theorem zx_X16_numberM_10 {G3_0 G3_1 m t : Nat} (h0 : (m + 83 ≤ t ∧ t + 9 ≤ m + 92) ∨ (m + 6316 ≤ t ∧ t + 9 ≤ m + 7594)) (h1 : G3_1 = G3_0 + 1) (h2 : G3_0 + 2 ≤ 44) : (t + 1) < m + 596 + 130 * G3_1 ∨ m + 596 + 130 * G3_1 + 130 ≤ (t + 1) := by omega
theorem zx_X16_numberM_11 {m t : Nat} (h0 : (m + 83 ≤ t ∧ t + 9 ≤ m + 92) ∨ (m + 6316 ≤ t ∧ t + 9 ≤ m + 7594)) : (t + 1) < t ∨ t + 1 ≤ (t + 1) := by omega
theorem zx_X16_numberM_12 {m t : Nat} (h0 : (m + 83 ≤ t ∧ t + 9 ≤ m + 92) ∨ (m + 6316 ≤ t ∧ t + 9 ≤ m + 7594)) : (t + 2) < m ∨ m + 1 ≤ (t + 2) := by omega
theorem zx_X16_numberM_13 {G3_0 m t : Nat} (h0 : (m + 83 ≤ t ∧ t + 9 ≤ m + 92) ∨ (m + 6316 ≤ t ∧ t + 9 ≤ m + 7594)) (h1 : G3_0 + 2 ≤ 44) : (t + 2) < m + 596 + 130 * G3_0 ∨ m + 596 + 130 * G3_0 + 130 ≤ (t + 2) := by omega
theorem zx_X16_numberM_14 {G3_0 G3_1 m t : Nat} (h0 : (m + 83 ≤ t ∧ t + 9 ≤ m + 92) ∨ (m + 6316 ≤ t ∧ t + 9 ≤ m + 7594)) (h1 : G3_1 = G3_0 + 1) (h2 : G3_0 + 2 ≤ 44) : (t + 2) < m + 596 + 130 * G3_1 ∨ m + 596 + 130 * G3_1 + 130 ≤ (t + 2) := by omega
theorem zx_X16_numberM_15 {m t : Nat} (h0 : (m + 83 ≤ t ∧ t + 9 ≤ m + 92) ∨ (m + 6316 ≤ t ∧ t + 9 ≤ m + 7594)) : (t + 2) < t ∨ t + 1 ≤ (t + 2) := by omega
theorem zx_X16_numberM_16 {m t : Nat} (h0 : (m + 83 ≤ t ∧ t + 9 ≤ m + 92) ∨ (m + 6316 ≤ t ∧ t + 9 ≤ m + 7594)) : t < t + 1 ∨ t + 1 + 2 ≤ t := by omega
theorem zx_X16_numberM_17 {m t : Nat} (h0 : (m + 83 ≤ t ∧ t + 9 ≤ m + 92) ∨ (m + 6316 ≤ t ∧ t + 9 ≤ m + 7594)) : (t + 3) < m ∨ m + 1 ≤ (t + 3) := by omega
theorem zx_X16_numberM_18 {G3_0 m t : Nat} (h0 : (m + 83 ≤ t ∧ t + 9 ≤ m + 92) ∨ (m + 6316 ≤ t ∧ t + 9 ≤ m + 7594)) (h1 : G3_0 + 2 ≤ 44) : (t + 3) < m + 596 + 130 * G3_0 ∨ m + 596 + 130 * G3_0 + 130 ≤ (t + 3) := by omega
theorem zx_X16_numberM_19 {G3_0 G3_1 m t : Nat} (h0 : (m + 83 ≤ t ∧ t + 9 ≤ m + 92) ∨ (m + 6316 ≤ t ∧ t + 9 ≤ m + 7594)) (h1 : G3_1 = G3_0 + 1) (h2 : G3_0 + 2 ≤ 44) : (t + 3) < m + 596 + 130 * G3_1 ∨ m + 596 + 130 * G3_1 + 130 ≤ (t + 3) := by omega
theorem zx_X16_numberM_20 {m t : Nat} (h0 : (m + 83 ≤ t ∧ t + 9 ≤ m + 92) ∨ (m + 6316 ≤ t ∧ t + 9 ≤ m + 7594)) : (t + 3) < t ∨ t + 1 ≤ (t + 3) := by omega
theorem zx_X16_numberM_21 {m t : Nat} (h0 : (m + 83 ≤ t ∧ t + 9 ≤ m + 92) ∨ (m + 6316 ≤ t ∧ t + 9 ≤ m + 7594)) : (t + 3) < t + 1 ∨ t + 1 + 2 ≤ (t + 3) := by omega
theorem zx_X16_numberM_22 {m t : Nat} (h0 : (m + 83 ≤ t ∧ t + 9 ≤ m + 92) ∨ (m + 6316 ≤ t ∧ t + 9 ≤ m + 7594)) : (t + 4) < m ∨ m + 1 ≤ (t + 4) := by omega
theorem zx_X16_numberM_23 {G3_0 m t : Nat} (h0 : (m + 83 ≤ t ∧ t + 9 ≤ m + 92) ∨ (m + 6316 ≤ t ∧ t + 9 ≤ m + 7594)) (h1 : G3_0 + 2 ≤ 44) : (t + 4) < m + 596 + 130 * G3_0 ∨ m + 596 + 130 * G3_0 + 130 ≤ (t + 4) := by omega
theorem zx_X16_numberM_24 {G3_0 G3_1 m t : Nat} (h0 : (m + 83 ≤ t ∧ t + 9 ≤ m + 92) ∨ (m + 6316 ≤ t ∧ t + 9 ≤ m + 7594)) (h1 : G3_1 = G3_0 + 1) (h2 : G3_0 + 2 ≤ 44) : (t + 4) < m + 596 + 130 * G3_1 ∨ m + 596 + 130 * G3_1 + 130 ≤ (t + 4) := by omega
theorem zx_X16_numberM_25 {m t : Nat} (h0 : (m + 83 ≤ t ∧ t + 9 ≤ m + 92) ∨ (m + 6316 ≤ t ∧ t + 9 ≤ m + 7594)) : (t + 4) < t ∨ t + 1 ≤ (t + 4) := by omega
theorem zx_X16_numberM_26 {m t : Nat} (h0 : (m + 83 ≤ t ∧ t + 9 ≤ m + 92) ∨ (m + 6316 ≤ t ∧ t + 9 ≤ m + 7594)) : (t + 4) < t + 1 ∨ t + 1 + 2 ≤ (t + 4) := by omega
theorem zx_X16_numberM_27 {m t : Nat} (h0 : (m + 83 ≤ t ∧ t + 9 ≤ m + 92) ∨ (m + 6316 ≤ t ∧ t + 9 ≤ m + 7594)) : (t + 5) < m ∨ m + 1 ≤ (t + 5) := by omega
theorem zx_X16_numberM_28 {G3_0 m t : Nat} (h0 : (m + 83 ≤ t ∧ t + 9 ≤ m + 92) ∨ (m + 6316 ≤ t ∧ t + 9 ≤ m + 7594)) (h1 : G3_0 + 2 ≤ 44) : (t + 5) < m + 596 + 130 * G3_0 ∨ m + 596 + 130 * G3_0 + 130 ≤ (t + 5) := by omega
theorem zx_X16_numberM_29 {G3_0 G3_1 m t : Nat} (h0 : (m + 83 ≤ t ∧ t + 9 ≤ m + 92) ∨ (m + 6316 ≤ t ∧ t + 9 ≤ m + 7594)) (h1 : G3_1 = G3_0 + 1) (h2 : G3_0 + 2 ≤ 44) : (t + 5) < m + 596 + 130 * G3_1 ∨ m + 596 + 130 * G3_1 + 130 ≤ (t + 5) := by omega
theorem zx_X16_numberM_30 {m t : Nat} (h0 : (m + 83 ≤ t ∧ t + 9 ≤ m + 92) ∨ (m + 6316 ≤ t ∧ t + 9 ≤ m + 7594)) : (t + 5) < t ∨ t + 1 ≤ (t + 5) := by omega
theorem zx_X16_numberM_31 {m t : Nat} (h0 : (m + 83 ≤ t ∧ t + 9 ≤ m + 92) ∨ (m + 6316 ≤ t ∧ t + 9 ≤ m + 7594)) : (t + 5) < t + 1 ∨ t + 1 + 2 ≤ (t + 5) := by omega
theorem zx_X16_numberM_32 {m t : Nat} (h0 : (m + 83 ≤ t ∧ t + 9 ≤ m + 92) ∨ (m + 6316 ≤ t ∧ t + 9 ≤ m + 7594)) : (t + 6) < m ∨ m + 1 ≤ (t + 6) := by omega
theorem zx_X16_numberM_33 {G3_0 m t : Nat} (h0 : (m + 83 ≤ t ∧ t + 9 ≤ m + 92) ∨ (m + 6316 ≤ t ∧ t + 9 ≤ m + 7594)) (h1 : G3_0 + 2 ≤ 44) : (t + 6) < m + 596 + 130 * G3_0 ∨ m + 596 + 130 * G3_0 + 130 ≤ (t + 6) := by omega
theorem zx_X16_numberM_34 {G3_0 G3_1 m t : Nat} (h0 : (m + 83 ≤ t ∧ t + 9 ≤ m + 92) ∨ (m + 6316 ≤ t ∧ t + 9 ≤ m + 7594)) (h1 : G3_1 = G3_0 + 1) (h2 : G3_0 + 2 ≤ 44) : (t + 6) < m + 596 + 130 * G3_1 ∨ m + 596 + 130 * G3_1 + 130 ≤ (t + 6) := by omega
theorem zx_X16_numberM_35 {m t : Nat} (h0 : (m + 83 ≤ t ∧ t + 9 ≤ m + 92) ∨ (m + 6316 ≤ t ∧ t + 9 ≤ m + 7594)) : (t + 6) < t ∨ t + 1 ≤ (t + 6) := by omega
theorem zx_X16_numberM_36 {m t : Nat} (h0 : (m + 83 ≤ t ∧ t + 9 ≤ m + 92) ∨ (m + 6316 ≤ t ∧ t + 9 ≤ m + 7594)) : (t + 6) < t + 1 ∨ t + 1 + 2 ≤ (t + 6) := by omega
theorem zx_X16_numberM_37 {m t : Nat} (h0 : (m + 83 ≤ t ∧ t + 9 ≤ m + 92) ∨ (m + 6316 ≤ t ∧ t + 9 ≤ m + 7594)) : (t + 7) < m ∨ m + 1 ≤ (t + 7) := by omega
theorem zx_X16_numberM_38 {G3_0 m t : Nat} (h0 : (m + 83 ≤ t ∧ t + 9 ≤ m + 92) ∨ (m + 6316 ≤ t ∧ t + 9 ≤ m + 7594)) (h1 : G3_0 + 2 ≤ 44) : (t + 7) < m + 596 + 130 * G3_0 ∨ m + 596 + 130 * G3_0 + 130 ≤ (t + 7) := by omega
theorem zx_X16_numberM_39 {G3_0 G3_1 m t : Nat} (h0 : (m + 83 ≤ t ∧ t + 9 ≤ m + 92) ∨ (m + 6316 ≤ t ∧ t + 9 ≤ m + 7594)) (h1 : G3_1 = G3_0 + 1) (h2 : G3_0 + 2 ≤ 44) : (t + 7) < m + 596 + 130 * G3_1 ∨ m + 596 + 130 * G3_1 + 130 ≤ (t + 7) := by omega
theorem zx_X16_numberM_40 {m t : Nat} (h0 : (m + 83 ≤ t ∧ t + 9 ≤ m + 92) ∨ (m + 6316 ≤ t ∧ t + 9 ≤ m + 7594)) : (t + 7) < t ∨ t + 1 ≤ (t + 7) := by omega
theorem zx_X16_numberM_41 {m t : Nat} (h0 : (m + 83 ≤ t ∧ t + 9 ≤ m + 92) ∨ (m + 6316 ≤ t ∧ t + 9 ≤ m + 7594)) : (t + 7) < t + 1 ∨ t + 1 + 2 ≤ (t + 7) := by omega
theorem zx_X16_numberM_42 {m t : Nat} (h0 : (m + 83 ≤ t ∧ t + 9 ≤ m + 92) ∨ (m + 6316 ≤ t ∧ t + 9 ≤ m + 7594)) : (t + 8) < m ∨ m + 1 ≤ (t + 8) := by omega
theorem zx_X16_numberM_43 {G3_0 m t : Nat} (h0 : (m + 83 ≤ t ∧ t + 9 ≤ m + 92) ∨ (m + 6316 ≤ t ∧ t + 9 ≤ m + 7594)) (h1 : G3_0 + 2 ≤ 44) : (t + 8) < m + 596 + 130 * G3_0 ∨ m + 596 + 130 * G3_0 + 130 ≤ (t + 8) := by omega
theorem zx_X16_numberM_44 {G3_0 G3_1 m t : Nat} (h0 : (m + 83 ≤ t ∧ t + 9 ≤ m + 92) ∨ (m + 6316 ≤ t ∧ t + 9 ≤ m + 7594)) (h1 : G3_1 = G3_0 + 1) (h2 : G3_0 + 2 ≤ 44) : (t + 8) < m + 596 + 130 * G3_1 ∨ m + 596 + 130 * G3_1 + 130 ≤ (t + 8) := by omega
theorem zx_X16_numberM_45 {m t : Nat} (h0 : (m + 83 ≤ t ∧ t + 9 ≤ m + 92) ∨ (m + 6316 ≤ t ∧ t + 9 ≤ m + 7594)) : (t + 8) < t ∨ t + 1 ≤ (t + 8) := by omega
theorem zx_X16_numberM_46 {m t : Nat} (h0 : (m + 83 ≤ t ∧ t + 9 ≤ m + 92) ∨ (m + 6316 ≤ t ∧ t + 9 ≤ m + 7594)) : (t + 8) < t + 1 ∨ t + 1 + 2 ≤ (t + 8) := by omega
theorem zx_X16_numberM_47 {m t : Nat} (h0 : (m + 83 ≤ t ∧ t + 9 ≤ m + 92) ∨ (m + 6316 ≤ t ∧ t + 9 ≤ m + 7594)) : m < t ∨ t + 1 ≤ m := by omega
theorem zx_X16_numberM_48 {G3_0 m : Nat} (h0 : G3_0 + 2 ≤ 44) : m < m + 596 + 130 * G3_0 ∨ m + 596 + 130 * G3_0 + 130 ≤ m := by omega
theorem zx_X16_numberM_49 {G3_0 G3_1 m : Nat} (h0 : G3_1 = G3_0 + 1) (h1 : G3_0 + 2 ≤ 44) : m < m + 596 + 130 * G3_1 ∨ m + 596 + 130 * G3_1 + 130 ≤ m := by omega
theorem zx_X16_numberM_50 {m t : Nat} (h0 : (m + 83 ≤ t ∧ t + 9 ≤ m + 92) ∨ (m + 6316 ≤ t ∧ t + 9 ≤ m + 7594)) : m < t + 1 ∨ t + 1 + 2 ≤ m := by omega
theorem zx_X16_numberM_51 {m x : Nat} (h0 : x ≠ m) : x < m ∨ m + 1 ≤ x := by omega
theorem zx_X16_numberM_52 {G3_0 m x : Nat} (h0 : x < m + 596 + 130 * G3_0 ∨ m + 596 + 130 * G3_0 + (5720 - 130 * G3_0) ≤ x) (h1 : G3_0 + 2 ≤ 44) : x < m + 596 + 130 * G3_0 ∨ m + 596 + 130 * G3_0 + 130 ≤ x := by omega
theorem zx_X16_numberM_53 {G3_0 G3_1 m x : Nat} (h0 : x < m + 596 + 130 * G3_0 ∨ m + 596 + 130 * G3_0 + (5720 - 130 * G3_0) ≤ x) (h1 : G3_1 = G3_0 + 1) (h2 : G3_0 + 2 ≤ 44) : x < m + 596 + 130 * G3_1 ∨ m + 596 + 130 * G3_1 + 130 ≤ x := by omega
theorem zx_X16_numberM_54 {m t x : Nat} (h0 : x < t ∨ t + 9 ≤ x) (h1 : (m + 83 ≤ t ∧ t + 9 ≤ m + 92) ∨ (m + 6316 ≤ t ∧ t + 9 ≤ m + 7594)) : x < t ∨ t + 1 ≤ x := by omega
theorem zx_X16_numberM_55 {m t x : Nat} (h0 : x < t ∨ t + 9 ≤ x) (h1 : (m + 83 ≤ t ∧ t + 9 ≤ m + 92) ∨ (m + 6316 ≤ t ∧ t + 9 ≤ m + 7594)) : x < t + 1 ∨ t + 1 + 2 ≤ x := by omega
theorem zx_X16_numberM_56 {m t x : Nat} (h0 : t ≤ x) (h1 : x < t + 9) (h2 : (m + 83 ≤ t ∧ t + 9 ≤ m + 92) ∨ (m + 6316 ≤ t ∧ t + 9 ≤ m + 7594)) : x ≠ m := by omega
set_option maxHeartbeats 8000000 in
set_option maxRecDepth 100000 in
theorem c_X16_numberM {w : zM} {g : Nat → Int32} {r : Nat → Value}  {g3 : Int32} (m : Nat) (t : Nat) (v : Int32) (hm : w m = some (.inl (15, zMo m g r))) (hR_m : zR m w) (hTm_t : zTm w t) (hbt : 0 ≤ g3.toInt ∧ g3.toInt + 2 ≤ 44) (h_v : zr1 v) (hmt : (m + 83 ≤ t ∧ t + 9 ≤ m + 92) ∨ (m + 6316 ≤ t ∧ t + 9 ≤ m + 7594)) (hg3 : g 3 = g3) : zCon 4 zq_X16_number [.ref m, .ref t, .int v] w (fun v9 w9' => zSI w w9' ∧ (∀ x, (x < t ∨ t + 9 ≤ x) ∧ (x < m + 596 + 130 * g3.toNatClampNeg ∨ m + 596 + 130 * g3.toNatClampNeg + (5720 - 130 * g3.toNatClampNeg) ≤ x) → w9' x = w x) ∧ zTi w9' t 1 ∧ v9 = none) := by
  subst hg3
  intro d sz hd
  obtain ⟨d, rfl⟩ : ∃ d9, d = d9 + 1 := ⟨d - 1, by omega⟩
  generalize hPost : (fun (r9' : Option (Option Value)) (w9' : zM) (z9 : Nat) => z9 = sz ∧ ∃ v9, r9' = some v9 ∧ (zSI w w9' ∧ (∀ x, (x < t ∨ t + 9 ≤ x) ∧ (x < m + 596 + 130 * (g 3).toNatClampNeg ∨ m + 596 + 130 * (g 3).toNatClampNeg + (5720 - 130 * (g 3).toNatClampNeg) ≤ x) → w9' x = w x) ∧ zTi w9' t 1 ∧ v9 = none)) = Post
  show zP (d + 1) zq_X16_number 0 [(0, .ref m), (1, .ref t), (2, .int v)] [] w sz 0 0 Post
  have k1 := zrng v
  have k2 := zrng (g 3)
  have hz3 : ((g 3).toNatClampNeg : Int) = (g 3).toInt := znat (by first | omega | decide)
  have hgb3 : (g 3).toNatClampNeg + 2 ≤ 44 := by omega
  obtain ⟨g1, fn1, fd1, fa1, fb1, fc1, fe1, fr1, fu1, hT1, hAn1, hAd1, hAa1, hAb1, hAc1, hAe1, hAr1, hAu1, hKn1, hKd1, hKr1, hKu1⟩ := id hTm_t
  refine zp_seg (pc' := 1) (lv' := [(0, .ref m), (1, .ref t), (2, .int v)]) (st' := [.ref m]) [(0, .aload_n 0)] (by decide +kernel) rfl ?_
  refine zr_get (idx := 90) (k := 3) (v := .int (g 3)) (by decide +kernel) (by decide +kernel) hm rfl ?_
  refine zp_seg (pc' := 6) (lv' := [(3, .int (g 3)), (0, .ref m), (1, .ref t), (2, .int v)]) (st' := [.ref m]) [(4, .istore_n 3), (5, .aload_n 0)] (by decide +kernel) rfl ?_
  refine zr_callV (idx := 140) (j := 274) (by decide +kernel) (by decide +kernel) (show zMe 274 = some zq_X16_newB from rfl) rfl rfl (Nat.le_of_ble_eq_true rfl) rfl rfl hm (Nat.le_of_ble_eq_true rfl) (Nat.le_of_ble_eq_true rfl) (c_X16_newB (w := w) (g3 := (g 3)) m hm hR_m (by first | omega | decide | assumption | exact zr1_1 | exact zr1_0 | fail "num") rfl) (by omega) (fun v6 w6 hp6 => ?_)
  obtain ⟨hsi6, heq6, hp6_0, hp6_1, rfl⟩ := hp6
  have hM6 : w6 m = some (.inl (15, zMo m (zs g 3 (g 3 + 1)) r)) := hp6_0
  show zP _ _ _ _ [.ref (m + 596 + 130 * (g 3).toNatClampNeg)] _ _ _ _ _
  refine zp_seg (pc' := 12) (lv' := [(4, .ref (m + 596 + 130 * (g 3).toNatClampNeg)), (3, .int (g 3)), (0, .ref m), (1, .ref t), (2, .int v)]) (st' := [.ref m]) [(9, .astore 4), (11, .aload_n 0)] (by decide +kernel) rfl ?_
  have k5 := zaddC (g 3) 1 (n := 1) (by decide) (by omega) (by omega)
  have hz6 : ((g 3 + 1).toNatClampNeg : Int) = (g 3 + 1).toInt := znat (by first | omega | decide)
  have hgn3_1 : (g 3 + 1).toNatClampNeg = (g 3).toNatClampNeg + 1 := by omega
  have hb7 := hR_m.si hsi6
  refine zr_callV (idx := 140) (j := 274) (by decide +kernel) (by decide +kernel) (show zMe 274 = some zq_X16_newB from rfl) rfl rfl (Nat.le_of_ble_eq_true rfl) rfl rfl hM6 (Nat.le_of_ble_eq_true rfl) (Nat.le_of_ble_eq_true rfl) (c_X16_newB (w := w6) (g3 := (g 3 + 1)) m hM6 hb7 (by first | omega | decide | assumption | exact zr1_1 | exact zr1_0 | fail "num") rfl) (by omega) (fun v12 w12 hp12 => ?_)
  obtain ⟨hsi12, heq12, hp12_0, hp12_1, rfl⟩ := hp12
  have hM12 : w12 m = some (.inl (15, zMo m (zs g 3 (g 3 + 1 + 1)) r)) := hp12_0
  show zP _ _ _ _ [.ref (m + 596 + 130 * (g 3 + 1).toNatClampNeg)] _ _ _ _ _
  refine zp_seg (pc' := 18) (lv' := [(5, .ref (m + 596 + 130 * (g 3 + 1).toNatClampNeg)), (4, .ref (m + 596 + 130 * (g 3).toNatClampNeg)), (3, .int (g 3)), (0, .ref m), (1, .ref t), (2, .int v)]) (st' := [.ref t]) [(15, .astore 5), (17, .aload_n 1)] (by decide +kernel) rfl ?_
  have hb8 : w12 t = some (.inl (13, zTo t g1)) := ((heq12 t ⟨(zx_X16_numberM_0 hmt), (zx_X16_numberM_2 hmt hgn3_1 hgb3)⟩).trans (heq6 t ⟨(zx_X16_numberM_0 hmt), (zx_X16_numberM_1 hmt hgb3)⟩)).trans hT1
  refine zr_callS (idx := 257) (j := 304) (by decide +kernel) (by decide +kernel) (by decide) (show zMe 304 = some zq_X16_plain from rfl) rfl rfl (Nat.le_of_ble_eq_true rfl) rfl rfl (Nat.le_of_ble_eq_true rfl) (Nat.le_of_ble_eq_true rfl) (c_X16_plain (w := w12) t hb8) (by omega) (fun v18 w18 hp18 => ?_)
  obtain ⟨hsi18, heq18, hp18_0, rfl⟩ := hp18
  have hT18 : w18 t = some (.inl (13, zTo t (zs (zs (zs (zs g1 0 1) 3 1) 4 1) 5 0))) := hp18_0
  show zP _ _ _ _ [] _ _ _ _ _
  refine zp_seg (pc' := 24) (lv' := [(5, .ref (m + 596 + 130 * (g 3 + 1).toNatClampNeg)), (4, .ref (m + 596 + 130 * (g 3).toNatClampNeg)), (3, .int (g 3)), (0, .ref m), (1, .ref t), (2, .int v)]) (st' := [.int v, .ref (m + 596 + 130 * (g 3).toNatClampNeg)]) [(21, .aload 4), (23, .iload_n 2)] (by decide +kernel) rfl ?_
  have hb9 : zB w18 (m + 596 + 130 * (g 3).toNatClampNeg) zbZ := hp6_1.ag (fun x hx1 hx2 => ((heq18 x (zx_X16_numberM_5 hx1 hx2 hmt hgb3)).trans (heq12 x ⟨(zx_X16_numberM_3 hx1 hx2 hgb3), (zx_X16_numberM_4 hx1 hx2 hgn3_1 hgb3)⟩)))
  have ho24_b := zB.o hb9
  obtain ⟨n10, hb11, hb12, hb13, hb14, -⟩ := id hb9
  have kn10 := zrng n10
  refine zr_callV (idx := 158) (j := 245) (by decide +kernel) (by decide +kernel) (show zMe 245 = some zq_X12_number from rfl) rfl rfl (Nat.le_of_ble_eq_true rfl) rfl rfl hb11 (Nat.le_of_ble_eq_true rfl) (Nat.le_of_ble_eq_true rfl) (c_X12_number (w := w18) (m + 596 + 130 * (g 3).toNatClampNeg) v ho24_b (by first | omega | decide | assumption | exact zr1_1 | exact zr1_0 | fail "num")) (by omega) (fun v24 w24 hp24 => ?_)
  obtain ⟨hsi24, heq24, hp24_0, rfl⟩ := hp24
  show zP _ _ _ _ [] _ _ _ _ _
  refine zp_seg (pc' := 30) (lv' := [(5, .ref (m + 596 + 130 * (g 3 + 1).toNatClampNeg)), (4, .ref (m + 596 + 130 * (g 3).toNatClampNeg)), (3, .int (g 3)), (0, .ref m), (1, .ref t), (2, .int v)]) (st' := [.int 1, .ref (m + 596 + 130 * (g 3 + 1).toNatClampNeg)]) [(27, .aload 5), (29, .iconst 1)] (by decide +kernel) rfl ?_
  have hb15 : zB w24 (m + 596 + 130 * (g 3 + 1).toNatClampNeg) zbZ := hp12_1.ag (fun x hx1 hx2 => ((heq24 x (zx_X16_numberM_7 hx1 hx2 hgn3_1 hgb3)).trans (heq18 x (zx_X16_numberM_6 hx1 hx2 hmt hgn3_1 hgb3))))
  have ho30_b := zB.o hb15
  obtain ⟨n16, hb17, hb18, hb19, hb20, -⟩ := id hb15
  have kn16 := zrng n16
  refine zr_callV (idx := 158) (j := 245) (by decide +kernel) (by decide +kernel) (show zMe 245 = some zq_X12_number from rfl) rfl rfl (Nat.le_of_ble_eq_true rfl) rfl rfl hb17 (Nat.le_of_ble_eq_true rfl) (Nat.le_of_ble_eq_true rfl) (c_X12_number (w := w24) (m + 596 + 130 * (g 3 + 1).toNatClampNeg) 1 ho30_b (by first | omega | decide | assumption | exact zr1_1 | exact zr1_0 | fail "num")) (by omega) (fun v30 w30 hp30 => ?_)
  obtain ⟨hsi30, heq30, hp30_0, rfl⟩ := hp30
  show zP _ _ _ _ [] _ _ _ _ _
  refine zp_seg (pc' := 38) (lv' := [(5, .ref (m + 596 + 130 * (g 3 + 1).toNatClampNeg)), (4, .ref (m + 596 + 130 * (g 3).toNatClampNeg)), (3, .int (g 3)), (0, .ref m), (1, .ref t), (2, .int v)]) (st' := [.ref (m + 596 + 130 * (g 3 + 1).toNatClampNeg), .ref (m + 596 + 130 * (g 3).toNatClampNeg), .ref t]) [(33, .aload_n 1), (34, .aload 4), (36, .aload 5)] (by decide +kernel) rfl ?_
  have hb21 : w30 t = some (.inl (13, zTo t (zs (zs (zs (zs g1 0 1) 3 1) 4 1) 5 0))) := ((heq30 t (zx_X16_numberM_2 hmt hgn3_1 hgb3)).trans (heq24 t (zx_X16_numberM_1 hmt hgb3))).trans hT18
  have hb22 : w30 (t + 1) = some (.inr (0, 325, .inl fn1)) := ((heq30 (t + 1) (zx_X16_numberM_10 hmt hgn3_1 hgb3)).trans ((heq24 (t + 1) (zx_X16_numberM_9 hmt hgb3)).trans ((heq18 (t + 1) (zx_X16_numberM_11 hmt)).trans ((heq12 (t + 1) ⟨(zx_X16_numberM_8 hmt), (zx_X16_numberM_10 hmt hgn3_1 hgb3)⟩).trans (heq6 (t + 1) ⟨(zx_X16_numberM_8 hmt), (zx_X16_numberM_9 hmt hgb3)⟩))))).trans hAn1
  have hb23 : w30 (t + 2) = some (.inr (0, 325, .inl fd1)) := ((heq30 (t + 2) (zx_X16_numberM_14 hmt hgn3_1 hgb3)).trans ((heq24 (t + 2) (zx_X16_numberM_13 hmt hgb3)).trans ((heq18 (t + 2) (zx_X16_numberM_15 hmt)).trans ((heq12 (t + 2) ⟨(zx_X16_numberM_12 hmt), (zx_X16_numberM_14 hmt hgn3_1 hgb3)⟩).trans (heq6 (t + 2) ⟨(zx_X16_numberM_12 hmt), (zx_X16_numberM_13 hmt hgb3)⟩))))).trans hAd1
  have hb24 : zB w30 (m + 596 + 130 * (g 3).toNatClampNeg) (zbC (zaC (zf v))) := hp24_0.ag (fun x hx1 hx2 => (heq30 x (zx_X16_numberM_4 hx1 hx2 hgn3_1 hgb3)))
  refine zr_callS (idx := 261) (j := 303) (by decide +kernel) (by decide +kernel) (by decide) (show zMe 303 = some zq_X16_put from rfl) rfl rfl (Nat.le_of_ble_eq_true rfl) rfl rfl (Nat.le_of_ble_eq_true rfl) (Nat.le_of_ble_eq_true rfl) (c_X16_put (w := w30) t (m + 596 + 130 * (g 3).toNatClampNeg) (m + 596 + 130 * (g 3 + 1).toNatClampNeg) hb21 hb22 hb23 hb24 hp30_0 (by first | omega | decide | assumption | exact zr1_1 | exact zr1_0 | fail "num") (by first | omega | decide | assumption | exact zr1_1 | exact zr1_0 | fail "num")) (by omega) (fun v38 w38 hp38 => ?_)
  obtain ⟨Fn_38, Fd_38, hsi38, heq38, hp38_0, hp38_1, r38, rfl, hrb38, hr38⟩ := hp38
  have kr38 := zrng r38
  show zP _ _ _ _ [.int r38] _ _ _ _ _
  refine zp_seg (pc' := 43) (lv' := [(6, .int r38), (5, .ref (m + 596 + 130 * (g 3 + 1).toNatClampNeg)), (4, .ref (m + 596 + 130 * (g 3).toNatClampNeg)), (3, .int (g 3)), (0, .ref m), (1, .ref t), (2, .int v)]) (st' := []) [(41, .istore 6)] (by decide +kernel) rfl ?_
  have hrr9 := hr38.2.1 (hr38.2.2 ⟨⟨zrw_1le _, zdn_1le _⟩, ⟨zrw_1le _, zdn_1le _⟩⟩)
  have hb25 : w38 t = some (.inl (13, zTo t (zs (zs (zs (zs g1 0 1) 3 1) 4 1) 5 0))) := (heq38 t (zx_X16_numberM_16 hmt)).trans hb21
  have hb26 : w38 (t + 3) = some (.inr (0, 13, .inl fa1)) := ((heq38 (t + 3) (zx_X16_numberM_21 hmt)).trans ((heq30 (t + 3) (zx_X16_numberM_19 hmt hgn3_1 hgb3)).trans ((heq24 (t + 3) (zx_X16_numberM_18 hmt hgb3)).trans ((heq18 (t + 3) (zx_X16_numberM_20 hmt)).trans ((heq12 (t + 3) ⟨(zx_X16_numberM_17 hmt), (zx_X16_numberM_19 hmt hgn3_1 hgb3)⟩).trans (heq6 (t + 3) ⟨(zx_X16_numberM_17 hmt), (zx_X16_numberM_18 hmt hgb3)⟩)))))).trans hAa1
  have hb27 : w38 (t + 4) = some (.inr (0, 13, .inl fb1)) := ((heq38 (t + 4) (zx_X16_numberM_26 hmt)).trans ((heq30 (t + 4) (zx_X16_numberM_24 hmt hgn3_1 hgb3)).trans ((heq24 (t + 4) (zx_X16_numberM_23 hmt hgb3)).trans ((heq18 (t + 4) (zx_X16_numberM_25 hmt)).trans ((heq12 (t + 4) ⟨(zx_X16_numberM_22 hmt), (zx_X16_numberM_24 hmt hgn3_1 hgb3)⟩).trans (heq6 (t + 4) ⟨(zx_X16_numberM_22 hmt), (zx_X16_numberM_23 hmt hgb3)⟩)))))).trans hAb1
  have hb28 : w38 (t + 5) = some (.inr (0, 13, .inl fc1)) := ((heq38 (t + 5) (zx_X16_numberM_31 hmt)).trans ((heq30 (t + 5) (zx_X16_numberM_29 hmt hgn3_1 hgb3)).trans ((heq24 (t + 5) (zx_X16_numberM_28 hmt hgb3)).trans ((heq18 (t + 5) (zx_X16_numberM_30 hmt)).trans ((heq12 (t + 5) ⟨(zx_X16_numberM_27 hmt), (zx_X16_numberM_29 hmt hgn3_1 hgb3)⟩).trans (heq6 (t + 5) ⟨(zx_X16_numberM_27 hmt), (zx_X16_numberM_28 hmt hgb3)⟩)))))).trans hAc1
  have hb29 : w38 (t + 6) = some (.inr (0, 13, .inl fe1)) := ((heq38 (t + 6) (zx_X16_numberM_36 hmt)).trans ((heq30 (t + 6) (zx_X16_numberM_34 hmt hgn3_1 hgb3)).trans ((heq24 (t + 6) (zx_X16_numberM_33 hmt hgb3)).trans ((heq18 (t + 6) (zx_X16_numberM_35 hmt)).trans ((heq12 (t + 6) ⟨(zx_X16_numberM_32 hmt), (zx_X16_numberM_34 hmt hgn3_1 hgb3)⟩).trans (heq6 (t + 6) ⟨(zx_X16_numberM_32 hmt), (zx_X16_numberM_33 hmt hgb3)⟩)))))).trans hAe1
  have hb30 : w38 (t + 7) = some (.inr (0, 175, .inl fr1)) := ((heq38 (t + 7) (zx_X16_numberM_41 hmt)).trans ((heq30 (t + 7) (zx_X16_numberM_39 hmt hgn3_1 hgb3)).trans ((heq24 (t + 7) (zx_X16_numberM_38 hmt hgb3)).trans ((heq18 (t + 7) (zx_X16_numberM_40 hmt)).trans ((heq12 (t + 7) ⟨(zx_X16_numberM_37 hmt), (zx_X16_numberM_39 hmt hgn3_1 hgb3)⟩).trans (heq6 (t + 7) ⟨(zx_X16_numberM_37 hmt), (zx_X16_numberM_38 hmt hgb3)⟩)))))).trans hAr1
  have hb31 : w38 (t + 8) = some (.inr (0, 361, .inl fu1)) := ((heq38 (t + 8) (zx_X16_numberM_46 hmt)).trans ((heq30 (t + 8) (zx_X16_numberM_44 hmt hgn3_1 hgb3)).trans ((heq24 (t + 8) (zx_X16_numberM_43 hmt hgb3)).trans ((heq18 (t + 8) (zx_X16_numberM_45 hmt)).trans ((heq12 (t + 8) ⟨(zx_X16_numberM_42 hmt), (zx_X16_numberM_44 hmt hgn3_1 hgb3)⟩).trans (heq6 (t + 8) ⟨(zx_X16_numberM_42 hmt), (zx_X16_numberM_43 hmt hgb3)⟩)))))).trans hAu1
  have hTi9 : zTi w38 (t) 1 := ⟨_, _, _, _, _, _, _, _, _, hb25, hp38_0, hp38_1, hb26, hb27, hb28, hb29, hb30, hb31, ⟨rfl, hrr9.1, hrr9.2.1, ⟨zr1_1, zr1_1⟩, ⟨show 0 ≤ (0 : Int32).toInt by decide, show (0 : Int32).toInt ≤ 13 by decide⟩, fun i hi => absurd hi (Nat.not_lt_zero _), hKr1, hKu1, zKk_12 (Or.inl rfl) (by rw [hrr9.2.2.2, zf_1, zC1_rw]; omega) (fun e => absurd e (by decide)) ⟨show (1 : Int32) ≠ 0 by decide, show (1 : Int32) ≠ 0 by decide⟩⟩⟩
  refine zp_seg (pc' := 45) (lv' := [(6, .int r38), (5, .ref (m + 596 + 130 * (g 3 + 1).toNatClampNeg)), (4, .ref (m + 596 + 130 * (g 3).toNatClampNeg)), (3, .int (g 3)), (0, .ref m), (1, .ref t), (2, .int v)]) (st' := [.int (g 3), .ref m]) [(43, .aload_n 0), (44, .iload_n 3)] (by decide +kernel) rfl ?_
  have hb32 : w38 m = some (.inl (15, zMo m (zs g 3 (g 3 + 1 + 1)) r)) := ((heq38 m (zx_X16_numberM_50 hmt)).trans ((heq30 m (zx_X16_numberM_49 hgn3_1 hgb3)).trans ((heq24 m (zx_X16_numberM_48 hgb3)).trans (heq18 m (zx_X16_numberM_47 hmt))))).trans hM12
  refine zr_put2 (idx := 90) (k := 3) (fs2 := zMo m g r) (by decide +kernel) (by decide +kernel) hb32 (Nat.le_of_ble_eq_true rfl) rfl rfl rfl ?_
  show zP (d + 1) zq_X16_number 48 [(6, .int r38), (5, .ref (m + 596 + 130 * (g 3 + 1).toNatClampNeg)), (4, .ref (m + 596 + 130 * (g 3).toNatClampNeg)), (3, .int (g 3)), (0, .ref m), (1, .ref t), (2, .int v)] [] (zup w38 m (.inl (15, zMo m g r))) sz 0 0 Post
  obtain ⟨w45, ew45⟩ : ∃ wz9, wz9 = zup w38 m (.inl (15, zMo m g r)) := ⟨_, rfl⟩
  have hsi45 : zSI w38 w45 := by rw [ew45]; exact zSI.setG hb32 _ _
  have heq45 : ∀ x, x ≠ m → w45 x = w38 x := fun x hx => by rw [ew45]; exact zup_n hx
  have hc45 : w45 m = some (.inl (15, zMo m g r)) := by rw [ew45]; exact zup_s
  rw [← ew45]
  clear ew45
  have hmend : w45 m = w m := by rw [hc45, hm]
  have hoffend : ∀ x, (x < t ∨ t + 9 ≤ x) ∧ (x < m + 596 + 130 * (g 3).toNatClampNeg ∨ m + 596 + 130 * (g 3).toNatClampNeg + (5720 - 130 * (g 3).toNatClampNeg) ≤ x) → w45 x = w x := fun x hx => by
      by_cases ex : x = m
      · rw [ex]; exact hmend
      · exact ((heq45 x ex).trans ((heq38 x (zx_X16_numberM_55 hx.1 hmt)).trans ((heq30 x (zx_X16_numberM_53 hx.2 hgn3_1 hgb3)).trans ((heq24 x (zx_X16_numberM_52 hx.2 hgb3)).trans ((heq18 x (zx_X16_numberM_54 hx.1 hmt)).trans ((heq12 x ⟨(zx_X16_numberM_51 ex), (zx_X16_numberM_53 hx.2 hgn3_1 hgb3)⟩).trans (heq6 x ⟨(zx_X16_numberM_51 ex), (zx_X16_numberM_52 hx.2 hgb3)⟩)))))))
  have hb33 : zTi w45 t 1 := hTi9.ag (fun x hx1 hx2 => (heq45 x (zx_X16_numberM_56 hx1 hx2 hmt)))
  refine zr_retV (by decide +kernel) rfl ?_
  rw [← hPost]; exact ⟨rfl, _, rfl, ((((((hsi6.tr hsi12).tr hsi18).tr hsi24).tr hsi30).tr hsi38).tr hsi45), hoffend, hb33, rfl⟩

theorem zx_X16_numberZM_0 {m t : Nat} (h0 : (m + 83 ≤ t ∧ t + 9 ≤ m + 92) ∨ (m + 6316 ≤ t ∧ t + 9 ≤ m + 7594)) : t < m ∨ m + 1 ≤ t := by omega
theorem zx_X16_numberZM_1 {G3_0 m t : Nat} (h0 : (m + 83 ≤ t ∧ t + 9 ≤ m + 92) ∨ (m + 6316 ≤ t ∧ t + 9 ≤ m + 7594)) (h1 : G3_0 + 2 ≤ 44) : t < m + 596 + 130 * G3_0 ∨ m + 596 + 130 * G3_0 + 130 ≤ t := by omega
theorem zx_X16_numberZM_2 {G3_0 G3_1 m t : Nat} (h0 : (m + 83 ≤ t ∧ t + 9 ≤ m + 92) ∨ (m + 6316 ≤ t ∧ t + 9 ≤ m + 7594)) (h1 : G3_1 = G3_0 + 1) (h2 : G3_0 + 2 ≤ 44) : t < m + 596 + 130 * G3_1 ∨ m + 596 + 130 * G3_1 + 130 ≤ t := by omega
theorem zx_X16_numberZM_3 {G3_0 m x : Nat} (h0 : m + 596 + 130 * G3_0 ≤ x) (h1 : x < m + 596 + 130 * G3_0 + 130) (h2 : G3_0 + 2 ≤ 44) : x < m ∨ m + 1 ≤ x := by omega
theorem zx_X16_numberZM_4 {G3_0 G3_1 m x : Nat} (h0 : m + 596 + 130 * G3_0 ≤ x) (h1 : x < m + 596 + 130 * G3_0 + 130) (h2 : G3_1 = G3_0 + 1) (h3 : G3_0 + 2 ≤ 44) : x < m + 596 + 130 * G3_1 ∨ m + 596 + 130 * G3_1 + 130 ≤ x := by omega
theorem zx_X16_numberZM_5 {G3_0 m t x : Nat} (h0 : m + 596 + 130 * G3_0 ≤ x) (h1 : x < m + 596 + 130 * G3_0 + 130) (h2 : (m + 83 ≤ t ∧ t + 9 ≤ m + 92) ∨ (m + 6316 ≤ t ∧ t + 9 ≤ m + 7594)) (h3 : G3_0 + 2 ≤ 44) : x < t ∨ t + 1 ≤ x := by omega
theorem zx_X16_numberZM_6 {G3_0 G3_1 m t x : Nat} (h0 : m + 596 + 130 * G3_1 ≤ x) (h1 : x < m + 596 + 130 * G3_1 + 130) (h2 : (m + 83 ≤ t ∧ t + 9 ≤ m + 92) ∨ (m + 6316 ≤ t ∧ t + 9 ≤ m + 7594)) (h3 : G3_1 = G3_0 + 1) (h4 : G3_0 + 2 ≤ 44) : x < t ∨ t + 1 ≤ x := by omega
theorem zx_X16_numberZM_7 {G3_0 G3_1 m x : Nat} (h0 : m + 596 + 130 * G3_1 ≤ x) (h1 : x < m + 596 + 130 * G3_1 + 130) (h2 : G3_1 = G3_0 + 1) (h3 : G3_0 + 2 ≤ 44) : x < m + 596 + 130 * G3_0 ∨ m + 596 + 130 * G3_0 + 130 ≤ x := by omega
theorem zx_X16_numberZM_8 {m t : Nat} (h0 : (m + 83 ≤ t ∧ t + 9 ≤ m + 92) ∨ (m + 6316 ≤ t ∧ t + 9 ≤ m + 7594)) : (t + 1) < m ∨ m + 1 ≤ (t + 1) := by omega
theorem zx_X16_numberZM_9 {G3_0 m t : Nat} (h0 : (m + 83 ≤ t ∧ t + 9 ≤ m + 92) ∨ (m + 6316 ≤ t ∧ t + 9 ≤ m + 7594)) (h1 : G3_0 + 2 ≤ 44) : (t + 1) < m + 596 + 130 * G3_0 ∨ m + 596 + 130 * G3_0 + 130 ≤ (t + 1) := by omega
theorem zx_X16_numberZM_10 {G3_0 G3_1 m t : Nat} (h0 : (m + 83 ≤ t ∧ t + 9 ≤ m + 92) ∨ (m + 6316 ≤ t ∧ t + 9 ≤ m + 7594)) (h1 : G3_1 = G3_0 + 1) (h2 : G3_0 + 2 ≤ 44) : (t + 1) < m + 596 + 130 * G3_1 ∨ m + 596 + 130 * G3_1 + 130 ≤ (t + 1) := by omega
theorem zx_X16_numberZM_11 {m t : Nat} (h0 : (m + 83 ≤ t ∧ t + 9 ≤ m + 92) ∨ (m + 6316 ≤ t ∧ t + 9 ≤ m + 7594)) : (t + 1) < t ∨ t + 1 ≤ (t + 1) := by omega
theorem zx_X16_numberZM_12 {m t : Nat} (h0 : (m + 83 ≤ t ∧ t + 9 ≤ m + 92) ∨ (m + 6316 ≤ t ∧ t + 9 ≤ m + 7594)) : (t + 2) < m ∨ m + 1 ≤ (t + 2) := by omega
theorem zx_X16_numberZM_13 {G3_0 m t : Nat} (h0 : (m + 83 ≤ t ∧ t + 9 ≤ m + 92) ∨ (m + 6316 ≤ t ∧ t + 9 ≤ m + 7594)) (h1 : G3_0 + 2 ≤ 44) : (t + 2) < m + 596 + 130 * G3_0 ∨ m + 596 + 130 * G3_0 + 130 ≤ (t + 2) := by omega
theorem zx_X16_numberZM_14 {G3_0 G3_1 m t : Nat} (h0 : (m + 83 ≤ t ∧ t + 9 ≤ m + 92) ∨ (m + 6316 ≤ t ∧ t + 9 ≤ m + 7594)) (h1 : G3_1 = G3_0 + 1) (h2 : G3_0 + 2 ≤ 44) : (t + 2) < m + 596 + 130 * G3_1 ∨ m + 596 + 130 * G3_1 + 130 ≤ (t + 2) := by omega
theorem zx_X16_numberZM_15 {m t : Nat} (h0 : (m + 83 ≤ t ∧ t + 9 ≤ m + 92) ∨ (m + 6316 ≤ t ∧ t + 9 ≤ m + 7594)) : (t + 2) < t ∨ t + 1 ≤ (t + 2) := by omega
theorem zx_X16_numberZM_16 {m t : Nat} (h0 : (m + 83 ≤ t ∧ t + 9 ≤ m + 92) ∨ (m + 6316 ≤ t ∧ t + 9 ≤ m + 7594)) : t < t + 1 ∨ t + 1 + 2 ≤ t := by omega
theorem zx_X16_numberZM_17 {m t : Nat} (h0 : (m + 83 ≤ t ∧ t + 9 ≤ m + 92) ∨ (m + 6316 ≤ t ∧ t + 9 ≤ m + 7594)) : (t + 3) < m ∨ m + 1 ≤ (t + 3) := by omega
theorem zx_X16_numberZM_18 {G3_0 m t : Nat} (h0 : (m + 83 ≤ t ∧ t + 9 ≤ m + 92) ∨ (m + 6316 ≤ t ∧ t + 9 ≤ m + 7594)) (h1 : G3_0 + 2 ≤ 44) : (t + 3) < m + 596 + 130 * G3_0 ∨ m + 596 + 130 * G3_0 + 130 ≤ (t + 3) := by omega
theorem zx_X16_numberZM_19 {G3_0 G3_1 m t : Nat} (h0 : (m + 83 ≤ t ∧ t + 9 ≤ m + 92) ∨ (m + 6316 ≤ t ∧ t + 9 ≤ m + 7594)) (h1 : G3_1 = G3_0 + 1) (h2 : G3_0 + 2 ≤ 44) : (t + 3) < m + 596 + 130 * G3_1 ∨ m + 596 + 130 * G3_1 + 130 ≤ (t + 3) := by omega
theorem zx_X16_numberZM_20 {m t : Nat} (h0 : (m + 83 ≤ t ∧ t + 9 ≤ m + 92) ∨ (m + 6316 ≤ t ∧ t + 9 ≤ m + 7594)) : (t + 3) < t ∨ t + 1 ≤ (t + 3) := by omega
theorem zx_X16_numberZM_21 {m t : Nat} (h0 : (m + 83 ≤ t ∧ t + 9 ≤ m + 92) ∨ (m + 6316 ≤ t ∧ t + 9 ≤ m + 7594)) : (t + 3) < t + 1 ∨ t + 1 + 2 ≤ (t + 3) := by omega
theorem zx_X16_numberZM_22 {m t : Nat} (h0 : (m + 83 ≤ t ∧ t + 9 ≤ m + 92) ∨ (m + 6316 ≤ t ∧ t + 9 ≤ m + 7594)) : (t + 4) < m ∨ m + 1 ≤ (t + 4) := by omega
theorem zx_X16_numberZM_23 {G3_0 m t : Nat} (h0 : (m + 83 ≤ t ∧ t + 9 ≤ m + 92) ∨ (m + 6316 ≤ t ∧ t + 9 ≤ m + 7594)) (h1 : G3_0 + 2 ≤ 44) : (t + 4) < m + 596 + 130 * G3_0 ∨ m + 596 + 130 * G3_0 + 130 ≤ (t + 4) := by omega
theorem zx_X16_numberZM_24 {G3_0 G3_1 m t : Nat} (h0 : (m + 83 ≤ t ∧ t + 9 ≤ m + 92) ∨ (m + 6316 ≤ t ∧ t + 9 ≤ m + 7594)) (h1 : G3_1 = G3_0 + 1) (h2 : G3_0 + 2 ≤ 44) : (t + 4) < m + 596 + 130 * G3_1 ∨ m + 596 + 130 * G3_1 + 130 ≤ (t + 4) := by omega
theorem zx_X16_numberZM_25 {m t : Nat} (h0 : (m + 83 ≤ t ∧ t + 9 ≤ m + 92) ∨ (m + 6316 ≤ t ∧ t + 9 ≤ m + 7594)) : (t + 4) < t ∨ t + 1 ≤ (t + 4) := by omega
theorem zx_X16_numberZM_26 {m t : Nat} (h0 : (m + 83 ≤ t ∧ t + 9 ≤ m + 92) ∨ (m + 6316 ≤ t ∧ t + 9 ≤ m + 7594)) : (t + 4) < t + 1 ∨ t + 1 + 2 ≤ (t + 4) := by omega
theorem zx_X16_numberZM_27 {m t : Nat} (h0 : (m + 83 ≤ t ∧ t + 9 ≤ m + 92) ∨ (m + 6316 ≤ t ∧ t + 9 ≤ m + 7594)) : (t + 5) < m ∨ m + 1 ≤ (t + 5) := by omega
theorem zx_X16_numberZM_28 {G3_0 m t : Nat} (h0 : (m + 83 ≤ t ∧ t + 9 ≤ m + 92) ∨ (m + 6316 ≤ t ∧ t + 9 ≤ m + 7594)) (h1 : G3_0 + 2 ≤ 44) : (t + 5) < m + 596 + 130 * G3_0 ∨ m + 596 + 130 * G3_0 + 130 ≤ (t + 5) := by omega
theorem zx_X16_numberZM_29 {G3_0 G3_1 m t : Nat} (h0 : (m + 83 ≤ t ∧ t + 9 ≤ m + 92) ∨ (m + 6316 ≤ t ∧ t + 9 ≤ m + 7594)) (h1 : G3_1 = G3_0 + 1) (h2 : G3_0 + 2 ≤ 44) : (t + 5) < m + 596 + 130 * G3_1 ∨ m + 596 + 130 * G3_1 + 130 ≤ (t + 5) := by omega
theorem zx_X16_numberZM_30 {m t : Nat} (h0 : (m + 83 ≤ t ∧ t + 9 ≤ m + 92) ∨ (m + 6316 ≤ t ∧ t + 9 ≤ m + 7594)) : (t + 5) < t ∨ t + 1 ≤ (t + 5) := by omega
theorem zx_X16_numberZM_31 {m t : Nat} (h0 : (m + 83 ≤ t ∧ t + 9 ≤ m + 92) ∨ (m + 6316 ≤ t ∧ t + 9 ≤ m + 7594)) : (t + 5) < t + 1 ∨ t + 1 + 2 ≤ (t + 5) := by omega
theorem zx_X16_numberZM_32 {m t : Nat} (h0 : (m + 83 ≤ t ∧ t + 9 ≤ m + 92) ∨ (m + 6316 ≤ t ∧ t + 9 ≤ m + 7594)) : (t + 6) < m ∨ m + 1 ≤ (t + 6) := by omega
theorem zx_X16_numberZM_33 {G3_0 m t : Nat} (h0 : (m + 83 ≤ t ∧ t + 9 ≤ m + 92) ∨ (m + 6316 ≤ t ∧ t + 9 ≤ m + 7594)) (h1 : G3_0 + 2 ≤ 44) : (t + 6) < m + 596 + 130 * G3_0 ∨ m + 596 + 130 * G3_0 + 130 ≤ (t + 6) := by omega
theorem zx_X16_numberZM_34 {G3_0 G3_1 m t : Nat} (h0 : (m + 83 ≤ t ∧ t + 9 ≤ m + 92) ∨ (m + 6316 ≤ t ∧ t + 9 ≤ m + 7594)) (h1 : G3_1 = G3_0 + 1) (h2 : G3_0 + 2 ≤ 44) : (t + 6) < m + 596 + 130 * G3_1 ∨ m + 596 + 130 * G3_1 + 130 ≤ (t + 6) := by omega
theorem zx_X16_numberZM_35 {m t : Nat} (h0 : (m + 83 ≤ t ∧ t + 9 ≤ m + 92) ∨ (m + 6316 ≤ t ∧ t + 9 ≤ m + 7594)) : (t + 6) < t ∨ t + 1 ≤ (t + 6) := by omega
theorem zx_X16_numberZM_36 {m t : Nat} (h0 : (m + 83 ≤ t ∧ t + 9 ≤ m + 92) ∨ (m + 6316 ≤ t ∧ t + 9 ≤ m + 7594)) : (t + 6) < t + 1 ∨ t + 1 + 2 ≤ (t + 6) := by omega
theorem zx_X16_numberZM_37 {m t : Nat} (h0 : (m + 83 ≤ t ∧ t + 9 ≤ m + 92) ∨ (m + 6316 ≤ t ∧ t + 9 ≤ m + 7594)) : (t + 7) < m ∨ m + 1 ≤ (t + 7) := by omega
theorem zx_X16_numberZM_38 {G3_0 m t : Nat} (h0 : (m + 83 ≤ t ∧ t + 9 ≤ m + 92) ∨ (m + 6316 ≤ t ∧ t + 9 ≤ m + 7594)) (h1 : G3_0 + 2 ≤ 44) : (t + 7) < m + 596 + 130 * G3_0 ∨ m + 596 + 130 * G3_0 + 130 ≤ (t + 7) := by omega
theorem zx_X16_numberZM_39 {G3_0 G3_1 m t : Nat} (h0 : (m + 83 ≤ t ∧ t + 9 ≤ m + 92) ∨ (m + 6316 ≤ t ∧ t + 9 ≤ m + 7594)) (h1 : G3_1 = G3_0 + 1) (h2 : G3_0 + 2 ≤ 44) : (t + 7) < m + 596 + 130 * G3_1 ∨ m + 596 + 130 * G3_1 + 130 ≤ (t + 7) := by omega
theorem zx_X16_numberZM_40 {m t : Nat} (h0 : (m + 83 ≤ t ∧ t + 9 ≤ m + 92) ∨ (m + 6316 ≤ t ∧ t + 9 ≤ m + 7594)) : (t + 7) < t ∨ t + 1 ≤ (t + 7) := by omega
theorem zx_X16_numberZM_41 {m t : Nat} (h0 : (m + 83 ≤ t ∧ t + 9 ≤ m + 92) ∨ (m + 6316 ≤ t ∧ t + 9 ≤ m + 7594)) : (t + 7) < t + 1 ∨ t + 1 + 2 ≤ (t + 7) := by omega
theorem zx_X16_numberZM_42 {m t : Nat} (h0 : (m + 83 ≤ t ∧ t + 9 ≤ m + 92) ∨ (m + 6316 ≤ t ∧ t + 9 ≤ m + 7594)) : (t + 8) < m ∨ m + 1 ≤ (t + 8) := by omega
theorem zx_X16_numberZM_43 {G3_0 m t : Nat} (h0 : (m + 83 ≤ t ∧ t + 9 ≤ m + 92) ∨ (m + 6316 ≤ t ∧ t + 9 ≤ m + 7594)) (h1 : G3_0 + 2 ≤ 44) : (t + 8) < m + 596 + 130 * G3_0 ∨ m + 596 + 130 * G3_0 + 130 ≤ (t + 8) := by omega
theorem zx_X16_numberZM_44 {G3_0 G3_1 m t : Nat} (h0 : (m + 83 ≤ t ∧ t + 9 ≤ m + 92) ∨ (m + 6316 ≤ t ∧ t + 9 ≤ m + 7594)) (h1 : G3_1 = G3_0 + 1) (h2 : G3_0 + 2 ≤ 44) : (t + 8) < m + 596 + 130 * G3_1 ∨ m + 596 + 130 * G3_1 + 130 ≤ (t + 8) := by omega
theorem zx_X16_numberZM_45 {m t : Nat} (h0 : (m + 83 ≤ t ∧ t + 9 ≤ m + 92) ∨ (m + 6316 ≤ t ∧ t + 9 ≤ m + 7594)) : (t + 8) < t ∨ t + 1 ≤ (t + 8) := by omega
theorem zx_X16_numberZM_46 {m t : Nat} (h0 : (m + 83 ≤ t ∧ t + 9 ≤ m + 92) ∨ (m + 6316 ≤ t ∧ t + 9 ≤ m + 7594)) : (t + 8) < t + 1 ∨ t + 1 + 2 ≤ (t + 8) := by omega
theorem zx_X16_numberZM_47 {m t : Nat} (h0 : (m + 83 ≤ t ∧ t + 9 ≤ m + 92) ∨ (m + 6316 ≤ t ∧ t + 9 ≤ m + 7594)) : m < t ∨ t + 1 ≤ m := by omega
theorem zx_X16_numberZM_48 {G3_0 m : Nat} (h0 : G3_0 + 2 ≤ 44) : m < m + 596 + 130 * G3_0 ∨ m + 596 + 130 * G3_0 + 130 ≤ m := by omega
theorem zx_X16_numberZM_49 {G3_0 G3_1 m : Nat} (h0 : G3_1 = G3_0 + 1) (h1 : G3_0 + 2 ≤ 44) : m < m + 596 + 130 * G3_1 ∨ m + 596 + 130 * G3_1 + 130 ≤ m := by omega
theorem zx_X16_numberZM_50 {m t : Nat} (h0 : (m + 83 ≤ t ∧ t + 9 ≤ m + 92) ∨ (m + 6316 ≤ t ∧ t + 9 ≤ m + 7594)) : m < t + 1 ∨ t + 1 + 2 ≤ m := by omega
theorem zx_X16_numberZM_51 {m x : Nat} (h0 : x ≠ m) : x < m ∨ m + 1 ≤ x := by omega
theorem zx_X16_numberZM_52 {G3_0 m x : Nat} (h0 : x < m + 596 + 130 * G3_0 ∨ m + 596 + 130 * G3_0 + (5720 - 130 * G3_0) ≤ x) (h1 : G3_0 + 2 ≤ 44) : x < m + 596 + 130 * G3_0 ∨ m + 596 + 130 * G3_0 + 130 ≤ x := by omega
theorem zx_X16_numberZM_53 {G3_0 G3_1 m x : Nat} (h0 : x < m + 596 + 130 * G3_0 ∨ m + 596 + 130 * G3_0 + (5720 - 130 * G3_0) ≤ x) (h1 : G3_1 = G3_0 + 1) (h2 : G3_0 + 2 ≤ 44) : x < m + 596 + 130 * G3_1 ∨ m + 596 + 130 * G3_1 + 130 ≤ x := by omega
theorem zx_X16_numberZM_54 {m t x : Nat} (h0 : x < t ∨ t + 9 ≤ x) (h1 : (m + 83 ≤ t ∧ t + 9 ≤ m + 92) ∨ (m + 6316 ≤ t ∧ t + 9 ≤ m + 7594)) : x < t ∨ t + 1 ≤ x := by omega
theorem zx_X16_numberZM_55 {m t x : Nat} (h0 : x < t ∨ t + 9 ≤ x) (h1 : (m + 83 ≤ t ∧ t + 9 ≤ m + 92) ∨ (m + 6316 ≤ t ∧ t + 9 ≤ m + 7594)) : x < t + 1 ∨ t + 1 + 2 ≤ x := by omega
theorem zx_X16_numberZM_56 {m t x : Nat} (h0 : t ≤ x) (h1 : x < t + 9) (h2 : (m + 83 ≤ t ∧ t + 9 ≤ m + 92) ∨ (m + 6316 ≤ t ∧ t + 9 ≤ m + 7594)) : x ≠ m := by omega
theorem zx_X16_numberZM_57 {m t : Nat} (h0 : (m + 83 ≤ t ∧ t + 9 ≤ m + 92) ∨ (m + 6316 ≤ t ∧ t + 9 ≤ m + 7594)) : (t + 1) ≠ m := by omega
set_option maxHeartbeats 8000000 in
set_option maxRecDepth 100000 in
theorem c_X16_numberZM {w : zM} {g : Nat → Int32} {r : Nat → Value}  {g3 : Int32} (m : Nat) (t : Nat) (v : Int32) (hm : w m = some (.inl (15, zMo m g r))) (hR_m : zR m w) (hTm_t : zTm w t) (hbt : 0 ≤ g3.toInt ∧ g3.toInt + 2 ≤ 44) (h_v : zr1 v) (hmt : (m + 83 ≤ t ∧ t + 9 ≤ m + 92) ∨ (m + 6316 ≤ t ∧ t + 9 ≤ m + 7594)) (hg3 : g 3 = g3) : zCon 4 zq_X16_number [.ref m, .ref t, .int v] w (fun v9 w9' => zSI w w9' ∧ (∀ x, (x < t ∨ t + 9 ≤ x) ∧ (x < m + 596 + 130 * g3.toNatClampNeg ∨ m + 596 + 130 * g3.toNatClampNeg + (5720 - 130 * g3.toNatClampNeg) ≤ x) → w9' x = w x) ∧ zTi w9' t 1 ∧ (v ≠ 0 → zNz w9' t) ∧ v9 = none) := by
  subst hg3
  intro d sz hd
  obtain ⟨d, rfl⟩ : ∃ d9, d = d9 + 1 := ⟨d - 1, by omega⟩
  generalize hPost : (fun (r9' : Option (Option Value)) (w9' : zM) (z9 : Nat) => z9 = sz ∧ ∃ v9, r9' = some v9 ∧ (zSI w w9' ∧ (∀ x, (x < t ∨ t + 9 ≤ x) ∧ (x < m + 596 + 130 * (g 3).toNatClampNeg ∨ m + 596 + 130 * (g 3).toNatClampNeg + (5720 - 130 * (g 3).toNatClampNeg) ≤ x) → w9' x = w x) ∧ zTi w9' t 1 ∧ (v ≠ 0 → zNz w9' t) ∧ v9 = none)) = Post
  show zP (d + 1) zq_X16_number 0 [(0, .ref m), (1, .ref t), (2, .int v)] [] w sz 0 0 Post
  have k1 := zrng v
  have k2 := zrng (g 3)
  have hz3 : ((g 3).toNatClampNeg : Int) = (g 3).toInt := znat (by first | omega | decide)
  have hgb3 : (g 3).toNatClampNeg + 2 ≤ 44 := by omega
  obtain ⟨g1, fn1, fd1, fa1, fb1, fc1, fe1, fr1, fu1, hT1, hAn1, hAd1, hAa1, hAb1, hAc1, hAe1, hAr1, hAu1, hKn1, hKd1, hKr1, hKu1⟩ := id hTm_t
  refine zp_seg (pc' := 1) (lv' := [(0, .ref m), (1, .ref t), (2, .int v)]) (st' := [.ref m]) [(0, .aload_n 0)] (by decide +kernel) rfl ?_
  refine zr_get (idx := 90) (k := 3) (v := .int (g 3)) (by decide +kernel) (by decide +kernel) hm rfl ?_
  refine zp_seg (pc' := 6) (lv' := [(3, .int (g 3)), (0, .ref m), (1, .ref t), (2, .int v)]) (st' := [.ref m]) [(4, .istore_n 3), (5, .aload_n 0)] (by decide +kernel) rfl ?_
  refine zr_callV (idx := 140) (j := 274) (by decide +kernel) (by decide +kernel) (show zMe 274 = some zq_X16_newB from rfl) rfl rfl (Nat.le_of_ble_eq_true rfl) rfl rfl hm (Nat.le_of_ble_eq_true rfl) (Nat.le_of_ble_eq_true rfl) (c_X16_newB (w := w) (g3 := (g 3)) m hm hR_m (by first | omega | decide | assumption | exact zr1_1 | exact zr1_0 | fail "num") rfl) (by omega) (fun v6 w6 hp6 => ?_)
  obtain ⟨hsi6, heq6, hp6_0, hp6_1, rfl⟩ := hp6
  have hM6 : w6 m = some (.inl (15, zMo m (zs g 3 (g 3 + 1)) r)) := hp6_0
  show zP _ _ _ _ [.ref (m + 596 + 130 * (g 3).toNatClampNeg)] _ _ _ _ _
  refine zp_seg (pc' := 12) (lv' := [(4, .ref (m + 596 + 130 * (g 3).toNatClampNeg)), (3, .int (g 3)), (0, .ref m), (1, .ref t), (2, .int v)]) (st' := [.ref m]) [(9, .astore 4), (11, .aload_n 0)] (by decide +kernel) rfl ?_
  have k5 := zaddC (g 3) 1 (n := 1) (by decide) (by omega) (by omega)
  have hz6 : ((g 3 + 1).toNatClampNeg : Int) = (g 3 + 1).toInt := znat (by first | omega | decide)
  have hgn3_1 : (g 3 + 1).toNatClampNeg = (g 3).toNatClampNeg + 1 := by omega
  have hb7 := hR_m.si hsi6
  refine zr_callV (idx := 140) (j := 274) (by decide +kernel) (by decide +kernel) (show zMe 274 = some zq_X16_newB from rfl) rfl rfl (Nat.le_of_ble_eq_true rfl) rfl rfl hM6 (Nat.le_of_ble_eq_true rfl) (Nat.le_of_ble_eq_true rfl) (c_X16_newB (w := w6) (g3 := (g 3 + 1)) m hM6 hb7 (by first | omega | decide | assumption | exact zr1_1 | exact zr1_0 | fail "num") rfl) (by omega) (fun v12 w12 hp12 => ?_)
  obtain ⟨hsi12, heq12, hp12_0, hp12_1, rfl⟩ := hp12
  have hM12 : w12 m = some (.inl (15, zMo m (zs g 3 (g 3 + 1 + 1)) r)) := hp12_0
  show zP _ _ _ _ [.ref (m + 596 + 130 * (g 3 + 1).toNatClampNeg)] _ _ _ _ _
  refine zp_seg (pc' := 18) (lv' := [(5, .ref (m + 596 + 130 * (g 3 + 1).toNatClampNeg)), (4, .ref (m + 596 + 130 * (g 3).toNatClampNeg)), (3, .int (g 3)), (0, .ref m), (1, .ref t), (2, .int v)]) (st' := [.ref t]) [(15, .astore 5), (17, .aload_n 1)] (by decide +kernel) rfl ?_
  have hb8 : w12 t = some (.inl (13, zTo t g1)) := ((heq12 t ⟨(zx_X16_numberZM_0 hmt), (zx_X16_numberZM_2 hmt hgn3_1 hgb3)⟩).trans (heq6 t ⟨(zx_X16_numberZM_0 hmt), (zx_X16_numberZM_1 hmt hgb3)⟩)).trans hT1
  refine zr_callS (idx := 257) (j := 304) (by decide +kernel) (by decide +kernel) (by decide) (show zMe 304 = some zq_X16_plain from rfl) rfl rfl (Nat.le_of_ble_eq_true rfl) rfl rfl (Nat.le_of_ble_eq_true rfl) (Nat.le_of_ble_eq_true rfl) (c_X16_plain (w := w12) t hb8) (by omega) (fun v18 w18 hp18 => ?_)
  obtain ⟨hsi18, heq18, hp18_0, rfl⟩ := hp18
  have hT18 : w18 t = some (.inl (13, zTo t (zs (zs (zs (zs g1 0 1) 3 1) 4 1) 5 0))) := hp18_0
  show zP _ _ _ _ [] _ _ _ _ _
  refine zp_seg (pc' := 24) (lv' := [(5, .ref (m + 596 + 130 * (g 3 + 1).toNatClampNeg)), (4, .ref (m + 596 + 130 * (g 3).toNatClampNeg)), (3, .int (g 3)), (0, .ref m), (1, .ref t), (2, .int v)]) (st' := [.int v, .ref (m + 596 + 130 * (g 3).toNatClampNeg)]) [(21, .aload 4), (23, .iload_n 2)] (by decide +kernel) rfl ?_
  have hb9 : zB w18 (m + 596 + 130 * (g 3).toNatClampNeg) zbZ := hp6_1.ag (fun x hx1 hx2 => ((heq18 x (zx_X16_numberZM_5 hx1 hx2 hmt hgb3)).trans (heq12 x ⟨(zx_X16_numberZM_3 hx1 hx2 hgb3), (zx_X16_numberZM_4 hx1 hx2 hgn3_1 hgb3)⟩)))
  have ho24_b := zB.o hb9
  obtain ⟨n10, hb11, hb12, hb13, hb14, -⟩ := id hb9
  have kn10 := zrng n10
  refine zr_callV (idx := 158) (j := 245) (by decide +kernel) (by decide +kernel) (show zMe 245 = some zq_X12_number from rfl) rfl rfl (Nat.le_of_ble_eq_true rfl) rfl rfl hb11 (Nat.le_of_ble_eq_true rfl) (Nat.le_of_ble_eq_true rfl) (c_X12_number (w := w18) (m + 596 + 130 * (g 3).toNatClampNeg) v ho24_b (by first | omega | decide | assumption | exact zr1_1 | exact zr1_0 | fail "num")) (by omega) (fun v24 w24 hp24 => ?_)
  obtain ⟨hsi24, heq24, hp24_0, rfl⟩ := hp24
  show zP _ _ _ _ [] _ _ _ _ _
  refine zp_seg (pc' := 30) (lv' := [(5, .ref (m + 596 + 130 * (g 3 + 1).toNatClampNeg)), (4, .ref (m + 596 + 130 * (g 3).toNatClampNeg)), (3, .int (g 3)), (0, .ref m), (1, .ref t), (2, .int v)]) (st' := [.int 1, .ref (m + 596 + 130 * (g 3 + 1).toNatClampNeg)]) [(27, .aload 5), (29, .iconst 1)] (by decide +kernel) rfl ?_
  have hb15 : zB w24 (m + 596 + 130 * (g 3 + 1).toNatClampNeg) zbZ := hp12_1.ag (fun x hx1 hx2 => ((heq24 x (zx_X16_numberZM_7 hx1 hx2 hgn3_1 hgb3)).trans (heq18 x (zx_X16_numberZM_6 hx1 hx2 hmt hgn3_1 hgb3))))
  have ho30_b := zB.o hb15
  obtain ⟨n16, hb17, hb18, hb19, hb20, -⟩ := id hb15
  have kn16 := zrng n16
  refine zr_callV (idx := 158) (j := 245) (by decide +kernel) (by decide +kernel) (show zMe 245 = some zq_X12_number from rfl) rfl rfl (Nat.le_of_ble_eq_true rfl) rfl rfl hb17 (Nat.le_of_ble_eq_true rfl) (Nat.le_of_ble_eq_true rfl) (c_X12_number (w := w24) (m + 596 + 130 * (g 3 + 1).toNatClampNeg) 1 ho30_b (by first | omega | decide | assumption | exact zr1_1 | exact zr1_0 | fail "num")) (by omega) (fun v30 w30 hp30 => ?_)
  obtain ⟨hsi30, heq30, hp30_0, rfl⟩ := hp30
  show zP _ _ _ _ [] _ _ _ _ _
  refine zp_seg (pc' := 38) (lv' := [(5, .ref (m + 596 + 130 * (g 3 + 1).toNatClampNeg)), (4, .ref (m + 596 + 130 * (g 3).toNatClampNeg)), (3, .int (g 3)), (0, .ref m), (1, .ref t), (2, .int v)]) (st' := [.ref (m + 596 + 130 * (g 3 + 1).toNatClampNeg), .ref (m + 596 + 130 * (g 3).toNatClampNeg), .ref t]) [(33, .aload_n 1), (34, .aload 4), (36, .aload 5)] (by decide +kernel) rfl ?_
  have hb21 : w30 t = some (.inl (13, zTo t (zs (zs (zs (zs g1 0 1) 3 1) 4 1) 5 0))) := ((heq30 t (zx_X16_numberZM_2 hmt hgn3_1 hgb3)).trans (heq24 t (zx_X16_numberZM_1 hmt hgb3))).trans hT18
  have hb22 : w30 (t + 1) = some (.inr (0, 325, .inl fn1)) := ((heq30 (t + 1) (zx_X16_numberZM_10 hmt hgn3_1 hgb3)).trans ((heq24 (t + 1) (zx_X16_numberZM_9 hmt hgb3)).trans ((heq18 (t + 1) (zx_X16_numberZM_11 hmt)).trans ((heq12 (t + 1) ⟨(zx_X16_numberZM_8 hmt), (zx_X16_numberZM_10 hmt hgn3_1 hgb3)⟩).trans (heq6 (t + 1) ⟨(zx_X16_numberZM_8 hmt), (zx_X16_numberZM_9 hmt hgb3)⟩))))).trans hAn1
  have hb23 : w30 (t + 2) = some (.inr (0, 325, .inl fd1)) := ((heq30 (t + 2) (zx_X16_numberZM_14 hmt hgn3_1 hgb3)).trans ((heq24 (t + 2) (zx_X16_numberZM_13 hmt hgb3)).trans ((heq18 (t + 2) (zx_X16_numberZM_15 hmt)).trans ((heq12 (t + 2) ⟨(zx_X16_numberZM_12 hmt), (zx_X16_numberZM_14 hmt hgn3_1 hgb3)⟩).trans (heq6 (t + 2) ⟨(zx_X16_numberZM_12 hmt), (zx_X16_numberZM_13 hmt hgb3)⟩))))).trans hAd1
  have hb24 : zB w30 (m + 596 + 130 * (g 3).toNatClampNeg) (zbC (zaC (zf v))) := hp24_0.ag (fun x hx1 hx2 => (heq30 x (zx_X16_numberZM_4 hx1 hx2 hgn3_1 hgb3)))
  refine zr_callS (idx := 261) (j := 303) (by decide +kernel) (by decide +kernel) (by decide) (show zMe 303 = some zq_X16_put from rfl) rfl rfl (Nat.le_of_ble_eq_true rfl) rfl rfl (Nat.le_of_ble_eq_true rfl) (Nat.le_of_ble_eq_true rfl) (c_X16_put (w := w30) t (m + 596 + 130 * (g 3).toNatClampNeg) (m + 596 + 130 * (g 3 + 1).toNatClampNeg) hb21 hb22 hb23 hb24 hp30_0 (by first | omega | decide | assumption | exact zr1_1 | exact zr1_0 | fail "num") (by first | omega | decide | assumption | exact zr1_1 | exact zr1_0 | fail "num")) (by omega) (fun v38 w38 hp38 => ?_)
  obtain ⟨Fn_38, Fd_38, hsi38, heq38, hp38_0, hp38_1, r38, rfl, hrb38, hr38⟩ := hp38
  have kr38 := zrng r38
  show zP _ _ _ _ [.int r38] _ _ _ _ _
  refine zp_seg (pc' := 43) (lv' := [(6, .int r38), (5, .ref (m + 596 + 130 * (g 3 + 1).toNatClampNeg)), (4, .ref (m + 596 + 130 * (g 3).toNatClampNeg)), (3, .int (g 3)), (0, .ref m), (1, .ref t), (2, .int v)]) (st' := []) [(41, .istore 6)] (by decide +kernel) rfl ?_
  have hrr9 := hr38.2.1 (hr38.2.2 ⟨⟨zrw_1le _, zdn_1le _⟩, ⟨zrw_1le _, zdn_1le _⟩⟩)
  have hb25 : w38 t = some (.inl (13, zTo t (zs (zs (zs (zs g1 0 1) 3 1) 4 1) 5 0))) := (heq38 t (zx_X16_numberZM_16 hmt)).trans hb21
  have hb26 : w38 (t + 3) = some (.inr (0, 13, .inl fa1)) := ((heq38 (t + 3) (zx_X16_numberZM_21 hmt)).trans ((heq30 (t + 3) (zx_X16_numberZM_19 hmt hgn3_1 hgb3)).trans ((heq24 (t + 3) (zx_X16_numberZM_18 hmt hgb3)).trans ((heq18 (t + 3) (zx_X16_numberZM_20 hmt)).trans ((heq12 (t + 3) ⟨(zx_X16_numberZM_17 hmt), (zx_X16_numberZM_19 hmt hgn3_1 hgb3)⟩).trans (heq6 (t + 3) ⟨(zx_X16_numberZM_17 hmt), (zx_X16_numberZM_18 hmt hgb3)⟩)))))).trans hAa1
  have hb27 : w38 (t + 4) = some (.inr (0, 13, .inl fb1)) := ((heq38 (t + 4) (zx_X16_numberZM_26 hmt)).trans ((heq30 (t + 4) (zx_X16_numberZM_24 hmt hgn3_1 hgb3)).trans ((heq24 (t + 4) (zx_X16_numberZM_23 hmt hgb3)).trans ((heq18 (t + 4) (zx_X16_numberZM_25 hmt)).trans ((heq12 (t + 4) ⟨(zx_X16_numberZM_22 hmt), (zx_X16_numberZM_24 hmt hgn3_1 hgb3)⟩).trans (heq6 (t + 4) ⟨(zx_X16_numberZM_22 hmt), (zx_X16_numberZM_23 hmt hgb3)⟩)))))).trans hAb1
  have hb28 : w38 (t + 5) = some (.inr (0, 13, .inl fc1)) := ((heq38 (t + 5) (zx_X16_numberZM_31 hmt)).trans ((heq30 (t + 5) (zx_X16_numberZM_29 hmt hgn3_1 hgb3)).trans ((heq24 (t + 5) (zx_X16_numberZM_28 hmt hgb3)).trans ((heq18 (t + 5) (zx_X16_numberZM_30 hmt)).trans ((heq12 (t + 5) ⟨(zx_X16_numberZM_27 hmt), (zx_X16_numberZM_29 hmt hgn3_1 hgb3)⟩).trans (heq6 (t + 5) ⟨(zx_X16_numberZM_27 hmt), (zx_X16_numberZM_28 hmt hgb3)⟩)))))).trans hAc1
  have hb29 : w38 (t + 6) = some (.inr (0, 13, .inl fe1)) := ((heq38 (t + 6) (zx_X16_numberZM_36 hmt)).trans ((heq30 (t + 6) (zx_X16_numberZM_34 hmt hgn3_1 hgb3)).trans ((heq24 (t + 6) (zx_X16_numberZM_33 hmt hgb3)).trans ((heq18 (t + 6) (zx_X16_numberZM_35 hmt)).trans ((heq12 (t + 6) ⟨(zx_X16_numberZM_32 hmt), (zx_X16_numberZM_34 hmt hgn3_1 hgb3)⟩).trans (heq6 (t + 6) ⟨(zx_X16_numberZM_32 hmt), (zx_X16_numberZM_33 hmt hgb3)⟩)))))).trans hAe1
  have hb30 : w38 (t + 7) = some (.inr (0, 175, .inl fr1)) := ((heq38 (t + 7) (zx_X16_numberZM_41 hmt)).trans ((heq30 (t + 7) (zx_X16_numberZM_39 hmt hgn3_1 hgb3)).trans ((heq24 (t + 7) (zx_X16_numberZM_38 hmt hgb3)).trans ((heq18 (t + 7) (zx_X16_numberZM_40 hmt)).trans ((heq12 (t + 7) ⟨(zx_X16_numberZM_37 hmt), (zx_X16_numberZM_39 hmt hgn3_1 hgb3)⟩).trans (heq6 (t + 7) ⟨(zx_X16_numberZM_37 hmt), (zx_X16_numberZM_38 hmt hgb3)⟩)))))).trans hAr1
  have hb31 : w38 (t + 8) = some (.inr (0, 361, .inl fu1)) := ((heq38 (t + 8) (zx_X16_numberZM_46 hmt)).trans ((heq30 (t + 8) (zx_X16_numberZM_44 hmt hgn3_1 hgb3)).trans ((heq24 (t + 8) (zx_X16_numberZM_43 hmt hgb3)).trans ((heq18 (t + 8) (zx_X16_numberZM_45 hmt)).trans ((heq12 (t + 8) ⟨(zx_X16_numberZM_42 hmt), (zx_X16_numberZM_44 hmt hgn3_1 hgb3)⟩).trans (heq6 (t + 8) ⟨(zx_X16_numberZM_42 hmt), (zx_X16_numberZM_43 hmt hgb3)⟩)))))).trans hAu1
  have hTi9 : zTi w38 (t) 1 := ⟨_, _, _, _, _, _, _, _, _, hb25, hp38_0, hp38_1, hb26, hb27, hb28, hb29, hb30, hb31, ⟨rfl, hrr9.1, hrr9.2.1, ⟨zr1_1, zr1_1⟩, ⟨show 0 ≤ (0 : Int32).toInt by decide, show (0 : Int32).toInt ≤ 13 by decide⟩, fun i hi => absurd hi (Nat.not_lt_zero _), hKr1, hKu1, zKk_12 (Or.inl rfl) (by rw [hrr9.2.2.2, zf_1, zC1_rw]; omega) (fun e => absurd e (by decide)) ⟨show (1 : Int32) ≠ 0 by decide, show (1 : Int32) ≠ 0 by decide⟩⟩⟩
  refine zp_seg (pc' := 45) (lv' := [(6, .int r38), (5, .ref (m + 596 + 130 * (g 3 + 1).toNatClampNeg)), (4, .ref (m + 596 + 130 * (g 3).toNatClampNeg)), (3, .int (g 3)), (0, .ref m), (1, .ref t), (2, .int v)]) (st' := [.int (g 3), .ref m]) [(43, .aload_n 0), (44, .iload_n 3)] (by decide +kernel) rfl ?_
  have hb32 : w38 m = some (.inl (15, zMo m (zs g 3 (g 3 + 1 + 1)) r)) := ((heq38 m (zx_X16_numberZM_50 hmt)).trans ((heq30 m (zx_X16_numberZM_49 hgn3_1 hgb3)).trans ((heq24 m (zx_X16_numberZM_48 hgb3)).trans (heq18 m (zx_X16_numberZM_47 hmt))))).trans hM12
  refine zr_put2 (idx := 90) (k := 3) (fs2 := zMo m g r) (by decide +kernel) (by decide +kernel) hb32 (Nat.le_of_ble_eq_true rfl) rfl rfl rfl ?_
  show zP (d + 1) zq_X16_number 48 [(6, .int r38), (5, .ref (m + 596 + 130 * (g 3 + 1).toNatClampNeg)), (4, .ref (m + 596 + 130 * (g 3).toNatClampNeg)), (3, .int (g 3)), (0, .ref m), (1, .ref t), (2, .int v)] [] (zup w38 m (.inl (15, zMo m g r))) sz 0 0 Post
  obtain ⟨w45, ew45⟩ : ∃ wz9, wz9 = zup w38 m (.inl (15, zMo m g r)) := ⟨_, rfl⟩
  have hsi45 : zSI w38 w45 := by rw [ew45]; exact zSI.setG hb32 _ _
  have heq45 : ∀ x, x ≠ m → w45 x = w38 x := fun x hx => by rw [ew45]; exact zup_n hx
  have hc45 : w45 m = some (.inl (15, zMo m g r)) := by rw [ew45]; exact zup_s
  rw [← ew45]
  clear ew45
  have hmend : w45 m = w m := by rw [hc45, hm]
  have hoffend : ∀ x, (x < t ∨ t + 9 ≤ x) ∧ (x < m + 596 + 130 * (g 3).toNatClampNeg ∨ m + 596 + 130 * (g 3).toNatClampNeg + (5720 - 130 * (g 3).toNatClampNeg) ≤ x) → w45 x = w x := fun x hx => by
      by_cases ex : x = m
      · rw [ex]; exact hmend
      · exact ((heq45 x ex).trans ((heq38 x (zx_X16_numberZM_55 hx.1 hmt)).trans ((heq30 x (zx_X16_numberZM_53 hx.2 hgn3_1 hgb3)).trans ((heq24 x (zx_X16_numberZM_52 hx.2 hgb3)).trans ((heq18 x (zx_X16_numberZM_54 hx.1 hmt)).trans ((heq12 x ⟨(zx_X16_numberZM_51 ex), (zx_X16_numberZM_53 hx.2 hgn3_1 hgb3)⟩).trans (heq6 x ⟨(zx_X16_numberZM_51 ex), (zx_X16_numberZM_52 hx.2 hgb3)⟩)))))))
  have hb33 : zTi w45 t 1 := hTi9.ag (fun x hx1 hx2 => (heq45 x (zx_X16_numberZM_56 hx1 hx2 hmt)))
  have hb34 : w45 (t + 1) = some (.inr (0, 325, .inl Fn_38)) := (heq45 (t + 1) (zx_X16_numberZM_57 hmt)).trans hp38_0
  refine zr_retV (by decide +kernel) rfl ?_
  rw [← hPost]; exact ⟨rfl, _, rfl, ((((((hsi6.tr hsi12).tr hsi18).tr hsi24).tr hsi30).tr hsi38).tr hsi45), hoffend, hb33, (by
        exact fun h9 => ⟨_, hb34, by rw [hrr9.2.2.1, zrw_C (zCn (zf_nz h_v h9))]; decide⟩), rfl⟩
