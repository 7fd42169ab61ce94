section
-- ===== PART A: goes FIRST, ahead of the names: the tables' words, and 'selects' of the private methods out of them =====
/-- a private method of a class that the tables say can be made, by its rows of tables_1 -/
def lw_okq (q : MethodName × Nat) : Prop := (q.1.cls ≠ "java/lang/invoke/MethodHandle" ∧ q.1.cls ≠ "java/lang/invoke/VarHandle") ∧ Cond.instantiable q.1.cls q.2 ∈ tables_1 ∧ Cond.privateMethod q.1 ∈ tables_1 ∧ Cond.instanceMethod q.1 ∈ tables_1
theorem lw_p0 : lw_okq (⟨"SumHouse", "slotAt", "(I)LSumHouse$Slot;"⟩, 13) := ⟨⟨by decide +kernel, by decide +kernel⟩, List.mem_of_getElem? (i := 24) (by decide +kernel), List.mem_of_getElem? (i := 489) (by decide +kernel), List.mem_of_getElem? (i := 490) (by decide +kernel)⟩
theorem lw_p1 : lw_okq (⟨"SumHouse$Texts", "takeNumber", "(I)I"⟩, 19) := ⟨⟨by decide +kernel, by decide +kernel⟩, List.mem_of_getElem? (i := 266) (by decide +kernel), List.mem_of_getElem? (i := 501) (by decide +kernel), List.mem_of_getElem? (i := 502) (by decide +kernel)⟩
theorem lw_p2 : lw_okq (⟨"SumHouse$Texts", "emit", "(III)V"⟩, 19) := ⟨⟨by decide +kernel, by decide +kernel⟩, List.mem_of_getElem? (i := 266) (by decide +kernel), List.mem_of_getElem? (i := 511) (by decide +kernel), List.mem_of_getElem? (i := 512) (by decide +kernel)⟩
theorem lw_p3 : lw_okq (⟨"SumHouse$Texts", "afterOperand", "()V"⟩, 19) := ⟨⟨by decide +kernel, by decide +kernel⟩, List.mem_of_getElem? (i := 266) (by decide +kernel), List.mem_of_getElem? (i := 515) (by decide +kernel), List.mem_of_getElem? (i := 516) (by decide +kernel)⟩
theorem lw_p4 : lw_okq (⟨"SumHouse$Texts", "signOf", "(I)I"⟩, 19) := ⟨⟨by decide +kernel, by decide +kernel⟩, List.mem_of_getElem? (i := 266) (by decide +kernel), List.mem_of_getElem? (i := 519) (by decide +kernel), List.mem_of_getElem? (i := 520) (by decide +kernel)⟩
theorem lw_p5 : lw_okq (⟨"SumHouse$Texts", "takeOperand", "(II)V"⟩, 19) := ⟨⟨by decide +kernel, by decide +kernel⟩, List.mem_of_getElem? (i := 266) (by decide +kernel), List.mem_of_getElem? (i := 523) (by decide +kernel), List.mem_of_getElem? (i := 524) (by decide +kernel)⟩
theorem lw_p6 : lw_okq (⟨"SumHouse$Texts", "open", "(II)V"⟩, 19) := ⟨⟨by decide +kernel, by decide +kernel⟩, List.mem_of_getElem? (i := 266) (by decide +kernel), List.mem_of_getElem? (i := 527) (by decide +kernel), List.mem_of_getElem? (i := 528) (by decide +kernel)⟩
theorem lw_p7 : lw_okq (⟨"SumHouse$Texts", "push", "(II)V"⟩, 19) := ⟨⟨by decide +kernel, by decide +kernel⟩, List.mem_of_getElem? (i := 266) (by decide +kernel), List.mem_of_getElem? (i := 531) (by decide +kernel), List.mem_of_getElem? (i := 532) (by decide +kernel)⟩
theorem lw_p8 : lw_okq (⟨"SumHouse$Texts", "takeSign", "(II)V"⟩, 19) := ⟨⟨by decide +kernel, by decide +kernel⟩, List.mem_of_getElem? (i := 266) (by decide +kernel), List.mem_of_getElem? (i := 535) (by decide +kernel), List.mem_of_getElem? (i := 536) (by decide +kernel)⟩
theorem lw_p9 : lw_okq (⟨"SumHouse$Texts", "unload", "(I)V"⟩, 19) := ⟨⟨by decide +kernel, by decide +kernel⟩, List.mem_of_getElem? (i := 266) (by decide +kernel), List.mem_of_getElem? (i := 539) (by decide +kernel), List.mem_of_getElem? (i := 540) (by decide +kernel)⟩
theorem lw_p10 : lw_okq (⟨"SumHouse$Texts", "takeEnd", "(I)V"⟩, 19) := ⟨⟨by decide +kernel, by decide +kernel⟩, List.mem_of_getElem? (i := 266) (by decide +kernel), List.mem_of_getElem? (i := 543) (by decide +kernel), List.mem_of_getElem? (i := 544) (by decide +kernel)⟩
theorem lw_p11 : lw_okq (⟨"SumHouse$Texts", "faultOf", "(II)I"⟩, 19) := ⟨⟨by decide +kernel, by decide +kernel⟩, List.mem_of_getElem? (i := 266) (by decide +kernel), List.mem_of_getElem? (i := 551) (by decide +kernel), List.mem_of_getElem? (i := 552) (by decide +kernel)⟩
theorem lw_p12 : lw_okq (⟨"SumHouse$Terms", "keepLine", "(IIII)Z"⟩, 8) := ⟨⟨by decide +kernel, by decide +kernel⟩, List.mem_of_getElem? (i := 181) (by decide +kernel), List.mem_of_getElem? (i := 617) (by decide +kernel), List.mem_of_getElem? (i := 618) (by decide +kernel)⟩
theorem lw_p13 : lw_okq (⟨"SumHouse$Divisors", "tried", "(IIII)I"⟩, 5) := ⟨⟨by decide +kernel, by decide +kernel⟩, List.mem_of_getElem? (i := 143) (by decide +kernel), List.mem_of_getElem? (i := 824) (by decide +kernel), List.mem_of_getElem? (i := 825) (by decide +kernel)⟩
theorem lw_p14 : lw_okq (⟨"SumHouse$Terms", "fits", "(I)Z"⟩, 8) := ⟨⟨by decide +kernel, by decide +kernel⟩, List.mem_of_getElem? (i := 181) (by decide +kernel), List.mem_of_getElem? (i := 847) (by decide +kernel), List.mem_of_getElem? (i := 848) (by decide +kernel)⟩
theorem lw_p15 : lw_okq (⟨"SumHouse$Terms", "powers", "(I)I"⟩, 8) := ⟨⟨by decide +kernel, by decide +kernel⟩, List.mem_of_getElem? (i := 181) (by decide +kernel), List.mem_of_getElem? (i := 861) (by decide +kernel), List.mem_of_getElem? (i := 862) (by decide +kernel)⟩
def lw_privs_1 : List (MethodName × Nat) := [(⟨"SumHouse", "slotAt", "(I)LSumHouse$Slot;"⟩, 13), (⟨"SumHouse$Texts", "takeNumber", "(I)I"⟩, 19), (⟨"SumHouse$Texts", "emit", "(III)V"⟩, 19), (⟨"SumHouse$Texts", "afterOperand", "()V"⟩, 19), (⟨"SumHouse$Texts", "signOf", "(I)I"⟩, 19), (⟨"SumHouse$Texts", "takeOperand", "(II)V"⟩, 19), (⟨"SumHouse$Texts", "open", "(II)V"⟩, 19), (⟨"SumHouse$Texts", "push", "(II)V"⟩, 19), (⟨"SumHouse$Texts", "takeSign", "(II)V"⟩, 19), (⟨"SumHouse$Texts", "unload", "(I)V"⟩, 19), (⟨"SumHouse$Texts", "takeEnd", "(I)V"⟩, 19), (⟨"SumHouse$Texts", "faultOf", "(II)I"⟩, 19), (⟨"SumHouse$Terms", "keepLine", "(IIII)Z"⟩, 8), (⟨"SumHouse$Divisors", "tried", "(IIII)I"⟩, 5), (⟨"SumHouse$Terms", "fits", "(I)Z"⟩, 8), (⟨"SumHouse$Terms", "powers", "(I)I"⟩, 8)]
theorem lw_r1 : ∀ q ∈ lw_privs_1, lw_okq q := List.forall_mem_cons.mpr ⟨lw_p0, List.forall_mem_cons.mpr ⟨lw_p1, List.forall_mem_cons.mpr ⟨lw_p2, List.forall_mem_cons.mpr ⟨lw_p3, List.forall_mem_cons.mpr ⟨lw_p4, List.forall_mem_cons.mpr ⟨lw_p5, List.forall_mem_cons.mpr ⟨lw_p6, List.forall_mem_cons.mpr ⟨lw_p7, List.forall_mem_cons.mpr ⟨lw_p8, List.forall_mem_cons.mpr ⟨lw_p9, List.forall_mem_cons.mpr ⟨lw_p10, List.forall_mem_cons.mpr ⟨lw_p11, List.forall_mem_cons.mpr ⟨lw_p12, List.forall_mem_cons.mpr ⟨lw_p13, List.forall_mem_cons.mpr ⟨lw_p14, List.forall_mem_cons.mpr ⟨lw_p15, fun _ h => absurd h List.not_mem_nil⟩⟩⟩⟩⟩⟩⟩⟩⟩⟩⟩⟩⟩⟩⟩⟩
theorem lw_p16 : lw_okq (⟨"SumHouse$Terms", "size", "(I)I"⟩, 8) := ⟨⟨by decide +kernel, by decide +kernel⟩, List.mem_of_getElem? (i := 181) (by decide +kernel), List.mem_of_getElem? (i := 869) (by decide +kernel), List.mem_of_getElem? (i := 870) (by decide +kernel)⟩
theorem lw_p17 : lw_okq (⟨"SumHouse$Terms", "addFactorials", "(III)V"⟩, 8) := ⟨⟨by decide +kernel, by decide +kernel⟩, List.mem_of_getElem? (i := 181) (by decide +kernel), List.mem_of_getElem? (i := 901) (by decide +kernel), List.mem_of_getElem? (i := 902) (by decide +kernel)⟩
theorem lw_p18 : lw_okq (⟨"SumHouse$Terms", "addFactorial", "(IIIII)V"⟩, 8) := ⟨⟨by decide +kernel, by decide +kernel⟩, List.mem_of_getElem? (i := 181) (by decide +kernel), List.mem_of_getElem? (i := 905) (by decide +kernel), List.mem_of_getElem? (i := 906) (by decide +kernel)⟩
theorem lw_p19 : lw_okq (⟨"SumHouse$Ratios", "side", "(II)I"⟩, 3) := ⟨⟨by decide +kernel, by decide +kernel⟩, List.mem_of_getElem? (i := 165) (by decide +kernel), List.mem_of_getElem? (i := 926) (by decide +kernel), List.mem_of_getElem? (i := 927) (by decide +kernel)⟩
theorem lw_p20 : lw_okq (⟨"SumHouse$Texts", "draw", "(I)V"⟩, 19) := ⟨⟨by decide +kernel, by decide +kernel⟩, List.mem_of_getElem? (i := 266) (by decide +kernel), List.mem_of_getElem? (i := 993) (by decide +kernel), List.mem_of_getElem? (i := 994) (by decide +kernel)⟩
theorem lw_p21 : lw_okq (⟨"SumHouse$Texts", "drawRatio", "(LSumHouse$Slot;)V"⟩, 19) := ⟨⟨by decide +kernel, by decide +kernel⟩, List.mem_of_getElem? (i := 266) (by decide +kernel), List.mem_of_getElem? (i := 997) (by decide +kernel), List.mem_of_getElem? (i := 998) (by decide +kernel)⟩
theorem lw_p22 : lw_okq (⟨"SumHouse$Texts", "drawPolynomial", "(LSumHouse$Slot;I)V"⟩, 19) := ⟨⟨by decide +kernel, by decide +kernel⟩, List.mem_of_getElem? (i := 266) (by decide +kernel), List.mem_of_getElem? (i := 1005) (by decide +kernel), List.mem_of_getElem? (i := 1006) (by decide +kernel)⟩
theorem lw_p23 : lw_okq (⟨"SumHouse$Texts", "drawPart", "(IIIZ)V"⟩, 19) := ⟨⟨by decide +kernel, by decide +kernel⟩, List.mem_of_getElem? (i := 266) (by decide +kernel), List.mem_of_getElem? (i := 1023) (by decide +kernel), List.mem_of_getElem? (i := 1024) (by decide +kernel)⟩
theorem lw_p24 : lw_okq (⟨"SumHouse$Texts", "drawNumber", "(I)V"⟩, 19) := ⟨⟨by decide +kernel, by decide +kernel⟩, List.mem_of_getElem? (i := 266) (by decide +kernel), List.mem_of_getElem? (i := 1028) (by decide +kernel), List.mem_of_getElem? (i := 1029) (by decide +kernel)⟩
theorem lw_p25 : lw_okq (⟨"SumHouse$Texts", "drawLetter", "(IIZ)V"⟩, 19) := ⟨⟨by decide +kernel, by decide +kernel⟩, List.mem_of_getElem? (i := 266) (by decide +kernel), List.mem_of_getElem? (i := 1033) (by decide +kernel), List.mem_of_getElem? (i := 1034) (by decide +kernel)⟩
theorem lw_p26 : lw_okq (⟨"SumHouse$Texts", "drawBase", "(II)V"⟩, 19) := ⟨⟨by decide +kernel, by decide +kernel⟩, List.mem_of_getElem? (i := 266) (by decide +kernel), List.mem_of_getElem? (i := 1037) (by decide +kernel), List.mem_of_getElem? (i := 1038) (by decide +kernel)⟩
theorem lw_p27 : lw_okq (⟨"SumHouse$Texts", "drawFactorial", "(LSumHouse$Slot;I)V"⟩, 19) := ⟨⟨by decide +kernel, by decide +kernel⟩, List.mem_of_getElem? (i := 266) (by decide +kernel), List.mem_of_getElem? (i := 1041) (by decide +kernel), List.mem_of_getElem? (i := 1042) (by decide +kernel)⟩
theorem lw_p28 : lw_okq (⟨"SumHouse", "ofPolynomials", "(III)I"⟩, 13) := ⟨⟨by decide +kernel, by decide +kernel⟩, List.mem_of_getElem? (i := 24) (by decide +kernel), List.mem_of_getElem? (i := 1122) (by decide +kernel), List.mem_of_getElem? (i := 1123) (by decide +kernel)⟩
theorem lw_p29 : lw_okq (⟨"SumHouse$Divisors", "woven", "(II)I"⟩, 5) := ⟨⟨by decide +kernel, by decide +kernel⟩, List.mem_of_getElem? (i := 143) (by decide +kernel), List.mem_of_getElem? (i := 1140) (by decide +kernel), List.mem_of_getElem? (i := 1141) (by decide +kernel)⟩
theorem lw_p30 : lw_okq (⟨"SumHouse", "keep", "(ILSumHouse$Slot;)I"⟩, 13) := ⟨⟨by decide +kernel, by decide +kernel⟩, List.mem_of_getElem? (i := 24) (by decide +kernel), List.mem_of_getElem? (i := 1152) (by decide +kernel), List.mem_of_getElem? (i := 1153) (by decide +kernel)⟩
theorem lw_p31 : lw_okq (⟨"SumHouse", "changed", "(IIILSumHouse$Slot;)I"⟩, 13) := ⟨⟨by decide +kernel, by decide +kernel⟩, List.mem_of_getElem? (i := 24) (by decide +kernel), List.mem_of_getElem? (i := 1186) (by decide +kernel), List.mem_of_getElem? (i := 1187) (by decide +kernel)⟩
def lw_privs_2 : List (MethodName × Nat) := [(⟨"SumHouse$Terms", "size", "(I)I"⟩, 8), (⟨"SumHouse$Terms", "addFactorials", "(III)V"⟩, 8), (⟨"SumHouse$Terms", "addFactorial", "(IIIII)V"⟩, 8), (⟨"SumHouse$Ratios", "side", "(II)I"⟩, 3), (⟨"SumHouse$Texts", "draw", "(I)V"⟩, 19), (⟨"SumHouse$Texts", "drawRatio", "(LSumHouse$Slot;)V"⟩, 19), (⟨"SumHouse$Texts", "drawPolynomial", "(LSumHouse$Slot;I)V"⟩, 19), (⟨"SumHouse$Texts", "drawPart", "(IIIZ)V"⟩, 19), (⟨"SumHouse$Texts", "drawNumber", "(I)V"⟩, 19), (⟨"SumHouse$Texts", "drawLetter", "(IIZ)V"⟩, 19), (⟨"SumHouse$Texts", "drawBase", "(II)V"⟩, 19), (⟨"SumHouse$Texts", "drawFactorial", "(LSumHouse$Slot;I)V"⟩, 19), (⟨"SumHouse", "ofPolynomials", "(III)I"⟩, 13), (⟨"SumHouse$Divisors", "woven", "(II)I"⟩, 5), (⟨"SumHouse", "keep", "(ILSumHouse$Slot;)I"⟩, 13), (⟨"SumHouse", "changed", "(IIILSumHouse$Slot;)I"⟩, 13)]
theorem lw_r2 : ∀ q ∈ lw_privs_2, lw_okq q := List.forall_mem_cons.mpr ⟨lw_p16, List.forall_mem_cons.mpr ⟨lw_p17, List.forall_mem_cons.mpr ⟨lw_p18, List.forall_mem_cons.mpr ⟨lw_p19, List.forall_mem_cons.mpr ⟨lw_p20, List.forall_mem_cons.mpr ⟨lw_p21, List.forall_mem_cons.mpr ⟨lw_p22, List.forall_mem_cons.mpr ⟨lw_p23, List.forall_mem_cons.mpr ⟨lw_p24, List.forall_mem_cons.mpr ⟨lw_p25, List.forall_mem_cons.mpr ⟨lw_p26, List.forall_mem_cons.mpr ⟨lw_p27, List.forall_mem_cons.mpr ⟨lw_p28, List.forall_mem_cons.mpr ⟨lw_p29, List.forall_mem_cons.mpr ⟨lw_p30, List.forall_mem_cons.mpr ⟨lw_p31, fun _ h => absurd h List.not_mem_nil⟩⟩⟩⟩⟩⟩⟩⟩⟩⟩⟩⟩⟩⟩⟩⟩
theorem lw_p32 : lw_okq (⟨"SumHouse$Terms", "stepFactorial", "(III)V"⟩, 8) := ⟨⟨by decide +kernel, by decide +kernel⟩, List.mem_of_getElem? (i := 181) (by decide +kernel), List.mem_of_getElem? (i := 1251) (by decide +kernel), List.mem_of_getElem? (i := 1252) (by decide +kernel)⟩
theorem lw_p33 : lw_okq (⟨"SumHouse$Terms", "stepLine", "(IIIZ)V"⟩, 8) := ⟨⟨by decide +kernel, by decide +kernel⟩, List.mem_of_getElem? (i := 181) (by decide +kernel), List.mem_of_getElem? (i := 1255) (by decide +kernel), List.mem_of_getElem? (i := 1256) (by decide +kernel)⟩
theorem lw_p34 : lw_okq (⟨"SumHouse$Sums", "grown", "(III)I"⟩, 18) := ⟨⟨by decide +kernel, by decide +kernel⟩, List.mem_of_getElem? (i := 337) (by decide +kernel), List.mem_of_getElem? (i := 1276) (by decide +kernel), List.mem_of_getElem? (i := 1277) (by decide +kernel)⟩
theorem lw_p35 : lw_okq (⟨"SumHouse$Sums", "isModest", "(I)Z"⟩, 18) := ⟨⟨by decide +kernel, by decide +kernel⟩, List.mem_of_getElem? (i := 337) (by decide +kernel), List.mem_of_getElem? (i := 1295) (by decide +kernel), List.mem_of_getElem? (i := 1296) (by decide +kernel)⟩
theorem lw_p36 : lw_okq (⟨"SumHouse$Sums", "solved", "(II)I"⟩, 18) := ⟨⟨by decide +kernel, by decide +kernel⟩, List.mem_of_getElem? (i := 337) (by decide +kernel), List.mem_of_getElem? (i := 1314) (by decide +kernel), List.mem_of_getElem? (i := 1315) (by decide +kernel)⟩
theorem lw_p37 : lw_okq (⟨"SumHouse$Sums", "depthFor", "(I)I"⟩, 18) := ⟨⟨by decide +kernel, by decide +kernel⟩, List.mem_of_getElem? (i := 337) (by decide +kernel), List.mem_of_getElem? (i := 1320) (by decide +kernel), List.mem_of_getElem? (i := 1321) (by decide +kernel)⟩
theorem lw_p38 : lw_okq (⟨"SumHouse$Sums", "numberOf", "(II)I"⟩, 18) := ⟨⟨by decide +kernel, by decide +kernel⟩, List.mem_of_getElem? (i := 337) (by decide +kernel), List.mem_of_getElem? (i := 1327) (by decide +kernel), List.mem_of_getElem? (i := 1328) (by decide +kernel)⟩
theorem lw_p39 : lw_okq (⟨"SumHouse$Sums", "equation", "(II)Z"⟩, 18) := ⟨⟨by decide +kernel, by decide +kernel⟩, List.mem_of_getElem? (i := 337) (by decide +kernel), List.mem_of_getElem? (i := 1332) (by decide +kernel), List.mem_of_getElem? (i := 1333) (by decide +kernel)⟩
theorem lw_p40 : lw_okq (⟨"SumHouse$Sums", "putUnknowns", "(IIIIII)V"⟩, 18) := ⟨⟨by decide +kernel, by decide +kernel⟩, List.mem_of_getElem? (i := 337) (by decide +kernel), List.mem_of_getElem? (i := 1347) (by decide +kernel), List.mem_of_getElem? (i := 1348) (by decide +kernel)⟩
theorem lw_p41 : lw_okq (⟨"SumHouse$Sums", "putPieces", "(IIIII)V"⟩, 18) := ⟨⟨by decide +kernel, by decide +kernel⟩, List.mem_of_getElem? (i := 337) (by decide +kernel), List.mem_of_getElem? (i := 1359) (by decide +kernel), List.mem_of_getElem? (i := 1360) (by decide +kernel)⟩
theorem lw_p42 : lw_okq (⟨"SumHouse$Solver", "search", "(II)I"⟩, 14) := ⟨⟨by decide +kernel, by decide +kernel⟩, List.mem_of_getElem? (i := 213) (by decide +kernel), List.mem_of_getElem? (i := 1367) (by decide +kernel), List.mem_of_getElem? (i := 1368) (by decide +kernel)⟩
theorem lw_p43 : lw_okq (⟨"SumHouse$Solver", "entry", "(II)I"⟩, 14) := ⟨⟨by decide +kernel, by decide +kernel⟩, List.mem_of_getElem? (i := 213) (by decide +kernel), List.mem_of_getElem? (i := 1371) (by decide +kernel), List.mem_of_getElem? (i := 1372) (by decide +kernel)⟩
theorem lw_p44 : lw_okq (⟨"SumHouse$Solver", "eliminate", "(II)V"⟩, 14) := ⟨⟨by decide +kernel, by decide +kernel⟩, List.mem_of_getElem? (i := 213) (by decide +kernel), List.mem_of_getElem? (i := 1375) (by decide +kernel), List.mem_of_getElem? (i := 1376) (by decide +kernel)⟩
theorem lw_p45 : lw_okq (⟨"SumHouse$Solver", "solveAt", "(I)V"⟩, 14) := ⟨⟨by decide +kernel, by decide +kernel⟩, List.mem_of_getElem? (i := 213) (by decide +kernel), List.mem_of_getElem? (i := 1384) (by decide +kernel), List.mem_of_getElem? (i := 1385) (by decide +kernel)⟩
theorem lw_p46 : lw_okq (⟨"SumHouse$Sums", "certified", "(LSumHouse$Slot;LSumHouse$Slot;II)I"⟩, 18) := ⟨⟨by decide +kernel, by decide +kernel⟩, List.mem_of_getElem? (i := 337) (by decide +kernel), List.mem_of_getElem? (i := 1490) (by decide +kernel), List.mem_of_getElem? (i := 1491) (by decide +kernel)⟩
theorem lw_p47 : lw_okq (⟨"SumHouse$Sequences", "needsOf", "(I)I"⟩, 9) := ⟨⟨by decide +kernel, by decide +kernel⟩, List.mem_of_getElem? (i := 402) (by decide +kernel), List.mem_of_getElem? (i := 1508) (by decide +kernel), List.mem_of_getElem? (i := 1509) (by decide +kernel)⟩
def lw_privs_3 : List (MethodName × Nat) := [(⟨"SumHouse$Terms", "stepFactorial", "(III)V"⟩, 8), (⟨"SumHouse$Terms", "stepLine", "(IIIZ)V"⟩, 8), (⟨"SumHouse$Sums", "grown", "(III)I"⟩, 18), (⟨"SumHouse$Sums", "isModest", "(I)Z"⟩, 18), (⟨"SumHouse$Sums", "solved", "(II)I"⟩, 18), (⟨"SumHouse$Sums", "depthFor", "(I)I"⟩, 18), (⟨"SumHouse$Sums", "numberOf", "(II)I"⟩, 18), (⟨"SumHouse$Sums", "equation", "(II)Z"⟩, 18), (⟨"SumHouse$Sums", "putUnknowns", "(IIIIII)V"⟩, 18), (⟨"SumHouse$Sums", "putPieces", "(IIIII)V"⟩, 18), (⟨"SumHouse$Solver", "search", "(II)I"⟩, 14), (⟨"SumHouse$Solver", "entry", "(II)I"⟩, 14), (⟨"SumHouse$Solver", "eliminate", "(II)V"⟩, 14), (⟨"SumHouse$Solver", "solveAt", "(I)V"⟩, 14), (⟨"SumHouse$Sums", "certified", "(LSumHouse$Slot;LSumHouse$Slot;II)I"⟩, 18), (⟨"SumHouse$Sequences", "needsOf", "(I)I"⟩, 9)]
theorem lw_r3 : ∀ q ∈ lw_privs_3, lw_okq q := List.forall_mem_cons.mpr ⟨lw_p32, List.forall_mem_cons.mpr ⟨lw_p33, List.forall_mem_cons.mpr ⟨lw_p34, List.forall_mem_cons.mpr ⟨lw_p35, List.forall_mem_cons.mpr ⟨lw_p36, List.forall_mem_cons.mpr ⟨lw_p37, List.forall_mem_cons.mpr ⟨lw_p38, List.forall_mem_cons.mpr ⟨lw_p39, List.forall_mem_cons.mpr ⟨lw_p40, List.forall_mem_cons.mpr ⟨lw_p41, List.forall_mem_cons.mpr ⟨lw_p42, List.forall_mem_cons.mpr ⟨lw_p43, List.forall_mem_cons.mpr ⟨lw_p44, List.forall_mem_cons.mpr ⟨lw_p45, List.forall_mem_cons.mpr ⟨lw_p46, List.forall_mem_cons.mpr ⟨lw_p47, fun _ h => absurd h List.not_mem_nil⟩⟩⟩⟩⟩⟩⟩⟩⟩⟩⟩⟩⟩⟩⟩⟩
theorem lw_p48 : lw_okq (⟨"SumHouse$Sequences", "save", "(LSumHouse$Slot;III)V"⟩, 9) := ⟨⟨by decide +kernel, by decide +kernel⟩, List.mem_of_getElem? (i := 402) (by decide +kernel), List.mem_of_getElem? (i := 1514) (by decide +kernel), List.mem_of_getElem? (i := 1515) (by decide +kernel)⟩
theorem lw_p49 : lw_okq (⟨"SumHouse$Sequences", "numbersOf", "(LSumHouse$Slot;[II)V"⟩, 9) := ⟨⟨by decide +kernel, by decide +kernel⟩, List.mem_of_getElem? (i := 402) (by decide +kernel), List.mem_of_getElem? (i := 1536) (by decide +kernel), List.mem_of_getElem? (i := 1537) (by decide +kernel)⟩
theorem lw_p50 : lw_okq (⟨"SumHouse$Sequences", "joinedRow", "(LSumHouse$Slot;II)I"⟩, 9) := ⟨⟨by decide +kernel, by decide +kernel⟩, List.mem_of_getElem? (i := 402) (by decide +kernel), List.mem_of_getElem? (i := 1564) (by decide +kernel), List.mem_of_getElem? (i := 1565) (by decide +kernel)⟩
theorem lw_p51 : lw_okq (⟨"SumHouse$Sequences", "unfold", "(LSumHouse$Slot;II[I)Z"⟩, 9) := ⟨⟨by decide +kernel, by decide +kernel⟩, List.mem_of_getElem? (i := 402) (by decide +kernel), List.mem_of_getElem? (i := 1581) (by decide +kernel), List.mem_of_getElem? (i := 1582) (by decide +kernel)⟩
theorem lw_p52 : lw_okq (⟨"SumHouse$Sequences", "putColumns", "(ILSumHouse$Slot;LSumHouse$Slot;II)V"⟩, 9) := ⟨⟨by decide +kernel, by decide +kernel⟩, List.mem_of_getElem? (i := 402) (by decide +kernel), List.mem_of_getElem? (i := 1585) (by decide +kernel), List.mem_of_getElem? (i := 1586) (by decide +kernel)⟩
theorem lw_p53 : lw_okq (⟨"SumHouse$Sequences", "isGuess", "(II[II)Z"⟩, 9) := ⟨⟨by decide +kernel, by decide +kernel⟩, List.mem_of_getElem? (i := 402) (by decide +kernel), List.mem_of_getElem? (i := 1610) (by decide +kernel), List.mem_of_getElem? (i := 1611) (by decide +kernel)⟩
theorem lw_p54 : lw_okq (⟨"SumHouse$Sequences", "guessRow", "(II[IILSumHouse$Slot;)I"⟩, 9) := ⟨⟨by decide +kernel, by decide +kernel⟩, List.mem_of_getElem? (i := 402) (by decide +kernel), List.mem_of_getElem? (i := 1614) (by decide +kernel), List.mem_of_getElem? (i := 1615) (by decide +kernel)⟩
theorem lw_p55 : lw_okq (⟨"SumHouse$Divisors", "distinct", "(II)I"⟩, 5) := ⟨⟨by decide +kernel, by decide +kernel⟩, List.mem_of_getElem? (i := 143) (by decide +kernel), List.mem_of_getElem? (i := 1631) (by decide +kernel), List.mem_of_getElem? (i := 1632) (by decide +kernel)⟩
theorem lw_p56 : lw_okq (⟨"SumHouse$Divisors", "powerOf", "(IIIII)V"⟩, 5) := ⟨⟨by decide +kernel, by decide +kernel⟩, List.mem_of_getElem? (i := 143) (by decide +kernel), List.mem_of_getElem? (i := 1636) (by decide +kernel), List.mem_of_getElem? (i := 1637) (by decide +kernel)⟩
theorem lw_p57 : lw_okq (⟨"SumHouse$Divisors", "square", "(IIII)V"⟩, 5) := ⟨⟨by decide +kernel, by decide +kernel⟩, List.mem_of_getElem? (i := 143) (by decide +kernel), List.mem_of_getElem? (i := 1640) (by decide +kernel), List.mem_of_getElem? (i := 1641) (by decide +kernel)⟩
theorem lw_p58 : lw_okq (⟨"SumHouse$Divisors", "split", "(IIII)I"⟩, 5) := ⟨⟨by decide +kernel, by decide +kernel⟩, List.mem_of_getElem? (i := 143) (by decide +kernel), List.mem_of_getElem? (i := 1648) (by decide +kernel), List.mem_of_getElem? (i := 1649) (by decide +kernel)⟩
theorem lw_p59 : lw_okq (⟨"SumHouse$Divisors", "lowest", "(II)I"⟩, 5) := ⟨⟨by decide +kernel, by decide +kernel⟩, List.mem_of_getElem? (i := 143) (by decide +kernel), List.mem_of_getElem? (i := 1654) (by decide +kernel), List.mem_of_getElem? (i := 1655) (by decide +kernel)⟩
theorem lw_p60 : lw_okq (⟨"SumHouse$Terms", "timesRoot", "(III)I"⟩, 8) := ⟨⟨by decide +kernel, by decide +kernel⟩, List.mem_of_getElem? (i := 181) (by decide +kernel), List.mem_of_getElem? (i := 1676) (by decide +kernel), List.mem_of_getElem? (i := 1677) (by decide +kernel)⟩
theorem lw_p61 : lw_okq (⟨"java/lang/Throwable", "fillInStackTrace", "(I)Ljava/lang/Throwable;"⟩, 6) := ⟨⟨by decide +kernel, by decide +kernel⟩, List.mem_of_getElem? (i := 1789) (by decide +kernel), List.mem_of_getElem? (i := 1787) (by decide +kernel), List.mem_of_getElem? (i := 1788) (by decide +kernel)⟩
theorem lw_p62 : lw_okq (⟨"SumHouseModel", "begin", "()V"⟩, 65) := ⟨⟨by decide +kernel, by decide +kernel⟩, List.mem_of_getElem? (i := 1681) (by decide +kernel), List.mem_of_getElem? (i := 2060) (by decide +kernel), List.mem_of_getElem? (i := 2061) (by decide +kernel)⟩
theorem lw_p63 : lw_okq (⟨"SumHouseModel", "readE", "()V"⟩, 65) := ⟨⟨by decide +kernel, by decide +kernel⟩, List.mem_of_getElem? (i := 1681) (by decide +kernel), List.mem_of_getElem? (i := 2064) (by decide +kernel), List.mem_of_getElem? (i := 2065) (by decide +kernel)⟩
def lw_privs_4 : List (MethodName × Nat) := [(⟨"SumHouse$Sequences", "save", "(LSumHouse$Slot;III)V"⟩, 9), (⟨"SumHouse$Sequences", "numbersOf", "(LSumHouse$Slot;[II)V"⟩, 9), (⟨"SumHouse$Sequences", "joinedRow", "(LSumHouse$Slot;II)I"⟩, 9), (⟨"SumHouse$Sequences", "unfold", "(LSumHouse$Slot;II[I)Z"⟩, 9), (⟨"SumHouse$Sequences", "putColumns", "(ILSumHouse$Slot;LSumHouse$Slot;II)V"⟩, 9), (⟨"SumHouse$Sequences", "isGuess", "(II[II)Z"⟩, 9), (⟨"SumHouse$Sequences", "guessRow", "(II[IILSumHouse$Slot;)I"⟩, 9), (⟨"SumHouse$Divisors", "distinct", "(II)I"⟩, 5), (⟨"SumHouse$Divisors", "powerOf", "(IIIII)V"⟩, 5), (⟨"SumHouse$Divisors", "square", "(IIII)V"⟩, 5), (⟨"SumHouse$Divisors", "split", "(IIII)I"⟩, 5), (⟨"SumHouse$Divisors", "lowest", "(II)I"⟩, 5), (⟨"SumHouse$Terms", "timesRoot", "(III)I"⟩, 8), (⟨"java/lang/Throwable", "fillInStackTrace", "(I)Ljava/lang/Throwable;"⟩, 6), (⟨"SumHouseModel", "begin", "()V"⟩, 65), (⟨"SumHouseModel", "readE", "()V"⟩, 65)]
theorem lw_r4 : ∀ q ∈ lw_privs_4, lw_okq q := List.forall_mem_cons.mpr ⟨lw_p48, List.forall_mem_cons.mpr ⟨lw_p49, List.forall_mem_cons.mpr ⟨lw_p50, List.forall_mem_cons.mpr ⟨lw_p51, List.forall_mem_cons.mpr ⟨lw_p52, List.forall_mem_cons.mpr ⟨lw_p53, List.forall_mem_cons.mpr ⟨lw_p54, List.forall_mem_cons.mpr ⟨lw_p55, List.forall_mem_cons.mpr ⟨lw_p56, List.forall_mem_cons.mpr ⟨lw_p57, List.forall_mem_cons.mpr ⟨lw_p58, List.forall_mem_cons.mpr ⟨lw_p59, List.forall_mem_cons.mpr ⟨lw_p60, List.forall_mem_cons.mpr ⟨lw_p61, List.forall_mem_cons.mpr ⟨lw_p62, List.forall_mem_cons.mpr ⟨lw_p63, fun _ h => absurd h List.not_mem_nil⟩⟩⟩⟩⟩⟩⟩⟩⟩⟩⟩⟩⟩⟩⟩⟩
theorem lw_p64 : lw_okq (⟨"SumHouseModel", "look", "()I"⟩, 65) := ⟨⟨by decide +kernel, by decide +kernel⟩, List.mem_of_getElem? (i := 1681) (by decide +kernel), List.mem_of_getElem? (i := 2068) (by decide +kernel), List.mem_of_getElem? (i := 2069) (by decide +kernel)⟩
theorem lw_p65 : lw_okq (⟨"SumHouseModel", "readU", "()V"⟩, 65) := ⟨⟨by decide +kernel, by decide +kernel⟩, List.mem_of_getElem? (i := 1681) (by decide +kernel), List.mem_of_getElem? (i := 2072) (by decide +kernel), List.mem_of_getElem? (i := 2073) (by decide +kernel)⟩
theorem lw_p66 : lw_okq (⟨"SumHouseModel", "readW", "()V"⟩, 65) := ⟨⟨by decide +kernel, by decide +kernel⟩, List.mem_of_getElem? (i := 1681) (by decide +kernel), List.mem_of_getElem? (i := 2076) (by decide +kernel), List.mem_of_getElem? (i := 2077) (by decide +kernel)⟩
theorem lw_p67 : lw_okq (⟨"SumHouseModel", "readB", "()V"⟩, 65) := ⟨⟨by decide +kernel, by decide +kernel⟩, List.mem_of_getElem? (i := 1681) (by decide +kernel), List.mem_of_getElem? (i := 2080) (by decide +kernel), List.mem_of_getElem? (i := 2081) (by decide +kernel)⟩
theorem lw_p68 : lw_okq (⟨"SumHouseModel", "fail", "(II)LSumHouseModel$Stop;"⟩, 65) := ⟨⟨by decide +kernel, by decide +kernel⟩, List.mem_of_getElem? (i := 1681) (by decide +kernel), List.mem_of_getElem? (i := 2084) (by decide +kernel), List.mem_of_getElem? (i := 2085) (by decide +kernel)⟩
theorem lw_p69 : lw_okq (⟨"SumHouseModel", "bracket", "()V"⟩, 65) := ⟨⟨by decide +kernel, by decide +kernel⟩, List.mem_of_getElem? (i := 1681) (by decide +kernel), List.mem_of_getElem? (i := 2088) (by decide +kernel), List.mem_of_getElem? (i := 2089) (by decide +kernel)⟩
theorem lw_p70 : lw_okq (⟨"SumHouseModel", "must", "(I)V"⟩, 65) := ⟨⟨by decide +kernel, by decide +kernel⟩, List.mem_of_getElem? (i := 1681) (by decide +kernel), List.mem_of_getElem? (i := 2092) (by decide +kernel), List.mem_of_getElem? (i := 2093) (by decide +kernel)⟩
theorem lw_p71 : lw_okq (⟨"SumHouseModel", "valueE", "()LSumHouseModel$Thing;"⟩, 65) := ⟨⟨by decide +kernel, by decide +kernel⟩, List.mem_of_getElem? (i := 1681) (by decide +kernel), List.mem_of_getElem? (i := 2096) (by decide +kernel), List.mem_of_getElem? (i := 2097) (by decide +kernel)⟩
theorem lw_p72 : lw_okq (⟨"SumHouseModel", "valueU", "()LSumHouseModel$Thing;"⟩, 65) := ⟨⟨by decide +kernel, by decide +kernel⟩, List.mem_of_getElem? (i := 1681) (by decide +kernel), List.mem_of_getElem? (i := 2100) (by decide +kernel), List.mem_of_getElem? (i := 2101) (by decide +kernel)⟩
theorem lw_p73 : lw_okq (⟨"SumHouseModel", "valueW", "()LSumHouseModel$Thing;"⟩, 65) := ⟨⟨by decide +kernel, by decide +kernel⟩, List.mem_of_getElem? (i := 1681) (by decide +kernel), List.mem_of_getElem? (i := 2104) (by decide +kernel), List.mem_of_getElem? (i := 2105) (by decide +kernel)⟩
theorem lw_p74 : lw_okq (⟨"SumHouseModel", "valueB", "()LSumHouseModel$Thing;"⟩, 65) := ⟨⟨by decide +kernel, by decide +kernel⟩, List.mem_of_getElem? (i := 1681) (by decide +kernel), List.mem_of_getElem? (i := 2108) (by decide +kernel), List.mem_of_getElem? (i := 2109) (by decide +kernel)⟩
theorem lw_p75 : lw_okq (⟨"SumHouseModel", "choose", "()LSumHouseModel$Thing;"⟩, 65) := ⟨⟨by decide +kernel, by decide +kernel⟩, List.mem_of_getElem? (i := 1681) (by decide +kernel), List.mem_of_getElem? (i := 2112) (by decide +kernel), List.mem_of_getElem? (i := 2113) (by decide +kernel)⟩
theorem lw_p76 : lw_okq (⟨"SumHouseModel", "isLine", "(LSumHouseModel$Thing;)Z"⟩, 65) := ⟨⟨by decide +kernel, by decide +kernel⟩, List.mem_of_getElem? (i := 1681) (by decide +kernel), List.mem_of_getElem? (i := 2116) (by decide +kernel), List.mem_of_getElem? (i := 2117) (by decide +kernel)⟩
theorem lw_p77 : lw_okq (⟨"SumHouseModel", "number", "(LSumHouseModel$Thing;I)V"⟩, 65) := ⟨⟨by decide +kernel, by decide +kernel⟩, List.mem_of_getElem? (i := 1681) (by decide +kernel), List.mem_of_getElem? (i := 2131) (by decide +kernel), List.mem_of_getElem? (i := 2132) (by decide +kernel)⟩
theorem lw_p78 : lw_okq (⟨"SumHouseModel", "newB", "()LSumHouseModel$B;"⟩, 65) := ⟨⟨by decide +kernel, by decide +kernel⟩, List.mem_of_getElem? (i := 1681) (by decide +kernel), List.mem_of_getElem? (i := 2135) (by decide +kernel), List.mem_of_getElem? (i := 2136) (by decide +kernel)⟩
theorem lw_p79 : lw_okq (⟨"SumHouseModel", "factorial", "(LSumHouseModel$Thing;IIII)V"⟩, 65) := ⟨⟨by decide +kernel, by decide +kernel⟩, List.mem_of_getElem? (i := 1681) (by decide +kernel), List.mem_of_getElem? (i := 2163) (by decide +kernel), List.mem_of_getElem? (i := 2164) (by decide +kernel)⟩
def lw_privs_5 : List (MethodName × Nat) := [(⟨"SumHouseModel", "look", "()I"⟩, 65), (⟨"SumHouseModel", "readU", "()V"⟩, 65), (⟨"SumHouseModel", "readW", "()V"⟩, 65), (⟨"SumHouseModel", "readB", "()V"⟩, 65), (⟨"SumHouseModel", "fail", "(II)LSumHouseModel$Stop;"⟩, 65), (⟨"SumHouseModel", "bracket", "()V"⟩, 65), (⟨"SumHouseModel", "must", "(I)V"⟩, 65), (⟨"SumHouseModel", "valueE", "()LSumHouseModel$Thing;"⟩, 65), (⟨"SumHouseModel", "valueU", "()LSumHouseModel$Thing;"⟩, 65), (⟨"SumHouseModel", "valueW", "()LSumHouseModel$Thing;"⟩, 65), (⟨"SumHouseModel", "valueB", "()LSumHouseModel$Thing;"⟩, 65), (⟨"SumHouseModel", "choose", "()LSumHouseModel$Thing;"⟩, 65), (⟨"SumHouseModel", "isLine", "(LSumHouseModel$Thing;)Z"⟩, 65), (⟨"SumHouseModel", "number", "(LSumHouseModel$Thing;I)V"⟩, 65), (⟨"SumHouseModel", "newB", "()LSumHouseModel$B;"⟩, 65), (⟨"SumHouseModel", "factorial", "(LSumHouseModel$Thing;IIII)V"⟩, 65)]
theorem lw_r5 : ∀ q ∈ lw_privs_5, lw_okq q := List.forall_mem_cons.mpr ⟨lw_p64, List.forall_mem_cons.mpr ⟨lw_p65, List.forall_mem_cons.mpr ⟨lw_p66, List.forall_mem_cons.mpr ⟨lw_p67, List.forall_mem_cons.mpr ⟨lw_p68, List.forall_mem_cons.mpr ⟨lw_p69, List.forall_mem_cons.mpr ⟨lw_p70, List.forall_mem_cons.mpr ⟨lw_p71, List.forall_mem_cons.mpr ⟨lw_p72, List.forall_mem_cons.mpr ⟨lw_p73, List.forall_mem_cons.mpr ⟨lw_p74, List.forall_mem_cons.mpr ⟨lw_p75, List.forall_mem_cons.mpr ⟨lw_p76, List.forall_mem_cons.mpr ⟨lw_p77, List.forall_mem_cons.mpr ⟨lw_p78, List.forall_mem_cons.mpr ⟨lw_p79, fun _ h => absurd h List.not_mem_nil⟩⟩⟩⟩⟩⟩⟩⟩⟩⟩⟩⟩⟩⟩⟩⟩
theorem lw_p80 : lw_okq (⟨"SumHouseModel", "newThing", "()LSumHouseModel$Thing;"⟩, 65) := ⟨⟨by decide +kernel, by decide +kernel⟩, List.mem_of_getElem? (i := 1681) (by decide +kernel), List.mem_of_getElem? (i := 2187) (by decide +kernel), List.mem_of_getElem? (i := 2188) (by decide +kernel)⟩
theorem lw_p81 : lw_okq (⟨"SumHouseModel", "raiseText", "(LSumHouseModel$Thing;I)V"⟩, 65) := ⟨⟨by decide +kernel, by decide +kernel⟩, List.mem_of_getElem? (i := 1681) (by decide +kernel), List.mem_of_getElem? (i := 2193) (by decide +kernel), List.mem_of_getElem? (i := 2194) (by decide +kernel)⟩
theorem lw_p82 : lw_okq (⟨"SumHouseModel", "raise", "(LSumHouseModel$Thing;I)Z"⟩, 65) := ⟨⟨by decide +kernel, by decide +kernel⟩, List.mem_of_getElem? (i := 1681) (by decide +kernel), List.mem_of_getElem? (i := 2200) (by decide +kernel), List.mem_of_getElem? (i := 2201) (by decide +kernel)⟩
theorem lw_p83 : lw_okq (⟨"SumHouseModel", "times", "(LSumHouseModel$B;LSumHouseModel$B;LSumHouseModel$B;)V"⟩, 65) := ⟨⟨by decide +kernel, by decide +kernel⟩, List.mem_of_getElem? (i := 1681) (by decide +kernel), List.mem_of_getElem? (i := 2232) (by decide +kernel), List.mem_of_getElem? (i := 2233) (by decide +kernel)⟩
theorem lw_p84 : lw_okq (⟨"SumHouseModel", "newU", "()LSumHouseModel$U;"⟩, 65) := ⟨⟨by decide +kernel, by decide +kernel⟩, List.mem_of_getElem? (i := 1681) (by decide +kernel), List.mem_of_getElem? (i := 2236) (by decide +kernel), List.mem_of_getElem? (i := 2237) (by decide +kernel)⟩
theorem lw_p85 : lw_okq (⟨"SumHouseModel", "multiply", "(LSumHouseModel$Thing;LSumHouseModel$Thing;Z)Z"⟩, 65) := ⟨⟨by decide +kernel, by decide +kernel⟩, List.mem_of_getElem? (i := 1681) (by decide +kernel), List.mem_of_getElem? (i := 2286) (by decide +kernel), List.mem_of_getElem? (i := 2287) (by decide +kernel)⟩
theorem lw_p86 : lw_okq (⟨"SumHouseModel", "multiply", "(LSumHouseModel$B;LSumHouseModel$B;LSumHouseModel$B;LSumHouseModel$B;LSumHouseModel$B;LSumHouseModel$B;)V"⟩, 65) := ⟨⟨by decide +kernel, by decide +kernel⟩, List.mem_of_getElem? (i := 1681) (by decide +kernel), List.mem_of_getElem? (i := 2290) (by decide +kernel), List.mem_of_getElem? (i := 2291) (by decide +kernel)⟩
theorem lw_p87 : lw_okq (⟨"SumHouseModel", "cancel", "(LSumHouseModel$B;LSumHouseModel$B;)V"⟩, 65) := ⟨⟨by decide +kernel, by decide +kernel⟩, List.mem_of_getElem? (i := 1681) (by decide +kernel), List.mem_of_getElem? (i := 2294) (by decide +kernel), List.mem_of_getElem? (i := 2295) (by decide +kernel)⟩
theorem lw_p88 : lw_okq (⟨"SumHouseModel", "gcd", "(LSumHouseModel$B;LSumHouseModel$B;LSumHouseModel$B;)V"⟩, 65) := ⟨⟨by decide +kernel, by decide +kernel⟩, List.mem_of_getElem? (i := 1681) (by decide +kernel), List.mem_of_getElem? (i := 2298) (by decide +kernel), List.mem_of_getElem? (i := 2299) (by decide +kernel)⟩
theorem lw_p89 : lw_okq (⟨"SumHouseModel", "primitive", "(LSumHouseModel$B;LSumHouseModel$B;LSumHouseModel$U;)V"⟩, 65) := ⟨⟨by decide +kernel, by decide +kernel⟩, List.mem_of_getElem? (i := 1681) (by decide +kernel), List.mem_of_getElem? (i := 2302) (by decide +kernel), List.mem_of_getElem? (i := 2303) (by decide +kernel)⟩
theorem lw_p90 : lw_okq (⟨"SumHouseModel", "content", "(LSumHouseModel$U;LSumHouseModel$B;)V"⟩, 65) := ⟨⟨by decide +kernel, by decide +kernel⟩, List.mem_of_getElem? (i := 1681) (by decide +kernel), List.mem_of_getElem? (i := 2306) (by decide +kernel), List.mem_of_getElem? (i := 2307) (by decide +kernel)⟩
theorem lw_p91 : lw_okq (⟨"SumHouseModel", "gcd", "(LSumHouseModel$U;LSumHouseModel$U;LSumHouseModel$U;)V"⟩, 65) := ⟨⟨by decide +kernel, by decide +kernel⟩, List.mem_of_getElem? (i := 1681) (by decide +kernel), List.mem_of_getElem? (i := 2310) (by decide +kernel), List.mem_of_getElem? (i := 2311) (by decide +kernel)⟩
theorem lw_p92 : lw_okq (⟨"SumHouseModel", "monic", "(LSumHouseModel$U;)V"⟩, 65) := ⟨⟨by decide +kernel, by decide +kernel⟩, List.mem_of_getElem? (i := 1681) (by decide +kernel), List.mem_of_getElem? (i := 2318) (by decide +kernel), List.mem_of_getElem? (i := 2319) (by decide +kernel)⟩
theorem lw_p93 : lw_okq (⟨"SumHouseModel", "byU", "(LSumHouseModel$B;LSumHouseModel$B;LSumHouseModel$U;)V"⟩, 65) := ⟨⟨by decide +kernel, by decide +kernel⟩, List.mem_of_getElem? (i := 1681) (by decide +kernel), List.mem_of_getElem? (i := 2322) (by decide +kernel), List.mem_of_getElem? (i := 2323) (by decide +kernel)⟩
theorem lw_p94 : lw_okq (⟨"SumHouseModel", "exact", "(LSumHouseModel$U;LSumHouseModel$U;LSumHouseModel$U;)V"⟩, 65) := ⟨⟨by decide +kernel, by decide +kernel⟩, List.mem_of_getElem? (i := 1681) (by decide +kernel), List.mem_of_getElem? (i := 2326) (by decide +kernel), List.mem_of_getElem? (i := 2327) (by decide +kernel)⟩
theorem lw_p95 : lw_okq (⟨"SumHouseModel", "gcdK", "(LSumHouseModel$B;LSumHouseModel$B;LSumHouseModel$B;)V"⟩, 65) := ⟨⟨by decide +kernel, by decide +kernel⟩, List.mem_of_getElem? (i := 1681) (by decide +kernel), List.mem_of_getElem? (i := 2330) (by decide +kernel), List.mem_of_getElem? (i := 2331) (by decide +kernel)⟩
def lw_privs_6 : List (MethodName × Nat) := [(⟨"SumHouseModel", "newThing", "()LSumHouseModel$Thing;"⟩, 65), (⟨"SumHouseModel", "raiseText", "(LSumHouseModel$Thing;I)V"⟩, 65), (⟨"SumHouseModel", "raise", "(LSumHouseModel$Thing;I)Z"⟩, 65), (⟨"SumHouseModel", "times", "(LSumHouseModel$B;LSumHouseModel$B;LSumHouseModel$B;)V"⟩, 65), (⟨"SumHouseModel", "newU", "()LSumHouseModel$U;"⟩, 65), (⟨"SumHouseModel", "multiply", "(LSumHouseModel$Thing;LSumHouseModel$Thing;Z)Z"⟩, 65), (⟨"SumHouseModel", "multiply", "(LSumHouseModel$B;LSumHouseModel$B;LSumHouseModel$B;LSumHouseModel$B;LSumHouseModel$B;LSumHouseModel$B;)V"⟩, 65), (⟨"SumHouseModel", "cancel", "(LSumHouseModel$B;LSumHouseModel$B;)V"⟩, 65), (⟨"SumHouseModel", "gcd", "(LSumHouseModel$B;LSumHouseModel$B;LSumHouseModel$B;)V"⟩, 65), (⟨"SumHouseModel", "primitive", "(LSumHouseModel$B;LSumHouseModel$B;LSumHouseModel$U;)V"⟩, 65), (⟨"SumHouseModel", "content", "(LSumHouseModel$U;LSumHouseModel$B;)V"⟩, 65), (⟨"SumHouseModel", "gcd", "(LSumHouseModel$U;LSumHouseModel$U;LSumHouseModel$U;)V"⟩, 65), (⟨"SumHouseModel", "monic", "(LSumHouseModel$U;)V"⟩, 65), (⟨"SumHouseModel", "byU", "(LSumHouseModel$B;LSumHouseModel$B;LSumHouseModel$U;)V"⟩, 65), (⟨"SumHouseModel", "exact", "(LSumHouseModel$U;LSumHouseModel$U;LSumHouseModel$U;)V"⟩, 65), (⟨"SumHouseModel", "gcdK", "(LSumHouseModel$B;LSumHouseModel$B;LSumHouseModel$B;)V"⟩, 65)]
theorem lw_r6 : ∀ q ∈ lw_privs_6, lw_okq q := List.forall_mem_cons.mpr ⟨lw_p80, List.forall_mem_cons.mpr ⟨lw_p81, List.forall_mem_cons.mpr ⟨lw_p82, List.forall_mem_cons.mpr ⟨lw_p83, List.forall_mem_cons.mpr ⟨lw_p84, List.forall_mem_cons.mpr ⟨lw_p85, List.forall_mem_cons.mpr ⟨lw_p86, List.forall_mem_cons.mpr ⟨lw_p87, List.forall_mem_cons.mpr ⟨lw_p88, List.forall_mem_cons.mpr ⟨lw_p89, List.forall_mem_cons.mpr ⟨lw_p90, List.forall_mem_cons.mpr ⟨lw_p91, List.forall_mem_cons.mpr ⟨lw_p92, List.forall_mem_cons.mpr ⟨lw_p93, List.forall_mem_cons.mpr ⟨lw_p94, List.forall_mem_cons.mpr ⟨lw_p95, fun _ h => absurd h List.not_mem_nil⟩⟩⟩⟩⟩⟩⟩⟩⟩⟩⟩⟩⟩⟩⟩⟩
theorem lw_p96 : lw_okq (⟨"SumHouseModel", "through", "(LSumHouseModel$U;[II)V"⟩, 65) := ⟨⟨by decide +kernel, by decide +kernel⟩, List.mem_of_getElem? (i := 1681) (by decide +kernel), List.mem_of_getElem? (i := 2341) (by decide +kernel), List.mem_of_getElem? (i := 2342) (by decide +kernel)⟩
theorem lw_p97 : lw_okq (⟨"SumHouseModel", "divides", "(LSumHouseModel$B;LSumHouseModel$B;LSumHouseModel$B;)Z"⟩, 65) := ⟨⟨by decide +kernel, by decide +kernel⟩, List.mem_of_getElem? (i := 1681) (by decide +kernel), List.mem_of_getElem? (i := 2346) (by decide +kernel), List.mem_of_getElem? (i := 2347) (by decide +kernel)⟩
theorem lw_p98 : lw_okq (⟨"SumHouseModel", "timesU", "(LSumHouseModel$B;LSumHouseModel$B;LSumHouseModel$U;)V"⟩, 65) := ⟨⟨by decide +kernel, by decide +kernel⟩, List.mem_of_getElem? (i := 1681) (by decide +kernel), List.mem_of_getElem? (i := 2350) (by decide +kernel), List.mem_of_getElem? (i := 2351) (by decide +kernel)⟩
theorem lw_p99 : lw_okq (⟨"SumHouseModel", "mergeAll", "(LSumHouseModel$Thing;LSumHouseModel$Thing;I)V"⟩, 65) := ⟨⟨by decide +kernel, by decide +kernel⟩, List.mem_of_getElem? (i := 1681) (by decide +kernel), List.mem_of_getElem? (i := 2361) (by decide +kernel), List.mem_of_getElem? (i := 2362) (by decide +kernel)⟩
theorem lw_p100 : lw_okq (⟨"SumHouseModel", "add", "(LSumHouseModel$Thing;LSumHouseModel$Thing;Z)Z"⟩, 65) := ⟨⟨by decide +kernel, by decide +kernel⟩, List.mem_of_getElem? (i := 1681) (by decide +kernel), List.mem_of_getElem? (i := 2365) (by decide +kernel), List.mem_of_getElem? (i := 2366) (by decide +kernel)⟩
theorem lw_p101 : lw_okq (⟨"SumHouseModel", "sum", "(LSumHouseModel$B;LSumHouseModel$B;LSumHouseModel$B;LSumHouseModel$B;LSumHouseModel$B;LSumHouseModel$B;Z)V"⟩, 65) := ⟨⟨by decide +kernel, by decide +kernel⟩, List.mem_of_getElem? (i := 1681) (by decide +kernel), List.mem_of_getElem? (i := 2369) (by decide +kernel), List.mem_of_getElem? (i := 2370) (by decide +kernel)⟩
theorem lw_p102 : lw_okq (⟨"SumHouseModel", "keep", "(I)I"⟩, 65) := ⟨⟨by decide +kernel, by decide +kernel⟩, List.mem_of_getElem? (i := 1681) (by decide +kernel), List.mem_of_getElem? (i := 2379) (by decide +kernel), List.mem_of_getElem? (i := 2380) (by decide +kernel)⟩
theorem lw_p103 : lw_okq (⟨"SumHouseModel", "sayRatio", "(LSumHouseModel$Thing;)V"⟩, 65) := ⟨⟨by decide +kernel, by decide +kernel⟩, List.mem_of_getElem? (i := 1681) (by decide +kernel), List.mem_of_getElem? (i := 2391) (by decide +kernel), List.mem_of_getElem? (i := 2392) (by decide +kernel)⟩
theorem lw_p104 : lw_okq (⟨"SumHouseModel", "say", "(I)V"⟩, 65) := ⟨⟨by decide +kernel, by decide +kernel⟩, List.mem_of_getElem? (i := 1681) (by decide +kernel), List.mem_of_getElem? (i := 2395) (by decide +kernel), List.mem_of_getElem? (i := 2396) (by decide +kernel)⟩
theorem lw_p105 : lw_okq (⟨"SumHouseModel", "sayCells", "([I)V"⟩, 65) := ⟨⟨by decide +kernel, by decide +kernel⟩, List.mem_of_getElem? (i := 1681) (by decide +kernel), List.mem_of_getElem? (i := 2399) (by decide +kernel), List.mem_of_getElem? (i := 2400) (by decide +kernel)⟩
theorem lw_p106 : lw_okq (⟨"SumHouseModel", "sayPart", "(III)V"⟩, 65) := ⟨⟨by decide +kernel, by decide +kernel⟩, List.mem_of_getElem? (i := 1681) (by decide +kernel), List.mem_of_getElem? (i := 2403) (by decide +kernel), List.mem_of_getElem? (i := 2404) (by decide +kernel)⟩
theorem lw_p107 : lw_okq (⟨"SumHouseModel", "sayNumber", "(J)V"⟩, 65) := ⟨⟨by decide +kernel, by decide +kernel⟩, List.mem_of_getElem? (i := 1681) (by decide +kernel), List.mem_of_getElem? (i := 2407) (by decide +kernel), List.mem_of_getElem? (i := 2408) (by decide +kernel)⟩
theorem lw_p108 : lw_okq (⟨"SumHouseModel", "sayLetter", "(IIZ)V"⟩, 65) := ⟨⟨by decide +kernel, by decide +kernel⟩, List.mem_of_getElem? (i := 1681) (by decide +kernel), List.mem_of_getElem? (i := 2411) (by decide +kernel), List.mem_of_getElem? (i := 2412) (by decide +kernel)⟩
theorem lw_p109 : lw_okq (⟨"SumHouseModel", "sayBase", "(II)V"⟩, 65) := ⟨⟨by decide +kernel, by decide +kernel⟩, List.mem_of_getElem? (i := 1681) (by decide +kernel), List.mem_of_getElem? (i := 2415) (by decide +kernel), List.mem_of_getElem? (i := 2416) (by decide +kernel)⟩
theorem lw_p110 : lw_okq (⟨"SumHouseModel", "sayLine", "(III)V"⟩, 65) := ⟨⟨by decide +kernel, by decide +kernel⟩, List.mem_of_getElem? (i := 1681) (by decide +kernel), List.mem_of_getElem? (i := 2419) (by decide +kernel), List.mem_of_getElem? (i := 2420) (by decide +kernel)⟩
theorem lw_p111 : lw_okq (⟨"SumHouseModel", "quotient", "(LSumHouseModel$B;LSumHouseModel$B;LSumHouseModel$Thing;II)Z"⟩, 65) := ⟨⟨by decide +kernel, by decide +kernel⟩, List.mem_of_getElem? (i := 1681) (by decide +kernel), List.mem_of_getElem? (i := 2469) (by decide +kernel), List.mem_of_getElem? (i := 2470) (by decide +kernel)⟩
def lw_privs_7 : List (MethodName × Nat) := [(⟨"SumHouseModel", "through", "(LSumHouseModel$U;[II)V"⟩, 65), (⟨"SumHouseModel", "divides", "(LSumHouseModel$B;LSumHouseModel$B;LSumHouseModel$B;)Z"⟩, 65), (⟨"SumHouseModel", "timesU", "(LSumHouseModel$B;LSumHouseModel$B;LSumHouseModel$U;)V"⟩, 65), (⟨"SumHouseModel", "mergeAll", "(LSumHouseModel$Thing;LSumHouseModel$Thing;I)V"⟩, 65), (⟨"SumHouseModel", "add", "(LSumHouseModel$Thing;LSumHouseModel$Thing;Z)Z"⟩, 65), (⟨"SumHouseModel", "sum", "(LSumHouseModel$B;LSumHouseModel$B;LSumHouseModel$B;LSumHouseModel$B;LSumHouseModel$B;LSumHouseModel$B;Z)V"⟩, 65), (⟨"SumHouseModel", "keep", "(I)I"⟩, 65), (⟨"SumHouseModel", "sayRatio", "(LSumHouseModel$Thing;)V"⟩, 65), (⟨"SumHouseModel", "say", "(I)V"⟩, 65), (⟨"SumHouseModel", "sayCells", "([I)V"⟩, 65), (⟨"SumHouseModel", "sayPart", "(III)V"⟩, 65), (⟨"SumHouseModel", "sayNumber", "(J)V"⟩, 65), (⟨"SumHouseModel", "sayLetter", "(IIZ)V"⟩, 65), (⟨"SumHouseModel", "sayBase", "(II)V"⟩, 65), (⟨"SumHouseModel", "sayLine", "(III)V"⟩, 65), (⟨"SumHouseModel", "quotient", "(LSumHouseModel$B;LSumHouseModel$B;LSumHouseModel$Thing;II)Z"⟩, 65)]
theorem lw_r7 : ∀ q ∈ lw_privs_7, lw_okq q := List.forall_mem_cons.mpr ⟨lw_p96, List.forall_mem_cons.mpr ⟨lw_p97, List.forall_mem_cons.mpr ⟨lw_p98, List.forall_mem_cons.mpr ⟨lw_p99, List.forall_mem_cons.mpr ⟨lw_p100, List.forall_mem_cons.mpr ⟨lw_p101, List.forall_mem_cons.mpr ⟨lw_p102, List.forall_mem_cons.mpr ⟨lw_p103, List.forall_mem_cons.mpr ⟨lw_p104, List.forall_mem_cons.mpr ⟨lw_p105, List.forall_mem_cons.mpr ⟨lw_p106, List.forall_mem_cons.mpr ⟨lw_p107, List.forall_mem_cons.mpr ⟨lw_p108, List.forall_mem_cons.mpr ⟨lw_p109, List.forall_mem_cons.mpr ⟨lw_p110, List.forall_mem_cons.mpr ⟨lw_p111, fun _ h => absurd h List.not_mem_nil⟩⟩⟩⟩⟩⟩⟩⟩⟩⟩⟩⟩⟩⟩⟩⟩
theorem lw_p112 : lw_okq (⟨"SumHouseModel", "lineFactor", "(IIII)V"⟩, 65) := ⟨⟨by decide +kernel, by decide +kernel⟩, List.mem_of_getElem? (i := 1681) (by decide +kernel), List.mem_of_getElem? (i := 2473) (by decide +kernel), List.mem_of_getElem? (i := 2474) (by decide +kernel)⟩
theorem lw_p113 : lw_okq (⟨"SumHouseModel", "lineInto", "(LSumHouseModel$B;LSumHouseModel$B;I)Z"⟩, 65) := ⟨⟨by decide +kernel, by decide +kernel⟩, List.mem_of_getElem? (i := 1681) (by decide +kernel), List.mem_of_getElem? (i := 2486) (by decide +kernel), List.mem_of_getElem? (i := 2487) (by decide +kernel)⟩
theorem lw_p114 : lw_okq (⟨"SumHouseModel", "resultant", "(LSumHouseModel$B;LSumHouseModel$B;LSumHouseModel$B;Z)Z"⟩, 65) := ⟨⟨by decide +kernel, by decide +kernel⟩, List.mem_of_getElem? (i := 1681) (by decide +kernel), List.mem_of_getElem? (i := 2497) (by decide +kernel), List.mem_of_getElem? (i := 2498) (by decide +kernel)⟩
theorem lw_p115 : lw_okq (⟨"SumHouseModel", "sylvester", "(LSumHouseModel$B;LSumHouseModel$B;III)I"⟩, 65) := ⟨⟨by decide +kernel, by decide +kernel⟩, List.mem_of_getElem? (i := 1681) (by decide +kernel), List.mem_of_getElem? (i := 2504) (by decide +kernel), List.mem_of_getElem? (i := 2505) (by decide +kernel)⟩
theorem lw_p116 : lw_okq (⟨"SumHouseModel", "moved", "(ILSumHouseModel$B;LSumHouseModel$B;II)I"⟩, 65) := ⟨⟨by decide +kernel, by decide +kernel⟩, List.mem_of_getElem? (i := 1681) (by decide +kernel), List.mem_of_getElem? (i := 2512) (by decide +kernel), List.mem_of_getElem? (i := 2513) (by decide +kernel)⟩
theorem lw_p117 : lw_okq (⟨"SumHouseModel", "fixed", "(LSumHouseModel$B;LSumHouseModel$B;IZ)V"⟩, 65) := ⟨⟨by decide +kernel, by decide +kernel⟩, List.mem_of_getElem? (i := 1681) (by decide +kernel), List.mem_of_getElem? (i := 2518) (by decide +kernel), List.mem_of_getElem? (i := 2519) (by decide +kernel)⟩
theorem lw_p118 : lw_okq (⟨"SumHouseModel", "reduce", "(LSumHouseModel$B;LSumHouseModel$B;)V"⟩, 65) := ⟨⟨by decide +kernel, by decide +kernel⟩, List.mem_of_getElem? (i := 1681) (by decide +kernel), List.mem_of_getElem? (i := 2522) (by decide +kernel), List.mem_of_getElem? (i := 2523) (by decide +kernel)⟩
theorem lw_p119 : lw_okq (⟨"SumHouseModel", "derivative", "(LSumHouseModel$B;LSumHouseModel$B;LSumHouseModel$B;LSumHouseModel$B;Z)V"⟩, 65) := ⟨⟨by decide +kernel, by decide +kernel⟩, List.mem_of_getElem? (i := 1681) (by decide +kernel), List.mem_of_getElem? (i := 2526) (by decide +kernel), List.mem_of_getElem? (i := 2527) (by decide +kernel)⟩
theorem lw_p120 : lw_okq (⟨"SumHouseModel", "valueAt", "(LSumHouseModel$Thing;II)I"⟩, 65) := ⟨⟨by decide +kernel, by decide +kernel⟩, List.mem_of_getElem? (i := 1681) (by decide +kernel), List.mem_of_getElem? (i := 2537) (by decide +kernel), List.mem_of_getElem? (i := 2538) (by decide +kernel)⟩
theorem lw_p121 : lw_okq (⟨"SumHouseModel", "ratioAt", "(LSumHouseModel$Thing;II)I"⟩, 65) := ⟨⟨by decide +kernel, by decide +kernel⟩, List.mem_of_getElem? (i := 1681) (by decide +kernel), List.mem_of_getElem? (i := 2541) (by decide +kernel), List.mem_of_getElem? (i := 2542) (by decide +kernel)⟩
theorem lw_p122 : lw_okq (⟨"SumHouseModel", "cells", "([III)I"⟩, 65) := ⟨⟨by decide +kernel, by decide +kernel⟩, List.mem_of_getElem? (i := 1681) (by decide +kernel), List.mem_of_getElem? (i := 2545) (by decide +kernel), List.mem_of_getElem? (i := 2546) (by decide +kernel)⟩
theorem lw_p123 : lw_okq (⟨"SumHouseModel", "factorialOf", "(I)I"⟩, 65) := ⟨⟨by decide +kernel, by decide +kernel⟩, List.mem_of_getElem? (i := 1681) (by decide +kernel), List.mem_of_getElem? (i := 2552) (by decide +kernel), List.mem_of_getElem? (i := 2553) (by decide +kernel)⟩
theorem lw_p124 : lw_okq (⟨"SumHouseModel", "sumOf", "(LSumHouseModel$Thing;III)I"⟩, 65) := ⟨⟨by decide +kernel, by decide +kernel⟩, List.mem_of_getElem? (i := 1681) (by decide +kernel), List.mem_of_getElem? (i := 2560) (by decide +kernel), List.mem_of_getElem? (i := 2561) (by decide +kernel)⟩
theorem lw_p125 : lw_okq (⟨"SumHouseModel", "form", "(LSumHouseModel$B;LSumHouseModel$B;)Z"⟩, 65) := ⟨⟨by decide +kernel, by decide +kernel⟩, List.mem_of_getElem? (i := 1681) (by decide +kernel), List.mem_of_getElem? (i := 2568) (by decide +kernel), List.mem_of_getElem? (i := 2569) (by decide +kernel)⟩
theorem lw_p126 : lw_okq (⟨"SumHouseModel", "depth", "(I)I"⟩, 65) := ⟨⟨by decide +kernel, by decide +kernel⟩, List.mem_of_getElem? (i := 1681) (by decide +kernel), List.mem_of_getElem? (i := 2576) (by decide +kernel), List.mem_of_getElem? (i := 2577) (by decide +kernel)⟩
theorem lw_p127 : lw_okq (⟨"SumHouseModel", "lay", "(I[LSumHouseModel$B;I)I"⟩, 65) := ⟨⟨by decide +kernel, by decide +kernel⟩, List.mem_of_getElem? (i := 1681) (by decide +kernel), List.mem_of_getElem? (i := 2584) (by decide +kernel), List.mem_of_getElem? (i := 2585) (by decide +kernel)⟩
def lw_privs_8 : List (MethodName × Nat) := [(⟨"SumHouseModel", "lineFactor", "(IIII)V"⟩, 65), (⟨"SumHouseModel", "lineInto", "(LSumHouseModel$B;LSumHouseModel$B;I)Z"⟩, 65), (⟨"SumHouseModel", "resultant", "(LSumHouseModel$B;LSumHouseModel$B;LSumHouseModel$B;Z)Z"⟩, 65), (⟨"SumHouseModel", "sylvester", "(LSumHouseModel$B;LSumHouseModel$B;III)I"⟩, 65), (⟨"SumHouseModel", "moved", "(ILSumHouseModel$B;LSumHouseModel$B;II)I"⟩, 65), (⟨"SumHouseModel", "fixed", "(LSumHouseModel$B;LSumHouseModel$B;IZ)V"⟩, 65), (⟨"SumHouseModel", "reduce", "(LSumHouseModel$B;LSumHouseModel$B;)V"⟩, 65), (⟨"SumHouseModel", "derivative", "(LSumHouseModel$B;LSumHouseModel$B;LSumHouseModel$B;LSumHouseModel$B;Z)V"⟩, 65), (⟨"SumHouseModel", "valueAt", "(LSumHouseModel$Thing;II)I"⟩, 65), (⟨"SumHouseModel", "ratioAt", "(LSumHouseModel$Thing;II)I"⟩, 65), (⟨"SumHouseModel", "cells", "([III)I"⟩, 65), (⟨"SumHouseModel", "factorialOf", "(I)I"⟩, 65), (⟨"SumHouseModel", "sumOf", "(LSumHouseModel$Thing;III)I"⟩, 65), (⟨"SumHouseModel", "form", "(LSumHouseModel$B;LSumHouseModel$B;)Z"⟩, 65), (⟨"SumHouseModel", "depth", "(I)I"⟩, 65), (⟨"SumHouseModel", "lay", "(I[LSumHouseModel$B;I)I"⟩, 65)]
theorem lw_r8 : ∀ q ∈ lw_privs_8, lw_okq q := List.forall_mem_cons.mpr ⟨lw_p112, List.forall_mem_cons.mpr ⟨lw_p113, List.forall_mem_cons.mpr ⟨lw_p114, List.forall_mem_cons.mpr ⟨lw_p115, List.forall_mem_cons.mpr ⟨lw_p116, List.forall_mem_cons.mpr ⟨lw_p117, List.forall_mem_cons.mpr ⟨lw_p118, List.forall_mem_cons.mpr ⟨lw_p119, List.forall_mem_cons.mpr ⟨lw_p120, List.forall_mem_cons.mpr ⟨lw_p121, List.forall_mem_cons.mpr ⟨lw_p122, List.forall_mem_cons.mpr ⟨lw_p123, List.forall_mem_cons.mpr ⟨lw_p124, List.forall_mem_cons.mpr ⟨lw_p125, List.forall_mem_cons.mpr ⟨lw_p126, List.forall_mem_cons.mpr ⟨lw_p127, fun _ h => absurd h List.not_mem_nil⟩⟩⟩⟩⟩⟩⟩⟩⟩⟩⟩⟩⟩⟩⟩⟩
theorem lw_p128 : lw_okq (⟨"SumHouseModel", "column", "(ILSumHouseModel$B;Z)V"⟩, 65) := ⟨⟨by decide +kernel, by decide +kernel⟩, List.mem_of_getElem? (i := 1681) (by decide +kernel), List.mem_of_getElem? (i := 2588) (by decide +kernel), List.mem_of_getElem? (i := 2589) (by decide +kernel)⟩
theorem lw_p129 : lw_okq (⟨"SumHouseModel", "clear", "(I)LSumHouseModel$U;"⟩, 65) := ⟨⟨by decide +kernel, by decide +kernel⟩, List.mem_of_getElem? (i := 1681) (by decide +kernel), List.mem_of_getElem? (i := 2592) (by decide +kernel), List.mem_of_getElem? (i := 2593) (by decide +kernel)⟩
theorem lw_p130 : lw_okq (⟨"SumHouseModel", "solveBy", "(IILSumHouseModel$U;)V"⟩, 65) := ⟨⟨by decide +kernel, by decide +kernel⟩, List.mem_of_getElem? (i := 1681) (by decide +kernel), List.mem_of_getElem? (i := 2596) (by decide +kernel), List.mem_of_getElem? (i := 2597) (by decide +kernel)⟩
theorem lw_p131 : lw_okq (⟨"SumHouseModel", "certificate", "(LSumHouseModel$B;LSumHouseModel$B;ILSumHouseModel$U;LSumHouseModel$U;LSumHouseModel$B;)Z"⟩, 65) := ⟨⟨by decide +kernel, by decide +kernel⟩, List.mem_of_getElem? (i := 1681) (by decide +kernel), List.mem_of_getElem? (i := 2600) (by decide +kernel), List.mem_of_getElem? (i := 2601) (by decide +kernel)⟩
theorem lw_p132 : lw_okq (⟨"SumHouseModel", "recurAt", "(ILSumHouseModel$B;LSumHouseModel$B;LSumHouseModel$B;)I"⟩, 65) := ⟨⟨by decide +kernel, by decide +kernel⟩, List.mem_of_getElem? (i := 1681) (by decide +kernel), List.mem_of_getElem? (i := 2608) (by decide +kernel), List.mem_of_getElem? (i := 2609) (by decide +kernel)⟩
theorem lw_p133 : lw_okq (⟨"SumHouseModel", "part", "(LSumHouseModel$B;LSumHouseModel$U;ILSumHouseModel$B;)Z"⟩, 65) := ⟨⟨by decide +kernel, by decide +kernel⟩, List.mem_of_getElem? (i := 1681) (by decide +kernel), List.mem_of_getElem? (i := 2612) (by decide +kernel), List.mem_of_getElem? (i := 2613) (by decide +kernel)⟩
theorem lw_p134 : lw_okq (⟨"SumHouseModel", "makeRecord", "(IILSumHouseModel$B;)Z"⟩, 65) := ⟨⟨by decide +kernel, by decide +kernel⟩, List.mem_of_getElem? (i := 1681) (by decide +kernel), List.mem_of_getElem? (i := 2616) (by decide +kernel), List.mem_of_getElem? (i := 2617) (by decide +kernel)⟩
theorem lw_p135 : lw_okq (⟨"SumHouseModel", "keepRecord", "(I)I"⟩, 65) := ⟨⟨by decide +kernel, by decide +kernel⟩, List.mem_of_getElem? (i := 1681) (by decide +kernel), List.mem_of_getElem? (i := 2623) (by decide +kernel), List.mem_of_getElem? (i := 2624) (by decide +kernel)⟩
theorem lw_p136 : lw_okq (⟨"SumHouseModel", "isRight", "(LSumHouseModel$Thing;IILSumHouseModel$B;LSumHouseModel$B;LSumHouseModel$B;LSumHouseModel$B;)Z"⟩, 65) := ⟨⟨by decide +kernel, by decide +kernel⟩, List.mem_of_getElem? (i := 1681) (by decide +kernel), List.mem_of_getElem? (i := 2635) (by decide +kernel), List.mem_of_getElem? (i := 2636) (by decide +kernel)⟩
theorem lw_p137 : lw_okq (⟨"SumHouseModel", "makeRow", "([LSumHouseModel$U;I)Z"⟩, 65) := ⟨⟨by decide +kernel, by decide +kernel⟩, List.mem_of_getElem? (i := 1681) (by decide +kernel), List.mem_of_getElem? (i := 2660) (by decide +kernel), List.mem_of_getElem? (i := 2661) (by decide +kernel)⟩
theorem lw_p138 : lw_okq (⟨"SumHouseModel", "simple", "(LSumHouseModel$Thing;Z)V"⟩, 65) := ⟨⟨by decide +kernel, by decide +kernel⟩, List.mem_of_getElem? (i := 1681) (by decide +kernel), List.mem_of_getElem? (i := 2682) (by decide +kernel), List.mem_of_getElem? (i := 2683) (by decide +kernel)⟩
theorem lw_p139 : lw_okq (⟨"SumHouseModel", "combine", "(ILSumHouseModel$Thing;LSumHouseModel$Thing;I)I"⟩, 65) := ⟨⟨by decide +kernel, by decide +kernel⟩, List.mem_of_getElem? (i := 1681) (by decide +kernel), List.mem_of_getElem? (i := 2689) (by decide +kernel), List.mem_of_getElem? (i := 2690) (by decide +kernel)⟩
theorem lw_p140 : lw_okq (⟨"SumHouseModel", "unroll", "(LSumHouseModel$Thing;[[LSumHouseModel$U;[LSumHouseModel$U;)V"⟩, 65) := ⟨⟨by decide +kernel, by decide +kernel⟩, List.mem_of_getElem? (i := 1681) (by decide +kernel), List.mem_of_getElem? (i := 2693) (by decide +kernel), List.mem_of_getElem? (i := 2694) (by decide +kernel)⟩
theorem lw_p141 : lw_okq (⟨"SumHouseModel", "lighten", "([LSumHouseModel$U;LSumHouseModel$U;I)V"⟩, 65) := ⟨⟨by decide +kernel, by decide +kernel⟩, List.mem_of_getElem? (i := 1681) (by decide +kernel), List.mem_of_getElem? (i := 2697) (by decide +kernel), List.mem_of_getElem? (i := 2698) (by decide +kernel)⟩
theorem lw_p142 : lw_okq (⟨"SumHouseModel", "tries", "(II)Z"⟩, 65) := ⟨⟨by decide +kernel, by decide +kernel⟩, List.mem_of_getElem? (i := 1681) (by decide +kernel), List.mem_of_getElem? (i := 2713) (by decide +kernel), List.mem_of_getElem? (i := 2714) (by decide +kernel)⟩
theorem lw_p143 : lw_okq (⟨"SumHouseModel", "guessed", "(III)I"⟩, 65) := ⟨⟨by decide +kernel, by decide +kernel⟩, List.mem_of_getElem? (i := 1681) (by decide +kernel), List.mem_of_getElem? (i := 2717) (by decide +kernel), List.mem_of_getElem? (i := 2718) (by decide +kernel)⟩
def lw_privs_9 : List (MethodName × Nat) := [(⟨"SumHouseModel", "column", "(ILSumHouseModel$B;Z)V"⟩, 65), (⟨"SumHouseModel", "clear", "(I)LSumHouseModel$U;"⟩, 65), (⟨"SumHouseModel", "solveBy", "(IILSumHouseModel$U;)V"⟩, 65), (⟨"SumHouseModel", "certificate", "(LSumHouseModel$B;LSumHouseModel$B;ILSumHouseModel$U;LSumHouseModel$U;LSumHouseModel$B;)Z"⟩, 65), (⟨"SumHouseModel", "recurAt", "(ILSumHouseModel$B;LSumHouseModel$B;LSumHouseModel$B;)I"⟩, 65), (⟨"SumHouseModel", "part", "(LSumHouseModel$B;LSumHouseModel$U;ILSumHouseModel$B;)Z"⟩, 65), (⟨"SumHouseModel", "makeRecord", "(IILSumHouseModel$B;)Z"⟩, 65), (⟨"SumHouseModel", "keepRecord", "(I)I"⟩, 65), (⟨"SumHouseModel", "isRight", "(LSumHouseModel$Thing;IILSumHouseModel$B;LSumHouseModel$B;LSumHouseModel$B;LSumHouseModel$B;)Z"⟩, 65), (⟨"SumHouseModel", "makeRow", "([LSumHouseModel$U;I)Z"⟩, 65), (⟨"SumHouseModel", "simple", "(LSumHouseModel$Thing;Z)V"⟩, 65), (⟨"SumHouseModel", "combine", "(ILSumHouseModel$Thing;LSumHouseModel$Thing;I)I"⟩, 65), (⟨"SumHouseModel", "unroll", "(LSumHouseModel$Thing;[[LSumHouseModel$U;[LSumHouseModel$U;)V"⟩, 65), (⟨"SumHouseModel", "lighten", "([LSumHouseModel$U;LSumHouseModel$U;I)V"⟩, 65), (⟨"SumHouseModel", "tries", "(II)Z"⟩, 65), (⟨"SumHouseModel", "guessed", "(III)I"⟩, 65)]
theorem lw_r9 : ∀ q ∈ lw_privs_9, lw_okq q := List.forall_mem_cons.mpr ⟨lw_p128, List.forall_mem_cons.mpr ⟨lw_p129, List.forall_mem_cons.mpr ⟨lw_p130, List.forall_mem_cons.mpr ⟨lw_p131, List.forall_mem_cons.mpr ⟨lw_p132, List.forall_mem_cons.mpr ⟨lw_p133, List.forall_mem_cons.mpr ⟨lw_p134, List.forall_mem_cons.mpr ⟨lw_p135, List.forall_mem_cons.mpr ⟨lw_p136, List.forall_mem_cons.mpr ⟨lw_p137, List.forall_mem_cons.mpr ⟨lw_p138, List.forall_mem_cons.mpr ⟨lw_p139, List.forall_mem_cons.mpr ⟨lw_p140, List.forall_mem_cons.mpr ⟨lw_p141, List.forall_mem_cons.mpr ⟨lw_p142, List.forall_mem_cons.mpr ⟨lw_p143, fun _ h => absurd h List.not_mem_nil⟩⟩⟩⟩⟩⟩⟩⟩⟩⟩⟩⟩⟩⟩⟩⟩
theorem lw_p144 : lw_okq (⟨"SumHouseModel", "powerOf", "(LSumHouseModel$U;LSumHouseModel$U;JLSumHouseModel$U;)V"⟩, 65) := ⟨⟨by decide +kernel, by decide +kernel⟩, List.mem_of_getElem? (i := 1681) (by decide +kernel), List.mem_of_getElem? (i := 2725) (by decide +kernel), List.mem_of_getElem? (i := 2726) (by decide +kernel)⟩
theorem lw_p145 : lw_okq (⟨"SumHouseModel", "split", "(LSumHouseModel$U;I)V"⟩, 65) := ⟨⟨by decide +kernel, by decide +kernel⟩, List.mem_of_getElem? (i := 1681) (by decide +kernel), List.mem_of_getElem? (i := 2729) (by decide +kernel), List.mem_of_getElem? (i := 2730) (by decide +kernel)⟩
theorem lw_p146 : lw_okq (⟨"SumHouseModel", "strip", "(LSumHouseModel$U;I)I"⟩, 65) := ⟨⟨by decide +kernel, by decide +kernel⟩, List.mem_of_getElem? (i := 1681) (by decide +kernel), List.mem_of_getElem? (i := 2742) (by decide +kernel), List.mem_of_getElem? (i := 2743) (by decide +kernel)⟩
def lw_privs_10 : List (MethodName × Nat) := [(⟨"SumHouseModel", "powerOf", "(LSumHouseModel$U;LSumHouseModel$U;JLSumHouseModel$U;)V"⟩, 65), (⟨"SumHouseModel", "split", "(LSumHouseModel$U;I)V"⟩, 65), (⟨"SumHouseModel", "strip", "(LSumHouseModel$U;I)I"⟩, 65)]
theorem lw_r10 : ∀ q ∈ lw_privs_10, lw_okq q := List.forall_mem_cons.mpr ⟨lw_p144, List.forall_mem_cons.mpr ⟨lw_p145, List.forall_mem_cons.mpr ⟨lw_p146, fun _ h => absurd h List.not_mem_nil⟩⟩⟩
def lw_privs : List (MethodName × Nat) := lw_privs_1 ++ (lw_privs_2 ++ (lw_privs_3 ++ (lw_privs_4 ++ (lw_privs_5 ++ (lw_privs_6 ++ (lw_privs_7 ++ (lw_privs_8 ++ (lw_privs_9 ++ (lw_privs_10)))))))))
def lw_tbl : List Cond := k2_sels lw_privs ++ tables_1
theorem lw_privs_ok : ∀ q ∈ lw_privs, lw_okq q := by
  show ∀ q ∈ lw_privs_1 ++ (lw_privs_2 ++ (lw_privs_3 ++ (lw_privs_4 ++ (lw_privs_5 ++ (lw_privs_6 ++ (lw_privs_7 ++ (lw_privs_8 ++ (lw_privs_9 ++ (lw_privs_10))))))))), lw_okq q
  exact List.forall_mem_append.mpr ⟨lw_r1, List.forall_mem_append.mpr ⟨lw_r2, List.forall_mem_append.mpr ⟨lw_r3, List.forall_mem_append.mpr ⟨lw_r4, List.forall_mem_append.mpr ⟨lw_r5, List.forall_mem_append.mpr ⟨lw_r6, List.forall_mem_append.mpr ⟨lw_r7, List.forall_mem_append.mpr ⟨lw_r8, List.forall_mem_append.mpr ⟨lw_r9, lw_r10⟩⟩⟩⟩⟩⟩⟩⟩⟩

/-! ===== BEGIN words of one list among another's, by their places ===== -/
theorem goodIn_r {big : List Cond} (ws : List Cond) (ps : List Nat) (hp : ws = ps.filterMap (fun i => big[i]?)) (h : ws.all goodWord = true) : GoodIn big ws := by
  intro w hw
  have h1 := List.all_eq_true.mp h w hw
  rw [hp] at hw
  obtain ⟨i, -, hi⟩ := List.mem_filterMap.mp hw
  have hm : w ∈ big := by first | exact List.mem_of_getElem? hi | exact List.getElem?_mem hi
  exact ⟨hm, good_of_word h1⟩
theorem goodIn_app {big a b : List Cond} (ha : GoodIn big a) (hb : GoodIn big b) : GoodIn big (a ++ b) := fun w h => (List.mem_append.mp h).elim (ha w) (hb w)
theorem goodIn_ca {big a b : List Cond} {c : Cond} (ha : GoodIn big (c :: a)) (hb : GoodIn big b) : GoodIn big (c :: (a ++ b)) := fun w h => (List.mem_cons.mp h).elim (fun e => ha w (List.mem_cons.mpr (Or.inl e))) (fun h => (List.mem_append.mp h).elim (fun h => ha w (List.mem_cons.mpr (Or.inr h))) (hb w))
theorem goodIn_sub {big ws : List Cond} (hm : ∀ w ∈ ws, w ∈ big) (h : ws.all goodWord = true) : GoodIn big ws := fun w hw => ⟨hm w hw, good_of_word (List.all_eq_true.mp h w hw)⟩
/-! ===== END ===== -/
end
section
/-! names of the classes and methods of this program (rows of the printed names), and the words -/
def RX0 : String := "SumHouse$Divisors"
def TX0 : u_T := fun k => match k with
  | 0 => ("SumHouse$Divisors", "room", "LSumHouse$Room;", true)
  | 1 => ("SumHouse$Divisors", "planes", "LSumHouse$Planes;", true)
  | 2 => ("SumHouse$Divisors", "from", "[I", true)
  | 3 => ("SumHouse$Divisors", "degrees", "[I", true)
  | _ => ("SumHouse$Divisors", "once", "[I", true)
def tyX0 : Nat → FieldType := fun k => match k with
  | 0 => .object "SumHouse$Room"
  | 1 => .object "SumHouse$Planes"
  | 2 => .array .int
  | 3 => .array .int
  | _ => .array .int
abbrev wsX00 : List Cond := u_ws RX0 TX0 5
theorem nmX0 : ∀ a, a < 5 → ∀ b, b < 5 → a ≠ b → (TX0 a).2.1 ≠ (TX0 b).2.1 := by decide +kernel
theorem tyX0_ok : ∀ k, k < 5 → parseFieldDescriptor (TX0 k).2.2.1 = some (tyX0 k) := by decide +kernel
def RX1 : String := "SumHouse$Numbers"
def TX1 : u_T := fun k => match k with
  | _ => ("", "", "", false)
def tyX1 : Nat → FieldType := fun k => match k with
  | _ => .int
abbrev wsX10 : List Cond := u_ws RX1 TX1 0
theorem nmX1 : ∀ a, a < 0 → ∀ b, b < 0 → a ≠ b → (TX1 a).2.1 ≠ (TX1 b).2.1 := by decide +kernel
theorem tyX1_ok : ∀ k, k < 0 → parseFieldDescriptor (TX1 k).2.2.1 = some (tyX1 k) := by decide +kernel
def RX2 : String := "SumHouse$Planes"
def TX2 : u_T := fun k => match k with
  | _ => ("SumHouse$Planes", "room", "LSumHouse$Room;", true)
def tyX2 : Nat → FieldType := fun k => match k with
  | _ => .object "SumHouse$Room"
abbrev wsX20 : List Cond := u_ws RX2 TX2 1
theorem nmX2 : ∀ a, a < 1 → ∀ b, b < 1 → a ≠ b → (TX2 a).2.1 ≠ (TX2 b).2.1 := by decide +kernel
theorem tyX2_ok : ∀ k, k < 1 → parseFieldDescriptor (TX2 k).2.2.1 = some (tyX2 k) := by decide +kernel
def RX3 : String := "SumHouse$Ratios"
def TX3 : u_T := fun k => match k with
  | 0 => ("SumHouse$Ratios", "room", "LSumHouse$Room;", true)
  | 1 => ("SumHouse$Ratios", "planes", "LSumHouse$Planes;", true)
  | _ => ("SumHouse$Ratios", "divisors", "LSumHouse$Divisors;", true)
def tyX3 : Nat → FieldType := fun k => match k with
  | 0 => .object "SumHouse$Room"
  | 1 => .object "SumHouse$Planes"
  | _ => .object "SumHouse$Divisors"
abbrev wsX30 : List Cond := u_ws RX3 TX3 3
theorem nmX3 : ∀ a, a < 3 → ∀ b, b < 3 → a ≠ b → (TX3 a).2.1 ≠ (TX3 b).2.1 := by decide +kernel
theorem tyX3_ok : ∀ k, k < 3 → parseFieldDescriptor (TX3 k).2.2.1 = some (tyX3 k) := by decide +kernel
def RX4 : String := "SumHouse$Room"
def TX4 : u_T := fun k => match k with
  | 0 => ("SumHouse$Room", "cells", "[I", true)
  | 1 => ("SumHouse$Room", "top", "I", false)
  | _ => ("SumHouse$Room", "full", "Z", false)
def tyX4 : Nat → FieldType := fun k => match k with
  | 0 => .array .int
  | 1 => .int
  | _ => .boolean
abbrev wsX40 : List Cond := u_ws RX4 TX4 3
theorem nmX4 : ∀ a, a < 3 → ∀ b, b < 3 → a ≠ b → (TX4 a).2.1 ≠ (TX4 b).2.1 := by decide +kernel
theorem tyX4_ok : ∀ k, k < 3 → parseFieldDescriptor (TX4 k).2.2.1 = some (tyX4 k) := by decide +kernel
def RX5 : String := "SumHouse$Sequences"
def TX5 : u_T := fun k => match k with
  | 0 => ("SumHouse$Sequences", "room", "LSumHouse$Room;", true)
  | 1 => ("SumHouse$Sequences", "planes", "LSumHouse$Planes;", true)
  | 2 => ("SumHouse$Sequences", "divisors", "LSumHouse$Divisors;", true)
  | 3 => ("SumHouse$Sequences", "solver", "LSumHouse$Solver;", true)
  | 4 => ("SumHouse$Sequences", "family", "[I", true)
  | 5 => ("SumHouse$Sequences", "mine", "[I", true)
  | 6 => ("SumHouse$Sequences", "other", "[I", true)
  | 7 => ("SumHouse$Sequences", "left", "[I", true)
  | _ => ("SumHouse$Sequences", "right", "[I", true)
def tyX5 : Nat → FieldType := fun k => match k with
  | 0 => .object "SumHouse$Room"
  | 1 => .object "SumHouse$Planes"
  | 2 => .object "SumHouse$Divisors"
  | 3 => .object "SumHouse$Solver"
  | 4 => .array .int
  | 5 => .array .int
  | 6 => .array .int
  | 7 => .array .int
  | _ => .array .int
abbrev wsX50 : List Cond := u_ws RX5 TX5 9
theorem nmX5 : ∀ a, a < 9 → ∀ b, b < 9 → a ≠ b → (TX5 a).2.1 ≠ (TX5 b).2.1 := by decide +kernel
theorem tyX5_ok : ∀ k, k < 9 → parseFieldDescriptor (TX5 k).2.2.1 = some (tyX5 k) := by decide +kernel
def RX6 : String := "SumHouse$Slot"
def TX6 : u_T := fun k => match k with
  | 0 => ("SumHouse$Slot", "kind", "I", false)
  | 1 => ("SumHouse$Slot", "x", "I", false)
  | 2 => ("SumHouse$Slot", "y", "I", false)
  | 3 => ("SumHouse$Slot", "factorials", "I", false)
  | 4 => ("SumHouse$Slot", "order", "I", false)
  | 5 => ("SumHouse$Slot", "needs", "I", false)
  | 6 => ("SumHouse$Slot", "has", "I", false)
  | 7 => ("SumHouse$Slot", "facts", "[I", true)
  | 8 => ("SumHouse$Slot", "above", "[I", true)
  | 9 => ("SumHouse$Slot", "below", "[I", true)
  | 10 => ("SumHouse$Slot", "steps", "[I", true)
  | _ => ("SumHouse$Slot", "firsts", "[I", true)
def tyX6 : Nat → FieldType := fun k => match k with
  | 0 => .int
  | 1 => .int
  | 2 => .int
  | 3 => .int
  | 4 => .int
  | 5 => .int
  | 6 => .int
  | 7 => .array .int
  | 8 => .array .int
  | 9 => .array .int
  | 10 => .array .int
  | _ => .array .int
abbrev wsX60 : List Cond := u_ws RX6 TX6 12
theorem nmX6 : ∀ a, a < 12 → ∀ b, b < 12 → a ≠ b → (TX6 a).2.1 ≠ (TX6 b).2.1 := by decide +kernel
theorem tyX6_ok : ∀ k, k < 12 → parseFieldDescriptor (TX6 k).2.2.1 = some (tyX6 k) := by decide +kernel
def RX7 : String := "SumHouse$Solver"
def TX7 : u_T := fun k => match k with
  | 0 => ("SumHouse$Solver", "room", "LSumHouse$Room;", true)
  | 1 => ("SumHouse$Solver", "matrix", "[I", true)
  | 2 => ("SumHouse$Solver", "order", "[I", true)
  | 3 => ("SumHouse$Solver", "pivots", "[I", true)
  | 4 => ("SumHouse$Solver", "rows", "I", false)
  | 5 => ("SumHouse$Solver", "cols", "I", false)
  | 6 => ("SumHouse$Solver", "from", "I", false)
  | 7 => ("SumHouse$Solver", "need", "I", false)
  | 8 => ("SumHouse$Solver", "points", "I", false)
  | 9 => ("SumHouse$Solver", "rank", "I", false)
  | 10 => ("SumHouse$Solver", "woven", "I", false)
  | 11 => ("SumHouse$Solver", "values", "I", false)
  | 12 => ("SumHouse$Solver", "done", "Z", false)
  | _ => ("SumHouse$Solver", "target", "I", false)
def tyX7 : Nat → FieldType := fun k => match k with
  | 0 => .object "SumHouse$Room"
  | 1 => .array .int
  | 2 => .array .int
  | 3 => .array .int
  | 4 => .int
  | 5 => .int
  | 6 => .int
  | 7 => .int
  | 8 => .int
  | 9 => .int
  | 10 => .int
  | 11 => .int
  | 12 => .boolean
  | _ => .int
abbrev wsX70 : List Cond := u_ws RX7 TX7 14
theorem nmX7 : ∀ a, a < 14 → ∀ b, b < 14 → a ≠ b → (TX7 a).2.1 ≠ (TX7 b).2.1 := by decide +kernel
theorem tyX7_ok : ∀ k, k < 14 → parseFieldDescriptor (TX7 k).2.2.1 = some (tyX7 k) := by decide +kernel
def RX8 : String := "SumHouse$Sums"
def TX8 : u_T := fun k => match k with
  | 0 => ("SumHouse$Sums", "room", "LSumHouse$Room;", true)
  | 1 => ("SumHouse$Sums", "planes", "LSumHouse$Planes;", true)
  | 2 => ("SumHouse$Sums", "divisors", "LSumHouse$Divisors;", true)
  | 3 => ("SumHouse$Sums", "ratios", "LSumHouse$Ratios;", true)
  | 4 => ("SumHouse$Sums", "terms", "LSumHouse$Terms;", true)
  | 5 => ("SumHouse$Sums", "solver", "LSumHouse$Solver;", true)
  | 6 => ("SumHouse$Sums", "formA", "I", false)
  | 7 => ("SumHouse$Sums", "formB", "I", false)
  | 8 => ("SumHouse$Sums", "formC", "I", false)
  | 9 => ("SumHouse$Sums", "quotient", "I", false)
  | 10 => ("SumHouse$Sums", "whole", "I", false)
  | 11 => ("SumHouse$Sums", "scaleAB", "I", false)
  | 12 => ("SumHouse$Sums", "depth", "I", false)
  | 13 => ("SumHouse$Sums", "steps", "[I", true)
  | 14 => ("SumHouse$Sums", "pieces", "[I", true)
  | 15 => ("SumHouse$Sums", "family", "[I", true)
  | 16 => ("SumHouse$Sums", "columns", "[I", true)
  | _ => ("SumHouse$Sums", "made", "I", false)
def tyX8 : Nat → FieldType := fun k => match k with
  | 0 => .object "SumHouse$Room"
  | 1 => .object "SumHouse$Planes"
  | 2 => .object "SumHouse$Divisors"
  | 3 => .object "SumHouse$Ratios"
  | 4 => .object "SumHouse$Terms"
  | 5 => .object "SumHouse$Solver"
  | 6 => .int
  | 7 => .int
  | 8 => .int
  | 9 => .int
  | 10 => .int
  | 11 => .int
  | 12 => .int
  | 13 => .array .int
  | 14 => .array .int
  | 15 => .array .int
  | 16 => .array .int
  | _ => .int
abbrev wsX80 : List Cond := u_ws RX8 TX8 18
theorem nmX8 : ∀ a, a < 18 → ∀ b, b < 18 → a ≠ b → (TX8 a).2.1 ≠ (TX8 b).2.1 := by decide +kernel
theorem tyX8_ok : ∀ k, k < 18 → parseFieldDescriptor (TX8 k).2.2.1 = some (tyX8 k) := by decide +kernel
def RX9 : String := "SumHouse$Terms"
def TX9 : u_T := fun k => match k with
  | 0 => ("SumHouse$Terms", "room", "LSumHouse$Room;", true)
  | 1 => ("SumHouse$Terms", "planes", "LSumHouse$Planes;", true)
  | 2 => ("SumHouse$Terms", "divisors", "LSumHouse$Divisors;", true)
  | 3 => ("SumHouse$Terms", "ratios", "LSumHouse$Ratios;", true)
  | 4 => ("SumHouse$Terms", "factorials", "[I", true)
  | 5 => ("SumHouse$Terms", "lines", "[I", true)
  | 6 => ("SumHouse$Terms", "upper", "I", false)
  | _ => ("SumHouse$Terms", "lower", "I", false)
def tyX9 : Nat → FieldType := fun k => match k with
  | 0 => .object "SumHouse$Room"
  | 1 => .object "SumHouse$Planes"
  | 2 => .object "SumHouse$Divisors"
  | 3 => .object "SumHouse$Ratios"
  | 4 => .array .int
  | 5 => .array .int
  | 6 => .int
  | _ => .int
abbrev wsX90 : List Cond := u_ws RX9 TX9 8
theorem nmX9 : ∀ a, a < 8 → ∀ b, b < 8 → a ≠ b → (TX9 a).2.1 ≠ (TX9 b).2.1 := by decide +kernel
theorem tyX9_ok : ∀ k, k < 8 → parseFieldDescriptor (TX9 k).2.2.1 = some (tyX9 k) := by decide +kernel
def RX10 : String := "SumHouse$Texts"
def TX10 : u_T := fun k => match k with
  | 0 => ("SumHouse$Texts", "terms", "LSumHouse$Terms;", true)
  | 1 => ("SumHouse$Texts", "tape", "[I", true)
  | 2 => ("SumHouse$Texts", "tapeCount", "I", false)
  | 3 => ("SumHouse$Texts", "written", "[I", true)
  | 4 => ("SumHouse$Texts", "writtenCount", "I", false)
  | 5 => ("SumHouse$Texts", "ink", "[I", true)
  | 6 => ("SumHouse$Texts", "inkCount", "I", false)
  | 7 => ("SumHouse$Texts", "codes", "[I", true)
  | 8 => ("SumHouse$Texts", "codeCount", "I", false)
  | 9 => ("SumHouse$Texts", "signs", "[I", true)
  | 10 => ("SumHouse$Texts", "signCount", "I", false)
  | 11 => ("SumHouse$Texts", "openCount", "I", false)
  | 12 => ("SumHouse$Texts", "state", "I", false)
  | 13 => ("SumHouse$Texts", "values", "[I", true)
  | 14 => ("SumHouse$Texts", "valueCount", "I", false)
  | 15 => ("SumHouse$Texts", "code", "I", false)
  | 16 => ("SumHouse$Texts", "left", "I", false)
  | 17 => ("SumHouse$Texts", "right", "I", false)
  | _ => ("SumHouse$Texts", "faultPlace", "I", false)
def tyX10 : Nat → FieldType := fun k => match k with
  | 0 => .object "SumHouse$Terms"
  | 1 => .array .int
  | 2 => .int
  | 3 => .array .int
  | 4 => .int
  | 5 => .array .int
  | 6 => .int
  | 7 => .array .int
  | 8 => .int
  | 9 => .array .int
  | 10 => .int
  | 11 => .int
  | 12 => .int
  | 13 => .array .int
  | 14 => .int
  | 15 => .int
  | 16 => .int
  | 17 => .int
  | _ => .int
abbrev wsX100 : List Cond := u_ws RX10 TX10 19
theorem nmX10 : ∀ a, a < 19 → ∀ b, b < 19 → a ≠ b → (TX10 a).2.1 ≠ (TX10 b).2.1 := by decide +kernel
theorem tyX10_ok : ∀ k, k < 19 → parseFieldDescriptor (TX10 k).2.2.1 = some (tyX10 k) := by decide +kernel
def RX11 : String := "SumHouse"
def TX11 : u_T := fun k => match k with
  | 0 => ("SumHouse", "slots", "[LSumHouse$Slot;", true)
  | 1 => ("SumHouse", "room", "LSumHouse$Room;", true)
  | 2 => ("SumHouse", "planes", "LSumHouse$Planes;", true)
  | 3 => ("SumHouse", "divisors", "LSumHouse$Divisors;", true)
  | 4 => ("SumHouse", "ratios", "LSumHouse$Ratios;", true)
  | 5 => ("SumHouse", "terms", "LSumHouse$Terms;", true)
  | 6 => ("SumHouse", "texts", "LSumHouse$Texts;", true)
  | 7 => ("SumHouse", "sums", "LSumHouse$Sums;", true)
  | 8 => ("SumHouse", "sequences", "LSumHouse$Sequences;", true)
  | 9 => ("SumHouse", "fed", "[I", true)
  | 10 => ("SumHouse", "fedCount", "I", false)
  | 11 => ("SumHouse", "found", "[I", true)
  | _ => ("SumHouse", "foundCount", "I", false)
def tyX11 : Nat → FieldType := fun k => match k with
  | 0 => .array (.object "SumHouse$Slot")
  | 1 => .object "SumHouse$Room"
  | 2 => .object "SumHouse$Planes"
  | 3 => .object "SumHouse$Divisors"
  | 4 => .object "SumHouse$Ratios"
  | 5 => .object "SumHouse$Terms"
  | 6 => .object "SumHouse$Texts"
  | 7 => .object "SumHouse$Sums"
  | 8 => .object "SumHouse$Sequences"
  | 9 => .array .int
  | 10 => .int
  | 11 => .array .int
  | _ => .int
abbrev wsX110 : List Cond := u_ws RX11 TX11 13
theorem nmX11 : ∀ a, a < 13 → ∀ b, b < 13 → a ≠ b → (TX11 a).2.1 ≠ (TX11 b).2.1 := by decide +kernel
theorem tyX11_ok : ∀ k, k < 13 → parseFieldDescriptor (TX11 k).2.2.1 = some (tyX11 k) := by decide +kernel
def RX12 : String := "SumHouseModel$B"
def TX12 : u_T := fun k => match k with
  | 0 => ("SumHouseModel$B", "r", "[LSumHouseModel$U;", true)
  | _ => ("SumHouseModel$B", "rows", "I", false)
def tyX12 : Nat → FieldType := fun k => match k with
  | 0 => .array (.object "SumHouseModel$U")
  | _ => .int
abbrev wsX120 : List Cond := u_ws RX12 TX12 2
theorem nmX12 : ∀ a, a < 2 → ∀ b, b < 2 → a ≠ b → (TX12 a).2.1 ≠ (TX12 b).2.1 := by decide +kernel
theorem tyX12_ok : ∀ k, k < 2 → parseFieldDescriptor (TX12 k).2.2.1 = some (tyX12 k) := by decide +kernel
def RX13 : String := "SumHouseModel$Stop"
def TX13 : u_T := fun k => match k with
  | 0 => ("java/lang/Throwable", "cause", "Ljava/lang/Throwable;", false)
  | 1 => ("java/lang/Throwable", "stackTrace", "[Ljava/lang/StackTraceElement;", false)
  | 2 => ("java/lang/Throwable", "suppressedExceptions", "Ljava/util/List;", false)
  | 3 => ("java/lang/Throwable", "detailMessage", "Ljava/lang/String;", false)
  | 4 => ("java/lang/Throwable", "backtrace", "Ljava/lang/Object;", false)
  | _ => ("java/lang/Throwable", "depth", "I", false)
def tyX13 : Nat → FieldType := fun k => match k with
  | 0 => .object "java/lang/Throwable"
  | 1 => .array (.object "java/lang/StackTraceElement")
  | 2 => .object "java/util/List"
  | 3 => .object "java/lang/String"
  | 4 => .object "java/lang/Object"
  | _ => .int
abbrev wsX130 : List Cond := u_ws RX13 TX13 6
theorem nmX13 : ∀ a, a < 6 → ∀ b, b < 6 → a ≠ b → (TX13 a).2.1 ≠ (TX13 b).2.1 := by decide +kernel
theorem tyX13_ok : ∀ k, k < 6 → parseFieldDescriptor (TX13 k).2.2.1 = some (tyX13 k) := by decide +kernel
def RX14 : String := "SumHouseModel$Thing"
def TX14 : u_T := fun k => match k with
  | 0 => ("SumHouseModel$Thing", "kind", "I", false)
  | 1 => ("SumHouseModel$Thing", "num", "[I", true)
  | 2 => ("SumHouseModel$Thing", "den", "[I", true)
  | 3 => ("SumHouseModel$Thing", "x", "I", false)
  | 4 => ("SumHouseModel$Thing", "y", "I", false)
  | 5 => ("SumHouseModel$Thing", "many", "I", false)
  | 6 => ("SumHouseModel$Thing", "fa", "[I", true)
  | 7 => ("SumHouseModel$Thing", "fb", "[I", true)
  | 8 => ("SumHouseModel$Thing", "fc", "[I", true)
  | 9 => ("SumHouseModel$Thing", "fe", "[I", true)
  | 10 => ("SumHouseModel$Thing", "order", "I", false)
  | 11 => ("SumHouseModel$Thing", "a", "[I", true)
  | 12 => ("SumHouseModel$Thing", "needs", "I", false)
  | 13 => ("SumHouseModel$Thing", "has", "I", false)
  | _ => ("SumHouseModel$Thing", "u", "[I", true)
def tyX14 : Nat → FieldType := fun k => match k with
  | 0 => .int
  | 1 => .array .int
  | 2 => .array .int
  | 3 => .int
  | 4 => .int
  | 5 => .int
  | 6 => .array .int
  | 7 => .array .int
  | 8 => .array .int
  | 9 => .array .int
  | 10 => .int
  | 11 => .array .int
  | 12 => .int
  | 13 => .int
  | _ => .array .int
abbrev wsX140 : List Cond := u_ws RX14 TX14 15
theorem nmX14 : ∀ a, a < 15 → ∀ b, b < 15 → a ≠ b → (TX14 a).2.1 ≠ (TX14 b).2.1 := by decide +kernel
theorem tyX14_ok : ∀ k, k < 15 → parseFieldDescriptor (TX14 k).2.2.1 = some (tyX14 k) := by decide +kernel
def RX15 : String := "SumHouseModel$U"
def TX15 : u_T := fun k => match k with
  | 0 => ("SumHouseModel$U", "c", "[I", true)
  | _ => ("SumHouseModel$U", "n", "I", false)
def tyX15 : Nat → FieldType := fun k => match k with
  | 0 => .array .int
  | _ => .int
abbrev wsX150 : List Cond := u_ws RX15 TX15 2
theorem nmX15 : ∀ a, a < 2 → ∀ b, b < 2 → a ≠ b → (TX15 a).2.1 ≠ (TX15 b).2.1 := by decide +kernel
theorem tyX15_ok : ∀ k, k < 2 → parseFieldDescriptor (TX15 k).2.2.1 = some (tyX15 k) := by decide +kernel
def RX16 : String := "SumHouseModel"
def TX16 : u_T := fun k => match k with
  | 0 => ("SumHouseModel", "us", "[LSumHouseModel$U;", true)
  | 1 => ("SumHouseModel", "ut", "I", false)
  | 2 => ("SumHouseModel", "bs", "[LSumHouseModel$B;", true)
  | 3 => ("SumHouseModel", "bt", "I", false)
  | 4 => ("SumHouseModel", "xs", "[I", true)
  | 5 => ("SumHouseModel", "ys", "[[I", true)
  | 6 => ("SumHouseModel", "spare", "LSumHouseModel$Thing;", true)
  | 7 => ("SumHouseModel", "done", "[Z", true)
  | 8 => ("SumHouseModel", "stop", "LSumHouseModel$Stop;", true)
  | 9 => ("SumHouseModel", "fault", "I", false)
  | 10 => ("SumHouseModel", "faultAt", "I", false)
  | 11 => ("SumHouseModel", "tape", "[B", true)
  | 12 => ("SumHouseModel", "length", "I", false)
  | 13 => ("SumHouseModel", "at", "I", false)
  | 14 => ("SumHouseModel", "open", "I", false)
  | 15 => ("SumHouseModel", "pile", "[LSumHouseModel$Thing;", true)
  | 16 => ("SumHouseModel", "piled", "I", false)
  | 17 => ("SumHouseModel", "la", "I", false)
  | 18 => ("SumHouseModel", "lb", "I", false)
  | 19 => ("SumHouseModel", "lc", "I", false)
  | 20 => ("SumHouseModel", "slots", "[LSumHouseModel$Thing;", true)
  | 21 => ("SumHouseModel", "made", "LSumHouseModel$Thing;", true)
  | 22 => ("SumHouseModel", "place", "I", false)
  | 23 => ("SumHouseModel", "out", "[B", true)
  | 24 => ("SumHouseModel", "outSize", "I", false)
  | 25 => ("SumHouseModel", "outWanted", "I", false)
  | 26 => ("SumHouseModel", "line", "[B", true)
  | 27 => ("SumHouseModel", "first", "Z", false)
  | 28 => ("SumHouseModel", "fed", "[I", true)
  | 29 => ("SumHouseModel", "fedCount", "I", false)
  | 30 => ("SumHouseModel", "rootOf", "[I", true)
  | 31 => ("SumHouseModel", "rootCount", "I", false)
  | 32 => ("SumHouseModel", "qa", "[I", true)
  | 33 => ("SumHouseModel", "qb", "[I", true)
  | 34 => ("SumHouseModel", "qc", "[I", true)
  | 35 => ("SumHouseModel", "qe", "[I", true)
  | 36 => ("SumHouseModel", "lines", "I", false)
  | 37 => ("SumHouseModel", "linesNumber", "I", false)
  | 38 => ("SumHouseModel", "rows", "[[I", true)
  | 39 => ("SumHouseModel", "formA", "LSumHouseModel$B;", false)
  | 40 => ("SumHouseModel", "formB", "LSumHouseModel$B;", false)
  | 41 => ("SumHouseModel", "formC", "LSumHouseModel$B;", false)
  | 42 => ("SumHouseModel", "alphaUp", "LSumHouseModel$U;", false)
  | 43 => ("SumHouseModel", "alphaDown", "LSumHouseModel$U;", false)
  | 44 => ("SumHouseModel", "board", "[[LSumHouseModel$U;", true)
  | 45 => ("SumHouseModel", "solution", "[LSumHouseModel$U;", true)
  | 46 => ("SumHouseModel", "isPivot", "[Z", true)
  | 47 => ("SumHouseModel", "pivotOf", "[I", true)
  | 48 => ("SumHouseModel", "boardRows", "I", false)
  | 49 => ("SumHouseModel", "parts", "[LSumHouseModel$B;", true)
  | 50 => ("SumHouseModel", "partDown", "[LSumHouseModel$U;", true)
  | 51 => ("SumHouseModel", "sNum", "[[I", true)
  | 52 => ("SumHouseModel", "sDen", "[[I", true)
  | 53 => ("SumHouseModel", "tops", "[LSumHouseModel$B;", true)
  | 54 => ("SumHouseModel", "unders", "[LSumHouseModel$B;", true)
  | 55 => ("SumHouseModel", "rowOf", "[LSumHouseModel$U;", true)
  | 56 => ("SumHouseModel", "ways", "[[LSumHouseModel$U;", true)
  | 57 => ("SumHouseModel", "others", "[[LSumHouseModel$U;", true)
  | 58 => ("SumHouseModel", "wayDown", "[LSumHouseModel$U;", true)
  | 59 => ("SumHouseModel", "otherDown", "[LSumHouseModel$U;", true)
  | 60 => ("SumHouseModel", "lineOf", "[[I", true)
  | 61 => ("SumHouseModel", "unknown", "[I", true)
  | 62 => ("SumHouseModel", "found", "[I", true)
  | 63 => ("SumHouseModel", "foundCount", "I", false)
  | _ => ("SumHouseModel", "howOften", "[I", true)
def tyX16 : Nat → FieldType := fun k => match k with
  | 0 => .array (.object "SumHouseModel$U")
  | 1 => .int
  | 2 => .array (.object "SumHouseModel$B")
  | 3 => .int
  | 4 => .array .int
  | 5 => .array (.array .int)
  | 6 => .object "SumHouseModel$Thing"
  | 7 => .array .boolean
  | 8 => .object "SumHouseModel$Stop"
  | 9 => .int
  | 10 => .int
  | 11 => .array .byte
  | 12 => .int
  | 13 => .int
  | 14 => .int
  | 15 => .array (.object "SumHouseModel$Thing")
  | 16 => .int
  | 17 => .int
  | 18 => .int
  | 19 => .int
  | 20 => .array (.object "SumHouseModel$Thing")
  | 21 => .object "SumHouseModel$Thing"
  | 22 => .int
  | 23 => .array .byte
  | 24 => .int
  | 25 => .int
  | 26 => .array .byte
  | 27 => .boolean
  | 28 => .array .int
  | 29 => .int
  | 30 => .array .int
  | 31 => .int
  | 32 => .array .int
  | 33 => .array .int
  | 34 => .array .int
  | 35 => .array .int
  | 36 => .int
  | 37 => .int
  | 38 => .array (.array .int)
  | 39 => .object "SumHouseModel$B"
  | 40 => .object "SumHouseModel$B"
  | 41 => .object "SumHouseModel$B"
  | 42 => .object "SumHouseModel$U"
  | 43 => .object "SumHouseModel$U"
  | 44 => .array (.array (.object "SumHouseModel$U"))
  | 45 => .array (.object "SumHouseModel$U")
  | 46 => .array .boolean
  | 47 => .array .int
  | 48 => .int
  | 49 => .array (.object "SumHouseModel$B")
  | 50 => .array (.object "SumHouseModel$U")
  | 51 => .array (.array .int)
  | 52 => .array (.array .int)
  | 53 => .array (.object "SumHouseModel$B")
  | 54 => .array (.object "SumHouseModel$B")
  | 55 => .array (.object "SumHouseModel$U")
  | 56 => .array (.array (.object "SumHouseModel$U"))
  | 57 => .array (.array (.object "SumHouseModel$U"))
  | 58 => .array (.object "SumHouseModel$U")
  | 59 => .array (.object "SumHouseModel$U")
  | 60 => .array (.array .int)
  | 61 => .array .int
  | 62 => .array .int
  | 63 => .int
  | _ => .array .int
abbrev wsX160 : List Cond := u_ws RX16 TX16 65
theorem nmX16 : ∀ a, a < 65 → ∀ b, b < 65 → a ≠ b → (TX16 a).2.1 ≠ (TX16 b).2.1 := by decide +kernel
theorem tyX16_ok : ∀ k, k < 65 → parseFieldDescriptor (TX16 k).2.2.1 = some (tyX16 k) := by decide +kernel
def RL : String := "SumHouseLaw"
abbrev cX0_init : ByteArray := prog_2_method_1_code
def yX0_init : MethodName := ⟨RX0, "<init>", "(LSumHouse$Room;LSumHouse$Planes;)V"⟩
abbrev cX0_single : ByteArray := prog_2_method_2_code
def yX0_single : MethodName := ⟨RX0, "single", "(II)I"⟩
abbrev cX0_content : ByteArray := prog_2_method_3_code
def yX0_content : MethodName := ⟨RX0, "content", "(I)I"⟩
abbrev cX0_primitive : ByteArray := prog_2_method_4_code
def yX0_primitive : MethodName := ⟨RX0, "primitive", "(I)I"⟩
abbrev cX0_gcd : ByteArray := prog_2_method_5_code
def yX0_gcd : MethodName := ⟨RX0, "gcd", "(II)I"⟩
abbrev cX0_lift : ByteArray := prog_2_method_6_code
def yX0_lift : MethodName := ⟨RX0, "lift", "(II)I"⟩
abbrev cX0_tried : ByteArray := prog_2_method_7_code
def yX0_tried : MethodName := ⟨RX0, "tried", "(IIII)I"⟩
abbrev cX0_resultant : ByteArray := prog_2_method_8_code
def yX0_resultant : MethodName := ⟨RX0, "resultant", "(II)I"⟩
abbrev cX0_woven : ByteArray := prog_2_method_9_code
def yX0_woven : MethodName := ⟨RX0, "woven", "(II)I"⟩
abbrev cX0_cleaned : ByteArray := prog_2_method_10_code
def yX0_cleaned : MethodName := ⟨RX0, "cleaned", "([II)I"⟩
abbrev cX0_rootsOf : ByteArray := prog_2_method_11_code
def yX0_rootsOf : MethodName := ⟨RX0, "rootsOf", "(I[I)I"⟩
abbrev cX0_lowest : ByteArray := prog_2_method_12_code
def yX0_lowest : MethodName := ⟨RX0, "lowest", "(II)I"⟩
abbrev cX0_isRoot : ByteArray := prog_2_method_13_code
def yX0_isRoot : MethodName := ⟨RX0, "isRoot", "(III)Z"⟩
abbrev cX0_distinct : ByteArray := prog_2_method_14_code
def yX0_distinct : MethodName := ⟨RX0, "distinct", "(II)I"⟩
abbrev cX0_split : ByteArray := prog_2_method_15_code
def yX0_split : MethodName := ⟨RX0, "split", "(IIII)I"⟩
abbrev cX0_powerOf : ByteArray := prog_2_method_16_code
def yX0_powerOf : MethodName := ⟨RX0, "powerOf", "(IIIII)V"⟩
abbrev cX0_square : ByteArray := prog_2_method_17_code
def yX0_square : MethodName := ⟨RX0, "square", "(IIII)V"⟩
abbrev cX1_rest : ByteArray := prog_3_method_2_code
def yX1_rest : MethodName := ⟨RX1, "rest", "(J)I"⟩
abbrev cX1_plus : ByteArray := prog_3_method_3_code
def yX1_plus : MethodName := ⟨RX1, "plus", "(II)I"⟩
abbrev cX1_minus : ByteArray := prog_3_method_4_code
def yX1_minus : MethodName := ⟨RX1, "minus", "(II)I"⟩
abbrev cX1_times : ByteArray := prog_3_method_5_code
def yX1_times : MethodName := ⟨RX1, "times", "(II)I"⟩
abbrev cX1_small : ByteArray := prog_3_method_6_code
def yX1_small : MethodName := ⟨RX1, "small", "(I)I"⟩
abbrev cX1_power : ByteArray := prog_3_method_7_code
def yX1_power : MethodName := ⟨RX1, "power", "(II)I"⟩
abbrev cX1_inverse : ByteArray := prog_3_method_8_code
def yX1_inverse : MethodName := ⟨RX1, "inverse", "(I)I"⟩
abbrev cX2_init : ByteArray := prog_4_method_1_code
def yX2_init : MethodName := ⟨RX2, "<init>", "(LSumHouse$Room;)V"⟩
abbrev cX2_cell : ByteArray := prog_4_method_2_code
def yX2_cell : MethodName := ⟨RX2, "cell", "(III)I"⟩
abbrev cX2_linear : ByteArray := prog_4_method_3_code
def yX2_linear : MethodName := ⟨RX2, "linear", "(III)I"⟩
abbrev cX2_pair : ByteArray := prog_4_method_4_code
def yX2_pair : MethodName := ⟨RX2, "pair", "(III)I"⟩
abbrev cX2_load : ByteArray := prog_4_method_5_code
def yX2_load : MethodName := ⟨RX2, "load", "([I)I"⟩
abbrev cX2_save : ByteArray := prog_4_method_6_code
def yX2_save : MethodName := ⟨RX2, "save", "(I[I)V"⟩
abbrev cX2_loadStep : ByteArray := prog_4_method_7_code
def yX2_loadStep : MethodName := ⟨RX2, "loadStep", "(LSumHouse$Slot;I)I"⟩
abbrev cX2_saveStep : ByteArray := prog_4_method_8_code
def yX2_saveStep : MethodName := ⟨RX2, "saveStep", "(ILSumHouse$Slot;I)V"⟩
abbrev cX2_slice : ByteArray := prog_4_method_9_code
def yX2_slice : MethodName := ⟨RX2, "slice", "(II)I"⟩
abbrev cX2_monic : ByteArray := prog_4_method_10_code
def yX2_monic : MethodName := ⟨RX2, "monic", "(I)I"⟩
abbrev cX2_scale : ByteArray := prog_4_method_11_code
def yX2_scale : MethodName := ⟨RX2, "scale", "(II)V"⟩
abbrev cX2_plus : ByteArray := prog_4_method_12_code
def yX2_plus : MethodName := ⟨RX2, "plus", "(III)I"⟩
abbrev cX2_times : ByteArray := prog_4_method_13_code
def yX2_times : MethodName := ⟨RX2, "times", "(II)I"⟩
abbrev cX2_slideK : ByteArray := prog_4_method_14_code
def yX2_slideK : MethodName := ⟨RX2, "slideK", "(II)V"⟩
abbrev cX2_slideN : ByteArray := prog_4_method_15_code
def yX2_slideN : MethodName := ⟨RX2, "slideN", "(II)V"⟩
abbrev cX2_slide : ByteArray := prog_4_method_16_code
def yX2_slide : MethodName := ⟨RX2, "slide", "(III)V"⟩
abbrev cX2_atN : ByteArray := prog_4_method_17_code
def yX2_atN : MethodName := ⟨RX2, "atN", "(III)V"⟩
abbrev cX2_withN : ByteArray := prog_4_method_18_code
def yX2_withN : MethodName := ⟨RX2, "withN", "(II)I"⟩
abbrev cX2_withK : ByteArray := prog_4_method_19_code
def yX2_withK : MethodName := ⟨RX2, "withK", "(II)I"⟩
abbrev cX2_derivative : ByteArray := prog_4_method_20_code
def yX2_derivative : MethodName := ⟨RX2, "derivative", "(IZ)I"⟩
abbrev cX2_turned : ByteArray := prog_4_method_21_code
def yX2_turned : MethodName := ⟨RX2, "turned", "(I)I"⟩
abbrev cX2_divide : ByteArray := prog_4_method_22_code
def yX2_divide : MethodName := ⟨RX2, "divide", "(II)I"⟩
abbrev cX3_init : ByteArray := prog_5_method_1_code
def yX3_init : MethodName := ⟨RX3, "<init>", "(LSumHouse$Room;LSumHouse$Planes;LSumHouse$Divisors;)V"⟩
abbrev cX3_under : ByteArray := prog_5_method_2_code
def yX3_under : MethodName := ⟨RX3, "under", "(I)I"⟩
abbrev cX3_fits : ByteArray := prog_5_method_3_code
def yX3_fits : MethodName := ⟨RX3, "fits", "(I)Z"⟩
abbrev cX3_isWithin : ByteArray := prog_5_method_4_code
def yX3_isWithin : MethodName := ⟨RX3, "isWithin", "(III)Z"⟩
abbrev cX3_pack : ByteArray := prog_5_method_5_code
def yX3_pack : MethodName := ⟨RX3, "pack", "(III)I"⟩
abbrev cX3_reduced : ByteArray := prog_5_method_6_code
def yX3_reduced : MethodName := ⟨RX3, "reduced", "(II)I"⟩
abbrev cX3_times : ByteArray := prog_5_method_7_code
def yX3_times : MethodName := ⟨RX3, "times", "(II)I"⟩
abbrev cX3_inverse : ByteArray := prog_5_method_8_code
def yX3_inverse : MethodName := ⟨RX3, "inverse", "(I)I"⟩
abbrev cX3_power : ByteArray := prog_5_method_9_code
def yX3_power : MethodName := ⟨RX3, "power", "(II)I"⟩
abbrev cX3_side : ByteArray := prog_5_method_10_code
def yX3_side : MethodName := ⟨RX3, "side", "(II)I"⟩
abbrev cX4_init : ByteArray := prog_6_method_1_code
def yX4_init : MethodName := ⟨RX4, "<init>", "()V"⟩
abbrev cX4_empty : ByteArray := prog_6_method_2_code
def yX4_empty : MethodName := ⟨RX4, "empty", "()V"⟩
abbrev cX4_get : ByteArray := prog_6_method_3_code
def yX4_get : MethodName := ⟨RX4, "get", "(I)I"⟩
abbrev cX4_put : ByteArray := prog_6_method_4_code
def yX4_put : MethodName := ⟨RX4, "put", "(II)V"⟩
abbrev cX4_take : ByteArray := prog_6_method_5_code
def yX4_take : MethodName := ⟨RX4, "take", "(I)I"⟩
abbrev cX4_release : ByteArray := prog_6_method_6_code
def yX4_release : MethodName := ⟨RX4, "release", "(I)V"⟩
abbrev cX4_block : ByteArray := prog_6_method_7_code
def yX4_block : MethodName := ⟨RX4, "block", "(II)I"⟩
abbrev cX4_constant : ByteArray := prog_6_method_8_code
def yX4_constant : MethodName := ⟨RX4, "constant", "(I)I"⟩
abbrev cX4_width : ByteArray := prog_6_method_9_code
def yX4_width : MethodName := ⟨RX4, "width", "(I)I"⟩
abbrev cX4_height : ByteArray := prog_6_method_10_code
def yX4_height : MethodName := ⟨RX4, "height", "(I)I"⟩
abbrev cX4_span : ByteArray := prog_6_method_11_code
def yX4_span : MethodName := ⟨RX4, "span", "(I)I"⟩
abbrev cX4_rowOf : ByteArray := prog_6_method_12_code
def yX4_rowOf : MethodName := ⟨RX4, "rowOf", "(II)I"⟩
abbrev cX4_isNumber : ByteArray := prog_6_method_13_code
def yX4_isNumber : MethodName := ⟨RX4, "isNumber", "(I)Z"⟩
abbrev cX4_isZero : ByteArray := prog_6_method_14_code
def yX4_isZero : MethodName := ⟨RX4, "isZero", "(I)Z"⟩
abbrev cX4_head : ByteArray := prog_6_method_15_code
def yX4_head : MethodName := ⟨RX4, "head", "(I)I"⟩
abbrev cX4_settle : ByteArray := prog_6_method_16_code
def yX4_settle : MethodName := ⟨RX4, "settle", "(II)I"⟩
abbrev cX4_copy : ByteArray := prog_6_method_17_code
def yX4_copy : MethodName := ⟨RX4, "copy", "(I)I"⟩
abbrev cX4_trim : ByteArray := prog_6_method_18_code
def yX4_trim : MethodName := ⟨RX4, "trim", "(I)V"⟩
abbrev cX4_clip : ByteArray := prog_6_method_19_code
def yX4_clip : MethodName := ⟨RX4, "clip", "(II)V"⟩
abbrev cX4_move : ByteArray := prog_6_method_20_code
def yX4_move : MethodName := ⟨RX4, "move", "(III)V"⟩
abbrev cX4_addTimes : ByteArray := prog_6_method_21_code
def yX4_addTimes : MethodName := ⟨RX4, "addTimes", "(IIII)V"⟩
abbrev cX4_scale : ByteArray := prog_6_method_22_code
def yX4_scale : MethodName := ⟨RX4, "scale", "(III)V"⟩
abbrev cX4_lastOf : ByteArray := prog_6_method_23_code
def yX4_lastOf : MethodName := ⟨RX4, "lastOf", "(II)I"⟩
abbrev cX4_horner : ByteArray := prog_6_method_24_code
def yX4_horner : MethodName := ⟨RX4, "horner", "(III)I"⟩
abbrev cX4_common : ByteArray := prog_6_method_25_code
def yX4_common : MethodName := ⟨RX4, "common", "(IIII)I"⟩
abbrev cX4_divide : ByteArray := prog_6_method_26_code
def yX4_divide : MethodName := ⟨RX4, "divide", "(IIIIII)Z"⟩
abbrev cX4_resultant : ByteArray := prog_6_method_27_code
def yX4_resultant : MethodName := ⟨RX4, "resultant", "(IIII)I"⟩
abbrev cX4_weaveStart : ByteArray := prog_6_method_28_code
def yX4_weaveStart : MethodName := ⟨RX4, "weaveStart", "(II)I"⟩
abbrev cX4_weaveAgain : ByteArray := prog_6_method_29_code
def yX4_weaveAgain : MethodName := ⟨RX4, "weaveAgain", "(I)V"⟩
abbrev cX4_weave : ByteArray := prog_6_method_30_code
def yX4_weave : MethodName := ⟨RX4, "weave", "(IIII)Z"⟩
abbrev cX4_wovenRow : ByteArray := prog_6_method_31_code
def yX4_wovenRow : MethodName := ⟨RX4, "wovenRow", "(II)I"⟩
abbrev cX5_init : ByteArray := prog_7_method_1_code
def yX5_init : MethodName := ⟨RX5, "<init>", "(LSumHouse$Room;LSumHouse$Planes;LSumHouse$Divisors;LSumHouse$Solver;)V"⟩
abbrev cX5_member : ByteArray := prog_7_method_2_code
def yX5_member : MethodName := ⟨RX5, "member", "(LSumHouse$Slot;I)I"⟩
abbrev cX5_numbersOf : ByteArray := prog_7_method_3_code
def yX5_numbersOf : MethodName := ⟨RX5, "numbersOf", "(LSumHouse$Slot;[II)V"⟩
abbrev cX5_needsOf : ByteArray := prog_7_method_4_code
def yX5_needsOf : MethodName := ⟨RX5, "needsOf", "(I)I"⟩
abbrev cX5_save : ByteArray := prog_7_method_5_code
def yX5_save : MethodName := ⟨RX5, "save", "(LSumHouse$Slot;III)V"⟩
abbrev cX5_fromRecord : ByteArray := prog_7_method_6_code
def yX5_fromRecord : MethodName := ⟨RX5, "fromRecord", "(LSumHouse$Slot;LSumHouse$Slot;)I"⟩
abbrev cX5_joinedRow : ByteArray := prog_7_method_7_code
def yX5_joinedRow : MethodName := ⟨RX5, "joinedRow", "(LSumHouse$Slot;II)I"⟩
abbrev cX5_moved : ByteArray := prog_7_method_8_code
def yX5_moved : MethodName := ⟨RX5, "moved", "(ZLSumHouse$Slot;LSumHouse$Slot;)I"⟩
abbrev cX5_joined : ByteArray := prog_7_method_9_code
def yX5_joined : MethodName := ⟨RX5, "joined", "(ILSumHouse$Slot;LSumHouse$Slot;LSumHouse$Slot;)I"⟩
abbrev cX5_degreeOf : ByteArray := prog_7_method_10_code
def yX5_degreeOf : MethodName := ⟨RX5, "degreeOf", "(LSumHouse$Slot;)I"⟩
abbrev cX5_unfold : ByteArray := prog_7_method_11_code
def yX5_unfold : MethodName := ⟨RX5, "unfold", "(LSumHouse$Slot;II[I)Z"⟩
abbrev cX5_putColumns : ByteArray := prog_7_method_12_code
def yX5_putColumns : MethodName := ⟨RX5, "putColumns", "(ILSumHouse$Slot;LSumHouse$Slot;II)V"⟩
abbrev cX5_guessed : ByteArray := prog_7_method_13_code
def yX5_guessed : MethodName := ⟨RX5, "guessed", "([IILSumHouse$Slot;)I"⟩
abbrev cX5_isGuess : ByteArray := prog_7_method_14_code
def yX5_isGuess : MethodName := ⟨RX5, "isGuess", "(II[II)Z"⟩
abbrev cX5_guessRow : ByteArray := prog_7_method_15_code
def yX5_guessRow : MethodName := ⟨RX5, "guessRow", "(II[IILSumHouse$Slot;)I"⟩
abbrev cX6_init : ByteArray := prog_8_method_1_code
def yX6_init : MethodName := ⟨RX6, "<init>", "()V"⟩
abbrev cX6_wipe : ByteArray := prog_8_method_2_code
def yX6_wipe : MethodName := ⟨RX6, "wipe", "()V"⟩
abbrev cX6_fact : ByteArray := prog_8_method_3_code
def yX6_fact : MethodName := ⟨RX6, "fact", "(II)I"⟩
abbrev cX6_ratioNumber : ByteArray := prog_8_method_4_code
def yX6_ratioNumber : MethodName := ⟨RX6, "ratioNumber", "(III)I"⟩
abbrev cX6_wide : ByteArray := prog_8_method_5_code
def yX6_wide : MethodName := ⟨RX6, "wide", "(I)I"⟩
abbrev cX6_tall : ByteArray := prog_8_method_6_code
def yX6_tall : MethodName := ⟨RX6, "tall", "(I)I"⟩
abbrev cX6_putAbove : ByteArray := prog_8_method_7_code
def yX6_putAbove : MethodName := ⟨RX6, "putAbove", "(III)V"⟩
abbrev cX6_stepNumber : ByteArray := prog_8_method_8_code
def yX6_stepNumber : MethodName := ⟨RX6, "stepNumber", "(II)I"⟩
abbrev cX6_putStep : ByteArray := prog_8_method_9_code
def yX6_putStep : MethodName := ⟨RX6, "putStep", "(III)V"⟩
abbrev cX6_stepAt : ByteArray := prog_8_method_10_code
def yX6_stepAt : MethodName := ⟨RX6, "stepAt", "(II)I"⟩
abbrev cX6_sideAt : ByteArray := prog_8_method_11_code
def yX6_sideAt : MethodName := ⟨RX6, "sideAt", "(III)I"⟩
abbrev cX6_isZero : ByteArray := prog_8_method_12_code
def yX6_isZero : MethodName := ⟨RX6, "isZero", "()Z"⟩
abbrev cX6_isWhole : ByteArray := prog_8_method_13_code
def yX6_isWhole : MethodName := ⟨RX6, "isWhole", "()Z"⟩
abbrev cX6_isFreeOfK : ByteArray := prog_8_method_14_code
def yX6_isFreeOfK : MethodName := ⟨RX6, "isFreeOfK", "()Z"⟩
abbrev cX6_addFirst : ByteArray := prog_8_method_15_code
def yX6_addFirst : MethodName := ⟨RX6, "addFirst", "(I)I"⟩
abbrev cX7_init : ByteArray := prog_9_method_1_code
def yX7_init : MethodName := ⟨RX7, "<init>", "(LSumHouse$Room;)V"⟩
abbrev cX7_begin : ByteArray := prog_9_method_2_code
def yX7_begin : MethodName := ⟨RX7, "begin", "(IIII)V"⟩
abbrev cX7_put : ByteArray := prog_9_method_3_code
def yX7_put : MethodName := ⟨RX7, "put", "(III)V"⟩
abbrev cX7_entry : ByteArray := prog_9_method_4_code
def yX7_entry : MethodName := ⟨RX7, "entry", "(II)I"⟩
abbrev cX7_point : ByteArray := prog_9_method_5_code
def yX7_point : MethodName := ⟨RX7, "point", "(I)V"⟩
abbrev cX7_search : ByteArray := prog_9_method_6_code
def yX7_search : MethodName := ⟨RX7, "search", "(II)I"⟩
abbrev cX7_eliminate : ByteArray := prog_9_method_7_code
def yX7_eliminate : MethodName := ⟨RX7, "eliminate", "(II)V"⟩
abbrev cX7_solveAt : ByteArray := prog_9_method_8_code
def yX7_solveAt : MethodName := ⟨RX7, "solveAt", "(I)V"⟩
abbrev cX7_factorOf : ByteArray := prog_9_method_9_code
def yX7_factorOf : MethodName := ⟨RX7, "factorOf", "(I)I"⟩
abbrev cX7_factorsBelow : ByteArray := prog_9_method_10_code
def yX7_factorsBelow : MethodName := ⟨RX7, "factorsBelow", "(I)I"⟩
abbrev cX8_init : ByteArray := prog_10_method_1_code
def yX8_init : MethodName := ⟨RX8, "<init>", "(LSumHouse$Room;LSumHouse$Planes;LSumHouse$Divisors;LSumHouse$Ratios;LSumHouse$Terms;LSumHouse$Solver;)V"⟩
abbrev cX8_makeForm : ByteArray := prog_10_method_2_code
def yX8_makeForm : MethodName := ⟨RX8, "makeForm", "(I)Z"⟩
abbrev cX8_grown : ByteArray := prog_10_method_3_code
def yX8_grown : MethodName := ⟨RX8, "grown", "(III)I"⟩
abbrev cX8_isModest : ByteArray := prog_10_method_4_code
def yX8_isModest : MethodName := ⟨RX8, "isModest", "(I)Z"⟩
abbrev cX8_depthFor : ByteArray := prog_10_method_5_code
def yX8_depthFor : MethodName := ⟨RX8, "depthFor", "(I)I"⟩
abbrev cX8_numberOf : ByteArray := prog_10_method_6_code
def yX8_numberOf : MethodName := ⟨RX8, "numberOf", "(II)I"⟩
abbrev cX8_equation : ByteArray := prog_10_method_7_code
def yX8_equation : MethodName := ⟨RX8, "equation", "(II)Z"⟩
abbrev cX8_putUnknowns : ByteArray := prog_10_method_8_code
def yX8_putUnknowns : MethodName := ⟨RX8, "putUnknowns", "(IIIIII)V"⟩
abbrev cX8_putPieces : ByteArray := prog_10_method_9_code
def yX8_putPieces : MethodName := ⟨RX8, "putPieces", "(IIIII)V"⟩
abbrev cX8_solved : ByteArray := prog_10_method_10_code
def yX8_solved : MethodName := ⟨RX8, "solved", "(II)I"⟩
abbrev cX8_answer : ByteArray := prog_10_method_11_code
def yX8_answer : MethodName := ⟨RX8, "answer", "()I"⟩
abbrev cX8_alone : ByteArray := prog_10_method_12_code
def yX8_alone : MethodName := ⟨RX8, "alone", "(I)I"⟩
abbrev cX8_collect : ByteArray := prog_10_method_13_code
def yX8_collect : MethodName := ⟨RX8, "collect", "(II)Z"⟩
abbrev cX8_attempt : ByteArray := prog_10_method_14_code
def yX8_attempt : MethodName := ⟨RX8, "attempt", "(I)I"⟩
abbrev cX8_save : ByteArray := prog_10_method_15_code
def yX8_save : MethodName := ⟨RX8, "save", "(LSumHouse$Slot;I)V"⟩
abbrev cX8_isRight : ByteArray := prog_10_method_16_code
def yX8_isRight : MethodName := ⟨RX8, "isRight", "(LSumHouse$Slot;)Z"⟩
abbrev cX8_holdsBy : ByteArray := prog_10_method_17_code
def yX8_holdsBy : MethodName := ⟨RX8, "holdsBy", "(LSumHouse$Slot;LSumHouse$Slot;III)I"⟩
abbrev cX8_certified : ByteArray := prog_10_method_18_code
def yX8_certified : MethodName := ⟨RX8, "certified", "(LSumHouse$Slot;LSumHouse$Slot;II)I"⟩
abbrev cX9_init : ByteArray := prog_11_method_1_code
def yX9_init : MethodName := ⟨RX9, "<init>", "(LSumHouse$Room;LSumHouse$Planes;LSumHouse$Divisors;LSumHouse$Ratios;)V"⟩
abbrev cX9_open : ByteArray := prog_11_method_2_code
def yX9_open : MethodName := ⟨RX9, "open", "()I"⟩
abbrev cX9_ratioOf : ByteArray := prog_11_method_3_code
def yX9_ratioOf : MethodName := ⟨RX9, "ratioOf", "(I)I"⟩
abbrev cX9_size : ByteArray := prog_11_method_4_code
def yX9_size : MethodName := ⟨RX9, "size", "(I)I"⟩
abbrev cX9_settle : ByteArray := prog_11_method_5_code
def yX9_settle : MethodName := ⟨RX9, "settle", "(II)I"⟩
abbrev cX9_ofNumber : ByteArray := prog_11_method_6_code
def yX9_ofNumber : MethodName := ⟨RX9, "ofNumber", "(I)I"⟩
abbrev cX9_line : ByteArray := prog_11_method_7_code
def yX9_line : MethodName := ⟨RX9, "line", "(III)I"⟩
abbrev cX9_wrapped : ByteArray := prog_11_method_8_code
def yX9_wrapped : MethodName := ⟨RX9, "wrapped", "(I)I"⟩
abbrev cX9_load : ByteArray := prog_11_method_9_code
def yX9_load : MethodName := ⟨RX9, "load", "(LSumHouse$Slot;)I"⟩
abbrev cX9_save : ByteArray := prog_11_method_10_code
def yX9_save : MethodName := ⟨RX9, "save", "(ILSumHouse$Slot;)I"⟩
abbrev cX9_kindOf : ByteArray := prog_11_method_11_code
def yX9_kindOf : MethodName := ⟨RX9, "kindOf", "(I)I"⟩
abbrev cX9_isZero : ByteArray := prog_11_method_12_code
def yX9_isZero : MethodName := ⟨RX9, "isZero", "(I)Z"⟩
abbrev cX9_addFactorial : ByteArray := prog_11_method_13_code
def yX9_addFactorial : MethodName := ⟨RX9, "addFactorial", "(IIIII)V"⟩
abbrev cX9_rank : ByteArray := prog_11_method_14_code
def yX9_rank : MethodName := ⟨RX9, "rank", "(III)I"⟩
abbrev cX9_addFactorials : ByteArray := prog_11_method_15_code
def yX9_addFactorials : MethodName := ⟨RX9, "addFactorials", "(III)V"⟩
abbrev cX9_powers : ByteArray := prog_11_method_16_code
def yX9_powers : MethodName := ⟨RX9, "powers", "(I)I"⟩
abbrev cX9_fits : ByteArray := prog_11_method_17_code
def yX9_fits : MethodName := ⟨RX9, "fits", "(I)Z"⟩
abbrev cX9_plus : ByteArray := prog_11_method_18_code
def yX9_plus : MethodName := ⟨RX9, "plus", "(III)I"⟩
abbrev cX9_times : ByteArray := prog_11_method_19_code
def yX9_times : MethodName := ⟨RX9, "times", "(III)I"⟩
abbrev cX9_power : ByteArray := prog_11_method_20_code
def yX9_power : MethodName := ⟨RX9, "power", "(II)I"⟩
abbrev cX9_powerOfLine : ByteArray := prog_11_method_21_code
def yX9_powerOfLine : MethodName := ⟨RX9, "powerOfLine", "(I)I"⟩
abbrev cX9_negative : ByteArray := prog_11_method_22_code
def yX9_negative : MethodName := ⟨RX9, "negative", "(I)I"⟩
abbrev cX9_isLine : ByteArray := prog_11_method_23_code
def yX9_isLine : MethodName := ⟨RX9, "isLine", "(II)Z"⟩
abbrev cX9_keepLine : ByteArray := prog_11_method_24_code
def yX9_keepLine : MethodName := ⟨RX9, "keepLine", "(IIII)Z"⟩
abbrev cX9_isLineBetween : ByteArray := prog_11_method_25_code
def yX9_isLineBetween : MethodName := ⟨RX9, "isLineBetween", "()Z"⟩
abbrev cX9_hasNumber : ByteArray := prog_11_method_26_code
def yX9_hasNumber : MethodName := ⟨RX9, "hasNumber", "(I)Z"⟩
abbrev cX9_isNumberLine : ByteArray := prog_11_method_27_code
def yX9_isNumberLine : MethodName := ⟨RX9, "isNumberLine", "(I)Z"⟩
abbrev cX9_isBelowZero : ByteArray := prog_11_method_28_code
def yX9_isBelowZero : MethodName := ⟨RX9, "isBelowZero", "(I)Z"⟩
abbrev cX9_factorialsOfLines : ByteArray := prog_11_method_29_code
def yX9_factorialsOfLines : MethodName := ⟨RX9, "factorialsOfLines", "(I)I"⟩
abbrev cX9_slidRatio : ByteArray := prog_11_method_30_code
def yX9_slidRatio : MethodName := ⟨RX9, "slidRatio", "(III)I"⟩
abbrev cX9_slid : ByteArray := prog_11_method_31_code
def yX9_slid : MethodName := ⟨RX9, "slid", "(III)I"⟩
abbrev cX9_step : ByteArray := prog_11_method_32_code
def yX9_step : MethodName := ⟨RX9, "step", "(III)I"⟩
abbrev cX9_stepFactorial : ByteArray := prog_11_method_33_code
def yX9_stepFactorial : MethodName := ⟨RX9, "stepFactorial", "(III)V"⟩
abbrev cX9_stepLine : ByteArray := prog_11_method_34_code
def yX9_stepLine : MethodName := ⟨RX9, "stepLine", "(IIIZ)V"⟩
abbrev cX9_valueOf : ByteArray := prog_11_method_35_code
def yX9_valueOf : MethodName := ⟨RX9, "valueOf", "(LSumHouse$Slot;II)I"⟩
abbrev cX9_sumOf : ByteArray := prog_11_method_36_code
def yX9_sumOf : MethodName := ⟨RX9, "sumOf", "(LSumHouse$Slot;III)I"⟩
abbrev cX9_closed : ByteArray := prog_11_method_37_code
def yX9_closed : MethodName := ⟨RX9, "closed", "(II)I"⟩
abbrev cX9_timesRoot : ByteArray := prog_11_method_38_code
def yX9_timesRoot : MethodName := ⟨RX9, "timesRoot", "(III)I"⟩
abbrev cX10_init : ByteArray := prog_12_method_1_code
def yX10_init : MethodName := ⟨RX10, "<init>", "(LSumHouse$Terms;)V"⟩
abbrev cX10_append : ByteArray := prog_12_method_2_code
def yX10_append : MethodName := ⟨RX10, "append", "(JI)I"⟩
abbrev cX10_emptyTape : ByteArray := prog_12_method_3_code
def yX10_emptyTape : MethodName := ⟨RX10, "emptyTape", "()V"⟩
abbrev cX10_retype : ByteArray := prog_12_method_4_code
def yX10_retype : MethodName := ⟨RX10, "retype", "()I"⟩
abbrev cX10_inscribed : ByteArray := prog_12_method_5_code
def yX10_inscribed : MethodName := ⟨RX10, "inscribed", "(I)I"⟩
abbrev cX10_compile : ByteArray := prog_12_method_6_code
def yX10_compile : MethodName := ⟨RX10, "compile", "()I"⟩
abbrev cX10_takeNumber : ByteArray := prog_12_method_7_code
def yX10_takeNumber : MethodName := ⟨RX10, "takeNumber", "(I)I"⟩
abbrev cX10_takeOperand : ByteArray := prog_12_method_8_code
def yX10_takeOperand : MethodName := ⟨RX10, "takeOperand", "(II)V"⟩
abbrev cX10_takeSign : ByteArray := prog_12_method_9_code
def yX10_takeSign : MethodName := ⟨RX10, "takeSign", "(II)V"⟩
abbrev cX10_takeEnd : ByteArray := prog_12_method_10_code
def yX10_takeEnd : MethodName := ⟨RX10, "takeEnd", "(I)V"⟩
abbrev cX10_open : ByteArray := prog_12_method_11_code
def yX10_open : MethodName := ⟨RX10, "open", "(II)V"⟩
abbrev cX10_afterOperand : ByteArray := prog_12_method_12_code
def yX10_afterOperand : MethodName := ⟨RX10, "afterOperand", "()V"⟩
abbrev cX10_signOf : ByteArray := prog_12_method_13_code
def yX10_signOf : MethodName := ⟨RX10, "signOf", "(I)I"⟩
abbrev cX10_push : ByteArray := prog_12_method_14_code
def yX10_push : MethodName := ⟨RX10, "push", "(II)V"⟩
abbrev cX10_unload : ByteArray := prog_12_method_15_code
def yX10_unload : MethodName := ⟨RX10, "unload", "(I)V"⟩
abbrev cX10_emit : ByteArray := prog_12_method_16_code
def yX10_emit : MethodName := ⟨RX10, "emit", "(III)V"⟩
abbrev cX10_result : ByteArray := prog_12_method_17_code
def yX10_result : MethodName := ⟨RX10, "result", "()I"⟩
abbrev cX10_ready : ByteArray := prog_12_method_18_code
def yX10_ready : MethodName := ⟨RX10, "ready", "(I)I"⟩
abbrev cX10_finish : ByteArray := prog_12_method_19_code
def yX10_finish : MethodName := ⟨RX10, "finish", "(I)I"⟩
abbrev cX10_faultOf : ByteArray := prog_12_method_20_code
def yX10_faultOf : MethodName := ⟨RX10, "faultOf", "(II)I"⟩
abbrev cX10_inscribe : ByteArray := prog_12_method_21_code
def yX10_inscribe : MethodName := ⟨RX10, "inscribe", "(LSumHouse$Slot;)I"⟩
abbrev cX10_draw : ByteArray := prog_12_method_22_code
def yX10_draw : MethodName := ⟨RX10, "draw", "(I)V"⟩
abbrev cX10_drawRatio : ByteArray := prog_12_method_23_code
def yX10_drawRatio : MethodName := ⟨RX10, "drawRatio", "(LSumHouse$Slot;)V"⟩
abbrev cX10_drawPolynomial : ByteArray := prog_12_method_24_code
def yX10_drawPolynomial : MethodName := ⟨RX10, "drawPolynomial", "(LSumHouse$Slot;I)V"⟩
abbrev cX10_drawPart : ByteArray := prog_12_method_25_code
def yX10_drawPart : MethodName := ⟨RX10, "drawPart", "(IIIZ)V"⟩
abbrev cX10_drawLetter : ByteArray := prog_12_method_26_code
def yX10_drawLetter : MethodName := ⟨RX10, "drawLetter", "(IIZ)V"⟩
abbrev cX10_drawNumber : ByteArray := prog_12_method_27_code
def yX10_drawNumber : MethodName := ⟨RX10, "drawNumber", "(I)V"⟩
abbrev cX10_drawBase : ByteArray := prog_12_method_28_code
def yX10_drawBase : MethodName := ⟨RX10, "drawBase", "(II)V"⟩
abbrev cX10_drawFactorial : ByteArray := prog_12_method_29_code
def yX10_drawFactorial : MethodName := ⟨RX10, "drawFactorial", "(LSumHouse$Slot;I)V"⟩
abbrev cX11_init : ByteArray := prog_1_method_1_code
def yX11_init : MethodName := ⟨RX11, "<init>", "()V"⟩
abbrev cX11_type : ByteArray := prog_1_method_2_code
def yX11_type : MethodName := ⟨RX11, "type", "(JI)I"⟩
abbrev cX11_read : ByteArray := prog_1_method_3_code
def yX11_read : MethodName := ⟨RX11, "read", "(I)I"⟩
abbrev cX11_place : ByteArray := prog_1_method_4_code
def yX11_place : MethodName := ⟨RX11, "place", "()I"⟩
abbrev cX11_write : ByteArray := prog_1_method_5_code
def yX11_write : MethodName := ⟨RX11, "write", "(I)I"⟩
abbrev cX11_written : ByteArray := prog_1_method_6_code
def yX11_written : MethodName := ⟨RX11, "written", "(I)I"⟩
abbrev cX11_again : ByteArray := prog_1_method_7_code
def yX11_again : MethodName := ⟨RX11, "again", "()I"⟩
abbrev cX11_kind : ByteArray := prog_1_method_8_code
def yX11_kind : MethodName := ⟨RX11, "kind", "(I)I"⟩
abbrev cX11_drop : ByteArray := prog_1_method_9_code
def yX11_drop : MethodName := ⟨RX11, "drop", "(I)I"⟩
abbrev cX11_degree : ByteArray := prog_1_method_10_code
def yX11_degree : MethodName := ⟨RX11, "degree", "(III)I"⟩
abbrev cX11_number : ByteArray := prog_1_method_11_code
def yX11_number : MethodName := ⟨RX11, "number", "(IIII)I"⟩
abbrev cX11_told : ByteArray := prog_1_method_12_code
def yX11_told : MethodName := ⟨RX11, "told", "(II)I"⟩
abbrev cX11_factorial : ByteArray := prog_1_method_13_code
def yX11_factorial : MethodName := ⟨RX11, "factorial", "(III)I"⟩
abbrev cX11_count : ByteArray := prog_1_method_14_code
def yX11_count : MethodName := ⟨RX11, "count", "(I)I"⟩
abbrev cX11_work : ByteArray := prog_1_method_15_code
def yX11_work : MethodName := ⟨RX11, "work", "(IIII)I"⟩
abbrev cX11_ofPolynomials : ByteArray := prog_1_method_16_code
def yX11_ofPolynomials : MethodName := ⟨RX11, "ofPolynomials", "(III)I"⟩
abbrev cX11_change : ByteArray := prog_1_method_17_code
def yX11_change : MethodName := ⟨RX11, "change", "(IIII)I"⟩
abbrev cX11_changed : ByteArray := prog_1_method_18_code
def yX11_changed : MethodName := ⟨RX11, "changed", "(IIILSumHouse$Slot;)I"⟩
abbrev cX11_value : ByteArray := prog_1_method_19_code
def yX11_value : MethodName := ⟨RX11, "value", "(III)I"⟩
abbrev cX11_sum : ByteArray := prog_1_method_20_code
def yX11_sum : MethodName := ⟨RX11, "sum", "(IIII)I"⟩
abbrev cX11_quotient : ByteArray := prog_1_method_21_code
def yX11_quotient : MethodName := ⟨RX11, "quotient", "(III)I"⟩
abbrev cX11_form : ByteArray := prog_1_method_22_code
def yX11_form : MethodName := ⟨RX11, "form", "(III)I"⟩
abbrev cX11_close : ByteArray := prog_1_method_23_code
def yX11_close : MethodName := ⟨RX11, "close", "(II)I"⟩
abbrev cX11_recur : ByteArray := prog_1_method_24_code
def yX11_recur : MethodName := ⟨RX11, "recur", "(III)I"⟩
abbrev cX11_part : ByteArray := prog_1_method_25_code
def yX11_part : MethodName := ⟨RX11, "part", "(III)I"⟩
abbrev cX11_check : ByteArray := prog_1_method_26_code
def yX11_check : MethodName := ⟨RX11, "check", "(II)I"⟩
abbrev cX11_poke : ByteArray := prog_1_method_27_code
def yX11_poke : MethodName := ⟨RX11, "poke", "(IIIII)I"⟩
abbrev cX11_holds : ByteArray := prog_1_method_28_code
def yX11_holds : MethodName := ⟨RX11, "holds", "(IIIII)I"⟩
abbrev cX11_row : ByteArray := prog_1_method_29_code
def yX11_row : MethodName := ⟨RX11, "row", "(II)I"⟩
abbrev cX11_first : ByteArray := prog_1_method_30_code
def yX11_first : MethodName := ⟨RX11, "first", "(II)I"⟩
abbrev cX11_at : ByteArray := prog_1_method_31_code
def yX11_at : MethodName := ⟨RX11, "at", "(II)I"⟩
abbrev cX11_join : ByteArray := prog_1_method_32_code
def yX11_join : MethodName := ⟨RX11, "join", "(IIII)I"⟩
abbrev cX11_feed : ByteArray := prog_1_method_33_code
def yX11_feed : MethodName := ⟨RX11, "feed", "(I)I"⟩
abbrev cX11_clear : ByteArray := prog_1_method_34_code
def yX11_clear : MethodName := ⟨RX11, "clear", "()I"⟩
abbrev cX11_guess : ByteArray := prog_1_method_35_code
def yX11_guess : MethodName := ⟨RX11, "guess", "(I)I"⟩
abbrev cX11_roots : ByteArray := prog_1_method_36_code
def yX11_roots : MethodName := ⟨RX11, "roots", "(I)I"⟩
abbrev cX11_root : ByteArray := prog_1_method_37_code
def yX11_root : MethodName := ⟨RX11, "root", "(I)I"⟩
abbrev cX11_solve : ByteArray := prog_1_method_38_code
def yX11_solve : MethodName := ⟨RX11, "solve", "(II)I"⟩
abbrev cX11_slotAt : ByteArray := prog_1_method_39_code
def yX11_slotAt : MethodName := ⟨RX11, "slotAt", "(I)LSumHouse$Slot;"⟩
abbrev cX11_isRatioOrTerm : ByteArray := prog_1_method_40_code
def yX11_isRatioOrTerm : MethodName := ⟨RX11, "isRatioOrTerm", "(LSumHouse$Slot;)Z"⟩
abbrev cX11_isPolynomial : ByteArray := prog_1_method_41_code
def yX11_isPolynomial : MethodName := ⟨RX11, "isPolynomial", "(LSumHouse$Slot;)Z"⟩
abbrev cX11_isFactor : ByteArray := prog_1_method_42_code
def yX11_isFactor : MethodName := ⟨RX11, "isFactor", "(LSumHouse$Slot;)Z"⟩
abbrev cX11_keep : ByteArray := prog_1_method_43_code
def yX11_keep : MethodName := ⟨RX11, "keep", "(ILSumHouse$Slot;)I"⟩
abbrev cX12_init : ByteArray := prog_15_method_1_code
def yX12_init : MethodName := ⟨RX12, "<init>", "()V"⟩
abbrev cX12_trim : ByteArray := prog_15_method_2_code
def yX12_trim : MethodName := ⟨RX12, "trim", "()V"⟩
abbrev cX12_number : ByteArray := prog_15_method_3_code
def yX12_number : MethodName := ⟨RX12, "number", "(I)V"⟩
abbrev cX12_lead : ByteArray := prog_15_method_4_code
def yX12_lead : MethodName := ⟨RX12, "lead", "()LSumHouseModel$U;"⟩
abbrev cX12_head : ByteArray := prog_15_method_5_code
def yX12_head : MethodName := ⟨RX12, "head", "()I"⟩
abbrev cX12_degreeN : ByteArray := prog_15_method_6_code
def yX12_degreeN : MethodName := ⟨RX12, "degreeN", "()I"⟩
abbrev cX12_degreeK : ByteArray := prog_15_method_7_code
def yX12_degreeK : MethodName := ⟨RX12, "degreeK", "()I"⟩
abbrev cX12_isNumber : ByteArray := prog_15_method_8_code
def yX12_isNumber : MethodName := ⟨RX12, "isNumber", "()Z"⟩
abbrev cX13_init : ByteArray := prog_16_method_1_code
def yX13_init : MethodName := ⟨RX13, "<init>", "()V"⟩
abbrev cX14_init : ByteArray := prog_17_method_1_code
def yX14_init : MethodName := ⟨RX14, "<init>", "()V"⟩
abbrev cX15_init : ByteArray := prog_18_method_1_code
def yX15_init : MethodName := ⟨RX15, "<init>", "(I)V"⟩
abbrev cX15_trim : ByteArray := prog_18_method_2_code
def yX15_trim : MethodName := ⟨RX15, "trim", "()V"⟩
abbrev cX15_number : ByteArray := prog_18_method_3_code
def yX15_number : MethodName := ⟨RX15, "number", "(I)V"⟩
abbrev cX15_head : ByteArray := prog_18_method_4_code
def yX15_head : MethodName := ⟨RX15, "head", "()I"⟩
abbrev cX15_at : ByteArray := prog_18_method_5_code
def yX15_at : MethodName := ⟨RX15, "at", "(I)I"⟩
abbrev cX16_add : ByteArray := prog_14_method_1_code
def yX16_add : MethodName := ⟨RX16, "add", "(II)I"⟩
abbrev cX16_sub : ByteArray := prog_14_method_2_code
def yX16_sub : MethodName := ⟨RX16, "sub", "(II)I"⟩
abbrev cX16_mul : ByteArray := prog_14_method_3_code
def yX16_mul : MethodName := ⟨RX16, "mul", "(II)I"⟩
abbrev cX16_pow : ByteArray := prog_14_method_4_code
def yX16_pow : MethodName := ⟨RX16, "pow", "(IJ)I"⟩
abbrev cX16_inv : ByteArray := prog_14_method_5_code
def yX16_inv : MethodName := ⟨RX16, "inv", "(I)I"⟩
abbrev cX16_rest : ByteArray := prog_14_method_6_code
def yX16_rest : MethodName := ⟨RX16, "rest", "(I)I"⟩
abbrev cX16_small : ByteArray := prog_14_method_7_code
def yX16_small : MethodName := ⟨RX16, "small", "(I)I"⟩
abbrev cX16_power : ByteArray := prog_14_method_8_code
def yX16_power : MethodName := ⟨RX16, "power", "(II)I"⟩
abbrev cX16_newU : ByteArray := prog_14_method_9_code
def yX16_newU : MethodName := ⟨RX16, "newU", "()LSumHouseModel$U;"⟩
abbrev cX16_set : ByteArray := prog_14_method_10_code
def yX16_set : MethodName := ⟨RX16, "set", "(LSumHouseModel$U;LSumHouseModel$U;)V"⟩
abbrev cX16_plus : ByteArray := prog_14_method_11_code
def yX16_plus : MethodName := ⟨RX16, "plus", "(LSumHouseModel$U;LSumHouseModel$U;LSumHouseModel$U;Z)V"⟩
abbrev cX16_scale : ByteArray := prog_14_method_12_code
def yX16_scale : MethodName := ⟨RX16, "scale", "(LSumHouseModel$U;LSumHouseModel$U;I)V"⟩
abbrev cX16_times : ByteArray := prog_14_method_13_code
def yX16_times : MethodName := ⟨RX16, "times", "(LSumHouseModel$U;LSumHouseModel$U;LSumHouseModel$U;)V"⟩
abbrev cX16_divide : ByteArray := prog_14_method_14_code
def yX16_divide : MethodName := ⟨RX16, "divide", "(LSumHouseModel$U;LSumHouseModel$U;LSumHouseModel$U;LSumHouseModel$U;)V"⟩
abbrev cX16_monic : ByteArray := prog_14_method_15_code
def yX16_monic : MethodName := ⟨RX16, "monic", "(LSumHouseModel$U;)V"⟩
abbrev cX16_gcd : ByteArray := prog_14_method_16_code
def yX16_gcd : MethodName := ⟨RX16, "gcd", "(LSumHouseModel$U;LSumHouseModel$U;LSumHouseModel$U;)V"⟩
abbrev cX16_exact : ByteArray := prog_14_method_17_code
def yX16_exact : MethodName := ⟨RX16, "exact", "(LSumHouseModel$U;LSumHouseModel$U;LSumHouseModel$U;)V"⟩
abbrev cX16_eval : ByteArray := prog_14_method_18_code
def yX16_eval : MethodName := ⟨RX16, "eval", "(LSumHouseModel$U;I)I"⟩
abbrev cX16_shift : ByteArray := prog_14_method_19_code
def yX16_shift : MethodName := ⟨RX16, "shift", "(LSumHouseModel$U;LSumHouseModel$U;I)V"⟩
abbrev cX16_newB : ByteArray := prog_14_method_20_code
def yX16_newB : MethodName := ⟨RX16, "newB", "()LSumHouseModel$B;"⟩
abbrev cX16_set_ : ByteArray := prog_14_method_21_code
def yX16_set_ : MethodName := ⟨RX16, "set", "(LSumHouseModel$B;LSumHouseModel$B;)V"⟩
abbrev cX16_plus_ : ByteArray := prog_14_method_22_code
def yX16_plus_ : MethodName := ⟨RX16, "plus", "(LSumHouseModel$B;LSumHouseModel$B;LSumHouseModel$B;Z)V"⟩
abbrev cX16_scale_ : ByteArray := prog_14_method_23_code
def yX16_scale_ : MethodName := ⟨RX16, "scale", "(LSumHouseModel$B;LSumHouseModel$B;I)V"⟩
abbrev cX16_times_ : ByteArray := prog_14_method_24_code
def yX16_times_ : MethodName := ⟨RX16, "times", "(LSumHouseModel$B;LSumHouseModel$B;LSumHouseModel$B;)V"⟩
abbrev cX16_timesU : ByteArray := prog_14_method_25_code
def yX16_timesU : MethodName := ⟨RX16, "timesU", "(LSumHouseModel$B;LSumHouseModel$B;LSumHouseModel$U;)V"⟩
abbrev cX16_byU : ByteArray := prog_14_method_26_code
def yX16_byU : MethodName := ⟨RX16, "byU", "(LSumHouseModel$B;LSumHouseModel$B;LSumHouseModel$U;)V"⟩
abbrev cX16_shiftK : ByteArray := prog_14_method_27_code
def yX16_shiftK : MethodName := ⟨RX16, "shiftK", "(LSumHouseModel$B;LSumHouseModel$B;I)V"⟩
abbrev cX16_shiftN : ByteArray := prog_14_method_28_code
def yX16_shiftN : MethodName := ⟨RX16, "shiftN", "(LSumHouseModel$B;LSumHouseModel$B;I)V"⟩
abbrev cX16_turn : ByteArray := prog_14_method_29_code
def yX16_turn : MethodName := ⟨RX16, "turn", "(LSumHouseModel$B;LSumHouseModel$B;)V"⟩
abbrev cX16_content : ByteArray := prog_14_method_30_code
def yX16_content : MethodName := ⟨RX16, "content", "(LSumHouseModel$U;LSumHouseModel$B;)V"⟩
abbrev cX16_primitive : ByteArray := prog_14_method_31_code
def yX16_primitive : MethodName := ⟨RX16, "primitive", "(LSumHouseModel$B;LSumHouseModel$B;LSumHouseModel$U;)V"⟩
abbrev cX16_atN : ByteArray := prog_14_method_32_code
def yX16_atN : MethodName := ⟨RX16, "atN", "(LSumHouseModel$U;LSumHouseModel$B;I)V"⟩
abbrev cX16_eval_ : ByteArray := prog_14_method_33_code
def yX16_eval_ : MethodName := ⟨RX16, "eval", "(LSumHouseModel$B;II)I"⟩
abbrev cX16_divides : ByteArray := prog_14_method_34_code
def yX16_divides : MethodName := ⟨RX16, "divides", "(LSumHouseModel$B;LSumHouseModel$B;LSumHouseModel$B;)Z"⟩
abbrev cX16_through : ByteArray := prog_14_method_35_code
def yX16_through : MethodName := ⟨RX16, "through", "(LSumHouseModel$U;[II)V"⟩
abbrev cX16_gcdK : ByteArray := prog_14_method_36_code
def yX16_gcdK : MethodName := ⟨RX16, "gcdK", "(LSumHouseModel$B;LSumHouseModel$B;LSumHouseModel$B;)V"⟩
abbrev cX16_gcd_ : ByteArray := prog_14_method_37_code
def yX16_gcd_ : MethodName := ⟨RX16, "gcd", "(LSumHouseModel$B;LSumHouseModel$B;LSumHouseModel$B;)V"⟩
abbrev cX16_fits : ByteArray := prog_14_method_38_code
def yX16_fits : MethodName := ⟨RX16, "fits", "(LSumHouseModel$B;)Z"⟩
abbrev cX16_settle : ByteArray := prog_14_method_39_code
def yX16_settle : MethodName := ⟨RX16, "settle", "(LSumHouseModel$B;LSumHouseModel$B;)V"⟩
abbrev cX16_reduce : ByteArray := prog_14_method_40_code
def yX16_reduce : MethodName := ⟨RX16, "reduce", "(LSumHouseModel$B;LSumHouseModel$B;)V"⟩
abbrev cX16_multiply : ByteArray := prog_14_method_41_code
def yX16_multiply : MethodName := ⟨RX16, "multiply", "(LSumHouseModel$B;LSumHouseModel$B;LSumHouseModel$B;LSumHouseModel$B;LSumHouseModel$B;LSumHouseModel$B;)V"⟩
abbrev cX16_cancel : ByteArray := prog_14_method_42_code
def yX16_cancel : MethodName := ⟨RX16, "cancel", "(LSumHouseModel$B;LSumHouseModel$B;)V"⟩
abbrev cX16_sum : ByteArray := prog_14_method_43_code
def yX16_sum : MethodName := ⟨RX16, "sum", "(LSumHouseModel$B;LSumHouseModel$B;LSumHouseModel$B;LSumHouseModel$B;LSumHouseModel$B;LSumHouseModel$B;Z)V"⟩
abbrev cX16_copy : ByteArray := prog_14_method_44_code
def yX16_copy : MethodName := ⟨RX16, "copy", "(LSumHouseModel$Thing;LSumHouseModel$Thing;)V"⟩
abbrev cX16_load : ByteArray := prog_14_method_45_code
def yX16_load : MethodName := ⟨RX16, "load", "(LSumHouseModel$B;[I)V"⟩
abbrev cX16_store : ByteArray := prog_14_method_46_code
def yX16_store : MethodName := ⟨RX16, "store", "([ILSumHouseModel$B;)V"⟩
abbrev cX16_load_ : ByteArray := prog_14_method_47_code
def yX16_load_ : MethodName := ⟨RX16, "load", "(LSumHouseModel$U;[II)V"⟩
abbrev cX16_store_ : ByteArray := prog_14_method_48_code
def yX16_store_ : MethodName := ⟨RX16, "store", "([IILSumHouseModel$U;)V"⟩
abbrev cX16_put : ByteArray := prog_14_method_49_code
def yX16_put : MethodName := ⟨RX16, "put", "(LSumHouseModel$Thing;LSumHouseModel$B;LSumHouseModel$B;)Z"⟩
abbrev cX16_plain : ByteArray := prog_14_method_50_code
def yX16_plain : MethodName := ⟨RX16, "plain", "(LSumHouseModel$Thing;)V"⟩
abbrev cX16_number : ByteArray := prog_14_method_51_code
def yX16_number : MethodName := ⟨RX16, "number", "(LSumHouseModel$Thing;I)V"⟩
abbrev cX16_isZero : ByteArray := prog_14_method_52_code
def yX16_isZero : MethodName := ⟨RX16, "isZero", "(LSumHouseModel$Thing;)Z"⟩
abbrev cX16_isOne : ByteArray := prog_14_method_53_code
def yX16_isOne : MethodName := ⟨RX16, "isOne", "([I)Z"⟩
abbrev cX16_isNumber : ByteArray := prog_14_method_54_code
def yX16_isNumber : MethodName := ⟨RX16, "isNumber", "(LSumHouseModel$Thing;)Z"⟩
abbrev cX16_factor : ByteArray := prog_14_method_55_code
def yX16_factor : MethodName := ⟨RX16, "factor", "(LSumHouseModel$Thing;IIII)V"⟩
abbrev cX16_move : ByteArray := prog_14_method_56_code
def yX16_move : MethodName := ⟨RX16, "move", "(LSumHouseModel$Thing;II)V"⟩
abbrev cX16_weight : ByteArray := prog_14_method_57_code
def yX16_weight : MethodName := ⟨RX16, "weight", "(LSumHouseModel$Thing;)I"⟩
abbrev cX16_name : ByteArray := prog_14_method_58_code
def yX16_name : MethodName := ⟨RX16, "name", "(LSumHouseModel$Thing;)V"⟩
abbrev cX16_joined : ByteArray := prog_14_method_60_code
def yX16_joined : MethodName := ⟨RX16, "joined", "(LSumHouseModel$Thing;LSumHouseModel$Thing;I)I"⟩
abbrev cX16_multiply_ : ByteArray := prog_14_method_61_code
def yX16_multiply_ : MethodName := ⟨RX16, "multiply", "(LSumHouseModel$Thing;LSumHouseModel$Thing;Z)Z"⟩
abbrev cX16_mergeAll : ByteArray := prog_14_method_62_code
def yX16_mergeAll : MethodName := ⟨RX16, "mergeAll", "(LSumHouseModel$Thing;LSumHouseModel$Thing;I)V"⟩
abbrev cX16_raise : ByteArray := prog_14_method_63_code
def yX16_raise : MethodName := ⟨RX16, "raise", "(LSumHouseModel$Thing;I)Z"⟩
abbrev cX16_add_ : ByteArray := prog_14_method_64_code
def yX16_add_ : MethodName := ⟨RX16, "add", "(LSumHouseModel$Thing;LSumHouseModel$Thing;Z)Z"⟩
abbrev cX16_fail : ByteArray := prog_14_method_65_code
def yX16_fail : MethodName := ⟨RX16, "fail", "(II)LSumHouseModel$Stop;"⟩
abbrev cX16_look : ByteArray := prog_14_method_66_code
def yX16_look : MethodName := ⟨RX16, "look", "()I"⟩
abbrev cX16_must : ByteArray := prog_14_method_67_code
def yX16_must : MethodName := ⟨RX16, "must", "(I)V"⟩
abbrev cX16_readE : ByteArray := prog_14_method_68_code
def yX16_readE : MethodName := ⟨RX16, "readE", "()V"⟩
abbrev cX16_readU : ByteArray := prog_14_method_69_code
def yX16_readU : MethodName := ⟨RX16, "readU", "()V"⟩
abbrev cX16_readW : ByteArray := prog_14_method_70_code
def yX16_readW : MethodName := ⟨RX16, "readW", "()V"⟩
abbrev cX16_bracket : ByteArray := prog_14_method_71_code
def yX16_bracket : MethodName := ⟨RX16, "bracket", "()V"⟩
abbrev cX16_readB : ByteArray := prog_14_method_72_code
def yX16_readB : MethodName := ⟨RX16, "readB", "()V"⟩
abbrev cX16_newThing : ByteArray := prog_14_method_73_code
def yX16_newThing : MethodName := ⟨RX16, "newThing", "()LSumHouseModel$Thing;"⟩
abbrev cX16_valueE : ByteArray := prog_14_method_74_code
def yX16_valueE : MethodName := ⟨RX16, "valueE", "()LSumHouseModel$Thing;"⟩
abbrev cX16_valueU : ByteArray := prog_14_method_75_code
def yX16_valueU : MethodName := ⟨RX16, "valueU", "()LSumHouseModel$Thing;"⟩
abbrev cX16_isLine : ByteArray := prog_14_method_76_code
def yX16_isLine : MethodName := ⟨RX16, "isLine", "(LSumHouseModel$Thing;)Z"⟩
abbrev cX16_isLine_ : ByteArray := prog_14_method_77_code
def yX16_isLine_ : MethodName := ⟨RX16, "isLine", "(III)Z"⟩
abbrev cX16_factorial : ByteArray := prog_14_method_78_code
def yX16_factorial : MethodName := ⟨RX16, "factorial", "(LSumHouseModel$Thing;IIII)V"⟩
abbrev cX16_valueW : ByteArray := prog_14_method_79_code
def yX16_valueW : MethodName := ⟨RX16, "valueW", "()LSumHouseModel$Thing;"⟩
abbrev cX16_raiseText : ByteArray := prog_14_method_80_code
def yX16_raiseText : MethodName := ⟨RX16, "raiseText", "(LSumHouseModel$Thing;I)V"⟩
abbrev cX16_valueB : ByteArray := prog_14_method_81_code
def yX16_valueB : MethodName := ⟨RX16, "valueB", "()LSumHouseModel$Thing;"⟩
abbrev cX16_choose : ByteArray := prog_14_method_82_code
def yX16_choose : MethodName := ⟨RX16, "choose", "()LSumHouseModel$Thing;"⟩
abbrev cX16_init : ByteArray := prog_14_method_83_code
def yX16_init : MethodName := ⟨RX16, "<init>", "()V"⟩
abbrev cX16_isSlot : ByteArray := prog_14_method_84_code
def yX16_isSlot : MethodName := ⟨RX16, "isSlot", "(I)Z"⟩
abbrev cX16_begin : ByteArray := prog_14_method_85_code
def yX16_begin : MethodName := ⟨RX16, "begin", "()V"⟩
abbrev cX16_keep : ByteArray := prog_14_method_86_code
def yX16_keep : MethodName := ⟨RX16, "keep", "(I)I"⟩
abbrev cX16_type : ByteArray := prog_14_method_87_code
def yX16_type : MethodName := ⟨RX16, "type", "(JI)I"⟩
abbrev cX16_read : ByteArray := prog_14_method_88_code
def yX16_read : MethodName := ⟨RX16, "read", "(I)I"⟩
abbrev cX16_place : ByteArray := prog_14_method_89_code
def yX16_place : MethodName := ⟨RX16, "place", "()I"⟩
abbrev cX16_say : ByteArray := prog_14_method_90_code
def yX16_say : MethodName := ⟨RX16, "say", "(I)V"⟩
abbrev cX16_sayNumber : ByteArray := prog_14_method_91_code
def yX16_sayNumber : MethodName := ⟨RX16, "sayNumber", "(J)V"⟩
abbrev cX16_sayPart : ByteArray := prog_14_method_92_code
def yX16_sayPart : MethodName := ⟨RX16, "sayPart", "(III)V"⟩
abbrev cX16_sayLetter : ByteArray := prog_14_method_93_code
def yX16_sayLetter : MethodName := ⟨RX16, "sayLetter", "(IIZ)V"⟩
abbrev cX16_sayCells : ByteArray := prog_14_method_94_code
def yX16_sayCells : MethodName := ⟨RX16, "sayCells", "([I)V"⟩
abbrev cX16_sayRatio : ByteArray := prog_14_method_95_code
def yX16_sayRatio : MethodName := ⟨RX16, "sayRatio", "(LSumHouseModel$Thing;)V"⟩
abbrev cX16_write : ByteArray := prog_14_method_96_code
def yX16_write : MethodName := ⟨RX16, "write", "(I)I"⟩
abbrev cX16_sayLine : ByteArray := prog_14_method_97_code
def yX16_sayLine : MethodName := ⟨RX16, "sayLine", "(III)V"⟩
abbrev cX16_sayBase : ByteArray := prog_14_method_98_code
def yX16_sayBase : MethodName := ⟨RX16, "sayBase", "(II)V"⟩
abbrev cX16_written : ByteArray := prog_14_method_99_code
def yX16_written : MethodName := ⟨RX16, "written", "(I)I"⟩
abbrev cX16_again : ByteArray := prog_14_method_100_code
def yX16_again : MethodName := ⟨RX16, "again", "()I"⟩
abbrev cX16_kind : ByteArray := prog_14_method_101_code
def yX16_kind : MethodName := ⟨RX16, "kind", "(I)I"⟩
abbrev cX16_drop : ByteArray := prog_14_method_102_code
def yX16_drop : MethodName := ⟨RX16, "drop", "(I)I"⟩
abbrev cX16_degree : ByteArray := prog_14_method_103_code
def yX16_degree : MethodName := ⟨RX16, "degree", "([II)I"⟩
abbrev cX16_degree_ : ByteArray := prog_14_method_104_code
def yX16_degree_ : MethodName := ⟨RX16, "degree", "(III)I"⟩
abbrev cX16_number_ : ByteArray := prog_14_method_105_code
def yX16_number_ : MethodName := ⟨RX16, "number", "(IIII)I"⟩
abbrev cX16_told : ByteArray := prog_14_method_106_code
def yX16_told : MethodName := ⟨RX16, "told", "(II)I"⟩
abbrev cX16_factorial_ : ByteArray := prog_14_method_107_code
def yX16_factorial_ : MethodName := ⟨RX16, "factorial", "(III)I"⟩
abbrev cX16_count : ByteArray := prog_14_method_108_code
def yX16_count : MethodName := ⟨RX16, "count", "(I)I"⟩
abbrev cX16_lineFactor : ByteArray := prog_14_method_109_code
def yX16_lineFactor : MethodName := ⟨RX16, "lineFactor", "(IIII)V"⟩
abbrev cX16_quotient : ByteArray := prog_14_method_110_code
def yX16_quotient : MethodName := ⟨RX16, "quotient", "(LSumHouseModel$B;LSumHouseModel$B;LSumHouseModel$Thing;II)Z"⟩
abbrev cX16_lineInto : ByteArray := prog_14_method_111_code
def yX16_lineInto : MethodName := ⟨RX16, "lineInto", "(LSumHouseModel$B;LSumHouseModel$B;I)Z"⟩
abbrev cX16_quotient_ : ByteArray := prog_14_method_112_code
def yX16_quotient_ : MethodName := ⟨RX16, "quotient", "(III)I"⟩
abbrev cX16_isPolynomial : ByteArray := prog_14_method_113_code
def yX16_isPolynomial : MethodName := ⟨RX16, "isPolynomial", "(LSumHouseModel$Thing;)Z"⟩
abbrev cX16_work : ByteArray := prog_14_method_114_code
def yX16_work : MethodName := ⟨RX16, "work", "(IIII)I"⟩
abbrev cX16_resultant : ByteArray := prog_14_method_115_code
def yX16_resultant : MethodName := ⟨RX16, "resultant", "(LSumHouseModel$B;LSumHouseModel$B;LSumHouseModel$B;Z)Z"⟩
abbrev cX16_sylvester : ByteArray := prog_14_method_116_code
def yX16_sylvester : MethodName := ⟨RX16, "sylvester", "(LSumHouseModel$B;LSumHouseModel$B;III)I"⟩
abbrev cX16_change : ByteArray := prog_14_method_117_code
def yX16_change : MethodName := ⟨RX16, "change", "(IIII)I"⟩
abbrev cX16_moved : ByteArray := prog_14_method_118_code
def yX16_moved : MethodName := ⟨RX16, "moved", "(ILSumHouseModel$B;LSumHouseModel$B;II)I"⟩
abbrev cX16_fixed : ByteArray := prog_14_method_119_code
def yX16_fixed : MethodName := ⟨RX16, "fixed", "(LSumHouseModel$B;LSumHouseModel$B;IZ)V"⟩
abbrev cX16_slope : ByteArray := prog_14_method_120_code
def yX16_slope : MethodName := ⟨RX16, "slope", "(LSumHouseModel$B;LSumHouseModel$B;Z)V"⟩
abbrev cX16_derivative : ByteArray := prog_14_method_121_code
def yX16_derivative : MethodName := ⟨RX16, "derivative", "(LSumHouseModel$B;LSumHouseModel$B;LSumHouseModel$B;LSumHouseModel$B;Z)V"⟩
abbrev cX16_factorialOf : ByteArray := prog_14_method_122_code
def yX16_factorialOf : MethodName := ⟨RX16, "factorialOf", "(I)I"⟩
abbrev cX16_cells : ByteArray := prog_14_method_123_code
def yX16_cells : MethodName := ⟨RX16, "cells", "([III)I"⟩
abbrev cX16_ratioAt : ByteArray := prog_14_method_124_code
def yX16_ratioAt : MethodName := ⟨RX16, "ratioAt", "(LSumHouseModel$Thing;II)I"⟩
abbrev cX16_isWhole : ByteArray := prog_14_method_125_code
def yX16_isWhole : MethodName := ⟨RX16, "isWhole", "(I)Z"⟩
abbrev cX16_valueAt : ByteArray := prog_14_method_126_code
def yX16_valueAt : MethodName := ⟨RX16, "valueAt", "(LSumHouseModel$Thing;II)I"⟩
abbrev cX16_value : ByteArray := prog_14_method_127_code
def yX16_value : MethodName := ⟨RX16, "value", "(III)I"⟩
abbrev cX16_sumOf : ByteArray := prog_14_method_128_code
def yX16_sumOf : MethodName := ⟨RX16, "sumOf", "(LSumHouseModel$Thing;III)I"⟩
abbrev cX16_sum_ : ByteArray := prog_14_method_129_code
def yX16_sum_ : MethodName := ⟨RX16, "sum", "(IIII)I"⟩
abbrev cX16_form : ByteArray := prog_14_method_130_code
def yX16_form : MethodName := ⟨RX16, "form", "(LSumHouseModel$B;LSumHouseModel$B;)Z"⟩
abbrev cX16_form_ : ByteArray := prog_14_method_131_code
def yX16_form_ : MethodName := ⟨RX16, "form", "(III)I"⟩
abbrev cX16_areSame : ByteArray := prog_14_method_132_code
def yX16_areSame : MethodName := ⟨RX16, "areSame", "(LSumHouseModel$U;LSumHouseModel$U;)Z"⟩
abbrev cX16_depth : ByteArray := prog_14_method_133_code
def yX16_depth : MethodName := ⟨RX16, "depth", "(I)I"⟩
abbrev cX16_column : ByteArray := prog_14_method_134_code
def yX16_column : MethodName := ⟨RX16, "column", "(ILSumHouseModel$B;Z)V"⟩
abbrev cX16_lay : ByteArray := prog_14_method_135_code
def yX16_lay : MethodName := ⟨RX16, "lay", "(I[LSumHouseModel$B;I)I"⟩
abbrev cX16_clear : ByteArray := prog_14_method_136_code
def yX16_clear : MethodName := ⟨RX16, "clear", "(I)LSumHouseModel$U;"⟩
abbrev cX16_solveBy : ByteArray := prog_14_method_137_code
def yX16_solveBy : MethodName := ⟨RX16, "solveBy", "(IILSumHouseModel$U;)V"⟩
abbrev cX16_certificate : ByteArray := prog_14_method_138_code
def yX16_certificate : MethodName := ⟨RX16, "certificate", "(LSumHouseModel$B;LSumHouseModel$B;ILSumHouseModel$U;LSumHouseModel$U;LSumHouseModel$B;)Z"⟩
abbrev cX16_close : ByteArray := prog_14_method_139_code
def yX16_close : MethodName := ⟨RX16, "close", "(II)I"⟩
abbrev cX16_recur : ByteArray := prog_14_method_140_code
def yX16_recur : MethodName := ⟨RX16, "recur", "(III)I"⟩
abbrev cX16_keepRecord : ByteArray := prog_14_method_141_code
def yX16_keepRecord : MethodName := ⟨RX16, "keepRecord", "(I)I"⟩
abbrev cX16_recurAt : ByteArray := prog_14_method_142_code
def yX16_recurAt : MethodName := ⟨RX16, "recurAt", "(ILSumHouseModel$B;LSumHouseModel$B;LSumHouseModel$B;)I"⟩
abbrev cX16_part : ByteArray := prog_14_method_143_code
def yX16_part : MethodName := ⟨RX16, "part", "(LSumHouseModel$B;LSumHouseModel$U;ILSumHouseModel$B;)Z"⟩
abbrev cX16_makeRecord : ByteArray := prog_14_method_144_code
def yX16_makeRecord : MethodName := ⟨RX16, "makeRecord", "(IILSumHouseModel$B;)Z"⟩
abbrev cX16_part_ : ByteArray := prog_14_method_145_code
def yX16_part_ : MethodName := ⟨RX16, "part", "(III)I"⟩
abbrev cX16_check : ByteArray := prog_14_method_146_code
def yX16_check : MethodName := ⟨RX16, "check", "(II)I"⟩
abbrev cX16_isRight : ByteArray := prog_14_method_147_code
def yX16_isRight : MethodName := ⟨RX16, "isRight", "(LSumHouseModel$Thing;IILSumHouseModel$B;LSumHouseModel$B;LSumHouseModel$B;LSumHouseModel$B;)Z"⟩
abbrev cX16_polynomialAt : ByteArray := prog_14_method_148_code
def yX16_polynomialAt : MethodName := ⟨RX16, "polynomialAt", "([III)I"⟩
abbrev cX16_poke : ByteArray := prog_14_method_149_code
def yX16_poke : MethodName := ⟨RX16, "poke", "(IIIII)I"⟩
abbrev cX16_holds : ByteArray := prog_14_method_150_code
def yX16_holds : MethodName := ⟨RX16, "holds", "(IIIII)I"⟩
abbrev cX16_needsOf : ByteArray := prog_14_method_151_code
def yX16_needsOf : MethodName := ⟨RX16, "needsOf", "([III)I"⟩
abbrev cX16_makeRow : ByteArray := prog_14_method_152_code
def yX16_makeRow : MethodName := ⟨RX16, "makeRow", "([LSumHouseModel$U;I)Z"⟩
abbrev cX16_fill : ByteArray := prog_14_method_153_code
def yX16_fill : MethodName := ⟨RX16, "fill", "(LSumHouseModel$Thing;)V"⟩
abbrev cX16_row : ByteArray := prog_14_method_154_code
def yX16_row : MethodName := ⟨RX16, "row", "(II)I"⟩
abbrev cX16_first : ByteArray := prog_14_method_155_code
def yX16_first : MethodName := ⟨RX16, "first", "(II)I"⟩
abbrev cX16_at : ByteArray := prog_14_method_156_code
def yX16_at : MethodName := ⟨RX16, "at", "(II)I"⟩
abbrev cX16_degreeOf : ByteArray := prog_14_method_157_code
def yX16_degreeOf : MethodName := ⟨RX16, "degreeOf", "(LSumHouseModel$Thing;)I"⟩
abbrev cX16_unroll : ByteArray := prog_14_method_158_code
def yX16_unroll : MethodName := ⟨RX16, "unroll", "(LSumHouseModel$Thing;[[LSumHouseModel$U;[LSumHouseModel$U;)V"⟩
abbrev cX16_lighten : ByteArray := prog_14_method_159_code
def yX16_lighten : MethodName := ⟨RX16, "lighten", "([LSumHouseModel$U;LSumHouseModel$U;I)V"⟩
abbrev cX16_join : ByteArray := prog_14_method_160_code
def yX16_join : MethodName := ⟨RX16, "join", "(IIII)I"⟩
abbrev cX16_simple : ByteArray := prog_14_method_161_code
def yX16_simple : MethodName := ⟨RX16, "simple", "(LSumHouseModel$Thing;Z)V"⟩
abbrev cX16_combine : ByteArray := prog_14_method_162_code
def yX16_combine : MethodName := ⟨RX16, "combine", "(ILSumHouseModel$Thing;LSumHouseModel$Thing;I)I"⟩
abbrev cX16_feed : ByteArray := prog_14_method_163_code
def yX16_feed : MethodName := ⟨RX16, "feed", "(I)I"⟩
abbrev cX16_clear_ : ByteArray := prog_14_method_164_code
def yX16_clear_ : MethodName := ⟨RX16, "clear", "()I"⟩
abbrev cX16_tries : ByteArray := prog_14_method_165_code
def yX16_tries : MethodName := ⟨RX16, "tries", "(II)Z"⟩
abbrev cX16_guess : ByteArray := prog_14_method_166_code
def yX16_guess : MethodName := ⟨RX16, "guess", "(I)I"⟩
abbrev cX16_guessed : ByteArray := prog_14_method_167_code
def yX16_guessed : MethodName := ⟨RX16, "guessed", "(III)I"⟩
abbrev cX16_powerOf : ByteArray := prog_14_method_168_code
def yX16_powerOf : MethodName := ⟨RX16, "powerOf", "(LSumHouseModel$U;LSumHouseModel$U;JLSumHouseModel$U;)V"⟩
abbrev cX16_split : ByteArray := prog_14_method_169_code
def yX16_split : MethodName := ⟨RX16, "split", "(LSumHouseModel$U;I)V"⟩
abbrev cX16_roots : ByteArray := prog_14_method_170_code
def yX16_roots : MethodName := ⟨RX16, "roots", "(I)I"⟩
abbrev cX16_root : ByteArray := prog_14_method_171_code
def yX16_root : MethodName := ⟨RX16, "root", "(I)I"⟩
abbrev cX16_solve : ByteArray := prog_14_method_172_code
def yX16_solve : MethodName := ⟨RX16, "solve", "(II)I"⟩
abbrev cX16_strip : ByteArray := prog_14_method_173_code
def yX16_strip : MethodName := ⟨RX16, "strip", "(LSumHouseModel$U;I)I"⟩
abbrev cL_law : ByteArray := code
def yL_law : MethodName := ⟨RL, "law", "([I)Z"⟩
def zAll_0 : List Cond := [Cond.code yX0_init cX0_init 3 none, Cond.methodLink RX0 3 objectInit, Cond.instanceMethod objectInit, Cond.code objectInit ⟨#[0xb1]⟩ 1 none, Cond.fieldLink RX0 9 "SumHouse$Divisors" "room" "LSumHouse$Room;", Cond.fieldLink RX0 15 "SumHouse$Divisors" "planes" "LSumHouse$Planes;", Cond.arrayClass .int, Cond.fieldLink RX0 19 "SumHouse$Divisors" "from" "[I", Cond.fieldLink RX0 23 "SumHouse$Divisors" "degrees" "[I", Cond.fieldLink RX0 26 "SumHouse$Divisors" "once" "[I", Cond.code yX4_width cX4_width 2 (some .int), Cond.constant RX4 24 (131070), Cond.fieldLink RX4 12 "SumHouse$Room" "cells" "[I", Cond.code yX4_block cX4_block 5 (some .int), Cond.constant RX4 11 (131072), Cond.fieldLink RX4 16 "SumHouse$Room" "top" "I", Cond.fieldLink RX4 20 "SumHouse$Room" "full" "Z", Cond.code yX4_take cX4_take 4 (some .int), Cond.code yX4_move cX4_move 5 none, Cond.code yX4_lastOf cX4_lastOf 4 (some .int), Cond.code yX4_common cX4_common 16 (some .int), Cond.constant RX4 27 (131071), Cond.constant RX4 28 (2147483647), Cond.constantLong RX4 25 (2147483647), Cond.code yX4_get cX4_get 2 (some .int), Cond.code yX1_inverse cX1_inverse 16 (some .int), Cond.constantLong RX1 9 (2147483647), Cond.code yX4_scale cX4_scale 5 none, Cond.code yX4_clip cX4_clip 4 none, Cond.methodLink RX0 35 Lib.Math.max.name, Cond.static Lib.Math.max.name, Cond.initialized "java/lang/Math", Cond.code Lib.Math.max.name Lib.Math.max.code 2 (some .int), Cond.methodLink RX0 29 yX4_width, Cond.instanceMethod yX4_width, Cond.selects RX4 yX4_width yX4_width, Cond.initialized RX4, Cond.methodLink RX0 41 yX4_block, Cond.instanceMethod yX4_block, Cond.selects RX4 yX4_block yX4_block, Cond.methodLink RX0 44 yX4_take, Cond.instanceMethod yX4_take, Cond.selects RX4 yX4_take yX4_take, Cond.methodLink RX0 47 yX4_move, Cond.instanceMethod yX4_move, Cond.selects RX4 yX4_move yX4_move, Cond.methodLink RX0 51 yX4_lastOf, Cond.instanceMethod yX4_lastOf, Cond.selects RX4 yX4_lastOf yX4_lastOf, Cond.methodLink RX0 54 yX4_common, Cond.instanceMethod yX4_common, Cond.selects RX4 yX4_common yX4_common, Cond.methodLink RX0 58 yX4_get, Cond.instanceMethod yX4_get, Cond.selects RX4 yX4_get yX4_get, Cond.methodLink RX0 61 yX1_inverse, Cond.static yX1_inverse, Cond.initialized RX1, Cond.methodLink RX0 66 yX4_scale, Cond.instanceMethod yX4_scale]
def zAll_1 : List Cond := [Cond.selects RX4 yX4_scale yX4_scale, Cond.methodLink RX0 69 yX4_clip, Cond.instanceMethod yX4_clip, Cond.selects RX4 yX4_clip yX4_clip, Cond.code yX0_single cX0_single 7 (some .int), Cond.code yX4_height cX4_height 2 (some .int), Cond.code yX4_rowOf cX4_rowOf 3 (some .int), Cond.methodLink RX0 73 yX4_height, Cond.instanceMethod yX4_height, Cond.selects RX4 yX4_height yX4_height, Cond.methodLink RX0 76 yX4_rowOf, Cond.instanceMethod yX4_rowOf, Cond.selects RX4 yX4_rowOf yX4_rowOf, Cond.code yX0_content cX0_content 7 (some .int), Cond.code yX4_isNumber cX4_isNumber 2 (some .boolean), Cond.code yX4_copy cX4_copy 5 (some .int), Cond.code yX4_isZero cX4_isZero 2 (some .boolean), Cond.code yX4_span cX4_span 2 (some .int), Cond.code yX4_divide cX4_divide 12 (some .boolean), Cond.code yX4_addTimes cX4_addTimes 6 none, Cond.code yX4_release cX4_release 2 none, Cond.fieldLink RX2 9 "SumHouse$Planes" "room" "LSumHouse$Room;", Cond.fieldLink RX2 110 "SumHouse$Room" "top" "I", Cond.constant RX2 124 (2147483647), Cond.methodLink RX2 15 yX4_width, Cond.methodLink RX2 21 yX4_height, Cond.methodLink RX2 91 yX4_isZero, Cond.instanceMethod yX4_isZero, Cond.selects RX4 yX4_isZero yX4_isZero, Cond.methodLink RX2 31 yX4_block, Cond.methodLink RX2 44 yX4_span, Cond.instanceMethod yX4_span, Cond.selects RX4 yX4_span yX4_span, Cond.methodLink RX2 47 yX4_move, Cond.methodLink RX2 24 yX4_rowOf, Cond.methodLink RX2 114 yX4_lastOf, Cond.methodLink RX2 28 yX4_get, Cond.methodLink RX2 117 yX1_inverse, Cond.methodLink RX2 120 yX4_divide, Cond.instanceMethod yX4_divide, Cond.selects RX4 yX4_divide yX4_divide, Cond.methodLink RX2 87 yX4_addTimes, Cond.instanceMethod yX4_addTimes, Cond.selects RX4 yX4_addTimes yX4_addTimes, Cond.methodLink RX2 51 yX4_release, Cond.instanceMethod yX4_release, Cond.selects RX4 yX4_release yX4_release, Cond.code yX2_divide cX2_divide 19 (some .int), Cond.code yX4_settle cX4_settle 5 (some .int), Cond.fieldLink RX0 79 "SumHouse$Room" "top" "I", Cond.methodLink RX0 83 yX0_content, Cond.instanceMethod yX0_content, Cond.selects RX0 yX0_content yX0_content, Cond.initialized RX0, Cond.methodLink RX0 86 yX4_isNumber, Cond.instanceMethod yX4_isNumber, Cond.selects RX4 yX4_isNumber yX4_isNumber, Cond.methodLink RX0 90 yX4_copy, Cond.instanceMethod yX4_copy, Cond.selects RX4 yX4_copy yX4_copy]
def zAll_2 : List Cond := [Cond.methodLink RX0 93 yX2_divide, Cond.instanceMethod yX2_divide, Cond.selects RX2 yX2_divide yX2_divide, Cond.initialized RX2, Cond.methodLink RX0 98 yX4_settle, Cond.instanceMethod yX4_settle, Cond.selects RX4 yX4_settle yX4_settle, Cond.code yX0_primitive cX0_primitive 5 (some .int), Cond.code yX4_head cX4_head 4 (some .int), Cond.code yX2_scale cX2_scale 3 none, Cond.methodLink RX2 81 yX4_scale, Cond.code yX4_constant cX4_constant 2 (some .int), Cond.code yX4_trim cX4_trim 8 none, Cond.methodLink RX2 62 yX4_trim, Cond.instanceMethod yX4_trim, Cond.selects RX4 yX4_trim yX4_trim, Cond.code yX2_slice cX2_slice 4 (some .int), Cond.code yX4_put cX4_put 3 none, Cond.code yX4_weaveStart cX4_weaveStart 4 (some .int), Cond.methodLink RX4 48 yX4_take, Cond.methodLink RX4 51 yX4_put, Cond.instanceMethod yX4_put, Cond.selects RX4 yX4_put yX4_put, Cond.code yX4_horner cX4_horner 7 (some .int), Cond.methodLink RX2 101 yX4_horner, Cond.instanceMethod yX4_horner, Cond.selects RX4 yX4_horner yX4_horner, Cond.methodLink RX2 40 yX4_put, Cond.code yX2_atN cX2_atN 5 none, Cond.code yX4_weaveAgain cX4_weaveAgain 4 none, Cond.methodLink RX4 55 yX4_get, Cond.code yX1_times cX1_times 2 (some .int), Cond.code yX1_minus cX1_minus 2 (some .int), Cond.methodLink RX4 58 yX4_horner, Cond.methodLink RX4 29 yX1_inverse, Cond.methodLink RX4 45 yX1_minus, Cond.static yX1_minus, Cond.methodLink RX4 42 yX1_times, Cond.static yX1_times, Cond.methodLink RX4 62 yX4_addTimes, Cond.code yX4_weave cX4_weave 13 (some .boolean), Cond.code yX4_wovenRow cX4_wovenRow 3 (some .int), Cond.methodLink RX0 161 yX4_wovenRow, Cond.instanceMethod yX4_wovenRow, Cond.selects RX4 yX4_wovenRow yX4_wovenRow, Cond.methodLink RX0 164 yX4_trim, Cond.methodLink RX0 101 yX4_isZero, Cond.methodLink RX0 142 yX4_release, Cond.methodLink RX0 104 yX4_head, Cond.instanceMethod yX4_head, Cond.selects RX4 yX4_head yX4_head, Cond.methodLink RX0 107 yX2_scale, Cond.instanceMethod yX2_scale, Cond.selects RX2 yX2_scale yX2_scale, Cond.code yX0_tried cX0_tried 9 (some .int), Cond.methodLink RX0 127 Lib.Math.min.name, Cond.static Lib.Math.min.name, Cond.code Lib.Math.min.name Lib.Math.min.code 2 (some .int), Cond.constant RX0 133 (1234567), Cond.constant RX0 134 (1334567)]
def zAll_3 : List Cond := [Cond.fieldLink RX0 135 "SumHouse$Room" "full" "Z", Cond.methodLink RX0 124 yX2_slice, Cond.instanceMethod yX2_slice, Cond.selects RX2 yX2_slice yX2_slice, Cond.methodLink RX0 112 yX0_single, Cond.instanceMethod yX0_single, Cond.selects RX0 yX0_single yX0_single, Cond.methodLink RX0 130 yX4_weaveStart, Cond.instanceMethod yX4_weaveStart, Cond.selects RX4 yX4_weaveStart yX4_weaveStart, Cond.methodLink RX0 139 yX2_atN, Cond.instanceMethod yX2_atN, Cond.selects RX2 yX2_atN yX2_atN, Cond.methodLink RX0 109 yX4_constant, Cond.instanceMethod yX4_constant, Cond.selects RX4 yX4_constant yX4_constant, Cond.methodLink RX0 146 yX4_weaveAgain, Cond.instanceMethod yX4_weaveAgain, Cond.selects RX4 yX4_weaveAgain yX4_weaveAgain, Cond.methodLink RX0 149 yX4_horner, Cond.methodLink RX0 153 yX1_times, Cond.methodLink RX0 154 yX4_weave, Cond.instanceMethod yX4_weave, Cond.selects RX4 yX4_weave yX4_weave, Cond.methodLink RX0 158 yX0_tried, Cond.instanceMethod yX0_tried, Cond.selects RX0 yX0_tried yX0_tried, Cond.code yX0_lift cX0_lift 17 (some .int), Cond.code yX2_times cX2_times 9 (some .int), Cond.methodLink RX0 115 yX0_primitive, Cond.instanceMethod yX0_primitive, Cond.selects RX0 yX0_primitive yX0_primitive, Cond.methodLink RX0 118 yX0_lift, Cond.instanceMethod yX0_lift, Cond.selects RX0 yX0_lift yX0_lift, Cond.methodLink RX0 121 yX2_times, Cond.instanceMethod yX2_times, Cond.selects RX2 yX2_times yX2_times, Cond.code yX0_gcd cX0_gcd 5 (some .int), Cond.code yX1_power cX1_power 9 (some .int), Cond.constant RX1 13 (2147483646), Cond.code yX4_resultant cX4_resultant 17 (some .int), Cond.methodLink RX4 35 yX4_lastOf, Cond.methodLink RX4 39 yX1_power, Cond.static yX1_power, Cond.code yX0_woven cX0_woven 5 (some .int), Cond.methodLink RX0 167 yX4_resultant, Cond.instanceMethod yX4_resultant, Cond.selects RX4 yX4_resultant yX4_resultant, Cond.methodLink RX0 170 yX4_put, Cond.methodLink RX0 173 yX0_woven, Cond.instanceMethod yX0_woven, Cond.selects RX0 yX0_woven yX0_woven, Cond.code yX0_resultant cX0_resultant 12 (some .int), Cond.code yX0_cleaned cX0_cleaned 6 (some .int), Cond.methodLink RX0 209 yX4_addTimes, Cond.methodLink RX0 194 yX1_minus, Cond.code yX0_square cX0_square 6 none, Cond.code yX1_plus cX1_plus 2 (some .int), Cond.methodLink RX0 205 yX0_square]
def zAll_4 : List Cond := [Cond.instanceMethod yX0_square, Cond.selects RX0 yX0_square yX0_square, Cond.methodLink RX0 186 yX1_plus, Cond.static yX1_plus, Cond.code yX0_powerOf cX0_powerOf 13 none, Cond.constant RX0 201 (1073741823), Cond.methodLink RX0 190 yX0_powerOf, Cond.instanceMethod yX0_powerOf, Cond.selects RX0 yX0_powerOf yX0_powerOf, Cond.methodLink RX0 202 yX4_divide, Cond.code yX0_split cX0_split 11 (some .int), Cond.constant RX0 189 (2147483647), Cond.constant RX0 197 (1000000), Cond.methodLink RX0 198 yX0_split, Cond.instanceMethod yX0_split, Cond.selects RX0 yX0_split yX0_split, Cond.code yX0_distinct cX0_distinct 11 (some .int), Cond.code yX0_lowest cX0_lowest 5 (some .int), Cond.code yX0_isRoot cX0_isRoot 7 (some .boolean), Cond.methodLink RX0 176 yX0_distinct, Cond.instanceMethod yX0_distinct, Cond.selects RX0 yX0_distinct yX0_distinct, Cond.methodLink RX0 179 yX0_lowest, Cond.instanceMethod yX0_lowest, Cond.selects RX0 yX0_lowest yX0_lowest, Cond.methodLink RX0 182 yX0_isRoot, Cond.instanceMethod yX0_isRoot, Cond.selects RX0 yX0_isRoot yX0_isRoot, Cond.code yX0_rootsOf cX0_rootsOf 11 (some .int), Cond.code yX1_rest cX1_rest 4 (some .int), Cond.code yX1_small cX1_small 1 (some .int), Cond.constant RX1 11 (1073741823), Cond.constant RX1 12 (2147483647), Cond.code yX2_init cX2_init 2 none, Cond.methodLink RX2 3 objectInit, Cond.code yX2_cell cX2_cell 4 (some .int), Cond.code yX2_linear cX2_linear 5 (some .int), Cond.methodLink RX2 34 yX1_rest, Cond.static yX1_rest, Cond.code yX2_pair cX2_pair 6 (some .int), Cond.methodLink RX2 55 Lib.Math.min.name, Cond.code yX2_load cX2_load 8 (some .int), Cond.code yX2_save cX2_save 6 none, Cond.code yX6_stepNumber cX6_stepNumber 3 (some .int), Cond.fieldLink RX6 21 "SumHouse$Slot" "steps" "[I", Cond.code yX2_loadStep cX2_loadStep 6 (some .int), Cond.methodLink RX2 65 yX6_stepNumber, Cond.instanceMethod yX6_stepNumber, Cond.selects RX6 yX6_stepNumber yX6_stepNumber, Cond.initialized RX6, Cond.code yX6_putStep cX6_putStep 4 none, Cond.methodLink RX2 68 yX2_cell, Cond.instanceMethod yX2_cell, Cond.selects RX2 yX2_cell yX2_cell, Cond.methodLink RX2 72 yX6_putStep, Cond.instanceMethod yX6_putStep, Cond.selects RX6 yX6_putStep yX6_putStep, Cond.code yX2_saveStep cX2_saveStep 5 none, Cond.methodLink RX2 75 yX4_copy, Cond.methodLink RX2 78 yX2_slice]
def zAll_5 : List Cond := [Cond.code yX2_monic cX2_monic 3 (some .int), Cond.methodLink RX2 84 Lib.Math.max.name, Cond.code yX2_plus cX2_plus 6 (some .int), Cond.code yX2_slideK cX2_slideK 6 none, Cond.code yX2_slideN cX2_slideN 8 none, Cond.methodLink RX2 95 yX2_slideN, Cond.instanceMethod yX2_slideN, Cond.selects RX2 yX2_slideN yX2_slideN, Cond.methodLink RX2 98 yX2_slideK, Cond.instanceMethod yX2_slideK, Cond.selects RX2 yX2_slideK yX2_slideK, Cond.code yX2_slide cX2_slide 4 none, Cond.methodLink RX2 104 yX2_atN, Cond.code yX2_withN cX2_withN 4 (some .int), Cond.methodLink RX2 107 yX1_times, Cond.code yX2_withK cX2_withK 6 (some .int), Cond.code yX2_derivative cX2_derivative 8 (some .int), Cond.code yX2_turned cX2_turned 5 (some .int), Cond.code yX3_init cX3_init 4 none, Cond.methodLink RX3 3 objectInit, Cond.fieldLink RX3 9 "SumHouse$Ratios" "room" "LSumHouse$Room;", Cond.fieldLink RX3 15 "SumHouse$Ratios" "planes" "LSumHouse$Planes;", Cond.fieldLink RX3 19 "SumHouse$Ratios" "divisors" "LSumHouse$Divisors;", Cond.code yX3_under cX3_under 2 (some .int), Cond.methodLink RX3 23 yX4_span, Cond.code yX3_isWithin cX3_isWithin 5 (some .boolean), Cond.methodLink RX3 33 yX3_under, Cond.instanceMethod yX3_under, Cond.selects RX3 yX3_under yX3_under, Cond.initialized RX3, Cond.methodLink RX3 36 yX4_width, Cond.methodLink RX3 39 yX4_height, Cond.methodLink RX3 29 yX3_isWithin, Cond.instanceMethod yX3_isWithin, Cond.selects RX3 yX3_isWithin yX3_isWithin, Cond.code yX3_fits cX3_fits 2 (some .boolean), Cond.methodLink RX3 42 yX2_pair, Cond.instanceMethod yX2_pair, Cond.selects RX2 yX2_pair yX2_pair, Cond.methodLink RX3 48 yX4_head, Cond.methodLink RX3 51 yX1_inverse, Cond.methodLink RX3 56 yX2_scale, Cond.code yX3_pack cX3_pack 6 (some .int), Cond.fieldLink RX3 60 "SumHouse$Room" "top" "I", Cond.methodLink RX3 64 yX0_gcd, Cond.instanceMethod yX0_gcd, Cond.selects RX0 yX0_gcd yX0_gcd, Cond.methodLink RX3 70 yX2_divide, Cond.methodLink RX3 73 yX3_pack, Cond.instanceMethod yX3_pack, Cond.selects RX3 yX3_pack yX3_pack, Cond.code yX3_reduced cX3_reduced 7 (some .int), Cond.methodLink RX3 76 yX2_times, Cond.code yX3_times cX3_times 8 (some .int), Cond.methodLink RX3 79 yX4_copy, Cond.code yX3_inverse cX3_inverse 4 (some .int), Cond.methodLink RX3 90 yX4_settle, Cond.code yX3_side cX3_side 6 (some .int), Cond.methodLink RX3 82 Lib.Math.abs.name, Cond.static Lib.Math.abs.name]
def zAll_6 : List Cond := [Cond.code Lib.Math.abs.name Lib.Math.abs.code 1 (some .int), Cond.methodLink RX3 87 yX3_side, Cond.instanceMethod yX3_side, Cond.selects RX3 yX3_side yX3_side, Cond.code yX3_power cX3_power 5 (some .int), Cond.code yX4_init cX4_init 1 none, Cond.methodLink RX4 3 objectInit, Cond.code yX4_empty cX4_empty 1 none, Cond.code yX5_init cX5_init 5 none, Cond.methodLink RX5 3 objectInit, Cond.fieldLink RX5 9 "SumHouse$Sequences" "room" "LSumHouse$Room;", Cond.fieldLink RX5 15 "SumHouse$Sequences" "planes" "LSumHouse$Planes;", Cond.fieldLink RX5 19 "SumHouse$Sequences" "divisors" "LSumHouse$Divisors;", Cond.fieldLink RX5 23 "SumHouse$Sequences" "solver" "LSumHouse$Solver;", Cond.fieldLink RX5 27 "SumHouse$Sequences" "family" "[I", Cond.fieldLink RX5 31 "SumHouse$Sequences" "mine" "[I", Cond.fieldLink RX5 34 "SumHouse$Sequences" "other" "[I", Cond.fieldLink RX5 37 "SumHouse$Sequences" "left" "[I", Cond.fieldLink RX5 40 "SumHouse$Sequences" "right" "[I", Cond.code yX6_stepAt cX6_stepAt 6 (some .int), Cond.constantLong RX6 58 (2147483647), Cond.code yX5_numbersOf cX5_numbersOf 8 none, Cond.fieldLink RX5 47 "SumHouse$Slot" "order" "I", Cond.fieldLink RX5 53 "SumHouse$Slot" "has" "I", Cond.fieldLink RX5 56 "SumHouse$Slot" "firsts" "[I", Cond.methodLink RX5 59 yX6_stepAt, Cond.instanceMethod yX6_stepAt, Cond.selects RX6 yX6_stepAt yX6_stepAt, Cond.methodLink RX5 63 yX1_times, Cond.methodLink RX5 68 yX1_plus, Cond.methodLink RX5 71 yX1_inverse, Cond.methodLink RX5 75 yX1_minus, Cond.methodLink RX5 43 yX5_numbersOf, Cond.instanceMethod yX5_numbersOf, Cond.selects RX5 yX5_numbersOf yX5_numbersOf, Cond.initialized RX5, Cond.code yX5_member cX5_member 3 (some .int), Cond.code yX5_needsOf cX5_needsOf 5 (some .int), Cond.methodLink RX5 78 Lib.Math.min.name, Cond.methodLink RX5 83 yX4_width, Cond.methodLink RX5 88 yX4_horner, Cond.code yX6_wipe cX6_wipe 1 none, Cond.fieldLink RX6 27 "SumHouse$Slot" "kind" "I", Cond.fieldLink RX6 31 "SumHouse$Slot" "x" "I", Cond.fieldLink RX6 34 "SumHouse$Slot" "y" "I", Cond.fieldLink RX6 37 "SumHouse$Slot" "factorials" "I", Cond.fieldLink RX6 40 "SumHouse$Slot" "order" "I", Cond.fieldLink RX6 43 "SumHouse$Slot" "needs" "I", Cond.fieldLink RX6 46 "SumHouse$Slot" "has" "I", Cond.fieldLink RX5 95 "SumHouse$Slot" "kind" "I", Cond.fieldLink RX5 98 "SumHouse$Slot" "needs" "I", Cond.methodLink RX5 92 yX6_wipe, Cond.instanceMethod yX6_wipe, Cond.selects RX6 yX6_wipe yX6_wipe, Cond.methodLink RX5 101 yX2_saveStep, Cond.instanceMethod yX2_saveStep, Cond.selects RX2 yX2_saveStep yX2_saveStep, Cond.code yX5_save cX5_save 6 none, Cond.methodLink RX5 107 yX2_loadStep, Cond.instanceMethod yX2_loadStep]
def zAll_7 : List Cond := [Cond.selects RX2 yX2_loadStep yX2_loadStep, Cond.methodLink RX5 111 yX4_isZero, Cond.methodLink RX5 115 yX0_cleaned, Cond.instanceMethod yX0_cleaned, Cond.selects RX0 yX0_cleaned yX0_cleaned, Cond.methodLink RX5 121 yX5_needsOf, Cond.instanceMethod yX5_needsOf, Cond.selects RX5 yX5_needsOf yX5_needsOf, Cond.methodLink RX5 124 yX5_save, Cond.instanceMethod yX5_save, Cond.selects RX5 yX5_save yX5_save, Cond.code yX5_fromRecord cX5_fromRecord 5 (some .int), Cond.methodLink RX5 128 Lib.Math.max.name, Cond.code yX5_joinedRow cX5_joinedRow 5 (some .int), Cond.constant RX5 135 (2147483646), Cond.methodLink RX5 131 yX2_slideN, Cond.methodLink RX5 136 yX2_plus, Cond.instanceMethod yX2_plus, Cond.selects RX2 yX2_plus yX2_plus, Cond.methodLink RX5 138 yX2_scale, Cond.methodLink RX5 141 yX5_joinedRow, Cond.instanceMethod yX5_joinedRow, Cond.selects RX5 yX5_joinedRow yX5_joinedRow, Cond.code yX5_moved cX5_moved 6 (some .int), Cond.code yX5_degreeOf cX5_degreeOf 4 (some .int), Cond.methodLink RX5 188 yX6_stepNumber, Cond.code yX6_wide cX6_wide 2 (some .int), Cond.fieldLink RX6 15 "SumHouse$Slot" "above" "[I", Cond.fieldLink RX6 18 "SumHouse$Slot" "below" "[I", Cond.methodLink RX6 49 Lib.Math.min.name, Cond.methodLink RX7 25 Lib.Math.min.name, Cond.methodLink RX7 31 Lib.Math.max.name, Cond.fieldLink RX7 34 "SumHouse$Solver" "rows" "I", Cond.fieldLink RX7 38 "SumHouse$Solver" "cols" "I", Cond.fieldLink RX7 41 "SumHouse$Solver" "from" "I", Cond.fieldLink RX7 44 "SumHouse$Solver" "need" "I", Cond.fieldLink RX7 47 "SumHouse$Solver" "points" "I", Cond.fieldLink RX7 50 "SumHouse$Solver" "rank" "I", Cond.fieldLink RX7 53 "SumHouse$Solver" "done" "Z", Cond.fieldLink RX7 57 "SumHouse$Solver" "target" "I", Cond.fieldLink RX7 9 "SumHouse$Solver" "room" "LSumHouse$Room;", Cond.fieldLink RX7 65 "SumHouse$Solver" "woven" "I", Cond.fieldLink RX7 72 "SumHouse$Solver" "values" "I", Cond.fieldLink RX7 19 "SumHouse$Solver" "order" "[I", Cond.methodLink RX7 60 yX4_weaveStart, Cond.methodLink RX7 68 yX4_take, Cond.code yX7_begin cX7_begin 7 none, Cond.code yX5_unfold cX5_unfold 14 (some .boolean), Cond.code yX6_tall cX6_tall 2 (some .int), Cond.code yX6_ratioNumber cX6_ratioNumber 4 (some .int), Cond.code yX6_sideAt cX6_sideAt 10 (some .int), Cond.methodLink RX6 60 yX6_tall, Cond.instanceMethod yX6_tall, Cond.selects RX6 yX6_tall yX6_tall, Cond.methodLink RX6 64 yX6_wide, Cond.instanceMethod yX6_wide, Cond.selects RX6 yX6_wide yX6_wide, Cond.methodLink RX6 67 yX6_ratioNumber, Cond.instanceMethod yX6_ratioNumber, Cond.selects RX6 yX6_ratioNumber yX6_ratioNumber]
def zAll_8 : List Cond := [Cond.code yX7_put cX7_put 4 none, Cond.fieldLink RX7 15 "SumHouse$Solver" "matrix" "[I", Cond.methodLink RX5 185 yX6_sideAt, Cond.instanceMethod yX6_sideAt, Cond.selects RX6 yX6_sideAt yX6_sideAt, Cond.methodLink RX5 191 yX7_put, Cond.instanceMethod yX7_put, Cond.selects RX7 yX7_put yX7_put, Cond.initialized RX7, Cond.code yX5_putColumns cX5_putColumns 13 none, Cond.code yX7_entry cX7_entry 3 (some .int), Cond.code yX7_search cX7_search 4 (some .int), Cond.methodLink RX7 78 yX7_entry, Cond.instanceMethod yX7_entry, Cond.selects RX7 yX7_entry yX7_entry, Cond.code yX7_eliminate cX7_eliminate 8 none, Cond.constant RX7 101 (2147483647), Cond.constantLong RX7 105 (2147483647), Cond.methodLink RX7 96 yX1_inverse, Cond.methodLink RX7 102 yX1_times, Cond.fieldLink RX7 22 "SumHouse$Solver" "pivots" "[I", Cond.methodLink RX7 107 yX4_get, Cond.methodLink RX7 110 yX1_minus, Cond.methodLink RX7 113 yX4_put, Cond.methodLink RX7 116 yX4_scale, Cond.code yX7_solveAt cX7_solveAt 6 none, Cond.methodLink RX7 75 yX7_search, Cond.instanceMethod yX7_search, Cond.selects RX7 yX7_search yX7_search, Cond.methodLink RX7 81 yX7_eliminate, Cond.instanceMethod yX7_eliminate, Cond.selects RX7 yX7_eliminate yX7_eliminate, Cond.methodLink RX7 85 yX4_weaveAgain, Cond.methodLink RX7 89 yX7_solveAt, Cond.instanceMethod yX7_solveAt, Cond.selects RX7 yX7_solveAt yX7_solveAt, Cond.methodLink RX7 92 yX4_weave, Cond.code yX7_point cX7_point 9 none, Cond.methodLink RX7 120 yX4_constant, Cond.methodLink RX7 123 yX4_block, Cond.methodLink RX7 126 yX4_wovenRow, Cond.methodLink RX7 129 yX4_move, Cond.methodLink RX7 132 yX4_trim, Cond.code yX7_factorOf cX7_factorOf 4 (some .int), Cond.constant RX5 158 (3456789), Cond.constant RX5 159 (3556789), Cond.fieldLink RX5 160 "SumHouse$Solver" "done" "Z", Cond.fieldLink RX5 164 "SumHouse$Room" "full" "Z", Cond.fieldLink RX5 179 "SumHouse$Solver" "target" "I", Cond.methodLink RX5 145 yX5_degreeOf, Cond.static yX5_degreeOf, Cond.methodLink RX5 149 yX6_wide, Cond.methodLink RX5 152 yX7_begin, Cond.instanceMethod yX7_begin, Cond.selects RX7 yX7_begin yX7_begin, Cond.methodLink RX5 167 yX5_unfold, Cond.instanceMethod yX5_unfold, Cond.selects RX5 yX5_unfold yX5_unfold, Cond.methodLink RX5 171 yX5_putColumns, Cond.instanceMethod yX5_putColumns]
def zAll_9 : List Cond := [Cond.selects RX5 yX5_putColumns yX5_putColumns, Cond.methodLink RX5 175 yX7_point, Cond.instanceMethod yX7_point, Cond.selects RX7 yX7_point yX7_point, Cond.methodLink RX5 182 yX7_factorOf, Cond.instanceMethod yX7_factorOf, Cond.selects RX7 yX7_factorOf yX7_factorOf, Cond.code yX5_joined cX5_joined 13 (some .int), Cond.code yX5_isGuess cX5_isGuess 9 (some .boolean), Cond.fieldLink RX5 209 "SumHouse$Room" "top" "I", Cond.methodLink RX5 206 yX4_block, Cond.methodLink RX5 212 yX4_get, Cond.methodLink RX5 215 yX4_release, Cond.methodLink RX5 218 yX4_put, Cond.methodLink RX5 220 yX4_trim, Cond.code yX5_guessRow cX5_guessRow 10 (some .int), Cond.methodLink RX5 195 yX4_empty, Cond.instanceMethod yX4_empty, Cond.selects RX4 yX4_empty yX4_empty, Cond.methodLink RX5 198 yX5_isGuess, Cond.instanceMethod yX5_isGuess, Cond.selects RX5 yX5_isGuess yX5_isGuess, Cond.methodLink RX5 202 yX5_guessRow, Cond.instanceMethod yX5_guessRow, Cond.selects RX5 yX5_guessRow yX5_guessRow, Cond.code yX5_guessed cX5_guessed 6 (some .int), Cond.code yX6_init cX6_init 1 none, Cond.methodLink RX6 5 objectInit, Cond.fieldLink RX6 11 "SumHouse$Slot" "facts" "[I", Cond.fieldLink RX6 24 "SumHouse$Slot" "firsts" "[I", Cond.code yX6_fact cX6_fact 3 (some .int), Cond.code yX6_putAbove cX6_putAbove 4 none, Cond.methodLink RX6 55 Lib.Math.max.name, Cond.code yX6_isZero cX6_isZero 1 (some .boolean), Cond.code yX6_isWhole cX6_isWhole 1 (some .boolean), Cond.code yX6_isFreeOfK cX6_isFreeOfK 1 (some .boolean), Cond.code yX6_addFirst cX6_addFirst 2 (some .int), Cond.code yX7_init cX7_init 2 none, Cond.methodLink RX7 3 objectInit, Cond.methodLink RX7 135 yX4_rowOf, Cond.code yX7_factorsBelow cX7_factorsBelow 4 (some .int), Cond.code yX8_init cX8_init 7 none, Cond.methodLink RX8 3 objectInit, Cond.fieldLink RX8 9 "SumHouse$Sums" "room" "LSumHouse$Room;", Cond.fieldLink RX8 15 "SumHouse$Sums" "planes" "LSumHouse$Planes;", Cond.fieldLink RX8 19 "SumHouse$Sums" "divisors" "LSumHouse$Divisors;", Cond.fieldLink RX8 23 "SumHouse$Sums" "ratios" "LSumHouse$Ratios;", Cond.fieldLink RX8 27 "SumHouse$Sums" "terms" "LSumHouse$Terms;", Cond.fieldLink RX8 31 "SumHouse$Sums" "solver" "LSumHouse$Solver;", Cond.fieldLink RX8 35 "SumHouse$Sums" "steps" "[I", Cond.fieldLink RX8 39 "SumHouse$Sums" "pieces" "[I", Cond.fieldLink RX8 42 "SumHouse$Sums" "family" "[I", Cond.fieldLink RX8 45 "SumHouse$Sums" "columns" "[I", Cond.methodLink RX8 64 yX4_height, Cond.methodLink RX8 127 yX4_width, Cond.methodLink RX8 111 yX4_copy, Cond.methodLink RX8 84 yX1_minus, Cond.methodLink RX8 67 yX2_slideK, Cond.methodLink RX8 92 yX2_times, Cond.code yX8_grown cX8_grown 7 (some .int)]
def zAll_10 : List Cond := [Cond.methodLink RX8 130 yX3_isWithin, Cond.code yX8_isModest cX8_isModest 2 (some .boolean), Cond.fieldLink RX8 107 "SumHouse$Sums" "formA" "I", Cond.fieldLink RX8 117 "SumHouse$Sums" "formB" "I", Cond.fieldLink RX8 120 "SumHouse$Sums" "formC" "I", Cond.methodLink RX8 48 yX3_under, Cond.methodLink RX8 54 yX0_primitive, Cond.methodLink RX8 59 yX4_constant, Cond.methodLink RX8 73 yX0_lift, Cond.methodLink RX8 77 yX2_divide, Cond.methodLink RX8 80 yX8_grown, Cond.instanceMethod yX8_grown, Cond.selects RX8 yX8_grown yX8_grown, Cond.initialized RX8, Cond.methodLink RX8 89 yX2_slice, Cond.methodLink RX8 95 yX0_single, Cond.methodLink RX8 98 yX4_head, Cond.methodLink RX8 101 yX1_inverse, Cond.methodLink RX8 104 yX2_scale, Cond.methodLink RX8 114 yX2_monic, Cond.instanceMethod yX2_monic, Cond.selects RX2 yX2_monic yX2_monic, Cond.methodLink RX8 123 yX8_isModest, Cond.instanceMethod yX8_isModest, Cond.selects RX8 yX8_isModest yX8_isModest, Cond.code yX8_makeForm cX8_makeForm 11 (some .boolean), Cond.methodLink RX8 143 yX4_isZero, Cond.methodLink RX8 149 yX1_times, Cond.methodLink RX8 140 yX2_plus, Cond.code yX8_numberOf cX8_numberOf 4 (some .int), Cond.methodLink RX8 134 Lib.Math.max.name, Cond.constant RX8 139 (2147483646), Cond.methodLink RX8 146 yX8_numberOf, Cond.instanceMethod yX8_numberOf, Cond.selects RX8 yX8_numberOf yX8_numberOf, Cond.code yX8_depthFor cX8_depthFor 10 (some .int), Cond.methodLink RX8 189 yX4_put, Cond.methodLink RX8 192 yX2_atN, Cond.methodLink RX8 196 yX4_get, Cond.methodLink RX8 199 yX7_put, Cond.methodLink RX8 201 yX1_plus, Cond.code yX8_putUnknowns cX8_putUnknowns 11 none, Cond.code yX8_putPieces cX8_putPieces 10 none, Cond.fieldLink RX8 150 "SumHouse$Sums" "scaleAB" "I", Cond.fieldLink RX8 153 "SumHouse$Sums" "depth" "I", Cond.constant RX8 165 (7654321), Cond.constant RX8 166 (7754321), Cond.fieldLink RX8 167 "SumHouse$Solver" "done" "Z", Cond.fieldLink RX8 171 "SumHouse$Room" "full" "Z", Cond.fieldLink RX8 186 "SumHouse$Solver" "target" "I", Cond.methodLink RX8 156 yX7_begin, Cond.methodLink RX8 162 yX4_take, Cond.methodLink RX8 174 yX8_putUnknowns, Cond.instanceMethod yX8_putUnknowns, Cond.selects RX8 yX8_putUnknowns yX8_putUnknowns, Cond.methodLink RX8 178 yX8_putPieces, Cond.instanceMethod yX8_putPieces, Cond.selects RX8 yX8_putPieces yX8_putPieces, Cond.methodLink RX8 182 yX7_point, Cond.code yX8_equation cX8_equation 15 (some .boolean)]
def zAll_11 : List Cond := [Cond.methodLink RX8 203 yX8_makeForm, Cond.instanceMethod yX8_makeForm, Cond.selects RX8 yX8_makeForm yX8_makeForm, Cond.methodLink RX8 206 yX8_depthFor, Cond.instanceMethod yX8_depthFor, Cond.selects RX8 yX8_depthFor yX8_depthFor, Cond.methodLink RX8 209 yX8_equation, Cond.instanceMethod yX8_equation, Cond.selects RX8 yX8_equation yX8_equation, Cond.code yX8_solved cX8_solved 5 (some .int), Cond.fieldLink RX8 223 "SumHouse$Sums" "whole" "I", Cond.fieldLink RX8 229 "SumHouse$Sums" "made" "I", Cond.methodLink RX8 213 yX7_factorOf, Cond.methodLink RX8 216 yX0_cleaned, Cond.methodLink RX8 220 yX7_factorsBelow, Cond.instanceMethod yX7_factorsBelow, Cond.selects RX7 yX7_factorsBelow yX7_factorsBelow, Cond.methodLink RX8 226 yX3_reduced, Cond.instanceMethod yX3_reduced, Cond.selects RX3 yX3_reduced yX3_reduced, Cond.methodLink RX8 232 yX3_fits, Cond.instanceMethod yX3_fits, Cond.selects RX3 yX3_fits yX3_fits, Cond.code yX8_answer cX8_answer 10 (some .int), Cond.code yX9_ratioOf cX9_ratioOf 2 (some .int), Cond.fieldLink RX9 15 "SumHouse$Terms" "planes" "LSumHouse$Planes;", Cond.fieldLink RX9 239 "SumHouse$Terms" "lower" "I", Cond.fieldLink RX9 236 "SumHouse$Terms" "upper" "I", Cond.fieldLink RX9 11 "SumHouse$Terms" "room" "LSumHouse$Room;", Cond.fieldLink RX9 23 "SumHouse$Terms" "ratios" "LSumHouse$Ratios;", Cond.methodLink RX9 75 yX2_linear, Cond.instanceMethod yX2_linear, Cond.selects RX2 yX2_linear yX2_linear, Cond.methodLink RX9 233 yX2_divide, Cond.methodLink RX9 153 yX2_times, Cond.methodLink RX9 252 yX4_settle, Cond.methodLink RX9 81 yX4_copy, Cond.methodLink RX9 253 yX2_pair, Cond.methodLink RX9 52 yX3_under, Cond.code yX9_stepLine cX9_stepLine 9 none, Cond.methodLink RX9 141 Lib.Math.abs.name, Cond.methodLink RX9 117 yX4_get, Cond.methodLink RX9 248 yX9_stepLine, Cond.instanceMethod yX9_stepLine, Cond.selects RX9 yX9_stepLine yX9_stepLine, Cond.initialized RX9, Cond.code yX9_stepFactorial cX9_stepFactorial 11 none, Cond.fieldLink RX9 150 "SumHouse$Room" "top" "I", Cond.fieldLink RX9 19 "SumHouse$Terms" "divisors" "LSumHouse$Divisors;", Cond.methodLink RX9 46 yX9_ratioOf, Cond.instanceMethod yX9_ratioOf, Cond.selects RX9 yX9_ratioOf yX9_ratioOf, Cond.methodLink RX9 72 yX4_constant, Cond.methodLink RX9 214 yX2_slide, Cond.instanceMethod yX2_slide, Cond.selects RX2 yX2_slide yX2_slide, Cond.methodLink RX9 228 yX0_gcd, Cond.methodLink RX9 174 yX1_power, Cond.methodLink RX9 198 yX2_scale, Cond.methodLink RX9 242 yX3_pack]
def zAll_12 : List Cond := [Cond.methodLink RX9 245 yX9_stepFactorial, Cond.instanceMethod yX9_stepFactorial, Cond.selects RX9 yX9_stepFactorial yX9_stepFactorial, Cond.code yX9_step cX9_step 12 (some .int), Cond.fieldLink RX8 240 "SumHouse$Sums" "quotient" "I", Cond.methodLink RX8 235 yX9_step, Cond.instanceMethod yX9_step, Cond.selects RX9 yX9_step yX9_step, Cond.methodLink RX8 243 yX8_solved, Cond.instanceMethod yX8_solved, Cond.selects RX8 yX8_solved yX8_solved, Cond.code yX8_alone cX8_alone 2 (some .int), Cond.code yX8_collect cX8_collect 5 (some .boolean), Cond.methodLink RX8 246 yX0_gcd, Cond.methodLink RX8 249 yX4_settle, Cond.methodLink RX8 252 yX3_times, Cond.instanceMethod yX3_times, Cond.selects RX3 yX3_times yX3_times, Cond.code yX8_attempt cX8_attempt 8 (some .int), Cond.fieldLink RX8 258 "SumHouse$Slot" "kind" "I", Cond.fieldLink RX8 261 "SumHouse$Slot" "order" "I", Cond.fieldLink RX8 268 "SumHouse$Slot" "above" "[I", Cond.fieldLink RX8 275 "SumHouse$Slot" "below" "[I", Cond.methodLink RX8 253 yX6_wipe, Cond.methodLink RX8 264 yX2_saveStep, Cond.methodLink RX8 271 yX2_save, Cond.instanceMethod yX2_save, Cond.selects RX2 yX2_save yX2_save, Cond.code yX8_save cX8_save 4 none, Cond.methodLink RX8 278 yX2_loadStep, Cond.methodLink RX8 282 yX2_pair, Cond.methodLink RX8 285 yX2_load, Cond.instanceMethod yX2_load, Cond.selects RX2 yX2_load yX2_load, Cond.code yX8_isRight cX8_isRight 14 (some .boolean), Cond.fieldLink RX9 84 "SumHouse$Slot" "kind" "I", Cond.fieldLink RX9 96 "SumHouse$Slot" "factorials" "I", Cond.fieldLink RX9 27 "SumHouse$Terms" "factorials" "[I", Cond.constantLong RX9 34 (2147483647), Cond.fieldLink RX9 90 "SumHouse$Slot" "x" "I", Cond.fieldLink RX9 93 "SumHouse$Slot" "y" "I", Cond.methodLink RX9 217 yX1_rest, Cond.methodLink RX9 256 yX6_sideAt, Cond.methodLink RX9 259 yX6_fact, Cond.instanceMethod yX6_fact, Cond.selects RX6 yX6_fact yX6_fact, Cond.methodLink RX9 262 yX1_inverse, Cond.code yX9_valueOf cX9_valueOf 14 (some .int), Cond.methodLink RX9 263 yX9_valueOf, Cond.instanceMethod yX9_valueOf, Cond.selects RX9 yX9_valueOf yX9_valueOf, Cond.methodLink RX9 267 yX1_plus, Cond.code yX9_sumOf cX9_sumOf 8 (some .int), Cond.methodLink RX8 300 yX6_sideAt, Cond.methodLink RX8 303 yX9_valueOf, Cond.code yX8_certified cX8_certified 7 (some .int), Cond.methodLink RX8 289 yX9_sumOf, Cond.instanceMethod yX9_sumOf, Cond.selects RX9 yX9_sumOf yX9_sumOf, Cond.methodLink RX8 293 yX6_stepAt]
def zAll_13 : List Cond := [Cond.methodLink RX8 296 yX8_certified, Cond.instanceMethod yX8_certified, Cond.selects RX8 yX8_certified yX8_certified, Cond.code yX8_holdsBy cX8_holdsBy 9 (some .int), Cond.code yX9_init cX9_init 8 none, Cond.methodLink RX9 5 objectInit, Cond.fieldLink RX9 31 "SumHouse$Terms" "lines" "[I", Cond.code yX9_open cX9_open 2 (some .int), Cond.methodLink RX9 36 yX4_take, Cond.methodLink RX9 42 yX4_put, Cond.code yX9_size cX9_size 3 (some .int), Cond.methodLink RX9 49 yX4_span, Cond.methodLink RX9 57 yX9_size, Cond.instanceMethod yX9_size, Cond.selects RX9 yX9_size yX9_size, Cond.methodLink RX9 60 yX4_move, Cond.methodLink RX9 64 yX4_release, Cond.code yX9_settle cX9_settle 4 (some .int), Cond.code yX9_ofNumber cX9_ofNumber 3 (some .int), Cond.methodLink RX9 68 yX9_open, Cond.instanceMethod yX9_open, Cond.selects RX9 yX9_open yX9_open, Cond.code yX9_line cX9_line 5 (some .int), Cond.code yX9_wrapped cX9_wrapped 3 (some .int), Cond.fieldLink RX9 98 "SumHouse$Slot" "facts" "[I", Cond.fieldLink RX9 101 "SumHouse$Slot" "above" "[I", Cond.fieldLink RX9 108 "SumHouse$Slot" "below" "[I", Cond.methodLink RX9 104 yX2_load, Cond.code yX9_load cX9_load 4 (some .int), Cond.code yX9_kindOf cX9_kindOf 2 (some .int), Cond.methodLink RX9 120 Lib.Math.min.name, Cond.methodLink RX9 111 yX6_wipe, Cond.methodLink RX9 114 yX9_kindOf, Cond.instanceMethod yX9_kindOf, Cond.selects RX9 yX9_kindOf yX9_kindOf, Cond.methodLink RX9 126 yX2_save, Cond.code yX9_save cX9_save 4 (some .int), Cond.code yX9_isZero cX9_isZero 2 (some .boolean), Cond.methodLink RX9 130 yX4_isZero, Cond.code yX9_rank cX9_rank 3 (some .int), Cond.code yX9_addFactorial cX9_addFactorial 11 none, Cond.methodLink RX9 134 yX9_rank, Cond.static yX9_rank, Cond.code yX9_addFactorials cX9_addFactorials 6 none, Cond.methodLink RX9 137 yX9_addFactorial, Cond.instanceMethod yX9_addFactorial, Cond.selects RX9 yX9_addFactorial yX9_addFactorial, Cond.code yX9_powers cX9_powers 4 (some .int), Cond.methodLink RX9 144 yX3_fits, Cond.methodLink RX9 147 yX9_powers, Cond.instanceMethod yX9_powers, Cond.selects RX9 yX9_powers yX9_powers, Cond.code yX9_fits cX9_fits 2 (some .boolean), Cond.methodLink RX9 156 yX2_plus, Cond.methodLink RX9 159 yX3_reduced, Cond.methodLink RX9 162 yX9_fits, Cond.instanceMethod yX9_fits, Cond.selects RX9 yX9_fits yX9_fits, Cond.methodLink RX9 163 yX9_settle, Cond.instanceMethod yX9_settle]
def zAll_14 : List Cond := [Cond.selects RX9 yX9_settle yX9_settle, Cond.code yX9_plus cX9_plus 12 (some .int), Cond.methodLink RX9 166 yX9_isZero, Cond.instanceMethod yX9_isZero, Cond.selects RX9 yX9_isZero yX9_isZero, Cond.methodLink RX9 167 yX9_ofNumber, Cond.instanceMethod yX9_ofNumber, Cond.selects RX9 yX9_ofNumber yX9_ofNumber, Cond.methodLink RX9 170 yX3_inverse, Cond.instanceMethod yX3_inverse, Cond.selects RX3 yX3_inverse yX3_inverse, Cond.methodLink RX9 173 yX3_times, Cond.methodLink RX9 179 yX1_times, Cond.methodLink RX9 180 yX9_addFactorials, Cond.instanceMethod yX9_addFactorials, Cond.selects RX9 yX9_addFactorials yX9_addFactorials, Cond.code yX9_times cX9_times 7 (some .int), Cond.methodLink RX9 186 Lib.Math.max.name, Cond.methodLink RX9 183 yX4_width, Cond.methodLink RX9 189 yX4_height, Cond.methodLink RX9 192 yX3_power, Cond.instanceMethod yX3_power, Cond.selects RX3 yX3_power yX3_power, Cond.code yX9_power cX9_power 8 (some .int), Cond.code yX9_isNumberLine cX9_isNumberLine 2 (some .boolean), Cond.methodLink RX9 193 yX9_isNumberLine, Cond.instanceMethod yX9_isNumberLine, Cond.selects RX9 yX9_isNumberLine yX9_isNumberLine, Cond.methodLink RX9 196 yX9_power, Cond.instanceMethod yX9_power, Cond.selects RX9 yX9_power yX9_power, Cond.code yX9_powerOfLine cX9_powerOfLine 4 (some .int), Cond.constant RX9 197 (2147483646), Cond.code yX9_negative cX9_negative 2 (some .int), Cond.code yX9_keepLine cX9_keepLine 5 (some .boolean), Cond.methodLink RX9 201 yX4_isNumber, Cond.methodLink RX9 204 yX2_cell, Cond.methodLink RX9 207 yX1_small, Cond.static yX1_small, Cond.methodLink RX9 210 yX9_keepLine, Cond.instanceMethod yX9_keepLine, Cond.selects RX9 yX9_keepLine yX9_keepLine, Cond.code yX9_isLine cX9_isLine 5 (some .boolean), Cond.code yX9_isLineBetween cX9_isLineBetween 1 (some .boolean), Cond.code yX9_hasNumber cX9_hasNumber 2 (some .boolean), Cond.code yX9_isBelowZero cX9_isBelowZero 2 (some .boolean), Cond.code yX9_factorialsOfLines cX9_factorialsOfLines 6 (some .int), Cond.code yX9_slidRatio cX9_slidRatio 5 (some .int), Cond.constantLong RX9 221 (-50), Cond.constantLong RX9 223 (50), Cond.methodLink RX9 225 yX9_slidRatio, Cond.instanceMethod yX9_slidRatio, Cond.selects RX9 yX9_slidRatio yX9_slidRatio, Cond.code yX9_slid cX9_slid 10 (some .int), Cond.methodLink RX9 278 yX0_isRoot, Cond.code yX9_timesRoot cX9_timesRoot 6 (some .int), Cond.methodLink RX9 269 yX4_head, Cond.methodLink RX9 272 yX1_minus, Cond.methodLink RX9 275 yX9_timesRoot, Cond.instanceMethod yX9_timesRoot]
def zAll_15 : List Cond := [Cond.selects RX9 yX9_timesRoot yX9_timesRoot, Cond.code yX9_closed cX9_closed 10 (some .int), Cond.code yX10_init cX10_init 2 none, Cond.methodLink RX10 3 objectInit, Cond.fieldLink RX10 9 "SumHouse$Texts" "terms" "LSumHouse$Terms;", Cond.fieldLink RX10 15 "SumHouse$Texts" "tape" "[I", Cond.fieldLink RX10 19 "SumHouse$Texts" "written" "[I", Cond.fieldLink RX10 22 "SumHouse$Texts" "ink" "[I", Cond.fieldLink RX10 25 "SumHouse$Texts" "codes" "[I", Cond.fieldLink RX10 28 "SumHouse$Texts" "signs" "[I", Cond.fieldLink RX10 31 "SumHouse$Texts" "values" "[I", Cond.fieldLink RX10 34 "SumHouse$Texts" "faultPlace" "I", Cond.code yX10_append cX10_append 5 (some .int), Cond.fieldLink RX10 38 "SumHouse$Texts" "tapeCount" "I", Cond.constantLong RX10 41 (255), Cond.code yX10_emptyTape cX10_emptyTape 1 none, Cond.code yX10_retype cX10_retype 2 (some .int), Cond.fieldLink RX10 43 "SumHouse$Texts" "writtenCount" "I", Cond.code yX10_inscribed cX10_inscribed 2 (some .int), Cond.code yX10_emit cX10_emit 4 none, Cond.fieldLink RX10 46 "SumHouse$Texts" "codeCount" "I", Cond.code yX10_signOf cX10_signOf 2 (some .int), Cond.code yX10_afterOperand cX10_afterOperand 1 none, Cond.fieldLink RX10 49 "SumHouse$Texts" "signCount" "I", Cond.fieldLink RX10 58 "SumHouse$Texts" "state" "I", Cond.methodLink RX10 102 yX10_signOf, Cond.instanceMethod yX10_signOf, Cond.selects RX10 yX10_signOf yX10_signOf, Cond.initialized RX10, Cond.constantLong RX10 76 (10), Cond.constantLong RX10 78 (48), Cond.methodLink RX10 80 yX1_rest, Cond.methodLink RX10 86 yX10_emit, Cond.instanceMethod yX10_emit, Cond.selects RX10 yX10_emit yX10_emit, Cond.methodLink RX10 90 yX10_afterOperand, Cond.instanceMethod yX10_afterOperand, Cond.selects RX10 yX10_afterOperand yX10_afterOperand, Cond.code yX10_takeNumber cX10_takeNumber 5 (some .int), Cond.code yX10_push cX10_push 3 none, Cond.code yX10_open cX10_open 3 none, Cond.fieldLink RX10 52 "SumHouse$Texts" "openCount" "I", Cond.methodLink RX10 96 yX10_push, Cond.instanceMethod yX10_push, Cond.selects RX10 yX10_push yX10_push, Cond.methodLink RX10 93 yX10_open, Cond.instanceMethod yX10_open, Cond.selects RX10 yX10_open yX10_open, Cond.code yX10_takeOperand cX10_takeOperand 3 none, Cond.code yX10_unload cX10_unload 3 none, Cond.code yX10_takeEnd cX10_takeEnd 3 none, Cond.methodLink RX10 72 yX10_unload, Cond.instanceMethod yX10_unload, Cond.selects RX10 yX10_unload yX10_unload, Cond.methodLink RX10 99 yX10_takeEnd, Cond.instanceMethod yX10_takeEnd, Cond.selects RX10 yX10_takeEnd yX10_takeEnd, Cond.code yX10_takeSign cX10_takeSign 3 none, Cond.fieldLink RX10 55 "SumHouse$Texts" "valueCount" "I", Cond.methodLink RX10 61 yX10_takeNumber]
def zAll_16 : List Cond := [Cond.instanceMethod yX10_takeNumber, Cond.selects RX10 yX10_takeNumber yX10_takeNumber, Cond.methodLink RX10 65 yX10_takeOperand, Cond.instanceMethod yX10_takeOperand, Cond.selects RX10 yX10_takeOperand yX10_takeOperand, Cond.methodLink RX10 69 yX10_takeSign, Cond.instanceMethod yX10_takeSign, Cond.selects RX10 yX10_takeSign yX10_takeSign, Cond.code yX10_compile cX10_compile 4 (some .int), Cond.code yX10_result cX10_result 1 (some .int), Cond.fieldLink RX10 105 "SumHouse$Texts" "code" "I", Cond.methodLink RX10 123 yX9_kindOf, Cond.methodLink RX10 126 yX9_isZero, Cond.methodLink RX10 130 yX9_isLine, Cond.instanceMethod yX9_isLine, Cond.selects RX9 yX9_isLine yX9_isLine, Cond.methodLink RX10 134 yX9_isBelowZero, Cond.instanceMethod yX9_isBelowZero, Cond.selects RX9 yX9_isBelowZero yX9_isBelowZero, Cond.methodLink RX10 137 yX9_isLineBetween, Cond.instanceMethod yX9_isLineBetween, Cond.selects RX9 yX9_isLineBetween yX9_isLineBetween, Cond.methodLink RX10 141 yX9_isNumberLine, Cond.methodLink RX10 144 yX9_hasNumber, Cond.instanceMethod yX9_hasNumber, Cond.selects RX9 yX9_hasNumber yX9_hasNumber, Cond.code yX10_faultOf cX10_faultOf 4 (some .int), Cond.fieldLink RX10 108 "SumHouse$Texts" "right" "I", Cond.fieldLink RX10 111 "SumHouse$Texts" "left" "I", Cond.methodLink RX10 114 yX10_faultOf, Cond.instanceMethod yX10_faultOf, Cond.selects RX10 yX10_faultOf yX10_faultOf, Cond.code yX10_ready cX10_ready 3 (some .int), Cond.methodLink RX10 118 yX9_settle, Cond.code yX10_finish cX10_finish 2 (some .int), Cond.code yX10_draw cX10_draw 2 none, Cond.fieldLink RX10 147 "SumHouse$Texts" "inkCount" "I", Cond.code yX10_drawNumber cX10_drawNumber 5 none, Cond.constant RX10 213 (1000000000), Cond.methodLink RX10 155 yX10_draw, Cond.instanceMethod yX10_draw, Cond.selects RX10 yX10_draw yX10_draw, Cond.code yX10_drawLetter cX10_drawLetter 4 none, Cond.methodLink RX10 206 yX10_drawNumber, Cond.instanceMethod yX10_drawNumber, Cond.selects RX10 yX10_drawNumber yX10_drawNumber, Cond.code yX10_drawPart cX10_drawPart 7 none, Cond.methodLink RX10 201 Lib.Math.abs.name, Cond.methodLink RX10 209 yX10_drawLetter, Cond.instanceMethod yX10_drawLetter, Cond.selects RX10 yX10_drawLetter yX10_drawLetter, Cond.methodLink RX10 184 yX6_tall, Cond.methodLink RX10 187 yX6_wide, Cond.methodLink RX10 190 yX6_ratioNumber, Cond.methodLink RX10 194 yX1_small, Cond.methodLink RX10 197 yX10_drawPart, Cond.instanceMethod yX10_drawPart, Cond.selects RX10 yX10_drawPart yX10_drawPart, Cond.code yX10_drawPolynomial cX10_drawPolynomial 7 none, Cond.methodLink RX10 178 yX6_isWhole]
def zAll_17 : List Cond := [Cond.instanceMethod yX6_isWhole, Cond.selects RX6 yX6_isWhole yX6_isWhole, Cond.methodLink RX10 181 yX10_drawPolynomial, Cond.instanceMethod yX10_drawPolynomial, Cond.selects RX10 yX10_drawPolynomial yX10_drawPolynomial, Cond.code yX10_drawRatio cX10_drawRatio 3 none, Cond.code yX10_drawBase cX10_drawBase 3 none, Cond.methodLink RX10 214 yX6_fact, Cond.code yX10_drawFactorial cX10_drawFactorial 6 none, Cond.fieldLink RX10 150 "SumHouse$Slot" "kind" "I", Cond.fieldLink RX10 162 "SumHouse$Slot" "x" "I", Cond.fieldLink RX10 168 "SumHouse$Slot" "y" "I", Cond.fieldLink RX10 171 "SumHouse$Slot" "factorials" "I", Cond.methodLink RX10 158 yX10_drawRatio, Cond.instanceMethod yX10_drawRatio, Cond.selects RX10 yX10_drawRatio yX10_drawRatio, Cond.methodLink RX10 165 yX10_drawBase, Cond.instanceMethod yX10_drawBase, Cond.selects RX10 yX10_drawBase yX10_drawBase, Cond.methodLink RX10 174 yX10_drawFactorial, Cond.instanceMethod yX10_drawFactorial, Cond.selects RX10 yX10_drawFactorial yX10_drawFactorial, Cond.code yX10_inscribe cX10_inscribe 3 (some .int), Cond.methodLink RX11 1 objectInit, Cond.classLink RX11 9 RX6, Cond.fieldLink RX11 11 "SumHouse" "slots" "[LSumHouse$Slot;", Cond.instantiable RX6 12, Cond.classLink RX11 16 RX4, Cond.instantiable RX4 3, Cond.classLink RX11 19 RX2, Cond.instantiable RX2 1, Cond.classLink RX11 24 RX0, Cond.instantiable RX0 5, Cond.classLink RX11 29 RX3, Cond.instantiable RX3 3, Cond.classLink RX11 34 RX9, Cond.instantiable RX9 8, Cond.classLink RX11 39 RX7, Cond.instantiable RX7 14, Cond.fieldLink RX11 42 "SumHouse" "room" "LSumHouse$Room;", Cond.fieldLink RX11 46 "SumHouse" "planes" "LSumHouse$Planes;", Cond.fieldLink RX11 50 "SumHouse" "divisors" "LSumHouse$Divisors;", Cond.fieldLink RX11 54 "SumHouse" "ratios" "LSumHouse$Ratios;", Cond.fieldLink RX11 58 "SumHouse" "terms" "LSumHouse$Terms;", Cond.classLink RX11 62 RX10, Cond.instantiable RX10 19, Cond.fieldLink RX11 67 "SumHouse" "texts" "LSumHouse$Texts;", Cond.classLink RX11 71 RX8, Cond.instantiable RX8 18, Cond.fieldLink RX11 76 "SumHouse" "sums" "LSumHouse$Sums;", Cond.classLink RX11 80 RX5, Cond.instantiable RX5 9, Cond.fieldLink RX11 85 "SumHouse" "sequences" "LSumHouse$Sequences;", Cond.fieldLink RX11 89 "SumHouse" "fed" "[I", Cond.fieldLink RX11 93 "SumHouse" "fedCount" "I", Cond.fieldLink RX11 97 "SumHouse" "found" "[I", Cond.fieldLink RX11 100 "SumHouse" "foundCount" "I", Cond.methodLink RX11 15 yX6_init, Cond.instanceMethod yX6_init, Cond.methodLink RX11 18 yX4_init]
def zAll_18 : List Cond := [Cond.instanceMethod yX4_init, Cond.methodLink RX11 21 yX2_init, Cond.instanceMethod yX2_init, Cond.methodLink RX11 26 yX0_init, Cond.instanceMethod yX0_init, Cond.methodLink RX11 31 yX3_init, Cond.instanceMethod yX3_init, Cond.methodLink RX11 36 yX9_init, Cond.instanceMethod yX9_init, Cond.methodLink RX11 41 yX7_init, Cond.instanceMethod yX7_init, Cond.methodLink RX11 64 yX10_init, Cond.instanceMethod yX10_init, Cond.methodLink RX11 73 yX8_init, Cond.instanceMethod yX8_init, Cond.methodLink RX11 82 yX5_init, Cond.instanceMethod yX5_init, Cond.code yX11_init cX11_init 7 none, Cond.code yX11_type cX11_type 4 (some .int), Cond.methodLink RX11 103 yX10_append, Cond.instanceMethod yX10_append, Cond.selects RX10 yX10_append yX10_append, Cond.code yX11_slotAt cX11_slotAt 2 (some (.object "SumHouse$Slot")), Cond.fieldLink RX11 118 "SumHouse$Texts" "codeCount" "I", Cond.fieldLink RX11 125 "SumHouse$Texts" "left" "I", Cond.fieldLink RX11 128 "SumHouse$Texts" "right" "I", Cond.fieldLink RX11 131 "SumHouse$Texts" "code" "I", Cond.constant RX11 134 (2147483646), Cond.fieldLink RX11 163 "SumHouse$Room" "full" "Z", Cond.fieldLink RX11 167 "SumHouse$Texts" "faultPlace" "I", Cond.methodLink RX11 107 yX11_slotAt, Cond.instanceMethod yX11_slotAt, Cond.selects RX11 yX11_slotAt yX11_slotAt, Cond.initialized RX11, Cond.methodLink RX11 111 yX4_empty, Cond.methodLink RX11 114 yX10_compile, Cond.instanceMethod yX10_compile, Cond.selects RX10 yX10_compile yX10_compile, Cond.methodLink RX11 121 yX10_ready, Cond.instanceMethod yX10_ready, Cond.selects RX10 yX10_ready yX10_ready, Cond.methodLink RX11 135 yX9_plus, Cond.instanceMethod yX9_plus, Cond.selects RX9 yX9_plus yX9_plus, Cond.methodLink RX11 139 yX9_times, Cond.instanceMethod yX9_times, Cond.selects RX9 yX9_times yX9_times, Cond.methodLink RX11 142 yX9_powerOfLine, Cond.instanceMethod yX9_powerOfLine, Cond.selects RX9 yX9_powerOfLine yX9_powerOfLine, Cond.methodLink RX11 145 yX9_factorialsOfLines, Cond.instanceMethod yX9_factorialsOfLines, Cond.selects RX9 yX9_factorialsOfLines yX9_factorialsOfLines, Cond.methodLink RX11 148 yX9_negative, Cond.instanceMethod yX9_negative, Cond.selects RX9 yX9_negative yX9_negative, Cond.methodLink RX11 151 yX9_ofNumber, Cond.methodLink RX11 154 yX9_line, Cond.instanceMethod yX9_line, Cond.selects RX9 yX9_line yX9_line]
def zAll_19 : List Cond := [Cond.methodLink RX11 157 yX10_finish, Cond.instanceMethod yX10_finish, Cond.selects RX10 yX10_finish yX10_finish, Cond.methodLink RX11 160 yX10_emptyTape, Cond.instanceMethod yX10_emptyTape, Cond.selects RX10 yX10_emptyTape yX10_emptyTape, Cond.methodLink RX11 170 yX10_result, Cond.instanceMethod yX10_result, Cond.selects RX10 yX10_result yX10_result, Cond.methodLink RX11 173 yX9_save, Cond.instanceMethod yX9_save, Cond.selects RX9 yX9_save yX9_save, Cond.code yX11_read cX11_read 8 (some .int), Cond.code yX11_place cX11_place 1 (some .int), Cond.code yX11_isRatioOrTerm cX11_isRatioOrTerm 1 (some .boolean), Cond.fieldLink RX11 191 "SumHouse$Slot" "kind" "I", Cond.methodLink RX11 177 yX11_isRatioOrTerm, Cond.static yX11_isRatioOrTerm, Cond.methodLink RX11 181 yX10_inscribe, Cond.instanceMethod yX10_inscribe, Cond.selects RX10 yX10_inscribe yX10_inscribe, Cond.code yX11_write cX11_write 3 (some .int), Cond.code yX11_written cX11_written 2 (some .int), Cond.methodLink RX11 185 yX10_inscribed, Cond.instanceMethod yX10_inscribed, Cond.selects RX10 yX10_inscribed yX10_inscribed, Cond.code yX11_again cX11_again 1 (some .int), Cond.methodLink RX11 188 yX10_retype, Cond.instanceMethod yX10_retype, Cond.selects RX10 yX10_retype yX10_retype, Cond.code yX11_kind cX11_kind 3 (some .int), Cond.code yX11_drop cX11_drop 4 (some .int), Cond.methodLink RX11 194 yX6_wipe, Cond.code yX11_degree cX11_degree 5 (some .int), Cond.methodLink RX11 197 yX6_wide, Cond.methodLink RX11 200 yX6_tall, Cond.code yX11_number cX11_number 6 (some .int), Cond.fieldLink RX11 206 "SumHouse$Slot" "order" "I", Cond.methodLink RX11 203 yX6_ratioNumber, Cond.methodLink RX11 209 yX6_stepNumber, Cond.code yX11_told cX11_told 4 (some .int), Cond.fieldLink RX11 213 "SumHouse$Slot" "x" "I", Cond.fieldLink RX11 216 "SumHouse$Slot" "y" "I", Cond.fieldLink RX11 219 "SumHouse$Slot" "factorials" "I", Cond.fieldLink RX11 222 "SumHouse$Slot" "needs" "I", Cond.code yX11_factorial cX11_factorial 5 (some .int), Cond.methodLink RX11 225 yX6_fact, Cond.code yX11_count cX11_count 5 (some .int), Cond.fieldLink RX11 228 "SumHouse$Texts" "tapeCount" "I", Cond.fieldLink RX11 231 "SumHouse$Texts" "writtenCount" "I", Cond.code yX11_isPolynomial cX11_isPolynomial 1 (some .boolean), Cond.methodLink RX11 428 yX6_isWhole, Cond.fieldLink RX11 262 "SumHouse$Room" "top" "I", Cond.methodLink RX11 250 yX9_ratioOf, Cond.methodLink RX11 253 yX9_open, Cond.methodLink RX11 256 yX0_gcd, Cond.methodLink RX11 259 yX0_resultant, Cond.instanceMethod yX0_resultant, Cond.selects RX0 yX0_resultant yX0_resultant, Cond.methodLink RX11 265 yX2_turned]
def zAll_20 : List Cond := [Cond.instanceMethod yX2_turned, Cond.selects RX2 yX2_turned yX2_turned, Cond.methodLink RX11 268 yX4_settle, Cond.methodLink RX11 271 yX4_constant, Cond.methodLink RX11 274 yX3_fits, Cond.code yX11_ofPolynomials cX11_ofPolynomials 9 (some .int), Cond.code yX11_keep cX11_keep 3 (some .int), Cond.methodLink RX11 234 yX11_isPolynomial, Cond.static yX11_isPolynomial, Cond.methodLink RX11 237 yX6_isZero, Cond.instanceMethod yX6_isZero, Cond.selects RX6 yX6_isZero yX6_isZero, Cond.methodLink RX11 241 yX9_load, Cond.instanceMethod yX9_load, Cond.selects RX9 yX9_load yX9_load, Cond.methodLink RX11 244 yX11_ofPolynomials, Cond.instanceMethod yX11_ofPolynomials, Cond.selects RX11 yX11_ofPolynomials yX11_ofPolynomials, Cond.methodLink RX11 247 yX11_keep, Cond.instanceMethod yX11_keep, Cond.selects RX11 yX11_keep yX11_keep, Cond.code yX11_work cX11_work 11 (some .int), Cond.methodLink RX11 297 yX3_under, Cond.methodLink RX11 300 yX2_withN, Cond.instanceMethod yX2_withN, Cond.selects RX2 yX2_withN yX2_withN, Cond.methodLink RX11 303 yX2_withK, Cond.instanceMethod yX2_withK, Cond.selects RX2 yX2_withK yX2_withK, Cond.methodLink RX11 306 yX2_derivative, Cond.instanceMethod yX2_derivative, Cond.selects RX2 yX2_derivative yX2_derivative, Cond.methodLink RX11 310 yX2_times, Cond.methodLink RX11 312 yX2_plus, Cond.methodLink RX11 313 yX4_isZero, Cond.methodLink RX11 315 yX3_reduced, Cond.code yX11_changed cX11_changed 12 (some .int), Cond.methodLink RX11 278 yX1_rest, Cond.methodLink RX11 284 yX9_power, Cond.methodLink RX11 287 yX9_slid, Cond.instanceMethod yX9_slid, Cond.selects RX9 yX9_slid yX9_slid, Cond.methodLink RX11 290 yX9_slidRatio, Cond.methodLink RX11 293 yX11_changed, Cond.instanceMethod yX11_changed, Cond.selects RX11 yX11_changed yX11_changed, Cond.code yX11_change cX11_change 9 (some .int), Cond.methodLink RX11 318 yX9_valueOf, Cond.code yX11_value cX11_value 5 (some .int), Cond.methodLink RX11 322 yX9_sumOf, Cond.code yX11_sum cX11_sum 6 (some .int), Cond.methodLink RX11 326 yX9_step, Cond.code yX11_quotient cX11_quotient 9 (some .int), Cond.fieldLink RX11 332 "SumHouse$Sums" "formA" "I", Cond.fieldLink RX11 335 "SumHouse$Sums" "formB" "I", Cond.fieldLink RX11 338 "SumHouse$Sums" "formC" "I", Cond.methodLink RX11 329 yX8_makeForm, Cond.methodLink RX11 341 yX9_wrapped, Cond.instanceMethod yX9_wrapped, Cond.selects RX9 yX9_wrapped yX9_wrapped]
def zAll_21 : List Cond := [Cond.code yX11_form cX11_form 7 (some .int), Cond.fieldLink RX11 350 "SumHouse$Sums" "made" "I", Cond.methodLink RX11 344 yX8_alone, Cond.instanceMethod yX8_alone, Cond.selects RX8 yX8_alone yX8_alone, Cond.methodLink RX11 347 yX8_answer, Cond.instanceMethod yX8_answer, Cond.selects RX8 yX8_answer yX8_answer, Cond.code yX11_close cX11_close 6 (some .int), Cond.methodLink RX11 353 yX8_collect, Cond.instanceMethod yX8_collect, Cond.selects RX8 yX8_collect yX8_collect, Cond.methodLink RX11 357 yX8_attempt, Cond.instanceMethod yX8_attempt, Cond.selects RX8 yX8_attempt yX8_attempt, Cond.methodLink RX11 360 yX8_save, Cond.instanceMethod yX8_save, Cond.selects RX8 yX8_save yX8_save, Cond.code yX11_recur cX11_recur 8 (some .int), Cond.fieldLink RX11 363 "SumHouse$Slot" "above" "[I", Cond.fieldLink RX11 369 "SumHouse$Slot" "below" "[I", Cond.methodLink RX11 366 yX2_load, Cond.methodLink RX11 372 yX2_loadStep, Cond.code yX11_part cX11_part 7 (some .int), Cond.methodLink RX11 376 yX8_isRight, Cond.instanceMethod yX8_isRight, Cond.selects RX8 yX8_isRight yX8_isRight, Cond.code yX11_check cX11_check 7 (some .int), Cond.methodLink RX11 379 yX6_putStep, Cond.methodLink RX11 383 yX6_putAbove, Cond.instanceMethod yX6_putAbove, Cond.selects RX6 yX6_putAbove yX6_putAbove, Cond.methodLink RX11 386 yX2_save, Cond.code yX11_poke cX11_poke 9 (some .int), Cond.methodLink RX11 389 yX8_holdsBy, Cond.instanceMethod yX8_holdsBy, Cond.selects RX8 yX8_holdsBy yX8_holdsBy, Cond.code yX11_holds cX11_holds 8 (some .int), Cond.methodLink RX11 393 yX5_fromRecord, Cond.instanceMethod yX5_fromRecord, Cond.selects RX5 yX5_fromRecord yX5_fromRecord, Cond.code yX11_row cX11_row 5 (some .int), Cond.code yX11_first cX11_first 4 (some .int), Cond.methodLink RX11 397 yX6_addFirst, Cond.instanceMethod yX6_addFirst, Cond.selects RX6 yX6_addFirst yX6_addFirst, Cond.fieldLink RX11 400 "SumHouse$Slot" "has" "I", Cond.methodLink RX11 403 yX5_member, Cond.instanceMethod yX5_member, Cond.selects RX5 yX5_member yX5_member, Cond.code yX11_at cX11_at 4 (some .int), Cond.code yX11_isFactor cX11_isFactor 1 (some .boolean), Cond.methodLink RX11 431 yX6_isFreeOfK, Cond.instanceMethod yX6_isFreeOfK, Cond.selects RX6 yX6_isFreeOfK yX6_isFreeOfK, Cond.methodLink RX11 406 yX11_isFactor, Cond.static yX11_isFactor, Cond.methodLink RX11 409 yX5_moved, Cond.instanceMethod yX5_moved, Cond.selects RX5 yX5_moved yX5_moved]
def zAll_22 : List Cond := [Cond.methodLink RX11 413 yX5_joined, Cond.instanceMethod yX5_joined, Cond.selects RX5 yX5_joined yX5_joined, Cond.code yX11_join cX11_join 9 (some .int), Cond.code yX11_feed cX11_feed 2 (some .int), Cond.code yX11_clear cX11_clear 2 (some .int), Cond.methodLink RX11 417 yX5_guessed, Cond.instanceMethod yX5_guessed, Cond.selects RX5 yX5_guessed yX5_guessed, Cond.code yX11_guess cX11_guess 3 (some .int), Cond.methodLink RX11 421 yX0_rootsOf, Cond.instanceMethod yX0_rootsOf, Cond.selects RX0 yX0_rootsOf yX0_rootsOf, Cond.code yX11_roots cX11_roots 3 (some .int), Cond.code yX11_root cX11_root 2 (some .int), Cond.methodLink RX11 425 yX9_closed, Cond.instanceMethod yX9_closed, Cond.selects RX9 yX9_closed yX9_closed, Cond.code yX11_solve cX11_solve 6 (some .int), Cond.code yX15_init cX15_init 2 none, Cond.methodLink RX15 1 objectInit, Cond.fieldLink RX15 7 "SumHouseModel$U" "c" "[I", Cond.code yX12_init cX12_init 2 none, Cond.methodLink RX12 3 objectInit, Cond.classLink RX12 9 RX15, Cond.fieldLink RX12 11 "SumHouseModel$B" "r" "[LSumHouseModel$U;", Cond.instantiable RX15 2, Cond.initialized RX15, Cond.methodLink RX12 17 yX15_init, Cond.instanceMethod yX15_init, Cond.code yX12_trim cX12_trim 1 none, Cond.fieldLink RX12 20 "SumHouseModel$B" "rows" "I", Cond.fieldLink RX12 24 "SumHouseModel$U" "n" "I", Cond.code yX15_number cX15_number 2 none, Cond.fieldLink RX15 13 "SumHouseModel$U" "n" "I", Cond.code yX12_number cX12_number 2 none, Cond.methodLink RX12 27 yX15_number, Cond.instanceMethod yX15_number, Cond.selects RX15 yX15_number yX15_number, Cond.code yX12_lead cX12_lead 1 (some (.object "SumHouseModel$U")), Cond.code yX15_head cX15_head 1 (some .int), Cond.code yX12_head cX12_head 1 (some .int), Cond.methodLink RX12 30 yX12_lead, Cond.instanceMethod yX12_lead, Cond.selects RX12 yX12_lead yX12_lead, Cond.initialized RX12, Cond.methodLink RX12 34 yX15_head, Cond.instanceMethod yX15_head, Cond.selects RX15 yX15_head yX15_head, Cond.code yX12_degreeN cX12_degreeN 3 (some .int), Cond.methodLink RX12 38 Lib.Math.max.name, Cond.code yX12_degreeK cX12_degreeK 1 (some .int), Cond.code yX12_isNumber cX12_isNumber 1 (some .boolean), Cond.code yX13_init cX13_init 1 none, Cond.code yX14_init cX14_init 1 none, Cond.methodLink RX14 3 objectInit, Cond.fieldLink RX14 9 "SumHouseModel$Thing" "num" "[I", Cond.fieldLink RX14 15 "SumHouseModel$Thing" "den" "[I", Cond.fieldLink RX14 18 "SumHouseModel$Thing" "fa" "[I", Cond.fieldLink RX14 21 "SumHouseModel$Thing" "fb" "[I"]
def zAll_23 : List Cond := [Cond.fieldLink RX14 24 "SumHouseModel$Thing" "fc" "[I", Cond.fieldLink RX14 27 "SumHouseModel$Thing" "fe" "[I", Cond.fieldLink RX14 30 "SumHouseModel$Thing" "a" "[I", Cond.fieldLink RX14 33 "SumHouseModel$Thing" "u" "[I", Cond.code yX15_trim cX15_trim 1 none, Cond.code yX15_at cX15_at 2 (some .int), Cond.code yX16_add cX16_add 4 (some .int), Cond.constantLong RX16 3 (2147483647), Cond.code yX16_sub cX16_sub 2 (some .int), Cond.constant RX16 5 (2147483647), Cond.code yX16_mul cX16_mul 2 (some .int), Cond.code yX16_pow cX16_pow 9 (some .int), Cond.code yX16_inv cX16_inv 1 (some .int), Cond.constantLong RX16 6 (2147483645), Cond.methodLink RX16 8 yX16_pow, Cond.static yX16_pow, Cond.initialized RX16, Cond.code yX16_rest cX16_rest 2 (some .int), Cond.code yX16_small cX16_small 1 (some .int), Cond.constant RX16 12 (1073741823), Cond.code yX16_power cX16_power 2 (some .int), Cond.methodLink RX16 13 yX16_inv, Cond.static yX16_inv, Cond.code yX16_newU cX16_newU 2 (some (.object "SumHouseModel$U")), Cond.fieldLink RX16 17 "SumHouseModel" "us" "[LSumHouseModel$U;", Cond.fieldLink RX16 21 "SumHouseModel" "ut" "I", Cond.fieldLink RX16 25 "SumHouseModel$U" "n" "I", Cond.code yX16_set cX16_set 2 none, Cond.fieldLink RX16 30 "SumHouseModel$U" "c" "[I", Cond.methodLink RX16 34 arraycopyName, Cond.native arraycopyName, Cond.static arraycopyName, Cond.initialized "java/lang/System", Cond.code yX16_plus cX16_plus 8 none, Cond.methodLink RX16 40 Lib.Math.max.name, Cond.methodLink RX16 46 yX16_sub, Cond.static yX16_sub, Cond.methodLink RX16 49 yX16_add, Cond.static yX16_add, Cond.methodLink RX16 52 yX15_trim, Cond.instanceMethod yX15_trim, Cond.selects RX15 yX15_trim yX15_trim, Cond.code yX16_scale cX16_scale 4 none, Cond.methodLink RX16 56 yX16_mul, Cond.static yX16_mul, Cond.code yX16_times cX16_times 10 none, Cond.methodLink RX16 59 Lib.Math.min.name, Cond.methodLink RX16 62 yX16_set, Cond.static yX16_set, Cond.methodLink RX16 66 yX15_head, Cond.code yX16_divide cX16_divide 8 none, Cond.methodLink RX16 70 yX16_scale, Cond.static yX16_scale, Cond.code yX16_monic cX16_monic 2 none, Cond.methodLink RX16 74 yX16_newU, Cond.instanceMethod yX16_newU, Cond.selects RX16 yX16_newU yX16_newU, Cond.methodLink RX16 78 yX16_divide, Cond.static yX16_divide, Cond.methodLink RX16 82 yX16_monic]
def zAll_24 : List Cond := [Cond.instanceMethod yX16_monic, Cond.selects RX16 yX16_monic yX16_monic, Cond.code yX16_gcd cX16_gcd 9 none, Cond.code yX16_exact cX16_exact 7 none, Cond.code yX16_eval cX16_eval 5 (some .int), Cond.code yX16_shift cX16_shift 6 none, Cond.code yX16_newB cX16_newB 2 (some (.object "SumHouseModel$B")), Cond.fieldLink RX16 86 "SumHouseModel" "bs" "[LSumHouseModel$B;", Cond.fieldLink RX16 90 "SumHouseModel" "bt" "I", Cond.fieldLink RX16 93 "SumHouseModel$B" "rows" "I", Cond.code yX16_set_ cX16_set_ 3 none, Cond.fieldLink RX16 98 "SumHouseModel$B" "r" "[LSumHouseModel$U;", Cond.methodLink RX16 101 yX16_plus, Cond.static yX16_plus, Cond.methodLink RX16 105 yX12_trim, Cond.instanceMethod yX12_trim, Cond.selects RX12 yX12_trim yX12_trim, Cond.code yX16_plus_ cX16_plus_ 6 none, Cond.code yX16_scale_ cX16_scale_ 4 none, Cond.methodLink RX16 106 yX16_times, Cond.static yX16_times, Cond.code yX16_times_ cX16_times_ 9 none, Cond.code yX16_timesU cX16_timesU 7 none, Cond.methodLink RX16 110 yX16_exact, Cond.instanceMethod yX16_exact, Cond.selects RX16 yX16_exact yX16_exact, Cond.code yX16_byU cX16_byU 5 none, Cond.methodLink RX16 113 yX16_set_, Cond.static yX16_set_, Cond.code yX16_shiftK cX16_shiftK 9 none, Cond.code yX16_shiftN cX16_shiftN 4 none, Cond.methodLink RX16 116 yX16_shift, Cond.static yX16_shift, Cond.methodLink RX16 119 yX12_degreeN, Cond.instanceMethod yX12_degreeN, Cond.selects RX12 yX12_degreeN yX12_degreeN, Cond.methodLink RX16 122 yX15_at, Cond.instanceMethod yX15_at, Cond.selects RX15 yX15_at yX15_at, Cond.code yX16_turn cX16_turn 5 none, Cond.methodLink RX16 125 yX16_gcd, Cond.instanceMethod yX16_gcd, Cond.selects RX16 yX16_gcd yX16_gcd, Cond.code yX16_content cX16_content 4 none, Cond.methodLink RX16 128 yX16_content, Cond.instanceMethod yX16_content, Cond.selects RX16 yX16_content yX16_content, Cond.methodLink RX16 132 yX16_byU, Cond.instanceMethod yX16_byU, Cond.selects RX16 yX16_byU yX16_byU, Cond.code yX16_primitive cX16_primitive 4 none, Cond.code yX16_atN cX16_atN 4 none, Cond.methodLink RX16 136 yX16_eval, Cond.static yX16_eval, Cond.code yX16_eval_ cX16_eval_ 6 (some .int), Cond.methodLink RX16 140 yX16_newB, Cond.instanceMethod yX16_newB, Cond.selects RX16 yX16_newB yX16_newB, Cond.methodLink RX16 144 yX12_lead, Cond.code yX16_divides cX16_divides 13 (some .boolean)]
def zAll_25 : List Cond := [Cond.fieldLink RX16 151 "SumHouseModel" "xs" "[I", Cond.methodLink RX16 147 yX15_number, Cond.code yX16_through cX16_through 10 none, Cond.fieldLink RX16 159 "SumHouseModel" "ys" "[[I", Cond.methodLink RX16 154 yX16_atN, Cond.static yX16_atN, Cond.methodLink RX16 158 yX12_number, Cond.instanceMethod yX12_number, Cond.selects RX12 yX12_number yX12_number, Cond.methodLink RX16 163 yX16_through, Cond.instanceMethod yX16_through, Cond.selects RX16 yX16_through yX16_through, Cond.methodLink RX16 167 yX16_primitive, Cond.instanceMethod yX16_primitive, Cond.selects RX16 yX16_primitive yX16_primitive, Cond.methodLink RX16 170 yX16_divides, Cond.instanceMethod yX16_divides, Cond.selects RX16 yX16_divides yX16_divides, Cond.code yX16_gcdK cX16_gcdK 18 none, Cond.methodLink RX16 174 yX16_gcdK, Cond.instanceMethod yX16_gcdK, Cond.selects RX16 yX16_gcdK yX16_gcdK, Cond.methodLink RX16 178 yX16_timesU, Cond.instanceMethod yX16_timesU, Cond.selects RX16 yX16_timesU yX16_timesU, Cond.methodLink RX16 181 yX12_head, Cond.instanceMethod yX12_head, Cond.selects RX12 yX12_head yX12_head, Cond.methodLink RX16 182 yX16_scale_, Cond.static yX16_scale_, Cond.code yX16_gcd_ cX16_gcd_ 10 none, Cond.code yX16_fits cX16_fits 3 (some .boolean), Cond.code yX16_settle cX16_settle 3 none, Cond.methodLink RX16 185 yX16_gcd_, Cond.instanceMethod yX16_gcd_, Cond.selects RX16 yX16_gcd_ yX16_gcd_, Cond.methodLink RX16 187 yX12_isNumber, Cond.instanceMethod yX12_isNumber, Cond.selects RX12 yX12_isNumber yX12_isNumber, Cond.methodLink RX16 191 yX16_settle, Cond.static yX16_settle, Cond.code yX16_reduce cX16_reduce 7 none, Cond.code yX16_cancel cX16_cancel 7 none, Cond.methodLink RX16 194 yX16_cancel, Cond.instanceMethod yX16_cancel, Cond.selects RX16 yX16_cancel yX16_cancel, Cond.methodLink RX16 197 yX16_times_, Cond.instanceMethod yX16_times_, Cond.selects RX16 yX16_times_ yX16_times_, Cond.code yX16_multiply cX16_multiply 12 none, Cond.methodLink RX16 199 yX16_plus_, Cond.static yX16_plus_, Cond.code yX16_sum cX16_sum 14 none, Cond.code yX16_copy cX16_copy 3 none, Cond.fieldLink RX16 202 "SumHouseModel$Thing" "kind" "I", Cond.fieldLink RX16 207 "SumHouseModel$Thing" "num" "[I", Cond.fieldLink RX16 210 "SumHouseModel$Thing" "den" "[I", Cond.fieldLink RX16 213 "SumHouseModel$Thing" "x" "I", Cond.fieldLink RX16 216 "SumHouseModel$Thing" "y" "I", Cond.fieldLink RX16 219 "SumHouseModel$Thing" "many" "I"]
def zAll_26 : List Cond := [Cond.fieldLink RX16 222 "SumHouseModel$Thing" "fa" "[I", Cond.fieldLink RX16 225 "SumHouseModel$Thing" "fb" "[I", Cond.fieldLink RX16 228 "SumHouseModel$Thing" "fc" "[I", Cond.fieldLink RX16 231 "SumHouseModel$Thing" "fe" "[I", Cond.fieldLink RX16 234 "SumHouseModel$Thing" "order" "I", Cond.fieldLink RX16 237 "SumHouseModel$Thing" "a" "[I", Cond.fieldLink RX16 240 "SumHouseModel$Thing" "needs" "I", Cond.fieldLink RX16 243 "SumHouseModel$Thing" "has" "I", Cond.fieldLink RX16 246 "SumHouseModel$Thing" "u" "[I", Cond.code yX16_load cX16_load 3 none, Cond.code yX16_store cX16_store 4 none, Cond.code yX16_load_ cX16_load_ 3 none, Cond.code yX16_store_ cX16_store_ 4 none, Cond.code yX16_put cX16_put 3 (some .boolean), Cond.methodLink RX16 249 yX16_fits, Cond.static yX16_fits, Cond.methodLink RX16 253 yX16_store, Cond.static yX16_store, Cond.code yX16_plain cX16_plain 1 none, Cond.methodLink RX16 257 yX16_plain, Cond.static yX16_plain, Cond.methodLink RX16 261 yX16_put, Cond.static yX16_put, Cond.code yX16_number cX16_number 7 none, Cond.code yX16_isZero cX16_isZero 3 (some .boolean), Cond.code yX16_isOne cX16_isOne 3 (some .boolean), Cond.code yX16_isNumber cX16_isNumber 3 (some .boolean), Cond.methodLink RX16 265 yX16_isOne, Cond.static yX16_isOne, Cond.code yX16_move cX16_move 3 none, Cond.code yX16_factor cX16_factor 7 none, Cond.methodLink RX16 269 yX16_move, Cond.static yX16_move, Cond.code yX16_weight cX16_weight 3 (some .int), Cond.methodLink RX16 273 Lib.Math.abs.name, Cond.code yX16_name cX16_name 1 none, Cond.code yX16_joined cX16_joined 7 (some .int), Cond.code yX16_mergeAll cX16_mergeAll 8 none, Cond.fieldLink RX16 310 "SumHouseModel" "done" "[Z", Cond.methodLink RX16 284 yX16_factor, Cond.static yX16_factor, Cond.methodLink RX16 288 yX16_isZero, Cond.static yX16_isZero, Cond.methodLink RX16 292 yX16_number, Cond.instanceMethod yX16_number, Cond.selects RX16 yX16_number yX16_number, Cond.methodLink RX16 295 yX16_load, Cond.static yX16_load, Cond.methodLink RX16 299 yX16_multiply, Cond.instanceMethod yX16_multiply, Cond.selects RX16 yX16_multiply yX16_multiply, Cond.methodLink RX16 280 yX16_joined, Cond.static yX16_joined, Cond.methodLink RX16 303 yX16_mergeAll, Cond.instanceMethod yX16_mergeAll, Cond.selects RX16 yX16_mergeAll yX16_mergeAll, Cond.methodLink RX16 307 yX16_name, Cond.static yX16_name, Cond.code yX16_multiply_ cX16_multiply_ 13 (some .boolean), Cond.methodLink RX16 314 yX12_degreeK]
def zAll_27 : List Cond := [Cond.instanceMethod yX12_degreeK, Cond.selects RX12 yX12_degreeK yX12_degreeK, Cond.methodLink RX16 276 yX16_weight, Cond.static yX16_weight, Cond.methodLink RX16 317 yX16_power, Cond.static yX16_power, Cond.code yX16_raise cX16_raise 13 (some .boolean), Cond.methodLink RX16 320 yX16_sum, Cond.instanceMethod yX16_sum, Cond.selects RX16 yX16_sum yX16_sum, Cond.code yX16_add_ cX16_add_ 12 (some .boolean), Cond.code yX16_fail cX16_fail 3 (some (.object "SumHouseModel$Stop")), Cond.fieldLink RX16 324 "SumHouseModel" "fault" "I", Cond.fieldLink RX16 327 "SumHouseModel" "faultAt" "I", Cond.fieldLink RX16 330 "SumHouseModel" "stop" "LSumHouseModel$Stop;", Cond.code yX16_look cX16_look 1 (some .int), Cond.fieldLink RX16 334 "SumHouseModel" "at" "I", Cond.fieldLink RX16 336 "SumHouseModel" "length" "I", Cond.fieldLink RX16 339 "SumHouseModel" "tape" "[B", Cond.code yX16_must cX16_must 2 none, Cond.methodLink RX16 343 yX16_look, Cond.instanceMethod yX16_look, Cond.selects RX16 yX16_look yX16_look, Cond.code yX16_bracket cX16_bracket 1 none, Cond.fieldLink RX16 359 "SumHouseModel" "open" "I", Cond.methodLink RX16 362 yX16_bracket, Cond.instanceMethod yX16_bracket, Cond.selects RX16 yX16_bracket yX16_bracket, Cond.methodLink RX16 365 yX16_readE, Cond.instanceMethod yX16_readE, Cond.selects RX16 yX16_readE yX16_readE, Cond.methodLink RX16 368 yX16_must, Cond.instanceMethod yX16_must, Cond.selects RX16 yX16_must yX16_must, Cond.code yX16_readE cX16_readE 1 none, Cond.methodLink RX16 350 yX16_readU, Cond.instanceMethod yX16_readU, Cond.selects RX16 yX16_readU yX16_readU, Cond.code yX16_readU cX16_readU 1 none, Cond.methodLink RX16 353 yX16_readW, Cond.instanceMethod yX16_readW, Cond.selects RX16 yX16_readW yX16_readW, Cond.code yX16_readW cX16_readW 1 none, Cond.methodLink RX16 356 yX16_readB, Cond.instanceMethod yX16_readB, Cond.selects RX16 yX16_readB yX16_readB, Cond.code yX16_readB cX16_readB 3 none, Cond.code yX16_newThing cX16_newThing 1 (some (.object "SumHouseModel$Thing")), Cond.fieldLink RX16 371 "SumHouseModel" "pile" "[LSumHouseModel$Thing;", Cond.fieldLink RX16 375 "SumHouseModel" "piled" "I", Cond.code yX16_isLine_ cX16_isLine_ 3 (some .boolean), Cond.code yX16_isLine cX16_isLine 4 (some .boolean), Cond.fieldLink RX16 393 "SumHouseModel" "la" "I", Cond.fieldLink RX16 396 "SumHouseModel" "lb" "I", Cond.fieldLink RX16 399 "SumHouseModel" "lc" "I", Cond.methodLink RX16 390 yX16_small, Cond.static yX16_small, Cond.methodLink RX16 402 yX16_isLine_, Cond.static yX16_isLine_, Cond.code yX16_factorial cX16_factorial 8 none]
def zAll_28 : List Cond := [Cond.methodLink RX16 417 yX16_raise, Cond.instanceMethod yX16_raise, Cond.selects RX16 yX16_raise yX16_raise, Cond.methodLink RX16 421 yX16_isNumber, Cond.static yX16_isNumber, Cond.code yX16_raiseText cX16_raiseText 4 none, Cond.methodLink RX16 423 yX16_valueE, Cond.instanceMethod yX16_valueE, Cond.selects RX16 yX16_valueE yX16_valueE, Cond.methodLink RX16 409 yX16_isLine, Cond.instanceMethod yX16_isLine, Cond.selects RX16 yX16_isLine yX16_isLine, Cond.methodLink RX16 411 yX16_factorial, Cond.instanceMethod yX16_factorial, Cond.selects RX16 yX16_factorial yX16_factorial, Cond.code yX16_valueB cX16_valueB 5 (some (.object "SumHouseModel$Thing")), Cond.constantLong RX16 432 (10), Cond.constantLong RX16 434 (48), Cond.methodLink RX16 426 yX16_choose, Cond.instanceMethod yX16_choose, Cond.selects RX16 yX16_choose yX16_choose, Cond.methodLink RX16 429 yX16_newThing, Cond.instanceMethod yX16_newThing, Cond.selects RX16 yX16_newThing yX16_newThing, Cond.code yX16_valueE cX16_valueE 6 (some (.object "SumHouseModel$Thing")), Cond.methodLink RX16 378 yX16_valueU, Cond.instanceMethod yX16_valueU, Cond.selects RX16 yX16_valueU yX16_valueU, Cond.methodLink RX16 382 yX16_add_, Cond.instanceMethod yX16_add_, Cond.selects RX16 yX16_add_ yX16_add_, Cond.code yX16_valueU cX16_valueU 5 (some (.object "SumHouseModel$Thing")), Cond.methodLink RX16 385 yX16_valueW, Cond.instanceMethod yX16_valueW, Cond.selects RX16 yX16_valueW yX16_valueW, Cond.methodLink RX16 388 yX16_multiply_, Cond.instanceMethod yX16_multiply_, Cond.selects RX16 yX16_multiply_ yX16_multiply_, Cond.code yX16_valueW cX16_valueW 4 (some (.object "SumHouseModel$Thing")), Cond.methodLink RX16 406 yX16_valueB, Cond.instanceMethod yX16_valueB, Cond.selects RX16 yX16_valueB yX16_valueB, Cond.methodLink RX16 414 yX16_raiseText, Cond.instanceMethod yX16_raiseText, Cond.selects RX16 yX16_raiseText yX16_raiseText, Cond.code yX16_choose cX16_choose 11 (some (.object "SumHouseModel$Thing")), Cond.methodLink RX16 436 objectInit, Cond.classLink RX16 26 RX15, Cond.classLink RX16 94 RX12, Cond.classLink RX16 441 "[[I", Cond.classLink RX16 203 RX14, Cond.instantiable RX14 15, Cond.initialized RX14, Cond.fieldLink RX16 443 "SumHouseModel" "spare" "LSumHouseModel$Thing;", Cond.arrayClass .boolean, Cond.classLink RX16 447 RX13, Cond.instantiable RX13 6, Cond.initialized RX13, Cond.arrayClass .byte, Cond.fieldLink RX16 450 "SumHouseModel" "slots" "[LSumHouseModel$Thing;"]
def zAll_29 : List Cond := [Cond.fieldLink RX16 453 "SumHouseModel" "made" "LSumHouseModel$Thing;", Cond.fieldLink RX16 456 "SumHouseModel" "place" "I", Cond.fieldLink RX16 459 "SumHouseModel" "out" "[B", Cond.fieldLink RX16 462 "SumHouseModel" "line" "[B", Cond.fieldLink RX16 465 "SumHouseModel" "fed" "[I", Cond.fieldLink RX16 468 "SumHouseModel" "rootOf" "[I", Cond.fieldLink RX16 471 "SumHouseModel" "qa" "[I", Cond.fieldLink RX16 474 "SumHouseModel" "qb" "[I", Cond.fieldLink RX16 477 "SumHouseModel" "qc" "[I", Cond.fieldLink RX16 480 "SumHouseModel" "qe" "[I", Cond.fieldLink RX16 483 "SumHouseModel" "rows" "[[I", Cond.fieldLink RX16 487 "SumHouseModel" "board" "[[LSumHouseModel$U;", Cond.fieldLink RX16 490 "SumHouseModel" "solution" "[LSumHouseModel$U;", Cond.fieldLink RX16 493 "SumHouseModel" "isPivot" "[Z", Cond.fieldLink RX16 496 "SumHouseModel" "pivotOf" "[I", Cond.fieldLink RX16 499 "SumHouseModel" "parts" "[LSumHouseModel$B;", Cond.fieldLink RX16 502 "SumHouseModel" "partDown" "[LSumHouseModel$U;", Cond.fieldLink RX16 505 "SumHouseModel" "sNum" "[[I", Cond.fieldLink RX16 508 "SumHouseModel" "sDen" "[[I", Cond.fieldLink RX16 511 "SumHouseModel" "tops" "[LSumHouseModel$B;", Cond.fieldLink RX16 514 "SumHouseModel" "unders" "[LSumHouseModel$B;", Cond.fieldLink RX16 517 "SumHouseModel" "rowOf" "[LSumHouseModel$U;", Cond.fieldLink RX16 520 "SumHouseModel" "ways" "[[LSumHouseModel$U;", Cond.fieldLink RX16 523 "SumHouseModel" "others" "[[LSumHouseModel$U;", Cond.fieldLink RX16 526 "SumHouseModel" "wayDown" "[LSumHouseModel$U;", Cond.fieldLink RX16 529 "SumHouseModel" "otherDown" "[LSumHouseModel$U;", Cond.fieldLink RX16 532 "SumHouseModel" "lineOf" "[[I", Cond.fieldLink RX16 535 "SumHouseModel" "unknown" "[I", Cond.fieldLink RX16 538 "SumHouseModel" "found" "[I", Cond.fieldLink RX16 541 "SumHouseModel" "howOften" "[I", Cond.instantiable RX12 2, Cond.instanceMethod yX14_init, Cond.methodLink RX16 449 yX13_init, Cond.instanceMethod yX13_init, Cond.methodLink RX16 544 yX15_init, Cond.methodLink RX16 546 yX12_init, Cond.instanceMethod yX12_init, Cond.code yX16_init cX16_init 3 none, Cond.code yX16_isSlot cX16_isSlot 1 (some .boolean), Cond.code yX16_begin cX16_begin 1 none, Cond.methodLink RX16 547 yX16_copy, Cond.static yX16_copy, Cond.code yX16_keep cX16_keep 2 (some .int), Cond.code yX16_type cX16_type 5 (some .int), Cond.methodLink RX16 551 yX16_isSlot, Cond.static yX16_isSlot, Cond.methodLink RX16 555 yX16_begin, Cond.instanceMethod yX16_begin, Cond.selects RX16 yX16_begin yX16_begin, Cond.methodLink RX16 558 yX16_keep, Cond.instanceMethod yX16_keep, Cond.selects RX16 yX16_keep yX16_keep, Cond.code yX16_place cX16_place 1 (some .int), Cond.code yX16_say cX16_say 2 none, Cond.fieldLink RX16 561 "SumHouseModel" "outWanted" "I", Cond.code yX16_sayNumber cX16_sayNumber 5 none, Cond.methodLink RX16 564 yX16_say, Cond.instanceMethod yX16_say, Cond.selects RX16 yX16_say yX16_say, Cond.code yX16_sayLetter cX16_sayLetter 4 none]
def zAll_30 : List Cond := [Cond.methodLink RX16 571 yX16_sayNumber, Cond.instanceMethod yX16_sayNumber, Cond.selects RX16 yX16_sayNumber yX16_sayNumber, Cond.fieldLink RX16 567 "SumHouseModel" "first" "Z", Cond.methodLink RX16 575 yX16_sayLetter, Cond.instanceMethod yX16_sayLetter, Cond.selects RX16 yX16_sayLetter yX16_sayLetter, Cond.code yX16_sayPart cX16_sayPart 7 none, Cond.methodLink RX16 579 yX16_sayPart, Cond.instanceMethod yX16_sayPart, Cond.selects RX16 yX16_sayPart yX16_sayPart, Cond.code yX16_sayCells cX16_sayCells 4 none, Cond.methodLink RX16 583 yX16_sayCells, Cond.instanceMethod yX16_sayCells, Cond.selects RX16 yX16_sayCells yX16_sayCells, Cond.code yX16_sayRatio cX16_sayRatio 3 none, Cond.code yX16_sayBase cX16_sayBase 3 none, Cond.methodLink RX16 600 yX16_rest, Cond.static yX16_rest, Cond.code yX16_sayLine cX16_sayLine 4 none, Cond.fieldLink RX16 597 "SumHouseModel" "outSize" "I", Cond.methodLink RX16 587 yX16_sayRatio, Cond.instanceMethod yX16_sayRatio, Cond.selects RX16 yX16_sayRatio yX16_sayRatio, Cond.methodLink RX16 590 yX16_sayBase, Cond.instanceMethod yX16_sayBase, Cond.selects RX16 yX16_sayBase yX16_sayBase, Cond.methodLink RX16 594 yX16_sayLine, Cond.instanceMethod yX16_sayLine, Cond.selects RX16 yX16_sayLine yX16_sayLine, Cond.code yX16_write cX16_write 4 (some .int), Cond.code yX16_written cX16_written 2 (some .int), Cond.code yX16_again cX16_again 1 (some .int), Cond.code yX16_kind cX16_kind 2 (some .int), Cond.code yX16_drop cX16_drop 3 (some .int), Cond.code yX16_degree cX16_degree 4 (some .int), Cond.code yX16_degree_ cX16_degree_ 5 (some .int), Cond.methodLink RX16 603 yX16_degree, Cond.static yX16_degree, Cond.code yX16_number_ cX16_number_ 7 (some .int), Cond.code yX16_told cX16_told 5 (some .int), Cond.code yX16_factorial_ cX16_factorial_ 5 (some .int), Cond.code yX16_count cX16_count 5 (some .int), Cond.fieldLink RX16 607 "SumHouseModel" "fedCount" "I", Cond.fieldLink RX16 610 "SumHouseModel" "rootCount" "I", Cond.code yX16_lineFactor cX16_lineFactor 11 none, Cond.fieldLink RX16 613 "SumHouseModel" "linesNumber" "I", Cond.fieldLink RX16 616 "SumHouseModel" "lines" "I", Cond.code yX16_lineInto cX16_lineInto 11 (some .boolean), Cond.methodLink RX16 619 yX16_lineFactor, Cond.instanceMethod yX16_lineFactor, Cond.selects RX16 yX16_lineFactor yX16_lineFactor, Cond.methodLink RX16 623 yX16_shiftN, Cond.static yX16_shiftN, Cond.methodLink RX16 626 yX16_shiftK, Cond.static yX16_shiftK, Cond.methodLink RX16 629 yX16_lineInto, Cond.instanceMethod yX16_lineInto, Cond.selects RX16 yX16_lineInto yX16_lineInto, Cond.code yX16_quotient cX16_quotient 13 (some .boolean)]
def zAll_31 : List Cond := [Cond.methodLink RX16 633 yX16_quotient, Cond.instanceMethod yX16_quotient, Cond.selects RX16 yX16_quotient yX16_quotient, Cond.code yX16_quotient_ cX16_quotient_ 8 (some .int), Cond.code yX16_isPolynomial cX16_isPolynomial 1 (some .boolean), Cond.code yX16_sylvester cX16_sylvester 14 (some .int), Cond.methodLink RX16 644 yX16_turn, Cond.static yX16_turn, Cond.methodLink RX16 647 yX16_sylvester, Cond.instanceMethod yX16_sylvester, Cond.selects RX16 yX16_sylvester yX16_sylvester, Cond.code yX16_resultant cX16_resultant 12 (some .boolean), Cond.methodLink RX16 637 yX16_isPolynomial, Cond.static yX16_isPolynomial, Cond.methodLink RX16 640 yX16_resultant, Cond.instanceMethod yX16_resultant, Cond.selects RX16 yX16_resultant yX16_resultant, Cond.code yX16_work cX16_work 12 (some .int), Cond.constantLong RX16 666 (-50), Cond.constantLong RX16 668 (50), Cond.code yX16_moved cX16_moved 10 (some .int), Cond.code yX16_fixed cX16_fixed 9 none, Cond.code yX16_slope cX16_slope 5 none, Cond.methodLink RX16 670 yX16_slope, Cond.static yX16_slope, Cond.methodLink RX16 659 yX16_reduce, Cond.instanceMethod yX16_reduce, Cond.selects RX16 yX16_reduce yX16_reduce, Cond.code yX16_derivative cX16_derivative 9 none, Cond.methodLink RX16 651 yX16_moved, Cond.instanceMethod yX16_moved, Cond.selects RX16 yX16_moved yX16_moved, Cond.methodLink RX16 655 yX16_fixed, Cond.instanceMethod yX16_fixed, Cond.selects RX16 yX16_fixed yX16_fixed, Cond.methodLink RX16 662 yX16_derivative, Cond.instanceMethod yX16_derivative, Cond.selects RX16 yX16_derivative yX16_derivative, Cond.code yX16_change cX16_change 12 (some .int), Cond.code yX16_factorialOf cX16_factorialOf 4 (some .int), Cond.code yX16_cells cX16_cells 10 (some .int), Cond.code yX16_ratioAt cX16_ratioAt 5 (some .int), Cond.methodLink RX16 674 yX16_cells, Cond.instanceMethod yX16_cells, Cond.selects RX16 yX16_cells yX16_cells, Cond.code yX16_isWhole cX16_isWhole 1 (some .boolean), Cond.methodLink RX16 678 yX16_ratioAt, Cond.instanceMethod yX16_ratioAt, Cond.selects RX16 yX16_ratioAt yX16_ratioAt, Cond.methodLink RX16 682 yX16_isWhole, Cond.static yX16_isWhole, Cond.methodLink RX16 685 yX16_factorialOf, Cond.instanceMethod yX16_factorialOf, Cond.selects RX16 yX16_factorialOf yX16_factorialOf, Cond.code yX16_valueAt cX16_valueAt 8 (some .int), Cond.methodLink RX16 688 yX16_valueAt, Cond.instanceMethod yX16_valueAt, Cond.selects RX16 yX16_valueAt yX16_valueAt, Cond.code yX16_value cX16_value 5 (some .int), Cond.code yX16_sumOf cX16_sumOf 8 (some .int)]
def zAll_32 : List Cond := [Cond.methodLink RX16 691 yX16_sumOf, Cond.instanceMethod yX16_sumOf, Cond.selects RX16 yX16_sumOf yX16_sumOf, Cond.code yX16_sum_ cX16_sum_ 6 (some .int), Cond.fieldLink RX16 695 "SumHouseModel" "formA" "LSumHouseModel$B;", Cond.fieldLink RX16 699 "SumHouseModel" "formB" "LSumHouseModel$B;", Cond.fieldLink RX16 702 "SumHouseModel" "formC" "LSumHouseModel$B;", Cond.fieldLink RX16 705 "SumHouseModel" "alphaUp" "LSumHouseModel$U;", Cond.fieldLink RX16 709 "SumHouseModel" "alphaDown" "LSumHouseModel$U;", Cond.code yX16_form cX16_form 15 (some .boolean), Cond.methodLink RX16 712 yX16_form, Cond.instanceMethod yX16_form, Cond.selects RX16 yX16_form yX16_form, Cond.code yX16_form_ cX16_form_ 10 (some .int), Cond.code yX16_areSame cX16_areSame 4 (some .boolean), Cond.constant RX16 720 (2147483646), Cond.methodLink RX16 716 yX16_areSame, Cond.static yX16_areSame, Cond.code yX16_depth cX16_depth 12 (some .int), Cond.fieldLink RX16 721 "SumHouseModel" "boardRows" "I", Cond.code yX16_column cX16_column 6 none, Cond.methodLink RX16 724 yX16_column, Cond.instanceMethod yX16_column, Cond.selects RX16 yX16_column yX16_column, Cond.code yX16_lay cX16_lay 13 (some .int), Cond.code yX16_clear cX16_clear 14 (some (.object "SumHouseModel$U")), Cond.code yX16_solveBy cX16_solveBy 5 none, Cond.code yX16_certificate cX16_certificate 15 (some .boolean), Cond.methodLink RX16 728 yX16_depth, Cond.instanceMethod yX16_depth, Cond.selects RX16 yX16_depth yX16_depth, Cond.methodLink RX16 731 yX16_lay, Cond.instanceMethod yX16_lay, Cond.selects RX16 yX16_lay yX16_lay, Cond.methodLink RX16 735 yX16_clear, Cond.instanceMethod yX16_clear, Cond.selects RX16 yX16_clear yX16_clear, Cond.methodLink RX16 739 yX16_solveBy, Cond.instanceMethod yX16_solveBy, Cond.selects RX16 yX16_solveBy yX16_solveBy, Cond.methodLink RX16 743 yX16_certificate, Cond.instanceMethod yX16_certificate, Cond.selects RX16 yX16_certificate yX16_certificate, Cond.code yX16_close cX16_close 11 (some .int), Cond.code yX16_part cX16_part 13 (some .boolean), Cond.methodLink RX16 762 yX16_store_, Cond.static yX16_store_, Cond.code yX16_makeRecord cX16_makeRecord 11 (some .boolean), Cond.methodLink RX16 754 yX16_part, Cond.instanceMethod yX16_part, Cond.selects RX16 yX16_part yX16_part, Cond.methodLink RX16 758 yX16_makeRecord, Cond.instanceMethod yX16_makeRecord, Cond.selects RX16 yX16_makeRecord yX16_makeRecord, Cond.code yX16_recurAt cX16_recurAt 15 (some .int), Cond.code yX16_keepRecord cX16_keepRecord 2 (some .int), Cond.methodLink RX16 747 yX16_recurAt, Cond.instanceMethod yX16_recurAt, Cond.selects RX16 yX16_recurAt yX16_recurAt, Cond.methodLink RX16 751 yX16_keepRecord]
def zAll_33 : List Cond := [Cond.instanceMethod yX16_keepRecord, Cond.selects RX16 yX16_keepRecord yX16_keepRecord, Cond.code yX16_recur cX16_recur 14 (some .int), Cond.code yX16_part_ cX16_part_ 5 (some .int), Cond.code yX16_polynomialAt cX16_polynomialAt 6 (some .int), Cond.methodLink RX16 769 yX16_eval_, Cond.static yX16_eval_, Cond.methodLink RX16 772 yX16_polynomialAt, Cond.static yX16_polynomialAt, Cond.code yX16_isRight cX16_isRight 14 (some .boolean), Cond.methodLink RX16 765 yX16_isRight, Cond.instanceMethod yX16_isRight, Cond.selects RX16 yX16_isRight yX16_isRight, Cond.code yX16_check cX16_check 13 (some .int), Cond.code yX16_poke cX16_poke 13 (some .int), Cond.code yX16_holds cX16_holds 13 (some .int), Cond.code yX16_needsOf cX16_needsOf 5 (some .int), Cond.code yX16_makeRow cX16_makeRow 7 (some .boolean), Cond.code yX16_fill cX16_fill 5 none, Cond.methodLink RX16 775 yX16_load_, Cond.static yX16_load_, Cond.methodLink RX16 777 yX16_makeRow, Cond.instanceMethod yX16_makeRow, Cond.selects RX16 yX16_makeRow yX16_makeRow, Cond.methodLink RX16 781 yX16_needsOf, Cond.static yX16_needsOf, Cond.code yX16_row cX16_row 5 (some .int), Cond.methodLink RX16 784 yX16_fill, Cond.static yX16_fill, Cond.code yX16_first cX16_first 4 (some .int), Cond.code yX16_at cX16_at 4 (some .int), Cond.code yX16_degreeOf cX16_degreeOf 4 (some .int), Cond.code yX16_lighten cX16_lighten 6 none, Cond.methodLink RX16 787 yX16_lighten, Cond.instanceMethod yX16_lighten, Cond.selects RX16 yX16_lighten yX16_lighten, Cond.code yX16_unroll cX16_unroll 12 none, Cond.code yX16_simple cX16_simple 6 none, Cond.methodLink RX16 802 yX16_unroll, Cond.instanceMethod yX16_unroll, Cond.selects RX16 yX16_unroll yX16_unroll, Cond.code yX16_combine cX16_combine 11 (some .int), Cond.methodLink RX16 791 yX16_simple, Cond.instanceMethod yX16_simple, Cond.selects RX16 yX16_simple yX16_simple, Cond.methodLink RX16 795 yX16_degreeOf, Cond.static yX16_degreeOf, Cond.methodLink RX16 798 yX16_combine, Cond.instanceMethod yX16_combine, Cond.selects RX16 yX16_combine yX16_combine, Cond.code yX16_join cX16_join 14 (some .int), Cond.code yX16_feed cX16_feed 2 (some .int), Cond.code yX16_clear_ cX16_clear_ 2 (some .int), Cond.code yX16_tries cX16_tries 14 (some .boolean), Cond.code yX16_guessed cX16_guessed 6 (some .int), Cond.methodLink RX16 806 yX16_tries, Cond.instanceMethod yX16_tries, Cond.selects RX16 yX16_tries yX16_tries, Cond.methodLink RX16 810 yX16_guessed, Cond.instanceMethod yX16_guessed]
def zAll_34 : List Cond := [Cond.selects RX16 yX16_guessed yX16_guessed, Cond.code yX16_guess cX16_guess 4 (some .int), Cond.code yX16_powerOf cX16_powerOf 12 none, Cond.fieldLink RX16 814 "SumHouseModel" "foundCount" "I", Cond.constantLong RX16 817 (1073741823), Cond.methodLink RX16 819 yX16_powerOf, Cond.instanceMethod yX16_powerOf, Cond.selects RX16 yX16_powerOf yX16_powerOf, Cond.methodLink RX16 823 yX16_split, Cond.instanceMethod yX16_split, Cond.selects RX16 yX16_split yX16_split, Cond.code yX16_split cX16_split 9 none, Cond.code yX16_roots cX16_roots 11 (some .int), Cond.code yX16_root cX16_root 2 (some .int), Cond.code yX16_strip cX16_strip 8 (some .int), Cond.methodLink RX16 827 yX16_strip, Cond.instanceMethod yX16_strip, Cond.selects RX16 yX16_strip yX16_strip, Cond.code yX16_solve cX16_solve 9 (some .int), Cond.classLink RL 7 RX11, Cond.instantiable RX11 13, Cond.classLink RL 10 RX16, Cond.instantiable RX16 65, Cond.constantLong RL 13 (4294967295), Cond.methodLink RL 9 yX11_init, Cond.instanceMethod yX11_init, Cond.methodLink RL 12 yX16_init, Cond.instanceMethod yX16_init, Cond.methodLink RL 15 yX11_type, Cond.instanceMethod yX11_type, Cond.selects RX11 yX11_type yX11_type, Cond.methodLink RL 19 yX16_type, Cond.instanceMethod yX16_type, Cond.selects RX16 yX16_type yX16_type, Cond.methodLink RL 20 yX11_read, Cond.instanceMethod yX11_read, Cond.selects RX11 yX11_read yX11_read, Cond.methodLink RL 24 yX16_read, Cond.instanceMethod yX16_read, Cond.selects RX16 yX16_read yX16_read, Cond.codeWith yX16_read cX16_read 4 (some .int) [(28, 72, 75, 447)], Cond.methodLink RL 25 yX11_place, Cond.instanceMethod yX11_place, Cond.selects RX11 yX11_place yX11_place, Cond.methodLink RL 29 yX16_place, Cond.instanceMethod yX16_place, Cond.selects RX16 yX16_place yX16_place, Cond.methodLink RL 30 yX11_write, Cond.instanceMethod yX11_write, Cond.selects RX11 yX11_write yX11_write, Cond.methodLink RL 33 yX16_write, Cond.instanceMethod yX16_write, Cond.selects RX16 yX16_write yX16_write, Cond.methodLink RL 34 yX11_written, Cond.instanceMethod yX11_written, Cond.selects RX11 yX11_written yX11_written, Cond.methodLink RL 37 yX16_written, Cond.instanceMethod yX16_written, Cond.selects RX16 yX16_written yX16_written, Cond.methodLink RL 38 yX11_again]
def zAll_35 : List Cond := [Cond.instanceMethod yX11_again, Cond.selects RX11 yX11_again yX11_again, Cond.methodLink RL 41 yX16_again, Cond.instanceMethod yX16_again, Cond.selects RX16 yX16_again yX16_again, Cond.methodLink RL 42 yX11_kind, Cond.instanceMethod yX11_kind, Cond.selects RX11 yX11_kind yX11_kind, Cond.methodLink RL 45 yX16_kind, Cond.instanceMethod yX16_kind, Cond.selects RX16 yX16_kind yX16_kind, Cond.methodLink RL 46 yX11_drop, Cond.instanceMethod yX11_drop, Cond.selects RX11 yX11_drop yX11_drop, Cond.methodLink RL 49 yX16_drop, Cond.instanceMethod yX16_drop, Cond.selects RX16 yX16_drop yX16_drop, Cond.methodLink RL 50 yX11_degree, Cond.instanceMethod yX11_degree, Cond.selects RX11 yX11_degree yX11_degree, Cond.methodLink RL 54 yX16_degree_, Cond.instanceMethod yX16_degree_, Cond.selects RX16 yX16_degree_ yX16_degree_, Cond.methodLink RL 55 yX11_number, Cond.instanceMethod yX11_number, Cond.selects RX11 yX11_number yX11_number, Cond.methodLink RL 59 yX16_number_, Cond.instanceMethod yX16_number_, Cond.selects RX16 yX16_number_ yX16_number_, Cond.methodLink RL 60 yX11_told, Cond.instanceMethod yX11_told, Cond.selects RX11 yX11_told yX11_told, Cond.methodLink RL 64 yX16_told, Cond.instanceMethod yX16_told, Cond.selects RX16 yX16_told yX16_told, Cond.methodLink RL 65 yX11_factorial, Cond.instanceMethod yX11_factorial, Cond.selects RX11 yX11_factorial yX11_factorial, Cond.methodLink RL 68 yX16_factorial_, Cond.instanceMethod yX16_factorial_, Cond.selects RX16 yX16_factorial_ yX16_factorial_, Cond.methodLink RL 69 yX11_work, Cond.instanceMethod yX11_work, Cond.selects RX11 yX11_work yX11_work, Cond.methodLink RL 72 yX16_work, Cond.instanceMethod yX16_work, Cond.selects RX16 yX16_work yX16_work, Cond.methodLink RL 73 yX11_change, Cond.instanceMethod yX11_change, Cond.selects RX11 yX11_change yX11_change, Cond.methodLink RL 76 yX16_change, Cond.instanceMethod yX16_change, Cond.selects RX16 yX16_change yX16_change, Cond.methodLink RL 77 yX11_value, Cond.instanceMethod yX11_value, Cond.selects RX11 yX11_value yX11_value, Cond.methodLink RL 80 yX16_value, Cond.instanceMethod yX16_value, Cond.selects RX16 yX16_value yX16_value, Cond.methodLink RL 81 yX11_sum]
def zAll_36 : List Cond := [Cond.instanceMethod yX11_sum, Cond.selects RX11 yX11_sum yX11_sum, Cond.methodLink RL 84 yX16_sum_, Cond.instanceMethod yX16_sum_, Cond.selects RX16 yX16_sum_ yX16_sum_, Cond.methodLink RL 85 yX11_quotient, Cond.instanceMethod yX11_quotient, Cond.selects RX11 yX11_quotient yX11_quotient, Cond.methodLink RL 88 yX16_quotient_, Cond.instanceMethod yX16_quotient_, Cond.selects RX16 yX16_quotient_ yX16_quotient_, Cond.methodLink RL 89 yX11_form, Cond.instanceMethod yX11_form, Cond.selects RX11 yX11_form yX11_form, Cond.methodLink RL 92 yX16_form_, Cond.instanceMethod yX16_form_, Cond.selects RX16 yX16_form_ yX16_form_, Cond.methodLink RL 93 yX11_close, Cond.instanceMethod yX11_close, Cond.selects RX11 yX11_close yX11_close, Cond.methodLink RL 96 yX16_close, Cond.instanceMethod yX16_close, Cond.selects RX16 yX16_close yX16_close, Cond.methodLink RL 97 yX11_recur, Cond.instanceMethod yX11_recur, Cond.selects RX11 yX11_recur yX11_recur, Cond.methodLink RL 100 yX16_recur, Cond.instanceMethod yX16_recur, Cond.selects RX16 yX16_recur yX16_recur, Cond.methodLink RL 101 yX11_part, Cond.instanceMethod yX11_part, Cond.selects RX11 yX11_part yX11_part, Cond.methodLink RL 104 yX16_part_, Cond.instanceMethod yX16_part_, Cond.selects RX16 yX16_part_ yX16_part_, Cond.methodLink RL 105 yX11_check, Cond.instanceMethod yX11_check, Cond.selects RX11 yX11_check yX11_check, Cond.methodLink RL 108 yX16_check, Cond.instanceMethod yX16_check, Cond.selects RX16 yX16_check yX16_check, Cond.methodLink RL 109 yX11_poke, Cond.instanceMethod yX11_poke, Cond.selects RX11 yX11_poke yX11_poke, Cond.methodLink RL 113 yX16_poke, Cond.instanceMethod yX16_poke, Cond.selects RX16 yX16_poke yX16_poke, Cond.methodLink RL 114 yX11_holds, Cond.instanceMethod yX11_holds, Cond.selects RX11 yX11_holds yX11_holds, Cond.methodLink RL 117 yX16_holds, Cond.instanceMethod yX16_holds, Cond.selects RX16 yX16_holds yX16_holds, Cond.methodLink RL 118 yX11_row, Cond.instanceMethod yX11_row, Cond.selects RX11 yX11_row yX11_row, Cond.methodLink RL 121 yX16_row, Cond.instanceMethod yX16_row, Cond.selects RX16 yX16_row yX16_row, Cond.methodLink RL 122 yX11_first]
def zAll_37 : List Cond := [Cond.instanceMethod yX11_first, Cond.selects RX11 yX11_first yX11_first, Cond.methodLink RL 125 yX16_first, Cond.instanceMethod yX16_first, Cond.selects RX16 yX16_first yX16_first, Cond.methodLink RL 126 yX11_at, Cond.instanceMethod yX11_at, Cond.selects RX11 yX11_at yX11_at, Cond.methodLink RL 129 yX16_at, Cond.instanceMethod yX16_at, Cond.selects RX16 yX16_at yX16_at, Cond.methodLink RL 130 yX11_join, Cond.instanceMethod yX11_join, Cond.selects RX11 yX11_join yX11_join, Cond.methodLink RL 133 yX16_join, Cond.instanceMethod yX16_join, Cond.selects RX16 yX16_join yX16_join, Cond.methodLink RL 134 yX11_feed, Cond.instanceMethod yX11_feed, Cond.selects RX11 yX11_feed yX11_feed, Cond.methodLink RL 137 yX16_feed, Cond.instanceMethod yX16_feed, Cond.selects RX16 yX16_feed yX16_feed, Cond.methodLink RL 138 yX11_clear, Cond.instanceMethod yX11_clear, Cond.selects RX11 yX11_clear yX11_clear, Cond.methodLink RL 141 yX16_clear_, Cond.instanceMethod yX16_clear_, Cond.selects RX16 yX16_clear_ yX16_clear_, Cond.methodLink RL 142 yX11_guess, Cond.instanceMethod yX11_guess, Cond.selects RX11 yX11_guess yX11_guess, Cond.methodLink RL 145 yX16_guess, Cond.instanceMethod yX16_guess, Cond.selects RX16 yX16_guess yX16_guess, Cond.methodLink RL 146 yX11_roots, Cond.instanceMethod yX11_roots, Cond.selects RX11 yX11_roots yX11_roots, Cond.methodLink RL 149 yX16_roots, Cond.instanceMethod yX16_roots, Cond.selects RX16 yX16_roots yX16_roots, Cond.methodLink RL 150 yX11_root, Cond.instanceMethod yX11_root, Cond.selects RX11 yX11_root yX11_root, Cond.methodLink RL 153 yX16_root, Cond.instanceMethod yX16_root, Cond.selects RX16 yX16_root yX16_root, Cond.methodLink RL 154 yX11_solve, Cond.instanceMethod yX11_solve, Cond.selects RX11 yX11_solve yX11_solve, Cond.methodLink RL 157 yX16_solve, Cond.instanceMethod yX16_solve, Cond.selects RX16 yX16_solve yX16_solve, Cond.methodLink RL 158 yX11_count, Cond.instanceMethod yX11_count, Cond.selects RX11 yX11_count yX11_count, Cond.methodLink RL 161 yX16_count, Cond.instanceMethod yX16_count, Cond.selects RX16 yX16_count yX16_count, Cond.methodLink RX16 346 yX16_fail]
def zAll_38 : List Cond := [Cond.instanceMethod yX16_fail, Cond.selects RX16 yX16_fail yX16_fail]
/-- the words of all methods here -/
def zAll : List Cond := zAll_0 ++ (zAll_1 ++ (zAll_2 ++ (zAll_3 ++ (zAll_4 ++ (zAll_5 ++ (zAll_6 ++ (zAll_7 ++ (zAll_8 ++ (zAll_9 ++ (zAll_10 ++ (zAll_11 ++ (zAll_12 ++ (zAll_13 ++ (zAll_14 ++ (zAll_15 ++ (zAll_16 ++ (zAll_17 ++ (zAll_18 ++ (zAll_19 ++ (zAll_20 ++ (zAll_21 ++ (zAll_22 ++ (zAll_23 ++ (zAll_24 ++ (zAll_25 ++ (zAll_26 ++ (zAll_27 ++ (zAll_28 ++ (zAll_29 ++ (zAll_30 ++ (zAll_31 ++ (zAll_32 ++ (zAll_33 ++ (zAll_34 ++ (zAll_35 ++ (zAll_36 ++ (zAll_37 ++ (zAll_38 ++ (wsX00 ++ (wsX10 ++ (wsX20 ++ (wsX30 ++ (wsX40 ++ (wsX50 ++ (wsX60 ++ (wsX70 ++ (wsX80 ++ (wsX90 ++ (wsX100 ++ (wsX110 ++ (wsX120 ++ (wsX130 ++ (wsX140 ++ (wsX150 ++ (wsX160)))))))))))))))))))))))))))))))))))))))))))))))))))))))
abbrev vwCl : List vw_C := [(RX0, TX0, 5), (RX2, TX2, 1), (RX3, TX3, 3), (RX4, TX4, 3), (RX5, TX5, 9), (RX6, TX6, 12), (RX7, TX7, 14), (RX8, TX8, 18), (RX9, TX9, 8), (RX10, TX10, 19), (RX11, TX11, 13), (RX12, TX12, 2), (RX13, TX13, 6), (RX14, TX14, 15), (RX15, TX15, 2), (RX16, TX16, 65)]
end
section
theorem zi_0 {w : Cond} (h : w ∈ zAll_0) : w ∈ zAll := List.mem_append_left _ h
theorem zi_1 {w : Cond} (h : w ∈ zAll_1) : w ∈ zAll := List.mem_append_right _ (List.mem_append_left _ h)
theorem zi_2 {w : Cond} (h : w ∈ zAll_2) : w ∈ zAll := List.mem_append_right _ (List.mem_append_right _ (List.mem_append_left _ h))
theorem zi_3 {w : Cond} (h : w ∈ zAll_3) : w ∈ zAll := List.mem_append_right _ (List.mem_append_right _ (List.mem_append_right _ (List.mem_append_left _ h)))
theorem zi_4 {w : Cond} (h : w ∈ zAll_4) : w ∈ zAll := List.mem_append_right _ (List.mem_append_right _ (List.mem_append_right _ (List.mem_append_right _ (List.mem_append_left _ h))))
theorem zi_5 {w : Cond} (h : w ∈ zAll_5) : w ∈ zAll := List.mem_append_right _ (List.mem_append_right _ (List.mem_append_right _ (List.mem_append_right _ (List.mem_append_right _ (List.mem_append_left _ h)))))
theorem zi_6 {w : Cond} (h : w ∈ zAll_6) : w ∈ zAll := List.mem_append_right _ (List.mem_append_right _ (List.mem_append_right _ (List.mem_append_right _ (List.mem_append_right _ (List.mem_append_right _ (List.mem_append_left _ h))))))
theorem zi_7 {w : Cond} (h : w ∈ zAll_7) : w ∈ zAll := List.mem_append_right _ (List.mem_append_right _ (List.mem_append_right _ (List.mem_append_right _ (List.mem_append_right _ (List.mem_append_right _ (List.mem_append_right _ (List.mem_append_left _ h)))))))
theorem zi_8 {w : Cond} (h : w ∈ zAll_8) : w ∈ zAll := List.mem_append_right _ (List.mem_append_right _ (List.mem_append_right _ (List.mem_append_right _ (List.mem_append_right _ (List.mem_append_right _ (List.mem_append_right _ (List.mem_append_right _ (List.mem_append_left _ h))))))))
theorem zi_9 {w : Cond} (h : w ∈ zAll_9) : w ∈ zAll := List.mem_append_right _ (List.mem_append_right _ (List.mem_append_right _ (List.mem_append_right _ (List.mem_append_right _ (List.mem_append_right _ (List.mem_append_right _ (List.mem_append_right _ (List.mem_append_right _ (List.mem_append_left _ h)))))))))
theorem zi_10 {w : Cond} (h : w ∈ zAll_10) : w ∈ zAll := List.mem_append_right _ (List.mem_append_right _ (List.mem_append_right _ (List.mem_append_right _ (List.mem_append_right _ (List.mem_append_right _ (List.mem_append_right _ (List.mem_append_right _ (List.mem_append_right _ (List.mem_append_right _ (List.mem_append_left _ h))))))))))
theorem zi_11 {w : Cond} (h : w ∈ zAll_11) : w ∈ zAll := List.mem_append_right _ (List.mem_append_right _ (List.mem_append_right _ (List.mem_append_right _ (List.mem_append_right _ (List.mem_append_right _ (List.mem_append_right _ (List.mem_append_right _ (List.mem_append_right _ (List.mem_append_right _ (List.mem_append_right _ (List.mem_append_left _ h)))))))))))
theorem zi_12 {w : Cond} (h : w ∈ zAll_12) : w ∈ zAll := List.mem_append_right _ (List.mem_append_right _ (List.mem_append_right _ (List.mem_append_right _ (List.mem_append_right _ (List.mem_append_right _ (List.mem_append_right _ (List.mem_append_right _ (List.mem_append_right _ (List.mem_append_right _ (List.mem_append_right _ (List.mem_append_right _ (List.mem_append_left _ h))))))))))))
theorem zi_13 {w : Cond} (h : w ∈ zAll_13) : w ∈ zAll := List.mem_append_right _ (List.mem_append_right _ (List.mem_append_right _ (List.mem_append_right _ (List.mem_append_right _ (List.mem_append_right _ (List.mem_append_right _ (List.mem_append_right _ (List.mem_append_right _ (List.mem_append_right _ (List.mem_append_right _ (List.mem_append_right _ (List.mem_append_right _ (List.mem_append_left _ h)))))))))))))
theorem zi_14 {w : Cond} (h : w ∈ zAll_14) : w ∈ zAll := List.mem_append_right _ (List.mem_append_right _ (List.mem_append_right _ (List.mem_append_right _ (List.mem_append_right _ (List.mem_append_right _ (List.mem_append_right _ (List.mem_append_right _ (List.mem_append_right _ (List.mem_append_right _ (List.mem_append_right _ (List.mem_append_right _ (List.mem_append_right _ (List.mem_append_right _ (List.mem_append_left _ h))))))))))))))
theorem zi_15 {w : Cond} (h : w ∈ zAll_15) : w ∈ zAll := List.mem_append_right _ (List.mem_append_right _ (List.mem_append_right _ (List.mem_append_right _ (List.mem_append_right _ (List.mem_append_right _ (List.mem_append_right _ (List.mem_append_right _ (List.mem_append_right _ (List.mem_append_right _ (List.mem_append_right _ (List.mem_append_right _ (List.mem_append_right _ (List.mem_append_right _ (List.mem_append_right _ (List.mem_append_left _ h)))))))))))))))
theorem zi_16 {w : Cond} (h : w ∈ zAll_16) : w ∈ zAll := List.mem_append_right _ (List.mem_append_right _ (List.mem_append_right _ (List.mem_append_right _ (List.mem_append_right _ (List.mem_append_right _ (List.mem_append_right _ (List.mem_append_right _ (List.mem_append_right _ (List.mem_append_right _ (List.mem_append_right _ (List.mem_append_right _ (List.mem_append_right _ (List.mem_append_right _ (List.mem_append_right _ (List.mem_append_right _ (List.mem_append_left _ h))))))))))))))))
theorem zi_17 {w : Cond} (h : w ∈ zAll_17) : w ∈ zAll := List.mem_append_right _ (List.mem_append_right _ (List.mem_append_right _ (List.mem_append_right _ (List.mem_append_right _ (List.mem_append_right _ (List.mem_append_right _ (List.mem_append_right _ (List.mem_append_right _ (List.mem_append_right _ (List.mem_append_right _ (List.mem_append_right _ (List.mem_append_right _ (List.mem_append_right _ (List.mem_append_right _ (List.mem_append_right _ (List.mem_append_right _ (List.mem_append_left _ h)))))))))))))))))
theorem zi_18 {w : Cond} (h : w ∈ zAll_18) : w ∈ zAll := List.mem_append_right _ (List.mem_append_right _ (List.mem_append_right _ (List.mem_append_right _ (List.mem_append_right _ (List.mem_append_right _ (List.mem_append_right _ (List.mem_append_right _ (List.mem_append_right _ (List.mem_append_right _ (List.mem_append_right _ (List.mem_append_right _ (List.mem_append_right _ (List.mem_append_right _ (List.mem_append_right _ (List.mem_append_right _ (List.mem_append_right _ (List.mem_append_right _ (List.mem_append_left _ h))))))))))))))))))
theorem zi_19 {w : Cond} (h : w ∈ zAll_19) : w ∈ zAll := List.mem_append_right _ (List.mem_append_right _ (List.mem_append_right _ (List.mem_append_right _ (List.mem_append_right _ (List.mem_append_right _ (List.mem_append_right _ (List.mem_append_right _ (List.mem_append_right _ (List.mem_append_right _ (List.mem_append_right _ (List.mem_append_right _ (List.mem_append_right _ (List.mem_append_right _ (List.mem_append_right _ (List.mem_append_right _ (List.mem_append_right _ (List.mem_append_right _ (List.mem_append_right _ (List.mem_append_left _ h)))))))))))))))))))
theorem zi_20 {w : Cond} (h : w ∈ zAll_20) : w ∈ zAll := List.mem_append_right _ (List.mem_append_right _ (List.mem_append_right _ (List.mem_append_right _ (List.mem_append_right _ (List.mem_append_right _ (List.mem_append_right _ (List.mem_append_right _ (List.mem_append_right _ (List.mem_append_right _ (List.mem_append_right _ (List.mem_append_right _ (List.mem_append_right _ (List.mem_append_right _ (List.mem_append_right _ (List.mem_append_right _ (List.mem_append_right _ (List.mem_append_right _ (List.mem_append_right _ (List.mem_append_right _ (List.mem_append_left _ h))))))))))))))))))))
theorem zi_21 {w : Cond} (h : w ∈ zAll_21) : w ∈ zAll := List.mem_append_right _ (List.mem_append_right _ (List.mem_append_right _ (List.mem_append_right _ (List.mem_append_right _ (List.mem_append_right _ (List.mem_append_right _ (List.mem_append_right _ (List.mem_append_right _ (List.mem_append_right _ (List.mem_append_right _ (List.mem_append_right _ (List.mem_append_right _ (List.mem_append_right _ (List.mem_append_right _ (List.mem_append_right _ (List.mem_append_right _ (List.mem_append_right _ (List.mem_append_right _ (List.mem_append_right _ (List.mem_append_right _ (List.mem_append_left _ h)))))))))))))))))))))
theorem zi_22 {w : Cond} (h : w ∈ zAll_22) : w ∈ zAll := List.mem_append_right _ (List.mem_append_right _ (List.mem_append_right _ (List.mem_append_right _ (List.mem_append_right _ (List.mem_append_right _ (List.mem_append_right _ (List.mem_append_right _ (List.mem_append_right _ (List.mem_append_right _ (List.mem_append_right _ (List.mem_append_right _ (List.mem_append_right _ (List.mem_append_right _ (List.mem_append_right _ (List.mem_append_right _ (List.mem_append_right _ (List.mem_append_right _ (List.mem_append_right _ (List.mem_append_right _ (List.mem_append_right _ (List.mem_append_right _ (List.mem_append_left _ h))))))))))))))))))))))
theorem zi_23 {w : Cond} (h : w ∈ zAll_23) : w ∈ zAll := List.mem_append_right _ (List.mem_append_right _ (List.mem_append_right _ (List.mem_append_right _ (List.mem_append_right _ (List.mem_append_right _ (List.mem_append_right _ (List.mem_append_right _ (List.mem_append_right _ (List.mem_append_right _ (List.mem_append_right _ (List.mem_append_right _ (List.mem_append_right _ (List.mem_append_right _ (List.mem_append_right _ (List.mem_append_right _ (List.mem_append_right _ (List.mem_append_right _ (List.mem_append_right _ (List.mem_append_right _ (List.mem_append_right _ (List.mem_append_right _ (List.mem_append_right _ (List.mem_append_left _ h)))))))))))))))))))))))
theorem zi_24 {w : Cond} (h : w ∈ zAll_24) : w ∈ zAll := List.mem_append_right _ (List.mem_append_right _ (List.mem_append_right _ (List.mem_append_right _ (List.mem_append_right _ (List.mem_append_right _ (List.mem_append_right _ (List.mem_append_right _ (List.mem_append_right _ (List.mem_append_right _ (List.mem_append_right _ (List.mem_append_right _ (List.mem_append_right _ (List.mem_append_right _ (List.mem_append_right _ (List.mem_append_right _ (List.mem_append_right _ (List.mem_append_right _ (List.mem_append_right _ (List.mem_append_right _ (List.mem_append_right _ (List.mem_append_right _ (List.mem_append_right _ (List.mem_append_right _ (List.mem_append_left _ h))))))))))))))))))))))))
theorem zi_25 {w : Cond} (h : w ∈ zAll_25) : w ∈ zAll := List.mem_append_right _ (List.mem_append_right _ (List.mem_append_right _ (List.mem_append_right _ (List.mem_append_right _ (List.mem_append_right _ (List.mem_append_right _ (List.mem_append_right _ (List.mem_append_right _ (List.mem_append_right _ (List.mem_append_right _ (List.mem_append_right _ (List.mem_append_right _ (List.mem_append_right _ (List.mem_append_right _ (List.mem_append_right _ (List.mem_append_right _ (List.mem_append_right _ (List.mem_append_right _ (List.mem_append_right _ (List.mem_append_right _ (List.mem_append_right _ (List.mem_append_right _ (List.mem_append_right _ (List.mem_append_right _ (List.mem_append_left _ h)))))))))))))))))))))))))
theorem zi_26 {w : Cond} (h : w ∈ zAll_26) : w ∈ zAll := List.mem_append_right _ (List.mem_append_right _ (List.mem_append_right _ (List.mem_append_right _ (List.mem_append_right _ (List.mem_append_right _ (List.mem_append_right _ (List.mem_append_right _ (List.mem_append_right _ (List.mem_append_right _ (List.mem_append_right _ (List.mem_append_right _ (List.mem_append_right _ (List.mem_append_right _ (List.mem_append_right _ (List.mem_append_right _ (List.mem_append_right _ (List.mem_append_right _ (List.mem_append_right _ (List.mem_append_right _ (List.mem_append_right _ (List.mem_append_right _ (List.mem_append_right _ (List.mem_append_right _ (List.mem_append_right _ (List.mem_append_right _ (List.mem_append_left _ h))))))))))))))))))))))))))
theorem zi_27 {w : Cond} (h : w ∈ zAll_27) : w ∈ zAll := List.mem_append_right _ (List.mem_append_right _ (List.mem_append_right _ (List.mem_append_right _ (List.mem_append_right _ (List.mem_append_right _ (List.mem_append_right _ (List.mem_append_right _ (List.mem_append_right _ (List.mem_append_right _ (List.mem_append_right _ (List.mem_append_right _ (List.mem_append_right _ (List.mem_append_right _ (List.mem_append_right _ (List.mem_append_right _ (List.mem_append_right _ (List.mem_append_right _ (List.mem_append_right _ (List.mem_append_right _ (List.mem_append_right _ (List.mem_append_right _ (List.mem_append_right _ (List.mem_append_right _ (List.mem_append_right _ (List.mem_append_right _ (List.mem_append_right _ (List.mem_append_left _ h)))))))))))))))))))))))))))
theorem zi_28 {w : Cond} (h : w ∈ zAll_28) : w ∈ zAll := List.mem_append_right _ (List.mem_append_right _ (List.mem_append_right _ (List.mem_append_right _ (List.mem_append_right _ (List.mem_append_right _ (List.mem_append_right _ (List.mem_append_right _ (List.mem_append_right _ (List.mem_append_right _ (List.mem_append_right _ (List.mem_append_right _ (List.mem_append_right _ (List.mem_append_right _ (List.mem_append_right _ (List.mem_append_right _ (List.mem_append_right _ (List.mem_append_right _ (List.mem_append_right _ (List.mem_append_right _ (List.mem_append_right _ (List.mem_append_right _ (List.mem_append_right _ (List.mem_append_right _ (List.mem_append_right _ (List.mem_append_right _ (List.mem_append_right _ (List.mem_append_right _ (List.mem_append_left _ h))))))))))))))))))))))))))))
theorem zi_29 {w : Cond} (h : w ∈ zAll_29) : w ∈ zAll := List.mem_append_right _ (List.mem_append_right _ (List.mem_append_right _ (List.mem_append_right _ (List.mem_append_right _ (List.mem_append_right _ (List.mem_append_right _ (List.mem_append_right _ (List.mem_append_right _ (List.mem_append_right _ (List.mem_append_right _ (List.mem_append_right _ (List.mem_append_right _ (List.mem_append_right _ (List.mem_append_right _ (List.mem_append_right _ (List.mem_append_right _ (List.mem_append_right _ (List.mem_append_right _ (List.mem_append_right _ (List.mem_append_right _ (List.mem_append_right _ (List.mem_append_right _ (List.mem_append_right _ (List.mem_append_right _ (List.mem_append_right _ (List.mem_append_right _ (List.mem_append_right _ (List.mem_append_right _ (List.mem_append_left _ h)))))))))))))))))))))))))))))
theorem zi_30 {w : Cond} (h : w ∈ zAll_30) : w ∈ zAll := List.mem_append_right _ (List.mem_append_right _ (List.mem_append_right _ (List.mem_append_right _ (List.mem_append_right _ (List.mem_append_right _ (List.mem_append_right _ (List.mem_append_right _ (List.mem_append_right _ (List.mem_append_right _ (List.mem_append_right _ (List.mem_append_right _ (List.mem_append_right _ (List.mem_append_right _ (List.mem_append_right _ (List.mem_append_right _ (List.mem_append_right _ (List.mem_append_right _ (List.mem_append_right _ (List.mem_append_right _ (List.mem_append_right _ (List.mem_append_right _ (List.mem_append_right _ (List.mem_append_right _ (List.mem_append_right _ (List.mem_append_right _ (List.mem_append_right _ (List.mem_append_right _ (List.mem_append_right _ (List.mem_append_right _ (List.mem_append_left _ h))))))))))))))))))))))))))))))
theorem zi_31 {w : Cond} (h : w ∈ zAll_31) : w ∈ zAll := List.mem_append_right _ (List.mem_append_right _ (List.mem_append_right _ (List.mem_append_right _ (List.mem_append_right _ (List.mem_append_right _ (List.mem_append_right _ (List.mem_append_right _ (List.mem_append_right _ (List.mem_append_right _ (List.mem_append_right _ (List.mem_append_right _ (List.mem_append_right _ (List.mem_append_right _ (List.mem_append_right _ (List.mem_append_right _ (List.mem_append_right _ (List.mem_append_right _ (List.mem_append_right _ (List.mem_append_right _ (List.mem_append_right _ (List.mem_append_right _ (List.mem_append_right _ (List.mem_append_right _ (List.mem_append_right _ (List.mem_append_right _ (List.mem_append_right _ (List.mem_append_right _ (List.mem_append_right _ (List.mem_append_right _ (List.mem_append_right _ (List.mem_append_left _ h)))))))))))))))))))))))))))))))
theorem zi_32 {w : Cond} (h : w ∈ zAll_32) : w ∈ zAll := List.mem_append_right _ (List.mem_append_right _ (List.mem_append_right _ (List.mem_append_right _ (List.mem_append_right _ (List.mem_append_right _ (List.mem_append_right _ (List.mem_append_right _ (List.mem_append_right _ (List.mem_append_right _ (List.mem_append_right _ (List.mem_append_right _ (List.mem_append_right _ (List.mem_append_right _ (List.mem_append_right _ (List.mem_append_right _ (List.mem_append_right _ (List.mem_append_right _ (List.mem_append_right _ (List.mem_append_right _ (List.mem_append_right _ (List.mem_append_right _ (List.mem_append_right _ (List.mem_append_right _ (List.mem_append_right _ (List.mem_append_right _ (List.mem_append_right _ (List.mem_append_right _ (List.mem_append_right _ (List.mem_append_right _ (List.mem_append_right _ (List.mem_append_right _ (List.mem_append_left _ h))))))))))))))))))))))))))))))))
theorem zi_33 {w : Cond} (h : w ∈ zAll_33) : w ∈ zAll := List.mem_append_right _ (List.mem_append_right _ (List.mem_append_right _ (List.mem_append_right _ (List.mem_append_right _ (List.mem_append_right _ (List.mem_append_right _ (List.mem_append_right _ (List.mem_append_right _ (List.mem_append_right _ (List.mem_append_right _ (List.mem_append_right _ (List.mem_append_right _ (List.mem_append_right _ (List.mem_append_right _ (List.mem_append_right _ (List.mem_append_right _ (List.mem_append_right _ (List.mem_append_right _ (List.mem_append_right _ (List.mem_append_right _ (List.mem_append_right _ (List.mem_append_right _ (List.mem_append_right _ (List.mem_append_right _ (List.mem_append_right _ (List.mem_append_right _ (List.mem_append_right _ (List.mem_append_right _ (List.mem_append_right _ (List.mem_append_right _ (List.mem_append_right _ (List.mem_append_right _ (List.mem_append_left _ h)))))))))))))))))))))))))))))))))
theorem zi_34 {w : Cond} (h : w ∈ zAll_34) : w ∈ zAll := List.mem_append_right _ (List.mem_append_right _ (List.mem_append_right _ (List.mem_append_right _ (List.mem_append_right _ (List.mem_append_right _ (List.mem_append_right _ (List.mem_append_right _ (List.mem_append_right _ (List.mem_append_right _ (List.mem_append_right _ (List.mem_append_right _ (List.mem_append_right _ (List.mem_append_right _ (List.mem_append_right _ (List.mem_append_right _ (List.mem_append_right _ (List.mem_append_right _ (List.mem_append_right _ (List.mem_append_right _ (List.mem_append_right _ (List.mem_append_right _ (List.mem_append_right _ (List.mem_append_right _ (List.mem_append_right _ (List.mem_append_right _ (List.mem_append_right _ (List.mem_append_right _ (List.mem_append_right _ (List.mem_append_right _ (List.mem_append_right _ (List.mem_append_right _ (List.mem_append_right _ (List.mem_append_right _ (List.mem_append_left _ h))))))))))))))))))))))))))))))))))
theorem zi_35 {w : Cond} (h : w ∈ zAll_35) : w ∈ zAll := List.mem_append_right _ (List.mem_append_right _ (List.mem_append_right _ (List.mem_append_right _ (List.mem_append_right _ (List.mem_append_right _ (List.mem_append_right _ (List.mem_append_right _ (List.mem_append_right _ (List.mem_append_right _ (List.mem_append_right _ (List.mem_append_right _ (List.mem_append_right _ (List.mem_append_right _ (List.mem_append_right _ (List.mem_append_right _ (List.mem_append_right _ (List.mem_append_right _ (List.mem_append_right _ (List.mem_append_right _ (List.mem_append_right _ (List.mem_append_right _ (List.mem_append_right _ (List.mem_append_right _ (List.mem_append_right _ (List.mem_append_right _ (List.mem_append_right _ (List.mem_append_right _ (List.mem_append_right _ (List.mem_append_right _ (List.mem_append_right _ (List.mem_append_right _ (List.mem_append_right _ (List.mem_append_right _ (List.mem_append_right _ (List.mem_append_left _ h)))))))))))))))))))))))))))))))))))
theorem zi_36 {w : Cond} (h : w ∈ zAll_36) : w ∈ zAll := List.mem_append_right _ (List.mem_append_right _ (List.mem_append_right _ (List.mem_append_right _ (List.mem_append_right _ (List.mem_append_right _ (List.mem_append_right _ (List.mem_append_right _ (List.mem_append_right _ (List.mem_append_right _ (List.mem_append_right _ (List.mem_append_right _ (List.mem_append_right _ (List.mem_append_right _ (List.mem_append_right _ (List.mem_append_right _ (List.mem_append_right _ (List.mem_append_right _ (List.mem_append_right _ (List.mem_append_right _ (List.mem_append_right _ (List.mem_append_right _ (List.mem_append_right _ (List.mem_append_right _ (List.mem_append_right _ (List.mem_append_right _ (List.mem_append_right _ (List.mem_append_right _ (List.mem_append_right _ (List.mem_append_right _ (List.mem_append_right _ (List.mem_append_right _ (List.mem_append_right _ (List.mem_append_right _ (List.mem_append_right _ (List.mem_append_right _ (List.mem_append_left _ h))))))))))))))))))))))))))))))))))))
theorem zi_37 {w : Cond} (h : w ∈ zAll_37) : w ∈ zAll := List.mem_append_right _ (List.mem_append_right _ (List.mem_append_right _ (List.mem_append_right _ (List.mem_append_right _ (List.mem_append_right _ (List.mem_append_right _ (List.mem_append_right _ (List.mem_append_right _ (List.mem_append_right _ (List.mem_append_right _ (List.mem_append_right _ (List.mem_append_right _ (List.mem_append_right _ (List.mem_append_right _ (List.mem_append_right _ (List.mem_append_right _ (List.mem_append_right _ (List.mem_append_right _ (List.mem_append_right _ (List.mem_append_right _ (List.mem_append_right _ (List.mem_append_right _ (List.mem_append_right _ (List.mem_append_right _ (List.mem_append_right _ (List.mem_append_right _ (List.mem_append_right _ (List.mem_append_right _ (List.mem_append_right _ (List.mem_append_right _ (List.mem_append_right _ (List.mem_append_right _ (List.mem_append_right _ (List.mem_append_right _ (List.mem_append_right _ (List.mem_append_right _ (List.mem_append_left _ h)))))))))))))))))))))))))))))))))))))
theorem zi_38 {w : Cond} (h : w ∈ zAll_38) : w ∈ zAll := List.mem_append_right _ (List.mem_append_right _ (List.mem_append_right _ (List.mem_append_right _ (List.mem_append_right _ (List.mem_append_right _ (List.mem_append_right _ (List.mem_append_right _ (List.mem_append_right _ (List.mem_append_right _ (List.mem_append_right _ (List.mem_append_right _ (List.mem_append_right _ (List.mem_append_right _ (List.mem_append_right _ (List.mem_append_right _ (List.mem_append_right _ (List.mem_append_right _ (List.mem_append_right _ (List.mem_append_right _ (List.mem_append_right _ (List.mem_append_right _ (List.mem_append_right _ (List.mem_append_right _ (List.mem_append_right _ (List.mem_append_right _ (List.mem_append_right _ (List.mem_append_right _ (List.mem_append_right _ (List.mem_append_right _ (List.mem_append_right _ (List.mem_append_right _ (List.mem_append_right _ (List.mem_append_right _ (List.mem_append_right _ (List.mem_append_right _ (List.mem_append_right _ (List.mem_append_right _ (List.mem_append_left _ h))))))))))))))))))))))))))))))))))))))
theorem zi_39 {w : Cond} (h : w ∈ wsX00) : w ∈ zAll := List.mem_append_right _ (List.mem_append_right _ (List.mem_append_right _ (List.mem_append_right _ (List.mem_append_right _ (List.mem_append_right _ (List.mem_append_right _ (List.mem_append_right _ (List.mem_append_right _ (List.mem_append_right _ (List.mem_append_right _ (List.mem_append_right _ (List.mem_append_right _ (List.mem_append_right _ (List.mem_append_right _ (List.mem_append_right _ (List.mem_append_right _ (List.mem_append_right _ (List.mem_append_right _ (List.mem_append_right _ (List.mem_append_right _ (List.mem_append_right _ (List.mem_append_right _ (List.mem_append_right _ (List.mem_append_right _ (List.mem_append_right _ (List.mem_append_right _ (List.mem_append_right _ (List.mem_append_right _ (List.mem_append_right _ (List.mem_append_right _ (List.mem_append_right _ (List.mem_append_right _ (List.mem_append_right _ (List.mem_append_right _ (List.mem_append_right _ (List.mem_append_right _ (List.mem_append_right _ (List.mem_append_right _ (List.mem_append_left _ h)))))))))))))))))))))))))))))))))))))))
theorem zi_40 {w : Cond} (h : w ∈ wsX10) : w ∈ zAll := List.mem_append_right _ (List.mem_append_right _ (List.mem_append_right _ (List.mem_append_right _ (List.mem_append_right _ (List.mem_append_right _ (List.mem_append_right _ (List.mem_append_right _ (List.mem_append_right _ (List.mem_append_right _ (List.mem_append_right _ (List.mem_append_right _ (List.mem_append_right _ (List.mem_append_right _ (List.mem_append_right _ (List.mem_append_right _ (List.mem_append_right _ (List.mem_append_right _ (List.mem_append_right _ (List.mem_append_right _ (List.mem_append_right _ (List.mem_append_right _ (List.mem_append_right _ (List.mem_append_right _ (List.mem_append_right _ (List.mem_append_right _ (List.mem_append_right _ (List.mem_append_right _ (List.mem_append_right _ (List.mem_append_right _ (List.mem_append_right _ (List.mem_append_right _ (List.mem_append_right _ (List.mem_append_right _ (List.mem_append_right _ (List.mem_append_right _ (List.mem_append_right _ (List.mem_append_right _ (List.mem_append_right _ (List.mem_append_right _ (List.mem_append_left _ h))))))))))))))))))))))))))))))))))))))))
theorem zi_41 {w : Cond} (h : w ∈ wsX20) : w ∈ zAll := List.mem_append_right _ (List.mem_append_right _ (List.mem_append_right _ (List.mem_append_right _ (List.mem_append_right _ (List.mem_append_right _ (List.mem_append_right _ (List.mem_append_right _ (List.mem_append_right _ (List.mem_append_right _ (List.mem_append_right _ (List.mem_append_right _ (List.mem_append_right _ (List.mem_append_right _ (List.mem_append_right _ (List.mem_append_right _ (List.mem_append_right _ (List.mem_append_right _ (List.mem_append_right _ (List.mem_append_right _ (List.mem_append_right _ (List.mem_append_right _ (List.mem_append_right _ (List.mem_append_right _ (List.mem_append_right _ (List.mem_append_right _ (List.mem_append_right _ (List.mem_append_right _ (List.mem_append_right _ (List.mem_append_right _ (List.mem_append_right _ (List.mem_append_right _ (List.mem_append_right _ (List.mem_append_right _ (List.mem_append_right _ (List.mem_append_right _ (List.mem_append_right _ (List.mem_append_right _ (List.mem_append_right _ (List.mem_append_right _ (List.mem_append_right _ (List.mem_append_left _ h)))))))))))))))))))))))))))))))))))))))))
theorem zi_42 {w : Cond} (h : w ∈ wsX30) : w ∈ zAll := List.mem_append_right _ (List.mem_append_right _ (List.mem_append_right _ (List.mem_append_right _ (List.mem_append_right _ (List.mem_append_right _ (List.mem_append_right _ (List.mem_append_right _ (List.mem_append_right _ (List.mem_append_right _ (List.mem_append_right _ (List.mem_append_right _ (List.mem_append_right _ (List.mem_append_right _ (List.mem_append_right _ (List.mem_append_right _ (List.mem_append_right _ (List.mem_append_right _ (List.mem_append_right _ (List.mem_append_right _ (List.mem_append_right _ (List.mem_append_right _ (List.mem_append_right _ (List.mem_append_right _ (List.mem_append_right _ (List.mem_append_right _ (List.mem_append_right _ (List.mem_append_right _ (List.mem_append_right _ (List.mem_append_right _ (List.mem_append_right _ (List.mem_append_right _ (List.mem_append_right _ (List.mem_append_right _ (List.mem_append_right _ (List.mem_append_right _ (List.mem_append_right _ (List.mem_append_right _ (List.mem_append_right _ (List.mem_append_right _ (List.mem_append_right _ (List.mem_append_right _ (List.mem_append_left _ h))))))))))))))))))))))))))))))))))))))))))
theorem zi_43 {w : Cond} (h : w ∈ wsX40) : w ∈ zAll := List.mem_append_right _ (List.mem_append_right _ (List.mem_append_right _ (List.mem_append_right _ (List.mem_append_right _ (List.mem_append_right _ (List.mem_append_right _ (List.mem_append_right _ (List.mem_append_right _ (List.mem_append_right _ (List.mem_append_right _ (List.mem_append_right _ (List.mem_append_right _ (List.mem_append_right _ (List.mem_append_right _ (List.mem_append_right _ (List.mem_append_right _ (List.mem_append_right _ (List.mem_append_right _ (List.mem_append_right _ (List.mem_append_right _ (List.mem_append_right _ (List.mem_append_right _ (List.mem_append_right _ (List.mem_append_right _ (List.mem_append_right _ (List.mem_append_right _ (List.mem_append_right _ (List.mem_append_right _ (List.mem_append_right _ (List.mem_append_right _ (List.mem_append_right _ (List.mem_append_right _ (List.mem_append_right _ (List.mem_append_right _ (List.mem_append_right _ (List.mem_append_right _ (List.mem_append_right _ (List.mem_append_right _ (List.mem_append_right _ (List.mem_append_right _ (List.mem_append_right _ (List.mem_append_right _ (List.mem_append_left _ h)))))))))))))))))))))))))))))))))))))))))))
theorem zi_44 {w : Cond} (h : w ∈ wsX50) : w ∈ zAll := List.mem_append_right _ (List.mem_append_right _ (List.mem_append_right _ (List.mem_append_right _ (List.mem_append_right _ (List.mem_append_right _ (List.mem_append_right _ (List.mem_append_right _ (List.mem_append_right _ (List.mem_append_right _ (List.mem_append_right _ (List.mem_append_right _ (List.mem_append_right _ (List.mem_append_right _ (List.mem_append_right _ (List.mem_append_right _ (List.mem_append_right _ (List.mem_append_right _ (List.mem_append_right _ (List.mem_append_right _ (List.mem_append_right _ (List.mem_append_right _ (List.mem_append_right _ (List.mem_append_right _ (List.mem_append_right _ (List.mem_append_right _ (List.mem_append_right _ (List.mem_append_right _ (List.mem_append_right _ (List.mem_append_right _ (List.mem_append_right _ (List.mem_append_right _ (List.mem_append_right _ (List.mem_append_right _ (List.mem_append_right _ (List.mem_append_right _ (List.mem_append_right _ (List.mem_append_right _ (List.mem_append_right _ (List.mem_append_right _ (List.mem_append_right _ (List.mem_append_right _ (List.mem_append_right _ (List.mem_append_right _ (List.mem_append_left _ h))))))))))))))))))))))))))))))))))))))))))))
theorem zi_45 {w : Cond} (h : w ∈ wsX60) : w ∈ zAll := List.mem_append_right _ (List.mem_append_right _ (List.mem_append_right _ (List.mem_append_right _ (List.mem_append_right _ (List.mem_append_right _ (List.mem_append_right _ (List.mem_append_right _ (List.mem_append_right _ (List.mem_append_right _ (List.mem_append_right _ (List.mem_append_right _ (List.mem_append_right _ (List.mem_append_right _ (List.mem_append_right _ (List.mem_append_right _ (List.mem_append_right _ (List.mem_append_right _ (List.mem_append_right _ (List.mem_append_right _ (List.mem_append_right _ (List.mem_append_right _ (List.mem_append_right _ (List.mem_append_right _ (List.mem_append_right _ (List.mem_append_right _ (List.mem_append_right _ (List.mem_append_right _ (List.mem_append_right _ (List.mem_append_right _ (List.mem_append_right _ (List.mem_append_right _ (List.mem_append_right _ (List.mem_append_right _ (List.mem_append_right _ (List.mem_append_right _ (List.mem_append_right _ (List.mem_append_right _ (List.mem_append_right _ (List.mem_append_right _ (List.mem_append_right _ (List.mem_append_right _ (List.mem_append_right _ (List.mem_append_right _ (List.mem_append_right _ (List.mem_append_left _ h)))))))))))))))))))))))))))))))))))))))))))))
theorem zi_46 {w : Cond} (h : w ∈ wsX70) : w ∈ zAll := List.mem_append_right _ (List.mem_append_right _ (List.mem_append_right _ (List.mem_append_right _ (List.mem_append_right _ (List.mem_append_right _ (List.mem_append_right _ (List.mem_append_right _ (List.mem_append_right _ (List.mem_append_right _ (List.mem_append_right _ (List.mem_append_right _ (List.mem_append_right _ (List.mem_append_right _ (List.mem_append_right _ (List.mem_append_right _ (List.mem_append_right _ (List.mem_append_right _ (List.mem_append_right _ (List.mem_append_right _ (List.mem_append_right _ (List.mem_append_right _ (List.mem_append_right _ (List.mem_append_right _ (List.mem_append_right _ (List.mem_append_right _ (List.mem_append_right _ (List.mem_append_right _ (List.mem_append_right _ (List.mem_append_right _ (List.mem_append_right _ (List.mem_append_right _ (List.mem_append_right _ (List.mem_append_right _ (List.mem_append_right _ (List.mem_append_right _ (List.mem_append_right _ (List.mem_append_right _ (List.mem_append_right _ (List.mem_append_right _ (List.mem_append_right _ (List.mem_append_right _ (List.mem_append_right _ (List.mem_append_right _ (List.mem_append_right _ (List.mem_append_right _ (List.mem_append_left _ h))))))))))))))))))))))))))))))))))))))))))))))
theorem zi_47 {w : Cond} (h : w ∈ wsX80) : w ∈ zAll := List.mem_append_right _ (List.mem_append_right _ (List.mem_append_right _ (List.mem_append_right _ (List.mem_append_right _ (List.mem_append_right _ (List.mem_append_right _ (List.mem_append_right _ (List.mem_append_right _ (List.mem_append_right _ (List.mem_append_right _ (List.mem_append_right _ (List.mem_append_right _ (List.mem_append_right _ (List.mem_append_right _ (List.mem_append_right _ (List.mem_append_right _ (List.mem_append_right _ (List.mem_append_right _ (List.mem_append_right _ (List.mem_append_right _ (List.mem_append_right _ (List.mem_append_right _ (List.mem_append_right _ (List.mem_append_right _ (List.mem_append_right _ (List.mem_append_right _ (List.mem_append_right _ (List.mem_append_right _ (List.mem_append_right _ (List.mem_append_right _ (List.mem_append_right _ (List.mem_append_right _ (List.mem_append_right _ (List.mem_append_right _ (List.mem_append_right _ (List.mem_append_right _ (List.mem_append_right _ (List.mem_append_right _ (List.mem_append_right _ (List.mem_append_right _ (List.mem_append_right _ (List.mem_append_right _ (List.mem_append_right _ (List.mem_append_right _ (List.mem_append_right _ (List.mem_append_right _ (List.mem_append_left _ h)))))))))))))))))))))))))))))))))))))))))))))))
theorem zi_48 {w : Cond} (h : w ∈ wsX90) : w ∈ zAll := List.mem_append_right _ (List.mem_append_right _ (List.mem_append_right _ (List.mem_append_right _ (List.mem_append_right _ (List.mem_append_right _ (List.mem_append_right _ (List.mem_append_right _ (List.mem_append_right _ (List.mem_append_right _ (List.mem_append_right _ (List.mem_append_right _ (List.mem_append_right _ (List.mem_append_right _ (List.mem_append_right _ (List.mem_append_right _ (List.mem_append_right _ (List.mem_append_right _ (List.mem_append_right _ (List.mem_append_right _ (List.mem_append_right _ (List.mem_append_right _ (List.mem_append_right _ (List.mem_append_right _ (List.mem_append_right _ (List.mem_append_right _ (List.mem_append_right _ (List.mem_append_right _ (List.mem_append_right _ (List.mem_append_right _ (List.mem_append_right _ (List.mem_append_right _ (List.mem_append_right _ (List.mem_append_right _ (List.mem_append_right _ (List.mem_append_right _ (List.mem_append_right _ (List.mem_append_right _ (List.mem_append_right _ (List.mem_append_right _ (List.mem_append_right _ (List.mem_append_right _ (List.mem_append_right _ (List.mem_append_right _ (List.mem_append_right _ (List.mem_append_right _ (List.mem_append_right _ (List.mem_append_right _ (List.mem_append_left _ h))))))))))))))))))))))))))))))))))))))))))))))))
theorem zi_49 {w : Cond} (h : w ∈ wsX100) : w ∈ zAll := List.mem_append_right _ (List.mem_append_right _ (List.mem_append_right _ (List.mem_append_right _ (List.mem_append_right _ (List.mem_append_right _ (List.mem_append_right _ (List.mem_append_right _ (List.mem_append_right _ (List.mem_append_right _ (List.mem_append_right _ (List.mem_append_right _ (List.mem_append_right _ (List.mem_append_right _ (List.mem_append_right _ (List.mem_append_right _ (List.mem_append_right _ (List.mem_append_right _ (List.mem_append_right _ (List.mem_append_right _ (List.mem_append_right _ (List.mem_append_right _ (List.mem_append_right _ (List.mem_append_right _ (List.mem_append_right _ (List.mem_append_right _ (List.mem_append_right _ (List.mem_append_right _ (List.mem_append_right _ (List.mem_append_right _ (List.mem_append_right _ (List.mem_append_right _ (List.mem_append_right _ (List.mem_append_right _ (List.mem_append_right _ (List.mem_append_right _ (List.mem_append_right _ (List.mem_append_right _ (List.mem_append_right _ (List.mem_append_right _ (List.mem_append_right _ (List.mem_append_right _ (List.mem_append_right _ (List.mem_append_right _ (List.mem_append_right _ (List.mem_append_right _ (List.mem_append_right _ (List.mem_append_right _ (List.mem_append_right _ (List.mem_append_left _ h)))))))))))))))))))))))))))))))))))))))))))))))))
theorem zi_50 {w : Cond} (h : w ∈ wsX110) : w ∈ zAll := List.mem_append_right _ (List.mem_append_right _ (List.mem_append_right _ (List.mem_append_right _ (List.mem_append_right _ (List.mem_append_right _ (List.mem_append_right _ (List.mem_append_right _ (List.mem_append_right _ (List.mem_append_right _ (List.mem_append_right _ (List.mem_append_right _ (List.mem_append_right _ (List.mem_append_right _ (List.mem_append_right _ (List.mem_append_right _ (List.mem_append_right _ (List.mem_append_right _ (List.mem_append_right _ (List.mem_append_right _ (List.mem_append_right _ (List.mem_append_right _ (List.mem_append_right _ (List.mem_append_right _ (List.mem_append_right _ (List.mem_append_right _ (List.mem_append_right _ (List.mem_append_right _ (List.mem_append_right _ (List.mem_append_right _ (List.mem_append_right _ (List.mem_append_right _ (List.mem_append_right _ (List.mem_append_right _ (List.mem_append_right _ (List.mem_append_right _ (List.mem_append_right _ (List.mem_append_right _ (List.mem_append_right _ (List.mem_append_right _ (List.mem_append_right _ (List.mem_append_right _ (List.mem_append_right _ (List.mem_append_right _ (List.mem_append_right _ (List.mem_append_right _ (List.mem_append_right _ (List.mem_append_right _ (List.mem_append_right _ (List.mem_append_right _ (List.mem_append_left _ h))))))))))))))))))))))))))))))))))))))))))))))))))
theorem zi_51 {w : Cond} (h : w ∈ wsX120) : w ∈ zAll := List.mem_append_right _ (List.mem_append_right _ (List.mem_append_right _ (List.mem_append_right _ (List.mem_append_right _ (List.mem_append_right _ (List.mem_append_right _ (List.mem_append_right _ (List.mem_append_right _ (List.mem_append_right _ (List.mem_append_right _ (List.mem_append_right _ (List.mem_append_right _ (List.mem_append_right _ (List.mem_append_right _ (List.mem_append_right _ (List.mem_append_right _ (List.mem_append_right _ (List.mem_append_right _ (List.mem_append_right _ (List.mem_append_right _ (List.mem_append_right _ (List.mem_append_right _ (List.mem_append_right _ (List.mem_append_right _ (List.mem_append_right _ (List.mem_append_right _ (List.mem_append_right _ (List.mem_append_right _ (List.mem_append_right _ (List.mem_append_right _ (List.mem_append_right _ (List.mem_append_right _ (List.mem_append_right _ (List.mem_append_right _ (List.mem_append_right _ (List.mem_append_right _ (List.mem_append_right _ (List.mem_append_right _ (List.mem_append_right _ (List.mem_append_right _ (List.mem_append_right _ (List.mem_append_right _ (List.mem_append_right _ (List.mem_append_right _ (List.mem_append_right _ (List.mem_append_right _ (List.mem_append_right _ (List.mem_append_right _ (List.mem_append_right _ (List.mem_append_right _ (List.mem_append_left _ h)))))))))))))))))))))))))))))))))))))))))))))))))))
theorem zi_52 {w : Cond} (h : w ∈ wsX130) : w ∈ zAll := List.mem_append_right _ (List.mem_append_right _ (List.mem_append_right _ (List.mem_append_right _ (List.mem_append_right _ (List.mem_append_right _ (List.mem_append_right _ (List.mem_append_right _ (List.mem_append_right _ (List.mem_append_right _ (List.mem_append_right _ (List.mem_append_right _ (List.mem_append_right _ (List.mem_append_right _ (List.mem_append_right _ (List.mem_append_right _ (List.mem_append_right _ (List.mem_append_right _ (List.mem_append_right _ (List.mem_append_right _ (List.mem_append_right _ (List.mem_append_right _ (List.mem_append_right _ (List.mem_append_right _ (List.mem_append_right _ (List.mem_append_right _ (List.mem_append_right _ (List.mem_append_right _ (List.mem_append_right _ (List.mem_append_right _ (List.mem_append_right _ (List.mem_append_right _ (List.mem_append_right _ (List.mem_append_right _ (List.mem_append_right _ (List.mem_append_right _ (List.mem_append_right _ (List.mem_append_right _ (List.mem_append_right _ (List.mem_append_right _ (List.mem_append_right _ (List.mem_append_right _ (List.mem_append_right _ (List.mem_append_right _ (List.mem_append_right _ (List.mem_append_right _ (List.mem_append_right _ (List.mem_append_right _ (List.mem_append_right _ (List.mem_append_right _ (List.mem_append_right _ (List.mem_append_right _ (List.mem_append_left _ h))))))))))))))))))))))))))))))))))))))))))))))))))))
theorem zi_53 {w : Cond} (h : w ∈ wsX140) : w ∈ zAll := List.mem_append_right _ (List.mem_append_right _ (List.mem_append_right _ (List.mem_append_right _ (List.mem_append_right _ (List.mem_append_right _ (List.mem_append_right _ (List.mem_append_right _ (List.mem_append_right _ (List.mem_append_right _ (List.mem_append_right _ (List.mem_append_right _ (List.mem_append_right _ (List.mem_append_right _ (List.mem_append_right _ (List.mem_append_right _ (List.mem_append_right _ (List.mem_append_right _ (List.mem_append_right _ (List.mem_append_right _ (List.mem_append_right _ (List.mem_append_right _ (List.mem_append_right _ (List.mem_append_right _ (List.mem_append_right _ (List.mem_append_right _ (List.mem_append_right _ (List.mem_append_right _ (List.mem_append_right _ (List.mem_append_right _ (List.mem_append_right _ (List.mem_append_right _ (List.mem_append_right _ (List.mem_append_right _ (List.mem_append_right _ (List.mem_append_right _ (List.mem_append_right _ (List.mem_append_right _ (List.mem_append_right _ (List.mem_append_right _ (List.mem_append_right _ (List.mem_append_right _ (List.mem_append_right _ (List.mem_append_right _ (List.mem_append_right _ (List.mem_append_right _ (List.mem_append_right _ (List.mem_append_right _ (List.mem_append_right _ (List.mem_append_right _ (List.mem_append_right _ (List.mem_append_right _ (List.mem_append_right _ (List.mem_append_left _ h)))))))))))))))))))))))))))))))))))))))))))))))))))))
theorem zi_54 {w : Cond} (h : w ∈ wsX150) : w ∈ zAll := List.mem_append_right _ (List.mem_append_right _ (List.mem_append_right _ (List.mem_append_right _ (List.mem_append_right _ (List.mem_append_right _ (List.mem_append_right _ (List.mem_append_right _ (List.mem_append_right _ (List.mem_append_right _ (List.mem_append_right _ (List.mem_append_right _ (List.mem_append_right _ (List.mem_append_right _ (List.mem_append_right _ (List.mem_append_right _ (List.mem_append_right _ (List.mem_append_right _ (List.mem_append_right _ (List.mem_append_right _ (List.mem_append_right _ (List.mem_append_right _ (List.mem_append_right _ (List.mem_append_right _ (List.mem_append_right _ (List.mem_append_right _ (List.mem_append_right _ (List.mem_append_right _ (List.mem_append_right _ (List.mem_append_right _ (List.mem_append_right _ (List.mem_append_right _ (List.mem_append_right _ (List.mem_append_right _ (List.mem_append_right _ (List.mem_append_right _ (List.mem_append_right _ (List.mem_append_right _ (List.mem_append_right _ (List.mem_append_right _ (List.mem_append_right _ (List.mem_append_right _ (List.mem_append_right _ (List.mem_append_right _ (List.mem_append_right _ (List.mem_append_right _ (List.mem_append_right _ (List.mem_append_right _ (List.mem_append_right _ (List.mem_append_right _ (List.mem_append_right _ (List.mem_append_right _ (List.mem_append_right _ (List.mem_append_right _ (List.mem_append_left _ h))))))))))))))))))))))))))))))))))))))))))))))))))))))
theorem zi_55 {w : Cond} (h : w ∈ wsX160) : w ∈ zAll := List.mem_append_right _ (List.mem_append_right _ (List.mem_append_right _ (List.mem_append_right _ (List.mem_append_right _ (List.mem_append_right _ (List.mem_append_right _ (List.mem_append_right _ (List.mem_append_right _ (List.mem_append_right _ (List.mem_append_right _ (List.mem_append_right _ (List.mem_append_right _ (List.mem_append_right _ (List.mem_append_right _ (List.mem_append_right _ (List.mem_append_right _ (List.mem_append_right _ (List.mem_append_right _ (List.mem_append_right _ (List.mem_append_right _ (List.mem_append_right _ (List.mem_append_right _ (List.mem_append_right _ (List.mem_append_right _ (List.mem_append_right _ (List.mem_append_right _ (List.mem_append_right _ (List.mem_append_right _ (List.mem_append_right _ (List.mem_append_right _ (List.mem_append_right _ (List.mem_append_right _ (List.mem_append_right _ (List.mem_append_right _ (List.mem_append_right _ (List.mem_append_right _ (List.mem_append_right _ (List.mem_append_right _ (List.mem_append_right _ (List.mem_append_right _ (List.mem_append_right _ (List.mem_append_right _ (List.mem_append_right _ (List.mem_append_right _ (List.mem_append_right _ (List.mem_append_right _ (List.mem_append_right _ (List.mem_append_right _ (List.mem_append_right _ (List.mem_append_right _ (List.mem_append_right _ (List.mem_append_right _ (List.mem_append_right _ (List.mem_append_right _ (h)))))))))))))))))))))))))))))))))))))))))))))))))))))))
theorem zx_0 : ∀ w ∈ u_ws RX0 TX0 5, w ∈ zAll := fun w h => zi_39 h
theorem zx_1 : ∀ w ∈ u_ws RX1 TX1 0, w ∈ zAll := fun w h => zi_40 h
theorem zx_2 : ∀ w ∈ u_ws RX2 TX2 1, w ∈ zAll := fun w h => zi_41 h
theorem zx_3 : ∀ w ∈ u_ws RX3 TX3 3, w ∈ zAll := fun w h => zi_42 h
theorem zx_4 : ∀ w ∈ u_ws RX4 TX4 3, w ∈ zAll := fun w h => zi_43 h
theorem zx_5 : ∀ w ∈ u_ws RX5 TX5 9, w ∈ zAll := fun w h => zi_44 h
theorem zx_6 : ∀ w ∈ u_ws RX6 TX6 12, w ∈ zAll := fun w h => zi_45 h
theorem zx_7 : ∀ w ∈ u_ws RX7 TX7 14, w ∈ zAll := fun w h => zi_46 h
theorem zx_8 : ∀ w ∈ u_ws RX8 TX8 18, w ∈ zAll := fun w h => zi_47 h
theorem zx_9 : ∀ w ∈ u_ws RX9 TX9 8, w ∈ zAll := fun w h => zi_48 h
theorem zx_10 : ∀ w ∈ u_ws RX10 TX10 19, w ∈ zAll := fun w h => zi_49 h
theorem zx_11 : ∀ w ∈ u_ws RX11 TX11 13, w ∈ zAll := fun w h => zi_50 h
theorem zx_12 : ∀ w ∈ u_ws RX12 TX12 2, w ∈ zAll := fun w h => zi_51 h
theorem zx_13 : ∀ w ∈ u_ws RX13 TX13 6, w ∈ zAll := fun w h => zi_52 h
theorem zx_14 : ∀ w ∈ u_ws RX14 TX14 15, w ∈ zAll := fun w h => zi_53 h
theorem zx_15 : ∀ w ∈ u_ws RX15 TX15 2, w ∈ zAll := fun w h => zi_54 h
theorem zx_16 : ∀ w ∈ u_ws RX16 TX16 65, w ∈ zAll := fun w h => zi_55 h
end
section
theorem zg_0 : ∀ w ∈ zAll_0, goodWord w = true := List.all_eq_true.mp (by decide +kernel)
theorem zg_1 : ∀ w ∈ zAll_1, goodWord w = true := List.all_eq_true.mp (by decide +kernel)
theorem zg_2 : ∀ w ∈ zAll_2, goodWord w = true := List.all_eq_true.mp (by decide +kernel)
theorem zg_3 : ∀ w ∈ zAll_3, goodWord w = true := List.all_eq_true.mp (by decide +kernel)
theorem zg_4 : ∀ w ∈ zAll_4, goodWord w = true := List.all_eq_true.mp (by decide +kernel)
theorem zg_5 : ∀ w ∈ zAll_5, goodWord w = true := List.all_eq_true.mp (by decide +kernel)
theorem zg_6 : ∀ w ∈ zAll_6, goodWord w = true := List.all_eq_true.mp (by decide +kernel)
theorem zg_7 : ∀ w ∈ zAll_7, goodWord w = true := List.all_eq_true.mp (by decide +kernel)
theorem zg_8 : ∀ w ∈ zAll_8, goodWord w = true := List.all_eq_true.mp (by decide +kernel)
theorem zg_9 : ∀ w ∈ zAll_9, goodWord w = true := List.all_eq_true.mp (by decide +kernel)
theorem zg_10 : ∀ w ∈ zAll_10, goodWord w = true := List.all_eq_true.mp (by decide +kernel)
theorem zg_11 : ∀ w ∈ zAll_11, goodWord w = true := List.all_eq_true.mp (by decide +kernel)
theorem zg_12 : ∀ w ∈ zAll_12, goodWord w = true := List.all_eq_true.mp (by decide +kernel)
theorem zg_13 : ∀ w ∈ zAll_13, goodWord w = true := List.all_eq_true.mp (by decide +kernel)
theorem zg_14 : ∀ w ∈ zAll_14, goodWord w = true := List.all_eq_true.mp (by decide +kernel)
theorem zg_15 : ∀ w ∈ zAll_15, goodWord w = true := List.all_eq_true.mp (by decide +kernel)
theorem zg_16 : ∀ w ∈ zAll_16, goodWord w = true := List.all_eq_true.mp (by decide +kernel)
theorem zg_17 : ∀ w ∈ zAll_17, goodWord w = true := List.all_eq_true.mp (by decide +kernel)
theorem zg_18 : ∀ w ∈ zAll_18, goodWord w = true := List.all_eq_true.mp (by decide +kernel)
theorem zg_19 : ∀ w ∈ zAll_19, goodWord w = true := List.all_eq_true.mp (by decide +kernel)
theorem zg_20 : ∀ w ∈ zAll_20, goodWord w = true := List.all_eq_true.mp (by decide +kernel)
theorem zg_21 : ∀ w ∈ zAll_21, goodWord w = true := List.all_eq_true.mp (by decide +kernel)
theorem zg_22 : ∀ w ∈ zAll_22, goodWord w = true := List.all_eq_true.mp (by decide +kernel)
theorem zg_23 : ∀ w ∈ zAll_23, goodWord w = true := List.all_eq_true.mp (by decide +kernel)
theorem zg_24 : ∀ w ∈ zAll_24, goodWord w = true := List.all_eq_true.mp (by decide +kernel)
theorem zg_25 : ∀ w ∈ zAll_25, goodWord w = true := List.all_eq_true.mp (by decide +kernel)
theorem zg_26 : ∀ w ∈ zAll_26, goodWord w = true := List.all_eq_true.mp (by decide +kernel)
theorem zg_27 : ∀ w ∈ zAll_27, goodWord w = true := List.all_eq_true.mp (by decide +kernel)
theorem zg_28 : ∀ w ∈ zAll_28, goodWord w = true := List.all_eq_true.mp (by decide +kernel)
theorem zg_29 : ∀ w ∈ zAll_29, goodWord w = true := List.all_eq_true.mp (by decide +kernel)
theorem zg_30 : ∀ w ∈ zAll_30, goodWord w = true := List.all_eq_true.mp (by decide +kernel)
theorem zg_31 : ∀ w ∈ zAll_31, goodWord w = true := List.all_eq_true.mp (by decide +kernel)
theorem zg_32 : ∀ w ∈ zAll_32, goodWord w = true := List.all_eq_true.mp (by decide +kernel)
theorem zg_33 : ∀ w ∈ zAll_33, goodWord w = true := List.all_eq_true.mp (by decide +kernel)
theorem zg_34 : ∀ w ∈ zAll_34, goodWord w = true := List.all_eq_true.mp (by decide +kernel)
theorem zg_35 : ∀ w ∈ zAll_35, goodWord w = true := List.all_eq_true.mp (by decide +kernel)
theorem zg_36 : ∀ w ∈ zAll_36, goodWord w = true := List.all_eq_true.mp (by decide +kernel)
theorem zg_37 : ∀ w ∈ zAll_37, goodWord w = true := List.all_eq_true.mp (by decide +kernel)
theorem zg_38 : ∀ w ∈ zAll_38, goodWord w = true := List.all_eq_true.mp (by decide +kernel)
theorem zgX_0 : ∀ w ∈ wsX00, goodWord w = true := List.all_eq_true.mp (by decide +kernel)
theorem zgX_1 : ∀ w ∈ wsX10, goodWord w = true := fun w h => absurd h (by simp [wsX10, u_ws])
theorem zgX_2 : ∀ w ∈ wsX20, goodWord w = true := List.all_eq_true.mp (by decide +kernel)
theorem zgX_3 : ∀ w ∈ wsX30, goodWord w = true := List.all_eq_true.mp (by decide +kernel)
theorem zgX_4 : ∀ w ∈ wsX40, goodWord w = true := List.all_eq_true.mp (by decide +kernel)
theorem zgX_5 : ∀ w ∈ wsX50, goodWord w = true := List.all_eq_true.mp (by decide +kernel)
theorem zgX_6 : ∀ w ∈ wsX60, goodWord w = true := List.all_eq_true.mp (by decide +kernel)
theorem zgX_7 : ∀ w ∈ wsX70, goodWord w = true := List.all_eq_true.mp (by decide +kernel)
theorem zgX_8 : ∀ w ∈ wsX80, goodWord w = true := List.all_eq_true.mp (by decide +kernel)
theorem zgX_9 : ∀ w ∈ wsX90, goodWord w = true := List.all_eq_true.mp (by decide +kernel)
theorem zgX_10 : ∀ w ∈ wsX100, goodWord w = true := List.all_eq_true.mp (by decide +kernel)
theorem zgX_11 : ∀ w ∈ wsX110, goodWord w = true := List.all_eq_true.mp (by decide +kernel)
theorem zgX_12 : ∀ w ∈ wsX120, goodWord w = true := List.all_eq_true.mp (by decide +kernel)
theorem zgX_13 : ∀ w ∈ wsX130, goodWord w = true := List.all_eq_true.mp (by decide +kernel)
theorem zgX_14 : ∀ w ∈ wsX140, goodWord w = true := List.all_eq_true.mp (by decide +kernel)
theorem zgX_15 : ∀ w ∈ wsX150, goodWord w = true := List.all_eq_true.mp (by decide +kernel)
theorem zgX_16 : ∀ w ∈ wsX160, goodWord w = true := List.all_eq_true.mp (by decide +kernel)
theorem zG_app {a b : List Cond} (ha : ∀ w ∈ a, goodWord w = true) (hb : ∀ w ∈ b, goodWord w = true) : ∀ w ∈ a ++ b, goodWord w = true := fun w h => (List.mem_append.mp h).elim (ha w) (hb w)
theorem zAll_good : ∀ w ∈ zAll, goodWord w = true := zG_app zg_0 (zG_app zg_1 (zG_app zg_2 (zG_app zg_3 (zG_app zg_4 (zG_app zg_5 (zG_app zg_6 (zG_app zg_7 (zG_app zg_8 (zG_app zg_9 (zG_app zg_10 (zG_app zg_11 (zG_app zg_12 (zG_app zg_13 (zG_app zg_14 (zG_app zg_15 (zG_app zg_16 (zG_app zg_17 (zG_app zg_18 (zG_app zg_19 (zG_app zg_20 (zG_app zg_21 (zG_app zg_22 (zG_app zg_23 (zG_app zg_24 (zG_app zg_25 (zG_app zg_26 (zG_app zg_27 (zG_app zg_28 (zG_app zg_29 (zG_app zg_30 (zG_app zg_31 (zG_app zg_32 (zG_app zg_33 (zG_app zg_34 (zG_app zg_35 (zG_app zg_36 (zG_app zg_37 (zG_app zg_38 (zG_app zgX_0 (zG_app zgX_1 (zG_app zgX_2 (zG_app zgX_3 (zG_app zgX_4 (zG_app zgX_5 (zG_app zgX_6 (zG_app zgX_7 (zG_app zgX_8 (zG_app zgX_9 (zG_app zgX_10 (zG_app zgX_11 (zG_app zgX_12 (zG_app zgX_13 (zG_app zgX_14 (zG_app zgX_15 (zgX_16)))))))))))))))))))))))))))))))))))))))))))))))))))))))
theorem zAll_self : GoodIn zAll zAll := fun w h => ⟨h, good_of_word (zAll_good w h)⟩
end
section
theorem zw_0 : Cond.code yX0_init cX0_init 3 none ∈ zAll := zi_0 (List.mem_of_getElem? (i := 0) (by rfl))
theorem zw_1 : Cond.methodLink RX0 3 objectInit ∈ zAll := zi_0 (List.mem_of_getElem? (i := 1) (by decide +kernel))
theorem zw_2 : Cond.instanceMethod objectInit ∈ zAll := zi_0 (List.mem_of_getElem? (i := 2) (by decide +kernel))
theorem zw_3 : Cond.code objectInit ⟨#[0xb1]⟩ 1 none ∈ zAll := zi_0 (List.mem_of_getElem? (i := 3) (by rfl))
theorem zw_4 : Cond.fieldLink RX0 9 "SumHouse$Divisors" "room" "LSumHouse$Room;" ∈ zAll := zi_0 (List.mem_of_getElem? (i := 4) (by decide +kernel))
theorem zw_5 : Cond.fieldLink RX0 15 "SumHouse$Divisors" "planes" "LSumHouse$Planes;" ∈ zAll := zi_0 (List.mem_of_getElem? (i := 5) (by decide +kernel))
theorem zw_6 : Cond.arrayClass .int ∈ zAll := zi_0 (List.mem_of_getElem? (i := 6) (by decide +kernel))
theorem zw_7 : Cond.fieldLink RX0 19 "SumHouse$Divisors" "from" "[I" ∈ zAll := zi_0 (List.mem_of_getElem? (i := 7) (by decide +kernel))
theorem zw_8 : Cond.fieldLink RX0 23 "SumHouse$Divisors" "degrees" "[I" ∈ zAll := zi_0 (List.mem_of_getElem? (i := 8) (by decide +kernel))
theorem zw_9 : Cond.fieldLink RX0 26 "SumHouse$Divisors" "once" "[I" ∈ zAll := zi_0 (List.mem_of_getElem? (i := 9) (by decide +kernel))
theorem zw_10 : Cond.code yX4_width cX4_width 2 (some .int) ∈ zAll := zi_0 (List.mem_of_getElem? (i := 10) (by rfl))
theorem zw_11 : Cond.constant RX4 24 (131070) ∈ zAll := zi_0 (List.mem_of_getElem? (i := 11) (by decide +kernel))
theorem zw_12 : Cond.fieldLink RX4 12 "SumHouse$Room" "cells" "[I" ∈ zAll := zi_0 (List.mem_of_getElem? (i := 12) (by decide +kernel))
theorem zw_13 : Cond.code yX4_block cX4_block 5 (some .int) ∈ zAll := zi_0 (List.mem_of_getElem? (i := 13) (by rfl))
theorem zw_14 : Cond.constant RX4 11 (131072) ∈ zAll := zi_0 (List.mem_of_getElem? (i := 14) (by decide +kernel))
theorem zw_15 : Cond.fieldLink RX4 16 "SumHouse$Room" "top" "I" ∈ zAll := zi_0 (List.mem_of_getElem? (i := 15) (by decide +kernel))
theorem zw_16 : Cond.fieldLink RX4 20 "SumHouse$Room" "full" "Z" ∈ zAll := zi_0 (List.mem_of_getElem? (i := 16) (by decide +kernel))
theorem zw_17 : Cond.code yX4_take cX4_take 4 (some .int) ∈ zAll := zi_0 (List.mem_of_getElem? (i := 17) (by rfl))
theorem zw_18 : Cond.code yX4_move cX4_move 5 none ∈ zAll := zi_0 (List.mem_of_getElem? (i := 18) (by rfl))
theorem zw_19 : Cond.code yX4_lastOf cX4_lastOf 4 (some .int) ∈ zAll := zi_0 (List.mem_of_getElem? (i := 19) (by rfl))
theorem zw_20 : Cond.code yX4_common cX4_common 16 (some .int) ∈ zAll := zi_0 (List.mem_of_getElem? (i := 20) (by rfl))
theorem zw_21 : Cond.constant RX4 27 (131071) ∈ zAll := zi_0 (List.mem_of_getElem? (i := 21) (by decide +kernel))
theorem zw_22 : Cond.constant RX4 28 (2147483647) ∈ zAll := zi_0 (List.mem_of_getElem? (i := 22) (by decide +kernel))
theorem zw_23 : Cond.constantLong RX4 25 (2147483647) ∈ zAll := zi_0 (List.mem_of_getElem? (i := 23) (by decide +kernel))
theorem zw_24 : Cond.code yX4_get cX4_get 2 (some .int) ∈ zAll := zi_0 (List.mem_of_getElem? (i := 24) (by rfl))
theorem zw_25 : Cond.code yX1_inverse cX1_inverse 16 (some .int) ∈ zAll := zi_0 (List.mem_of_getElem? (i := 25) (by rfl))
theorem zw_26 : Cond.constantLong RX1 9 (2147483647) ∈ zAll := zi_0 (List.mem_of_getElem? (i := 26) (by decide +kernel))
theorem zw_27 : Cond.code yX4_scale cX4_scale 5 none ∈ zAll := zi_0 (List.mem_of_getElem? (i := 27) (by rfl))
theorem zw_28 : Cond.code yX4_clip cX4_clip 4 none ∈ zAll := zi_0 (List.mem_of_getElem? (i := 28) (by rfl))
theorem zw_29 : Cond.methodLink RX0 35 Lib.Math.max.name ∈ zAll := zi_0 (List.mem_of_getElem? (i := 29) (by decide +kernel))
theorem zw_30 : Cond.static Lib.Math.max.name ∈ zAll := zi_0 (List.mem_of_getElem? (i := 30) (by decide +kernel))
theorem zw_31 : Cond.initialized "java/lang/Math" ∈ zAll := zi_0 (List.mem_of_getElem? (i := 31) (by decide +kernel))
theorem zw_32 : Cond.code Lib.Math.max.name Lib.Math.max.code 2 (some .int) ∈ zAll := zi_0 (List.mem_of_getElem? (i := 32) (by rfl))
theorem zw_33 : Cond.methodLink RX0 29 yX4_width ∈ zAll := zi_0 (List.mem_of_getElem? (i := 33) (by decide +kernel))
theorem zw_34 : Cond.instanceMethod yX4_width ∈ zAll := zi_0 (List.mem_of_getElem? (i := 34) (by decide +kernel))
theorem zw_35 : Cond.selects RX4 yX4_width yX4_width ∈ zAll := zi_0 (List.mem_of_getElem? (i := 35) (by decide +kernel))
theorem zw_36 : Cond.initialized RX4 ∈ zAll := zi_0 (List.mem_of_getElem? (i := 36) (by decide +kernel))
theorem zw_37 : Cond.methodLink RX0 41 yX4_block ∈ zAll := zi_0 (List.mem_of_getElem? (i := 37) (by decide +kernel))
theorem zw_38 : Cond.instanceMethod yX4_block ∈ zAll := zi_0 (List.mem_of_getElem? (i := 38) (by decide +kernel))
theorem zw_39 : Cond.selects RX4 yX4_block yX4_block ∈ zAll := zi_0 (List.mem_of_getElem? (i := 39) (by decide +kernel))
theorem zw_40 : Cond.methodLink RX0 44 yX4_take ∈ zAll := zi_0 (List.mem_of_getElem? (i := 40) (by decide +kernel))
theorem zw_41 : Cond.instanceMethod yX4_take ∈ zAll := zi_0 (List.mem_of_getElem? (i := 41) (by decide +kernel))
theorem zw_42 : Cond.selects RX4 yX4_take yX4_take ∈ zAll := zi_0 (List.mem_of_getElem? (i := 42) (by decide +kernel))
theorem zw_43 : Cond.methodLink RX0 47 yX4_move ∈ zAll := zi_0 (List.mem_of_getElem? (i := 43) (by decide +kernel))
theorem zw_44 : Cond.instanceMethod yX4_move ∈ zAll := zi_0 (List.mem_of_getElem? (i := 44) (by decide +kernel))
theorem zw_45 : Cond.selects RX4 yX4_move yX4_move ∈ zAll := zi_0 (List.mem_of_getElem? (i := 45) (by decide +kernel))
theorem zw_46 : Cond.methodLink RX0 51 yX4_lastOf ∈ zAll := zi_0 (List.mem_of_getElem? (i := 46) (by decide +kernel))
theorem zw_47 : Cond.instanceMethod yX4_lastOf ∈ zAll := zi_0 (List.mem_of_getElem? (i := 47) (by decide +kernel))
theorem zw_48 : Cond.selects RX4 yX4_lastOf yX4_lastOf ∈ zAll := zi_0 (List.mem_of_getElem? (i := 48) (by decide +kernel))
theorem zw_49 : Cond.methodLink RX0 54 yX4_common ∈ zAll := zi_0 (List.mem_of_getElem? (i := 49) (by decide +kernel))
theorem zw_50 : Cond.instanceMethod yX4_common ∈ zAll := zi_0 (List.mem_of_getElem? (i := 50) (by decide +kernel))
theorem zw_51 : Cond.selects RX4 yX4_common yX4_common ∈ zAll := zi_0 (List.mem_of_getElem? (i := 51) (by decide +kernel))
theorem zw_52 : Cond.methodLink RX0 58 yX4_get ∈ zAll := zi_0 (List.mem_of_getElem? (i := 52) (by decide +kernel))
theorem zw_53 : Cond.instanceMethod yX4_get ∈ zAll := zi_0 (List.mem_of_getElem? (i := 53) (by decide +kernel))
theorem zw_54 : Cond.selects RX4 yX4_get yX4_get ∈ zAll := zi_0 (List.mem_of_getElem? (i := 54) (by decide +kernel))
theorem zw_55 : Cond.methodLink RX0 61 yX1_inverse ∈ zAll := zi_0 (List.mem_of_getElem? (i := 55) (by decide +kernel))
theorem zw_56 : Cond.static yX1_inverse ∈ zAll := zi_0 (List.mem_of_getElem? (i := 56) (by decide +kernel))
theorem zw_57 : Cond.initialized RX1 ∈ zAll := zi_0 (List.mem_of_getElem? (i := 57) (by decide +kernel))
theorem zw_58 : Cond.methodLink RX0 66 yX4_scale ∈ zAll := zi_0 (List.mem_of_getElem? (i := 58) (by decide +kernel))
theorem zw_59 : Cond.instanceMethod yX4_scale ∈ zAll := zi_0 (List.mem_of_getElem? (i := 59) (by decide +kernel))
theorem zw_60 : Cond.selects RX4 yX4_scale yX4_scale ∈ zAll := zi_1 (List.mem_of_getElem? (i := 0) (by decide +kernel))
theorem zw_61 : Cond.methodLink RX0 69 yX4_clip ∈ zAll := zi_1 (List.mem_of_getElem? (i := 1) (by decide +kernel))
theorem zw_62 : Cond.instanceMethod yX4_clip ∈ zAll := zi_1 (List.mem_of_getElem? (i := 2) (by decide +kernel))
theorem zw_63 : Cond.selects RX4 yX4_clip yX4_clip ∈ zAll := zi_1 (List.mem_of_getElem? (i := 3) (by decide +kernel))
theorem zw_64 : Cond.code yX0_single cX0_single 7 (some .int) ∈ zAll := zi_1 (List.mem_of_getElem? (i := 4) (by rfl))
theorem zw_65 : Cond.code yX4_height cX4_height 2 (some .int) ∈ zAll := zi_1 (List.mem_of_getElem? (i := 5) (by rfl))
theorem zw_66 : Cond.code yX4_rowOf cX4_rowOf 3 (some .int) ∈ zAll := zi_1 (List.mem_of_getElem? (i := 6) (by rfl))
theorem zw_67 : Cond.methodLink RX0 73 yX4_height ∈ zAll := zi_1 (List.mem_of_getElem? (i := 7) (by decide +kernel))
theorem zw_68 : Cond.instanceMethod yX4_height ∈ zAll := zi_1 (List.mem_of_getElem? (i := 8) (by decide +kernel))
theorem zw_69 : Cond.selects RX4 yX4_height yX4_height ∈ zAll := zi_1 (List.mem_of_getElem? (i := 9) (by decide +kernel))
theorem zw_70 : Cond.methodLink RX0 76 yX4_rowOf ∈ zAll := zi_1 (List.mem_of_getElem? (i := 10) (by decide +kernel))
theorem zw_71 : Cond.instanceMethod yX4_rowOf ∈ zAll := zi_1 (List.mem_of_getElem? (i := 11) (by decide +kernel))
theorem zw_72 : Cond.selects RX4 yX4_rowOf yX4_rowOf ∈ zAll := zi_1 (List.mem_of_getElem? (i := 12) (by decide +kernel))
theorem zw_73 : Cond.code yX0_content cX0_content 7 (some .int) ∈ zAll := zi_1 (List.mem_of_getElem? (i := 13) (by rfl))
theorem zw_74 : Cond.code yX4_isNumber cX4_isNumber 2 (some .boolean) ∈ zAll := zi_1 (List.mem_of_getElem? (i := 14) (by rfl))
theorem zw_75 : Cond.code yX4_copy cX4_copy 5 (some .int) ∈ zAll := zi_1 (List.mem_of_getElem? (i := 15) (by rfl))
theorem zw_76 : Cond.code yX4_isZero cX4_isZero 2 (some .boolean) ∈ zAll := zi_1 (List.mem_of_getElem? (i := 16) (by rfl))
theorem zw_77 : Cond.code yX4_span cX4_span 2 (some .int) ∈ zAll := zi_1 (List.mem_of_getElem? (i := 17) (by rfl))
theorem zw_78 : Cond.code yX4_divide cX4_divide 12 (some .boolean) ∈ zAll := zi_1 (List.mem_of_getElem? (i := 18) (by rfl))
theorem zw_79 : Cond.code yX4_addTimes cX4_addTimes 6 none ∈ zAll := zi_1 (List.mem_of_getElem? (i := 19) (by rfl))
theorem zw_80 : Cond.code yX4_release cX4_release 2 none ∈ zAll := zi_1 (List.mem_of_getElem? (i := 20) (by rfl))
theorem zw_81 : Cond.fieldLink RX2 9 "SumHouse$Planes" "room" "LSumHouse$Room;" ∈ zAll := zi_1 (List.mem_of_getElem? (i := 21) (by decide +kernel))
theorem zw_82 : Cond.fieldLink RX2 110 "SumHouse$Room" "top" "I" ∈ zAll := zi_1 (List.mem_of_getElem? (i := 22) (by decide +kernel))
theorem zw_83 : Cond.constant RX2 124 (2147483647) ∈ zAll := zi_1 (List.mem_of_getElem? (i := 23) (by decide +kernel))
theorem zw_84 : Cond.methodLink RX2 15 yX4_width ∈ zAll := zi_1 (List.mem_of_getElem? (i := 24) (by decide +kernel))
theorem zw_85 : Cond.methodLink RX2 21 yX4_height ∈ zAll := zi_1 (List.mem_of_getElem? (i := 25) (by decide +kernel))
theorem zw_86 : Cond.methodLink RX2 91 yX4_isZero ∈ zAll := zi_1 (List.mem_of_getElem? (i := 26) (by decide +kernel))
theorem zw_87 : Cond.instanceMethod yX4_isZero ∈ zAll := zi_1 (List.mem_of_getElem? (i := 27) (by decide +kernel))
theorem zw_88 : Cond.selects RX4 yX4_isZero yX4_isZero ∈ zAll := zi_1 (List.mem_of_getElem? (i := 28) (by decide +kernel))
theorem zw_89 : Cond.methodLink RX2 31 yX4_block ∈ zAll := zi_1 (List.mem_of_getElem? (i := 29) (by decide +kernel))
theorem zw_90 : Cond.methodLink RX2 44 yX4_span ∈ zAll := zi_1 (List.mem_of_getElem? (i := 30) (by decide +kernel))
theorem zw_91 : Cond.instanceMethod yX4_span ∈ zAll := zi_1 (List.mem_of_getElem? (i := 31) (by decide +kernel))
theorem zw_92 : Cond.selects RX4 yX4_span yX4_span ∈ zAll := zi_1 (List.mem_of_getElem? (i := 32) (by decide +kernel))
theorem zw_93 : Cond.methodLink RX2 47 yX4_move ∈ zAll := zi_1 (List.mem_of_getElem? (i := 33) (by decide +kernel))
theorem zw_94 : Cond.methodLink RX2 24 yX4_rowOf ∈ zAll := zi_1 (List.mem_of_getElem? (i := 34) (by decide +kernel))
theorem zw_95 : Cond.methodLink RX2 114 yX4_lastOf ∈ zAll := zi_1 (List.mem_of_getElem? (i := 35) (by decide +kernel))
theorem zw_96 : Cond.methodLink RX2 28 yX4_get ∈ zAll := zi_1 (List.mem_of_getElem? (i := 36) (by decide +kernel))
theorem zw_97 : Cond.methodLink RX2 117 yX1_inverse ∈ zAll := zi_1 (List.mem_of_getElem? (i := 37) (by decide +kernel))
theorem zw_98 : Cond.methodLink RX2 120 yX4_divide ∈ zAll := zi_1 (List.mem_of_getElem? (i := 38) (by decide +kernel))
theorem zw_99 : Cond.instanceMethod yX4_divide ∈ zAll := zi_1 (List.mem_of_getElem? (i := 39) (by decide +kernel))
theorem zw_100 : Cond.selects RX4 yX4_divide yX4_divide ∈ zAll := zi_1 (List.mem_of_getElem? (i := 40) (by decide +kernel))
theorem zw_101 : Cond.methodLink RX2 87 yX4_addTimes ∈ zAll := zi_1 (List.mem_of_getElem? (i := 41) (by decide +kernel))
theorem zw_102 : Cond.instanceMethod yX4_addTimes ∈ zAll := zi_1 (List.mem_of_getElem? (i := 42) (by decide +kernel))
theorem zw_103 : Cond.selects RX4 yX4_addTimes yX4_addTimes ∈ zAll := zi_1 (List.mem_of_getElem? (i := 43) (by decide +kernel))
theorem zw_104 : Cond.methodLink RX2 51 yX4_release ∈ zAll := zi_1 (List.mem_of_getElem? (i := 44) (by decide +kernel))
theorem zw_105 : Cond.instanceMethod yX4_release ∈ zAll := zi_1 (List.mem_of_getElem? (i := 45) (by decide +kernel))
theorem zw_106 : Cond.selects RX4 yX4_release yX4_release ∈ zAll := zi_1 (List.mem_of_getElem? (i := 46) (by decide +kernel))
theorem zw_107 : Cond.code yX2_divide cX2_divide 19 (some .int) ∈ zAll := zi_1 (List.mem_of_getElem? (i := 47) (by rfl))
theorem zw_108 : Cond.code yX4_settle cX4_settle 5 (some .int) ∈ zAll := zi_1 (List.mem_of_getElem? (i := 48) (by rfl))
theorem zw_109 : Cond.fieldLink RX0 79 "SumHouse$Room" "top" "I" ∈ zAll := zi_1 (List.mem_of_getElem? (i := 49) (by decide +kernel))
theorem zw_110 : Cond.methodLink RX0 83 yX0_content ∈ zAll := zi_1 (List.mem_of_getElem? (i := 50) (by decide +kernel))
theorem zw_111 : Cond.instanceMethod yX0_content ∈ zAll := zi_1 (List.mem_of_getElem? (i := 51) (by decide +kernel))
theorem zw_112 : Cond.selects RX0 yX0_content yX0_content ∈ zAll := zi_1 (List.mem_of_getElem? (i := 52) (by decide +kernel))
theorem zw_113 : Cond.initialized RX0 ∈ zAll := zi_1 (List.mem_of_getElem? (i := 53) (by decide +kernel))
theorem zw_114 : Cond.methodLink RX0 86 yX4_isNumber ∈ zAll := zi_1 (List.mem_of_getElem? (i := 54) (by decide +kernel))
theorem zw_115 : Cond.instanceMethod yX4_isNumber ∈ zAll := zi_1 (List.mem_of_getElem? (i := 55) (by decide +kernel))
theorem zw_116 : Cond.selects RX4 yX4_isNumber yX4_isNumber ∈ zAll := zi_1 (List.mem_of_getElem? (i := 56) (by decide +kernel))
theorem zw_117 : Cond.methodLink RX0 90 yX4_copy ∈ zAll := zi_1 (List.mem_of_getElem? (i := 57) (by decide +kernel))
theorem zw_118 : Cond.instanceMethod yX4_copy ∈ zAll := zi_1 (List.mem_of_getElem? (i := 58) (by decide +kernel))
theorem zw_119 : Cond.selects RX4 yX4_copy yX4_copy ∈ zAll := zi_1 (List.mem_of_getElem? (i := 59) (by decide +kernel))
theorem zw_120 : Cond.methodLink RX0 93 yX2_divide ∈ zAll := zi_2 (List.mem_of_getElem? (i := 0) (by decide +kernel))
theorem zw_121 : Cond.instanceMethod yX2_divide ∈ zAll := zi_2 (List.mem_of_getElem? (i := 1) (by decide +kernel))
theorem zw_122 : Cond.selects RX2 yX2_divide yX2_divide ∈ zAll := zi_2 (List.mem_of_getElem? (i := 2) (by decide +kernel))
theorem zw_123 : Cond.initialized RX2 ∈ zAll := zi_2 (List.mem_of_getElem? (i := 3) (by decide +kernel))
theorem zw_124 : Cond.methodLink RX0 98 yX4_settle ∈ zAll := zi_2 (List.mem_of_getElem? (i := 4) (by decide +kernel))
theorem zw_125 : Cond.instanceMethod yX4_settle ∈ zAll := zi_2 (List.mem_of_getElem? (i := 5) (by decide +kernel))
theorem zw_126 : Cond.selects RX4 yX4_settle yX4_settle ∈ zAll := zi_2 (List.mem_of_getElem? (i := 6) (by decide +kernel))
theorem zw_127 : Cond.code yX0_primitive cX0_primitive 5 (some .int) ∈ zAll := zi_2 (List.mem_of_getElem? (i := 7) (by rfl))
theorem zw_128 : Cond.code yX4_head cX4_head 4 (some .int) ∈ zAll := zi_2 (List.mem_of_getElem? (i := 8) (by rfl))
theorem zw_129 : Cond.code yX2_scale cX2_scale 3 none ∈ zAll := zi_2 (List.mem_of_getElem? (i := 9) (by rfl))
theorem zw_130 : Cond.methodLink RX2 81 yX4_scale ∈ zAll := zi_2 (List.mem_of_getElem? (i := 10) (by decide +kernel))
theorem zw_131 : Cond.code yX4_constant cX4_constant 2 (some .int) ∈ zAll := zi_2 (List.mem_of_getElem? (i := 11) (by rfl))
theorem zw_132 : Cond.code yX4_trim cX4_trim 8 none ∈ zAll := zi_2 (List.mem_of_getElem? (i := 12) (by rfl))
theorem zw_133 : Cond.methodLink RX2 62 yX4_trim ∈ zAll := zi_2 (List.mem_of_getElem? (i := 13) (by decide +kernel))
theorem zw_134 : Cond.instanceMethod yX4_trim ∈ zAll := zi_2 (List.mem_of_getElem? (i := 14) (by decide +kernel))
theorem zw_135 : Cond.selects RX4 yX4_trim yX4_trim ∈ zAll := zi_2 (List.mem_of_getElem? (i := 15) (by decide +kernel))
theorem zw_136 : Cond.code yX2_slice cX2_slice 4 (some .int) ∈ zAll := zi_2 (List.mem_of_getElem? (i := 16) (by rfl))
theorem zw_137 : Cond.code yX4_put cX4_put 3 none ∈ zAll := zi_2 (List.mem_of_getElem? (i := 17) (by rfl))
theorem zw_138 : Cond.code yX4_weaveStart cX4_weaveStart 4 (some .int) ∈ zAll := zi_2 (List.mem_of_getElem? (i := 18) (by rfl))
theorem zw_139 : Cond.methodLink RX4 48 yX4_take ∈ zAll := zi_2 (List.mem_of_getElem? (i := 19) (by decide +kernel))
theorem zw_140 : Cond.methodLink RX4 51 yX4_put ∈ zAll := zi_2 (List.mem_of_getElem? (i := 20) (by decide +kernel))
theorem zw_141 : Cond.instanceMethod yX4_put ∈ zAll := zi_2 (List.mem_of_getElem? (i := 21) (by decide +kernel))
theorem zw_142 : Cond.selects RX4 yX4_put yX4_put ∈ zAll := zi_2 (List.mem_of_getElem? (i := 22) (by decide +kernel))
theorem zw_143 : Cond.code yX4_horner cX4_horner 7 (some .int) ∈ zAll := zi_2 (List.mem_of_getElem? (i := 23) (by rfl))
theorem zw_144 : Cond.methodLink RX2 101 yX4_horner ∈ zAll := zi_2 (List.mem_of_getElem? (i := 24) (by decide +kernel))
theorem zw_145 : Cond.instanceMethod yX4_horner ∈ zAll := zi_2 (List.mem_of_getElem? (i := 25) (by decide +kernel))
theorem zw_146 : Cond.selects RX4 yX4_horner yX4_horner ∈ zAll := zi_2 (List.mem_of_getElem? (i := 26) (by decide +kernel))
theorem zw_147 : Cond.methodLink RX2 40 yX4_put ∈ zAll := zi_2 (List.mem_of_getElem? (i := 27) (by decide +kernel))
theorem zw_148 : Cond.code yX2_atN cX2_atN 5 none ∈ zAll := zi_2 (List.mem_of_getElem? (i := 28) (by rfl))
theorem zw_149 : Cond.code yX4_weaveAgain cX4_weaveAgain 4 none ∈ zAll := zi_2 (List.mem_of_getElem? (i := 29) (by rfl))
theorem zw_150 : Cond.methodLink RX4 55 yX4_get ∈ zAll := zi_2 (List.mem_of_getElem? (i := 30) (by decide +kernel))
theorem zw_151 : Cond.code yX1_times cX1_times 2 (some .int) ∈ zAll := zi_2 (List.mem_of_getElem? (i := 31) (by rfl))
theorem zw_152 : Cond.code yX1_minus cX1_minus 2 (some .int) ∈ zAll := zi_2 (List.mem_of_getElem? (i := 32) (by rfl))
theorem zw_153 : Cond.methodLink RX4 58 yX4_horner ∈ zAll := zi_2 (List.mem_of_getElem? (i := 33) (by decide +kernel))
theorem zw_154 : Cond.methodLink RX4 29 yX1_inverse ∈ zAll := zi_2 (List.mem_of_getElem? (i := 34) (by decide +kernel))
theorem zw_155 : Cond.methodLink RX4 45 yX1_minus ∈ zAll := zi_2 (List.mem_of_getElem? (i := 35) (by decide +kernel))
theorem zw_156 : Cond.static yX1_minus ∈ zAll := zi_2 (List.mem_of_getElem? (i := 36) (by decide +kernel))
theorem zw_157 : Cond.methodLink RX4 42 yX1_times ∈ zAll := zi_2 (List.mem_of_getElem? (i := 37) (by decide +kernel))
theorem zw_158 : Cond.static yX1_times ∈ zAll := zi_2 (List.mem_of_getElem? (i := 38) (by decide +kernel))
theorem zw_159 : Cond.methodLink RX4 62 yX4_addTimes ∈ zAll := zi_2 (List.mem_of_getElem? (i := 39) (by decide +kernel))
theorem zw_160 : Cond.code yX4_weave cX4_weave 13 (some .boolean) ∈ zAll := zi_2 (List.mem_of_getElem? (i := 40) (by rfl))
theorem zw_161 : Cond.code yX4_wovenRow cX4_wovenRow 3 (some .int) ∈ zAll := zi_2 (List.mem_of_getElem? (i := 41) (by rfl))
theorem zw_162 : Cond.methodLink RX0 161 yX4_wovenRow ∈ zAll := zi_2 (List.mem_of_getElem? (i := 42) (by decide +kernel))
theorem zw_163 : Cond.instanceMethod yX4_wovenRow ∈ zAll := zi_2 (List.mem_of_getElem? (i := 43) (by decide +kernel))
theorem zw_164 : Cond.selects RX4 yX4_wovenRow yX4_wovenRow ∈ zAll := zi_2 (List.mem_of_getElem? (i := 44) (by decide +kernel))
theorem zw_165 : Cond.methodLink RX0 164 yX4_trim ∈ zAll := zi_2 (List.mem_of_getElem? (i := 45) (by decide +kernel))
theorem zw_166 : Cond.methodLink RX0 101 yX4_isZero ∈ zAll := zi_2 (List.mem_of_getElem? (i := 46) (by decide +kernel))
theorem zw_167 : Cond.methodLink RX0 142 yX4_release ∈ zAll := zi_2 (List.mem_of_getElem? (i := 47) (by decide +kernel))
theorem zw_168 : Cond.methodLink RX0 104 yX4_head ∈ zAll := zi_2 (List.mem_of_getElem? (i := 48) (by decide +kernel))
theorem zw_169 : Cond.instanceMethod yX4_head ∈ zAll := zi_2 (List.mem_of_getElem? (i := 49) (by decide +kernel))
theorem zw_170 : Cond.selects RX4 yX4_head yX4_head ∈ zAll := zi_2 (List.mem_of_getElem? (i := 50) (by decide +kernel))
theorem zw_171 : Cond.methodLink RX0 107 yX2_scale ∈ zAll := zi_2 (List.mem_of_getElem? (i := 51) (by decide +kernel))
theorem zw_172 : Cond.instanceMethod yX2_scale ∈ zAll := zi_2 (List.mem_of_getElem? (i := 52) (by decide +kernel))
theorem zw_173 : Cond.selects RX2 yX2_scale yX2_scale ∈ zAll := zi_2 (List.mem_of_getElem? (i := 53) (by decide +kernel))
theorem zw_174 : Cond.code yX0_tried cX0_tried 9 (some .int) ∈ zAll := zi_2 (List.mem_of_getElem? (i := 54) (by rfl))
theorem zw_175 : Cond.methodLink RX0 127 Lib.Math.min.name ∈ zAll := zi_2 (List.mem_of_getElem? (i := 55) (by decide +kernel))
theorem zw_176 : Cond.static Lib.Math.min.name ∈ zAll := zi_2 (List.mem_of_getElem? (i := 56) (by decide +kernel))
theorem zw_177 : Cond.code Lib.Math.min.name Lib.Math.min.code 2 (some .int) ∈ zAll := zi_2 (List.mem_of_getElem? (i := 57) (by rfl))
theorem zw_178 : Cond.constant RX0 133 (1234567) ∈ zAll := zi_2 (List.mem_of_getElem? (i := 58) (by decide +kernel))
theorem zw_179 : Cond.constant RX0 134 (1334567) ∈ zAll := zi_2 (List.mem_of_getElem? (i := 59) (by decide +kernel))
theorem zw_180 : Cond.fieldLink RX0 135 "SumHouse$Room" "full" "Z" ∈ zAll := zi_3 (List.mem_of_getElem? (i := 0) (by decide +kernel))
theorem zw_181 : Cond.methodLink RX0 124 yX2_slice ∈ zAll := zi_3 (List.mem_of_getElem? (i := 1) (by decide +kernel))
theorem zw_182 : Cond.instanceMethod yX2_slice ∈ zAll := zi_3 (List.mem_of_getElem? (i := 2) (by decide +kernel))
theorem zw_183 : Cond.selects RX2 yX2_slice yX2_slice ∈ zAll := zi_3 (List.mem_of_getElem? (i := 3) (by decide +kernel))
theorem zw_184 : Cond.methodLink RX0 112 yX0_single ∈ zAll := zi_3 (List.mem_of_getElem? (i := 4) (by decide +kernel))
theorem zw_185 : Cond.instanceMethod yX0_single ∈ zAll := zi_3 (List.mem_of_getElem? (i := 5) (by decide +kernel))
theorem zw_186 : Cond.selects RX0 yX0_single yX0_single ∈ zAll := zi_3 (List.mem_of_getElem? (i := 6) (by decide +kernel))
theorem zw_187 : Cond.methodLink RX0 130 yX4_weaveStart ∈ zAll := zi_3 (List.mem_of_getElem? (i := 7) (by decide +kernel))
theorem zw_188 : Cond.instanceMethod yX4_weaveStart ∈ zAll := zi_3 (List.mem_of_getElem? (i := 8) (by decide +kernel))
theorem zw_189 : Cond.selects RX4 yX4_weaveStart yX4_weaveStart ∈ zAll := zi_3 (List.mem_of_getElem? (i := 9) (by decide +kernel))
theorem zw_190 : Cond.methodLink RX0 139 yX2_atN ∈ zAll := zi_3 (List.mem_of_getElem? (i := 10) (by decide +kernel))
theorem zw_191 : Cond.instanceMethod yX2_atN ∈ zAll := zi_3 (List.mem_of_getElem? (i := 11) (by decide +kernel))
theorem zw_192 : Cond.selects RX2 yX2_atN yX2_atN ∈ zAll := zi_3 (List.mem_of_getElem? (i := 12) (by decide +kernel))
theorem zw_193 : Cond.methodLink RX0 109 yX4_constant ∈ zAll := zi_3 (List.mem_of_getElem? (i := 13) (by decide +kernel))
theorem zw_194 : Cond.instanceMethod yX4_constant ∈ zAll := zi_3 (List.mem_of_getElem? (i := 14) (by decide +kernel))
theorem zw_195 : Cond.selects RX4 yX4_constant yX4_constant ∈ zAll := zi_3 (List.mem_of_getElem? (i := 15) (by decide +kernel))
theorem zw_196 : Cond.methodLink RX0 146 yX4_weaveAgain ∈ zAll := zi_3 (List.mem_of_getElem? (i := 16) (by decide +kernel))
theorem zw_197 : Cond.instanceMethod yX4_weaveAgain ∈ zAll := zi_3 (List.mem_of_getElem? (i := 17) (by decide +kernel))
theorem zw_198 : Cond.selects RX4 yX4_weaveAgain yX4_weaveAgain ∈ zAll := zi_3 (List.mem_of_getElem? (i := 18) (by decide +kernel))
theorem zw_199 : Cond.methodLink RX0 149 yX4_horner ∈ zAll := zi_3 (List.mem_of_getElem? (i := 19) (by decide +kernel))
theorem zw_200 : Cond.methodLink RX0 153 yX1_times ∈ zAll := zi_3 (List.mem_of_getElem? (i := 20) (by decide +kernel))
theorem zw_201 : Cond.methodLink RX0 154 yX4_weave ∈ zAll := zi_3 (List.mem_of_getElem? (i := 21) (by decide +kernel))
theorem zw_202 : Cond.instanceMethod yX4_weave ∈ zAll := zi_3 (List.mem_of_getElem? (i := 22) (by decide +kernel))
theorem zw_203 : Cond.selects RX4 yX4_weave yX4_weave ∈ zAll := zi_3 (List.mem_of_getElem? (i := 23) (by decide +kernel))
theorem zw_204 : Cond.methodLink RX0 158 yX0_tried ∈ zAll := zi_3 (List.mem_of_getElem? (i := 24) (by decide +kernel))
theorem zw_205 : Cond.instanceMethod yX0_tried ∈ zAll := zi_3 (List.mem_of_getElem? (i := 25) (by decide +kernel))
theorem zw_206 : Cond.selects RX0 yX0_tried yX0_tried ∈ zAll := zi_3 (List.mem_of_getElem? (i := 26) (by decide +kernel))
theorem zw_207 : Cond.code yX0_lift cX0_lift 17 (some .int) ∈ zAll := zi_3 (List.mem_of_getElem? (i := 27) (by rfl))
theorem zw_208 : Cond.code yX2_times cX2_times 9 (some .int) ∈ zAll := zi_3 (List.mem_of_getElem? (i := 28) (by rfl))
theorem zw_209 : Cond.methodLink RX0 115 yX0_primitive ∈ zAll := zi_3 (List.mem_of_getElem? (i := 29) (by decide +kernel))
theorem zw_210 : Cond.instanceMethod yX0_primitive ∈ zAll := zi_3 (List.mem_of_getElem? (i := 30) (by decide +kernel))
theorem zw_211 : Cond.selects RX0 yX0_primitive yX0_primitive ∈ zAll := zi_3 (List.mem_of_getElem? (i := 31) (by decide +kernel))
theorem zw_212 : Cond.methodLink RX0 118 yX0_lift ∈ zAll := zi_3 (List.mem_of_getElem? (i := 32) (by decide +kernel))
theorem zw_213 : Cond.instanceMethod yX0_lift ∈ zAll := zi_3 (List.mem_of_getElem? (i := 33) (by decide +kernel))
theorem zw_214 : Cond.selects RX0 yX0_lift yX0_lift ∈ zAll := zi_3 (List.mem_of_getElem? (i := 34) (by decide +kernel))
theorem zw_215 : Cond.methodLink RX0 121 yX2_times ∈ zAll := zi_3 (List.mem_of_getElem? (i := 35) (by decide +kernel))
theorem zw_216 : Cond.instanceMethod yX2_times ∈ zAll := zi_3 (List.mem_of_getElem? (i := 36) (by decide +kernel))
theorem zw_217 : Cond.selects RX2 yX2_times yX2_times ∈ zAll := zi_3 (List.mem_of_getElem? (i := 37) (by decide +kernel))
theorem zw_218 : Cond.code yX0_gcd cX0_gcd 5 (some .int) ∈ zAll := zi_3 (List.mem_of_getElem? (i := 38) (by rfl))
theorem zw_219 : Cond.code yX1_power cX1_power 9 (some .int) ∈ zAll := zi_3 (List.mem_of_getElem? (i := 39) (by rfl))
theorem zw_220 : Cond.constant RX1 13 (2147483646) ∈ zAll := zi_3 (List.mem_of_getElem? (i := 40) (by decide +kernel))
theorem zw_221 : Cond.code yX4_resultant cX4_resultant 17 (some .int) ∈ zAll := zi_3 (List.mem_of_getElem? (i := 41) (by rfl))
theorem zw_222 : Cond.methodLink RX4 35 yX4_lastOf ∈ zAll := zi_3 (List.mem_of_getElem? (i := 42) (by decide +kernel))
theorem zw_223 : Cond.methodLink RX4 39 yX1_power ∈ zAll := zi_3 (List.mem_of_getElem? (i := 43) (by decide +kernel))
theorem zw_224 : Cond.static yX1_power ∈ zAll := zi_3 (List.mem_of_getElem? (i := 44) (by decide +kernel))
theorem zw_225 : Cond.code yX0_woven cX0_woven 5 (some .int) ∈ zAll := zi_3 (List.mem_of_getElem? (i := 45) (by rfl))
theorem zw_226 : Cond.methodLink RX0 167 yX4_resultant ∈ zAll := zi_3 (List.mem_of_getElem? (i := 46) (by decide +kernel))
theorem zw_227 : Cond.instanceMethod yX4_resultant ∈ zAll := zi_3 (List.mem_of_getElem? (i := 47) (by decide +kernel))
theorem zw_228 : Cond.selects RX4 yX4_resultant yX4_resultant ∈ zAll := zi_3 (List.mem_of_getElem? (i := 48) (by decide +kernel))
theorem zw_229 : Cond.methodLink RX0 170 yX4_put ∈ zAll := zi_3 (List.mem_of_getElem? (i := 49) (by decide +kernel))
theorem zw_230 : Cond.methodLink RX0 173 yX0_woven ∈ zAll := zi_3 (List.mem_of_getElem? (i := 50) (by decide +kernel))
theorem zw_231 : Cond.instanceMethod yX0_woven ∈ zAll := zi_3 (List.mem_of_getElem? (i := 51) (by decide +kernel))
theorem zw_232 : Cond.selects RX0 yX0_woven yX0_woven ∈ zAll := zi_3 (List.mem_of_getElem? (i := 52) (by decide +kernel))
theorem zw_233 : Cond.code yX0_resultant cX0_resultant 12 (some .int) ∈ zAll := zi_3 (List.mem_of_getElem? (i := 53) (by rfl))
theorem zw_234 : Cond.code yX0_cleaned cX0_cleaned 6 (some .int) ∈ zAll := zi_3 (List.mem_of_getElem? (i := 54) (by rfl))
theorem zw_235 : Cond.methodLink RX0 209 yX4_addTimes ∈ zAll := zi_3 (List.mem_of_getElem? (i := 55) (by decide +kernel))
theorem zw_236 : Cond.methodLink RX0 194 yX1_minus ∈ zAll := zi_3 (List.mem_of_getElem? (i := 56) (by decide +kernel))
theorem zw_237 : Cond.code yX0_square cX0_square 6 none ∈ zAll := zi_3 (List.mem_of_getElem? (i := 57) (by rfl))
theorem zw_238 : Cond.code yX1_plus cX1_plus 2 (some .int) ∈ zAll := zi_3 (List.mem_of_getElem? (i := 58) (by rfl))
theorem zw_239 : Cond.methodLink RX0 205 yX0_square ∈ zAll := zi_3 (List.mem_of_getElem? (i := 59) (by decide +kernel))
theorem zw_240 : Cond.instanceMethod yX0_square ∈ zAll := zi_4 (List.mem_of_getElem? (i := 0) (by decide +kernel))
theorem zw_241 : Cond.selects RX0 yX0_square yX0_square ∈ zAll := zi_4 (List.mem_of_getElem? (i := 1) (by decide +kernel))
theorem zw_242 : Cond.methodLink RX0 186 yX1_plus ∈ zAll := zi_4 (List.mem_of_getElem? (i := 2) (by decide +kernel))
theorem zw_243 : Cond.static yX1_plus ∈ zAll := zi_4 (List.mem_of_getElem? (i := 3) (by decide +kernel))
theorem zw_244 : Cond.code yX0_powerOf cX0_powerOf 13 none ∈ zAll := zi_4 (List.mem_of_getElem? (i := 4) (by rfl))
theorem zw_245 : Cond.constant RX0 201 (1073741823) ∈ zAll := zi_4 (List.mem_of_getElem? (i := 5) (by decide +kernel))
theorem zw_246 : Cond.methodLink RX0 190 yX0_powerOf ∈ zAll := zi_4 (List.mem_of_getElem? (i := 6) (by decide +kernel))
theorem zw_247 : Cond.instanceMethod yX0_powerOf ∈ zAll := zi_4 (List.mem_of_getElem? (i := 7) (by decide +kernel))
theorem zw_248 : Cond.selects RX0 yX0_powerOf yX0_powerOf ∈ zAll := zi_4 (List.mem_of_getElem? (i := 8) (by decide +kernel))
theorem zw_249 : Cond.methodLink RX0 202 yX4_divide ∈ zAll := zi_4 (List.mem_of_getElem? (i := 9) (by decide +kernel))
theorem zw_250 : Cond.code yX0_split cX0_split 11 (some .int) ∈ zAll := zi_4 (List.mem_of_getElem? (i := 10) (by rfl))
theorem zw_251 : Cond.constant RX0 189 (2147483647) ∈ zAll := zi_4 (List.mem_of_getElem? (i := 11) (by decide +kernel))
theorem zw_252 : Cond.constant RX0 197 (1000000) ∈ zAll := zi_4 (List.mem_of_getElem? (i := 12) (by decide +kernel))
theorem zw_253 : Cond.methodLink RX0 198 yX0_split ∈ zAll := zi_4 (List.mem_of_getElem? (i := 13) (by decide +kernel))
theorem zw_254 : Cond.instanceMethod yX0_split ∈ zAll := zi_4 (List.mem_of_getElem? (i := 14) (by decide +kernel))
theorem zw_255 : Cond.selects RX0 yX0_split yX0_split ∈ zAll := zi_4 (List.mem_of_getElem? (i := 15) (by decide +kernel))
theorem zw_256 : Cond.code yX0_distinct cX0_distinct 11 (some .int) ∈ zAll := zi_4 (List.mem_of_getElem? (i := 16) (by rfl))
theorem zw_257 : Cond.code yX0_lowest cX0_lowest 5 (some .int) ∈ zAll := zi_4 (List.mem_of_getElem? (i := 17) (by rfl))
theorem zw_258 : Cond.code yX0_isRoot cX0_isRoot 7 (some .boolean) ∈ zAll := zi_4 (List.mem_of_getElem? (i := 18) (by rfl))
theorem zw_259 : Cond.methodLink RX0 176 yX0_distinct ∈ zAll := zi_4 (List.mem_of_getElem? (i := 19) (by decide +kernel))
theorem zw_260 : Cond.instanceMethod yX0_distinct ∈ zAll := zi_4 (List.mem_of_getElem? (i := 20) (by decide +kernel))
theorem zw_261 : Cond.selects RX0 yX0_distinct yX0_distinct ∈ zAll := zi_4 (List.mem_of_getElem? (i := 21) (by decide +kernel))
theorem zw_262 : Cond.methodLink RX0 179 yX0_lowest ∈ zAll := zi_4 (List.mem_of_getElem? (i := 22) (by decide +kernel))
theorem zw_263 : Cond.instanceMethod yX0_lowest ∈ zAll := zi_4 (List.mem_of_getElem? (i := 23) (by decide +kernel))
theorem zw_264 : Cond.selects RX0 yX0_lowest yX0_lowest ∈ zAll := zi_4 (List.mem_of_getElem? (i := 24) (by decide +kernel))
theorem zw_265 : Cond.methodLink RX0 182 yX0_isRoot ∈ zAll := zi_4 (List.mem_of_getElem? (i := 25) (by decide +kernel))
theorem zw_266 : Cond.instanceMethod yX0_isRoot ∈ zAll := zi_4 (List.mem_of_getElem? (i := 26) (by decide +kernel))
theorem zw_267 : Cond.selects RX0 yX0_isRoot yX0_isRoot ∈ zAll := zi_4 (List.mem_of_getElem? (i := 27) (by decide +kernel))
theorem zw_268 : Cond.code yX0_rootsOf cX0_rootsOf 11 (some .int) ∈ zAll := zi_4 (List.mem_of_getElem? (i := 28) (by rfl))
theorem zw_269 : Cond.code yX1_rest cX1_rest 4 (some .int) ∈ zAll := zi_4 (List.mem_of_getElem? (i := 29) (by rfl))
theorem zw_270 : Cond.code yX1_small cX1_small 1 (some .int) ∈ zAll := zi_4 (List.mem_of_getElem? (i := 30) (by rfl))
theorem zw_271 : Cond.constant RX1 11 (1073741823) ∈ zAll := zi_4 (List.mem_of_getElem? (i := 31) (by decide +kernel))
theorem zw_272 : Cond.constant RX1 12 (2147483647) ∈ zAll := zi_4 (List.mem_of_getElem? (i := 32) (by decide +kernel))
theorem zw_273 : Cond.code yX2_init cX2_init 2 none ∈ zAll := zi_4 (List.mem_of_getElem? (i := 33) (by rfl))
theorem zw_274 : Cond.methodLink RX2 3 objectInit ∈ zAll := zi_4 (List.mem_of_getElem? (i := 34) (by decide +kernel))
theorem zw_275 : Cond.code yX2_cell cX2_cell 4 (some .int) ∈ zAll := zi_4 (List.mem_of_getElem? (i := 35) (by rfl))
theorem zw_276 : Cond.code yX2_linear cX2_linear 5 (some .int) ∈ zAll := zi_4 (List.mem_of_getElem? (i := 36) (by rfl))
theorem zw_277 : Cond.methodLink RX2 34 yX1_rest ∈ zAll := zi_4 (List.mem_of_getElem? (i := 37) (by decide +kernel))
theorem zw_278 : Cond.static yX1_rest ∈ zAll := zi_4 (List.mem_of_getElem? (i := 38) (by decide +kernel))
theorem zw_279 : Cond.code yX2_pair cX2_pair 6 (some .int) ∈ zAll := zi_4 (List.mem_of_getElem? (i := 39) (by rfl))
theorem zw_280 : Cond.methodLink RX2 55 Lib.Math.min.name ∈ zAll := zi_4 (List.mem_of_getElem? (i := 40) (by decide +kernel))
theorem zw_281 : Cond.code yX2_load cX2_load 8 (some .int) ∈ zAll := zi_4 (List.mem_of_getElem? (i := 41) (by rfl))
theorem zw_282 : Cond.code yX2_save cX2_save 6 none ∈ zAll := zi_4 (List.mem_of_getElem? (i := 42) (by rfl))
theorem zw_283 : Cond.code yX6_stepNumber cX6_stepNumber 3 (some .int) ∈ zAll := zi_4 (List.mem_of_getElem? (i := 43) (by rfl))
theorem zw_284 : Cond.fieldLink RX6 21 "SumHouse$Slot" "steps" "[I" ∈ zAll := zi_4 (List.mem_of_getElem? (i := 44) (by decide +kernel))
theorem zw_285 : Cond.code yX2_loadStep cX2_loadStep 6 (some .int) ∈ zAll := zi_4 (List.mem_of_getElem? (i := 45) (by rfl))
theorem zw_286 : Cond.methodLink RX2 65 yX6_stepNumber ∈ zAll := zi_4 (List.mem_of_getElem? (i := 46) (by decide +kernel))
theorem zw_287 : Cond.instanceMethod yX6_stepNumber ∈ zAll := zi_4 (List.mem_of_getElem? (i := 47) (by decide +kernel))
theorem zw_288 : Cond.selects RX6 yX6_stepNumber yX6_stepNumber ∈ zAll := zi_4 (List.mem_of_getElem? (i := 48) (by decide +kernel))
theorem zw_289 : Cond.initialized RX6 ∈ zAll := zi_4 (List.mem_of_getElem? (i := 49) (by decide +kernel))
theorem zw_290 : Cond.code yX6_putStep cX6_putStep 4 none ∈ zAll := zi_4 (List.mem_of_getElem? (i := 50) (by rfl))
theorem zw_291 : Cond.methodLink RX2 68 yX2_cell ∈ zAll := zi_4 (List.mem_of_getElem? (i := 51) (by decide +kernel))
theorem zw_292 : Cond.instanceMethod yX2_cell ∈ zAll := zi_4 (List.mem_of_getElem? (i := 52) (by decide +kernel))
theorem zw_293 : Cond.selects RX2 yX2_cell yX2_cell ∈ zAll := zi_4 (List.mem_of_getElem? (i := 53) (by decide +kernel))
theorem zw_294 : Cond.methodLink RX2 72 yX6_putStep ∈ zAll := zi_4 (List.mem_of_getElem? (i := 54) (by decide +kernel))
theorem zw_295 : Cond.instanceMethod yX6_putStep ∈ zAll := zi_4 (List.mem_of_getElem? (i := 55) (by decide +kernel))
theorem zw_296 : Cond.selects RX6 yX6_putStep yX6_putStep ∈ zAll := zi_4 (List.mem_of_getElem? (i := 56) (by decide +kernel))
theorem zw_297 : Cond.code yX2_saveStep cX2_saveStep 5 none ∈ zAll := zi_4 (List.mem_of_getElem? (i := 57) (by rfl))
theorem zw_298 : Cond.methodLink RX2 75 yX4_copy ∈ zAll := zi_4 (List.mem_of_getElem? (i := 58) (by decide +kernel))
theorem zw_299 : Cond.methodLink RX2 78 yX2_slice ∈ zAll := zi_4 (List.mem_of_getElem? (i := 59) (by decide +kernel))
theorem zw_300 : Cond.code yX2_monic cX2_monic 3 (some .int) ∈ zAll := zi_5 (List.mem_of_getElem? (i := 0) (by rfl))
theorem zw_301 : Cond.methodLink RX2 84 Lib.Math.max.name ∈ zAll := zi_5 (List.mem_of_getElem? (i := 1) (by decide +kernel))
theorem zw_302 : Cond.code yX2_plus cX2_plus 6 (some .int) ∈ zAll := zi_5 (List.mem_of_getElem? (i := 2) (by rfl))
theorem zw_303 : Cond.code yX2_slideK cX2_slideK 6 none ∈ zAll := zi_5 (List.mem_of_getElem? (i := 3) (by rfl))
theorem zw_304 : Cond.code yX2_slideN cX2_slideN 8 none ∈ zAll := zi_5 (List.mem_of_getElem? (i := 4) (by rfl))
theorem zw_305 : Cond.methodLink RX2 95 yX2_slideN ∈ zAll := zi_5 (List.mem_of_getElem? (i := 5) (by decide +kernel))
theorem zw_306 : Cond.instanceMethod yX2_slideN ∈ zAll := zi_5 (List.mem_of_getElem? (i := 6) (by decide +kernel))
theorem zw_307 : Cond.selects RX2 yX2_slideN yX2_slideN ∈ zAll := zi_5 (List.mem_of_getElem? (i := 7) (by decide +kernel))
theorem zw_308 : Cond.methodLink RX2 98 yX2_slideK ∈ zAll := zi_5 (List.mem_of_getElem? (i := 8) (by decide +kernel))
theorem zw_309 : Cond.instanceMethod yX2_slideK ∈ zAll := zi_5 (List.mem_of_getElem? (i := 9) (by decide +kernel))
theorem zw_310 : Cond.selects RX2 yX2_slideK yX2_slideK ∈ zAll := zi_5 (List.mem_of_getElem? (i := 10) (by decide +kernel))
theorem zw_311 : Cond.code yX2_slide cX2_slide 4 none ∈ zAll := zi_5 (List.mem_of_getElem? (i := 11) (by rfl))
theorem zw_312 : Cond.methodLink RX2 104 yX2_atN ∈ zAll := zi_5 (List.mem_of_getElem? (i := 12) (by decide +kernel))
theorem zw_313 : Cond.code yX2_withN cX2_withN 4 (some .int) ∈ zAll := zi_5 (List.mem_of_getElem? (i := 13) (by rfl))
theorem zw_314 : Cond.methodLink RX2 107 yX1_times ∈ zAll := zi_5 (List.mem_of_getElem? (i := 14) (by decide +kernel))
theorem zw_315 : Cond.code yX2_withK cX2_withK 6 (some .int) ∈ zAll := zi_5 (List.mem_of_getElem? (i := 15) (by rfl))
theorem zw_316 : Cond.code yX2_derivative cX2_derivative 8 (some .int) ∈ zAll := zi_5 (List.mem_of_getElem? (i := 16) (by rfl))
theorem zw_317 : Cond.code yX2_turned cX2_turned 5 (some .int) ∈ zAll := zi_5 (List.mem_of_getElem? (i := 17) (by rfl))
theorem zw_318 : Cond.code yX3_init cX3_init 4 none ∈ zAll := zi_5 (List.mem_of_getElem? (i := 18) (by rfl))
theorem zw_319 : Cond.methodLink RX3 3 objectInit ∈ zAll := zi_5 (List.mem_of_getElem? (i := 19) (by decide +kernel))
theorem zw_320 : Cond.fieldLink RX3 9 "SumHouse$Ratios" "room" "LSumHouse$Room;" ∈ zAll := zi_5 (List.mem_of_getElem? (i := 20) (by decide +kernel))
theorem zw_321 : Cond.fieldLink RX3 15 "SumHouse$Ratios" "planes" "LSumHouse$Planes;" ∈ zAll := zi_5 (List.mem_of_getElem? (i := 21) (by decide +kernel))
theorem zw_322 : Cond.fieldLink RX3 19 "SumHouse$Ratios" "divisors" "LSumHouse$Divisors;" ∈ zAll := zi_5 (List.mem_of_getElem? (i := 22) (by decide +kernel))
theorem zw_323 : Cond.code yX3_under cX3_under 2 (some .int) ∈ zAll := zi_5 (List.mem_of_getElem? (i := 23) (by rfl))
theorem zw_324 : Cond.methodLink RX3 23 yX4_span ∈ zAll := zi_5 (List.mem_of_getElem? (i := 24) (by decide +kernel))
theorem zw_325 : Cond.code yX3_isWithin cX3_isWithin 5 (some .boolean) ∈ zAll := zi_5 (List.mem_of_getElem? (i := 25) (by rfl))
theorem zw_326 : Cond.methodLink RX3 33 yX3_under ∈ zAll := zi_5 (List.mem_of_getElem? (i := 26) (by decide +kernel))
theorem zw_327 : Cond.instanceMethod yX3_under ∈ zAll := zi_5 (List.mem_of_getElem? (i := 27) (by decide +kernel))
theorem zw_328 : Cond.selects RX3 yX3_under yX3_under ∈ zAll := zi_5 (List.mem_of_getElem? (i := 28) (by decide +kernel))
theorem zw_329 : Cond.initialized RX3 ∈ zAll := zi_5 (List.mem_of_getElem? (i := 29) (by decide +kernel))
theorem zw_330 : Cond.methodLink RX3 36 yX4_width ∈ zAll := zi_5 (List.mem_of_getElem? (i := 30) (by decide +kernel))
theorem zw_331 : Cond.methodLink RX3 39 yX4_height ∈ zAll := zi_5 (List.mem_of_getElem? (i := 31) (by decide +kernel))
theorem zw_332 : Cond.methodLink RX3 29 yX3_isWithin ∈ zAll := zi_5 (List.mem_of_getElem? (i := 32) (by decide +kernel))
theorem zw_333 : Cond.instanceMethod yX3_isWithin ∈ zAll := zi_5 (List.mem_of_getElem? (i := 33) (by decide +kernel))
theorem zw_334 : Cond.selects RX3 yX3_isWithin yX3_isWithin ∈ zAll := zi_5 (List.mem_of_getElem? (i := 34) (by decide +kernel))
theorem zw_335 : Cond.code yX3_fits cX3_fits 2 (some .boolean) ∈ zAll := zi_5 (List.mem_of_getElem? (i := 35) (by rfl))
theorem zw_336 : Cond.methodLink RX3 42 yX2_pair ∈ zAll := zi_5 (List.mem_of_getElem? (i := 36) (by decide +kernel))
theorem zw_337 : Cond.instanceMethod yX2_pair ∈ zAll := zi_5 (List.mem_of_getElem? (i := 37) (by decide +kernel))
theorem zw_338 : Cond.selects RX2 yX2_pair yX2_pair ∈ zAll := zi_5 (List.mem_of_getElem? (i := 38) (by decide +kernel))
theorem zw_339 : Cond.methodLink RX3 48 yX4_head ∈ zAll := zi_5 (List.mem_of_getElem? (i := 39) (by decide +kernel))
theorem zw_340 : Cond.methodLink RX3 51 yX1_inverse ∈ zAll := zi_5 (List.mem_of_getElem? (i := 40) (by decide +kernel))
theorem zw_341 : Cond.methodLink RX3 56 yX2_scale ∈ zAll := zi_5 (List.mem_of_getElem? (i := 41) (by decide +kernel))
theorem zw_342 : Cond.code yX3_pack cX3_pack 6 (some .int) ∈ zAll := zi_5 (List.mem_of_getElem? (i := 42) (by rfl))
theorem zw_343 : Cond.fieldLink RX3 60 "SumHouse$Room" "top" "I" ∈ zAll := zi_5 (List.mem_of_getElem? (i := 43) (by decide +kernel))
theorem zw_344 : Cond.methodLink RX3 64 yX0_gcd ∈ zAll := zi_5 (List.mem_of_getElem? (i := 44) (by decide +kernel))
theorem zw_345 : Cond.instanceMethod yX0_gcd ∈ zAll := zi_5 (List.mem_of_getElem? (i := 45) (by decide +kernel))
theorem zw_346 : Cond.selects RX0 yX0_gcd yX0_gcd ∈ zAll := zi_5 (List.mem_of_getElem? (i := 46) (by decide +kernel))
theorem zw_347 : Cond.methodLink RX3 70 yX2_divide ∈ zAll := zi_5 (List.mem_of_getElem? (i := 47) (by decide +kernel))
theorem zw_348 : Cond.methodLink RX3 73 yX3_pack ∈ zAll := zi_5 (List.mem_of_getElem? (i := 48) (by decide +kernel))
theorem zw_349 : Cond.instanceMethod yX3_pack ∈ zAll := zi_5 (List.mem_of_getElem? (i := 49) (by decide +kernel))
theorem zw_350 : Cond.selects RX3 yX3_pack yX3_pack ∈ zAll := zi_5 (List.mem_of_getElem? (i := 50) (by decide +kernel))
theorem zw_351 : Cond.code yX3_reduced cX3_reduced 7 (some .int) ∈ zAll := zi_5 (List.mem_of_getElem? (i := 51) (by rfl))
theorem zw_352 : Cond.methodLink RX3 76 yX2_times ∈ zAll := zi_5 (List.mem_of_getElem? (i := 52) (by decide +kernel))
theorem zw_353 : Cond.code yX3_times cX3_times 8 (some .int) ∈ zAll := zi_5 (List.mem_of_getElem? (i := 53) (by rfl))
theorem zw_354 : Cond.methodLink RX3 79 yX4_copy ∈ zAll := zi_5 (List.mem_of_getElem? (i := 54) (by decide +kernel))
theorem zw_355 : Cond.code yX3_inverse cX3_inverse 4 (some .int) ∈ zAll := zi_5 (List.mem_of_getElem? (i := 55) (by rfl))
theorem zw_356 : Cond.methodLink RX3 90 yX4_settle ∈ zAll := zi_5 (List.mem_of_getElem? (i := 56) (by decide +kernel))
theorem zw_357 : Cond.code yX3_side cX3_side 6 (some .int) ∈ zAll := zi_5 (List.mem_of_getElem? (i := 57) (by rfl))
theorem zw_358 : Cond.methodLink RX3 82 Lib.Math.abs.name ∈ zAll := zi_5 (List.mem_of_getElem? (i := 58) (by decide +kernel))
theorem zw_359 : Cond.static Lib.Math.abs.name ∈ zAll := zi_5 (List.mem_of_getElem? (i := 59) (by decide +kernel))
theorem zw_360 : Cond.code Lib.Math.abs.name Lib.Math.abs.code 1 (some .int) ∈ zAll := zi_6 (List.mem_of_getElem? (i := 0) (by rfl))
theorem zw_361 : Cond.methodLink RX3 87 yX3_side ∈ zAll := zi_6 (List.mem_of_getElem? (i := 1) (by decide +kernel))
theorem zw_362 : Cond.instanceMethod yX3_side ∈ zAll := zi_6 (List.mem_of_getElem? (i := 2) (by decide +kernel))
theorem zw_363 : Cond.selects RX3 yX3_side yX3_side ∈ zAll := zi_6 (List.mem_of_getElem? (i := 3) (by decide +kernel))
theorem zw_364 : Cond.code yX3_power cX3_power 5 (some .int) ∈ zAll := zi_6 (List.mem_of_getElem? (i := 4) (by rfl))
theorem zw_365 : Cond.code yX4_init cX4_init 1 none ∈ zAll := zi_6 (List.mem_of_getElem? (i := 5) (by rfl))
theorem zw_366 : Cond.methodLink RX4 3 objectInit ∈ zAll := zi_6 (List.mem_of_getElem? (i := 6) (by decide +kernel))
theorem zw_367 : Cond.code yX4_empty cX4_empty 1 none ∈ zAll := zi_6 (List.mem_of_getElem? (i := 7) (by rfl))
theorem zw_368 : Cond.code yX5_init cX5_init 5 none ∈ zAll := zi_6 (List.mem_of_getElem? (i := 8) (by rfl))
theorem zw_369 : Cond.methodLink RX5 3 objectInit ∈ zAll := zi_6 (List.mem_of_getElem? (i := 9) (by decide +kernel))
theorem zw_370 : Cond.fieldLink RX5 9 "SumHouse$Sequences" "room" "LSumHouse$Room;" ∈ zAll := zi_6 (List.mem_of_getElem? (i := 10) (by decide +kernel))
theorem zw_371 : Cond.fieldLink RX5 15 "SumHouse$Sequences" "planes" "LSumHouse$Planes;" ∈ zAll := zi_6 (List.mem_of_getElem? (i := 11) (by decide +kernel))
theorem zw_372 : Cond.fieldLink RX5 19 "SumHouse$Sequences" "divisors" "LSumHouse$Divisors;" ∈ zAll := zi_6 (List.mem_of_getElem? (i := 12) (by decide +kernel))
theorem zw_373 : Cond.fieldLink RX5 23 "SumHouse$Sequences" "solver" "LSumHouse$Solver;" ∈ zAll := zi_6 (List.mem_of_getElem? (i := 13) (by decide +kernel))
theorem zw_374 : Cond.fieldLink RX5 27 "SumHouse$Sequences" "family" "[I" ∈ zAll := zi_6 (List.mem_of_getElem? (i := 14) (by decide +kernel))
theorem zw_375 : Cond.fieldLink RX5 31 "SumHouse$Sequences" "mine" "[I" ∈ zAll := zi_6 (List.mem_of_getElem? (i := 15) (by decide +kernel))
theorem zw_376 : Cond.fieldLink RX5 34 "SumHouse$Sequences" "other" "[I" ∈ zAll := zi_6 (List.mem_of_getElem? (i := 16) (by decide +kernel))
theorem zw_377 : Cond.fieldLink RX5 37 "SumHouse$Sequences" "left" "[I" ∈ zAll := zi_6 (List.mem_of_getElem? (i := 17) (by decide +kernel))
theorem zw_378 : Cond.fieldLink RX5 40 "SumHouse$Sequences" "right" "[I" ∈ zAll := zi_6 (List.mem_of_getElem? (i := 18) (by decide +kernel))
theorem zw_379 : Cond.code yX6_stepAt cX6_stepAt 6 (some .int) ∈ zAll := zi_6 (List.mem_of_getElem? (i := 19) (by rfl))
theorem zw_380 : Cond.constantLong RX6 58 (2147483647) ∈ zAll := zi_6 (List.mem_of_getElem? (i := 20) (by decide +kernel))
theorem zw_381 : Cond.code yX5_numbersOf cX5_numbersOf 8 none ∈ zAll := zi_6 (List.mem_of_getElem? (i := 21) (by rfl))
theorem zw_382 : Cond.fieldLink RX5 47 "SumHouse$Slot" "order" "I" ∈ zAll := zi_6 (List.mem_of_getElem? (i := 22) (by decide +kernel))
theorem zw_383 : Cond.fieldLink RX5 53 "SumHouse$Slot" "has" "I" ∈ zAll := zi_6 (List.mem_of_getElem? (i := 23) (by decide +kernel))
theorem zw_384 : Cond.fieldLink RX5 56 "SumHouse$Slot" "firsts" "[I" ∈ zAll := zi_6 (List.mem_of_getElem? (i := 24) (by decide +kernel))
theorem zw_385 : Cond.methodLink RX5 59 yX6_stepAt ∈ zAll := zi_6 (List.mem_of_getElem? (i := 25) (by decide +kernel))
theorem zw_386 : Cond.instanceMethod yX6_stepAt ∈ zAll := zi_6 (List.mem_of_getElem? (i := 26) (by decide +kernel))
theorem zw_387 : Cond.selects RX6 yX6_stepAt yX6_stepAt ∈ zAll := zi_6 (List.mem_of_getElem? (i := 27) (by decide +kernel))
theorem zw_388 : Cond.methodLink RX5 63 yX1_times ∈ zAll := zi_6 (List.mem_of_getElem? (i := 28) (by decide +kernel))
theorem zw_389 : Cond.methodLink RX5 68 yX1_plus ∈ zAll := zi_6 (List.mem_of_getElem? (i := 29) (by decide +kernel))
theorem zw_390 : Cond.methodLink RX5 71 yX1_inverse ∈ zAll := zi_6 (List.mem_of_getElem? (i := 30) (by decide +kernel))
theorem zw_391 : Cond.methodLink RX5 75 yX1_minus ∈ zAll := zi_6 (List.mem_of_getElem? (i := 31) (by decide +kernel))
theorem zw_392 : Cond.methodLink RX5 43 yX5_numbersOf ∈ zAll := zi_6 (List.mem_of_getElem? (i := 32) (by decide +kernel))
theorem zw_393 : Cond.instanceMethod yX5_numbersOf ∈ zAll := zi_6 (List.mem_of_getElem? (i := 33) (by decide +kernel))
theorem zw_394 : Cond.selects RX5 yX5_numbersOf yX5_numbersOf ∈ zAll := zi_6 (List.mem_of_getElem? (i := 34) (by decide +kernel))
theorem zw_395 : Cond.initialized RX5 ∈ zAll := zi_6 (List.mem_of_getElem? (i := 35) (by decide +kernel))
theorem zw_396 : Cond.code yX5_member cX5_member 3 (some .int) ∈ zAll := zi_6 (List.mem_of_getElem? (i := 36) (by rfl))
theorem zw_397 : Cond.code yX5_needsOf cX5_needsOf 5 (some .int) ∈ zAll := zi_6 (List.mem_of_getElem? (i := 37) (by rfl))
theorem zw_398 : Cond.methodLink RX5 78 Lib.Math.min.name ∈ zAll := zi_6 (List.mem_of_getElem? (i := 38) (by decide +kernel))
theorem zw_399 : Cond.methodLink RX5 83 yX4_width ∈ zAll := zi_6 (List.mem_of_getElem? (i := 39) (by decide +kernel))
theorem zw_400 : Cond.methodLink RX5 88 yX4_horner ∈ zAll := zi_6 (List.mem_of_getElem? (i := 40) (by decide +kernel))
theorem zw_401 : Cond.code yX6_wipe cX6_wipe 1 none ∈ zAll := zi_6 (List.mem_of_getElem? (i := 41) (by rfl))
theorem zw_402 : Cond.fieldLink RX6 27 "SumHouse$Slot" "kind" "I" ∈ zAll := zi_6 (List.mem_of_getElem? (i := 42) (by decide +kernel))
theorem zw_403 : Cond.fieldLink RX6 31 "SumHouse$Slot" "x" "I" ∈ zAll := zi_6 (List.mem_of_getElem? (i := 43) (by decide +kernel))
theorem zw_404 : Cond.fieldLink RX6 34 "SumHouse$Slot" "y" "I" ∈ zAll := zi_6 (List.mem_of_getElem? (i := 44) (by decide +kernel))
theorem zw_405 : Cond.fieldLink RX6 37 "SumHouse$Slot" "factorials" "I" ∈ zAll := zi_6 (List.mem_of_getElem? (i := 45) (by decide +kernel))
theorem zw_406 : Cond.fieldLink RX6 40 "SumHouse$Slot" "order" "I" ∈ zAll := zi_6 (List.mem_of_getElem? (i := 46) (by decide +kernel))
theorem zw_407 : Cond.fieldLink RX6 43 "SumHouse$Slot" "needs" "I" ∈ zAll := zi_6 (List.mem_of_getElem? (i := 47) (by decide +kernel))
theorem zw_408 : Cond.fieldLink RX6 46 "SumHouse$Slot" "has" "I" ∈ zAll := zi_6 (List.mem_of_getElem? (i := 48) (by decide +kernel))
theorem zw_409 : Cond.fieldLink RX5 95 "SumHouse$Slot" "kind" "I" ∈ zAll := zi_6 (List.mem_of_getElem? (i := 49) (by decide +kernel))
theorem zw_410 : Cond.fieldLink RX5 98 "SumHouse$Slot" "needs" "I" ∈ zAll := zi_6 (List.mem_of_getElem? (i := 50) (by decide +kernel))
theorem zw_411 : Cond.methodLink RX5 92 yX6_wipe ∈ zAll := zi_6 (List.mem_of_getElem? (i := 51) (by decide +kernel))
theorem zw_412 : Cond.instanceMethod yX6_wipe ∈ zAll := zi_6 (List.mem_of_getElem? (i := 52) (by decide +kernel))
theorem zw_413 : Cond.selects RX6 yX6_wipe yX6_wipe ∈ zAll := zi_6 (List.mem_of_getElem? (i := 53) (by decide +kernel))
theorem zw_414 : Cond.methodLink RX5 101 yX2_saveStep ∈ zAll := zi_6 (List.mem_of_getElem? (i := 54) (by decide +kernel))
theorem zw_415 : Cond.instanceMethod yX2_saveStep ∈ zAll := zi_6 (List.mem_of_getElem? (i := 55) (by decide +kernel))
theorem zw_416 : Cond.selects RX2 yX2_saveStep yX2_saveStep ∈ zAll := zi_6 (List.mem_of_getElem? (i := 56) (by decide +kernel))
theorem zw_417 : Cond.code yX5_save cX5_save 6 none ∈ zAll := zi_6 (List.mem_of_getElem? (i := 57) (by rfl))
theorem zw_418 : Cond.methodLink RX5 107 yX2_loadStep ∈ zAll := zi_6 (List.mem_of_getElem? (i := 58) (by decide +kernel))
theorem zw_419 : Cond.instanceMethod yX2_loadStep ∈ zAll := zi_6 (List.mem_of_getElem? (i := 59) (by decide +kernel))
theorem zw_420 : Cond.selects RX2 yX2_loadStep yX2_loadStep ∈ zAll := zi_7 (List.mem_of_getElem? (i := 0) (by decide +kernel))
theorem zw_421 : Cond.methodLink RX5 111 yX4_isZero ∈ zAll := zi_7 (List.mem_of_getElem? (i := 1) (by decide +kernel))
theorem zw_422 : Cond.methodLink RX5 115 yX0_cleaned ∈ zAll := zi_7 (List.mem_of_getElem? (i := 2) (by decide +kernel))
theorem zw_423 : Cond.instanceMethod yX0_cleaned ∈ zAll := zi_7 (List.mem_of_getElem? (i := 3) (by decide +kernel))
theorem zw_424 : Cond.selects RX0 yX0_cleaned yX0_cleaned ∈ zAll := zi_7 (List.mem_of_getElem? (i := 4) (by decide +kernel))
theorem zw_425 : Cond.methodLink RX5 121 yX5_needsOf ∈ zAll := zi_7 (List.mem_of_getElem? (i := 5) (by decide +kernel))
theorem zw_426 : Cond.instanceMethod yX5_needsOf ∈ zAll := zi_7 (List.mem_of_getElem? (i := 6) (by decide +kernel))
theorem zw_427 : Cond.selects RX5 yX5_needsOf yX5_needsOf ∈ zAll := zi_7 (List.mem_of_getElem? (i := 7) (by decide +kernel))
theorem zw_428 : Cond.methodLink RX5 124 yX5_save ∈ zAll := zi_7 (List.mem_of_getElem? (i := 8) (by decide +kernel))
theorem zw_429 : Cond.instanceMethod yX5_save ∈ zAll := zi_7 (List.mem_of_getElem? (i := 9) (by decide +kernel))
theorem zw_430 : Cond.selects RX5 yX5_save yX5_save ∈ zAll := zi_7 (List.mem_of_getElem? (i := 10) (by decide +kernel))
theorem zw_431 : Cond.code yX5_fromRecord cX5_fromRecord 5 (some .int) ∈ zAll := zi_7 (List.mem_of_getElem? (i := 11) (by rfl))
theorem zw_432 : Cond.methodLink RX5 128 Lib.Math.max.name ∈ zAll := zi_7 (List.mem_of_getElem? (i := 12) (by decide +kernel))
theorem zw_433 : Cond.code yX5_joinedRow cX5_joinedRow 5 (some .int) ∈ zAll := zi_7 (List.mem_of_getElem? (i := 13) (by rfl))
theorem zw_434 : Cond.constant RX5 135 (2147483646) ∈ zAll := zi_7 (List.mem_of_getElem? (i := 14) (by decide +kernel))
theorem zw_435 : Cond.methodLink RX5 131 yX2_slideN ∈ zAll := zi_7 (List.mem_of_getElem? (i := 15) (by decide +kernel))
theorem zw_436 : Cond.methodLink RX5 136 yX2_plus ∈ zAll := zi_7 (List.mem_of_getElem? (i := 16) (by decide +kernel))
theorem zw_437 : Cond.instanceMethod yX2_plus ∈ zAll := zi_7 (List.mem_of_getElem? (i := 17) (by decide +kernel))
theorem zw_438 : Cond.selects RX2 yX2_plus yX2_plus ∈ zAll := zi_7 (List.mem_of_getElem? (i := 18) (by decide +kernel))
theorem zw_439 : Cond.methodLink RX5 138 yX2_scale ∈ zAll := zi_7 (List.mem_of_getElem? (i := 19) (by decide +kernel))
theorem zw_440 : Cond.methodLink RX5 141 yX5_joinedRow ∈ zAll := zi_7 (List.mem_of_getElem? (i := 20) (by decide +kernel))
theorem zw_441 : Cond.instanceMethod yX5_joinedRow ∈ zAll := zi_7 (List.mem_of_getElem? (i := 21) (by decide +kernel))
theorem zw_442 : Cond.selects RX5 yX5_joinedRow yX5_joinedRow ∈ zAll := zi_7 (List.mem_of_getElem? (i := 22) (by decide +kernel))
theorem zw_443 : Cond.code yX5_moved cX5_moved 6 (some .int) ∈ zAll := zi_7 (List.mem_of_getElem? (i := 23) (by rfl))
theorem zw_444 : Cond.code yX5_degreeOf cX5_degreeOf 4 (some .int) ∈ zAll := zi_7 (List.mem_of_getElem? (i := 24) (by rfl))
theorem zw_445 : Cond.methodLink RX5 188 yX6_stepNumber ∈ zAll := zi_7 (List.mem_of_getElem? (i := 25) (by decide +kernel))
theorem zw_446 : Cond.code yX6_wide cX6_wide 2 (some .int) ∈ zAll := zi_7 (List.mem_of_getElem? (i := 26) (by rfl))
theorem zw_447 : Cond.fieldLink RX6 15 "SumHouse$Slot" "above" "[I" ∈ zAll := zi_7 (List.mem_of_getElem? (i := 27) (by decide +kernel))
theorem zw_448 : Cond.fieldLink RX6 18 "SumHouse$Slot" "below" "[I" ∈ zAll := zi_7 (List.mem_of_getElem? (i := 28) (by decide +kernel))
theorem zw_449 : Cond.methodLink RX6 49 Lib.Math.min.name ∈ zAll := zi_7 (List.mem_of_getElem? (i := 29) (by decide +kernel))
theorem zw_450 : Cond.methodLink RX7 25 Lib.Math.min.name ∈ zAll := zi_7 (List.mem_of_getElem? (i := 30) (by decide +kernel))
theorem zw_451 : Cond.methodLink RX7 31 Lib.Math.max.name ∈ zAll := zi_7 (List.mem_of_getElem? (i := 31) (by decide +kernel))
theorem zw_452 : Cond.fieldLink RX7 34 "SumHouse$Solver" "rows" "I" ∈ zAll := zi_7 (List.mem_of_getElem? (i := 32) (by decide +kernel))
theorem zw_453 : Cond.fieldLink RX7 38 "SumHouse$Solver" "cols" "I" ∈ zAll := zi_7 (List.mem_of_getElem? (i := 33) (by decide +kernel))
theorem zw_454 : Cond.fieldLink RX7 41 "SumHouse$Solver" "from" "I" ∈ zAll := zi_7 (List.mem_of_getElem? (i := 34) (by decide +kernel))
theorem zw_455 : Cond.fieldLink RX7 44 "SumHouse$Solver" "need" "I" ∈ zAll := zi_7 (List.mem_of_getElem? (i := 35) (by decide +kernel))
theorem zw_456 : Cond.fieldLink RX7 47 "SumHouse$Solver" "points" "I" ∈ zAll := zi_7 (List.mem_of_getElem? (i := 36) (by decide +kernel))
theorem zw_457 : Cond.fieldLink RX7 50 "SumHouse$Solver" "rank" "I" ∈ zAll := zi_7 (List.mem_of_getElem? (i := 37) (by decide +kernel))
theorem zw_458 : Cond.fieldLink RX7 53 "SumHouse$Solver" "done" "Z" ∈ zAll := zi_7 (List.mem_of_getElem? (i := 38) (by decide +kernel))
theorem zw_459 : Cond.fieldLink RX7 57 "SumHouse$Solver" "target" "I" ∈ zAll := zi_7 (List.mem_of_getElem? (i := 39) (by decide +kernel))
theorem zw_460 : Cond.fieldLink RX7 9 "SumHouse$Solver" "room" "LSumHouse$Room;" ∈ zAll := zi_7 (List.mem_of_getElem? (i := 40) (by decide +kernel))
theorem zw_461 : Cond.fieldLink RX7 65 "SumHouse$Solver" "woven" "I" ∈ zAll := zi_7 (List.mem_of_getElem? (i := 41) (by decide +kernel))
theorem zw_462 : Cond.fieldLink RX7 72 "SumHouse$Solver" "values" "I" ∈ zAll := zi_7 (List.mem_of_getElem? (i := 42) (by decide +kernel))
theorem zw_463 : Cond.fieldLink RX7 19 "SumHouse$Solver" "order" "[I" ∈ zAll := zi_7 (List.mem_of_getElem? (i := 43) (by decide +kernel))
theorem zw_464 : Cond.methodLink RX7 60 yX4_weaveStart ∈ zAll := zi_7 (List.mem_of_getElem? (i := 44) (by decide +kernel))
theorem zw_465 : Cond.methodLink RX7 68 yX4_take ∈ zAll := zi_7 (List.mem_of_getElem? (i := 45) (by decide +kernel))
theorem zw_466 : Cond.code yX7_begin cX7_begin 7 none ∈ zAll := zi_7 (List.mem_of_getElem? (i := 46) (by rfl))
theorem zw_467 : Cond.code yX5_unfold cX5_unfold 14 (some .boolean) ∈ zAll := zi_7 (List.mem_of_getElem? (i := 47) (by rfl))
theorem zw_468 : Cond.code yX6_tall cX6_tall 2 (some .int) ∈ zAll := zi_7 (List.mem_of_getElem? (i := 48) (by rfl))
theorem zw_469 : Cond.code yX6_ratioNumber cX6_ratioNumber 4 (some .int) ∈ zAll := zi_7 (List.mem_of_getElem? (i := 49) (by rfl))
theorem zw_470 : Cond.code yX6_sideAt cX6_sideAt 10 (some .int) ∈ zAll := zi_7 (List.mem_of_getElem? (i := 50) (by rfl))
theorem zw_471 : Cond.methodLink RX6 60 yX6_tall ∈ zAll := zi_7 (List.mem_of_getElem? (i := 51) (by decide +kernel))
theorem zw_472 : Cond.instanceMethod yX6_tall ∈ zAll := zi_7 (List.mem_of_getElem? (i := 52) (by decide +kernel))
theorem zw_473 : Cond.selects RX6 yX6_tall yX6_tall ∈ zAll := zi_7 (List.mem_of_getElem? (i := 53) (by decide +kernel))
theorem zw_474 : Cond.methodLink RX6 64 yX6_wide ∈ zAll := zi_7 (List.mem_of_getElem? (i := 54) (by decide +kernel))
theorem zw_475 : Cond.instanceMethod yX6_wide ∈ zAll := zi_7 (List.mem_of_getElem? (i := 55) (by decide +kernel))
theorem zw_476 : Cond.selects RX6 yX6_wide yX6_wide ∈ zAll := zi_7 (List.mem_of_getElem? (i := 56) (by decide +kernel))
theorem zw_477 : Cond.methodLink RX6 67 yX6_ratioNumber ∈ zAll := zi_7 (List.mem_of_getElem? (i := 57) (by decide +kernel))
theorem zw_478 : Cond.instanceMethod yX6_ratioNumber ∈ zAll := zi_7 (List.mem_of_getElem? (i := 58) (by decide +kernel))
theorem zw_479 : Cond.selects RX6 yX6_ratioNumber yX6_ratioNumber ∈ zAll := zi_7 (List.mem_of_getElem? (i := 59) (by decide +kernel))
theorem zw_480 : Cond.code yX7_put cX7_put 4 none ∈ zAll := zi_8 (List.mem_of_getElem? (i := 0) (by rfl))
theorem zw_481 : Cond.fieldLink RX7 15 "SumHouse$Solver" "matrix" "[I" ∈ zAll := zi_8 (List.mem_of_getElem? (i := 1) (by decide +kernel))
theorem zw_482 : Cond.methodLink RX5 185 yX6_sideAt ∈ zAll := zi_8 (List.mem_of_getElem? (i := 2) (by decide +kernel))
theorem zw_483 : Cond.instanceMethod yX6_sideAt ∈ zAll := zi_8 (List.mem_of_getElem? (i := 3) (by decide +kernel))
theorem zw_484 : Cond.selects RX6 yX6_sideAt yX6_sideAt ∈ zAll := zi_8 (List.mem_of_getElem? (i := 4) (by decide +kernel))
theorem zw_485 : Cond.methodLink RX5 191 yX7_put ∈ zAll := zi_8 (List.mem_of_getElem? (i := 5) (by decide +kernel))
theorem zw_486 : Cond.instanceMethod yX7_put ∈ zAll := zi_8 (List.mem_of_getElem? (i := 6) (by decide +kernel))
theorem zw_487 : Cond.selects RX7 yX7_put yX7_put ∈ zAll := zi_8 (List.mem_of_getElem? (i := 7) (by decide +kernel))
theorem zw_488 : Cond.initialized RX7 ∈ zAll := zi_8 (List.mem_of_getElem? (i := 8) (by decide +kernel))
theorem zw_489 : Cond.code yX5_putColumns cX5_putColumns 13 none ∈ zAll := zi_8 (List.mem_of_getElem? (i := 9) (by rfl))
theorem zw_490 : Cond.code yX7_entry cX7_entry 3 (some .int) ∈ zAll := zi_8 (List.mem_of_getElem? (i := 10) (by rfl))
theorem zw_491 : Cond.code yX7_search cX7_search 4 (some .int) ∈ zAll := zi_8 (List.mem_of_getElem? (i := 11) (by rfl))
theorem zw_492 : Cond.methodLink RX7 78 yX7_entry ∈ zAll := zi_8 (List.mem_of_getElem? (i := 12) (by decide +kernel))
theorem zw_493 : Cond.instanceMethod yX7_entry ∈ zAll := zi_8 (List.mem_of_getElem? (i := 13) (by decide +kernel))
theorem zw_494 : Cond.selects RX7 yX7_entry yX7_entry ∈ zAll := zi_8 (List.mem_of_getElem? (i := 14) (by decide +kernel))
theorem zw_495 : Cond.code yX7_eliminate cX7_eliminate 8 none ∈ zAll := zi_8 (List.mem_of_getElem? (i := 15) (by rfl))
theorem zw_496 : Cond.constant RX7 101 (2147483647) ∈ zAll := zi_8 (List.mem_of_getElem? (i := 16) (by decide +kernel))
theorem zw_497 : Cond.constantLong RX7 105 (2147483647) ∈ zAll := zi_8 (List.mem_of_getElem? (i := 17) (by decide +kernel))
theorem zw_498 : Cond.methodLink RX7 96 yX1_inverse ∈ zAll := zi_8 (List.mem_of_getElem? (i := 18) (by decide +kernel))
theorem zw_499 : Cond.methodLink RX7 102 yX1_times ∈ zAll := zi_8 (List.mem_of_getElem? (i := 19) (by decide +kernel))
theorem zw_500 : Cond.fieldLink RX7 22 "SumHouse$Solver" "pivots" "[I" ∈ zAll := zi_8 (List.mem_of_getElem? (i := 20) (by decide +kernel))
theorem zw_501 : Cond.methodLink RX7 107 yX4_get ∈ zAll := zi_8 (List.mem_of_getElem? (i := 21) (by decide +kernel))
theorem zw_502 : Cond.methodLink RX7 110 yX1_minus ∈ zAll := zi_8 (List.mem_of_getElem? (i := 22) (by decide +kernel))
theorem zw_503 : Cond.methodLink RX7 113 yX4_put ∈ zAll := zi_8 (List.mem_of_getElem? (i := 23) (by decide +kernel))
theorem zw_504 : Cond.methodLink RX7 116 yX4_scale ∈ zAll := zi_8 (List.mem_of_getElem? (i := 24) (by decide +kernel))
theorem zw_505 : Cond.code yX7_solveAt cX7_solveAt 6 none ∈ zAll := zi_8 (List.mem_of_getElem? (i := 25) (by rfl))
theorem zw_506 : Cond.methodLink RX7 75 yX7_search ∈ zAll := zi_8 (List.mem_of_getElem? (i := 26) (by decide +kernel))
theorem zw_507 : Cond.instanceMethod yX7_search ∈ zAll := zi_8 (List.mem_of_getElem? (i := 27) (by decide +kernel))
theorem zw_508 : Cond.selects RX7 yX7_search yX7_search ∈ zAll := zi_8 (List.mem_of_getElem? (i := 28) (by decide +kernel))
theorem zw_509 : Cond.methodLink RX7 81 yX7_eliminate ∈ zAll := zi_8 (List.mem_of_getElem? (i := 29) (by decide +kernel))
theorem zw_510 : Cond.instanceMethod yX7_eliminate ∈ zAll := zi_8 (List.mem_of_getElem? (i := 30) (by decide +kernel))
theorem zw_511 : Cond.selects RX7 yX7_eliminate yX7_eliminate ∈ zAll := zi_8 (List.mem_of_getElem? (i := 31) (by decide +kernel))
theorem zw_512 : Cond.methodLink RX7 85 yX4_weaveAgain ∈ zAll := zi_8 (List.mem_of_getElem? (i := 32) (by decide +kernel))
theorem zw_513 : Cond.methodLink RX7 89 yX7_solveAt ∈ zAll := zi_8 (List.mem_of_getElem? (i := 33) (by decide +kernel))
theorem zw_514 : Cond.instanceMethod yX7_solveAt ∈ zAll := zi_8 (List.mem_of_getElem? (i := 34) (by decide +kernel))
theorem zw_515 : Cond.selects RX7 yX7_solveAt yX7_solveAt ∈ zAll := zi_8 (List.mem_of_getElem? (i := 35) (by decide +kernel))
theorem zw_516 : Cond.methodLink RX7 92 yX4_weave ∈ zAll := zi_8 (List.mem_of_getElem? (i := 36) (by decide +kernel))
theorem zw_517 : Cond.code yX7_point cX7_point 9 none ∈ zAll := zi_8 (List.mem_of_getElem? (i := 37) (by rfl))
theorem zw_518 : Cond.methodLink RX7 120 yX4_constant ∈ zAll := zi_8 (List.mem_of_getElem? (i := 38) (by decide +kernel))
theorem zw_519 : Cond.methodLink RX7 123 yX4_block ∈ zAll := zi_8 (List.mem_of_getElem? (i := 39) (by decide +kernel))
theorem zw_520 : Cond.methodLink RX7 126 yX4_wovenRow ∈ zAll := zi_8 (List.mem_of_getElem? (i := 40) (by decide +kernel))
theorem zw_521 : Cond.methodLink RX7 129 yX4_move ∈ zAll := zi_8 (List.mem_of_getElem? (i := 41) (by decide +kernel))
theorem zw_522 : Cond.methodLink RX7 132 yX4_trim ∈ zAll := zi_8 (List.mem_of_getElem? (i := 42) (by decide +kernel))
theorem zw_523 : Cond.code yX7_factorOf cX7_factorOf 4 (some .int) ∈ zAll := zi_8 (List.mem_of_getElem? (i := 43) (by rfl))
theorem zw_524 : Cond.constant RX5 158 (3456789) ∈ zAll := zi_8 (List.mem_of_getElem? (i := 44) (by decide +kernel))
theorem zw_525 : Cond.constant RX5 159 (3556789) ∈ zAll := zi_8 (List.mem_of_getElem? (i := 45) (by decide +kernel))
theorem zw_526 : Cond.fieldLink RX5 160 "SumHouse$Solver" "done" "Z" ∈ zAll := zi_8 (List.mem_of_getElem? (i := 46) (by decide +kernel))
theorem zw_527 : Cond.fieldLink RX5 164 "SumHouse$Room" "full" "Z" ∈ zAll := zi_8 (List.mem_of_getElem? (i := 47) (by decide +kernel))
theorem zw_528 : Cond.fieldLink RX5 179 "SumHouse$Solver" "target" "I" ∈ zAll := zi_8 (List.mem_of_getElem? (i := 48) (by decide +kernel))
theorem zw_529 : Cond.methodLink RX5 145 yX5_degreeOf ∈ zAll := zi_8 (List.mem_of_getElem? (i := 49) (by decide +kernel))
theorem zw_530 : Cond.static yX5_degreeOf ∈ zAll := zi_8 (List.mem_of_getElem? (i := 50) (by decide +kernel))
theorem zw_531 : Cond.methodLink RX5 149 yX6_wide ∈ zAll := zi_8 (List.mem_of_getElem? (i := 51) (by decide +kernel))
theorem zw_532 : Cond.methodLink RX5 152 yX7_begin ∈ zAll := zi_8 (List.mem_of_getElem? (i := 52) (by decide +kernel))
theorem zw_533 : Cond.instanceMethod yX7_begin ∈ zAll := zi_8 (List.mem_of_getElem? (i := 53) (by decide +kernel))
theorem zw_534 : Cond.selects RX7 yX7_begin yX7_begin ∈ zAll := zi_8 (List.mem_of_getElem? (i := 54) (by decide +kernel))
theorem zw_535 : Cond.methodLink RX5 167 yX5_unfold ∈ zAll := zi_8 (List.mem_of_getElem? (i := 55) (by decide +kernel))
theorem zw_536 : Cond.instanceMethod yX5_unfold ∈ zAll := zi_8 (List.mem_of_getElem? (i := 56) (by decide +kernel))
theorem zw_537 : Cond.selects RX5 yX5_unfold yX5_unfold ∈ zAll := zi_8 (List.mem_of_getElem? (i := 57) (by decide +kernel))
theorem zw_538 : Cond.methodLink RX5 171 yX5_putColumns ∈ zAll := zi_8 (List.mem_of_getElem? (i := 58) (by decide +kernel))
theorem zw_539 : Cond.instanceMethod yX5_putColumns ∈ zAll := zi_8 (List.mem_of_getElem? (i := 59) (by decide +kernel))
theorem zw_540 : Cond.selects RX5 yX5_putColumns yX5_putColumns ∈ zAll := zi_9 (List.mem_of_getElem? (i := 0) (by decide +kernel))
theorem zw_541 : Cond.methodLink RX5 175 yX7_point ∈ zAll := zi_9 (List.mem_of_getElem? (i := 1) (by decide +kernel))
theorem zw_542 : Cond.instanceMethod yX7_point ∈ zAll := zi_9 (List.mem_of_getElem? (i := 2) (by decide +kernel))
theorem zw_543 : Cond.selects RX7 yX7_point yX7_point ∈ zAll := zi_9 (List.mem_of_getElem? (i := 3) (by decide +kernel))
theorem zw_544 : Cond.methodLink RX5 182 yX7_factorOf ∈ zAll := zi_9 (List.mem_of_getElem? (i := 4) (by decide +kernel))
theorem zw_545 : Cond.instanceMethod yX7_factorOf ∈ zAll := zi_9 (List.mem_of_getElem? (i := 5) (by decide +kernel))
theorem zw_546 : Cond.selects RX7 yX7_factorOf yX7_factorOf ∈ zAll := zi_9 (List.mem_of_getElem? (i := 6) (by decide +kernel))
theorem zw_547 : Cond.code yX5_joined cX5_joined 13 (some .int) ∈ zAll := zi_9 (List.mem_of_getElem? (i := 7) (by rfl))
theorem zw_548 : Cond.code yX5_isGuess cX5_isGuess 9 (some .boolean) ∈ zAll := zi_9 (List.mem_of_getElem? (i := 8) (by rfl))
theorem zw_549 : Cond.fieldLink RX5 209 "SumHouse$Room" "top" "I" ∈ zAll := zi_9 (List.mem_of_getElem? (i := 9) (by decide +kernel))
theorem zw_550 : Cond.methodLink RX5 206 yX4_block ∈ zAll := zi_9 (List.mem_of_getElem? (i := 10) (by decide +kernel))
theorem zw_551 : Cond.methodLink RX5 212 yX4_get ∈ zAll := zi_9 (List.mem_of_getElem? (i := 11) (by decide +kernel))
theorem zw_552 : Cond.methodLink RX5 215 yX4_release ∈ zAll := zi_9 (List.mem_of_getElem? (i := 12) (by decide +kernel))
theorem zw_553 : Cond.methodLink RX5 218 yX4_put ∈ zAll := zi_9 (List.mem_of_getElem? (i := 13) (by decide +kernel))
theorem zw_554 : Cond.methodLink RX5 220 yX4_trim ∈ zAll := zi_9 (List.mem_of_getElem? (i := 14) (by decide +kernel))
theorem zw_555 : Cond.code yX5_guessRow cX5_guessRow 10 (some .int) ∈ zAll := zi_9 (List.mem_of_getElem? (i := 15) (by rfl))
theorem zw_556 : Cond.methodLink RX5 195 yX4_empty ∈ zAll := zi_9 (List.mem_of_getElem? (i := 16) (by decide +kernel))
theorem zw_557 : Cond.instanceMethod yX4_empty ∈ zAll := zi_9 (List.mem_of_getElem? (i := 17) (by decide +kernel))
theorem zw_558 : Cond.selects RX4 yX4_empty yX4_empty ∈ zAll := zi_9 (List.mem_of_getElem? (i := 18) (by decide +kernel))
theorem zw_559 : Cond.methodLink RX5 198 yX5_isGuess ∈ zAll := zi_9 (List.mem_of_getElem? (i := 19) (by decide +kernel))
theorem zw_560 : Cond.instanceMethod yX5_isGuess ∈ zAll := zi_9 (List.mem_of_getElem? (i := 20) (by decide +kernel))
theorem zw_561 : Cond.selects RX5 yX5_isGuess yX5_isGuess ∈ zAll := zi_9 (List.mem_of_getElem? (i := 21) (by decide +kernel))
theorem zw_562 : Cond.methodLink RX5 202 yX5_guessRow ∈ zAll := zi_9 (List.mem_of_getElem? (i := 22) (by decide +kernel))
theorem zw_563 : Cond.instanceMethod yX5_guessRow ∈ zAll := zi_9 (List.mem_of_getElem? (i := 23) (by decide +kernel))
theorem zw_564 : Cond.selects RX5 yX5_guessRow yX5_guessRow ∈ zAll := zi_9 (List.mem_of_getElem? (i := 24) (by decide +kernel))
theorem zw_565 : Cond.code yX5_guessed cX5_guessed 6 (some .int) ∈ zAll := zi_9 (List.mem_of_getElem? (i := 25) (by rfl))
theorem zw_566 : Cond.code yX6_init cX6_init 1 none ∈ zAll := zi_9 (List.mem_of_getElem? (i := 26) (by rfl))
theorem zw_567 : Cond.methodLink RX6 5 objectInit ∈ zAll := zi_9 (List.mem_of_getElem? (i := 27) (by decide +kernel))
theorem zw_568 : Cond.fieldLink RX6 11 "SumHouse$Slot" "facts" "[I" ∈ zAll := zi_9 (List.mem_of_getElem? (i := 28) (by decide +kernel))
theorem zw_569 : Cond.fieldLink RX6 24 "SumHouse$Slot" "firsts" "[I" ∈ zAll := zi_9 (List.mem_of_getElem? (i := 29) (by decide +kernel))
theorem zw_570 : Cond.code yX6_fact cX6_fact 3 (some .int) ∈ zAll := zi_9 (List.mem_of_getElem? (i := 30) (by rfl))
theorem zw_571 : Cond.code yX6_putAbove cX6_putAbove 4 none ∈ zAll := zi_9 (List.mem_of_getElem? (i := 31) (by rfl))
theorem zw_572 : Cond.methodLink RX6 55 Lib.Math.max.name ∈ zAll := zi_9 (List.mem_of_getElem? (i := 32) (by decide +kernel))
theorem zw_573 : Cond.code yX6_isZero cX6_isZero 1 (some .boolean) ∈ zAll := zi_9 (List.mem_of_getElem? (i := 33) (by rfl))
theorem zw_574 : Cond.code yX6_isWhole cX6_isWhole 1 (some .boolean) ∈ zAll := zi_9 (List.mem_of_getElem? (i := 34) (by rfl))
theorem zw_575 : Cond.code yX6_isFreeOfK cX6_isFreeOfK 1 (some .boolean) ∈ zAll := zi_9 (List.mem_of_getElem? (i := 35) (by rfl))
theorem zw_576 : Cond.code yX6_addFirst cX6_addFirst 2 (some .int) ∈ zAll := zi_9 (List.mem_of_getElem? (i := 36) (by rfl))
theorem zw_577 : Cond.code yX7_init cX7_init 2 none ∈ zAll := zi_9 (List.mem_of_getElem? (i := 37) (by rfl))
theorem zw_578 : Cond.methodLink RX7 3 objectInit ∈ zAll := zi_9 (List.mem_of_getElem? (i := 38) (by decide +kernel))
theorem zw_579 : Cond.methodLink RX7 135 yX4_rowOf ∈ zAll := zi_9 (List.mem_of_getElem? (i := 39) (by decide +kernel))
theorem zw_580 : Cond.code yX7_factorsBelow cX7_factorsBelow 4 (some .int) ∈ zAll := zi_9 (List.mem_of_getElem? (i := 40) (by rfl))
theorem zw_581 : Cond.code yX8_init cX8_init 7 none ∈ zAll := zi_9 (List.mem_of_getElem? (i := 41) (by rfl))
theorem zw_582 : Cond.methodLink RX8 3 objectInit ∈ zAll := zi_9 (List.mem_of_getElem? (i := 42) (by decide +kernel))
theorem zw_583 : Cond.fieldLink RX8 9 "SumHouse$Sums" "room" "LSumHouse$Room;" ∈ zAll := zi_9 (List.mem_of_getElem? (i := 43) (by decide +kernel))
theorem zw_584 : Cond.fieldLink RX8 15 "SumHouse$Sums" "planes" "LSumHouse$Planes;" ∈ zAll := zi_9 (List.mem_of_getElem? (i := 44) (by decide +kernel))
theorem zw_585 : Cond.fieldLink RX8 19 "SumHouse$Sums" "divisors" "LSumHouse$Divisors;" ∈ zAll := zi_9 (List.mem_of_getElem? (i := 45) (by decide +kernel))
theorem zw_586 : Cond.fieldLink RX8 23 "SumHouse$Sums" "ratios" "LSumHouse$Ratios;" ∈ zAll := zi_9 (List.mem_of_getElem? (i := 46) (by decide +kernel))
theorem zw_587 : Cond.fieldLink RX8 27 "SumHouse$Sums" "terms" "LSumHouse$Terms;" ∈ zAll := zi_9 (List.mem_of_getElem? (i := 47) (by decide +kernel))
theorem zw_588 : Cond.fieldLink RX8 31 "SumHouse$Sums" "solver" "LSumHouse$Solver;" ∈ zAll := zi_9 (List.mem_of_getElem? (i := 48) (by decide +kernel))
theorem zw_589 : Cond.fieldLink RX8 35 "SumHouse$Sums" "steps" "[I" ∈ zAll := zi_9 (List.mem_of_getElem? (i := 49) (by decide +kernel))
theorem zw_590 : Cond.fieldLink RX8 39 "SumHouse$Sums" "pieces" "[I" ∈ zAll := zi_9 (List.mem_of_getElem? (i := 50) (by decide +kernel))
theorem zw_591 : Cond.fieldLink RX8 42 "SumHouse$Sums" "family" "[I" ∈ zAll := zi_9 (List.mem_of_getElem? (i := 51) (by decide +kernel))
theorem zw_592 : Cond.fieldLink RX8 45 "SumHouse$Sums" "columns" "[I" ∈ zAll := zi_9 (List.mem_of_getElem? (i := 52) (by decide +kernel))
theorem zw_593 : Cond.methodLink RX8 64 yX4_height ∈ zAll := zi_9 (List.mem_of_getElem? (i := 53) (by decide +kernel))
theorem zw_594 : Cond.methodLink RX8 127 yX4_width ∈ zAll := zi_9 (List.mem_of_getElem? (i := 54) (by decide +kernel))
theorem zw_595 : Cond.methodLink RX8 111 yX4_copy ∈ zAll := zi_9 (List.mem_of_getElem? (i := 55) (by decide +kernel))
theorem zw_596 : Cond.methodLink RX8 84 yX1_minus ∈ zAll := zi_9 (List.mem_of_getElem? (i := 56) (by decide +kernel))
theorem zw_597 : Cond.methodLink RX8 67 yX2_slideK ∈ zAll := zi_9 (List.mem_of_getElem? (i := 57) (by decide +kernel))
theorem zw_598 : Cond.methodLink RX8 92 yX2_times ∈ zAll := zi_9 (List.mem_of_getElem? (i := 58) (by decide +kernel))
theorem zw_599 : Cond.code yX8_grown cX8_grown 7 (some .int) ∈ zAll := zi_9 (List.mem_of_getElem? (i := 59) (by rfl))
theorem zw_600 : Cond.methodLink RX8 130 yX3_isWithin ∈ zAll := zi_10 (List.mem_of_getElem? (i := 0) (by decide +kernel))
theorem zw_601 : Cond.code yX8_isModest cX8_isModest 2 (some .boolean) ∈ zAll := zi_10 (List.mem_of_getElem? (i := 1) (by rfl))
theorem zw_602 : Cond.fieldLink RX8 107 "SumHouse$Sums" "formA" "I" ∈ zAll := zi_10 (List.mem_of_getElem? (i := 2) (by decide +kernel))
theorem zw_603 : Cond.fieldLink RX8 117 "SumHouse$Sums" "formB" "I" ∈ zAll := zi_10 (List.mem_of_getElem? (i := 3) (by decide +kernel))
theorem zw_604 : Cond.fieldLink RX8 120 "SumHouse$Sums" "formC" "I" ∈ zAll := zi_10 (List.mem_of_getElem? (i := 4) (by decide +kernel))
theorem zw_605 : Cond.methodLink RX8 48 yX3_under ∈ zAll := zi_10 (List.mem_of_getElem? (i := 5) (by decide +kernel))
theorem zw_606 : Cond.methodLink RX8 54 yX0_primitive ∈ zAll := zi_10 (List.mem_of_getElem? (i := 6) (by decide +kernel))
theorem zw_607 : Cond.methodLink RX8 59 yX4_constant ∈ zAll := zi_10 (List.mem_of_getElem? (i := 7) (by decide +kernel))
theorem zw_608 : Cond.methodLink RX8 73 yX0_lift ∈ zAll := zi_10 (List.mem_of_getElem? (i := 8) (by decide +kernel))
theorem zw_609 : Cond.methodLink RX8 77 yX2_divide ∈ zAll := zi_10 (List.mem_of_getElem? (i := 9) (by decide +kernel))
theorem zw_610 : Cond.methodLink RX8 80 yX8_grown ∈ zAll := zi_10 (List.mem_of_getElem? (i := 10) (by decide +kernel))
theorem zw_611 : Cond.instanceMethod yX8_grown ∈ zAll := zi_10 (List.mem_of_getElem? (i := 11) (by decide +kernel))
theorem zw_612 : Cond.selects RX8 yX8_grown yX8_grown ∈ zAll := zi_10 (List.mem_of_getElem? (i := 12) (by decide +kernel))
theorem zw_613 : Cond.initialized RX8 ∈ zAll := zi_10 (List.mem_of_getElem? (i := 13) (by decide +kernel))
theorem zw_614 : Cond.methodLink RX8 89 yX2_slice ∈ zAll := zi_10 (List.mem_of_getElem? (i := 14) (by decide +kernel))
theorem zw_615 : Cond.methodLink RX8 95 yX0_single ∈ zAll := zi_10 (List.mem_of_getElem? (i := 15) (by decide +kernel))
theorem zw_616 : Cond.methodLink RX8 98 yX4_head ∈ zAll := zi_10 (List.mem_of_getElem? (i := 16) (by decide +kernel))
theorem zw_617 : Cond.methodLink RX8 101 yX1_inverse ∈ zAll := zi_10 (List.mem_of_getElem? (i := 17) (by decide +kernel))
theorem zw_618 : Cond.methodLink RX8 104 yX2_scale ∈ zAll := zi_10 (List.mem_of_getElem? (i := 18) (by decide +kernel))
theorem zw_619 : Cond.methodLink RX8 114 yX2_monic ∈ zAll := zi_10 (List.mem_of_getElem? (i := 19) (by decide +kernel))
theorem zw_620 : Cond.instanceMethod yX2_monic ∈ zAll := zi_10 (List.mem_of_getElem? (i := 20) (by decide +kernel))
theorem zw_621 : Cond.selects RX2 yX2_monic yX2_monic ∈ zAll := zi_10 (List.mem_of_getElem? (i := 21) (by decide +kernel))
theorem zw_622 : Cond.methodLink RX8 123 yX8_isModest ∈ zAll := zi_10 (List.mem_of_getElem? (i := 22) (by decide +kernel))
theorem zw_623 : Cond.instanceMethod yX8_isModest ∈ zAll := zi_10 (List.mem_of_getElem? (i := 23) (by decide +kernel))
theorem zw_624 : Cond.selects RX8 yX8_isModest yX8_isModest ∈ zAll := zi_10 (List.mem_of_getElem? (i := 24) (by decide +kernel))
theorem zw_625 : Cond.code yX8_makeForm cX8_makeForm 11 (some .boolean) ∈ zAll := zi_10 (List.mem_of_getElem? (i := 25) (by rfl))
theorem zw_626 : Cond.methodLink RX8 143 yX4_isZero ∈ zAll := zi_10 (List.mem_of_getElem? (i := 26) (by decide +kernel))
theorem zw_627 : Cond.methodLink RX8 149 yX1_times ∈ zAll := zi_10 (List.mem_of_getElem? (i := 27) (by decide +kernel))
theorem zw_628 : Cond.methodLink RX8 140 yX2_plus ∈ zAll := zi_10 (List.mem_of_getElem? (i := 28) (by decide +kernel))
theorem zw_629 : Cond.code yX8_numberOf cX8_numberOf 4 (some .int) ∈ zAll := zi_10 (List.mem_of_getElem? (i := 29) (by rfl))
theorem zw_630 : Cond.methodLink RX8 134 Lib.Math.max.name ∈ zAll := zi_10 (List.mem_of_getElem? (i := 30) (by decide +kernel))
theorem zw_631 : Cond.constant RX8 139 (2147483646) ∈ zAll := zi_10 (List.mem_of_getElem? (i := 31) (by decide +kernel))
theorem zw_632 : Cond.methodLink RX8 146 yX8_numberOf ∈ zAll := zi_10 (List.mem_of_getElem? (i := 32) (by decide +kernel))
theorem zw_633 : Cond.instanceMethod yX8_numberOf ∈ zAll := zi_10 (List.mem_of_getElem? (i := 33) (by decide +kernel))
theorem zw_634 : Cond.selects RX8 yX8_numberOf yX8_numberOf ∈ zAll := zi_10 (List.mem_of_getElem? (i := 34) (by decide +kernel))
theorem zw_635 : Cond.code yX8_depthFor cX8_depthFor 10 (some .int) ∈ zAll := zi_10 (List.mem_of_getElem? (i := 35) (by rfl))
theorem zw_636 : Cond.methodLink RX8 189 yX4_put ∈ zAll := zi_10 (List.mem_of_getElem? (i := 36) (by decide +kernel))
theorem zw_637 : Cond.methodLink RX8 192 yX2_atN ∈ zAll := zi_10 (List.mem_of_getElem? (i := 37) (by decide +kernel))
theorem zw_638 : Cond.methodLink RX8 196 yX4_get ∈ zAll := zi_10 (List.mem_of_getElem? (i := 38) (by decide +kernel))
theorem zw_639 : Cond.methodLink RX8 199 yX7_put ∈ zAll := zi_10 (List.mem_of_getElem? (i := 39) (by decide +kernel))
theorem zw_640 : Cond.methodLink RX8 201 yX1_plus ∈ zAll := zi_10 (List.mem_of_getElem? (i := 40) (by decide +kernel))
theorem zw_641 : Cond.code yX8_putUnknowns cX8_putUnknowns 11 none ∈ zAll := zi_10 (List.mem_of_getElem? (i := 41) (by rfl))
theorem zw_642 : Cond.code yX8_putPieces cX8_putPieces 10 none ∈ zAll := zi_10 (List.mem_of_getElem? (i := 42) (by rfl))
theorem zw_643 : Cond.fieldLink RX8 150 "SumHouse$Sums" "scaleAB" "I" ∈ zAll := zi_10 (List.mem_of_getElem? (i := 43) (by decide +kernel))
theorem zw_644 : Cond.fieldLink RX8 153 "SumHouse$Sums" "depth" "I" ∈ zAll := zi_10 (List.mem_of_getElem? (i := 44) (by decide +kernel))
theorem zw_645 : Cond.constant RX8 165 (7654321) ∈ zAll := zi_10 (List.mem_of_getElem? (i := 45) (by decide +kernel))
theorem zw_646 : Cond.constant RX8 166 (7754321) ∈ zAll := zi_10 (List.mem_of_getElem? (i := 46) (by decide +kernel))
theorem zw_647 : Cond.fieldLink RX8 167 "SumHouse$Solver" "done" "Z" ∈ zAll := zi_10 (List.mem_of_getElem? (i := 47) (by decide +kernel))
theorem zw_648 : Cond.fieldLink RX8 171 "SumHouse$Room" "full" "Z" ∈ zAll := zi_10 (List.mem_of_getElem? (i := 48) (by decide +kernel))
theorem zw_649 : Cond.fieldLink RX8 186 "SumHouse$Solver" "target" "I" ∈ zAll := zi_10 (List.mem_of_getElem? (i := 49) (by decide +kernel))
theorem zw_650 : Cond.methodLink RX8 156 yX7_begin ∈ zAll := zi_10 (List.mem_of_getElem? (i := 50) (by decide +kernel))
theorem zw_651 : Cond.methodLink RX8 162 yX4_take ∈ zAll := zi_10 (List.mem_of_getElem? (i := 51) (by decide +kernel))
theorem zw_652 : Cond.methodLink RX8 174 yX8_putUnknowns ∈ zAll := zi_10 (List.mem_of_getElem? (i := 52) (by decide +kernel))
theorem zw_653 : Cond.instanceMethod yX8_putUnknowns ∈ zAll := zi_10 (List.mem_of_getElem? (i := 53) (by decide +kernel))
theorem zw_654 : Cond.selects RX8 yX8_putUnknowns yX8_putUnknowns ∈ zAll := zi_10 (List.mem_of_getElem? (i := 54) (by decide +kernel))
theorem zw_655 : Cond.methodLink RX8 178 yX8_putPieces ∈ zAll := zi_10 (List.mem_of_getElem? (i := 55) (by decide +kernel))
theorem zw_656 : Cond.instanceMethod yX8_putPieces ∈ zAll := zi_10 (List.mem_of_getElem? (i := 56) (by decide +kernel))
theorem zw_657 : Cond.selects RX8 yX8_putPieces yX8_putPieces ∈ zAll := zi_10 (List.mem_of_getElem? (i := 57) (by decide +kernel))
theorem zw_658 : Cond.methodLink RX8 182 yX7_point ∈ zAll := zi_10 (List.mem_of_getElem? (i := 58) (by decide +kernel))
theorem zw_659 : Cond.code yX8_equation cX8_equation 15 (some .boolean) ∈ zAll := zi_10 (List.mem_of_getElem? (i := 59) (by rfl))
theorem zw_660 : Cond.methodLink RX8 203 yX8_makeForm ∈ zAll := zi_11 (List.mem_of_getElem? (i := 0) (by decide +kernel))
theorem zw_661 : Cond.instanceMethod yX8_makeForm ∈ zAll := zi_11 (List.mem_of_getElem? (i := 1) (by decide +kernel))
theorem zw_662 : Cond.selects RX8 yX8_makeForm yX8_makeForm ∈ zAll := zi_11 (List.mem_of_getElem? (i := 2) (by decide +kernel))
theorem zw_663 : Cond.methodLink RX8 206 yX8_depthFor ∈ zAll := zi_11 (List.mem_of_getElem? (i := 3) (by decide +kernel))
theorem zw_664 : Cond.instanceMethod yX8_depthFor ∈ zAll := zi_11 (List.mem_of_getElem? (i := 4) (by decide +kernel))
theorem zw_665 : Cond.selects RX8 yX8_depthFor yX8_depthFor ∈ zAll := zi_11 (List.mem_of_getElem? (i := 5) (by decide +kernel))
theorem zw_666 : Cond.methodLink RX8 209 yX8_equation ∈ zAll := zi_11 (List.mem_of_getElem? (i := 6) (by decide +kernel))
theorem zw_667 : Cond.instanceMethod yX8_equation ∈ zAll := zi_11 (List.mem_of_getElem? (i := 7) (by decide +kernel))
theorem zw_668 : Cond.selects RX8 yX8_equation yX8_equation ∈ zAll := zi_11 (List.mem_of_getElem? (i := 8) (by decide +kernel))
theorem zw_669 : Cond.code yX8_solved cX8_solved 5 (some .int) ∈ zAll := zi_11 (List.mem_of_getElem? (i := 9) (by rfl))
theorem zw_670 : Cond.fieldLink RX8 223 "SumHouse$Sums" "whole" "I" ∈ zAll := zi_11 (List.mem_of_getElem? (i := 10) (by decide +kernel))
theorem zw_671 : Cond.fieldLink RX8 229 "SumHouse$Sums" "made" "I" ∈ zAll := zi_11 (List.mem_of_getElem? (i := 11) (by decide +kernel))
theorem zw_672 : Cond.methodLink RX8 213 yX7_factorOf ∈ zAll := zi_11 (List.mem_of_getElem? (i := 12) (by decide +kernel))
theorem zw_673 : Cond.methodLink RX8 216 yX0_cleaned ∈ zAll := zi_11 (List.mem_of_getElem? (i := 13) (by decide +kernel))
theorem zw_674 : Cond.methodLink RX8 220 yX7_factorsBelow ∈ zAll := zi_11 (List.mem_of_getElem? (i := 14) (by decide +kernel))
theorem zw_675 : Cond.instanceMethod yX7_factorsBelow ∈ zAll := zi_11 (List.mem_of_getElem? (i := 15) (by decide +kernel))
theorem zw_676 : Cond.selects RX7 yX7_factorsBelow yX7_factorsBelow ∈ zAll := zi_11 (List.mem_of_getElem? (i := 16) (by decide +kernel))
theorem zw_677 : Cond.methodLink RX8 226 yX3_reduced ∈ zAll := zi_11 (List.mem_of_getElem? (i := 17) (by decide +kernel))
theorem zw_678 : Cond.instanceMethod yX3_reduced ∈ zAll := zi_11 (List.mem_of_getElem? (i := 18) (by decide +kernel))
theorem zw_679 : Cond.selects RX3 yX3_reduced yX3_reduced ∈ zAll := zi_11 (List.mem_of_getElem? (i := 19) (by decide +kernel))
theorem zw_680 : Cond.methodLink RX8 232 yX3_fits ∈ zAll := zi_11 (List.mem_of_getElem? (i := 20) (by decide +kernel))
theorem zw_681 : Cond.instanceMethod yX3_fits ∈ zAll := zi_11 (List.mem_of_getElem? (i := 21) (by decide +kernel))
theorem zw_682 : Cond.selects RX3 yX3_fits yX3_fits ∈ zAll := zi_11 (List.mem_of_getElem? (i := 22) (by decide +kernel))
theorem zw_683 : Cond.code yX8_answer cX8_answer 10 (some .int) ∈ zAll := zi_11 (List.mem_of_getElem? (i := 23) (by rfl))
theorem zw_684 : Cond.code yX9_ratioOf cX9_ratioOf 2 (some .int) ∈ zAll := zi_11 (List.mem_of_getElem? (i := 24) (by rfl))
theorem zw_685 : Cond.fieldLink RX9 15 "SumHouse$Terms" "planes" "LSumHouse$Planes;" ∈ zAll := zi_11 (List.mem_of_getElem? (i := 25) (by decide +kernel))
theorem zw_686 : Cond.fieldLink RX9 239 "SumHouse$Terms" "lower" "I" ∈ zAll := zi_11 (List.mem_of_getElem? (i := 26) (by decide +kernel))
theorem zw_687 : Cond.fieldLink RX9 236 "SumHouse$Terms" "upper" "I" ∈ zAll := zi_11 (List.mem_of_getElem? (i := 27) (by decide +kernel))
theorem zw_688 : Cond.fieldLink RX9 11 "SumHouse$Terms" "room" "LSumHouse$Room;" ∈ zAll := zi_11 (List.mem_of_getElem? (i := 28) (by decide +kernel))
theorem zw_689 : Cond.fieldLink RX9 23 "SumHouse$Terms" "ratios" "LSumHouse$Ratios;" ∈ zAll := zi_11 (List.mem_of_getElem? (i := 29) (by decide +kernel))
theorem zw_690 : Cond.methodLink RX9 75 yX2_linear ∈ zAll := zi_11 (List.mem_of_getElem? (i := 30) (by decide +kernel))
theorem zw_691 : Cond.instanceMethod yX2_linear ∈ zAll := zi_11 (List.mem_of_getElem? (i := 31) (by decide +kernel))
theorem zw_692 : Cond.selects RX2 yX2_linear yX2_linear ∈ zAll := zi_11 (List.mem_of_getElem? (i := 32) (by decide +kernel))
theorem zw_693 : Cond.methodLink RX9 233 yX2_divide ∈ zAll := zi_11 (List.mem_of_getElem? (i := 33) (by decide +kernel))
theorem zw_694 : Cond.methodLink RX9 153 yX2_times ∈ zAll := zi_11 (List.mem_of_getElem? (i := 34) (by decide +kernel))
theorem zw_695 : Cond.methodLink RX9 252 yX4_settle ∈ zAll := zi_11 (List.mem_of_getElem? (i := 35) (by decide +kernel))
theorem zw_696 : Cond.methodLink RX9 81 yX4_copy ∈ zAll := zi_11 (List.mem_of_getElem? (i := 36) (by decide +kernel))
theorem zw_697 : Cond.methodLink RX9 253 yX2_pair ∈ zAll := zi_11 (List.mem_of_getElem? (i := 37) (by decide +kernel))
theorem zw_698 : Cond.methodLink RX9 52 yX3_under ∈ zAll := zi_11 (List.mem_of_getElem? (i := 38) (by decide +kernel))
theorem zw_699 : Cond.code yX9_stepLine cX9_stepLine 9 none ∈ zAll := zi_11 (List.mem_of_getElem? (i := 39) (by rfl))
theorem zw_700 : Cond.methodLink RX9 141 Lib.Math.abs.name ∈ zAll := zi_11 (List.mem_of_getElem? (i := 40) (by decide +kernel))
theorem zw_701 : Cond.methodLink RX9 117 yX4_get ∈ zAll := zi_11 (List.mem_of_getElem? (i := 41) (by decide +kernel))
theorem zw_702 : Cond.methodLink RX9 248 yX9_stepLine ∈ zAll := zi_11 (List.mem_of_getElem? (i := 42) (by decide +kernel))
theorem zw_703 : Cond.instanceMethod yX9_stepLine ∈ zAll := zi_11 (List.mem_of_getElem? (i := 43) (by decide +kernel))
theorem zw_704 : Cond.selects RX9 yX9_stepLine yX9_stepLine ∈ zAll := zi_11 (List.mem_of_getElem? (i := 44) (by decide +kernel))
theorem zw_705 : Cond.initialized RX9 ∈ zAll := zi_11 (List.mem_of_getElem? (i := 45) (by decide +kernel))
theorem zw_706 : Cond.code yX9_stepFactorial cX9_stepFactorial 11 none ∈ zAll := zi_11 (List.mem_of_getElem? (i := 46) (by rfl))
theorem zw_707 : Cond.fieldLink RX9 150 "SumHouse$Room" "top" "I" ∈ zAll := zi_11 (List.mem_of_getElem? (i := 47) (by decide +kernel))
theorem zw_708 : Cond.fieldLink RX9 19 "SumHouse$Terms" "divisors" "LSumHouse$Divisors;" ∈ zAll := zi_11 (List.mem_of_getElem? (i := 48) (by decide +kernel))
theorem zw_709 : Cond.methodLink RX9 46 yX9_ratioOf ∈ zAll := zi_11 (List.mem_of_getElem? (i := 49) (by decide +kernel))
theorem zw_710 : Cond.instanceMethod yX9_ratioOf ∈ zAll := zi_11 (List.mem_of_getElem? (i := 50) (by decide +kernel))
theorem zw_711 : Cond.selects RX9 yX9_ratioOf yX9_ratioOf ∈ zAll := zi_11 (List.mem_of_getElem? (i := 51) (by decide +kernel))
theorem zw_712 : Cond.methodLink RX9 72 yX4_constant ∈ zAll := zi_11 (List.mem_of_getElem? (i := 52) (by decide +kernel))
theorem zw_713 : Cond.methodLink RX9 214 yX2_slide ∈ zAll := zi_11 (List.mem_of_getElem? (i := 53) (by decide +kernel))
theorem zw_714 : Cond.instanceMethod yX2_slide ∈ zAll := zi_11 (List.mem_of_getElem? (i := 54) (by decide +kernel))
theorem zw_715 : Cond.selects RX2 yX2_slide yX2_slide ∈ zAll := zi_11 (List.mem_of_getElem? (i := 55) (by decide +kernel))
theorem zw_716 : Cond.methodLink RX9 228 yX0_gcd ∈ zAll := zi_11 (List.mem_of_getElem? (i := 56) (by decide +kernel))
theorem zw_717 : Cond.methodLink RX9 174 yX1_power ∈ zAll := zi_11 (List.mem_of_getElem? (i := 57) (by decide +kernel))
theorem zw_718 : Cond.methodLink RX9 198 yX2_scale ∈ zAll := zi_11 (List.mem_of_getElem? (i := 58) (by decide +kernel))
theorem zw_719 : Cond.methodLink RX9 242 yX3_pack ∈ zAll := zi_11 (List.mem_of_getElem? (i := 59) (by decide +kernel))
theorem zw_720 : Cond.methodLink RX9 245 yX9_stepFactorial ∈ zAll := zi_12 (List.mem_of_getElem? (i := 0) (by decide +kernel))
theorem zw_721 : Cond.instanceMethod yX9_stepFactorial ∈ zAll := zi_12 (List.mem_of_getElem? (i := 1) (by decide +kernel))
theorem zw_722 : Cond.selects RX9 yX9_stepFactorial yX9_stepFactorial ∈ zAll := zi_12 (List.mem_of_getElem? (i := 2) (by decide +kernel))
theorem zw_723 : Cond.code yX9_step cX9_step 12 (some .int) ∈ zAll := zi_12 (List.mem_of_getElem? (i := 3) (by rfl))
theorem zw_724 : Cond.fieldLink RX8 240 "SumHouse$Sums" "quotient" "I" ∈ zAll := zi_12 (List.mem_of_getElem? (i := 4) (by decide +kernel))
theorem zw_725 : Cond.methodLink RX8 235 yX9_step ∈ zAll := zi_12 (List.mem_of_getElem? (i := 5) (by decide +kernel))
theorem zw_726 : Cond.instanceMethod yX9_step ∈ zAll := zi_12 (List.mem_of_getElem? (i := 6) (by decide +kernel))
theorem zw_727 : Cond.selects RX9 yX9_step yX9_step ∈ zAll := zi_12 (List.mem_of_getElem? (i := 7) (by decide +kernel))
theorem zw_728 : Cond.methodLink RX8 243 yX8_solved ∈ zAll := zi_12 (List.mem_of_getElem? (i := 8) (by decide +kernel))
theorem zw_729 : Cond.instanceMethod yX8_solved ∈ zAll := zi_12 (List.mem_of_getElem? (i := 9) (by decide +kernel))
theorem zw_730 : Cond.selects RX8 yX8_solved yX8_solved ∈ zAll := zi_12 (List.mem_of_getElem? (i := 10) (by decide +kernel))
theorem zw_731 : Cond.code yX8_alone cX8_alone 2 (some .int) ∈ zAll := zi_12 (List.mem_of_getElem? (i := 11) (by rfl))
theorem zw_732 : Cond.code yX8_collect cX8_collect 5 (some .boolean) ∈ zAll := zi_12 (List.mem_of_getElem? (i := 12) (by rfl))
theorem zw_733 : Cond.methodLink RX8 246 yX0_gcd ∈ zAll := zi_12 (List.mem_of_getElem? (i := 13) (by decide +kernel))
theorem zw_734 : Cond.methodLink RX8 249 yX4_settle ∈ zAll := zi_12 (List.mem_of_getElem? (i := 14) (by decide +kernel))
theorem zw_735 : Cond.methodLink RX8 252 yX3_times ∈ zAll := zi_12 (List.mem_of_getElem? (i := 15) (by decide +kernel))
theorem zw_736 : Cond.instanceMethod yX3_times ∈ zAll := zi_12 (List.mem_of_getElem? (i := 16) (by decide +kernel))
theorem zw_737 : Cond.selects RX3 yX3_times yX3_times ∈ zAll := zi_12 (List.mem_of_getElem? (i := 17) (by decide +kernel))
theorem zw_738 : Cond.code yX8_attempt cX8_attempt 8 (some .int) ∈ zAll := zi_12 (List.mem_of_getElem? (i := 18) (by rfl))
theorem zw_739 : Cond.fieldLink RX8 258 "SumHouse$Slot" "kind" "I" ∈ zAll := zi_12 (List.mem_of_getElem? (i := 19) (by decide +kernel))
theorem zw_740 : Cond.fieldLink RX8 261 "SumHouse$Slot" "order" "I" ∈ zAll := zi_12 (List.mem_of_getElem? (i := 20) (by decide +kernel))
theorem zw_741 : Cond.fieldLink RX8 268 "SumHouse$Slot" "above" "[I" ∈ zAll := zi_12 (List.mem_of_getElem? (i := 21) (by decide +kernel))
theorem zw_742 : Cond.fieldLink RX8 275 "SumHouse$Slot" "below" "[I" ∈ zAll := zi_12 (List.mem_of_getElem? (i := 22) (by decide +kernel))
theorem zw_743 : Cond.methodLink RX8 253 yX6_wipe ∈ zAll := zi_12 (List.mem_of_getElem? (i := 23) (by decide +kernel))
theorem zw_744 : Cond.methodLink RX8 264 yX2_saveStep ∈ zAll := zi_12 (List.mem_of_getElem? (i := 24) (by decide +kernel))
theorem zw_745 : Cond.methodLink RX8 271 yX2_save ∈ zAll := zi_12 (List.mem_of_getElem? (i := 25) (by decide +kernel))
theorem zw_746 : Cond.instanceMethod yX2_save ∈ zAll := zi_12 (List.mem_of_getElem? (i := 26) (by decide +kernel))
theorem zw_747 : Cond.selects RX2 yX2_save yX2_save ∈ zAll := zi_12 (List.mem_of_getElem? (i := 27) (by decide +kernel))
theorem zw_748 : Cond.code yX8_save cX8_save 4 none ∈ zAll := zi_12 (List.mem_of_getElem? (i := 28) (by rfl))
theorem zw_749 : Cond.methodLink RX8 278 yX2_loadStep ∈ zAll := zi_12 (List.mem_of_getElem? (i := 29) (by decide +kernel))
theorem zw_750 : Cond.methodLink RX8 282 yX2_pair ∈ zAll := zi_12 (List.mem_of_getElem? (i := 30) (by decide +kernel))
theorem zw_751 : Cond.methodLink RX8 285 yX2_load ∈ zAll := zi_12 (List.mem_of_getElem? (i := 31) (by decide +kernel))
theorem zw_752 : Cond.instanceMethod yX2_load ∈ zAll := zi_12 (List.mem_of_getElem? (i := 32) (by decide +kernel))
theorem zw_753 : Cond.selects RX2 yX2_load yX2_load ∈ zAll := zi_12 (List.mem_of_getElem? (i := 33) (by decide +kernel))
theorem zw_754 : Cond.code yX8_isRight cX8_isRight 14 (some .boolean) ∈ zAll := zi_12 (List.mem_of_getElem? (i := 34) (by rfl))
theorem zw_755 : Cond.fieldLink RX9 84 "SumHouse$Slot" "kind" "I" ∈ zAll := zi_12 (List.mem_of_getElem? (i := 35) (by decide +kernel))
theorem zw_756 : Cond.fieldLink RX9 96 "SumHouse$Slot" "factorials" "I" ∈ zAll := zi_12 (List.mem_of_getElem? (i := 36) (by decide +kernel))
theorem zw_757 : Cond.fieldLink RX9 27 "SumHouse$Terms" "factorials" "[I" ∈ zAll := zi_12 (List.mem_of_getElem? (i := 37) (by decide +kernel))
theorem zw_758 : Cond.constantLong RX9 34 (2147483647) ∈ zAll := zi_12 (List.mem_of_getElem? (i := 38) (by decide +kernel))
theorem zw_759 : Cond.fieldLink RX9 90 "SumHouse$Slot" "x" "I" ∈ zAll := zi_12 (List.mem_of_getElem? (i := 39) (by decide +kernel))
theorem zw_760 : Cond.fieldLink RX9 93 "SumHouse$Slot" "y" "I" ∈ zAll := zi_12 (List.mem_of_getElem? (i := 40) (by decide +kernel))
theorem zw_761 : Cond.methodLink RX9 217 yX1_rest ∈ zAll := zi_12 (List.mem_of_getElem? (i := 41) (by decide +kernel))
theorem zw_762 : Cond.methodLink RX9 256 yX6_sideAt ∈ zAll := zi_12 (List.mem_of_getElem? (i := 42) (by decide +kernel))
theorem zw_763 : Cond.methodLink RX9 259 yX6_fact ∈ zAll := zi_12 (List.mem_of_getElem? (i := 43) (by decide +kernel))
theorem zw_764 : Cond.instanceMethod yX6_fact ∈ zAll := zi_12 (List.mem_of_getElem? (i := 44) (by decide +kernel))
theorem zw_765 : Cond.selects RX6 yX6_fact yX6_fact ∈ zAll := zi_12 (List.mem_of_getElem? (i := 45) (by decide +kernel))
theorem zw_766 : Cond.methodLink RX9 262 yX1_inverse ∈ zAll := zi_12 (List.mem_of_getElem? (i := 46) (by decide +kernel))
theorem zw_767 : Cond.code yX9_valueOf cX9_valueOf 14 (some .int) ∈ zAll := zi_12 (List.mem_of_getElem? (i := 47) (by rfl))
theorem zw_768 : Cond.methodLink RX9 263 yX9_valueOf ∈ zAll := zi_12 (List.mem_of_getElem? (i := 48) (by decide +kernel))
theorem zw_769 : Cond.instanceMethod yX9_valueOf ∈ zAll := zi_12 (List.mem_of_getElem? (i := 49) (by decide +kernel))
theorem zw_770 : Cond.selects RX9 yX9_valueOf yX9_valueOf ∈ zAll := zi_12 (List.mem_of_getElem? (i := 50) (by decide +kernel))
theorem zw_771 : Cond.methodLink RX9 267 yX1_plus ∈ zAll := zi_12 (List.mem_of_getElem? (i := 51) (by decide +kernel))
theorem zw_772 : Cond.code yX9_sumOf cX9_sumOf 8 (some .int) ∈ zAll := zi_12 (List.mem_of_getElem? (i := 52) (by rfl))
theorem zw_773 : Cond.methodLink RX8 300 yX6_sideAt ∈ zAll := zi_12 (List.mem_of_getElem? (i := 53) (by decide +kernel))
theorem zw_774 : Cond.methodLink RX8 303 yX9_valueOf ∈ zAll := zi_12 (List.mem_of_getElem? (i := 54) (by decide +kernel))
theorem zw_775 : Cond.code yX8_certified cX8_certified 7 (some .int) ∈ zAll := zi_12 (List.mem_of_getElem? (i := 55) (by rfl))
theorem zw_776 : Cond.methodLink RX8 289 yX9_sumOf ∈ zAll := zi_12 (List.mem_of_getElem? (i := 56) (by decide +kernel))
theorem zw_777 : Cond.instanceMethod yX9_sumOf ∈ zAll := zi_12 (List.mem_of_getElem? (i := 57) (by decide +kernel))
theorem zw_778 : Cond.selects RX9 yX9_sumOf yX9_sumOf ∈ zAll := zi_12 (List.mem_of_getElem? (i := 58) (by decide +kernel))
theorem zw_779 : Cond.methodLink RX8 293 yX6_stepAt ∈ zAll := zi_12 (List.mem_of_getElem? (i := 59) (by decide +kernel))
theorem zw_780 : Cond.methodLink RX8 296 yX8_certified ∈ zAll := zi_13 (List.mem_of_getElem? (i := 0) (by decide +kernel))
theorem zw_781 : Cond.instanceMethod yX8_certified ∈ zAll := zi_13 (List.mem_of_getElem? (i := 1) (by decide +kernel))
theorem zw_782 : Cond.selects RX8 yX8_certified yX8_certified ∈ zAll := zi_13 (List.mem_of_getElem? (i := 2) (by decide +kernel))
theorem zw_783 : Cond.code yX8_holdsBy cX8_holdsBy 9 (some .int) ∈ zAll := zi_13 (List.mem_of_getElem? (i := 3) (by rfl))
theorem zw_784 : Cond.code yX9_init cX9_init 8 none ∈ zAll := zi_13 (List.mem_of_getElem? (i := 4) (by rfl))
theorem zw_785 : Cond.methodLink RX9 5 objectInit ∈ zAll := zi_13 (List.mem_of_getElem? (i := 5) (by decide +kernel))
theorem zw_786 : Cond.fieldLink RX9 31 "SumHouse$Terms" "lines" "[I" ∈ zAll := zi_13 (List.mem_of_getElem? (i := 6) (by decide +kernel))
theorem zw_787 : Cond.code yX9_open cX9_open 2 (some .int) ∈ zAll := zi_13 (List.mem_of_getElem? (i := 7) (by rfl))
theorem zw_788 : Cond.methodLink RX9 36 yX4_take ∈ zAll := zi_13 (List.mem_of_getElem? (i := 8) (by decide +kernel))
theorem zw_789 : Cond.methodLink RX9 42 yX4_put ∈ zAll := zi_13 (List.mem_of_getElem? (i := 9) (by decide +kernel))
theorem zw_790 : Cond.code yX9_size cX9_size 3 (some .int) ∈ zAll := zi_13 (List.mem_of_getElem? (i := 10) (by rfl))
theorem zw_791 : Cond.methodLink RX9 49 yX4_span ∈ zAll := zi_13 (List.mem_of_getElem? (i := 11) (by decide +kernel))
theorem zw_792 : Cond.methodLink RX9 57 yX9_size ∈ zAll := zi_13 (List.mem_of_getElem? (i := 12) (by decide +kernel))
theorem zw_793 : Cond.instanceMethod yX9_size ∈ zAll := zi_13 (List.mem_of_getElem? (i := 13) (by decide +kernel))
theorem zw_794 : Cond.selects RX9 yX9_size yX9_size ∈ zAll := zi_13 (List.mem_of_getElem? (i := 14) (by decide +kernel))
theorem zw_795 : Cond.methodLink RX9 60 yX4_move ∈ zAll := zi_13 (List.mem_of_getElem? (i := 15) (by decide +kernel))
theorem zw_796 : Cond.methodLink RX9 64 yX4_release ∈ zAll := zi_13 (List.mem_of_getElem? (i := 16) (by decide +kernel))
theorem zw_797 : Cond.code yX9_settle cX9_settle 4 (some .int) ∈ zAll := zi_13 (List.mem_of_getElem? (i := 17) (by rfl))
theorem zw_798 : Cond.code yX9_ofNumber cX9_ofNumber 3 (some .int) ∈ zAll := zi_13 (List.mem_of_getElem? (i := 18) (by rfl))
theorem zw_799 : Cond.methodLink RX9 68 yX9_open ∈ zAll := zi_13 (List.mem_of_getElem? (i := 19) (by decide +kernel))
theorem zw_800 : Cond.instanceMethod yX9_open ∈ zAll := zi_13 (List.mem_of_getElem? (i := 20) (by decide +kernel))
theorem zw_801 : Cond.selects RX9 yX9_open yX9_open ∈ zAll := zi_13 (List.mem_of_getElem? (i := 21) (by decide +kernel))
theorem zw_802 : Cond.code yX9_line cX9_line 5 (some .int) ∈ zAll := zi_13 (List.mem_of_getElem? (i := 22) (by rfl))
theorem zw_803 : Cond.code yX9_wrapped cX9_wrapped 3 (some .int) ∈ zAll := zi_13 (List.mem_of_getElem? (i := 23) (by rfl))
theorem zw_804 : Cond.fieldLink RX9 98 "SumHouse$Slot" "facts" "[I" ∈ zAll := zi_13 (List.mem_of_getElem? (i := 24) (by decide +kernel))
theorem zw_805 : Cond.fieldLink RX9 101 "SumHouse$Slot" "above" "[I" ∈ zAll := zi_13 (List.mem_of_getElem? (i := 25) (by decide +kernel))
theorem zw_806 : Cond.fieldLink RX9 108 "SumHouse$Slot" "below" "[I" ∈ zAll := zi_13 (List.mem_of_getElem? (i := 26) (by decide +kernel))
theorem zw_807 : Cond.methodLink RX9 104 yX2_load ∈ zAll := zi_13 (List.mem_of_getElem? (i := 27) (by decide +kernel))
theorem zw_808 : Cond.code yX9_load cX9_load 4 (some .int) ∈ zAll := zi_13 (List.mem_of_getElem? (i := 28) (by rfl))
theorem zw_809 : Cond.code yX9_kindOf cX9_kindOf 2 (some .int) ∈ zAll := zi_13 (List.mem_of_getElem? (i := 29) (by rfl))
theorem zw_810 : Cond.methodLink RX9 120 Lib.Math.min.name ∈ zAll := zi_13 (List.mem_of_getElem? (i := 30) (by decide +kernel))
theorem zw_811 : Cond.methodLink RX9 111 yX6_wipe ∈ zAll := zi_13 (List.mem_of_getElem? (i := 31) (by decide +kernel))
theorem zw_812 : Cond.methodLink RX9 114 yX9_kindOf ∈ zAll := zi_13 (List.mem_of_getElem? (i := 32) (by decide +kernel))
theorem zw_813 : Cond.instanceMethod yX9_kindOf ∈ zAll := zi_13 (List.mem_of_getElem? (i := 33) (by decide +kernel))
theorem zw_814 : Cond.selects RX9 yX9_kindOf yX9_kindOf ∈ zAll := zi_13 (List.mem_of_getElem? (i := 34) (by decide +kernel))
theorem zw_815 : Cond.methodLink RX9 126 yX2_save ∈ zAll := zi_13 (List.mem_of_getElem? (i := 35) (by decide +kernel))
theorem zw_816 : Cond.code yX9_save cX9_save 4 (some .int) ∈ zAll := zi_13 (List.mem_of_getElem? (i := 36) (by rfl))
theorem zw_817 : Cond.code yX9_isZero cX9_isZero 2 (some .boolean) ∈ zAll := zi_13 (List.mem_of_getElem? (i := 37) (by rfl))
theorem zw_818 : Cond.methodLink RX9 130 yX4_isZero ∈ zAll := zi_13 (List.mem_of_getElem? (i := 38) (by decide +kernel))
theorem zw_819 : Cond.code yX9_rank cX9_rank 3 (some .int) ∈ zAll := zi_13 (List.mem_of_getElem? (i := 39) (by rfl))
theorem zw_820 : Cond.code yX9_addFactorial cX9_addFactorial 11 none ∈ zAll := zi_13 (List.mem_of_getElem? (i := 40) (by rfl))
theorem zw_821 : Cond.methodLink RX9 134 yX9_rank ∈ zAll := zi_13 (List.mem_of_getElem? (i := 41) (by decide +kernel))
theorem zw_822 : Cond.static yX9_rank ∈ zAll := zi_13 (List.mem_of_getElem? (i := 42) (by decide +kernel))
theorem zw_823 : Cond.code yX9_addFactorials cX9_addFactorials 6 none ∈ zAll := zi_13 (List.mem_of_getElem? (i := 43) (by rfl))
theorem zw_824 : Cond.methodLink RX9 137 yX9_addFactorial ∈ zAll := zi_13 (List.mem_of_getElem? (i := 44) (by decide +kernel))
theorem zw_825 : Cond.instanceMethod yX9_addFactorial ∈ zAll := zi_13 (List.mem_of_getElem? (i := 45) (by decide +kernel))
theorem zw_826 : Cond.selects RX9 yX9_addFactorial yX9_addFactorial ∈ zAll := zi_13 (List.mem_of_getElem? (i := 46) (by decide +kernel))
theorem zw_827 : Cond.code yX9_powers cX9_powers 4 (some .int) ∈ zAll := zi_13 (List.mem_of_getElem? (i := 47) (by rfl))
theorem zw_828 : Cond.methodLink RX9 144 yX3_fits ∈ zAll := zi_13 (List.mem_of_getElem? (i := 48) (by decide +kernel))
theorem zw_829 : Cond.methodLink RX9 147 yX9_powers ∈ zAll := zi_13 (List.mem_of_getElem? (i := 49) (by decide +kernel))
theorem zw_830 : Cond.instanceMethod yX9_powers ∈ zAll := zi_13 (List.mem_of_getElem? (i := 50) (by decide +kernel))
theorem zw_831 : Cond.selects RX9 yX9_powers yX9_powers ∈ zAll := zi_13 (List.mem_of_getElem? (i := 51) (by decide +kernel))
theorem zw_832 : Cond.code yX9_fits cX9_fits 2 (some .boolean) ∈ zAll := zi_13 (List.mem_of_getElem? (i := 52) (by rfl))
theorem zw_833 : Cond.methodLink RX9 156 yX2_plus ∈ zAll := zi_13 (List.mem_of_getElem? (i := 53) (by decide +kernel))
theorem zw_834 : Cond.methodLink RX9 159 yX3_reduced ∈ zAll := zi_13 (List.mem_of_getElem? (i := 54) (by decide +kernel))
theorem zw_835 : Cond.methodLink RX9 162 yX9_fits ∈ zAll := zi_13 (List.mem_of_getElem? (i := 55) (by decide +kernel))
theorem zw_836 : Cond.instanceMethod yX9_fits ∈ zAll := zi_13 (List.mem_of_getElem? (i := 56) (by decide +kernel))
theorem zw_837 : Cond.selects RX9 yX9_fits yX9_fits ∈ zAll := zi_13 (List.mem_of_getElem? (i := 57) (by decide +kernel))
theorem zw_838 : Cond.methodLink RX9 163 yX9_settle ∈ zAll := zi_13 (List.mem_of_getElem? (i := 58) (by decide +kernel))
theorem zw_839 : Cond.instanceMethod yX9_settle ∈ zAll := zi_13 (List.mem_of_getElem? (i := 59) (by decide +kernel))
theorem zw_840 : Cond.selects RX9 yX9_settle yX9_settle ∈ zAll := zi_14 (List.mem_of_getElem? (i := 0) (by decide +kernel))
theorem zw_841 : Cond.code yX9_plus cX9_plus 12 (some .int) ∈ zAll := zi_14 (List.mem_of_getElem? (i := 1) (by rfl))
theorem zw_842 : Cond.methodLink RX9 166 yX9_isZero ∈ zAll := zi_14 (List.mem_of_getElem? (i := 2) (by decide +kernel))
theorem zw_843 : Cond.instanceMethod yX9_isZero ∈ zAll := zi_14 (List.mem_of_getElem? (i := 3) (by decide +kernel))
theorem zw_844 : Cond.selects RX9 yX9_isZero yX9_isZero ∈ zAll := zi_14 (List.mem_of_getElem? (i := 4) (by decide +kernel))
theorem zw_845 : Cond.methodLink RX9 167 yX9_ofNumber ∈ zAll := zi_14 (List.mem_of_getElem? (i := 5) (by decide +kernel))
theorem zw_846 : Cond.instanceMethod yX9_ofNumber ∈ zAll := zi_14 (List.mem_of_getElem? (i := 6) (by decide +kernel))
theorem zw_847 : Cond.selects RX9 yX9_ofNumber yX9_ofNumber ∈ zAll := zi_14 (List.mem_of_getElem? (i := 7) (by decide +kernel))
theorem zw_848 : Cond.methodLink RX9 170 yX3_inverse ∈ zAll := zi_14 (List.mem_of_getElem? (i := 8) (by decide +kernel))
theorem zw_849 : Cond.instanceMethod yX3_inverse ∈ zAll := zi_14 (List.mem_of_getElem? (i := 9) (by decide +kernel))
theorem zw_850 : Cond.selects RX3 yX3_inverse yX3_inverse ∈ zAll := zi_14 (List.mem_of_getElem? (i := 10) (by decide +kernel))
theorem zw_851 : Cond.methodLink RX9 173 yX3_times ∈ zAll := zi_14 (List.mem_of_getElem? (i := 11) (by decide +kernel))
theorem zw_852 : Cond.methodLink RX9 179 yX1_times ∈ zAll := zi_14 (List.mem_of_getElem? (i := 12) (by decide +kernel))
theorem zw_853 : Cond.methodLink RX9 180 yX9_addFactorials ∈ zAll := zi_14 (List.mem_of_getElem? (i := 13) (by decide +kernel))
theorem zw_854 : Cond.instanceMethod yX9_addFactorials ∈ zAll := zi_14 (List.mem_of_getElem? (i := 14) (by decide +kernel))
theorem zw_855 : Cond.selects RX9 yX9_addFactorials yX9_addFactorials ∈ zAll := zi_14 (List.mem_of_getElem? (i := 15) (by decide +kernel))
theorem zw_856 : Cond.code yX9_times cX9_times 7 (some .int) ∈ zAll := zi_14 (List.mem_of_getElem? (i := 16) (by rfl))
theorem zw_857 : Cond.methodLink RX9 186 Lib.Math.max.name ∈ zAll := zi_14 (List.mem_of_getElem? (i := 17) (by decide +kernel))
theorem zw_858 : Cond.methodLink RX9 183 yX4_width ∈ zAll := zi_14 (List.mem_of_getElem? (i := 18) (by decide +kernel))
theorem zw_859 : Cond.methodLink RX9 189 yX4_height ∈ zAll := zi_14 (List.mem_of_getElem? (i := 19) (by decide +kernel))
theorem zw_860 : Cond.methodLink RX9 192 yX3_power ∈ zAll := zi_14 (List.mem_of_getElem? (i := 20) (by decide +kernel))
theorem zw_861 : Cond.instanceMethod yX3_power ∈ zAll := zi_14 (List.mem_of_getElem? (i := 21) (by decide +kernel))
theorem zw_862 : Cond.selects RX3 yX3_power yX3_power ∈ zAll := zi_14 (List.mem_of_getElem? (i := 22) (by decide +kernel))
theorem zw_863 : Cond.code yX9_power cX9_power 8 (some .int) ∈ zAll := zi_14 (List.mem_of_getElem? (i := 23) (by rfl))
theorem zw_864 : Cond.code yX9_isNumberLine cX9_isNumberLine 2 (some .boolean) ∈ zAll := zi_14 (List.mem_of_getElem? (i := 24) (by rfl))
theorem zw_865 : Cond.methodLink RX9 193 yX9_isNumberLine ∈ zAll := zi_14 (List.mem_of_getElem? (i := 25) (by decide +kernel))
theorem zw_866 : Cond.instanceMethod yX9_isNumberLine ∈ zAll := zi_14 (List.mem_of_getElem? (i := 26) (by decide +kernel))
theorem zw_867 : Cond.selects RX9 yX9_isNumberLine yX9_isNumberLine ∈ zAll := zi_14 (List.mem_of_getElem? (i := 27) (by decide +kernel))
theorem zw_868 : Cond.methodLink RX9 196 yX9_power ∈ zAll := zi_14 (List.mem_of_getElem? (i := 28) (by decide +kernel))
theorem zw_869 : Cond.instanceMethod yX9_power ∈ zAll := zi_14 (List.mem_of_getElem? (i := 29) (by decide +kernel))
theorem zw_870 : Cond.selects RX9 yX9_power yX9_power ∈ zAll := zi_14 (List.mem_of_getElem? (i := 30) (by decide +kernel))
theorem zw_871 : Cond.code yX9_powerOfLine cX9_powerOfLine 4 (some .int) ∈ zAll := zi_14 (List.mem_of_getElem? (i := 31) (by rfl))
theorem zw_872 : Cond.constant RX9 197 (2147483646) ∈ zAll := zi_14 (List.mem_of_getElem? (i := 32) (by decide +kernel))
theorem zw_873 : Cond.code yX9_negative cX9_negative 2 (some .int) ∈ zAll := zi_14 (List.mem_of_getElem? (i := 33) (by rfl))
theorem zw_874 : Cond.code yX9_keepLine cX9_keepLine 5 (some .boolean) ∈ zAll := zi_14 (List.mem_of_getElem? (i := 34) (by rfl))
theorem zw_875 : Cond.methodLink RX9 201 yX4_isNumber ∈ zAll := zi_14 (List.mem_of_getElem? (i := 35) (by decide +kernel))
theorem zw_876 : Cond.methodLink RX9 204 yX2_cell ∈ zAll := zi_14 (List.mem_of_getElem? (i := 36) (by decide +kernel))
theorem zw_877 : Cond.methodLink RX9 207 yX1_small ∈ zAll := zi_14 (List.mem_of_getElem? (i := 37) (by decide +kernel))
theorem zw_878 : Cond.static yX1_small ∈ zAll := zi_14 (List.mem_of_getElem? (i := 38) (by decide +kernel))
theorem zw_879 : Cond.methodLink RX9 210 yX9_keepLine ∈ zAll := zi_14 (List.mem_of_getElem? (i := 39) (by decide +kernel))
theorem zw_880 : Cond.instanceMethod yX9_keepLine ∈ zAll := zi_14 (List.mem_of_getElem? (i := 40) (by decide +kernel))
theorem zw_881 : Cond.selects RX9 yX9_keepLine yX9_keepLine ∈ zAll := zi_14 (List.mem_of_getElem? (i := 41) (by decide +kernel))
theorem zw_882 : Cond.code yX9_isLine cX9_isLine 5 (some .boolean) ∈ zAll := zi_14 (List.mem_of_getElem? (i := 42) (by rfl))
theorem zw_883 : Cond.code yX9_isLineBetween cX9_isLineBetween 1 (some .boolean) ∈ zAll := zi_14 (List.mem_of_getElem? (i := 43) (by rfl))
theorem zw_884 : Cond.code yX9_hasNumber cX9_hasNumber 2 (some .boolean) ∈ zAll := zi_14 (List.mem_of_getElem? (i := 44) (by rfl))
theorem zw_885 : Cond.code yX9_isBelowZero cX9_isBelowZero 2 (some .boolean) ∈ zAll := zi_14 (List.mem_of_getElem? (i := 45) (by rfl))
theorem zw_886 : Cond.code yX9_factorialsOfLines cX9_factorialsOfLines 6 (some .int) ∈ zAll := zi_14 (List.mem_of_getElem? (i := 46) (by rfl))
theorem zw_887 : Cond.code yX9_slidRatio cX9_slidRatio 5 (some .int) ∈ zAll := zi_14 (List.mem_of_getElem? (i := 47) (by rfl))
theorem zw_888 : Cond.constantLong RX9 221 (-50) ∈ zAll := zi_14 (List.mem_of_getElem? (i := 48) (by decide +kernel))
theorem zw_889 : Cond.constantLong RX9 223 (50) ∈ zAll := zi_14 (List.mem_of_getElem? (i := 49) (by decide +kernel))
theorem zw_890 : Cond.methodLink RX9 225 yX9_slidRatio ∈ zAll := zi_14 (List.mem_of_getElem? (i := 50) (by decide +kernel))
theorem zw_891 : Cond.instanceMethod yX9_slidRatio ∈ zAll := zi_14 (List.mem_of_getElem? (i := 51) (by decide +kernel))
theorem zw_892 : Cond.selects RX9 yX9_slidRatio yX9_slidRatio ∈ zAll := zi_14 (List.mem_of_getElem? (i := 52) (by decide +kernel))
theorem zw_893 : Cond.code yX9_slid cX9_slid 10 (some .int) ∈ zAll := zi_14 (List.mem_of_getElem? (i := 53) (by rfl))
theorem zw_894 : Cond.methodLink RX9 278 yX0_isRoot ∈ zAll := zi_14 (List.mem_of_getElem? (i := 54) (by decide +kernel))
theorem zw_895 : Cond.code yX9_timesRoot cX9_timesRoot 6 (some .int) ∈ zAll := zi_14 (List.mem_of_getElem? (i := 55) (by rfl))
theorem zw_896 : Cond.methodLink RX9 269 yX4_head ∈ zAll := zi_14 (List.mem_of_getElem? (i := 56) (by decide +kernel))
theorem zw_897 : Cond.methodLink RX9 272 yX1_minus ∈ zAll := zi_14 (List.mem_of_getElem? (i := 57) (by decide +kernel))
theorem zw_898 : Cond.methodLink RX9 275 yX9_timesRoot ∈ zAll := zi_14 (List.mem_of_getElem? (i := 58) (by decide +kernel))
theorem zw_899 : Cond.instanceMethod yX9_timesRoot ∈ zAll := zi_14 (List.mem_of_getElem? (i := 59) (by decide +kernel))
theorem zw_900 : Cond.selects RX9 yX9_timesRoot yX9_timesRoot ∈ zAll := zi_15 (List.mem_of_getElem? (i := 0) (by decide +kernel))
theorem zw_901 : Cond.code yX9_closed cX9_closed 10 (some .int) ∈ zAll := zi_15 (List.mem_of_getElem? (i := 1) (by rfl))
theorem zw_902 : Cond.code yX10_init cX10_init 2 none ∈ zAll := zi_15 (List.mem_of_getElem? (i := 2) (by rfl))
theorem zw_903 : Cond.methodLink RX10 3 objectInit ∈ zAll := zi_15 (List.mem_of_getElem? (i := 3) (by decide +kernel))
theorem zw_904 : Cond.fieldLink RX10 9 "SumHouse$Texts" "terms" "LSumHouse$Terms;" ∈ zAll := zi_15 (List.mem_of_getElem? (i := 4) (by decide +kernel))
theorem zw_905 : Cond.fieldLink RX10 15 "SumHouse$Texts" "tape" "[I" ∈ zAll := zi_15 (List.mem_of_getElem? (i := 5) (by decide +kernel))
theorem zw_906 : Cond.fieldLink RX10 19 "SumHouse$Texts" "written" "[I" ∈ zAll := zi_15 (List.mem_of_getElem? (i := 6) (by decide +kernel))
theorem zw_907 : Cond.fieldLink RX10 22 "SumHouse$Texts" "ink" "[I" ∈ zAll := zi_15 (List.mem_of_getElem? (i := 7) (by decide +kernel))
theorem zw_908 : Cond.fieldLink RX10 25 "SumHouse$Texts" "codes" "[I" ∈ zAll := zi_15 (List.mem_of_getElem? (i := 8) (by decide +kernel))
theorem zw_909 : Cond.fieldLink RX10 28 "SumHouse$Texts" "signs" "[I" ∈ zAll := zi_15 (List.mem_of_getElem? (i := 9) (by decide +kernel))
theorem zw_910 : Cond.fieldLink RX10 31 "SumHouse$Texts" "values" "[I" ∈ zAll := zi_15 (List.mem_of_getElem? (i := 10) (by decide +kernel))
theorem zw_911 : Cond.fieldLink RX10 34 "SumHouse$Texts" "faultPlace" "I" ∈ zAll := zi_15 (List.mem_of_getElem? (i := 11) (by decide +kernel))
theorem zw_912 : Cond.code yX10_append cX10_append 5 (some .int) ∈ zAll := zi_15 (List.mem_of_getElem? (i := 12) (by rfl))
theorem zw_913 : Cond.fieldLink RX10 38 "SumHouse$Texts" "tapeCount" "I" ∈ zAll := zi_15 (List.mem_of_getElem? (i := 13) (by decide +kernel))
theorem zw_914 : Cond.constantLong RX10 41 (255) ∈ zAll := zi_15 (List.mem_of_getElem? (i := 14) (by decide +kernel))
theorem zw_915 : Cond.code yX10_emptyTape cX10_emptyTape 1 none ∈ zAll := zi_15 (List.mem_of_getElem? (i := 15) (by rfl))
theorem zw_916 : Cond.code yX10_retype cX10_retype 2 (some .int) ∈ zAll := zi_15 (List.mem_of_getElem? (i := 16) (by rfl))
theorem zw_917 : Cond.fieldLink RX10 43 "SumHouse$Texts" "writtenCount" "I" ∈ zAll := zi_15 (List.mem_of_getElem? (i := 17) (by decide +kernel))
theorem zw_918 : Cond.code yX10_inscribed cX10_inscribed 2 (some .int) ∈ zAll := zi_15 (List.mem_of_getElem? (i := 18) (by rfl))
theorem zw_919 : Cond.code yX10_emit cX10_emit 4 none ∈ zAll := zi_15 (List.mem_of_getElem? (i := 19) (by rfl))
theorem zw_920 : Cond.fieldLink RX10 46 "SumHouse$Texts" "codeCount" "I" ∈ zAll := zi_15 (List.mem_of_getElem? (i := 20) (by decide +kernel))
theorem zw_921 : Cond.code yX10_signOf cX10_signOf 2 (some .int) ∈ zAll := zi_15 (List.mem_of_getElem? (i := 21) (by rfl))
theorem zw_922 : Cond.code yX10_afterOperand cX10_afterOperand 1 none ∈ zAll := zi_15 (List.mem_of_getElem? (i := 22) (by rfl))
theorem zw_923 : Cond.fieldLink RX10 49 "SumHouse$Texts" "signCount" "I" ∈ zAll := zi_15 (List.mem_of_getElem? (i := 23) (by decide +kernel))
theorem zw_924 : Cond.fieldLink RX10 58 "SumHouse$Texts" "state" "I" ∈ zAll := zi_15 (List.mem_of_getElem? (i := 24) (by decide +kernel))
theorem zw_925 : Cond.methodLink RX10 102 yX10_signOf ∈ zAll := zi_15 (List.mem_of_getElem? (i := 25) (by decide +kernel))
theorem zw_926 : Cond.instanceMethod yX10_signOf ∈ zAll := zi_15 (List.mem_of_getElem? (i := 26) (by decide +kernel))
theorem zw_927 : Cond.selects RX10 yX10_signOf yX10_signOf ∈ zAll := zi_15 (List.mem_of_getElem? (i := 27) (by decide +kernel))
theorem zw_928 : Cond.initialized RX10 ∈ zAll := zi_15 (List.mem_of_getElem? (i := 28) (by decide +kernel))
theorem zw_929 : Cond.constantLong RX10 76 (10) ∈ zAll := zi_15 (List.mem_of_getElem? (i := 29) (by decide +kernel))
theorem zw_930 : Cond.constantLong RX10 78 (48) ∈ zAll := zi_15 (List.mem_of_getElem? (i := 30) (by decide +kernel))
theorem zw_931 : Cond.methodLink RX10 80 yX1_rest ∈ zAll := zi_15 (List.mem_of_getElem? (i := 31) (by decide +kernel))
theorem zw_932 : Cond.methodLink RX10 86 yX10_emit ∈ zAll := zi_15 (List.mem_of_getElem? (i := 32) (by decide +kernel))
theorem zw_933 : Cond.instanceMethod yX10_emit ∈ zAll := zi_15 (List.mem_of_getElem? (i := 33) (by decide +kernel))
theorem zw_934 : Cond.selects RX10 yX10_emit yX10_emit ∈ zAll := zi_15 (List.mem_of_getElem? (i := 34) (by decide +kernel))
theorem zw_935 : Cond.methodLink RX10 90 yX10_afterOperand ∈ zAll := zi_15 (List.mem_of_getElem? (i := 35) (by decide +kernel))
theorem zw_936 : Cond.instanceMethod yX10_afterOperand ∈ zAll := zi_15 (List.mem_of_getElem? (i := 36) (by decide +kernel))
theorem zw_937 : Cond.selects RX10 yX10_afterOperand yX10_afterOperand ∈ zAll := zi_15 (List.mem_of_getElem? (i := 37) (by decide +kernel))
theorem zw_938 : Cond.code yX10_takeNumber cX10_takeNumber 5 (some .int) ∈ zAll := zi_15 (List.mem_of_getElem? (i := 38) (by rfl))
theorem zw_939 : Cond.code yX10_push cX10_push 3 none ∈ zAll := zi_15 (List.mem_of_getElem? (i := 39) (by rfl))
theorem zw_940 : Cond.code yX10_open cX10_open 3 none ∈ zAll := zi_15 (List.mem_of_getElem? (i := 40) (by rfl))
theorem zw_941 : Cond.fieldLink RX10 52 "SumHouse$Texts" "openCount" "I" ∈ zAll := zi_15 (List.mem_of_getElem? (i := 41) (by decide +kernel))
theorem zw_942 : Cond.methodLink RX10 96 yX10_push ∈ zAll := zi_15 (List.mem_of_getElem? (i := 42) (by decide +kernel))
theorem zw_943 : Cond.instanceMethod yX10_push ∈ zAll := zi_15 (List.mem_of_getElem? (i := 43) (by decide +kernel))
theorem zw_944 : Cond.selects RX10 yX10_push yX10_push ∈ zAll := zi_15 (List.mem_of_getElem? (i := 44) (by decide +kernel))
theorem zw_945 : Cond.methodLink RX10 93 yX10_open ∈ zAll := zi_15 (List.mem_of_getElem? (i := 45) (by decide +kernel))
theorem zw_946 : Cond.instanceMethod yX10_open ∈ zAll := zi_15 (List.mem_of_getElem? (i := 46) (by decide +kernel))
theorem zw_947 : Cond.selects RX10 yX10_open yX10_open ∈ zAll := zi_15 (List.mem_of_getElem? (i := 47) (by decide +kernel))
theorem zw_948 : Cond.code yX10_takeOperand cX10_takeOperand 3 none ∈ zAll := zi_15 (List.mem_of_getElem? (i := 48) (by rfl))
theorem zw_949 : Cond.code yX10_unload cX10_unload 3 none ∈ zAll := zi_15 (List.mem_of_getElem? (i := 49) (by rfl))
theorem zw_950 : Cond.code yX10_takeEnd cX10_takeEnd 3 none ∈ zAll := zi_15 (List.mem_of_getElem? (i := 50) (by rfl))
theorem zw_951 : Cond.methodLink RX10 72 yX10_unload ∈ zAll := zi_15 (List.mem_of_getElem? (i := 51) (by decide +kernel))
theorem zw_952 : Cond.instanceMethod yX10_unload ∈ zAll := zi_15 (List.mem_of_getElem? (i := 52) (by decide +kernel))
theorem zw_953 : Cond.selects RX10 yX10_unload yX10_unload ∈ zAll := zi_15 (List.mem_of_getElem? (i := 53) (by decide +kernel))
theorem zw_954 : Cond.methodLink RX10 99 yX10_takeEnd ∈ zAll := zi_15 (List.mem_of_getElem? (i := 54) (by decide +kernel))
theorem zw_955 : Cond.instanceMethod yX10_takeEnd ∈ zAll := zi_15 (List.mem_of_getElem? (i := 55) (by decide +kernel))
theorem zw_956 : Cond.selects RX10 yX10_takeEnd yX10_takeEnd ∈ zAll := zi_15 (List.mem_of_getElem? (i := 56) (by decide +kernel))
theorem zw_957 : Cond.code yX10_takeSign cX10_takeSign 3 none ∈ zAll := zi_15 (List.mem_of_getElem? (i := 57) (by rfl))
theorem zw_958 : Cond.fieldLink RX10 55 "SumHouse$Texts" "valueCount" "I" ∈ zAll := zi_15 (List.mem_of_getElem? (i := 58) (by decide +kernel))
theorem zw_959 : Cond.methodLink RX10 61 yX10_takeNumber ∈ zAll := zi_15 (List.mem_of_getElem? (i := 59) (by decide +kernel))
theorem zw_960 : Cond.instanceMethod yX10_takeNumber ∈ zAll := zi_16 (List.mem_of_getElem? (i := 0) (by decide +kernel))
theorem zw_961 : Cond.selects RX10 yX10_takeNumber yX10_takeNumber ∈ zAll := zi_16 (List.mem_of_getElem? (i := 1) (by decide +kernel))
theorem zw_962 : Cond.methodLink RX10 65 yX10_takeOperand ∈ zAll := zi_16 (List.mem_of_getElem? (i := 2) (by decide +kernel))
theorem zw_963 : Cond.instanceMethod yX10_takeOperand ∈ zAll := zi_16 (List.mem_of_getElem? (i := 3) (by decide +kernel))
theorem zw_964 : Cond.selects RX10 yX10_takeOperand yX10_takeOperand ∈ zAll := zi_16 (List.mem_of_getElem? (i := 4) (by decide +kernel))
theorem zw_965 : Cond.methodLink RX10 69 yX10_takeSign ∈ zAll := zi_16 (List.mem_of_getElem? (i := 5) (by decide +kernel))
theorem zw_966 : Cond.instanceMethod yX10_takeSign ∈ zAll := zi_16 (List.mem_of_getElem? (i := 6) (by decide +kernel))
theorem zw_967 : Cond.selects RX10 yX10_takeSign yX10_takeSign ∈ zAll := zi_16 (List.mem_of_getElem? (i := 7) (by decide +kernel))
theorem zw_968 : Cond.code yX10_compile cX10_compile 4 (some .int) ∈ zAll := zi_16 (List.mem_of_getElem? (i := 8) (by rfl))
theorem zw_969 : Cond.code yX10_result cX10_result 1 (some .int) ∈ zAll := zi_16 (List.mem_of_getElem? (i := 9) (by rfl))
theorem zw_970 : Cond.fieldLink RX10 105 "SumHouse$Texts" "code" "I" ∈ zAll := zi_16 (List.mem_of_getElem? (i := 10) (by decide +kernel))
theorem zw_971 : Cond.methodLink RX10 123 yX9_kindOf ∈ zAll := zi_16 (List.mem_of_getElem? (i := 11) (by decide +kernel))
theorem zw_972 : Cond.methodLink RX10 126 yX9_isZero ∈ zAll := zi_16 (List.mem_of_getElem? (i := 12) (by decide +kernel))
theorem zw_973 : Cond.methodLink RX10 130 yX9_isLine ∈ zAll := zi_16 (List.mem_of_getElem? (i := 13) (by decide +kernel))
theorem zw_974 : Cond.instanceMethod yX9_isLine ∈ zAll := zi_16 (List.mem_of_getElem? (i := 14) (by decide +kernel))
theorem zw_975 : Cond.selects RX9 yX9_isLine yX9_isLine ∈ zAll := zi_16 (List.mem_of_getElem? (i := 15) (by decide +kernel))
theorem zw_976 : Cond.methodLink RX10 134 yX9_isBelowZero ∈ zAll := zi_16 (List.mem_of_getElem? (i := 16) (by decide +kernel))
theorem zw_977 : Cond.instanceMethod yX9_isBelowZero ∈ zAll := zi_16 (List.mem_of_getElem? (i := 17) (by decide +kernel))
theorem zw_978 : Cond.selects RX9 yX9_isBelowZero yX9_isBelowZero ∈ zAll := zi_16 (List.mem_of_getElem? (i := 18) (by decide +kernel))
theorem zw_979 : Cond.methodLink RX10 137 yX9_isLineBetween ∈ zAll := zi_16 (List.mem_of_getElem? (i := 19) (by decide +kernel))
theorem zw_980 : Cond.instanceMethod yX9_isLineBetween ∈ zAll := zi_16 (List.mem_of_getElem? (i := 20) (by decide +kernel))
theorem zw_981 : Cond.selects RX9 yX9_isLineBetween yX9_isLineBetween ∈ zAll := zi_16 (List.mem_of_getElem? (i := 21) (by decide +kernel))
theorem zw_982 : Cond.methodLink RX10 141 yX9_isNumberLine ∈ zAll := zi_16 (List.mem_of_getElem? (i := 22) (by decide +kernel))
theorem zw_983 : Cond.methodLink RX10 144 yX9_hasNumber ∈ zAll := zi_16 (List.mem_of_getElem? (i := 23) (by decide +kernel))
theorem zw_984 : Cond.instanceMethod yX9_hasNumber ∈ zAll := zi_16 (List.mem_of_getElem? (i := 24) (by decide +kernel))
theorem zw_985 : Cond.selects RX9 yX9_hasNumber yX9_hasNumber ∈ zAll := zi_16 (List.mem_of_getElem? (i := 25) (by decide +kernel))
theorem zw_986 : Cond.code yX10_faultOf cX10_faultOf 4 (some .int) ∈ zAll := zi_16 (List.mem_of_getElem? (i := 26) (by rfl))
theorem zw_987 : Cond.fieldLink RX10 108 "SumHouse$Texts" "right" "I" ∈ zAll := zi_16 (List.mem_of_getElem? (i := 27) (by decide +kernel))
theorem zw_988 : Cond.fieldLink RX10 111 "SumHouse$Texts" "left" "I" ∈ zAll := zi_16 (List.mem_of_getElem? (i := 28) (by decide +kernel))
theorem zw_989 : Cond.methodLink RX10 114 yX10_faultOf ∈ zAll := zi_16 (List.mem_of_getElem? (i := 29) (by decide +kernel))
theorem zw_990 : Cond.instanceMethod yX10_faultOf ∈ zAll := zi_16 (List.mem_of_getElem? (i := 30) (by decide +kernel))
theorem zw_991 : Cond.selects RX10 yX10_faultOf yX10_faultOf ∈ zAll := zi_16 (List.mem_of_getElem? (i := 31) (by decide +kernel))
theorem zw_992 : Cond.code yX10_ready cX10_ready 3 (some .int) ∈ zAll := zi_16 (List.mem_of_getElem? (i := 32) (by rfl))
theorem zw_993 : Cond.methodLink RX10 118 yX9_settle ∈ zAll := zi_16 (List.mem_of_getElem? (i := 33) (by decide +kernel))
theorem zw_994 : Cond.code yX10_finish cX10_finish 2 (some .int) ∈ zAll := zi_16 (List.mem_of_getElem? (i := 34) (by rfl))
theorem zw_995 : Cond.code yX10_draw cX10_draw 2 none ∈ zAll := zi_16 (List.mem_of_getElem? (i := 35) (by rfl))
theorem zw_996 : Cond.fieldLink RX10 147 "SumHouse$Texts" "inkCount" "I" ∈ zAll := zi_16 (List.mem_of_getElem? (i := 36) (by decide +kernel))
theorem zw_997 : Cond.code yX10_drawNumber cX10_drawNumber 5 none ∈ zAll := zi_16 (List.mem_of_getElem? (i := 37) (by rfl))
theorem zw_998 : Cond.constant RX10 213 (1000000000) ∈ zAll := zi_16 (List.mem_of_getElem? (i := 38) (by decide +kernel))
theorem zw_999 : Cond.methodLink RX10 155 yX10_draw ∈ zAll := zi_16 (List.mem_of_getElem? (i := 39) (by decide +kernel))
theorem zw_1000 : Cond.instanceMethod yX10_draw ∈ zAll := zi_16 (List.mem_of_getElem? (i := 40) (by decide +kernel))
theorem zw_1001 : Cond.selects RX10 yX10_draw yX10_draw ∈ zAll := zi_16 (List.mem_of_getElem? (i := 41) (by decide +kernel))
theorem zw_1002 : Cond.code yX10_drawLetter cX10_drawLetter 4 none ∈ zAll := zi_16 (List.mem_of_getElem? (i := 42) (by rfl))
theorem zw_1003 : Cond.methodLink RX10 206 yX10_drawNumber ∈ zAll := zi_16 (List.mem_of_getElem? (i := 43) (by decide +kernel))
theorem zw_1004 : Cond.instanceMethod yX10_drawNumber ∈ zAll := zi_16 (List.mem_of_getElem? (i := 44) (by decide +kernel))
theorem zw_1005 : Cond.selects RX10 yX10_drawNumber yX10_drawNumber ∈ zAll := zi_16 (List.mem_of_getElem? (i := 45) (by decide +kernel))
theorem zw_1006 : Cond.code yX10_drawPart cX10_drawPart 7 none ∈ zAll := zi_16 (List.mem_of_getElem? (i := 46) (by rfl))
theorem zw_1007 : Cond.methodLink RX10 201 Lib.Math.abs.name ∈ zAll := zi_16 (List.mem_of_getElem? (i := 47) (by decide +kernel))
theorem zw_1008 : Cond.methodLink RX10 209 yX10_drawLetter ∈ zAll := zi_16 (List.mem_of_getElem? (i := 48) (by decide +kernel))
theorem zw_1009 : Cond.instanceMethod yX10_drawLetter ∈ zAll := zi_16 (List.mem_of_getElem? (i := 49) (by decide +kernel))
theorem zw_1010 : Cond.selects RX10 yX10_drawLetter yX10_drawLetter ∈ zAll := zi_16 (List.mem_of_getElem? (i := 50) (by decide +kernel))
theorem zw_1011 : Cond.methodLink RX10 184 yX6_tall ∈ zAll := zi_16 (List.mem_of_getElem? (i := 51) (by decide +kernel))
theorem zw_1012 : Cond.methodLink RX10 187 yX6_wide ∈ zAll := zi_16 (List.mem_of_getElem? (i := 52) (by decide +kernel))
theorem zw_1013 : Cond.methodLink RX10 190 yX6_ratioNumber ∈ zAll := zi_16 (List.mem_of_getElem? (i := 53) (by decide +kernel))
theorem zw_1014 : Cond.methodLink RX10 194 yX1_small ∈ zAll := zi_16 (List.mem_of_getElem? (i := 54) (by decide +kernel))
theorem zw_1015 : Cond.methodLink RX10 197 yX10_drawPart ∈ zAll := zi_16 (List.mem_of_getElem? (i := 55) (by decide +kernel))
theorem zw_1016 : Cond.instanceMethod yX10_drawPart ∈ zAll := zi_16 (List.mem_of_getElem? (i := 56) (by decide +kernel))
theorem zw_1017 : Cond.selects RX10 yX10_drawPart yX10_drawPart ∈ zAll := zi_16 (List.mem_of_getElem? (i := 57) (by decide +kernel))
theorem zw_1018 : Cond.code yX10_drawPolynomial cX10_drawPolynomial 7 none ∈ zAll := zi_16 (List.mem_of_getElem? (i := 58) (by rfl))
theorem zw_1019 : Cond.methodLink RX10 178 yX6_isWhole ∈ zAll := zi_16 (List.mem_of_getElem? (i := 59) (by decide +kernel))
theorem zw_1020 : Cond.instanceMethod yX6_isWhole ∈ zAll := zi_17 (List.mem_of_getElem? (i := 0) (by decide +kernel))
theorem zw_1021 : Cond.selects RX6 yX6_isWhole yX6_isWhole ∈ zAll := zi_17 (List.mem_of_getElem? (i := 1) (by decide +kernel))
theorem zw_1022 : Cond.methodLink RX10 181 yX10_drawPolynomial ∈ zAll := zi_17 (List.mem_of_getElem? (i := 2) (by decide +kernel))
theorem zw_1023 : Cond.instanceMethod yX10_drawPolynomial ∈ zAll := zi_17 (List.mem_of_getElem? (i := 3) (by decide +kernel))
theorem zw_1024 : Cond.selects RX10 yX10_drawPolynomial yX10_drawPolynomial ∈ zAll := zi_17 (List.mem_of_getElem? (i := 4) (by decide +kernel))
theorem zw_1025 : Cond.code yX10_drawRatio cX10_drawRatio 3 none ∈ zAll := zi_17 (List.mem_of_getElem? (i := 5) (by rfl))
theorem zw_1026 : Cond.code yX10_drawBase cX10_drawBase 3 none ∈ zAll := zi_17 (List.mem_of_getElem? (i := 6) (by rfl))
theorem zw_1027 : Cond.methodLink RX10 214 yX6_fact ∈ zAll := zi_17 (List.mem_of_getElem? (i := 7) (by decide +kernel))
theorem zw_1028 : Cond.code yX10_drawFactorial cX10_drawFactorial 6 none ∈ zAll := zi_17 (List.mem_of_getElem? (i := 8) (by rfl))
theorem zw_1029 : Cond.fieldLink RX10 150 "SumHouse$Slot" "kind" "I" ∈ zAll := zi_17 (List.mem_of_getElem? (i := 9) (by decide +kernel))
theorem zw_1030 : Cond.fieldLink RX10 162 "SumHouse$Slot" "x" "I" ∈ zAll := zi_17 (List.mem_of_getElem? (i := 10) (by decide +kernel))
theorem zw_1031 : Cond.fieldLink RX10 168 "SumHouse$Slot" "y" "I" ∈ zAll := zi_17 (List.mem_of_getElem? (i := 11) (by decide +kernel))
theorem zw_1032 : Cond.fieldLink RX10 171 "SumHouse$Slot" "factorials" "I" ∈ zAll := zi_17 (List.mem_of_getElem? (i := 12) (by decide +kernel))
theorem zw_1033 : Cond.methodLink RX10 158 yX10_drawRatio ∈ zAll := zi_17 (List.mem_of_getElem? (i := 13) (by decide +kernel))
theorem zw_1034 : Cond.instanceMethod yX10_drawRatio ∈ zAll := zi_17 (List.mem_of_getElem? (i := 14) (by decide +kernel))
theorem zw_1035 : Cond.selects RX10 yX10_drawRatio yX10_drawRatio ∈ zAll := zi_17 (List.mem_of_getElem? (i := 15) (by decide +kernel))
theorem zw_1036 : Cond.methodLink RX10 165 yX10_drawBase ∈ zAll := zi_17 (List.mem_of_getElem? (i := 16) (by decide +kernel))
theorem zw_1037 : Cond.instanceMethod yX10_drawBase ∈ zAll := zi_17 (List.mem_of_getElem? (i := 17) (by decide +kernel))
theorem zw_1038 : Cond.selects RX10 yX10_drawBase yX10_drawBase ∈ zAll := zi_17 (List.mem_of_getElem? (i := 18) (by decide +kernel))
theorem zw_1039 : Cond.methodLink RX10 174 yX10_drawFactorial ∈ zAll := zi_17 (List.mem_of_getElem? (i := 19) (by decide +kernel))
theorem zw_1040 : Cond.instanceMethod yX10_drawFactorial ∈ zAll := zi_17 (List.mem_of_getElem? (i := 20) (by decide +kernel))
theorem zw_1041 : Cond.selects RX10 yX10_drawFactorial yX10_drawFactorial ∈ zAll := zi_17 (List.mem_of_getElem? (i := 21) (by decide +kernel))
theorem zw_1042 : Cond.code yX10_inscribe cX10_inscribe 3 (some .int) ∈ zAll := zi_17 (List.mem_of_getElem? (i := 22) (by rfl))
theorem zw_1043 : Cond.methodLink RX11 1 objectInit ∈ zAll := zi_17 (List.mem_of_getElem? (i := 23) (by decide +kernel))
theorem zw_1044 : Cond.classLink RX11 9 RX6 ∈ zAll := zi_17 (List.mem_of_getElem? (i := 24) (by decide +kernel))
theorem zw_1045 : Cond.fieldLink RX11 11 "SumHouse" "slots" "[LSumHouse$Slot;" ∈ zAll := zi_17 (List.mem_of_getElem? (i := 25) (by decide +kernel))
theorem zw_1046 : Cond.instantiable RX6 12 ∈ zAll := zi_17 (List.mem_of_getElem? (i := 26) (by decide +kernel))
theorem zw_1047 : Cond.classLink RX11 16 RX4 ∈ zAll := zi_17 (List.mem_of_getElem? (i := 27) (by decide +kernel))
theorem zw_1048 : Cond.instantiable RX4 3 ∈ zAll := zi_17 (List.mem_of_getElem? (i := 28) (by decide +kernel))
theorem zw_1049 : Cond.classLink RX11 19 RX2 ∈ zAll := zi_17 (List.mem_of_getElem? (i := 29) (by decide +kernel))
theorem zw_1050 : Cond.instantiable RX2 1 ∈ zAll := zi_17 (List.mem_of_getElem? (i := 30) (by decide +kernel))
theorem zw_1051 : Cond.classLink RX11 24 RX0 ∈ zAll := zi_17 (List.mem_of_getElem? (i := 31) (by decide +kernel))
theorem zw_1052 : Cond.instantiable RX0 5 ∈ zAll := zi_17 (List.mem_of_getElem? (i := 32) (by decide +kernel))
theorem zw_1053 : Cond.classLink RX11 29 RX3 ∈ zAll := zi_17 (List.mem_of_getElem? (i := 33) (by decide +kernel))
theorem zw_1054 : Cond.instantiable RX3 3 ∈ zAll := zi_17 (List.mem_of_getElem? (i := 34) (by decide +kernel))
theorem zw_1055 : Cond.classLink RX11 34 RX9 ∈ zAll := zi_17 (List.mem_of_getElem? (i := 35) (by decide +kernel))
theorem zw_1056 : Cond.instantiable RX9 8 ∈ zAll := zi_17 (List.mem_of_getElem? (i := 36) (by decide +kernel))
theorem zw_1057 : Cond.classLink RX11 39 RX7 ∈ zAll := zi_17 (List.mem_of_getElem? (i := 37) (by decide +kernel))
theorem zw_1058 : Cond.instantiable RX7 14 ∈ zAll := zi_17 (List.mem_of_getElem? (i := 38) (by decide +kernel))
theorem zw_1059 : Cond.fieldLink RX11 42 "SumHouse" "room" "LSumHouse$Room;" ∈ zAll := zi_17 (List.mem_of_getElem? (i := 39) (by decide +kernel))
theorem zw_1060 : Cond.fieldLink RX11 46 "SumHouse" "planes" "LSumHouse$Planes;" ∈ zAll := zi_17 (List.mem_of_getElem? (i := 40) (by decide +kernel))
theorem zw_1061 : Cond.fieldLink RX11 50 "SumHouse" "divisors" "LSumHouse$Divisors;" ∈ zAll := zi_17 (List.mem_of_getElem? (i := 41) (by decide +kernel))
theorem zw_1062 : Cond.fieldLink RX11 54 "SumHouse" "ratios" "LSumHouse$Ratios;" ∈ zAll := zi_17 (List.mem_of_getElem? (i := 42) (by decide +kernel))
theorem zw_1063 : Cond.fieldLink RX11 58 "SumHouse" "terms" "LSumHouse$Terms;" ∈ zAll := zi_17 (List.mem_of_getElem? (i := 43) (by decide +kernel))
theorem zw_1064 : Cond.classLink RX11 62 RX10 ∈ zAll := zi_17 (List.mem_of_getElem? (i := 44) (by decide +kernel))
theorem zw_1065 : Cond.instantiable RX10 19 ∈ zAll := zi_17 (List.mem_of_getElem? (i := 45) (by decide +kernel))
theorem zw_1066 : Cond.fieldLink RX11 67 "SumHouse" "texts" "LSumHouse$Texts;" ∈ zAll := zi_17 (List.mem_of_getElem? (i := 46) (by decide +kernel))
theorem zw_1067 : Cond.classLink RX11 71 RX8 ∈ zAll := zi_17 (List.mem_of_getElem? (i := 47) (by decide +kernel))
theorem zw_1068 : Cond.instantiable RX8 18 ∈ zAll := zi_17 (List.mem_of_getElem? (i := 48) (by decide +kernel))
theorem zw_1069 : Cond.fieldLink RX11 76 "SumHouse" "sums" "LSumHouse$Sums;" ∈ zAll := zi_17 (List.mem_of_getElem? (i := 49) (by decide +kernel))
theorem zw_1070 : Cond.classLink RX11 80 RX5 ∈ zAll := zi_17 (List.mem_of_getElem? (i := 50) (by decide +kernel))
theorem zw_1071 : Cond.instantiable RX5 9 ∈ zAll := zi_17 (List.mem_of_getElem? (i := 51) (by decide +kernel))
theorem zw_1072 : Cond.fieldLink RX11 85 "SumHouse" "sequences" "LSumHouse$Sequences;" ∈ zAll := zi_17 (List.mem_of_getElem? (i := 52) (by decide +kernel))
theorem zw_1073 : Cond.fieldLink RX11 89 "SumHouse" "fed" "[I" ∈ zAll := zi_17 (List.mem_of_getElem? (i := 53) (by decide +kernel))
theorem zw_1074 : Cond.fieldLink RX11 93 "SumHouse" "fedCount" "I" ∈ zAll := zi_17 (List.mem_of_getElem? (i := 54) (by decide +kernel))
theorem zw_1075 : Cond.fieldLink RX11 97 "SumHouse" "found" "[I" ∈ zAll := zi_17 (List.mem_of_getElem? (i := 55) (by decide +kernel))
theorem zw_1076 : Cond.fieldLink RX11 100 "SumHouse" "foundCount" "I" ∈ zAll := zi_17 (List.mem_of_getElem? (i := 56) (by decide +kernel))
theorem zw_1077 : Cond.methodLink RX11 15 yX6_init ∈ zAll := zi_17 (List.mem_of_getElem? (i := 57) (by decide +kernel))
theorem zw_1078 : Cond.instanceMethod yX6_init ∈ zAll := zi_17 (List.mem_of_getElem? (i := 58) (by decide +kernel))
theorem zw_1079 : Cond.methodLink RX11 18 yX4_init ∈ zAll := zi_17 (List.mem_of_getElem? (i := 59) (by decide +kernel))
theorem zw_1080 : Cond.instanceMethod yX4_init ∈ zAll := zi_18 (List.mem_of_getElem? (i := 0) (by decide +kernel))
theorem zw_1081 : Cond.methodLink RX11 21 yX2_init ∈ zAll := zi_18 (List.mem_of_getElem? (i := 1) (by decide +kernel))
theorem zw_1082 : Cond.instanceMethod yX2_init ∈ zAll := zi_18 (List.mem_of_getElem? (i := 2) (by decide +kernel))
theorem zw_1083 : Cond.methodLink RX11 26 yX0_init ∈ zAll := zi_18 (List.mem_of_getElem? (i := 3) (by decide +kernel))
theorem zw_1084 : Cond.instanceMethod yX0_init ∈ zAll := zi_18 (List.mem_of_getElem? (i := 4) (by decide +kernel))
theorem zw_1085 : Cond.methodLink RX11 31 yX3_init ∈ zAll := zi_18 (List.mem_of_getElem? (i := 5) (by decide +kernel))
theorem zw_1086 : Cond.instanceMethod yX3_init ∈ zAll := zi_18 (List.mem_of_getElem? (i := 6) (by decide +kernel))
theorem zw_1087 : Cond.methodLink RX11 36 yX9_init ∈ zAll := zi_18 (List.mem_of_getElem? (i := 7) (by decide +kernel))
theorem zw_1088 : Cond.instanceMethod yX9_init ∈ zAll := zi_18 (List.mem_of_getElem? (i := 8) (by decide +kernel))
theorem zw_1089 : Cond.methodLink RX11 41 yX7_init ∈ zAll := zi_18 (List.mem_of_getElem? (i := 9) (by decide +kernel))
theorem zw_1090 : Cond.instanceMethod yX7_init ∈ zAll := zi_18 (List.mem_of_getElem? (i := 10) (by decide +kernel))
theorem zw_1091 : Cond.methodLink RX11 64 yX10_init ∈ zAll := zi_18 (List.mem_of_getElem? (i := 11) (by decide +kernel))
theorem zw_1092 : Cond.instanceMethod yX10_init ∈ zAll := zi_18 (List.mem_of_getElem? (i := 12) (by decide +kernel))
theorem zw_1093 : Cond.methodLink RX11 73 yX8_init ∈ zAll := zi_18 (List.mem_of_getElem? (i := 13) (by decide +kernel))
theorem zw_1094 : Cond.instanceMethod yX8_init ∈ zAll := zi_18 (List.mem_of_getElem? (i := 14) (by decide +kernel))
theorem zw_1095 : Cond.methodLink RX11 82 yX5_init ∈ zAll := zi_18 (List.mem_of_getElem? (i := 15) (by decide +kernel))
theorem zw_1096 : Cond.instanceMethod yX5_init ∈ zAll := zi_18 (List.mem_of_getElem? (i := 16) (by decide +kernel))
theorem zw_1097 : Cond.code yX11_init cX11_init 7 none ∈ zAll := zi_18 (List.mem_of_getElem? (i := 17) (by rfl))
theorem zw_1098 : Cond.code yX11_type cX11_type 4 (some .int) ∈ zAll := zi_18 (List.mem_of_getElem? (i := 18) (by rfl))
theorem zw_1099 : Cond.methodLink RX11 103 yX10_append ∈ zAll := zi_18 (List.mem_of_getElem? (i := 19) (by decide +kernel))
theorem zw_1100 : Cond.instanceMethod yX10_append ∈ zAll := zi_18 (List.mem_of_getElem? (i := 20) (by decide +kernel))
theorem zw_1101 : Cond.selects RX10 yX10_append yX10_append ∈ zAll := zi_18 (List.mem_of_getElem? (i := 21) (by decide +kernel))
theorem zw_1102 : Cond.code yX11_slotAt cX11_slotAt 2 (some (.object "SumHouse$Slot")) ∈ zAll := zi_18 (List.mem_of_getElem? (i := 22) (by rfl))
theorem zw_1103 : Cond.fieldLink RX11 118 "SumHouse$Texts" "codeCount" "I" ∈ zAll := zi_18 (List.mem_of_getElem? (i := 23) (by decide +kernel))
theorem zw_1104 : Cond.fieldLink RX11 125 "SumHouse$Texts" "left" "I" ∈ zAll := zi_18 (List.mem_of_getElem? (i := 24) (by decide +kernel))
theorem zw_1105 : Cond.fieldLink RX11 128 "SumHouse$Texts" "right" "I" ∈ zAll := zi_18 (List.mem_of_getElem? (i := 25) (by decide +kernel))
theorem zw_1106 : Cond.fieldLink RX11 131 "SumHouse$Texts" "code" "I" ∈ zAll := zi_18 (List.mem_of_getElem? (i := 26) (by decide +kernel))
theorem zw_1107 : Cond.constant RX11 134 (2147483646) ∈ zAll := zi_18 (List.mem_of_getElem? (i := 27) (by decide +kernel))
theorem zw_1108 : Cond.fieldLink RX11 163 "SumHouse$Room" "full" "Z" ∈ zAll := zi_18 (List.mem_of_getElem? (i := 28) (by decide +kernel))
theorem zw_1109 : Cond.fieldLink RX11 167 "SumHouse$Texts" "faultPlace" "I" ∈ zAll := zi_18 (List.mem_of_getElem? (i := 29) (by decide +kernel))
theorem zw_1110 : Cond.methodLink RX11 107 yX11_slotAt ∈ zAll := zi_18 (List.mem_of_getElem? (i := 30) (by decide +kernel))
theorem zw_1111 : Cond.instanceMethod yX11_slotAt ∈ zAll := zi_18 (List.mem_of_getElem? (i := 31) (by decide +kernel))
theorem zw_1112 : Cond.selects RX11 yX11_slotAt yX11_slotAt ∈ zAll := zi_18 (List.mem_of_getElem? (i := 32) (by decide +kernel))
theorem zw_1113 : Cond.initialized RX11 ∈ zAll := zi_18 (List.mem_of_getElem? (i := 33) (by decide +kernel))
theorem zw_1114 : Cond.methodLink RX11 111 yX4_empty ∈ zAll := zi_18 (List.mem_of_getElem? (i := 34) (by decide +kernel))
theorem zw_1115 : Cond.methodLink RX11 114 yX10_compile ∈ zAll := zi_18 (List.mem_of_getElem? (i := 35) (by decide +kernel))
theorem zw_1116 : Cond.instanceMethod yX10_compile ∈ zAll := zi_18 (List.mem_of_getElem? (i := 36) (by decide +kernel))
theorem zw_1117 : Cond.selects RX10 yX10_compile yX10_compile ∈ zAll := zi_18 (List.mem_of_getElem? (i := 37) (by decide +kernel))
theorem zw_1118 : Cond.methodLink RX11 121 yX10_ready ∈ zAll := zi_18 (List.mem_of_getElem? (i := 38) (by decide +kernel))
theorem zw_1119 : Cond.instanceMethod yX10_ready ∈ zAll := zi_18 (List.mem_of_getElem? (i := 39) (by decide +kernel))
theorem zw_1120 : Cond.selects RX10 yX10_ready yX10_ready ∈ zAll := zi_18 (List.mem_of_getElem? (i := 40) (by decide +kernel))
theorem zw_1121 : Cond.methodLink RX11 135 yX9_plus ∈ zAll := zi_18 (List.mem_of_getElem? (i := 41) (by decide +kernel))
theorem zw_1122 : Cond.instanceMethod yX9_plus ∈ zAll := zi_18 (List.mem_of_getElem? (i := 42) (by decide +kernel))
theorem zw_1123 : Cond.selects RX9 yX9_plus yX9_plus ∈ zAll := zi_18 (List.mem_of_getElem? (i := 43) (by decide +kernel))
theorem zw_1124 : Cond.methodLink RX11 139 yX9_times ∈ zAll := zi_18 (List.mem_of_getElem? (i := 44) (by decide +kernel))
theorem zw_1125 : Cond.instanceMethod yX9_times ∈ zAll := zi_18 (List.mem_of_getElem? (i := 45) (by decide +kernel))
theorem zw_1126 : Cond.selects RX9 yX9_times yX9_times ∈ zAll := zi_18 (List.mem_of_getElem? (i := 46) (by decide +kernel))
theorem zw_1127 : Cond.methodLink RX11 142 yX9_powerOfLine ∈ zAll := zi_18 (List.mem_of_getElem? (i := 47) (by decide +kernel))
theorem zw_1128 : Cond.instanceMethod yX9_powerOfLine ∈ zAll := zi_18 (List.mem_of_getElem? (i := 48) (by decide +kernel))
theorem zw_1129 : Cond.selects RX9 yX9_powerOfLine yX9_powerOfLine ∈ zAll := zi_18 (List.mem_of_getElem? (i := 49) (by decide +kernel))
theorem zw_1130 : Cond.methodLink RX11 145 yX9_factorialsOfLines ∈ zAll := zi_18 (List.mem_of_getElem? (i := 50) (by decide +kernel))
theorem zw_1131 : Cond.instanceMethod yX9_factorialsOfLines ∈ zAll := zi_18 (List.mem_of_getElem? (i := 51) (by decide +kernel))
theorem zw_1132 : Cond.selects RX9 yX9_factorialsOfLines yX9_factorialsOfLines ∈ zAll := zi_18 (List.mem_of_getElem? (i := 52) (by decide +kernel))
theorem zw_1133 : Cond.methodLink RX11 148 yX9_negative ∈ zAll := zi_18 (List.mem_of_getElem? (i := 53) (by decide +kernel))
theorem zw_1134 : Cond.instanceMethod yX9_negative ∈ zAll := zi_18 (List.mem_of_getElem? (i := 54) (by decide +kernel))
theorem zw_1135 : Cond.selects RX9 yX9_negative yX9_negative ∈ zAll := zi_18 (List.mem_of_getElem? (i := 55) (by decide +kernel))
theorem zw_1136 : Cond.methodLink RX11 151 yX9_ofNumber ∈ zAll := zi_18 (List.mem_of_getElem? (i := 56) (by decide +kernel))
theorem zw_1137 : Cond.methodLink RX11 154 yX9_line ∈ zAll := zi_18 (List.mem_of_getElem? (i := 57) (by decide +kernel))
theorem zw_1138 : Cond.instanceMethod yX9_line ∈ zAll := zi_18 (List.mem_of_getElem? (i := 58) (by decide +kernel))
theorem zw_1139 : Cond.selects RX9 yX9_line yX9_line ∈ zAll := zi_18 (List.mem_of_getElem? (i := 59) (by decide +kernel))
theorem zw_1140 : Cond.methodLink RX11 157 yX10_finish ∈ zAll := zi_19 (List.mem_of_getElem? (i := 0) (by decide +kernel))
theorem zw_1141 : Cond.instanceMethod yX10_finish ∈ zAll := zi_19 (List.mem_of_getElem? (i := 1) (by decide +kernel))
theorem zw_1142 : Cond.selects RX10 yX10_finish yX10_finish ∈ zAll := zi_19 (List.mem_of_getElem? (i := 2) (by decide +kernel))
theorem zw_1143 : Cond.methodLink RX11 160 yX10_emptyTape ∈ zAll := zi_19 (List.mem_of_getElem? (i := 3) (by decide +kernel))
theorem zw_1144 : Cond.instanceMethod yX10_emptyTape ∈ zAll := zi_19 (List.mem_of_getElem? (i := 4) (by decide +kernel))
theorem zw_1145 : Cond.selects RX10 yX10_emptyTape yX10_emptyTape ∈ zAll := zi_19 (List.mem_of_getElem? (i := 5) (by decide +kernel))
theorem zw_1146 : Cond.methodLink RX11 170 yX10_result ∈ zAll := zi_19 (List.mem_of_getElem? (i := 6) (by decide +kernel))
theorem zw_1147 : Cond.instanceMethod yX10_result ∈ zAll := zi_19 (List.mem_of_getElem? (i := 7) (by decide +kernel))
theorem zw_1148 : Cond.selects RX10 yX10_result yX10_result ∈ zAll := zi_19 (List.mem_of_getElem? (i := 8) (by decide +kernel))
theorem zw_1149 : Cond.methodLink RX11 173 yX9_save ∈ zAll := zi_19 (List.mem_of_getElem? (i := 9) (by decide +kernel))
theorem zw_1150 : Cond.instanceMethod yX9_save ∈ zAll := zi_19 (List.mem_of_getElem? (i := 10) (by decide +kernel))
theorem zw_1151 : Cond.selects RX9 yX9_save yX9_save ∈ zAll := zi_19 (List.mem_of_getElem? (i := 11) (by decide +kernel))
theorem zw_1152 : Cond.code yX11_read cX11_read 8 (some .int) ∈ zAll := zi_19 (List.mem_of_getElem? (i := 12) (by rfl))
theorem zw_1153 : Cond.code yX11_place cX11_place 1 (some .int) ∈ zAll := zi_19 (List.mem_of_getElem? (i := 13) (by rfl))
theorem zw_1154 : Cond.code yX11_isRatioOrTerm cX11_isRatioOrTerm 1 (some .boolean) ∈ zAll := zi_19 (List.mem_of_getElem? (i := 14) (by rfl))
theorem zw_1155 : Cond.fieldLink RX11 191 "SumHouse$Slot" "kind" "I" ∈ zAll := zi_19 (List.mem_of_getElem? (i := 15) (by decide +kernel))
theorem zw_1156 : Cond.methodLink RX11 177 yX11_isRatioOrTerm ∈ zAll := zi_19 (List.mem_of_getElem? (i := 16) (by decide +kernel))
theorem zw_1157 : Cond.static yX11_isRatioOrTerm ∈ zAll := zi_19 (List.mem_of_getElem? (i := 17) (by decide +kernel))
theorem zw_1158 : Cond.methodLink RX11 181 yX10_inscribe ∈ zAll := zi_19 (List.mem_of_getElem? (i := 18) (by decide +kernel))
theorem zw_1159 : Cond.instanceMethod yX10_inscribe ∈ zAll := zi_19 (List.mem_of_getElem? (i := 19) (by decide +kernel))
theorem zw_1160 : Cond.selects RX10 yX10_inscribe yX10_inscribe ∈ zAll := zi_19 (List.mem_of_getElem? (i := 20) (by decide +kernel))
theorem zw_1161 : Cond.code yX11_write cX11_write 3 (some .int) ∈ zAll := zi_19 (List.mem_of_getElem? (i := 21) (by rfl))
theorem zw_1162 : Cond.code yX11_written cX11_written 2 (some .int) ∈ zAll := zi_19 (List.mem_of_getElem? (i := 22) (by rfl))
theorem zw_1163 : Cond.methodLink RX11 185 yX10_inscribed ∈ zAll := zi_19 (List.mem_of_getElem? (i := 23) (by decide +kernel))
theorem zw_1164 : Cond.instanceMethod yX10_inscribed ∈ zAll := zi_19 (List.mem_of_getElem? (i := 24) (by decide +kernel))
theorem zw_1165 : Cond.selects RX10 yX10_inscribed yX10_inscribed ∈ zAll := zi_19 (List.mem_of_getElem? (i := 25) (by decide +kernel))
theorem zw_1166 : Cond.code yX11_again cX11_again 1 (some .int) ∈ zAll := zi_19 (List.mem_of_getElem? (i := 26) (by rfl))
theorem zw_1167 : Cond.methodLink RX11 188 yX10_retype ∈ zAll := zi_19 (List.mem_of_getElem? (i := 27) (by decide +kernel))
theorem zw_1168 : Cond.instanceMethod yX10_retype ∈ zAll := zi_19 (List.mem_of_getElem? (i := 28) (by decide +kernel))
theorem zw_1169 : Cond.selects RX10 yX10_retype yX10_retype ∈ zAll := zi_19 (List.mem_of_getElem? (i := 29) (by decide +kernel))
theorem zw_1170 : Cond.code yX11_kind cX11_kind 3 (some .int) ∈ zAll := zi_19 (List.mem_of_getElem? (i := 30) (by rfl))
theorem zw_1171 : Cond.code yX11_drop cX11_drop 4 (some .int) ∈ zAll := zi_19 (List.mem_of_getElem? (i := 31) (by rfl))
theorem zw_1172 : Cond.methodLink RX11 194 yX6_wipe ∈ zAll := zi_19 (List.mem_of_getElem? (i := 32) (by decide +kernel))
theorem zw_1173 : Cond.code yX11_degree cX11_degree 5 (some .int) ∈ zAll := zi_19 (List.mem_of_getElem? (i := 33) (by rfl))
theorem zw_1174 : Cond.methodLink RX11 197 yX6_wide ∈ zAll := zi_19 (List.mem_of_getElem? (i := 34) (by decide +kernel))
theorem zw_1175 : Cond.methodLink RX11 200 yX6_tall ∈ zAll := zi_19 (List.mem_of_getElem? (i := 35) (by decide +kernel))
theorem zw_1176 : Cond.code yX11_number cX11_number 6 (some .int) ∈ zAll := zi_19 (List.mem_of_getElem? (i := 36) (by rfl))
theorem zw_1177 : Cond.fieldLink RX11 206 "SumHouse$Slot" "order" "I" ∈ zAll := zi_19 (List.mem_of_getElem? (i := 37) (by decide +kernel))
theorem zw_1178 : Cond.methodLink RX11 203 yX6_ratioNumber ∈ zAll := zi_19 (List.mem_of_getElem? (i := 38) (by decide +kernel))
theorem zw_1179 : Cond.methodLink RX11 209 yX6_stepNumber ∈ zAll := zi_19 (List.mem_of_getElem? (i := 39) (by decide +kernel))
theorem zw_1180 : Cond.code yX11_told cX11_told 4 (some .int) ∈ zAll := zi_19 (List.mem_of_getElem? (i := 40) (by rfl))
theorem zw_1181 : Cond.fieldLink RX11 213 "SumHouse$Slot" "x" "I" ∈ zAll := zi_19 (List.mem_of_getElem? (i := 41) (by decide +kernel))
theorem zw_1182 : Cond.fieldLink RX11 216 "SumHouse$Slot" "y" "I" ∈ zAll := zi_19 (List.mem_of_getElem? (i := 42) (by decide +kernel))
theorem zw_1183 : Cond.fieldLink RX11 219 "SumHouse$Slot" "factorials" "I" ∈ zAll := zi_19 (List.mem_of_getElem? (i := 43) (by decide +kernel))
theorem zw_1184 : Cond.fieldLink RX11 222 "SumHouse$Slot" "needs" "I" ∈ zAll := zi_19 (List.mem_of_getElem? (i := 44) (by decide +kernel))
theorem zw_1185 : Cond.code yX11_factorial cX11_factorial 5 (some .int) ∈ zAll := zi_19 (List.mem_of_getElem? (i := 45) (by rfl))
theorem zw_1186 : Cond.methodLink RX11 225 yX6_fact ∈ zAll := zi_19 (List.mem_of_getElem? (i := 46) (by decide +kernel))
theorem zw_1187 : Cond.code yX11_count cX11_count 5 (some .int) ∈ zAll := zi_19 (List.mem_of_getElem? (i := 47) (by rfl))
theorem zw_1188 : Cond.fieldLink RX11 228 "SumHouse$Texts" "tapeCount" "I" ∈ zAll := zi_19 (List.mem_of_getElem? (i := 48) (by decide +kernel))
theorem zw_1189 : Cond.fieldLink RX11 231 "SumHouse$Texts" "writtenCount" "I" ∈ zAll := zi_19 (List.mem_of_getElem? (i := 49) (by decide +kernel))
theorem zw_1190 : Cond.code yX11_isPolynomial cX11_isPolynomial 1 (some .boolean) ∈ zAll := zi_19 (List.mem_of_getElem? (i := 50) (by rfl))
theorem zw_1191 : Cond.methodLink RX11 428 yX6_isWhole ∈ zAll := zi_19 (List.mem_of_getElem? (i := 51) (by decide +kernel))
theorem zw_1192 : Cond.fieldLink RX11 262 "SumHouse$Room" "top" "I" ∈ zAll := zi_19 (List.mem_of_getElem? (i := 52) (by decide +kernel))
theorem zw_1193 : Cond.methodLink RX11 250 yX9_ratioOf ∈ zAll := zi_19 (List.mem_of_getElem? (i := 53) (by decide +kernel))
theorem zw_1194 : Cond.methodLink RX11 253 yX9_open ∈ zAll := zi_19 (List.mem_of_getElem? (i := 54) (by decide +kernel))
theorem zw_1195 : Cond.methodLink RX11 256 yX0_gcd ∈ zAll := zi_19 (List.mem_of_getElem? (i := 55) (by decide +kernel))
theorem zw_1196 : Cond.methodLink RX11 259 yX0_resultant ∈ zAll := zi_19 (List.mem_of_getElem? (i := 56) (by decide +kernel))
theorem zw_1197 : Cond.instanceMethod yX0_resultant ∈ zAll := zi_19 (List.mem_of_getElem? (i := 57) (by decide +kernel))
theorem zw_1198 : Cond.selects RX0 yX0_resultant yX0_resultant ∈ zAll := zi_19 (List.mem_of_getElem? (i := 58) (by decide +kernel))
theorem zw_1199 : Cond.methodLink RX11 265 yX2_turned ∈ zAll := zi_19 (List.mem_of_getElem? (i := 59) (by decide +kernel))
theorem zw_1200 : Cond.instanceMethod yX2_turned ∈ zAll := zi_20 (List.mem_of_getElem? (i := 0) (by decide +kernel))
theorem zw_1201 : Cond.selects RX2 yX2_turned yX2_turned ∈ zAll := zi_20 (List.mem_of_getElem? (i := 1) (by decide +kernel))
theorem zw_1202 : Cond.methodLink RX11 268 yX4_settle ∈ zAll := zi_20 (List.mem_of_getElem? (i := 2) (by decide +kernel))
theorem zw_1203 : Cond.methodLink RX11 271 yX4_constant ∈ zAll := zi_20 (List.mem_of_getElem? (i := 3) (by decide +kernel))
theorem zw_1204 : Cond.methodLink RX11 274 yX3_fits ∈ zAll := zi_20 (List.mem_of_getElem? (i := 4) (by decide +kernel))
theorem zw_1205 : Cond.code yX11_ofPolynomials cX11_ofPolynomials 9 (some .int) ∈ zAll := zi_20 (List.mem_of_getElem? (i := 5) (by rfl))
theorem zw_1206 : Cond.code yX11_keep cX11_keep 3 (some .int) ∈ zAll := zi_20 (List.mem_of_getElem? (i := 6) (by rfl))
theorem zw_1207 : Cond.methodLink RX11 234 yX11_isPolynomial ∈ zAll := zi_20 (List.mem_of_getElem? (i := 7) (by decide +kernel))
theorem zw_1208 : Cond.static yX11_isPolynomial ∈ zAll := zi_20 (List.mem_of_getElem? (i := 8) (by decide +kernel))
theorem zw_1209 : Cond.methodLink RX11 237 yX6_isZero ∈ zAll := zi_20 (List.mem_of_getElem? (i := 9) (by decide +kernel))
theorem zw_1210 : Cond.instanceMethod yX6_isZero ∈ zAll := zi_20 (List.mem_of_getElem? (i := 10) (by decide +kernel))
theorem zw_1211 : Cond.selects RX6 yX6_isZero yX6_isZero ∈ zAll := zi_20 (List.mem_of_getElem? (i := 11) (by decide +kernel))
theorem zw_1212 : Cond.methodLink RX11 241 yX9_load ∈ zAll := zi_20 (List.mem_of_getElem? (i := 12) (by decide +kernel))
theorem zw_1213 : Cond.instanceMethod yX9_load ∈ zAll := zi_20 (List.mem_of_getElem? (i := 13) (by decide +kernel))
theorem zw_1214 : Cond.selects RX9 yX9_load yX9_load ∈ zAll := zi_20 (List.mem_of_getElem? (i := 14) (by decide +kernel))
theorem zw_1215 : Cond.methodLink RX11 244 yX11_ofPolynomials ∈ zAll := zi_20 (List.mem_of_getElem? (i := 15) (by decide +kernel))
theorem zw_1216 : Cond.instanceMethod yX11_ofPolynomials ∈ zAll := zi_20 (List.mem_of_getElem? (i := 16) (by decide +kernel))
theorem zw_1217 : Cond.selects RX11 yX11_ofPolynomials yX11_ofPolynomials ∈ zAll := zi_20 (List.mem_of_getElem? (i := 17) (by decide +kernel))
theorem zw_1218 : Cond.methodLink RX11 247 yX11_keep ∈ zAll := zi_20 (List.mem_of_getElem? (i := 18) (by decide +kernel))
theorem zw_1219 : Cond.instanceMethod yX11_keep ∈ zAll := zi_20 (List.mem_of_getElem? (i := 19) (by decide +kernel))
theorem zw_1220 : Cond.selects RX11 yX11_keep yX11_keep ∈ zAll := zi_20 (List.mem_of_getElem? (i := 20) (by decide +kernel))
theorem zw_1221 : Cond.code yX11_work cX11_work 11 (some .int) ∈ zAll := zi_20 (List.mem_of_getElem? (i := 21) (by rfl))
theorem zw_1222 : Cond.methodLink RX11 297 yX3_under ∈ zAll := zi_20 (List.mem_of_getElem? (i := 22) (by decide +kernel))
theorem zw_1223 : Cond.methodLink RX11 300 yX2_withN ∈ zAll := zi_20 (List.mem_of_getElem? (i := 23) (by decide +kernel))
theorem zw_1224 : Cond.instanceMethod yX2_withN ∈ zAll := zi_20 (List.mem_of_getElem? (i := 24) (by decide +kernel))
theorem zw_1225 : Cond.selects RX2 yX2_withN yX2_withN ∈ zAll := zi_20 (List.mem_of_getElem? (i := 25) (by decide +kernel))
theorem zw_1226 : Cond.methodLink RX11 303 yX2_withK ∈ zAll := zi_20 (List.mem_of_getElem? (i := 26) (by decide +kernel))
theorem zw_1227 : Cond.instanceMethod yX2_withK ∈ zAll := zi_20 (List.mem_of_getElem? (i := 27) (by decide +kernel))
theorem zw_1228 : Cond.selects RX2 yX2_withK yX2_withK ∈ zAll := zi_20 (List.mem_of_getElem? (i := 28) (by decide +kernel))
theorem zw_1229 : Cond.methodLink RX11 306 yX2_derivative ∈ zAll := zi_20 (List.mem_of_getElem? (i := 29) (by decide +kernel))
theorem zw_1230 : Cond.instanceMethod yX2_derivative ∈ zAll := zi_20 (List.mem_of_getElem? (i := 30) (by decide +kernel))
theorem zw_1231 : Cond.selects RX2 yX2_derivative yX2_derivative ∈ zAll := zi_20 (List.mem_of_getElem? (i := 31) (by decide +kernel))
theorem zw_1232 : Cond.methodLink RX11 310 yX2_times ∈ zAll := zi_20 (List.mem_of_getElem? (i := 32) (by decide +kernel))
theorem zw_1233 : Cond.methodLink RX11 312 yX2_plus ∈ zAll := zi_20 (List.mem_of_getElem? (i := 33) (by decide +kernel))
theorem zw_1234 : Cond.methodLink RX11 313 yX4_isZero ∈ zAll := zi_20 (List.mem_of_getElem? (i := 34) (by decide +kernel))
theorem zw_1235 : Cond.methodLink RX11 315 yX3_reduced ∈ zAll := zi_20 (List.mem_of_getElem? (i := 35) (by decide +kernel))
theorem zw_1236 : Cond.code yX11_changed cX11_changed 12 (some .int) ∈ zAll := zi_20 (List.mem_of_getElem? (i := 36) (by rfl))
theorem zw_1237 : Cond.methodLink RX11 278 yX1_rest ∈ zAll := zi_20 (List.mem_of_getElem? (i := 37) (by decide +kernel))
theorem zw_1238 : Cond.methodLink RX11 284 yX9_power ∈ zAll := zi_20 (List.mem_of_getElem? (i := 38) (by decide +kernel))
theorem zw_1239 : Cond.methodLink RX11 287 yX9_slid ∈ zAll := zi_20 (List.mem_of_getElem? (i := 39) (by decide +kernel))
theorem zw_1240 : Cond.instanceMethod yX9_slid ∈ zAll := zi_20 (List.mem_of_getElem? (i := 40) (by decide +kernel))
theorem zw_1241 : Cond.selects RX9 yX9_slid yX9_slid ∈ zAll := zi_20 (List.mem_of_getElem? (i := 41) (by decide +kernel))
theorem zw_1242 : Cond.methodLink RX11 290 yX9_slidRatio ∈ zAll := zi_20 (List.mem_of_getElem? (i := 42) (by decide +kernel))
theorem zw_1243 : Cond.methodLink RX11 293 yX11_changed ∈ zAll := zi_20 (List.mem_of_getElem? (i := 43) (by decide +kernel))
theorem zw_1244 : Cond.instanceMethod yX11_changed ∈ zAll := zi_20 (List.mem_of_getElem? (i := 44) (by decide +kernel))
theorem zw_1245 : Cond.selects RX11 yX11_changed yX11_changed ∈ zAll := zi_20 (List.mem_of_getElem? (i := 45) (by decide +kernel))
theorem zw_1246 : Cond.code yX11_change cX11_change 9 (some .int) ∈ zAll := zi_20 (List.mem_of_getElem? (i := 46) (by rfl))
theorem zw_1247 : Cond.methodLink RX11 318 yX9_valueOf ∈ zAll := zi_20 (List.mem_of_getElem? (i := 47) (by decide +kernel))
theorem zw_1248 : Cond.code yX11_value cX11_value 5 (some .int) ∈ zAll := zi_20 (List.mem_of_getElem? (i := 48) (by rfl))
theorem zw_1249 : Cond.methodLink RX11 322 yX9_sumOf ∈ zAll := zi_20 (List.mem_of_getElem? (i := 49) (by decide +kernel))
theorem zw_1250 : Cond.code yX11_sum cX11_sum 6 (some .int) ∈ zAll := zi_20 (List.mem_of_getElem? (i := 50) (by rfl))
theorem zw_1251 : Cond.methodLink RX11 326 yX9_step ∈ zAll := zi_20 (List.mem_of_getElem? (i := 51) (by decide +kernel))
theorem zw_1252 : Cond.code yX11_quotient cX11_quotient 9 (some .int) ∈ zAll := zi_20 (List.mem_of_getElem? (i := 52) (by rfl))
theorem zw_1253 : Cond.fieldLink RX11 332 "SumHouse$Sums" "formA" "I" ∈ zAll := zi_20 (List.mem_of_getElem? (i := 53) (by decide +kernel))
theorem zw_1254 : Cond.fieldLink RX11 335 "SumHouse$Sums" "formB" "I" ∈ zAll := zi_20 (List.mem_of_getElem? (i := 54) (by decide +kernel))
theorem zw_1255 : Cond.fieldLink RX11 338 "SumHouse$Sums" "formC" "I" ∈ zAll := zi_20 (List.mem_of_getElem? (i := 55) (by decide +kernel))
theorem zw_1256 : Cond.methodLink RX11 329 yX8_makeForm ∈ zAll := zi_20 (List.mem_of_getElem? (i := 56) (by decide +kernel))
theorem zw_1257 : Cond.methodLink RX11 341 yX9_wrapped ∈ zAll := zi_20 (List.mem_of_getElem? (i := 57) (by decide +kernel))
theorem zw_1258 : Cond.instanceMethod yX9_wrapped ∈ zAll := zi_20 (List.mem_of_getElem? (i := 58) (by decide +kernel))
theorem zw_1259 : Cond.selects RX9 yX9_wrapped yX9_wrapped ∈ zAll := zi_20 (List.mem_of_getElem? (i := 59) (by decide +kernel))
theorem zw_1260 : Cond.code yX11_form cX11_form 7 (some .int) ∈ zAll := zi_21 (List.mem_of_getElem? (i := 0) (by rfl))
theorem zw_1261 : Cond.fieldLink RX11 350 "SumHouse$Sums" "made" "I" ∈ zAll := zi_21 (List.mem_of_getElem? (i := 1) (by decide +kernel))
theorem zw_1262 : Cond.methodLink RX11 344 yX8_alone ∈ zAll := zi_21 (List.mem_of_getElem? (i := 2) (by decide +kernel))
theorem zw_1263 : Cond.instanceMethod yX8_alone ∈ zAll := zi_21 (List.mem_of_getElem? (i := 3) (by decide +kernel))
theorem zw_1264 : Cond.selects RX8 yX8_alone yX8_alone ∈ zAll := zi_21 (List.mem_of_getElem? (i := 4) (by decide +kernel))
theorem zw_1265 : Cond.methodLink RX11 347 yX8_answer ∈ zAll := zi_21 (List.mem_of_getElem? (i := 5) (by decide +kernel))
theorem zw_1266 : Cond.instanceMethod yX8_answer ∈ zAll := zi_21 (List.mem_of_getElem? (i := 6) (by decide +kernel))
theorem zw_1267 : Cond.selects RX8 yX8_answer yX8_answer ∈ zAll := zi_21 (List.mem_of_getElem? (i := 7) (by decide +kernel))
theorem zw_1268 : Cond.code yX11_close cX11_close 6 (some .int) ∈ zAll := zi_21 (List.mem_of_getElem? (i := 8) (by rfl))
theorem zw_1269 : Cond.methodLink RX11 353 yX8_collect ∈ zAll := zi_21 (List.mem_of_getElem? (i := 9) (by decide +kernel))
theorem zw_1270 : Cond.instanceMethod yX8_collect ∈ zAll := zi_21 (List.mem_of_getElem? (i := 10) (by decide +kernel))
theorem zw_1271 : Cond.selects RX8 yX8_collect yX8_collect ∈ zAll := zi_21 (List.mem_of_getElem? (i := 11) (by decide +kernel))
theorem zw_1272 : Cond.methodLink RX11 357 yX8_attempt ∈ zAll := zi_21 (List.mem_of_getElem? (i := 12) (by decide +kernel))
theorem zw_1273 : Cond.instanceMethod yX8_attempt ∈ zAll := zi_21 (List.mem_of_getElem? (i := 13) (by decide +kernel))
theorem zw_1274 : Cond.selects RX8 yX8_attempt yX8_attempt ∈ zAll := zi_21 (List.mem_of_getElem? (i := 14) (by decide +kernel))
theorem zw_1275 : Cond.methodLink RX11 360 yX8_save ∈ zAll := zi_21 (List.mem_of_getElem? (i := 15) (by decide +kernel))
theorem zw_1276 : Cond.instanceMethod yX8_save ∈ zAll := zi_21 (List.mem_of_getElem? (i := 16) (by decide +kernel))
theorem zw_1277 : Cond.selects RX8 yX8_save yX8_save ∈ zAll := zi_21 (List.mem_of_getElem? (i := 17) (by decide +kernel))
theorem zw_1278 : Cond.code yX11_recur cX11_recur 8 (some .int) ∈ zAll := zi_21 (List.mem_of_getElem? (i := 18) (by rfl))
theorem zw_1279 : Cond.fieldLink RX11 363 "SumHouse$Slot" "above" "[I" ∈ zAll := zi_21 (List.mem_of_getElem? (i := 19) (by decide +kernel))
theorem zw_1280 : Cond.fieldLink RX11 369 "SumHouse$Slot" "below" "[I" ∈ zAll := zi_21 (List.mem_of_getElem? (i := 20) (by decide +kernel))
theorem zw_1281 : Cond.methodLink RX11 366 yX2_load ∈ zAll := zi_21 (List.mem_of_getElem? (i := 21) (by decide +kernel))
theorem zw_1282 : Cond.methodLink RX11 372 yX2_loadStep ∈ zAll := zi_21 (List.mem_of_getElem? (i := 22) (by decide +kernel))
theorem zw_1283 : Cond.code yX11_part cX11_part 7 (some .int) ∈ zAll := zi_21 (List.mem_of_getElem? (i := 23) (by rfl))
theorem zw_1284 : Cond.methodLink RX11 376 yX8_isRight ∈ zAll := zi_21 (List.mem_of_getElem? (i := 24) (by decide +kernel))
theorem zw_1285 : Cond.instanceMethod yX8_isRight ∈ zAll := zi_21 (List.mem_of_getElem? (i := 25) (by decide +kernel))
theorem zw_1286 : Cond.selects RX8 yX8_isRight yX8_isRight ∈ zAll := zi_21 (List.mem_of_getElem? (i := 26) (by decide +kernel))
theorem zw_1287 : Cond.code yX11_check cX11_check 7 (some .int) ∈ zAll := zi_21 (List.mem_of_getElem? (i := 27) (by rfl))
theorem zw_1288 : Cond.methodLink RX11 379 yX6_putStep ∈ zAll := zi_21 (List.mem_of_getElem? (i := 28) (by decide +kernel))
theorem zw_1289 : Cond.methodLink RX11 383 yX6_putAbove ∈ zAll := zi_21 (List.mem_of_getElem? (i := 29) (by decide +kernel))
theorem zw_1290 : Cond.instanceMethod yX6_putAbove ∈ zAll := zi_21 (List.mem_of_getElem? (i := 30) (by decide +kernel))
theorem zw_1291 : Cond.selects RX6 yX6_putAbove yX6_putAbove ∈ zAll := zi_21 (List.mem_of_getElem? (i := 31) (by decide +kernel))
theorem zw_1292 : Cond.methodLink RX11 386 yX2_save ∈ zAll := zi_21 (List.mem_of_getElem? (i := 32) (by decide +kernel))
theorem zw_1293 : Cond.code yX11_poke cX11_poke 9 (some .int) ∈ zAll := zi_21 (List.mem_of_getElem? (i := 33) (by rfl))
theorem zw_1294 : Cond.methodLink RX11 389 yX8_holdsBy ∈ zAll := zi_21 (List.mem_of_getElem? (i := 34) (by decide +kernel))
theorem zw_1295 : Cond.instanceMethod yX8_holdsBy ∈ zAll := zi_21 (List.mem_of_getElem? (i := 35) (by decide +kernel))
theorem zw_1296 : Cond.selects RX8 yX8_holdsBy yX8_holdsBy ∈ zAll := zi_21 (List.mem_of_getElem? (i := 36) (by decide +kernel))
theorem zw_1297 : Cond.code yX11_holds cX11_holds 8 (some .int) ∈ zAll := zi_21 (List.mem_of_getElem? (i := 37) (by rfl))
theorem zw_1298 : Cond.methodLink RX11 393 yX5_fromRecord ∈ zAll := zi_21 (List.mem_of_getElem? (i := 38) (by decide +kernel))
theorem zw_1299 : Cond.instanceMethod yX5_fromRecord ∈ zAll := zi_21 (List.mem_of_getElem? (i := 39) (by decide +kernel))
theorem zw_1300 : Cond.selects RX5 yX5_fromRecord yX5_fromRecord ∈ zAll := zi_21 (List.mem_of_getElem? (i := 40) (by decide +kernel))
theorem zw_1301 : Cond.code yX11_row cX11_row 5 (some .int) ∈ zAll := zi_21 (List.mem_of_getElem? (i := 41) (by rfl))
theorem zw_1302 : Cond.code yX11_first cX11_first 4 (some .int) ∈ zAll := zi_21 (List.mem_of_getElem? (i := 42) (by rfl))
theorem zw_1303 : Cond.methodLink RX11 397 yX6_addFirst ∈ zAll := zi_21 (List.mem_of_getElem? (i := 43) (by decide +kernel))
theorem zw_1304 : Cond.instanceMethod yX6_addFirst ∈ zAll := zi_21 (List.mem_of_getElem? (i := 44) (by decide +kernel))
theorem zw_1305 : Cond.selects RX6 yX6_addFirst yX6_addFirst ∈ zAll := zi_21 (List.mem_of_getElem? (i := 45) (by decide +kernel))
theorem zw_1306 : Cond.fieldLink RX11 400 "SumHouse$Slot" "has" "I" ∈ zAll := zi_21 (List.mem_of_getElem? (i := 46) (by decide +kernel))
theorem zw_1307 : Cond.methodLink RX11 403 yX5_member ∈ zAll := zi_21 (List.mem_of_getElem? (i := 47) (by decide +kernel))
theorem zw_1308 : Cond.instanceMethod yX5_member ∈ zAll := zi_21 (List.mem_of_getElem? (i := 48) (by decide +kernel))
theorem zw_1309 : Cond.selects RX5 yX5_member yX5_member ∈ zAll := zi_21 (List.mem_of_getElem? (i := 49) (by decide +kernel))
theorem zw_1310 : Cond.code yX11_at cX11_at 4 (some .int) ∈ zAll := zi_21 (List.mem_of_getElem? (i := 50) (by rfl))
theorem zw_1311 : Cond.code yX11_isFactor cX11_isFactor 1 (some .boolean) ∈ zAll := zi_21 (List.mem_of_getElem? (i := 51) (by rfl))
theorem zw_1312 : Cond.methodLink RX11 431 yX6_isFreeOfK ∈ zAll := zi_21 (List.mem_of_getElem? (i := 52) (by decide +kernel))
theorem zw_1313 : Cond.instanceMethod yX6_isFreeOfK ∈ zAll := zi_21 (List.mem_of_getElem? (i := 53) (by decide +kernel))
theorem zw_1314 : Cond.selects RX6 yX6_isFreeOfK yX6_isFreeOfK ∈ zAll := zi_21 (List.mem_of_getElem? (i := 54) (by decide +kernel))
theorem zw_1315 : Cond.methodLink RX11 406 yX11_isFactor ∈ zAll := zi_21 (List.mem_of_getElem? (i := 55) (by decide +kernel))
theorem zw_1316 : Cond.static yX11_isFactor ∈ zAll := zi_21 (List.mem_of_getElem? (i := 56) (by decide +kernel))
theorem zw_1317 : Cond.methodLink RX11 409 yX5_moved ∈ zAll := zi_21 (List.mem_of_getElem? (i := 57) (by decide +kernel))
theorem zw_1318 : Cond.instanceMethod yX5_moved ∈ zAll := zi_21 (List.mem_of_getElem? (i := 58) (by decide +kernel))
theorem zw_1319 : Cond.selects RX5 yX5_moved yX5_moved ∈ zAll := zi_21 (List.mem_of_getElem? (i := 59) (by decide +kernel))
theorem zw_1320 : Cond.methodLink RX11 413 yX5_joined ∈ zAll := zi_22 (List.mem_of_getElem? (i := 0) (by decide +kernel))
theorem zw_1321 : Cond.instanceMethod yX5_joined ∈ zAll := zi_22 (List.mem_of_getElem? (i := 1) (by decide +kernel))
theorem zw_1322 : Cond.selects RX5 yX5_joined yX5_joined ∈ zAll := zi_22 (List.mem_of_getElem? (i := 2) (by decide +kernel))
theorem zw_1323 : Cond.code yX11_join cX11_join 9 (some .int) ∈ zAll := zi_22 (List.mem_of_getElem? (i := 3) (by rfl))
theorem zw_1324 : Cond.code yX11_feed cX11_feed 2 (some .int) ∈ zAll := zi_22 (List.mem_of_getElem? (i := 4) (by rfl))
theorem zw_1325 : Cond.code yX11_clear cX11_clear 2 (some .int) ∈ zAll := zi_22 (List.mem_of_getElem? (i := 5) (by rfl))
theorem zw_1326 : Cond.methodLink RX11 417 yX5_guessed ∈ zAll := zi_22 (List.mem_of_getElem? (i := 6) (by decide +kernel))
theorem zw_1327 : Cond.instanceMethod yX5_guessed ∈ zAll := zi_22 (List.mem_of_getElem? (i := 7) (by decide +kernel))
theorem zw_1328 : Cond.selects RX5 yX5_guessed yX5_guessed ∈ zAll := zi_22 (List.mem_of_getElem? (i := 8) (by decide +kernel))
theorem zw_1329 : Cond.code yX11_guess cX11_guess 3 (some .int) ∈ zAll := zi_22 (List.mem_of_getElem? (i := 9) (by rfl))
theorem zw_1330 : Cond.methodLink RX11 421 yX0_rootsOf ∈ zAll := zi_22 (List.mem_of_getElem? (i := 10) (by decide +kernel))
theorem zw_1331 : Cond.instanceMethod yX0_rootsOf ∈ zAll := zi_22 (List.mem_of_getElem? (i := 11) (by decide +kernel))
theorem zw_1332 : Cond.selects RX0 yX0_rootsOf yX0_rootsOf ∈ zAll := zi_22 (List.mem_of_getElem? (i := 12) (by decide +kernel))
theorem zw_1333 : Cond.code yX11_roots cX11_roots 3 (some .int) ∈ zAll := zi_22 (List.mem_of_getElem? (i := 13) (by rfl))
theorem zw_1334 : Cond.code yX11_root cX11_root 2 (some .int) ∈ zAll := zi_22 (List.mem_of_getElem? (i := 14) (by rfl))
theorem zw_1335 : Cond.methodLink RX11 425 yX9_closed ∈ zAll := zi_22 (List.mem_of_getElem? (i := 15) (by decide +kernel))
theorem zw_1336 : Cond.instanceMethod yX9_closed ∈ zAll := zi_22 (List.mem_of_getElem? (i := 16) (by decide +kernel))
theorem zw_1337 : Cond.selects RX9 yX9_closed yX9_closed ∈ zAll := zi_22 (List.mem_of_getElem? (i := 17) (by decide +kernel))
theorem zw_1338 : Cond.code yX11_solve cX11_solve 6 (some .int) ∈ zAll := zi_22 (List.mem_of_getElem? (i := 18) (by rfl))
theorem zw_1339 : Cond.code yX15_init cX15_init 2 none ∈ zAll := zi_22 (List.mem_of_getElem? (i := 19) (by rfl))
theorem zw_1340 : Cond.methodLink RX15 1 objectInit ∈ zAll := zi_22 (List.mem_of_getElem? (i := 20) (by decide +kernel))
theorem zw_1341 : Cond.fieldLink RX15 7 "SumHouseModel$U" "c" "[I" ∈ zAll := zi_22 (List.mem_of_getElem? (i := 21) (by decide +kernel))
theorem zw_1342 : Cond.code yX12_init cX12_init 2 none ∈ zAll := zi_22 (List.mem_of_getElem? (i := 22) (by rfl))
theorem zw_1343 : Cond.methodLink RX12 3 objectInit ∈ zAll := zi_22 (List.mem_of_getElem? (i := 23) (by decide +kernel))
theorem zw_1344 : Cond.classLink RX12 9 RX15 ∈ zAll := zi_22 (List.mem_of_getElem? (i := 24) (by decide +kernel))
theorem zw_1345 : Cond.fieldLink RX12 11 "SumHouseModel$B" "r" "[LSumHouseModel$U;" ∈ zAll := zi_22 (List.mem_of_getElem? (i := 25) (by decide +kernel))
theorem zw_1346 : Cond.instantiable RX15 2 ∈ zAll := zi_22 (List.mem_of_getElem? (i := 26) (by decide +kernel))
theorem zw_1347 : Cond.initialized RX15 ∈ zAll := zi_22 (List.mem_of_getElem? (i := 27) (by decide +kernel))
theorem zw_1348 : Cond.methodLink RX12 17 yX15_init ∈ zAll := zi_22 (List.mem_of_getElem? (i := 28) (by decide +kernel))
theorem zw_1349 : Cond.instanceMethod yX15_init ∈ zAll := zi_22 (List.mem_of_getElem? (i := 29) (by decide +kernel))
theorem zw_1350 : Cond.code yX12_trim cX12_trim 1 none ∈ zAll := zi_22 (List.mem_of_getElem? (i := 30) (by rfl))
theorem zw_1351 : Cond.fieldLink RX12 20 "SumHouseModel$B" "rows" "I" ∈ zAll := zi_22 (List.mem_of_getElem? (i := 31) (by decide +kernel))
theorem zw_1352 : Cond.fieldLink RX12 24 "SumHouseModel$U" "n" "I" ∈ zAll := zi_22 (List.mem_of_getElem? (i := 32) (by decide +kernel))
theorem zw_1353 : Cond.code yX15_number cX15_number 2 none ∈ zAll := zi_22 (List.mem_of_getElem? (i := 33) (by rfl))
theorem zw_1354 : Cond.fieldLink RX15 13 "SumHouseModel$U" "n" "I" ∈ zAll := zi_22 (List.mem_of_getElem? (i := 34) (by decide +kernel))
theorem zw_1355 : Cond.code yX12_number cX12_number 2 none ∈ zAll := zi_22 (List.mem_of_getElem? (i := 35) (by rfl))
theorem zw_1356 : Cond.methodLink RX12 27 yX15_number ∈ zAll := zi_22 (List.mem_of_getElem? (i := 36) (by decide +kernel))
theorem zw_1357 : Cond.instanceMethod yX15_number ∈ zAll := zi_22 (List.mem_of_getElem? (i := 37) (by decide +kernel))
theorem zw_1358 : Cond.selects RX15 yX15_number yX15_number ∈ zAll := zi_22 (List.mem_of_getElem? (i := 38) (by decide +kernel))
theorem zw_1359 : Cond.code yX12_lead cX12_lead 1 (some (.object "SumHouseModel$U")) ∈ zAll := zi_22 (List.mem_of_getElem? (i := 39) (by rfl))
theorem zw_1360 : Cond.code yX15_head cX15_head 1 (some .int) ∈ zAll := zi_22 (List.mem_of_getElem? (i := 40) (by rfl))
theorem zw_1361 : Cond.code yX12_head cX12_head 1 (some .int) ∈ zAll := zi_22 (List.mem_of_getElem? (i := 41) (by rfl))
theorem zw_1362 : Cond.methodLink RX12 30 yX12_lead ∈ zAll := zi_22 (List.mem_of_getElem? (i := 42) (by decide +kernel))
theorem zw_1363 : Cond.instanceMethod yX12_lead ∈ zAll := zi_22 (List.mem_of_getElem? (i := 43) (by decide +kernel))
theorem zw_1364 : Cond.selects RX12 yX12_lead yX12_lead ∈ zAll := zi_22 (List.mem_of_getElem? (i := 44) (by decide +kernel))
theorem zw_1365 : Cond.initialized RX12 ∈ zAll := zi_22 (List.mem_of_getElem? (i := 45) (by decide +kernel))
theorem zw_1366 : Cond.methodLink RX12 34 yX15_head ∈ zAll := zi_22 (List.mem_of_getElem? (i := 46) (by decide +kernel))
theorem zw_1367 : Cond.instanceMethod yX15_head ∈ zAll := zi_22 (List.mem_of_getElem? (i := 47) (by decide +kernel))
theorem zw_1368 : Cond.selects RX15 yX15_head yX15_head ∈ zAll := zi_22 (List.mem_of_getElem? (i := 48) (by decide +kernel))
theorem zw_1369 : Cond.code yX12_degreeN cX12_degreeN 3 (some .int) ∈ zAll := zi_22 (List.mem_of_getElem? (i := 49) (by rfl))
theorem zw_1370 : Cond.methodLink RX12 38 Lib.Math.max.name ∈ zAll := zi_22 (List.mem_of_getElem? (i := 50) (by decide +kernel))
theorem zw_1371 : Cond.code yX12_degreeK cX12_degreeK 1 (some .int) ∈ zAll := zi_22 (List.mem_of_getElem? (i := 51) (by rfl))
theorem zw_1372 : Cond.code yX12_isNumber cX12_isNumber 1 (some .boolean) ∈ zAll := zi_22 (List.mem_of_getElem? (i := 52) (by rfl))
theorem zw_1373 : Cond.code yX13_init cX13_init 1 none ∈ zAll := zi_22 (List.mem_of_getElem? (i := 53) (by rfl))
theorem zw_1374 : Cond.code yX14_init cX14_init 1 none ∈ zAll := zi_22 (List.mem_of_getElem? (i := 54) (by rfl))
theorem zw_1375 : Cond.methodLink RX14 3 objectInit ∈ zAll := zi_22 (List.mem_of_getElem? (i := 55) (by decide +kernel))
theorem zw_1376 : Cond.fieldLink RX14 9 "SumHouseModel$Thing" "num" "[I" ∈ zAll := zi_22 (List.mem_of_getElem? (i := 56) (by decide +kernel))
theorem zw_1377 : Cond.fieldLink RX14 15 "SumHouseModel$Thing" "den" "[I" ∈ zAll := zi_22 (List.mem_of_getElem? (i := 57) (by decide +kernel))
theorem zw_1378 : Cond.fieldLink RX14 18 "SumHouseModel$Thing" "fa" "[I" ∈ zAll := zi_22 (List.mem_of_getElem? (i := 58) (by decide +kernel))
theorem zw_1379 : Cond.fieldLink RX14 21 "SumHouseModel$Thing" "fb" "[I" ∈ zAll := zi_22 (List.mem_of_getElem? (i := 59) (by decide +kernel))
theorem zw_1380 : Cond.fieldLink RX14 24 "SumHouseModel$Thing" "fc" "[I" ∈ zAll := zi_23 (List.mem_of_getElem? (i := 0) (by decide +kernel))
theorem zw_1381 : Cond.fieldLink RX14 27 "SumHouseModel$Thing" "fe" "[I" ∈ zAll := zi_23 (List.mem_of_getElem? (i := 1) (by decide +kernel))
theorem zw_1382 : Cond.fieldLink RX14 30 "SumHouseModel$Thing" "a" "[I" ∈ zAll := zi_23 (List.mem_of_getElem? (i := 2) (by decide +kernel))
theorem zw_1383 : Cond.fieldLink RX14 33 "SumHouseModel$Thing" "u" "[I" ∈ zAll := zi_23 (List.mem_of_getElem? (i := 3) (by decide +kernel))
theorem zw_1384 : Cond.code yX15_trim cX15_trim 1 none ∈ zAll := zi_23 (List.mem_of_getElem? (i := 4) (by rfl))
theorem zw_1385 : Cond.code yX15_at cX15_at 2 (some .int) ∈ zAll := zi_23 (List.mem_of_getElem? (i := 5) (by rfl))
theorem zw_1386 : Cond.code yX16_add cX16_add 4 (some .int) ∈ zAll := zi_23 (List.mem_of_getElem? (i := 6) (by rfl))
theorem zw_1387 : Cond.constantLong RX16 3 (2147483647) ∈ zAll := zi_23 (List.mem_of_getElem? (i := 7) (by decide +kernel))
theorem zw_1388 : Cond.code yX16_sub cX16_sub 2 (some .int) ∈ zAll := zi_23 (List.mem_of_getElem? (i := 8) (by rfl))
theorem zw_1389 : Cond.constant RX16 5 (2147483647) ∈ zAll := zi_23 (List.mem_of_getElem? (i := 9) (by decide +kernel))
theorem zw_1390 : Cond.code yX16_mul cX16_mul 2 (some .int) ∈ zAll := zi_23 (List.mem_of_getElem? (i := 10) (by rfl))
theorem zw_1391 : Cond.code yX16_pow cX16_pow 9 (some .int) ∈ zAll := zi_23 (List.mem_of_getElem? (i := 11) (by rfl))
theorem zw_1392 : Cond.code yX16_inv cX16_inv 1 (some .int) ∈ zAll := zi_23 (List.mem_of_getElem? (i := 12) (by rfl))
theorem zw_1393 : Cond.constantLong RX16 6 (2147483645) ∈ zAll := zi_23 (List.mem_of_getElem? (i := 13) (by decide +kernel))
theorem zw_1394 : Cond.methodLink RX16 8 yX16_pow ∈ zAll := zi_23 (List.mem_of_getElem? (i := 14) (by decide +kernel))
theorem zw_1395 : Cond.static yX16_pow ∈ zAll := zi_23 (List.mem_of_getElem? (i := 15) (by decide +kernel))
theorem zw_1396 : Cond.initialized RX16 ∈ zAll := zi_23 (List.mem_of_getElem? (i := 16) (by decide +kernel))
theorem zw_1397 : Cond.code yX16_rest cX16_rest 2 (some .int) ∈ zAll := zi_23 (List.mem_of_getElem? (i := 17) (by rfl))
theorem zw_1398 : Cond.code yX16_small cX16_small 1 (some .int) ∈ zAll := zi_23 (List.mem_of_getElem? (i := 18) (by rfl))
theorem zw_1399 : Cond.constant RX16 12 (1073741823) ∈ zAll := zi_23 (List.mem_of_getElem? (i := 19) (by decide +kernel))
theorem zw_1400 : Cond.code yX16_power cX16_power 2 (some .int) ∈ zAll := zi_23 (List.mem_of_getElem? (i := 20) (by rfl))
theorem zw_1401 : Cond.methodLink RX16 13 yX16_inv ∈ zAll := zi_23 (List.mem_of_getElem? (i := 21) (by decide +kernel))
theorem zw_1402 : Cond.static yX16_inv ∈ zAll := zi_23 (List.mem_of_getElem? (i := 22) (by decide +kernel))
theorem zw_1403 : Cond.code yX16_newU cX16_newU 2 (some (.object "SumHouseModel$U")) ∈ zAll := zi_23 (List.mem_of_getElem? (i := 23) (by rfl))
theorem zw_1404 : Cond.fieldLink RX16 17 "SumHouseModel" "us" "[LSumHouseModel$U;" ∈ zAll := zi_23 (List.mem_of_getElem? (i := 24) (by decide +kernel))
theorem zw_1405 : Cond.fieldLink RX16 21 "SumHouseModel" "ut" "I" ∈ zAll := zi_23 (List.mem_of_getElem? (i := 25) (by decide +kernel))
theorem zw_1406 : Cond.fieldLink RX16 25 "SumHouseModel$U" "n" "I" ∈ zAll := zi_23 (List.mem_of_getElem? (i := 26) (by decide +kernel))
theorem zw_1407 : Cond.code yX16_set cX16_set 2 none ∈ zAll := zi_23 (List.mem_of_getElem? (i := 27) (by rfl))
theorem zw_1408 : Cond.fieldLink RX16 30 "SumHouseModel$U" "c" "[I" ∈ zAll := zi_23 (List.mem_of_getElem? (i := 28) (by decide +kernel))
theorem zw_1409 : Cond.methodLink RX16 34 arraycopyName ∈ zAll := zi_23 (List.mem_of_getElem? (i := 29) (by decide +kernel))
theorem zw_1410 : Cond.native arraycopyName ∈ zAll := zi_23 (List.mem_of_getElem? (i := 30) (by decide +kernel))
theorem zw_1411 : Cond.static arraycopyName ∈ zAll := zi_23 (List.mem_of_getElem? (i := 31) (by decide +kernel))
theorem zw_1412 : Cond.initialized "java/lang/System" ∈ zAll := zi_23 (List.mem_of_getElem? (i := 32) (by decide +kernel))
theorem zw_1413 : Cond.code yX16_plus cX16_plus 8 none ∈ zAll := zi_23 (List.mem_of_getElem? (i := 33) (by rfl))
theorem zw_1414 : Cond.methodLink RX16 40 Lib.Math.max.name ∈ zAll := zi_23 (List.mem_of_getElem? (i := 34) (by decide +kernel))
theorem zw_1415 : Cond.methodLink RX16 46 yX16_sub ∈ zAll := zi_23 (List.mem_of_getElem? (i := 35) (by decide +kernel))
theorem zw_1416 : Cond.static yX16_sub ∈ zAll := zi_23 (List.mem_of_getElem? (i := 36) (by decide +kernel))
theorem zw_1417 : Cond.methodLink RX16 49 yX16_add ∈ zAll := zi_23 (List.mem_of_getElem? (i := 37) (by decide +kernel))
theorem zw_1418 : Cond.static yX16_add ∈ zAll := zi_23 (List.mem_of_getElem? (i := 38) (by decide +kernel))
theorem zw_1419 : Cond.methodLink RX16 52 yX15_trim ∈ zAll := zi_23 (List.mem_of_getElem? (i := 39) (by decide +kernel))
theorem zw_1420 : Cond.instanceMethod yX15_trim ∈ zAll := zi_23 (List.mem_of_getElem? (i := 40) (by decide +kernel))
theorem zw_1421 : Cond.selects RX15 yX15_trim yX15_trim ∈ zAll := zi_23 (List.mem_of_getElem? (i := 41) (by decide +kernel))
theorem zw_1422 : Cond.code yX16_scale cX16_scale 4 none ∈ zAll := zi_23 (List.mem_of_getElem? (i := 42) (by rfl))
theorem zw_1423 : Cond.methodLink RX16 56 yX16_mul ∈ zAll := zi_23 (List.mem_of_getElem? (i := 43) (by decide +kernel))
theorem zw_1424 : Cond.static yX16_mul ∈ zAll := zi_23 (List.mem_of_getElem? (i := 44) (by decide +kernel))
theorem zw_1425 : Cond.code yX16_times cX16_times 10 none ∈ zAll := zi_23 (List.mem_of_getElem? (i := 45) (by rfl))
theorem zw_1426 : Cond.methodLink RX16 59 Lib.Math.min.name ∈ zAll := zi_23 (List.mem_of_getElem? (i := 46) (by decide +kernel))
theorem zw_1427 : Cond.methodLink RX16 62 yX16_set ∈ zAll := zi_23 (List.mem_of_getElem? (i := 47) (by decide +kernel))
theorem zw_1428 : Cond.static yX16_set ∈ zAll := zi_23 (List.mem_of_getElem? (i := 48) (by decide +kernel))
theorem zw_1429 : Cond.methodLink RX16 66 yX15_head ∈ zAll := zi_23 (List.mem_of_getElem? (i := 49) (by decide +kernel))
theorem zw_1430 : Cond.code yX16_divide cX16_divide 8 none ∈ zAll := zi_23 (List.mem_of_getElem? (i := 50) (by rfl))
theorem zw_1431 : Cond.methodLink RX16 70 yX16_scale ∈ zAll := zi_23 (List.mem_of_getElem? (i := 51) (by decide +kernel))
theorem zw_1432 : Cond.static yX16_scale ∈ zAll := zi_23 (List.mem_of_getElem? (i := 52) (by decide +kernel))
theorem zw_1433 : Cond.code yX16_monic cX16_monic 2 none ∈ zAll := zi_23 (List.mem_of_getElem? (i := 53) (by rfl))
theorem zw_1434 : Cond.methodLink RX16 74 yX16_newU ∈ zAll := zi_23 (List.mem_of_getElem? (i := 54) (by decide +kernel))
theorem zw_1435 : Cond.instanceMethod yX16_newU ∈ zAll := zi_23 (List.mem_of_getElem? (i := 55) (by decide +kernel))
theorem zw_1436 : Cond.selects RX16 yX16_newU yX16_newU ∈ zAll := zi_23 (List.mem_of_getElem? (i := 56) (by decide +kernel))
theorem zw_1437 : Cond.methodLink RX16 78 yX16_divide ∈ zAll := zi_23 (List.mem_of_getElem? (i := 57) (by decide +kernel))
theorem zw_1438 : Cond.static yX16_divide ∈ zAll := zi_23 (List.mem_of_getElem? (i := 58) (by decide +kernel))
theorem zw_1439 : Cond.methodLink RX16 82 yX16_monic ∈ zAll := zi_23 (List.mem_of_getElem? (i := 59) (by decide +kernel))
theorem zw_1440 : Cond.instanceMethod yX16_monic ∈ zAll := zi_24 (List.mem_of_getElem? (i := 0) (by decide +kernel))
theorem zw_1441 : Cond.selects RX16 yX16_monic yX16_monic ∈ zAll := zi_24 (List.mem_of_getElem? (i := 1) (by decide +kernel))
theorem zw_1442 : Cond.code yX16_gcd cX16_gcd 9 none ∈ zAll := zi_24 (List.mem_of_getElem? (i := 2) (by rfl))
theorem zw_1443 : Cond.code yX16_exact cX16_exact 7 none ∈ zAll := zi_24 (List.mem_of_getElem? (i := 3) (by rfl))
theorem zw_1444 : Cond.code yX16_eval cX16_eval 5 (some .int) ∈ zAll := zi_24 (List.mem_of_getElem? (i := 4) (by rfl))
theorem zw_1445 : Cond.code yX16_shift cX16_shift 6 none ∈ zAll := zi_24 (List.mem_of_getElem? (i := 5) (by rfl))
theorem zw_1446 : Cond.code yX16_newB cX16_newB 2 (some (.object "SumHouseModel$B")) ∈ zAll := zi_24 (List.mem_of_getElem? (i := 6) (by rfl))
theorem zw_1447 : Cond.fieldLink RX16 86 "SumHouseModel" "bs" "[LSumHouseModel$B;" ∈ zAll := zi_24 (List.mem_of_getElem? (i := 7) (by decide +kernel))
theorem zw_1448 : Cond.fieldLink RX16 90 "SumHouseModel" "bt" "I" ∈ zAll := zi_24 (List.mem_of_getElem? (i := 8) (by decide +kernel))
theorem zw_1449 : Cond.fieldLink RX16 93 "SumHouseModel$B" "rows" "I" ∈ zAll := zi_24 (List.mem_of_getElem? (i := 9) (by decide +kernel))
theorem zw_1450 : Cond.code yX16_set_ cX16_set_ 3 none ∈ zAll := zi_24 (List.mem_of_getElem? (i := 10) (by rfl))
theorem zw_1451 : Cond.fieldLink RX16 98 "SumHouseModel$B" "r" "[LSumHouseModel$U;" ∈ zAll := zi_24 (List.mem_of_getElem? (i := 11) (by decide +kernel))
theorem zw_1452 : Cond.methodLink RX16 101 yX16_plus ∈ zAll := zi_24 (List.mem_of_getElem? (i := 12) (by decide +kernel))
theorem zw_1453 : Cond.static yX16_plus ∈ zAll := zi_24 (List.mem_of_getElem? (i := 13) (by decide +kernel))
theorem zw_1454 : Cond.methodLink RX16 105 yX12_trim ∈ zAll := zi_24 (List.mem_of_getElem? (i := 14) (by decide +kernel))
theorem zw_1455 : Cond.instanceMethod yX12_trim ∈ zAll := zi_24 (List.mem_of_getElem? (i := 15) (by decide +kernel))
theorem zw_1456 : Cond.selects RX12 yX12_trim yX12_trim ∈ zAll := zi_24 (List.mem_of_getElem? (i := 16) (by decide +kernel))
theorem zw_1457 : Cond.code yX16_plus_ cX16_plus_ 6 none ∈ zAll := zi_24 (List.mem_of_getElem? (i := 17) (by rfl))
theorem zw_1458 : Cond.code yX16_scale_ cX16_scale_ 4 none ∈ zAll := zi_24 (List.mem_of_getElem? (i := 18) (by rfl))
theorem zw_1459 : Cond.methodLink RX16 106 yX16_times ∈ zAll := zi_24 (List.mem_of_getElem? (i := 19) (by decide +kernel))
theorem zw_1460 : Cond.static yX16_times ∈ zAll := zi_24 (List.mem_of_getElem? (i := 20) (by decide +kernel))
theorem zw_1461 : Cond.code yX16_times_ cX16_times_ 9 none ∈ zAll := zi_24 (List.mem_of_getElem? (i := 21) (by rfl))
theorem zw_1462 : Cond.code yX16_timesU cX16_timesU 7 none ∈ zAll := zi_24 (List.mem_of_getElem? (i := 22) (by rfl))
theorem zw_1463 : Cond.methodLink RX16 110 yX16_exact ∈ zAll := zi_24 (List.mem_of_getElem? (i := 23) (by decide +kernel))
theorem zw_1464 : Cond.instanceMethod yX16_exact ∈ zAll := zi_24 (List.mem_of_getElem? (i := 24) (by decide +kernel))
theorem zw_1465 : Cond.selects RX16 yX16_exact yX16_exact ∈ zAll := zi_24 (List.mem_of_getElem? (i := 25) (by decide +kernel))
theorem zw_1466 : Cond.code yX16_byU cX16_byU 5 none ∈ zAll := zi_24 (List.mem_of_getElem? (i := 26) (by rfl))
theorem zw_1467 : Cond.methodLink RX16 113 yX16_set_ ∈ zAll := zi_24 (List.mem_of_getElem? (i := 27) (by decide +kernel))
theorem zw_1468 : Cond.static yX16_set_ ∈ zAll := zi_24 (List.mem_of_getElem? (i := 28) (by decide +kernel))
theorem zw_1469 : Cond.code yX16_shiftK cX16_shiftK 9 none ∈ zAll := zi_24 (List.mem_of_getElem? (i := 29) (by rfl))
theorem zw_1470 : Cond.code yX16_shiftN cX16_shiftN 4 none ∈ zAll := zi_24 (List.mem_of_getElem? (i := 30) (by rfl))
theorem zw_1471 : Cond.methodLink RX16 116 yX16_shift ∈ zAll := zi_24 (List.mem_of_getElem? (i := 31) (by decide +kernel))
theorem zw_1472 : Cond.static yX16_shift ∈ zAll := zi_24 (List.mem_of_getElem? (i := 32) (by decide +kernel))
theorem zw_1473 : Cond.methodLink RX16 119 yX12_degreeN ∈ zAll := zi_24 (List.mem_of_getElem? (i := 33) (by decide +kernel))
theorem zw_1474 : Cond.instanceMethod yX12_degreeN ∈ zAll := zi_24 (List.mem_of_getElem? (i := 34) (by decide +kernel))
theorem zw_1475 : Cond.selects RX12 yX12_degreeN yX12_degreeN ∈ zAll := zi_24 (List.mem_of_getElem? (i := 35) (by decide +kernel))
theorem zw_1476 : Cond.methodLink RX16 122 yX15_at ∈ zAll := zi_24 (List.mem_of_getElem? (i := 36) (by decide +kernel))
theorem zw_1477 : Cond.instanceMethod yX15_at ∈ zAll := zi_24 (List.mem_of_getElem? (i := 37) (by decide +kernel))
theorem zw_1478 : Cond.selects RX15 yX15_at yX15_at ∈ zAll := zi_24 (List.mem_of_getElem? (i := 38) (by decide +kernel))
theorem zw_1479 : Cond.code yX16_turn cX16_turn 5 none ∈ zAll := zi_24 (List.mem_of_getElem? (i := 39) (by rfl))
theorem zw_1480 : Cond.methodLink RX16 125 yX16_gcd ∈ zAll := zi_24 (List.mem_of_getElem? (i := 40) (by decide +kernel))
theorem zw_1481 : Cond.instanceMethod yX16_gcd ∈ zAll := zi_24 (List.mem_of_getElem? (i := 41) (by decide +kernel))
theorem zw_1482 : Cond.selects RX16 yX16_gcd yX16_gcd ∈ zAll := zi_24 (List.mem_of_getElem? (i := 42) (by decide +kernel))
theorem zw_1483 : Cond.code yX16_content cX16_content 4 none ∈ zAll := zi_24 (List.mem_of_getElem? (i := 43) (by rfl))
theorem zw_1484 : Cond.methodLink RX16 128 yX16_content ∈ zAll := zi_24 (List.mem_of_getElem? (i := 44) (by decide +kernel))
theorem zw_1485 : Cond.instanceMethod yX16_content ∈ zAll := zi_24 (List.mem_of_getElem? (i := 45) (by decide +kernel))
theorem zw_1486 : Cond.selects RX16 yX16_content yX16_content ∈ zAll := zi_24 (List.mem_of_getElem? (i := 46) (by decide +kernel))
theorem zw_1487 : Cond.methodLink RX16 132 yX16_byU ∈ zAll := zi_24 (List.mem_of_getElem? (i := 47) (by decide +kernel))
theorem zw_1488 : Cond.instanceMethod yX16_byU ∈ zAll := zi_24 (List.mem_of_getElem? (i := 48) (by decide +kernel))
theorem zw_1489 : Cond.selects RX16 yX16_byU yX16_byU ∈ zAll := zi_24 (List.mem_of_getElem? (i := 49) (by decide +kernel))
theorem zw_1490 : Cond.code yX16_primitive cX16_primitive 4 none ∈ zAll := zi_24 (List.mem_of_getElem? (i := 50) (by rfl))
theorem zw_1491 : Cond.code yX16_atN cX16_atN 4 none ∈ zAll := zi_24 (List.mem_of_getElem? (i := 51) (by rfl))
theorem zw_1492 : Cond.methodLink RX16 136 yX16_eval ∈ zAll := zi_24 (List.mem_of_getElem? (i := 52) (by decide +kernel))
theorem zw_1493 : Cond.static yX16_eval ∈ zAll := zi_24 (List.mem_of_getElem? (i := 53) (by decide +kernel))
theorem zw_1494 : Cond.code yX16_eval_ cX16_eval_ 6 (some .int) ∈ zAll := zi_24 (List.mem_of_getElem? (i := 54) (by rfl))
theorem zw_1495 : Cond.methodLink RX16 140 yX16_newB ∈ zAll := zi_24 (List.mem_of_getElem? (i := 55) (by decide +kernel))
theorem zw_1496 : Cond.instanceMethod yX16_newB ∈ zAll := zi_24 (List.mem_of_getElem? (i := 56) (by decide +kernel))
theorem zw_1497 : Cond.selects RX16 yX16_newB yX16_newB ∈ zAll := zi_24 (List.mem_of_getElem? (i := 57) (by decide +kernel))
theorem zw_1498 : Cond.methodLink RX16 144 yX12_lead ∈ zAll := zi_24 (List.mem_of_getElem? (i := 58) (by decide +kernel))
theorem zw_1499 : Cond.code yX16_divides cX16_divides 13 (some .boolean) ∈ zAll := zi_24 (List.mem_of_getElem? (i := 59) (by rfl))
theorem zw_1500 : Cond.fieldLink RX16 151 "SumHouseModel" "xs" "[I" ∈ zAll := zi_25 (List.mem_of_getElem? (i := 0) (by decide +kernel))
theorem zw_1501 : Cond.methodLink RX16 147 yX15_number ∈ zAll := zi_25 (List.mem_of_getElem? (i := 1) (by decide +kernel))
theorem zw_1502 : Cond.code yX16_through cX16_through 10 none ∈ zAll := zi_25 (List.mem_of_getElem? (i := 2) (by rfl))
theorem zw_1503 : Cond.fieldLink RX16 159 "SumHouseModel" "ys" "[[I" ∈ zAll := zi_25 (List.mem_of_getElem? (i := 3) (by decide +kernel))
theorem zw_1504 : Cond.methodLink RX16 154 yX16_atN ∈ zAll := zi_25 (List.mem_of_getElem? (i := 4) (by decide +kernel))
theorem zw_1505 : Cond.static yX16_atN ∈ zAll := zi_25 (List.mem_of_getElem? (i := 5) (by decide +kernel))
theorem zw_1506 : Cond.methodLink RX16 158 yX12_number ∈ zAll := zi_25 (List.mem_of_getElem? (i := 6) (by decide +kernel))
theorem zw_1507 : Cond.instanceMethod yX12_number ∈ zAll := zi_25 (List.mem_of_getElem? (i := 7) (by decide +kernel))
theorem zw_1508 : Cond.selects RX12 yX12_number yX12_number ∈ zAll := zi_25 (List.mem_of_getElem? (i := 8) (by decide +kernel))
theorem zw_1509 : Cond.methodLink RX16 163 yX16_through ∈ zAll := zi_25 (List.mem_of_getElem? (i := 9) (by decide +kernel))
theorem zw_1510 : Cond.instanceMethod yX16_through ∈ zAll := zi_25 (List.mem_of_getElem? (i := 10) (by decide +kernel))
theorem zw_1511 : Cond.selects RX16 yX16_through yX16_through ∈ zAll := zi_25 (List.mem_of_getElem? (i := 11) (by decide +kernel))
theorem zw_1512 : Cond.methodLink RX16 167 yX16_primitive ∈ zAll := zi_25 (List.mem_of_getElem? (i := 12) (by decide +kernel))
theorem zw_1513 : Cond.instanceMethod yX16_primitive ∈ zAll := zi_25 (List.mem_of_getElem? (i := 13) (by decide +kernel))
theorem zw_1514 : Cond.selects RX16 yX16_primitive yX16_primitive ∈ zAll := zi_25 (List.mem_of_getElem? (i := 14) (by decide +kernel))
theorem zw_1515 : Cond.methodLink RX16 170 yX16_divides ∈ zAll := zi_25 (List.mem_of_getElem? (i := 15) (by decide +kernel))
theorem zw_1516 : Cond.instanceMethod yX16_divides ∈ zAll := zi_25 (List.mem_of_getElem? (i := 16) (by decide +kernel))
theorem zw_1517 : Cond.selects RX16 yX16_divides yX16_divides ∈ zAll := zi_25 (List.mem_of_getElem? (i := 17) (by decide +kernel))
theorem zw_1518 : Cond.code yX16_gcdK cX16_gcdK 18 none ∈ zAll := zi_25 (List.mem_of_getElem? (i := 18) (by rfl))
theorem zw_1519 : Cond.methodLink RX16 174 yX16_gcdK ∈ zAll := zi_25 (List.mem_of_getElem? (i := 19) (by decide +kernel))
theorem zw_1520 : Cond.instanceMethod yX16_gcdK ∈ zAll := zi_25 (List.mem_of_getElem? (i := 20) (by decide +kernel))
theorem zw_1521 : Cond.selects RX16 yX16_gcdK yX16_gcdK ∈ zAll := zi_25 (List.mem_of_getElem? (i := 21) (by decide +kernel))
theorem zw_1522 : Cond.methodLink RX16 178 yX16_timesU ∈ zAll := zi_25 (List.mem_of_getElem? (i := 22) (by decide +kernel))
theorem zw_1523 : Cond.instanceMethod yX16_timesU ∈ zAll := zi_25 (List.mem_of_getElem? (i := 23) (by decide +kernel))
theorem zw_1524 : Cond.selects RX16 yX16_timesU yX16_timesU ∈ zAll := zi_25 (List.mem_of_getElem? (i := 24) (by decide +kernel))
theorem zw_1525 : Cond.methodLink RX16 181 yX12_head ∈ zAll := zi_25 (List.mem_of_getElem? (i := 25) (by decide +kernel))
theorem zw_1526 : Cond.instanceMethod yX12_head ∈ zAll := zi_25 (List.mem_of_getElem? (i := 26) (by decide +kernel))
theorem zw_1527 : Cond.selects RX12 yX12_head yX12_head ∈ zAll := zi_25 (List.mem_of_getElem? (i := 27) (by decide +kernel))
theorem zw_1528 : Cond.methodLink RX16 182 yX16_scale_ ∈ zAll := zi_25 (List.mem_of_getElem? (i := 28) (by decide +kernel))
theorem zw_1529 : Cond.static yX16_scale_ ∈ zAll := zi_25 (List.mem_of_getElem? (i := 29) (by decide +kernel))
theorem zw_1530 : Cond.code yX16_gcd_ cX16_gcd_ 10 none ∈ zAll := zi_25 (List.mem_of_getElem? (i := 30) (by rfl))
theorem zw_1531 : Cond.code yX16_fits cX16_fits 3 (some .boolean) ∈ zAll := zi_25 (List.mem_of_getElem? (i := 31) (by rfl))
theorem zw_1532 : Cond.code yX16_settle cX16_settle 3 none ∈ zAll := zi_25 (List.mem_of_getElem? (i := 32) (by rfl))
theorem zw_1533 : Cond.methodLink RX16 185 yX16_gcd_ ∈ zAll := zi_25 (List.mem_of_getElem? (i := 33) (by decide +kernel))
theorem zw_1534 : Cond.instanceMethod yX16_gcd_ ∈ zAll := zi_25 (List.mem_of_getElem? (i := 34) (by decide +kernel))
theorem zw_1535 : Cond.selects RX16 yX16_gcd_ yX16_gcd_ ∈ zAll := zi_25 (List.mem_of_getElem? (i := 35) (by decide +kernel))
theorem zw_1536 : Cond.methodLink RX16 187 yX12_isNumber ∈ zAll := zi_25 (List.mem_of_getElem? (i := 36) (by decide +kernel))
theorem zw_1537 : Cond.instanceMethod yX12_isNumber ∈ zAll := zi_25 (List.mem_of_getElem? (i := 37) (by decide +kernel))
theorem zw_1538 : Cond.selects RX12 yX12_isNumber yX12_isNumber ∈ zAll := zi_25 (List.mem_of_getElem? (i := 38) (by decide +kernel))
theorem zw_1539 : Cond.methodLink RX16 191 yX16_settle ∈ zAll := zi_25 (List.mem_of_getElem? (i := 39) (by decide +kernel))
theorem zw_1540 : Cond.static yX16_settle ∈ zAll := zi_25 (List.mem_of_getElem? (i := 40) (by decide +kernel))
theorem zw_1541 : Cond.code yX16_reduce cX16_reduce 7 none ∈ zAll := zi_25 (List.mem_of_getElem? (i := 41) (by rfl))
theorem zw_1542 : Cond.code yX16_cancel cX16_cancel 7 none ∈ zAll := zi_25 (List.mem_of_getElem? (i := 42) (by rfl))
theorem zw_1543 : Cond.methodLink RX16 194 yX16_cancel ∈ zAll := zi_25 (List.mem_of_getElem? (i := 43) (by decide +kernel))
theorem zw_1544 : Cond.instanceMethod yX16_cancel ∈ zAll := zi_25 (List.mem_of_getElem? (i := 44) (by decide +kernel))
theorem zw_1545 : Cond.selects RX16 yX16_cancel yX16_cancel ∈ zAll := zi_25 (List.mem_of_getElem? (i := 45) (by decide +kernel))
theorem zw_1546 : Cond.methodLink RX16 197 yX16_times_ ∈ zAll := zi_25 (List.mem_of_getElem? (i := 46) (by decide +kernel))
theorem zw_1547 : Cond.instanceMethod yX16_times_ ∈ zAll := zi_25 (List.mem_of_getElem? (i := 47) (by decide +kernel))
theorem zw_1548 : Cond.selects RX16 yX16_times_ yX16_times_ ∈ zAll := zi_25 (List.mem_of_getElem? (i := 48) (by decide +kernel))
theorem zw_1549 : Cond.code yX16_multiply cX16_multiply 12 none ∈ zAll := zi_25 (List.mem_of_getElem? (i := 49) (by rfl))
theorem zw_1550 : Cond.methodLink RX16 199 yX16_plus_ ∈ zAll := zi_25 (List.mem_of_getElem? (i := 50) (by decide +kernel))
theorem zw_1551 : Cond.static yX16_plus_ ∈ zAll := zi_25 (List.mem_of_getElem? (i := 51) (by decide +kernel))
theorem zw_1552 : Cond.code yX16_sum cX16_sum 14 none ∈ zAll := zi_25 (List.mem_of_getElem? (i := 52) (by rfl))
theorem zw_1553 : Cond.code yX16_copy cX16_copy 3 none ∈ zAll := zi_25 (List.mem_of_getElem? (i := 53) (by rfl))
theorem zw_1554 : Cond.fieldLink RX16 202 "SumHouseModel$Thing" "kind" "I" ∈ zAll := zi_25 (List.mem_of_getElem? (i := 54) (by decide +kernel))
theorem zw_1555 : Cond.fieldLink RX16 207 "SumHouseModel$Thing" "num" "[I" ∈ zAll := zi_25 (List.mem_of_getElem? (i := 55) (by decide +kernel))
theorem zw_1556 : Cond.fieldLink RX16 210 "SumHouseModel$Thing" "den" "[I" ∈ zAll := zi_25 (List.mem_of_getElem? (i := 56) (by decide +kernel))
theorem zw_1557 : Cond.fieldLink RX16 213 "SumHouseModel$Thing" "x" "I" ∈ zAll := zi_25 (List.mem_of_getElem? (i := 57) (by decide +kernel))
theorem zw_1558 : Cond.fieldLink RX16 216 "SumHouseModel$Thing" "y" "I" ∈ zAll := zi_25 (List.mem_of_getElem? (i := 58) (by decide +kernel))
theorem zw_1559 : Cond.fieldLink RX16 219 "SumHouseModel$Thing" "many" "I" ∈ zAll := zi_25 (List.mem_of_getElem? (i := 59) (by decide +kernel))
theorem zw_1560 : Cond.fieldLink RX16 222 "SumHouseModel$Thing" "fa" "[I" ∈ zAll := zi_26 (List.mem_of_getElem? (i := 0) (by decide +kernel))
theorem zw_1561 : Cond.fieldLink RX16 225 "SumHouseModel$Thing" "fb" "[I" ∈ zAll := zi_26 (List.mem_of_getElem? (i := 1) (by decide +kernel))
theorem zw_1562 : Cond.fieldLink RX16 228 "SumHouseModel$Thing" "fc" "[I" ∈ zAll := zi_26 (List.mem_of_getElem? (i := 2) (by decide +kernel))
theorem zw_1563 : Cond.fieldLink RX16 231 "SumHouseModel$Thing" "fe" "[I" ∈ zAll := zi_26 (List.mem_of_getElem? (i := 3) (by decide +kernel))
theorem zw_1564 : Cond.fieldLink RX16 234 "SumHouseModel$Thing" "order" "I" ∈ zAll := zi_26 (List.mem_of_getElem? (i := 4) (by decide +kernel))
theorem zw_1565 : Cond.fieldLink RX16 237 "SumHouseModel$Thing" "a" "[I" ∈ zAll := zi_26 (List.mem_of_getElem? (i := 5) (by decide +kernel))
theorem zw_1566 : Cond.fieldLink RX16 240 "SumHouseModel$Thing" "needs" "I" ∈ zAll := zi_26 (List.mem_of_getElem? (i := 6) (by decide +kernel))
theorem zw_1567 : Cond.fieldLink RX16 243 "SumHouseModel$Thing" "has" "I" ∈ zAll := zi_26 (List.mem_of_getElem? (i := 7) (by decide +kernel))
theorem zw_1568 : Cond.fieldLink RX16 246 "SumHouseModel$Thing" "u" "[I" ∈ zAll := zi_26 (List.mem_of_getElem? (i := 8) (by decide +kernel))
theorem zw_1569 : Cond.code yX16_load cX16_load 3 none ∈ zAll := zi_26 (List.mem_of_getElem? (i := 9) (by rfl))
theorem zw_1570 : Cond.code yX16_store cX16_store 4 none ∈ zAll := zi_26 (List.mem_of_getElem? (i := 10) (by rfl))
theorem zw_1571 : Cond.code yX16_load_ cX16_load_ 3 none ∈ zAll := zi_26 (List.mem_of_getElem? (i := 11) (by rfl))
theorem zw_1572 : Cond.code yX16_store_ cX16_store_ 4 none ∈ zAll := zi_26 (List.mem_of_getElem? (i := 12) (by rfl))
theorem zw_1573 : Cond.code yX16_put cX16_put 3 (some .boolean) ∈ zAll := zi_26 (List.mem_of_getElem? (i := 13) (by rfl))
theorem zw_1574 : Cond.methodLink RX16 249 yX16_fits ∈ zAll := zi_26 (List.mem_of_getElem? (i := 14) (by decide +kernel))
theorem zw_1575 : Cond.static yX16_fits ∈ zAll := zi_26 (List.mem_of_getElem? (i := 15) (by decide +kernel))
theorem zw_1576 : Cond.methodLink RX16 253 yX16_store ∈ zAll := zi_26 (List.mem_of_getElem? (i := 16) (by decide +kernel))
theorem zw_1577 : Cond.static yX16_store ∈ zAll := zi_26 (List.mem_of_getElem? (i := 17) (by decide +kernel))
theorem zw_1578 : Cond.code yX16_plain cX16_plain 1 none ∈ zAll := zi_26 (List.mem_of_getElem? (i := 18) (by rfl))
theorem zw_1579 : Cond.methodLink RX16 257 yX16_plain ∈ zAll := zi_26 (List.mem_of_getElem? (i := 19) (by decide +kernel))
theorem zw_1580 : Cond.static yX16_plain ∈ zAll := zi_26 (List.mem_of_getElem? (i := 20) (by decide +kernel))
theorem zw_1581 : Cond.methodLink RX16 261 yX16_put ∈ zAll := zi_26 (List.mem_of_getElem? (i := 21) (by decide +kernel))
theorem zw_1582 : Cond.static yX16_put ∈ zAll := zi_26 (List.mem_of_getElem? (i := 22) (by decide +kernel))
theorem zw_1583 : Cond.code yX16_number cX16_number 7 none ∈ zAll := zi_26 (List.mem_of_getElem? (i := 23) (by rfl))
theorem zw_1584 : Cond.code yX16_isZero cX16_isZero 3 (some .boolean) ∈ zAll := zi_26 (List.mem_of_getElem? (i := 24) (by rfl))
theorem zw_1585 : Cond.code yX16_isOne cX16_isOne 3 (some .boolean) ∈ zAll := zi_26 (List.mem_of_getElem? (i := 25) (by rfl))
theorem zw_1586 : Cond.code yX16_isNumber cX16_isNumber 3 (some .boolean) ∈ zAll := zi_26 (List.mem_of_getElem? (i := 26) (by rfl))
theorem zw_1587 : Cond.methodLink RX16 265 yX16_isOne ∈ zAll := zi_26 (List.mem_of_getElem? (i := 27) (by decide +kernel))
theorem zw_1588 : Cond.static yX16_isOne ∈ zAll := zi_26 (List.mem_of_getElem? (i := 28) (by decide +kernel))
theorem zw_1589 : Cond.code yX16_move cX16_move 3 none ∈ zAll := zi_26 (List.mem_of_getElem? (i := 29) (by rfl))
theorem zw_1590 : Cond.code yX16_factor cX16_factor 7 none ∈ zAll := zi_26 (List.mem_of_getElem? (i := 30) (by rfl))
theorem zw_1591 : Cond.methodLink RX16 269 yX16_move ∈ zAll := zi_26 (List.mem_of_getElem? (i := 31) (by decide +kernel))
theorem zw_1592 : Cond.static yX16_move ∈ zAll := zi_26 (List.mem_of_getElem? (i := 32) (by decide +kernel))
theorem zw_1593 : Cond.code yX16_weight cX16_weight 3 (some .int) ∈ zAll := zi_26 (List.mem_of_getElem? (i := 33) (by rfl))
theorem zw_1594 : Cond.methodLink RX16 273 Lib.Math.abs.name ∈ zAll := zi_26 (List.mem_of_getElem? (i := 34) (by decide +kernel))
theorem zw_1595 : Cond.code yX16_name cX16_name 1 none ∈ zAll := zi_26 (List.mem_of_getElem? (i := 35) (by rfl))
theorem zw_1596 : Cond.code yX16_joined cX16_joined 7 (some .int) ∈ zAll := zi_26 (List.mem_of_getElem? (i := 36) (by rfl))
theorem zw_1597 : Cond.code yX16_mergeAll cX16_mergeAll 8 none ∈ zAll := zi_26 (List.mem_of_getElem? (i := 37) (by rfl))
theorem zw_1598 : Cond.fieldLink RX16 310 "SumHouseModel" "done" "[Z" ∈ zAll := zi_26 (List.mem_of_getElem? (i := 38) (by decide +kernel))
theorem zw_1599 : Cond.methodLink RX16 284 yX16_factor ∈ zAll := zi_26 (List.mem_of_getElem? (i := 39) (by decide +kernel))
theorem zw_1600 : Cond.static yX16_factor ∈ zAll := zi_26 (List.mem_of_getElem? (i := 40) (by decide +kernel))
theorem zw_1601 : Cond.methodLink RX16 288 yX16_isZero ∈ zAll := zi_26 (List.mem_of_getElem? (i := 41) (by decide +kernel))
theorem zw_1602 : Cond.static yX16_isZero ∈ zAll := zi_26 (List.mem_of_getElem? (i := 42) (by decide +kernel))
theorem zw_1603 : Cond.methodLink RX16 292 yX16_number ∈ zAll := zi_26 (List.mem_of_getElem? (i := 43) (by decide +kernel))
theorem zw_1604 : Cond.instanceMethod yX16_number ∈ zAll := zi_26 (List.mem_of_getElem? (i := 44) (by decide +kernel))
theorem zw_1605 : Cond.selects RX16 yX16_number yX16_number ∈ zAll := zi_26 (List.mem_of_getElem? (i := 45) (by decide +kernel))
theorem zw_1606 : Cond.methodLink RX16 295 yX16_load ∈ zAll := zi_26 (List.mem_of_getElem? (i := 46) (by decide +kernel))
theorem zw_1607 : Cond.static yX16_load ∈ zAll := zi_26 (List.mem_of_getElem? (i := 47) (by decide +kernel))
theorem zw_1608 : Cond.methodLink RX16 299 yX16_multiply ∈ zAll := zi_26 (List.mem_of_getElem? (i := 48) (by decide +kernel))
theorem zw_1609 : Cond.instanceMethod yX16_multiply ∈ zAll := zi_26 (List.mem_of_getElem? (i := 49) (by decide +kernel))
theorem zw_1610 : Cond.selects RX16 yX16_multiply yX16_multiply ∈ zAll := zi_26 (List.mem_of_getElem? (i := 50) (by decide +kernel))
theorem zw_1611 : Cond.methodLink RX16 280 yX16_joined ∈ zAll := zi_26 (List.mem_of_getElem? (i := 51) (by decide +kernel))
theorem zw_1612 : Cond.static yX16_joined ∈ zAll := zi_26 (List.mem_of_getElem? (i := 52) (by decide +kernel))
theorem zw_1613 : Cond.methodLink RX16 303 yX16_mergeAll ∈ zAll := zi_26 (List.mem_of_getElem? (i := 53) (by decide +kernel))
theorem zw_1614 : Cond.instanceMethod yX16_mergeAll ∈ zAll := zi_26 (List.mem_of_getElem? (i := 54) (by decide +kernel))
theorem zw_1615 : Cond.selects RX16 yX16_mergeAll yX16_mergeAll ∈ zAll := zi_26 (List.mem_of_getElem? (i := 55) (by decide +kernel))
theorem zw_1616 : Cond.methodLink RX16 307 yX16_name ∈ zAll := zi_26 (List.mem_of_getElem? (i := 56) (by decide +kernel))
theorem zw_1617 : Cond.static yX16_name ∈ zAll := zi_26 (List.mem_of_getElem? (i := 57) (by decide +kernel))
theorem zw_1618 : Cond.code yX16_multiply_ cX16_multiply_ 13 (some .boolean) ∈ zAll := zi_26 (List.mem_of_getElem? (i := 58) (by rfl))
theorem zw_1619 : Cond.methodLink RX16 314 yX12_degreeK ∈ zAll := zi_26 (List.mem_of_getElem? (i := 59) (by decide +kernel))
theorem zw_1620 : Cond.instanceMethod yX12_degreeK ∈ zAll := zi_27 (List.mem_of_getElem? (i := 0) (by decide +kernel))
theorem zw_1621 : Cond.selects RX12 yX12_degreeK yX12_degreeK ∈ zAll := zi_27 (List.mem_of_getElem? (i := 1) (by decide +kernel))
theorem zw_1622 : Cond.methodLink RX16 276 yX16_weight ∈ zAll := zi_27 (List.mem_of_getElem? (i := 2) (by decide +kernel))
theorem zw_1623 : Cond.static yX16_weight ∈ zAll := zi_27 (List.mem_of_getElem? (i := 3) (by decide +kernel))
theorem zw_1624 : Cond.methodLink RX16 317 yX16_power ∈ zAll := zi_27 (List.mem_of_getElem? (i := 4) (by decide +kernel))
theorem zw_1625 : Cond.static yX16_power ∈ zAll := zi_27 (List.mem_of_getElem? (i := 5) (by decide +kernel))
theorem zw_1626 : Cond.code yX16_raise cX16_raise 13 (some .boolean) ∈ zAll := zi_27 (List.mem_of_getElem? (i := 6) (by rfl))
theorem zw_1627 : Cond.methodLink RX16 320 yX16_sum ∈ zAll := zi_27 (List.mem_of_getElem? (i := 7) (by decide +kernel))
theorem zw_1628 : Cond.instanceMethod yX16_sum ∈ zAll := zi_27 (List.mem_of_getElem? (i := 8) (by decide +kernel))
theorem zw_1629 : Cond.selects RX16 yX16_sum yX16_sum ∈ zAll := zi_27 (List.mem_of_getElem? (i := 9) (by decide +kernel))
theorem zw_1630 : Cond.code yX16_add_ cX16_add_ 12 (some .boolean) ∈ zAll := zi_27 (List.mem_of_getElem? (i := 10) (by rfl))
theorem zw_1631 : Cond.code yX16_fail cX16_fail 3 (some (.object "SumHouseModel$Stop")) ∈ zAll := zi_27 (List.mem_of_getElem? (i := 11) (by rfl))
theorem zw_1632 : Cond.fieldLink RX16 324 "SumHouseModel" "fault" "I" ∈ zAll := zi_27 (List.mem_of_getElem? (i := 12) (by decide +kernel))
theorem zw_1633 : Cond.fieldLink RX16 327 "SumHouseModel" "faultAt" "I" ∈ zAll := zi_27 (List.mem_of_getElem? (i := 13) (by decide +kernel))
theorem zw_1634 : Cond.fieldLink RX16 330 "SumHouseModel" "stop" "LSumHouseModel$Stop;" ∈ zAll := zi_27 (List.mem_of_getElem? (i := 14) (by decide +kernel))
theorem zw_1635 : Cond.code yX16_look cX16_look 1 (some .int) ∈ zAll := zi_27 (List.mem_of_getElem? (i := 15) (by rfl))
theorem zw_1636 : Cond.fieldLink RX16 334 "SumHouseModel" "at" "I" ∈ zAll := zi_27 (List.mem_of_getElem? (i := 16) (by decide +kernel))
theorem zw_1637 : Cond.fieldLink RX16 336 "SumHouseModel" "length" "I" ∈ zAll := zi_27 (List.mem_of_getElem? (i := 17) (by decide +kernel))
theorem zw_1638 : Cond.fieldLink RX16 339 "SumHouseModel" "tape" "[B" ∈ zAll := zi_27 (List.mem_of_getElem? (i := 18) (by decide +kernel))
theorem zw_1639 : Cond.code yX16_must cX16_must 2 none ∈ zAll := zi_27 (List.mem_of_getElem? (i := 19) (by rfl))
theorem zw_1640 : Cond.methodLink RX16 343 yX16_look ∈ zAll := zi_27 (List.mem_of_getElem? (i := 20) (by decide +kernel))
theorem zw_1641 : Cond.instanceMethod yX16_look ∈ zAll := zi_27 (List.mem_of_getElem? (i := 21) (by decide +kernel))
theorem zw_1642 : Cond.selects RX16 yX16_look yX16_look ∈ zAll := zi_27 (List.mem_of_getElem? (i := 22) (by decide +kernel))
theorem zw_1643 : Cond.code yX16_bracket cX16_bracket 1 none ∈ zAll := zi_27 (List.mem_of_getElem? (i := 23) (by rfl))
theorem zw_1644 : Cond.fieldLink RX16 359 "SumHouseModel" "open" "I" ∈ zAll := zi_27 (List.mem_of_getElem? (i := 24) (by decide +kernel))
theorem zw_1645 : Cond.methodLink RX16 362 yX16_bracket ∈ zAll := zi_27 (List.mem_of_getElem? (i := 25) (by decide +kernel))
theorem zw_1646 : Cond.instanceMethod yX16_bracket ∈ zAll := zi_27 (List.mem_of_getElem? (i := 26) (by decide +kernel))
theorem zw_1647 : Cond.selects RX16 yX16_bracket yX16_bracket ∈ zAll := zi_27 (List.mem_of_getElem? (i := 27) (by decide +kernel))
theorem zw_1648 : Cond.methodLink RX16 365 yX16_readE ∈ zAll := zi_27 (List.mem_of_getElem? (i := 28) (by decide +kernel))
theorem zw_1649 : Cond.instanceMethod yX16_readE ∈ zAll := zi_27 (List.mem_of_getElem? (i := 29) (by decide +kernel))
theorem zw_1650 : Cond.selects RX16 yX16_readE yX16_readE ∈ zAll := zi_27 (List.mem_of_getElem? (i := 30) (by decide +kernel))
theorem zw_1651 : Cond.methodLink RX16 368 yX16_must ∈ zAll := zi_27 (List.mem_of_getElem? (i := 31) (by decide +kernel))
theorem zw_1652 : Cond.instanceMethod yX16_must ∈ zAll := zi_27 (List.mem_of_getElem? (i := 32) (by decide +kernel))
theorem zw_1653 : Cond.selects RX16 yX16_must yX16_must ∈ zAll := zi_27 (List.mem_of_getElem? (i := 33) (by decide +kernel))
theorem zw_1654 : Cond.code yX16_readE cX16_readE 1 none ∈ zAll := zi_27 (List.mem_of_getElem? (i := 34) (by rfl))
theorem zw_1655 : Cond.methodLink RX16 350 yX16_readU ∈ zAll := zi_27 (List.mem_of_getElem? (i := 35) (by decide +kernel))
theorem zw_1656 : Cond.instanceMethod yX16_readU ∈ zAll := zi_27 (List.mem_of_getElem? (i := 36) (by decide +kernel))
theorem zw_1657 : Cond.selects RX16 yX16_readU yX16_readU ∈ zAll := zi_27 (List.mem_of_getElem? (i := 37) (by decide +kernel))
theorem zw_1658 : Cond.code yX16_readU cX16_readU 1 none ∈ zAll := zi_27 (List.mem_of_getElem? (i := 38) (by rfl))
theorem zw_1659 : Cond.methodLink RX16 353 yX16_readW ∈ zAll := zi_27 (List.mem_of_getElem? (i := 39) (by decide +kernel))
theorem zw_1660 : Cond.instanceMethod yX16_readW ∈ zAll := zi_27 (List.mem_of_getElem? (i := 40) (by decide +kernel))
theorem zw_1661 : Cond.selects RX16 yX16_readW yX16_readW ∈ zAll := zi_27 (List.mem_of_getElem? (i := 41) (by decide +kernel))
theorem zw_1662 : Cond.code yX16_readW cX16_readW 1 none ∈ zAll := zi_27 (List.mem_of_getElem? (i := 42) (by rfl))
theorem zw_1663 : Cond.methodLink RX16 356 yX16_readB ∈ zAll := zi_27 (List.mem_of_getElem? (i := 43) (by decide +kernel))
theorem zw_1664 : Cond.instanceMethod yX16_readB ∈ zAll := zi_27 (List.mem_of_getElem? (i := 44) (by decide +kernel))
theorem zw_1665 : Cond.selects RX16 yX16_readB yX16_readB ∈ zAll := zi_27 (List.mem_of_getElem? (i := 45) (by decide +kernel))
theorem zw_1666 : Cond.code yX16_readB cX16_readB 3 none ∈ zAll := zi_27 (List.mem_of_getElem? (i := 46) (by rfl))
theorem zw_1667 : Cond.code yX16_newThing cX16_newThing 1 (some (.object "SumHouseModel$Thing")) ∈ zAll := zi_27 (List.mem_of_getElem? (i := 47) (by rfl))
theorem zw_1668 : Cond.fieldLink RX16 371 "SumHouseModel" "pile" "[LSumHouseModel$Thing;" ∈ zAll := zi_27 (List.mem_of_getElem? (i := 48) (by decide +kernel))
theorem zw_1669 : Cond.fieldLink RX16 375 "SumHouseModel" "piled" "I" ∈ zAll := zi_27 (List.mem_of_getElem? (i := 49) (by decide +kernel))
theorem zw_1670 : Cond.code yX16_isLine_ cX16_isLine_ 3 (some .boolean) ∈ zAll := zi_27 (List.mem_of_getElem? (i := 50) (by rfl))
theorem zw_1671 : Cond.code yX16_isLine cX16_isLine 4 (some .boolean) ∈ zAll := zi_27 (List.mem_of_getElem? (i := 51) (by rfl))
theorem zw_1672 : Cond.fieldLink RX16 393 "SumHouseModel" "la" "I" ∈ zAll := zi_27 (List.mem_of_getElem? (i := 52) (by decide +kernel))
theorem zw_1673 : Cond.fieldLink RX16 396 "SumHouseModel" "lb" "I" ∈ zAll := zi_27 (List.mem_of_getElem? (i := 53) (by decide +kernel))
theorem zw_1674 : Cond.fieldLink RX16 399 "SumHouseModel" "lc" "I" ∈ zAll := zi_27 (List.mem_of_getElem? (i := 54) (by decide +kernel))
theorem zw_1675 : Cond.methodLink RX16 390 yX16_small ∈ zAll := zi_27 (List.mem_of_getElem? (i := 55) (by decide +kernel))
theorem zw_1676 : Cond.static yX16_small ∈ zAll := zi_27 (List.mem_of_getElem? (i := 56) (by decide +kernel))
theorem zw_1677 : Cond.methodLink RX16 402 yX16_isLine_ ∈ zAll := zi_27 (List.mem_of_getElem? (i := 57) (by decide +kernel))
theorem zw_1678 : Cond.static yX16_isLine_ ∈ zAll := zi_27 (List.mem_of_getElem? (i := 58) (by decide +kernel))
theorem zw_1679 : Cond.code yX16_factorial cX16_factorial 8 none ∈ zAll := zi_27 (List.mem_of_getElem? (i := 59) (by rfl))
theorem zw_1680 : Cond.methodLink RX16 417 yX16_raise ∈ zAll := zi_28 (List.mem_of_getElem? (i := 0) (by decide +kernel))
theorem zw_1681 : Cond.instanceMethod yX16_raise ∈ zAll := zi_28 (List.mem_of_getElem? (i := 1) (by decide +kernel))
theorem zw_1682 : Cond.selects RX16 yX16_raise yX16_raise ∈ zAll := zi_28 (List.mem_of_getElem? (i := 2) (by decide +kernel))
theorem zw_1683 : Cond.methodLink RX16 421 yX16_isNumber ∈ zAll := zi_28 (List.mem_of_getElem? (i := 3) (by decide +kernel))
theorem zw_1684 : Cond.static yX16_isNumber ∈ zAll := zi_28 (List.mem_of_getElem? (i := 4) (by decide +kernel))
theorem zw_1685 : Cond.code yX16_raiseText cX16_raiseText 4 none ∈ zAll := zi_28 (List.mem_of_getElem? (i := 5) (by rfl))
theorem zw_1686 : Cond.methodLink RX16 423 yX16_valueE ∈ zAll := zi_28 (List.mem_of_getElem? (i := 6) (by decide +kernel))
theorem zw_1687 : Cond.instanceMethod yX16_valueE ∈ zAll := zi_28 (List.mem_of_getElem? (i := 7) (by decide +kernel))
theorem zw_1688 : Cond.selects RX16 yX16_valueE yX16_valueE ∈ zAll := zi_28 (List.mem_of_getElem? (i := 8) (by decide +kernel))
theorem zw_1689 : Cond.methodLink RX16 409 yX16_isLine ∈ zAll := zi_28 (List.mem_of_getElem? (i := 9) (by decide +kernel))
theorem zw_1690 : Cond.instanceMethod yX16_isLine ∈ zAll := zi_28 (List.mem_of_getElem? (i := 10) (by decide +kernel))
theorem zw_1691 : Cond.selects RX16 yX16_isLine yX16_isLine ∈ zAll := zi_28 (List.mem_of_getElem? (i := 11) (by decide +kernel))
theorem zw_1692 : Cond.methodLink RX16 411 yX16_factorial ∈ zAll := zi_28 (List.mem_of_getElem? (i := 12) (by decide +kernel))
theorem zw_1693 : Cond.instanceMethod yX16_factorial ∈ zAll := zi_28 (List.mem_of_getElem? (i := 13) (by decide +kernel))
theorem zw_1694 : Cond.selects RX16 yX16_factorial yX16_factorial ∈ zAll := zi_28 (List.mem_of_getElem? (i := 14) (by decide +kernel))
theorem zw_1695 : Cond.code yX16_valueB cX16_valueB 5 (some (.object "SumHouseModel$Thing")) ∈ zAll := zi_28 (List.mem_of_getElem? (i := 15) (by rfl))
theorem zw_1696 : Cond.constantLong RX16 432 (10) ∈ zAll := zi_28 (List.mem_of_getElem? (i := 16) (by decide +kernel))
theorem zw_1697 : Cond.constantLong RX16 434 (48) ∈ zAll := zi_28 (List.mem_of_getElem? (i := 17) (by decide +kernel))
theorem zw_1698 : Cond.methodLink RX16 426 yX16_choose ∈ zAll := zi_28 (List.mem_of_getElem? (i := 18) (by decide +kernel))
theorem zw_1699 : Cond.instanceMethod yX16_choose ∈ zAll := zi_28 (List.mem_of_getElem? (i := 19) (by decide +kernel))
theorem zw_1700 : Cond.selects RX16 yX16_choose yX16_choose ∈ zAll := zi_28 (List.mem_of_getElem? (i := 20) (by decide +kernel))
theorem zw_1701 : Cond.methodLink RX16 429 yX16_newThing ∈ zAll := zi_28 (List.mem_of_getElem? (i := 21) (by decide +kernel))
theorem zw_1702 : Cond.instanceMethod yX16_newThing ∈ zAll := zi_28 (List.mem_of_getElem? (i := 22) (by decide +kernel))
theorem zw_1703 : Cond.selects RX16 yX16_newThing yX16_newThing ∈ zAll := zi_28 (List.mem_of_getElem? (i := 23) (by decide +kernel))
theorem zw_1704 : Cond.code yX16_valueE cX16_valueE 6 (some (.object "SumHouseModel$Thing")) ∈ zAll := zi_28 (List.mem_of_getElem? (i := 24) (by rfl))
theorem zw_1705 : Cond.methodLink RX16 378 yX16_valueU ∈ zAll := zi_28 (List.mem_of_getElem? (i := 25) (by decide +kernel))
theorem zw_1706 : Cond.instanceMethod yX16_valueU ∈ zAll := zi_28 (List.mem_of_getElem? (i := 26) (by decide +kernel))
theorem zw_1707 : Cond.selects RX16 yX16_valueU yX16_valueU ∈ zAll := zi_28 (List.mem_of_getElem? (i := 27) (by decide +kernel))
theorem zw_1708 : Cond.methodLink RX16 382 yX16_add_ ∈ zAll := zi_28 (List.mem_of_getElem? (i := 28) (by decide +kernel))
theorem zw_1709 : Cond.instanceMethod yX16_add_ ∈ zAll := zi_28 (List.mem_of_getElem? (i := 29) (by decide +kernel))
theorem zw_1710 : Cond.selects RX16 yX16_add_ yX16_add_ ∈ zAll := zi_28 (List.mem_of_getElem? (i := 30) (by decide +kernel))
theorem zw_1711 : Cond.code yX16_valueU cX16_valueU 5 (some (.object "SumHouseModel$Thing")) ∈ zAll := zi_28 (List.mem_of_getElem? (i := 31) (by rfl))
theorem zw_1712 : Cond.methodLink RX16 385 yX16_valueW ∈ zAll := zi_28 (List.mem_of_getElem? (i := 32) (by decide +kernel))
theorem zw_1713 : Cond.instanceMethod yX16_valueW ∈ zAll := zi_28 (List.mem_of_getElem? (i := 33) (by decide +kernel))
theorem zw_1714 : Cond.selects RX16 yX16_valueW yX16_valueW ∈ zAll := zi_28 (List.mem_of_getElem? (i := 34) (by decide +kernel))
theorem zw_1715 : Cond.methodLink RX16 388 yX16_multiply_ ∈ zAll := zi_28 (List.mem_of_getElem? (i := 35) (by decide +kernel))
theorem zw_1716 : Cond.instanceMethod yX16_multiply_ ∈ zAll := zi_28 (List.mem_of_getElem? (i := 36) (by decide +kernel))
theorem zw_1717 : Cond.selects RX16 yX16_multiply_ yX16_multiply_ ∈ zAll := zi_28 (List.mem_of_getElem? (i := 37) (by decide +kernel))
theorem zw_1718 : Cond.code yX16_valueW cX16_valueW 4 (some (.object "SumHouseModel$Thing")) ∈ zAll := zi_28 (List.mem_of_getElem? (i := 38) (by rfl))
theorem zw_1719 : Cond.methodLink RX16 406 yX16_valueB ∈ zAll := zi_28 (List.mem_of_getElem? (i := 39) (by decide +kernel))
theorem zw_1720 : Cond.instanceMethod yX16_valueB ∈ zAll := zi_28 (List.mem_of_getElem? (i := 40) (by decide +kernel))
theorem zw_1721 : Cond.selects RX16 yX16_valueB yX16_valueB ∈ zAll := zi_28 (List.mem_of_getElem? (i := 41) (by decide +kernel))
theorem zw_1722 : Cond.methodLink RX16 414 yX16_raiseText ∈ zAll := zi_28 (List.mem_of_getElem? (i := 42) (by decide +kernel))
theorem zw_1723 : Cond.instanceMethod yX16_raiseText ∈ zAll := zi_28 (List.mem_of_getElem? (i := 43) (by decide +kernel))
theorem zw_1724 : Cond.selects RX16 yX16_raiseText yX16_raiseText ∈ zAll := zi_28 (List.mem_of_getElem? (i := 44) (by decide +kernel))
theorem zw_1725 : Cond.code yX16_choose cX16_choose 11 (some (.object "SumHouseModel$Thing")) ∈ zAll := zi_28 (List.mem_of_getElem? (i := 45) (by rfl))
theorem zw_1726 : Cond.methodLink RX16 436 objectInit ∈ zAll := zi_28 (List.mem_of_getElem? (i := 46) (by decide +kernel))
theorem zw_1727 : Cond.classLink RX16 26 RX15 ∈ zAll := zi_28 (List.mem_of_getElem? (i := 47) (by decide +kernel))
theorem zw_1728 : Cond.classLink RX16 94 RX12 ∈ zAll := zi_28 (List.mem_of_getElem? (i := 48) (by decide +kernel))
theorem zw_1729 : Cond.classLink RX16 441 "[[I" ∈ zAll := zi_28 (List.mem_of_getElem? (i := 49) (by decide +kernel))
theorem zw_1730 : Cond.classLink RX16 203 RX14 ∈ zAll := zi_28 (List.mem_of_getElem? (i := 50) (by decide +kernel))
theorem zw_1731 : Cond.instantiable RX14 15 ∈ zAll := zi_28 (List.mem_of_getElem? (i := 51) (by decide +kernel))
theorem zw_1732 : Cond.initialized RX14 ∈ zAll := zi_28 (List.mem_of_getElem? (i := 52) (by decide +kernel))
theorem zw_1733 : Cond.fieldLink RX16 443 "SumHouseModel" "spare" "LSumHouseModel$Thing;" ∈ zAll := zi_28 (List.mem_of_getElem? (i := 53) (by decide +kernel))
theorem zw_1734 : Cond.arrayClass .boolean ∈ zAll := zi_28 (List.mem_of_getElem? (i := 54) (by decide +kernel))
theorem zw_1735 : Cond.classLink RX16 447 RX13 ∈ zAll := zi_28 (List.mem_of_getElem? (i := 55) (by decide +kernel))
theorem zw_1736 : Cond.instantiable RX13 6 ∈ zAll := zi_28 (List.mem_of_getElem? (i := 56) (by decide +kernel))
theorem zw_1737 : Cond.initialized RX13 ∈ zAll := zi_28 (List.mem_of_getElem? (i := 57) (by decide +kernel))
theorem zw_1738 : Cond.arrayClass .byte ∈ zAll := zi_28 (List.mem_of_getElem? (i := 58) (by decide +kernel))
theorem zw_1739 : Cond.fieldLink RX16 450 "SumHouseModel" "slots" "[LSumHouseModel$Thing;" ∈ zAll := zi_28 (List.mem_of_getElem? (i := 59) (by decide +kernel))
theorem zw_1740 : Cond.fieldLink RX16 453 "SumHouseModel" "made" "LSumHouseModel$Thing;" ∈ zAll := zi_29 (List.mem_of_getElem? (i := 0) (by decide +kernel))
theorem zw_1741 : Cond.fieldLink RX16 456 "SumHouseModel" "place" "I" ∈ zAll := zi_29 (List.mem_of_getElem? (i := 1) (by decide +kernel))
theorem zw_1742 : Cond.fieldLink RX16 459 "SumHouseModel" "out" "[B" ∈ zAll := zi_29 (List.mem_of_getElem? (i := 2) (by decide +kernel))
theorem zw_1743 : Cond.fieldLink RX16 462 "SumHouseModel" "line" "[B" ∈ zAll := zi_29 (List.mem_of_getElem? (i := 3) (by decide +kernel))
theorem zw_1744 : Cond.fieldLink RX16 465 "SumHouseModel" "fed" "[I" ∈ zAll := zi_29 (List.mem_of_getElem? (i := 4) (by decide +kernel))
theorem zw_1745 : Cond.fieldLink RX16 468 "SumHouseModel" "rootOf" "[I" ∈ zAll := zi_29 (List.mem_of_getElem? (i := 5) (by decide +kernel))
theorem zw_1746 : Cond.fieldLink RX16 471 "SumHouseModel" "qa" "[I" ∈ zAll := zi_29 (List.mem_of_getElem? (i := 6) (by decide +kernel))
theorem zw_1747 : Cond.fieldLink RX16 474 "SumHouseModel" "qb" "[I" ∈ zAll := zi_29 (List.mem_of_getElem? (i := 7) (by decide +kernel))
theorem zw_1748 : Cond.fieldLink RX16 477 "SumHouseModel" "qc" "[I" ∈ zAll := zi_29 (List.mem_of_getElem? (i := 8) (by decide +kernel))
theorem zw_1749 : Cond.fieldLink RX16 480 "SumHouseModel" "qe" "[I" ∈ zAll := zi_29 (List.mem_of_getElem? (i := 9) (by decide +kernel))
theorem zw_1750 : Cond.fieldLink RX16 483 "SumHouseModel" "rows" "[[I" ∈ zAll := zi_29 (List.mem_of_getElem? (i := 10) (by decide +kernel))
theorem zw_1751 : Cond.fieldLink RX16 487 "SumHouseModel" "board" "[[LSumHouseModel$U;" ∈ zAll := zi_29 (List.mem_of_getElem? (i := 11) (by decide +kernel))
theorem zw_1752 : Cond.fieldLink RX16 490 "SumHouseModel" "solution" "[LSumHouseModel$U;" ∈ zAll := zi_29 (List.mem_of_getElem? (i := 12) (by decide +kernel))
theorem zw_1753 : Cond.fieldLink RX16 493 "SumHouseModel" "isPivot" "[Z" ∈ zAll := zi_29 (List.mem_of_getElem? (i := 13) (by decide +kernel))
theorem zw_1754 : Cond.fieldLink RX16 496 "SumHouseModel" "pivotOf" "[I" ∈ zAll := zi_29 (List.mem_of_getElem? (i := 14) (by decide +kernel))
theorem zw_1755 : Cond.fieldLink RX16 499 "SumHouseModel" "parts" "[LSumHouseModel$B;" ∈ zAll := zi_29 (List.mem_of_getElem? (i := 15) (by decide +kernel))
theorem zw_1756 : Cond.fieldLink RX16 502 "SumHouseModel" "partDown" "[LSumHouseModel$U;" ∈ zAll := zi_29 (List.mem_of_getElem? (i := 16) (by decide +kernel))
theorem zw_1757 : Cond.fieldLink RX16 505 "SumHouseModel" "sNum" "[[I" ∈ zAll := zi_29 (List.mem_of_getElem? (i := 17) (by decide +kernel))
theorem zw_1758 : Cond.fieldLink RX16 508 "SumHouseModel" "sDen" "[[I" ∈ zAll := zi_29 (List.mem_of_getElem? (i := 18) (by decide +kernel))
theorem zw_1759 : Cond.fieldLink RX16 511 "SumHouseModel" "tops" "[LSumHouseModel$B;" ∈ zAll := zi_29 (List.mem_of_getElem? (i := 19) (by decide +kernel))
theorem zw_1760 : Cond.fieldLink RX16 514 "SumHouseModel" "unders" "[LSumHouseModel$B;" ∈ zAll := zi_29 (List.mem_of_getElem? (i := 20) (by decide +kernel))
theorem zw_1761 : Cond.fieldLink RX16 517 "SumHouseModel" "rowOf" "[LSumHouseModel$U;" ∈ zAll := zi_29 (List.mem_of_getElem? (i := 21) (by decide +kernel))
theorem zw_1762 : Cond.fieldLink RX16 520 "SumHouseModel" "ways" "[[LSumHouseModel$U;" ∈ zAll := zi_29 (List.mem_of_getElem? (i := 22) (by decide +kernel))
theorem zw_1763 : Cond.fieldLink RX16 523 "SumHouseModel" "others" "[[LSumHouseModel$U;" ∈ zAll := zi_29 (List.mem_of_getElem? (i := 23) (by decide +kernel))
theorem zw_1764 : Cond.fieldLink RX16 526 "SumHouseModel" "wayDown" "[LSumHouseModel$U;" ∈ zAll := zi_29 (List.mem_of_getElem? (i := 24) (by decide +kernel))
theorem zw_1765 : Cond.fieldLink RX16 529 "SumHouseModel" "otherDown" "[LSumHouseModel$U;" ∈ zAll := zi_29 (List.mem_of_getElem? (i := 25) (by decide +kernel))
theorem zw_1766 : Cond.fieldLink RX16 532 "SumHouseModel" "lineOf" "[[I" ∈ zAll := zi_29 (List.mem_of_getElem? (i := 26) (by decide +kernel))
theorem zw_1767 : Cond.fieldLink RX16 535 "SumHouseModel" "unknown" "[I" ∈ zAll := zi_29 (List.mem_of_getElem? (i := 27) (by decide +kernel))
theorem zw_1768 : Cond.fieldLink RX16 538 "SumHouseModel" "found" "[I" ∈ zAll := zi_29 (List.mem_of_getElem? (i := 28) (by decide +kernel))
theorem zw_1769 : Cond.fieldLink RX16 541 "SumHouseModel" "howOften" "[I" ∈ zAll := zi_29 (List.mem_of_getElem? (i := 29) (by decide +kernel))
theorem zw_1770 : Cond.instantiable RX12 2 ∈ zAll := zi_29 (List.mem_of_getElem? (i := 30) (by decide +kernel))
theorem zw_1771 : Cond.instanceMethod yX14_init ∈ zAll := zi_29 (List.mem_of_getElem? (i := 31) (by decide +kernel))
theorem zw_1772 : Cond.methodLink RX16 449 yX13_init ∈ zAll := zi_29 (List.mem_of_getElem? (i := 32) (by decide +kernel))
theorem zw_1773 : Cond.instanceMethod yX13_init ∈ zAll := zi_29 (List.mem_of_getElem? (i := 33) (by decide +kernel))
theorem zw_1774 : Cond.methodLink RX16 544 yX15_init ∈ zAll := zi_29 (List.mem_of_getElem? (i := 34) (by decide +kernel))
theorem zw_1775 : Cond.methodLink RX16 546 yX12_init ∈ zAll := zi_29 (List.mem_of_getElem? (i := 35) (by decide +kernel))
theorem zw_1776 : Cond.instanceMethod yX12_init ∈ zAll := zi_29 (List.mem_of_getElem? (i := 36) (by decide +kernel))
theorem zw_1777 : Cond.code yX16_init cX16_init 3 none ∈ zAll := zi_29 (List.mem_of_getElem? (i := 37) (by rfl))
theorem zw_1778 : Cond.code yX16_isSlot cX16_isSlot 1 (some .boolean) ∈ zAll := zi_29 (List.mem_of_getElem? (i := 38) (by rfl))
theorem zw_1779 : Cond.code yX16_begin cX16_begin 1 none ∈ zAll := zi_29 (List.mem_of_getElem? (i := 39) (by rfl))
theorem zw_1780 : Cond.methodLink RX16 547 yX16_copy ∈ zAll := zi_29 (List.mem_of_getElem? (i := 40) (by decide +kernel))
theorem zw_1781 : Cond.static yX16_copy ∈ zAll := zi_29 (List.mem_of_getElem? (i := 41) (by decide +kernel))
theorem zw_1782 : Cond.code yX16_keep cX16_keep 2 (some .int) ∈ zAll := zi_29 (List.mem_of_getElem? (i := 42) (by rfl))
theorem zw_1783 : Cond.code yX16_type cX16_type 5 (some .int) ∈ zAll := zi_29 (List.mem_of_getElem? (i := 43) (by rfl))
theorem zw_1784 : Cond.methodLink RX16 551 yX16_isSlot ∈ zAll := zi_29 (List.mem_of_getElem? (i := 44) (by decide +kernel))
theorem zw_1785 : Cond.static yX16_isSlot ∈ zAll := zi_29 (List.mem_of_getElem? (i := 45) (by decide +kernel))
theorem zw_1786 : Cond.methodLink RX16 555 yX16_begin ∈ zAll := zi_29 (List.mem_of_getElem? (i := 46) (by decide +kernel))
theorem zw_1787 : Cond.instanceMethod yX16_begin ∈ zAll := zi_29 (List.mem_of_getElem? (i := 47) (by decide +kernel))
theorem zw_1788 : Cond.selects RX16 yX16_begin yX16_begin ∈ zAll := zi_29 (List.mem_of_getElem? (i := 48) (by decide +kernel))
theorem zw_1789 : Cond.methodLink RX16 558 yX16_keep ∈ zAll := zi_29 (List.mem_of_getElem? (i := 49) (by decide +kernel))
theorem zw_1790 : Cond.instanceMethod yX16_keep ∈ zAll := zi_29 (List.mem_of_getElem? (i := 50) (by decide +kernel))
theorem zw_1791 : Cond.selects RX16 yX16_keep yX16_keep ∈ zAll := zi_29 (List.mem_of_getElem? (i := 51) (by decide +kernel))
theorem zw_1792 : Cond.code yX16_place cX16_place 1 (some .int) ∈ zAll := zi_29 (List.mem_of_getElem? (i := 52) (by rfl))
theorem zw_1793 : Cond.code yX16_say cX16_say 2 none ∈ zAll := zi_29 (List.mem_of_getElem? (i := 53) (by rfl))
theorem zw_1794 : Cond.fieldLink RX16 561 "SumHouseModel" "outWanted" "I" ∈ zAll := zi_29 (List.mem_of_getElem? (i := 54) (by decide +kernel))
theorem zw_1795 : Cond.code yX16_sayNumber cX16_sayNumber 5 none ∈ zAll := zi_29 (List.mem_of_getElem? (i := 55) (by rfl))
theorem zw_1796 : Cond.methodLink RX16 564 yX16_say ∈ zAll := zi_29 (List.mem_of_getElem? (i := 56) (by decide +kernel))
theorem zw_1797 : Cond.instanceMethod yX16_say ∈ zAll := zi_29 (List.mem_of_getElem? (i := 57) (by decide +kernel))
theorem zw_1798 : Cond.selects RX16 yX16_say yX16_say ∈ zAll := zi_29 (List.mem_of_getElem? (i := 58) (by decide +kernel))
theorem zw_1799 : Cond.code yX16_sayLetter cX16_sayLetter 4 none ∈ zAll := zi_29 (List.mem_of_getElem? (i := 59) (by rfl))
theorem zw_1800 : Cond.methodLink RX16 571 yX16_sayNumber ∈ zAll := zi_30 (List.mem_of_getElem? (i := 0) (by decide +kernel))
theorem zw_1801 : Cond.instanceMethod yX16_sayNumber ∈ zAll := zi_30 (List.mem_of_getElem? (i := 1) (by decide +kernel))
theorem zw_1802 : Cond.selects RX16 yX16_sayNumber yX16_sayNumber ∈ zAll := zi_30 (List.mem_of_getElem? (i := 2) (by decide +kernel))
theorem zw_1803 : Cond.fieldLink RX16 567 "SumHouseModel" "first" "Z" ∈ zAll := zi_30 (List.mem_of_getElem? (i := 3) (by decide +kernel))
theorem zw_1804 : Cond.methodLink RX16 575 yX16_sayLetter ∈ zAll := zi_30 (List.mem_of_getElem? (i := 4) (by decide +kernel))
theorem zw_1805 : Cond.instanceMethod yX16_sayLetter ∈ zAll := zi_30 (List.mem_of_getElem? (i := 5) (by decide +kernel))
theorem zw_1806 : Cond.selects RX16 yX16_sayLetter yX16_sayLetter ∈ zAll := zi_30 (List.mem_of_getElem? (i := 6) (by decide +kernel))
theorem zw_1807 : Cond.code yX16_sayPart cX16_sayPart 7 none ∈ zAll := zi_30 (List.mem_of_getElem? (i := 7) (by rfl))
theorem zw_1808 : Cond.methodLink RX16 579 yX16_sayPart ∈ zAll := zi_30 (List.mem_of_getElem? (i := 8) (by decide +kernel))
theorem zw_1809 : Cond.instanceMethod yX16_sayPart ∈ zAll := zi_30 (List.mem_of_getElem? (i := 9) (by decide +kernel))
theorem zw_1810 : Cond.selects RX16 yX16_sayPart yX16_sayPart ∈ zAll := zi_30 (List.mem_of_getElem? (i := 10) (by decide +kernel))
theorem zw_1811 : Cond.code yX16_sayCells cX16_sayCells 4 none ∈ zAll := zi_30 (List.mem_of_getElem? (i := 11) (by rfl))
theorem zw_1812 : Cond.methodLink RX16 583 yX16_sayCells ∈ zAll := zi_30 (List.mem_of_getElem? (i := 12) (by decide +kernel))
theorem zw_1813 : Cond.instanceMethod yX16_sayCells ∈ zAll := zi_30 (List.mem_of_getElem? (i := 13) (by decide +kernel))
theorem zw_1814 : Cond.selects RX16 yX16_sayCells yX16_sayCells ∈ zAll := zi_30 (List.mem_of_getElem? (i := 14) (by decide +kernel))
theorem zw_1815 : Cond.code yX16_sayRatio cX16_sayRatio 3 none ∈ zAll := zi_30 (List.mem_of_getElem? (i := 15) (by rfl))
theorem zw_1816 : Cond.code yX16_sayBase cX16_sayBase 3 none ∈ zAll := zi_30 (List.mem_of_getElem? (i := 16) (by rfl))
theorem zw_1817 : Cond.methodLink RX16 600 yX16_rest ∈ zAll := zi_30 (List.mem_of_getElem? (i := 17) (by decide +kernel))
theorem zw_1818 : Cond.static yX16_rest ∈ zAll := zi_30 (List.mem_of_getElem? (i := 18) (by decide +kernel))
theorem zw_1819 : Cond.code yX16_sayLine cX16_sayLine 4 none ∈ zAll := zi_30 (List.mem_of_getElem? (i := 19) (by rfl))
theorem zw_1820 : Cond.fieldLink RX16 597 "SumHouseModel" "outSize" "I" ∈ zAll := zi_30 (List.mem_of_getElem? (i := 20) (by decide +kernel))
theorem zw_1821 : Cond.methodLink RX16 587 yX16_sayRatio ∈ zAll := zi_30 (List.mem_of_getElem? (i := 21) (by decide +kernel))
theorem zw_1822 : Cond.instanceMethod yX16_sayRatio ∈ zAll := zi_30 (List.mem_of_getElem? (i := 22) (by decide +kernel))
theorem zw_1823 : Cond.selects RX16 yX16_sayRatio yX16_sayRatio ∈ zAll := zi_30 (List.mem_of_getElem? (i := 23) (by decide +kernel))
theorem zw_1824 : Cond.methodLink RX16 590 yX16_sayBase ∈ zAll := zi_30 (List.mem_of_getElem? (i := 24) (by decide +kernel))
theorem zw_1825 : Cond.instanceMethod yX16_sayBase ∈ zAll := zi_30 (List.mem_of_getElem? (i := 25) (by decide +kernel))
theorem zw_1826 : Cond.selects RX16 yX16_sayBase yX16_sayBase ∈ zAll := zi_30 (List.mem_of_getElem? (i := 26) (by decide +kernel))
theorem zw_1827 : Cond.methodLink RX16 594 yX16_sayLine ∈ zAll := zi_30 (List.mem_of_getElem? (i := 27) (by decide +kernel))
theorem zw_1828 : Cond.instanceMethod yX16_sayLine ∈ zAll := zi_30 (List.mem_of_getElem? (i := 28) (by decide +kernel))
theorem zw_1829 : Cond.selects RX16 yX16_sayLine yX16_sayLine ∈ zAll := zi_30 (List.mem_of_getElem? (i := 29) (by decide +kernel))
theorem zw_1830 : Cond.code yX16_write cX16_write 4 (some .int) ∈ zAll := zi_30 (List.mem_of_getElem? (i := 30) (by rfl))
theorem zw_1831 : Cond.code yX16_written cX16_written 2 (some .int) ∈ zAll := zi_30 (List.mem_of_getElem? (i := 31) (by rfl))
theorem zw_1832 : Cond.code yX16_again cX16_again 1 (some .int) ∈ zAll := zi_30 (List.mem_of_getElem? (i := 32) (by rfl))
theorem zw_1833 : Cond.code yX16_kind cX16_kind 2 (some .int) ∈ zAll := zi_30 (List.mem_of_getElem? (i := 33) (by rfl))
theorem zw_1834 : Cond.code yX16_drop cX16_drop 3 (some .int) ∈ zAll := zi_30 (List.mem_of_getElem? (i := 34) (by rfl))
theorem zw_1835 : Cond.code yX16_degree cX16_degree 4 (some .int) ∈ zAll := zi_30 (List.mem_of_getElem? (i := 35) (by rfl))
theorem zw_1836 : Cond.code yX16_degree_ cX16_degree_ 5 (some .int) ∈ zAll := zi_30 (List.mem_of_getElem? (i := 36) (by rfl))
theorem zw_1837 : Cond.methodLink RX16 603 yX16_degree ∈ zAll := zi_30 (List.mem_of_getElem? (i := 37) (by decide +kernel))
theorem zw_1838 : Cond.static yX16_degree ∈ zAll := zi_30 (List.mem_of_getElem? (i := 38) (by decide +kernel))
theorem zw_1839 : Cond.code yX16_number_ cX16_number_ 7 (some .int) ∈ zAll := zi_30 (List.mem_of_getElem? (i := 39) (by rfl))
theorem zw_1840 : Cond.code yX16_told cX16_told 5 (some .int) ∈ zAll := zi_30 (List.mem_of_getElem? (i := 40) (by rfl))
theorem zw_1841 : Cond.code yX16_factorial_ cX16_factorial_ 5 (some .int) ∈ zAll := zi_30 (List.mem_of_getElem? (i := 41) (by rfl))
theorem zw_1842 : Cond.code yX16_count cX16_count 5 (some .int) ∈ zAll := zi_30 (List.mem_of_getElem? (i := 42) (by rfl))
theorem zw_1843 : Cond.fieldLink RX16 607 "SumHouseModel" "fedCount" "I" ∈ zAll := zi_30 (List.mem_of_getElem? (i := 43) (by decide +kernel))
theorem zw_1844 : Cond.fieldLink RX16 610 "SumHouseModel" "rootCount" "I" ∈ zAll := zi_30 (List.mem_of_getElem? (i := 44) (by decide +kernel))
theorem zw_1845 : Cond.code yX16_lineFactor cX16_lineFactor 11 none ∈ zAll := zi_30 (List.mem_of_getElem? (i := 45) (by rfl))
theorem zw_1846 : Cond.fieldLink RX16 613 "SumHouseModel" "linesNumber" "I" ∈ zAll := zi_30 (List.mem_of_getElem? (i := 46) (by decide +kernel))
theorem zw_1847 : Cond.fieldLink RX16 616 "SumHouseModel" "lines" "I" ∈ zAll := zi_30 (List.mem_of_getElem? (i := 47) (by decide +kernel))
theorem zw_1848 : Cond.code yX16_lineInto cX16_lineInto 11 (some .boolean) ∈ zAll := zi_30 (List.mem_of_getElem? (i := 48) (by rfl))
theorem zw_1849 : Cond.methodLink RX16 619 yX16_lineFactor ∈ zAll := zi_30 (List.mem_of_getElem? (i := 49) (by decide +kernel))
theorem zw_1850 : Cond.instanceMethod yX16_lineFactor ∈ zAll := zi_30 (List.mem_of_getElem? (i := 50) (by decide +kernel))
theorem zw_1851 : Cond.selects RX16 yX16_lineFactor yX16_lineFactor ∈ zAll := zi_30 (List.mem_of_getElem? (i := 51) (by decide +kernel))
theorem zw_1852 : Cond.methodLink RX16 623 yX16_shiftN ∈ zAll := zi_30 (List.mem_of_getElem? (i := 52) (by decide +kernel))
theorem zw_1853 : Cond.static yX16_shiftN ∈ zAll := zi_30 (List.mem_of_getElem? (i := 53) (by decide +kernel))
theorem zw_1854 : Cond.methodLink RX16 626 yX16_shiftK ∈ zAll := zi_30 (List.mem_of_getElem? (i := 54) (by decide +kernel))
theorem zw_1855 : Cond.static yX16_shiftK ∈ zAll := zi_30 (List.mem_of_getElem? (i := 55) (by decide +kernel))
theorem zw_1856 : Cond.methodLink RX16 629 yX16_lineInto ∈ zAll := zi_30 (List.mem_of_getElem? (i := 56) (by decide +kernel))
theorem zw_1857 : Cond.instanceMethod yX16_lineInto ∈ zAll := zi_30 (List.mem_of_getElem? (i := 57) (by decide +kernel))
theorem zw_1858 : Cond.selects RX16 yX16_lineInto yX16_lineInto ∈ zAll := zi_30 (List.mem_of_getElem? (i := 58) (by decide +kernel))
theorem zw_1859 : Cond.code yX16_quotient cX16_quotient 13 (some .boolean) ∈ zAll := zi_30 (List.mem_of_getElem? (i := 59) (by rfl))
theorem zw_1860 : Cond.methodLink RX16 633 yX16_quotient ∈ zAll := zi_31 (List.mem_of_getElem? (i := 0) (by decide +kernel))
theorem zw_1861 : Cond.instanceMethod yX16_quotient ∈ zAll := zi_31 (List.mem_of_getElem? (i := 1) (by decide +kernel))
theorem zw_1862 : Cond.selects RX16 yX16_quotient yX16_quotient ∈ zAll := zi_31 (List.mem_of_getElem? (i := 2) (by decide +kernel))
theorem zw_1863 : Cond.code yX16_quotient_ cX16_quotient_ 8 (some .int) ∈ zAll := zi_31 (List.mem_of_getElem? (i := 3) (by rfl))
theorem zw_1864 : Cond.code yX16_isPolynomial cX16_isPolynomial 1 (some .boolean) ∈ zAll := zi_31 (List.mem_of_getElem? (i := 4) (by rfl))
theorem zw_1865 : Cond.code yX16_sylvester cX16_sylvester 14 (some .int) ∈ zAll := zi_31 (List.mem_of_getElem? (i := 5) (by rfl))
theorem zw_1866 : Cond.methodLink RX16 644 yX16_turn ∈ zAll := zi_31 (List.mem_of_getElem? (i := 6) (by decide +kernel))
theorem zw_1867 : Cond.static yX16_turn ∈ zAll := zi_31 (List.mem_of_getElem? (i := 7) (by decide +kernel))
theorem zw_1868 : Cond.methodLink RX16 647 yX16_sylvester ∈ zAll := zi_31 (List.mem_of_getElem? (i := 8) (by decide +kernel))
theorem zw_1869 : Cond.instanceMethod yX16_sylvester ∈ zAll := zi_31 (List.mem_of_getElem? (i := 9) (by decide +kernel))
theorem zw_1870 : Cond.selects RX16 yX16_sylvester yX16_sylvester ∈ zAll := zi_31 (List.mem_of_getElem? (i := 10) (by decide +kernel))
theorem zw_1871 : Cond.code yX16_resultant cX16_resultant 12 (some .boolean) ∈ zAll := zi_31 (List.mem_of_getElem? (i := 11) (by rfl))
theorem zw_1872 : Cond.methodLink RX16 637 yX16_isPolynomial ∈ zAll := zi_31 (List.mem_of_getElem? (i := 12) (by decide +kernel))
theorem zw_1873 : Cond.static yX16_isPolynomial ∈ zAll := zi_31 (List.mem_of_getElem? (i := 13) (by decide +kernel))
theorem zw_1874 : Cond.methodLink RX16 640 yX16_resultant ∈ zAll := zi_31 (List.mem_of_getElem? (i := 14) (by decide +kernel))
theorem zw_1875 : Cond.instanceMethod yX16_resultant ∈ zAll := zi_31 (List.mem_of_getElem? (i := 15) (by decide +kernel))
theorem zw_1876 : Cond.selects RX16 yX16_resultant yX16_resultant ∈ zAll := zi_31 (List.mem_of_getElem? (i := 16) (by decide +kernel))
theorem zw_1877 : Cond.code yX16_work cX16_work 12 (some .int) ∈ zAll := zi_31 (List.mem_of_getElem? (i := 17) (by rfl))
theorem zw_1878 : Cond.constantLong RX16 666 (-50) ∈ zAll := zi_31 (List.mem_of_getElem? (i := 18) (by decide +kernel))
theorem zw_1879 : Cond.constantLong RX16 668 (50) ∈ zAll := zi_31 (List.mem_of_getElem? (i := 19) (by decide +kernel))
theorem zw_1880 : Cond.code yX16_moved cX16_moved 10 (some .int) ∈ zAll := zi_31 (List.mem_of_getElem? (i := 20) (by rfl))
theorem zw_1881 : Cond.code yX16_fixed cX16_fixed 9 none ∈ zAll := zi_31 (List.mem_of_getElem? (i := 21) (by rfl))
theorem zw_1882 : Cond.code yX16_slope cX16_slope 5 none ∈ zAll := zi_31 (List.mem_of_getElem? (i := 22) (by rfl))
theorem zw_1883 : Cond.methodLink RX16 670 yX16_slope ∈ zAll := zi_31 (List.mem_of_getElem? (i := 23) (by decide +kernel))
theorem zw_1884 : Cond.static yX16_slope ∈ zAll := zi_31 (List.mem_of_getElem? (i := 24) (by decide +kernel))
theorem zw_1885 : Cond.methodLink RX16 659 yX16_reduce ∈ zAll := zi_31 (List.mem_of_getElem? (i := 25) (by decide +kernel))
theorem zw_1886 : Cond.instanceMethod yX16_reduce ∈ zAll := zi_31 (List.mem_of_getElem? (i := 26) (by decide +kernel))
theorem zw_1887 : Cond.selects RX16 yX16_reduce yX16_reduce ∈ zAll := zi_31 (List.mem_of_getElem? (i := 27) (by decide +kernel))
theorem zw_1888 : Cond.code yX16_derivative cX16_derivative 9 none ∈ zAll := zi_31 (List.mem_of_getElem? (i := 28) (by rfl))
theorem zw_1889 : Cond.methodLink RX16 651 yX16_moved ∈ zAll := zi_31 (List.mem_of_getElem? (i := 29) (by decide +kernel))
theorem zw_1890 : Cond.instanceMethod yX16_moved ∈ zAll := zi_31 (List.mem_of_getElem? (i := 30) (by decide +kernel))
theorem zw_1891 : Cond.selects RX16 yX16_moved yX16_moved ∈ zAll := zi_31 (List.mem_of_getElem? (i := 31) (by decide +kernel))
theorem zw_1892 : Cond.methodLink RX16 655 yX16_fixed ∈ zAll := zi_31 (List.mem_of_getElem? (i := 32) (by decide +kernel))
theorem zw_1893 : Cond.instanceMethod yX16_fixed ∈ zAll := zi_31 (List.mem_of_getElem? (i := 33) (by decide +kernel))
theorem zw_1894 : Cond.selects RX16 yX16_fixed yX16_fixed ∈ zAll := zi_31 (List.mem_of_getElem? (i := 34) (by decide +kernel))
theorem zw_1895 : Cond.methodLink RX16 662 yX16_derivative ∈ zAll := zi_31 (List.mem_of_getElem? (i := 35) (by decide +kernel))
theorem zw_1896 : Cond.instanceMethod yX16_derivative ∈ zAll := zi_31 (List.mem_of_getElem? (i := 36) (by decide +kernel))
theorem zw_1897 : Cond.selects RX16 yX16_derivative yX16_derivative ∈ zAll := zi_31 (List.mem_of_getElem? (i := 37) (by decide +kernel))
theorem zw_1898 : Cond.code yX16_change cX16_change 12 (some .int) ∈ zAll := zi_31 (List.mem_of_getElem? (i := 38) (by rfl))
theorem zw_1899 : Cond.code yX16_factorialOf cX16_factorialOf 4 (some .int) ∈ zAll := zi_31 (List.mem_of_getElem? (i := 39) (by rfl))
theorem zw_1900 : Cond.code yX16_cells cX16_cells 10 (some .int) ∈ zAll := zi_31 (List.mem_of_getElem? (i := 40) (by rfl))
theorem zw_1901 : Cond.code yX16_ratioAt cX16_ratioAt 5 (some .int) ∈ zAll := zi_31 (List.mem_of_getElem? (i := 41) (by rfl))
theorem zw_1902 : Cond.methodLink RX16 674 yX16_cells ∈ zAll := zi_31 (List.mem_of_getElem? (i := 42) (by decide +kernel))
theorem zw_1903 : Cond.instanceMethod yX16_cells ∈ zAll := zi_31 (List.mem_of_getElem? (i := 43) (by decide +kernel))
theorem zw_1904 : Cond.selects RX16 yX16_cells yX16_cells ∈ zAll := zi_31 (List.mem_of_getElem? (i := 44) (by decide +kernel))
theorem zw_1905 : Cond.code yX16_isWhole cX16_isWhole 1 (some .boolean) ∈ zAll := zi_31 (List.mem_of_getElem? (i := 45) (by rfl))
theorem zw_1906 : Cond.methodLink RX16 678 yX16_ratioAt ∈ zAll := zi_31 (List.mem_of_getElem? (i := 46) (by decide +kernel))
theorem zw_1907 : Cond.instanceMethod yX16_ratioAt ∈ zAll := zi_31 (List.mem_of_getElem? (i := 47) (by decide +kernel))
theorem zw_1908 : Cond.selects RX16 yX16_ratioAt yX16_ratioAt ∈ zAll := zi_31 (List.mem_of_getElem? (i := 48) (by decide +kernel))
theorem zw_1909 : Cond.methodLink RX16 682 yX16_isWhole ∈ zAll := zi_31 (List.mem_of_getElem? (i := 49) (by decide +kernel))
theorem zw_1910 : Cond.static yX16_isWhole ∈ zAll := zi_31 (List.mem_of_getElem? (i := 50) (by decide +kernel))
theorem zw_1911 : Cond.methodLink RX16 685 yX16_factorialOf ∈ zAll := zi_31 (List.mem_of_getElem? (i := 51) (by decide +kernel))
theorem zw_1912 : Cond.instanceMethod yX16_factorialOf ∈ zAll := zi_31 (List.mem_of_getElem? (i := 52) (by decide +kernel))
theorem zw_1913 : Cond.selects RX16 yX16_factorialOf yX16_factorialOf ∈ zAll := zi_31 (List.mem_of_getElem? (i := 53) (by decide +kernel))
theorem zw_1914 : Cond.code yX16_valueAt cX16_valueAt 8 (some .int) ∈ zAll := zi_31 (List.mem_of_getElem? (i := 54) (by rfl))
theorem zw_1915 : Cond.methodLink RX16 688 yX16_valueAt ∈ zAll := zi_31 (List.mem_of_getElem? (i := 55) (by decide +kernel))
theorem zw_1916 : Cond.instanceMethod yX16_valueAt ∈ zAll := zi_31 (List.mem_of_getElem? (i := 56) (by decide +kernel))
theorem zw_1917 : Cond.selects RX16 yX16_valueAt yX16_valueAt ∈ zAll := zi_31 (List.mem_of_getElem? (i := 57) (by decide +kernel))
theorem zw_1918 : Cond.code yX16_value cX16_value 5 (some .int) ∈ zAll := zi_31 (List.mem_of_getElem? (i := 58) (by rfl))
theorem zw_1919 : Cond.code yX16_sumOf cX16_sumOf 8 (some .int) ∈ zAll := zi_31 (List.mem_of_getElem? (i := 59) (by rfl))
theorem zw_1920 : Cond.methodLink RX16 691 yX16_sumOf ∈ zAll := zi_32 (List.mem_of_getElem? (i := 0) (by decide +kernel))
theorem zw_1921 : Cond.instanceMethod yX16_sumOf ∈ zAll := zi_32 (List.mem_of_getElem? (i := 1) (by decide +kernel))
theorem zw_1922 : Cond.selects RX16 yX16_sumOf yX16_sumOf ∈ zAll := zi_32 (List.mem_of_getElem? (i := 2) (by decide +kernel))
theorem zw_1923 : Cond.code yX16_sum_ cX16_sum_ 6 (some .int) ∈ zAll := zi_32 (List.mem_of_getElem? (i := 3) (by rfl))
theorem zw_1924 : Cond.fieldLink RX16 695 "SumHouseModel" "formA" "LSumHouseModel$B;" ∈ zAll := zi_32 (List.mem_of_getElem? (i := 4) (by decide +kernel))
theorem zw_1925 : Cond.fieldLink RX16 699 "SumHouseModel" "formB" "LSumHouseModel$B;" ∈ zAll := zi_32 (List.mem_of_getElem? (i := 5) (by decide +kernel))
theorem zw_1926 : Cond.fieldLink RX16 702 "SumHouseModel" "formC" "LSumHouseModel$B;" ∈ zAll := zi_32 (List.mem_of_getElem? (i := 6) (by decide +kernel))
theorem zw_1927 : Cond.fieldLink RX16 705 "SumHouseModel" "alphaUp" "LSumHouseModel$U;" ∈ zAll := zi_32 (List.mem_of_getElem? (i := 7) (by decide +kernel))
theorem zw_1928 : Cond.fieldLink RX16 709 "SumHouseModel" "alphaDown" "LSumHouseModel$U;" ∈ zAll := zi_32 (List.mem_of_getElem? (i := 8) (by decide +kernel))
theorem zw_1929 : Cond.code yX16_form cX16_form 15 (some .boolean) ∈ zAll := zi_32 (List.mem_of_getElem? (i := 9) (by rfl))
theorem zw_1930 : Cond.methodLink RX16 712 yX16_form ∈ zAll := zi_32 (List.mem_of_getElem? (i := 10) (by decide +kernel))
theorem zw_1931 : Cond.instanceMethod yX16_form ∈ zAll := zi_32 (List.mem_of_getElem? (i := 11) (by decide +kernel))
theorem zw_1932 : Cond.selects RX16 yX16_form yX16_form ∈ zAll := zi_32 (List.mem_of_getElem? (i := 12) (by decide +kernel))
theorem zw_1933 : Cond.code yX16_form_ cX16_form_ 10 (some .int) ∈ zAll := zi_32 (List.mem_of_getElem? (i := 13) (by rfl))
theorem zw_1934 : Cond.code yX16_areSame cX16_areSame 4 (some .boolean) ∈ zAll := zi_32 (List.mem_of_getElem? (i := 14) (by rfl))
theorem zw_1935 : Cond.constant RX16 720 (2147483646) ∈ zAll := zi_32 (List.mem_of_getElem? (i := 15) (by decide +kernel))
theorem zw_1936 : Cond.methodLink RX16 716 yX16_areSame ∈ zAll := zi_32 (List.mem_of_getElem? (i := 16) (by decide +kernel))
theorem zw_1937 : Cond.static yX16_areSame ∈ zAll := zi_32 (List.mem_of_getElem? (i := 17) (by decide +kernel))
theorem zw_1938 : Cond.code yX16_depth cX16_depth 12 (some .int) ∈ zAll := zi_32 (List.mem_of_getElem? (i := 18) (by rfl))
theorem zw_1939 : Cond.fieldLink RX16 721 "SumHouseModel" "boardRows" "I" ∈ zAll := zi_32 (List.mem_of_getElem? (i := 19) (by decide +kernel))
theorem zw_1940 : Cond.code yX16_column cX16_column 6 none ∈ zAll := zi_32 (List.mem_of_getElem? (i := 20) (by rfl))
theorem zw_1941 : Cond.methodLink RX16 724 yX16_column ∈ zAll := zi_32 (List.mem_of_getElem? (i := 21) (by decide +kernel))
theorem zw_1942 : Cond.instanceMethod yX16_column ∈ zAll := zi_32 (List.mem_of_getElem? (i := 22) (by decide +kernel))
theorem zw_1943 : Cond.selects RX16 yX16_column yX16_column ∈ zAll := zi_32 (List.mem_of_getElem? (i := 23) (by decide +kernel))
theorem zw_1944 : Cond.code yX16_lay cX16_lay 13 (some .int) ∈ zAll := zi_32 (List.mem_of_getElem? (i := 24) (by rfl))
theorem zw_1945 : Cond.code yX16_clear cX16_clear 14 (some (.object "SumHouseModel$U")) ∈ zAll := zi_32 (List.mem_of_getElem? (i := 25) (by rfl))
theorem zw_1946 : Cond.code yX16_solveBy cX16_solveBy 5 none ∈ zAll := zi_32 (List.mem_of_getElem? (i := 26) (by rfl))
theorem zw_1947 : Cond.code yX16_certificate cX16_certificate 15 (some .boolean) ∈ zAll := zi_32 (List.mem_of_getElem? (i := 27) (by rfl))
theorem zw_1948 : Cond.methodLink RX16 728 yX16_depth ∈ zAll := zi_32 (List.mem_of_getElem? (i := 28) (by decide +kernel))
theorem zw_1949 : Cond.instanceMethod yX16_depth ∈ zAll := zi_32 (List.mem_of_getElem? (i := 29) (by decide +kernel))
theorem zw_1950 : Cond.selects RX16 yX16_depth yX16_depth ∈ zAll := zi_32 (List.mem_of_getElem? (i := 30) (by decide +kernel))
theorem zw_1951 : Cond.methodLink RX16 731 yX16_lay ∈ zAll := zi_32 (List.mem_of_getElem? (i := 31) (by decide +kernel))
theorem zw_1952 : Cond.instanceMethod yX16_lay ∈ zAll := zi_32 (List.mem_of_getElem? (i := 32) (by decide +kernel))
theorem zw_1953 : Cond.selects RX16 yX16_lay yX16_lay ∈ zAll := zi_32 (List.mem_of_getElem? (i := 33) (by decide +kernel))
theorem zw_1954 : Cond.methodLink RX16 735 yX16_clear ∈ zAll := zi_32 (List.mem_of_getElem? (i := 34) (by decide +kernel))
theorem zw_1955 : Cond.instanceMethod yX16_clear ∈ zAll := zi_32 (List.mem_of_getElem? (i := 35) (by decide +kernel))
theorem zw_1956 : Cond.selects RX16 yX16_clear yX16_clear ∈ zAll := zi_32 (List.mem_of_getElem? (i := 36) (by decide +kernel))
theorem zw_1957 : Cond.methodLink RX16 739 yX16_solveBy ∈ zAll := zi_32 (List.mem_of_getElem? (i := 37) (by decide +kernel))
theorem zw_1958 : Cond.instanceMethod yX16_solveBy ∈ zAll := zi_32 (List.mem_of_getElem? (i := 38) (by decide +kernel))
theorem zw_1959 : Cond.selects RX16 yX16_solveBy yX16_solveBy ∈ zAll := zi_32 (List.mem_of_getElem? (i := 39) (by decide +kernel))
theorem zw_1960 : Cond.methodLink RX16 743 yX16_certificate ∈ zAll := zi_32 (List.mem_of_getElem? (i := 40) (by decide +kernel))
theorem zw_1961 : Cond.instanceMethod yX16_certificate ∈ zAll := zi_32 (List.mem_of_getElem? (i := 41) (by decide +kernel))
theorem zw_1962 : Cond.selects RX16 yX16_certificate yX16_certificate ∈ zAll := zi_32 (List.mem_of_getElem? (i := 42) (by decide +kernel))
theorem zw_1963 : Cond.code yX16_close cX16_close 11 (some .int) ∈ zAll := zi_32 (List.mem_of_getElem? (i := 43) (by rfl))
theorem zw_1964 : Cond.code yX16_part cX16_part 13 (some .boolean) ∈ zAll := zi_32 (List.mem_of_getElem? (i := 44) (by rfl))
theorem zw_1965 : Cond.methodLink RX16 762 yX16_store_ ∈ zAll := zi_32 (List.mem_of_getElem? (i := 45) (by decide +kernel))
theorem zw_1966 : Cond.static yX16_store_ ∈ zAll := zi_32 (List.mem_of_getElem? (i := 46) (by decide +kernel))
theorem zw_1967 : Cond.code yX16_makeRecord cX16_makeRecord 11 (some .boolean) ∈ zAll := zi_32 (List.mem_of_getElem? (i := 47) (by rfl))
theorem zw_1968 : Cond.methodLink RX16 754 yX16_part ∈ zAll := zi_32 (List.mem_of_getElem? (i := 48) (by decide +kernel))
theorem zw_1969 : Cond.instanceMethod yX16_part ∈ zAll := zi_32 (List.mem_of_getElem? (i := 49) (by decide +kernel))
theorem zw_1970 : Cond.selects RX16 yX16_part yX16_part ∈ zAll := zi_32 (List.mem_of_getElem? (i := 50) (by decide +kernel))
theorem zw_1971 : Cond.methodLink RX16 758 yX16_makeRecord ∈ zAll := zi_32 (List.mem_of_getElem? (i := 51) (by decide +kernel))
theorem zw_1972 : Cond.instanceMethod yX16_makeRecord ∈ zAll := zi_32 (List.mem_of_getElem? (i := 52) (by decide +kernel))
theorem zw_1973 : Cond.selects RX16 yX16_makeRecord yX16_makeRecord ∈ zAll := zi_32 (List.mem_of_getElem? (i := 53) (by decide +kernel))
theorem zw_1974 : Cond.code yX16_recurAt cX16_recurAt 15 (some .int) ∈ zAll := zi_32 (List.mem_of_getElem? (i := 54) (by rfl))
theorem zw_1975 : Cond.code yX16_keepRecord cX16_keepRecord 2 (some .int) ∈ zAll := zi_32 (List.mem_of_getElem? (i := 55) (by rfl))
theorem zw_1976 : Cond.methodLink RX16 747 yX16_recurAt ∈ zAll := zi_32 (List.mem_of_getElem? (i := 56) (by decide +kernel))
theorem zw_1977 : Cond.instanceMethod yX16_recurAt ∈ zAll := zi_32 (List.mem_of_getElem? (i := 57) (by decide +kernel))
theorem zw_1978 : Cond.selects RX16 yX16_recurAt yX16_recurAt ∈ zAll := zi_32 (List.mem_of_getElem? (i := 58) (by decide +kernel))
theorem zw_1979 : Cond.methodLink RX16 751 yX16_keepRecord ∈ zAll := zi_32 (List.mem_of_getElem? (i := 59) (by decide +kernel))
theorem zw_1980 : Cond.instanceMethod yX16_keepRecord ∈ zAll := zi_33 (List.mem_of_getElem? (i := 0) (by decide +kernel))
theorem zw_1981 : Cond.selects RX16 yX16_keepRecord yX16_keepRecord ∈ zAll := zi_33 (List.mem_of_getElem? (i := 1) (by decide +kernel))
theorem zw_1982 : Cond.code yX16_recur cX16_recur 14 (some .int) ∈ zAll := zi_33 (List.mem_of_getElem? (i := 2) (by rfl))
theorem zw_1983 : Cond.code yX16_part_ cX16_part_ 5 (some .int) ∈ zAll := zi_33 (List.mem_of_getElem? (i := 3) (by rfl))
theorem zw_1984 : Cond.code yX16_polynomialAt cX16_polynomialAt 6 (some .int) ∈ zAll := zi_33 (List.mem_of_getElem? (i := 4) (by rfl))
theorem zw_1985 : Cond.methodLink RX16 769 yX16_eval_ ∈ zAll := zi_33 (List.mem_of_getElem? (i := 5) (by decide +kernel))
theorem zw_1986 : Cond.static yX16_eval_ ∈ zAll := zi_33 (List.mem_of_getElem? (i := 6) (by decide +kernel))
theorem zw_1987 : Cond.methodLink RX16 772 yX16_polynomialAt ∈ zAll := zi_33 (List.mem_of_getElem? (i := 7) (by decide +kernel))
theorem zw_1988 : Cond.static yX16_polynomialAt ∈ zAll := zi_33 (List.mem_of_getElem? (i := 8) (by decide +kernel))
theorem zw_1989 : Cond.code yX16_isRight cX16_isRight 14 (some .boolean) ∈ zAll := zi_33 (List.mem_of_getElem? (i := 9) (by rfl))
theorem zw_1990 : Cond.methodLink RX16 765 yX16_isRight ∈ zAll := zi_33 (List.mem_of_getElem? (i := 10) (by decide +kernel))
theorem zw_1991 : Cond.instanceMethod yX16_isRight ∈ zAll := zi_33 (List.mem_of_getElem? (i := 11) (by decide +kernel))
theorem zw_1992 : Cond.selects RX16 yX16_isRight yX16_isRight ∈ zAll := zi_33 (List.mem_of_getElem? (i := 12) (by decide +kernel))
theorem zw_1993 : Cond.code yX16_check cX16_check 13 (some .int) ∈ zAll := zi_33 (List.mem_of_getElem? (i := 13) (by rfl))
theorem zw_1994 : Cond.code yX16_poke cX16_poke 13 (some .int) ∈ zAll := zi_33 (List.mem_of_getElem? (i := 14) (by rfl))
theorem zw_1995 : Cond.code yX16_holds cX16_holds 13 (some .int) ∈ zAll := zi_33 (List.mem_of_getElem? (i := 15) (by rfl))
theorem zw_1996 : Cond.code yX16_needsOf cX16_needsOf 5 (some .int) ∈ zAll := zi_33 (List.mem_of_getElem? (i := 16) (by rfl))
theorem zw_1997 : Cond.code yX16_makeRow cX16_makeRow 7 (some .boolean) ∈ zAll := zi_33 (List.mem_of_getElem? (i := 17) (by rfl))
theorem zw_1998 : Cond.code yX16_fill cX16_fill 5 none ∈ zAll := zi_33 (List.mem_of_getElem? (i := 18) (by rfl))
theorem zw_1999 : Cond.methodLink RX16 775 yX16_load_ ∈ zAll := zi_33 (List.mem_of_getElem? (i := 19) (by decide +kernel))
theorem zw_2000 : Cond.static yX16_load_ ∈ zAll := zi_33 (List.mem_of_getElem? (i := 20) (by decide +kernel))
theorem zw_2001 : Cond.methodLink RX16 777 yX16_makeRow ∈ zAll := zi_33 (List.mem_of_getElem? (i := 21) (by decide +kernel))
theorem zw_2002 : Cond.instanceMethod yX16_makeRow ∈ zAll := zi_33 (List.mem_of_getElem? (i := 22) (by decide +kernel))
theorem zw_2003 : Cond.selects RX16 yX16_makeRow yX16_makeRow ∈ zAll := zi_33 (List.mem_of_getElem? (i := 23) (by decide +kernel))
theorem zw_2004 : Cond.methodLink RX16 781 yX16_needsOf ∈ zAll := zi_33 (List.mem_of_getElem? (i := 24) (by decide +kernel))
theorem zw_2005 : Cond.static yX16_needsOf ∈ zAll := zi_33 (List.mem_of_getElem? (i := 25) (by decide +kernel))
theorem zw_2006 : Cond.code yX16_row cX16_row 5 (some .int) ∈ zAll := zi_33 (List.mem_of_getElem? (i := 26) (by rfl))
theorem zw_2007 : Cond.methodLink RX16 784 yX16_fill ∈ zAll := zi_33 (List.mem_of_getElem? (i := 27) (by decide +kernel))
theorem zw_2008 : Cond.static yX16_fill ∈ zAll := zi_33 (List.mem_of_getElem? (i := 28) (by decide +kernel))
theorem zw_2009 : Cond.code yX16_first cX16_first 4 (some .int) ∈ zAll := zi_33 (List.mem_of_getElem? (i := 29) (by rfl))
theorem zw_2010 : Cond.code yX16_at cX16_at 4 (some .int) ∈ zAll := zi_33 (List.mem_of_getElem? (i := 30) (by rfl))
theorem zw_2011 : Cond.code yX16_degreeOf cX16_degreeOf 4 (some .int) ∈ zAll := zi_33 (List.mem_of_getElem? (i := 31) (by rfl))
theorem zw_2012 : Cond.code yX16_lighten cX16_lighten 6 none ∈ zAll := zi_33 (List.mem_of_getElem? (i := 32) (by rfl))
theorem zw_2013 : Cond.methodLink RX16 787 yX16_lighten ∈ zAll := zi_33 (List.mem_of_getElem? (i := 33) (by decide +kernel))
theorem zw_2014 : Cond.instanceMethod yX16_lighten ∈ zAll := zi_33 (List.mem_of_getElem? (i := 34) (by decide +kernel))
theorem zw_2015 : Cond.selects RX16 yX16_lighten yX16_lighten ∈ zAll := zi_33 (List.mem_of_getElem? (i := 35) (by decide +kernel))
theorem zw_2016 : Cond.code yX16_unroll cX16_unroll 12 none ∈ zAll := zi_33 (List.mem_of_getElem? (i := 36) (by rfl))
theorem zw_2017 : Cond.code yX16_simple cX16_simple 6 none ∈ zAll := zi_33 (List.mem_of_getElem? (i := 37) (by rfl))
theorem zw_2018 : Cond.methodLink RX16 802 yX16_unroll ∈ zAll := zi_33 (List.mem_of_getElem? (i := 38) (by decide +kernel))
theorem zw_2019 : Cond.instanceMethod yX16_unroll ∈ zAll := zi_33 (List.mem_of_getElem? (i := 39) (by decide +kernel))
theorem zw_2020 : Cond.selects RX16 yX16_unroll yX16_unroll ∈ zAll := zi_33 (List.mem_of_getElem? (i := 40) (by decide +kernel))
theorem zw_2021 : Cond.code yX16_combine cX16_combine 11 (some .int) ∈ zAll := zi_33 (List.mem_of_getElem? (i := 41) (by rfl))
theorem zw_2022 : Cond.methodLink RX16 791 yX16_simple ∈ zAll := zi_33 (List.mem_of_getElem? (i := 42) (by decide +kernel))
theorem zw_2023 : Cond.instanceMethod yX16_simple ∈ zAll := zi_33 (List.mem_of_getElem? (i := 43) (by decide +kernel))
theorem zw_2024 : Cond.selects RX16 yX16_simple yX16_simple ∈ zAll := zi_33 (List.mem_of_getElem? (i := 44) (by decide +kernel))
theorem zw_2025 : Cond.methodLink RX16 795 yX16_degreeOf ∈ zAll := zi_33 (List.mem_of_getElem? (i := 45) (by decide +kernel))
theorem zw_2026 : Cond.static yX16_degreeOf ∈ zAll := zi_33 (List.mem_of_getElem? (i := 46) (by decide +kernel))
theorem zw_2027 : Cond.methodLink RX16 798 yX16_combine ∈ zAll := zi_33 (List.mem_of_getElem? (i := 47) (by decide +kernel))
theorem zw_2028 : Cond.instanceMethod yX16_combine ∈ zAll := zi_33 (List.mem_of_getElem? (i := 48) (by decide +kernel))
theorem zw_2029 : Cond.selects RX16 yX16_combine yX16_combine ∈ zAll := zi_33 (List.mem_of_getElem? (i := 49) (by decide +kernel))
theorem zw_2030 : Cond.code yX16_join cX16_join 14 (some .int) ∈ zAll := zi_33 (List.mem_of_getElem? (i := 50) (by rfl))
theorem zw_2031 : Cond.code yX16_feed cX16_feed 2 (some .int) ∈ zAll := zi_33 (List.mem_of_getElem? (i := 51) (by rfl))
theorem zw_2032 : Cond.code yX16_clear_ cX16_clear_ 2 (some .int) ∈ zAll := zi_33 (List.mem_of_getElem? (i := 52) (by rfl))
theorem zw_2033 : Cond.code yX16_tries cX16_tries 14 (some .boolean) ∈ zAll := zi_33 (List.mem_of_getElem? (i := 53) (by rfl))
theorem zw_2034 : Cond.code yX16_guessed cX16_guessed 6 (some .int) ∈ zAll := zi_33 (List.mem_of_getElem? (i := 54) (by rfl))
theorem zw_2035 : Cond.methodLink RX16 806 yX16_tries ∈ zAll := zi_33 (List.mem_of_getElem? (i := 55) (by decide +kernel))
theorem zw_2036 : Cond.instanceMethod yX16_tries ∈ zAll := zi_33 (List.mem_of_getElem? (i := 56) (by decide +kernel))
theorem zw_2037 : Cond.selects RX16 yX16_tries yX16_tries ∈ zAll := zi_33 (List.mem_of_getElem? (i := 57) (by decide +kernel))
theorem zw_2038 : Cond.methodLink RX16 810 yX16_guessed ∈ zAll := zi_33 (List.mem_of_getElem? (i := 58) (by decide +kernel))
theorem zw_2039 : Cond.instanceMethod yX16_guessed ∈ zAll := zi_33 (List.mem_of_getElem? (i := 59) (by decide +kernel))
theorem zw_2040 : Cond.selects RX16 yX16_guessed yX16_guessed ∈ zAll := zi_34 (List.mem_of_getElem? (i := 0) (by decide +kernel))
theorem zw_2041 : Cond.code yX16_guess cX16_guess 4 (some .int) ∈ zAll := zi_34 (List.mem_of_getElem? (i := 1) (by rfl))
theorem zw_2042 : Cond.code yX16_powerOf cX16_powerOf 12 none ∈ zAll := zi_34 (List.mem_of_getElem? (i := 2) (by rfl))
theorem zw_2043 : Cond.fieldLink RX16 814 "SumHouseModel" "foundCount" "I" ∈ zAll := zi_34 (List.mem_of_getElem? (i := 3) (by decide +kernel))
theorem zw_2044 : Cond.constantLong RX16 817 (1073741823) ∈ zAll := zi_34 (List.mem_of_getElem? (i := 4) (by decide +kernel))
theorem zw_2045 : Cond.methodLink RX16 819 yX16_powerOf ∈ zAll := zi_34 (List.mem_of_getElem? (i := 5) (by decide +kernel))
theorem zw_2046 : Cond.instanceMethod yX16_powerOf ∈ zAll := zi_34 (List.mem_of_getElem? (i := 6) (by decide +kernel))
theorem zw_2047 : Cond.selects RX16 yX16_powerOf yX16_powerOf ∈ zAll := zi_34 (List.mem_of_getElem? (i := 7) (by decide +kernel))
theorem zw_2048 : Cond.methodLink RX16 823 yX16_split ∈ zAll := zi_34 (List.mem_of_getElem? (i := 8) (by decide +kernel))
theorem zw_2049 : Cond.instanceMethod yX16_split ∈ zAll := zi_34 (List.mem_of_getElem? (i := 9) (by decide +kernel))
theorem zw_2050 : Cond.selects RX16 yX16_split yX16_split ∈ zAll := zi_34 (List.mem_of_getElem? (i := 10) (by decide +kernel))
theorem zw_2051 : Cond.code yX16_split cX16_split 9 none ∈ zAll := zi_34 (List.mem_of_getElem? (i := 11) (by rfl))
theorem zw_2052 : Cond.code yX16_roots cX16_roots 11 (some .int) ∈ zAll := zi_34 (List.mem_of_getElem? (i := 12) (by rfl))
theorem zw_2053 : Cond.code yX16_root cX16_root 2 (some .int) ∈ zAll := zi_34 (List.mem_of_getElem? (i := 13) (by rfl))
theorem zw_2054 : Cond.code yX16_strip cX16_strip 8 (some .int) ∈ zAll := zi_34 (List.mem_of_getElem? (i := 14) (by rfl))
theorem zw_2055 : Cond.methodLink RX16 827 yX16_strip ∈ zAll := zi_34 (List.mem_of_getElem? (i := 15) (by decide +kernel))
theorem zw_2056 : Cond.instanceMethod yX16_strip ∈ zAll := zi_34 (List.mem_of_getElem? (i := 16) (by decide +kernel))
theorem zw_2057 : Cond.selects RX16 yX16_strip yX16_strip ∈ zAll := zi_34 (List.mem_of_getElem? (i := 17) (by decide +kernel))
theorem zw_2058 : Cond.code yX16_solve cX16_solve 9 (some .int) ∈ zAll := zi_34 (List.mem_of_getElem? (i := 18) (by rfl))
theorem zw_2059 : Cond.classLink RL 7 RX11 ∈ zAll := zi_34 (List.mem_of_getElem? (i := 19) (by decide +kernel))
theorem zw_2060 : Cond.instantiable RX11 13 ∈ zAll := zi_34 (List.mem_of_getElem? (i := 20) (by decide +kernel))
theorem zw_2061 : Cond.classLink RL 10 RX16 ∈ zAll := zi_34 (List.mem_of_getElem? (i := 21) (by decide +kernel))
theorem zw_2062 : Cond.instantiable RX16 65 ∈ zAll := zi_34 (List.mem_of_getElem? (i := 22) (by decide +kernel))
theorem zw_2063 : Cond.constantLong RL 13 (4294967295) ∈ zAll := zi_34 (List.mem_of_getElem? (i := 23) (by decide +kernel))
theorem zw_2064 : Cond.methodLink RL 9 yX11_init ∈ zAll := zi_34 (List.mem_of_getElem? (i := 24) (by decide +kernel))
theorem zw_2065 : Cond.instanceMethod yX11_init ∈ zAll := zi_34 (List.mem_of_getElem? (i := 25) (by decide +kernel))
theorem zw_2066 : Cond.methodLink RL 12 yX16_init ∈ zAll := zi_34 (List.mem_of_getElem? (i := 26) (by decide +kernel))
theorem zw_2067 : Cond.instanceMethod yX16_init ∈ zAll := zi_34 (List.mem_of_getElem? (i := 27) (by decide +kernel))
theorem zw_2068 : Cond.methodLink RL 15 yX11_type ∈ zAll := zi_34 (List.mem_of_getElem? (i := 28) (by decide +kernel))
theorem zw_2069 : Cond.instanceMethod yX11_type ∈ zAll := zi_34 (List.mem_of_getElem? (i := 29) (by decide +kernel))
theorem zw_2070 : Cond.selects RX11 yX11_type yX11_type ∈ zAll := zi_34 (List.mem_of_getElem? (i := 30) (by decide +kernel))
theorem zw_2071 : Cond.methodLink RL 19 yX16_type ∈ zAll := zi_34 (List.mem_of_getElem? (i := 31) (by decide +kernel))
theorem zw_2072 : Cond.instanceMethod yX16_type ∈ zAll := zi_34 (List.mem_of_getElem? (i := 32) (by decide +kernel))
theorem zw_2073 : Cond.selects RX16 yX16_type yX16_type ∈ zAll := zi_34 (List.mem_of_getElem? (i := 33) (by decide +kernel))
theorem zw_2074 : Cond.methodLink RL 20 yX11_read ∈ zAll := zi_34 (List.mem_of_getElem? (i := 34) (by decide +kernel))
theorem zw_2075 : Cond.instanceMethod yX11_read ∈ zAll := zi_34 (List.mem_of_getElem? (i := 35) (by decide +kernel))
theorem zw_2076 : Cond.selects RX11 yX11_read yX11_read ∈ zAll := zi_34 (List.mem_of_getElem? (i := 36) (by decide +kernel))
theorem zw_2077 : Cond.methodLink RL 24 yX16_read ∈ zAll := zi_34 (List.mem_of_getElem? (i := 37) (by decide +kernel))
theorem zw_2078 : Cond.instanceMethod yX16_read ∈ zAll := zi_34 (List.mem_of_getElem? (i := 38) (by decide +kernel))
theorem zw_2079 : Cond.selects RX16 yX16_read yX16_read ∈ zAll := zi_34 (List.mem_of_getElem? (i := 39) (by decide +kernel))
theorem zw_2080 : Cond.codeWith yX16_read cX16_read 4 (some .int) [(28, 72, 75, 447)] ∈ zAll := zi_34 (List.mem_of_getElem? (i := 40) (by rfl))
theorem zw_2081 : Cond.methodLink RL 25 yX11_place ∈ zAll := zi_34 (List.mem_of_getElem? (i := 41) (by decide +kernel))
theorem zw_2082 : Cond.instanceMethod yX11_place ∈ zAll := zi_34 (List.mem_of_getElem? (i := 42) (by decide +kernel))
theorem zw_2083 : Cond.selects RX11 yX11_place yX11_place ∈ zAll := zi_34 (List.mem_of_getElem? (i := 43) (by decide +kernel))
theorem zw_2084 : Cond.methodLink RL 29 yX16_place ∈ zAll := zi_34 (List.mem_of_getElem? (i := 44) (by decide +kernel))
theorem zw_2085 : Cond.instanceMethod yX16_place ∈ zAll := zi_34 (List.mem_of_getElem? (i := 45) (by decide +kernel))
theorem zw_2086 : Cond.selects RX16 yX16_place yX16_place ∈ zAll := zi_34 (List.mem_of_getElem? (i := 46) (by decide +kernel))
theorem zw_2087 : Cond.methodLink RL 30 yX11_write ∈ zAll := zi_34 (List.mem_of_getElem? (i := 47) (by decide +kernel))
theorem zw_2088 : Cond.instanceMethod yX11_write ∈ zAll := zi_34 (List.mem_of_getElem? (i := 48) (by decide +kernel))
theorem zw_2089 : Cond.selects RX11 yX11_write yX11_write ∈ zAll := zi_34 (List.mem_of_getElem? (i := 49) (by decide +kernel))
theorem zw_2090 : Cond.methodLink RL 33 yX16_write ∈ zAll := zi_34 (List.mem_of_getElem? (i := 50) (by decide +kernel))
theorem zw_2091 : Cond.instanceMethod yX16_write ∈ zAll := zi_34 (List.mem_of_getElem? (i := 51) (by decide +kernel))
theorem zw_2092 : Cond.selects RX16 yX16_write yX16_write ∈ zAll := zi_34 (List.mem_of_getElem? (i := 52) (by decide +kernel))
theorem zw_2093 : Cond.methodLink RL 34 yX11_written ∈ zAll := zi_34 (List.mem_of_getElem? (i := 53) (by decide +kernel))
theorem zw_2094 : Cond.instanceMethod yX11_written ∈ zAll := zi_34 (List.mem_of_getElem? (i := 54) (by decide +kernel))
theorem zw_2095 : Cond.selects RX11 yX11_written yX11_written ∈ zAll := zi_34 (List.mem_of_getElem? (i := 55) (by decide +kernel))
theorem zw_2096 : Cond.methodLink RL 37 yX16_written ∈ zAll := zi_34 (List.mem_of_getElem? (i := 56) (by decide +kernel))
theorem zw_2097 : Cond.instanceMethod yX16_written ∈ zAll := zi_34 (List.mem_of_getElem? (i := 57) (by decide +kernel))
theorem zw_2098 : Cond.selects RX16 yX16_written yX16_written ∈ zAll := zi_34 (List.mem_of_getElem? (i := 58) (by decide +kernel))
theorem zw_2099 : Cond.methodLink RL 38 yX11_again ∈ zAll := zi_34 (List.mem_of_getElem? (i := 59) (by decide +kernel))
theorem zw_2100 : Cond.instanceMethod yX11_again ∈ zAll := zi_35 (List.mem_of_getElem? (i := 0) (by decide +kernel))
theorem zw_2101 : Cond.selects RX11 yX11_again yX11_again ∈ zAll := zi_35 (List.mem_of_getElem? (i := 1) (by decide +kernel))
theorem zw_2102 : Cond.methodLink RL 41 yX16_again ∈ zAll := zi_35 (List.mem_of_getElem? (i := 2) (by decide +kernel))
theorem zw_2103 : Cond.instanceMethod yX16_again ∈ zAll := zi_35 (List.mem_of_getElem? (i := 3) (by decide +kernel))
theorem zw_2104 : Cond.selects RX16 yX16_again yX16_again ∈ zAll := zi_35 (List.mem_of_getElem? (i := 4) (by decide +kernel))
theorem zw_2105 : Cond.methodLink RL 42 yX11_kind ∈ zAll := zi_35 (List.mem_of_getElem? (i := 5) (by decide +kernel))
theorem zw_2106 : Cond.instanceMethod yX11_kind ∈ zAll := zi_35 (List.mem_of_getElem? (i := 6) (by decide +kernel))
theorem zw_2107 : Cond.selects RX11 yX11_kind yX11_kind ∈ zAll := zi_35 (List.mem_of_getElem? (i := 7) (by decide +kernel))
theorem zw_2108 : Cond.methodLink RL 45 yX16_kind ∈ zAll := zi_35 (List.mem_of_getElem? (i := 8) (by decide +kernel))
theorem zw_2109 : Cond.instanceMethod yX16_kind ∈ zAll := zi_35 (List.mem_of_getElem? (i := 9) (by decide +kernel))
theorem zw_2110 : Cond.selects RX16 yX16_kind yX16_kind ∈ zAll := zi_35 (List.mem_of_getElem? (i := 10) (by decide +kernel))
theorem zw_2111 : Cond.methodLink RL 46 yX11_drop ∈ zAll := zi_35 (List.mem_of_getElem? (i := 11) (by decide +kernel))
theorem zw_2112 : Cond.instanceMethod yX11_drop ∈ zAll := zi_35 (List.mem_of_getElem? (i := 12) (by decide +kernel))
theorem zw_2113 : Cond.selects RX11 yX11_drop yX11_drop ∈ zAll := zi_35 (List.mem_of_getElem? (i := 13) (by decide +kernel))
theorem zw_2114 : Cond.methodLink RL 49 yX16_drop ∈ zAll := zi_35 (List.mem_of_getElem? (i := 14) (by decide +kernel))
theorem zw_2115 : Cond.instanceMethod yX16_drop ∈ zAll := zi_35 (List.mem_of_getElem? (i := 15) (by decide +kernel))
theorem zw_2116 : Cond.selects RX16 yX16_drop yX16_drop ∈ zAll := zi_35 (List.mem_of_getElem? (i := 16) (by decide +kernel))
theorem zw_2117 : Cond.methodLink RL 50 yX11_degree ∈ zAll := zi_35 (List.mem_of_getElem? (i := 17) (by decide +kernel))
theorem zw_2118 : Cond.instanceMethod yX11_degree ∈ zAll := zi_35 (List.mem_of_getElem? (i := 18) (by decide +kernel))
theorem zw_2119 : Cond.selects RX11 yX11_degree yX11_degree ∈ zAll := zi_35 (List.mem_of_getElem? (i := 19) (by decide +kernel))
theorem zw_2120 : Cond.methodLink RL 54 yX16_degree_ ∈ zAll := zi_35 (List.mem_of_getElem? (i := 20) (by decide +kernel))
theorem zw_2121 : Cond.instanceMethod yX16_degree_ ∈ zAll := zi_35 (List.mem_of_getElem? (i := 21) (by decide +kernel))
theorem zw_2122 : Cond.selects RX16 yX16_degree_ yX16_degree_ ∈ zAll := zi_35 (List.mem_of_getElem? (i := 22) (by decide +kernel))
theorem zw_2123 : Cond.methodLink RL 55 yX11_number ∈ zAll := zi_35 (List.mem_of_getElem? (i := 23) (by decide +kernel))
theorem zw_2124 : Cond.instanceMethod yX11_number ∈ zAll := zi_35 (List.mem_of_getElem? (i := 24) (by decide +kernel))
theorem zw_2125 : Cond.selects RX11 yX11_number yX11_number ∈ zAll := zi_35 (List.mem_of_getElem? (i := 25) (by decide +kernel))
theorem zw_2126 : Cond.methodLink RL 59 yX16_number_ ∈ zAll := zi_35 (List.mem_of_getElem? (i := 26) (by decide +kernel))
theorem zw_2127 : Cond.instanceMethod yX16_number_ ∈ zAll := zi_35 (List.mem_of_getElem? (i := 27) (by decide +kernel))
theorem zw_2128 : Cond.selects RX16 yX16_number_ yX16_number_ ∈ zAll := zi_35 (List.mem_of_getElem? (i := 28) (by decide +kernel))
theorem zw_2129 : Cond.methodLink RL 60 yX11_told ∈ zAll := zi_35 (List.mem_of_getElem? (i := 29) (by decide +kernel))
theorem zw_2130 : Cond.instanceMethod yX11_told ∈ zAll := zi_35 (List.mem_of_getElem? (i := 30) (by decide +kernel))
theorem zw_2131 : Cond.selects RX11 yX11_told yX11_told ∈ zAll := zi_35 (List.mem_of_getElem? (i := 31) (by decide +kernel))
theorem zw_2132 : Cond.methodLink RL 64 yX16_told ∈ zAll := zi_35 (List.mem_of_getElem? (i := 32) (by decide +kernel))
theorem zw_2133 : Cond.instanceMethod yX16_told ∈ zAll := zi_35 (List.mem_of_getElem? (i := 33) (by decide +kernel))
theorem zw_2134 : Cond.selects RX16 yX16_told yX16_told ∈ zAll := zi_35 (List.mem_of_getElem? (i := 34) (by decide +kernel))
theorem zw_2135 : Cond.methodLink RL 65 yX11_factorial ∈ zAll := zi_35 (List.mem_of_getElem? (i := 35) (by decide +kernel))
theorem zw_2136 : Cond.instanceMethod yX11_factorial ∈ zAll := zi_35 (List.mem_of_getElem? (i := 36) (by decide +kernel))
theorem zw_2137 : Cond.selects RX11 yX11_factorial yX11_factorial ∈ zAll := zi_35 (List.mem_of_getElem? (i := 37) (by decide +kernel))
theorem zw_2138 : Cond.methodLink RL 68 yX16_factorial_ ∈ zAll := zi_35 (List.mem_of_getElem? (i := 38) (by decide +kernel))
theorem zw_2139 : Cond.instanceMethod yX16_factorial_ ∈ zAll := zi_35 (List.mem_of_getElem? (i := 39) (by decide +kernel))
theorem zw_2140 : Cond.selects RX16 yX16_factorial_ yX16_factorial_ ∈ zAll := zi_35 (List.mem_of_getElem? (i := 40) (by decide +kernel))
theorem zw_2141 : Cond.methodLink RL 69 yX11_work ∈ zAll := zi_35 (List.mem_of_getElem? (i := 41) (by decide +kernel))
theorem zw_2142 : Cond.instanceMethod yX11_work ∈ zAll := zi_35 (List.mem_of_getElem? (i := 42) (by decide +kernel))
theorem zw_2143 : Cond.selects RX11 yX11_work yX11_work ∈ zAll := zi_35 (List.mem_of_getElem? (i := 43) (by decide +kernel))
theorem zw_2144 : Cond.methodLink RL 72 yX16_work ∈ zAll := zi_35 (List.mem_of_getElem? (i := 44) (by decide +kernel))
theorem zw_2145 : Cond.instanceMethod yX16_work ∈ zAll := zi_35 (List.mem_of_getElem? (i := 45) (by decide +kernel))
theorem zw_2146 : Cond.selects RX16 yX16_work yX16_work ∈ zAll := zi_35 (List.mem_of_getElem? (i := 46) (by decide +kernel))
theorem zw_2147 : Cond.methodLink RL 73 yX11_change ∈ zAll := zi_35 (List.mem_of_getElem? (i := 47) (by decide +kernel))
theorem zw_2148 : Cond.instanceMethod yX11_change ∈ zAll := zi_35 (List.mem_of_getElem? (i := 48) (by decide +kernel))
theorem zw_2149 : Cond.selects RX11 yX11_change yX11_change ∈ zAll := zi_35 (List.mem_of_getElem? (i := 49) (by decide +kernel))
theorem zw_2150 : Cond.methodLink RL 76 yX16_change ∈ zAll := zi_35 (List.mem_of_getElem? (i := 50) (by decide +kernel))
theorem zw_2151 : Cond.instanceMethod yX16_change ∈ zAll := zi_35 (List.mem_of_getElem? (i := 51) (by decide +kernel))
theorem zw_2152 : Cond.selects RX16 yX16_change yX16_change ∈ zAll := zi_35 (List.mem_of_getElem? (i := 52) (by decide +kernel))
theorem zw_2153 : Cond.methodLink RL 77 yX11_value ∈ zAll := zi_35 (List.mem_of_getElem? (i := 53) (by decide +kernel))
theorem zw_2154 : Cond.instanceMethod yX11_value ∈ zAll := zi_35 (List.mem_of_getElem? (i := 54) (by decide +kernel))
theorem zw_2155 : Cond.selects RX11 yX11_value yX11_value ∈ zAll := zi_35 (List.mem_of_getElem? (i := 55) (by decide +kernel))
theorem zw_2156 : Cond.methodLink RL 80 yX16_value ∈ zAll := zi_35 (List.mem_of_getElem? (i := 56) (by decide +kernel))
theorem zw_2157 : Cond.instanceMethod yX16_value ∈ zAll := zi_35 (List.mem_of_getElem? (i := 57) (by decide +kernel))
theorem zw_2158 : Cond.selects RX16 yX16_value yX16_value ∈ zAll := zi_35 (List.mem_of_getElem? (i := 58) (by decide +kernel))
theorem zw_2159 : Cond.methodLink RL 81 yX11_sum ∈ zAll := zi_35 (List.mem_of_getElem? (i := 59) (by decide +kernel))
theorem zw_2160 : Cond.instanceMethod yX11_sum ∈ zAll := zi_36 (List.mem_of_getElem? (i := 0) (by decide +kernel))
theorem zw_2161 : Cond.selects RX11 yX11_sum yX11_sum ∈ zAll := zi_36 (List.mem_of_getElem? (i := 1) (by decide +kernel))
theorem zw_2162 : Cond.methodLink RL 84 yX16_sum_ ∈ zAll := zi_36 (List.mem_of_getElem? (i := 2) (by decide +kernel))
theorem zw_2163 : Cond.instanceMethod yX16_sum_ ∈ zAll := zi_36 (List.mem_of_getElem? (i := 3) (by decide +kernel))
theorem zw_2164 : Cond.selects RX16 yX16_sum_ yX16_sum_ ∈ zAll := zi_36 (List.mem_of_getElem? (i := 4) (by decide +kernel))
theorem zw_2165 : Cond.methodLink RL 85 yX11_quotient ∈ zAll := zi_36 (List.mem_of_getElem? (i := 5) (by decide +kernel))
theorem zw_2166 : Cond.instanceMethod yX11_quotient ∈ zAll := zi_36 (List.mem_of_getElem? (i := 6) (by decide +kernel))
theorem zw_2167 : Cond.selects RX11 yX11_quotient yX11_quotient ∈ zAll := zi_36 (List.mem_of_getElem? (i := 7) (by decide +kernel))
theorem zw_2168 : Cond.methodLink RL 88 yX16_quotient_ ∈ zAll := zi_36 (List.mem_of_getElem? (i := 8) (by decide +kernel))
theorem zw_2169 : Cond.instanceMethod yX16_quotient_ ∈ zAll := zi_36 (List.mem_of_getElem? (i := 9) (by decide +kernel))
theorem zw_2170 : Cond.selects RX16 yX16_quotient_ yX16_quotient_ ∈ zAll := zi_36 (List.mem_of_getElem? (i := 10) (by decide +kernel))
theorem zw_2171 : Cond.methodLink RL 89 yX11_form ∈ zAll := zi_36 (List.mem_of_getElem? (i := 11) (by decide +kernel))
theorem zw_2172 : Cond.instanceMethod yX11_form ∈ zAll := zi_36 (List.mem_of_getElem? (i := 12) (by decide +kernel))
theorem zw_2173 : Cond.selects RX11 yX11_form yX11_form ∈ zAll := zi_36 (List.mem_of_getElem? (i := 13) (by decide +kernel))
theorem zw_2174 : Cond.methodLink RL 92 yX16_form_ ∈ zAll := zi_36 (List.mem_of_getElem? (i := 14) (by decide +kernel))
theorem zw_2175 : Cond.instanceMethod yX16_form_ ∈ zAll := zi_36 (List.mem_of_getElem? (i := 15) (by decide +kernel))
theorem zw_2176 : Cond.selects RX16 yX16_form_ yX16_form_ ∈ zAll := zi_36 (List.mem_of_getElem? (i := 16) (by decide +kernel))
theorem zw_2177 : Cond.methodLink RL 93 yX11_close ∈ zAll := zi_36 (List.mem_of_getElem? (i := 17) (by decide +kernel))
theorem zw_2178 : Cond.instanceMethod yX11_close ∈ zAll := zi_36 (List.mem_of_getElem? (i := 18) (by decide +kernel))
theorem zw_2179 : Cond.selects RX11 yX11_close yX11_close ∈ zAll := zi_36 (List.mem_of_getElem? (i := 19) (by decide +kernel))
theorem zw_2180 : Cond.methodLink RL 96 yX16_close ∈ zAll := zi_36 (List.mem_of_getElem? (i := 20) (by decide +kernel))
theorem zw_2181 : Cond.instanceMethod yX16_close ∈ zAll := zi_36 (List.mem_of_getElem? (i := 21) (by decide +kernel))
theorem zw_2182 : Cond.selects RX16 yX16_close yX16_close ∈ zAll := zi_36 (List.mem_of_getElem? (i := 22) (by decide +kernel))
theorem zw_2183 : Cond.methodLink RL 97 yX11_recur ∈ zAll := zi_36 (List.mem_of_getElem? (i := 23) (by decide +kernel))
theorem zw_2184 : Cond.instanceMethod yX11_recur ∈ zAll := zi_36 (List.mem_of_getElem? (i := 24) (by decide +kernel))
theorem zw_2185 : Cond.selects RX11 yX11_recur yX11_recur ∈ zAll := zi_36 (List.mem_of_getElem? (i := 25) (by decide +kernel))
theorem zw_2186 : Cond.methodLink RL 100 yX16_recur ∈ zAll := zi_36 (List.mem_of_getElem? (i := 26) (by decide +kernel))
theorem zw_2187 : Cond.instanceMethod yX16_recur ∈ zAll := zi_36 (List.mem_of_getElem? (i := 27) (by decide +kernel))
theorem zw_2188 : Cond.selects RX16 yX16_recur yX16_recur ∈ zAll := zi_36 (List.mem_of_getElem? (i := 28) (by decide +kernel))
theorem zw_2189 : Cond.methodLink RL 101 yX11_part ∈ zAll := zi_36 (List.mem_of_getElem? (i := 29) (by decide +kernel))
theorem zw_2190 : Cond.instanceMethod yX11_part ∈ zAll := zi_36 (List.mem_of_getElem? (i := 30) (by decide +kernel))
theorem zw_2191 : Cond.selects RX11 yX11_part yX11_part ∈ zAll := zi_36 (List.mem_of_getElem? (i := 31) (by decide +kernel))
theorem zw_2192 : Cond.methodLink RL 104 yX16_part_ ∈ zAll := zi_36 (List.mem_of_getElem? (i := 32) (by decide +kernel))
theorem zw_2193 : Cond.instanceMethod yX16_part_ ∈ zAll := zi_36 (List.mem_of_getElem? (i := 33) (by decide +kernel))
theorem zw_2194 : Cond.selects RX16 yX16_part_ yX16_part_ ∈ zAll := zi_36 (List.mem_of_getElem? (i := 34) (by decide +kernel))
theorem zw_2195 : Cond.methodLink RL 105 yX11_check ∈ zAll := zi_36 (List.mem_of_getElem? (i := 35) (by decide +kernel))
theorem zw_2196 : Cond.instanceMethod yX11_check ∈ zAll := zi_36 (List.mem_of_getElem? (i := 36) (by decide +kernel))
theorem zw_2197 : Cond.selects RX11 yX11_check yX11_check ∈ zAll := zi_36 (List.mem_of_getElem? (i := 37) (by decide +kernel))
theorem zw_2198 : Cond.methodLink RL 108 yX16_check ∈ zAll := zi_36 (List.mem_of_getElem? (i := 38) (by decide +kernel))
theorem zw_2199 : Cond.instanceMethod yX16_check ∈ zAll := zi_36 (List.mem_of_getElem? (i := 39) (by decide +kernel))
theorem zw_2200 : Cond.selects RX16 yX16_check yX16_check ∈ zAll := zi_36 (List.mem_of_getElem? (i := 40) (by decide +kernel))
theorem zw_2201 : Cond.methodLink RL 109 yX11_poke ∈ zAll := zi_36 (List.mem_of_getElem? (i := 41) (by decide +kernel))
theorem zw_2202 : Cond.instanceMethod yX11_poke ∈ zAll := zi_36 (List.mem_of_getElem? (i := 42) (by decide +kernel))
theorem zw_2203 : Cond.selects RX11 yX11_poke yX11_poke ∈ zAll := zi_36 (List.mem_of_getElem? (i := 43) (by decide +kernel))
theorem zw_2204 : Cond.methodLink RL 113 yX16_poke ∈ zAll := zi_36 (List.mem_of_getElem? (i := 44) (by decide +kernel))
theorem zw_2205 : Cond.instanceMethod yX16_poke ∈ zAll := zi_36 (List.mem_of_getElem? (i := 45) (by decide +kernel))
theorem zw_2206 : Cond.selects RX16 yX16_poke yX16_poke ∈ zAll := zi_36 (List.mem_of_getElem? (i := 46) (by decide +kernel))
theorem zw_2207 : Cond.methodLink RL 114 yX11_holds ∈ zAll := zi_36 (List.mem_of_getElem? (i := 47) (by decide +kernel))
theorem zw_2208 : Cond.instanceMethod yX11_holds ∈ zAll := zi_36 (List.mem_of_getElem? (i := 48) (by decide +kernel))
theorem zw_2209 : Cond.selects RX11 yX11_holds yX11_holds ∈ zAll := zi_36 (List.mem_of_getElem? (i := 49) (by decide +kernel))
theorem zw_2210 : Cond.methodLink RL 117 yX16_holds ∈ zAll := zi_36 (List.mem_of_getElem? (i := 50) (by decide +kernel))
theorem zw_2211 : Cond.instanceMethod yX16_holds ∈ zAll := zi_36 (List.mem_of_getElem? (i := 51) (by decide +kernel))
theorem zw_2212 : Cond.selects RX16 yX16_holds yX16_holds ∈ zAll := zi_36 (List.mem_of_getElem? (i := 52) (by decide +kernel))
theorem zw_2213 : Cond.methodLink RL 118 yX11_row ∈ zAll := zi_36 (List.mem_of_getElem? (i := 53) (by decide +kernel))
theorem zw_2214 : Cond.instanceMethod yX11_row ∈ zAll := zi_36 (List.mem_of_getElem? (i := 54) (by decide +kernel))
theorem zw_2215 : Cond.selects RX11 yX11_row yX11_row ∈ zAll := zi_36 (List.mem_of_getElem? (i := 55) (by decide +kernel))
theorem zw_2216 : Cond.methodLink RL 121 yX16_row ∈ zAll := zi_36 (List.mem_of_getElem? (i := 56) (by decide +kernel))
theorem zw_2217 : Cond.instanceMethod yX16_row ∈ zAll := zi_36 (List.mem_of_getElem? (i := 57) (by decide +kernel))
theorem zw_2218 : Cond.selects RX16 yX16_row yX16_row ∈ zAll := zi_36 (List.mem_of_getElem? (i := 58) (by decide +kernel))
theorem zw_2219 : Cond.methodLink RL 122 yX11_first ∈ zAll := zi_36 (List.mem_of_getElem? (i := 59) (by decide +kernel))
theorem zw_2220 : Cond.instanceMethod yX11_first ∈ zAll := zi_37 (List.mem_of_getElem? (i := 0) (by decide +kernel))
theorem zw_2221 : Cond.selects RX11 yX11_first yX11_first ∈ zAll := zi_37 (List.mem_of_getElem? (i := 1) (by decide +kernel))
theorem zw_2222 : Cond.methodLink RL 125 yX16_first ∈ zAll := zi_37 (List.mem_of_getElem? (i := 2) (by decide +kernel))
theorem zw_2223 : Cond.instanceMethod yX16_first ∈ zAll := zi_37 (List.mem_of_getElem? (i := 3) (by decide +kernel))
theorem zw_2224 : Cond.selects RX16 yX16_first yX16_first ∈ zAll := zi_37 (List.mem_of_getElem? (i := 4) (by decide +kernel))
theorem zw_2225 : Cond.methodLink RL 126 yX11_at ∈ zAll := zi_37 (List.mem_of_getElem? (i := 5) (by decide +kernel))
theorem zw_2226 : Cond.instanceMethod yX11_at ∈ zAll := zi_37 (List.mem_of_getElem? (i := 6) (by decide +kernel))
theorem zw_2227 : Cond.selects RX11 yX11_at yX11_at ∈ zAll := zi_37 (List.mem_of_getElem? (i := 7) (by decide +kernel))
theorem zw_2228 : Cond.methodLink RL 129 yX16_at ∈ zAll := zi_37 (List.mem_of_getElem? (i := 8) (by decide +kernel))
theorem zw_2229 : Cond.instanceMethod yX16_at ∈ zAll := zi_37 (List.mem_of_getElem? (i := 9) (by decide +kernel))
theorem zw_2230 : Cond.selects RX16 yX16_at yX16_at ∈ zAll := zi_37 (List.mem_of_getElem? (i := 10) (by decide +kernel))
theorem zw_2231 : Cond.methodLink RL 130 yX11_join ∈ zAll := zi_37 (List.mem_of_getElem? (i := 11) (by decide +kernel))
theorem zw_2232 : Cond.instanceMethod yX11_join ∈ zAll := zi_37 (List.mem_of_getElem? (i := 12) (by decide +kernel))
theorem zw_2233 : Cond.selects RX11 yX11_join yX11_join ∈ zAll := zi_37 (List.mem_of_getElem? (i := 13) (by decide +kernel))
theorem zw_2234 : Cond.methodLink RL 133 yX16_join ∈ zAll := zi_37 (List.mem_of_getElem? (i := 14) (by decide +kernel))
theorem zw_2235 : Cond.instanceMethod yX16_join ∈ zAll := zi_37 (List.mem_of_getElem? (i := 15) (by decide +kernel))
theorem zw_2236 : Cond.selects RX16 yX16_join yX16_join ∈ zAll := zi_37 (List.mem_of_getElem? (i := 16) (by decide +kernel))
theorem zw_2237 : Cond.methodLink RL 134 yX11_feed ∈ zAll := zi_37 (List.mem_of_getElem? (i := 17) (by decide +kernel))
theorem zw_2238 : Cond.instanceMethod yX11_feed ∈ zAll := zi_37 (List.mem_of_getElem? (i := 18) (by decide +kernel))
theorem zw_2239 : Cond.selects RX11 yX11_feed yX11_feed ∈ zAll := zi_37 (List.mem_of_getElem? (i := 19) (by decide +kernel))
theorem zw_2240 : Cond.methodLink RL 137 yX16_feed ∈ zAll := zi_37 (List.mem_of_getElem? (i := 20) (by decide +kernel))
theorem zw_2241 : Cond.instanceMethod yX16_feed ∈ zAll := zi_37 (List.mem_of_getElem? (i := 21) (by decide +kernel))
theorem zw_2242 : Cond.selects RX16 yX16_feed yX16_feed ∈ zAll := zi_37 (List.mem_of_getElem? (i := 22) (by decide +kernel))
theorem zw_2243 : Cond.methodLink RL 138 yX11_clear ∈ zAll := zi_37 (List.mem_of_getElem? (i := 23) (by decide +kernel))
theorem zw_2244 : Cond.instanceMethod yX11_clear ∈ zAll := zi_37 (List.mem_of_getElem? (i := 24) (by decide +kernel))
theorem zw_2245 : Cond.selects RX11 yX11_clear yX11_clear ∈ zAll := zi_37 (List.mem_of_getElem? (i := 25) (by decide +kernel))
theorem zw_2246 : Cond.methodLink RL 141 yX16_clear_ ∈ zAll := zi_37 (List.mem_of_getElem? (i := 26) (by decide +kernel))
theorem zw_2247 : Cond.instanceMethod yX16_clear_ ∈ zAll := zi_37 (List.mem_of_getElem? (i := 27) (by decide +kernel))
theorem zw_2248 : Cond.selects RX16 yX16_clear_ yX16_clear_ ∈ zAll := zi_37 (List.mem_of_getElem? (i := 28) (by decide +kernel))
theorem zw_2249 : Cond.methodLink RL 142 yX11_guess ∈ zAll := zi_37 (List.mem_of_getElem? (i := 29) (by decide +kernel))
theorem zw_2250 : Cond.instanceMethod yX11_guess ∈ zAll := zi_37 (List.mem_of_getElem? (i := 30) (by decide +kernel))
theorem zw_2251 : Cond.selects RX11 yX11_guess yX11_guess ∈ zAll := zi_37 (List.mem_of_getElem? (i := 31) (by decide +kernel))
theorem zw_2252 : Cond.methodLink RL 145 yX16_guess ∈ zAll := zi_37 (List.mem_of_getElem? (i := 32) (by decide +kernel))
theorem zw_2253 : Cond.instanceMethod yX16_guess ∈ zAll := zi_37 (List.mem_of_getElem? (i := 33) (by decide +kernel))
theorem zw_2254 : Cond.selects RX16 yX16_guess yX16_guess ∈ zAll := zi_37 (List.mem_of_getElem? (i := 34) (by decide +kernel))
theorem zw_2255 : Cond.methodLink RL 146 yX11_roots ∈ zAll := zi_37 (List.mem_of_getElem? (i := 35) (by decide +kernel))
theorem zw_2256 : Cond.instanceMethod yX11_roots ∈ zAll := zi_37 (List.mem_of_getElem? (i := 36) (by decide +kernel))
theorem zw_2257 : Cond.selects RX11 yX11_roots yX11_roots ∈ zAll := zi_37 (List.mem_of_getElem? (i := 37) (by decide +kernel))
theorem zw_2258 : Cond.methodLink RL 149 yX16_roots ∈ zAll := zi_37 (List.mem_of_getElem? (i := 38) (by decide +kernel))
theorem zw_2259 : Cond.instanceMethod yX16_roots ∈ zAll := zi_37 (List.mem_of_getElem? (i := 39) (by decide +kernel))
theorem zw_2260 : Cond.selects RX16 yX16_roots yX16_roots ∈ zAll := zi_37 (List.mem_of_getElem? (i := 40) (by decide +kernel))
theorem zw_2261 : Cond.methodLink RL 150 yX11_root ∈ zAll := zi_37 (List.mem_of_getElem? (i := 41) (by decide +kernel))
theorem zw_2262 : Cond.instanceMethod yX11_root ∈ zAll := zi_37 (List.mem_of_getElem? (i := 42) (by decide +kernel))
theorem zw_2263 : Cond.selects RX11 yX11_root yX11_root ∈ zAll := zi_37 (List.mem_of_getElem? (i := 43) (by decide +kernel))
theorem zw_2264 : Cond.methodLink RL 153 yX16_root ∈ zAll := zi_37 (List.mem_of_getElem? (i := 44) (by decide +kernel))
theorem zw_2265 : Cond.instanceMethod yX16_root ∈ zAll := zi_37 (List.mem_of_getElem? (i := 45) (by decide +kernel))
theorem zw_2266 : Cond.selects RX16 yX16_root yX16_root ∈ zAll := zi_37 (List.mem_of_getElem? (i := 46) (by decide +kernel))
theorem zw_2267 : Cond.methodLink RL 154 yX11_solve ∈ zAll := zi_37 (List.mem_of_getElem? (i := 47) (by decide +kernel))
theorem zw_2268 : Cond.instanceMethod yX11_solve ∈ zAll := zi_37 (List.mem_of_getElem? (i := 48) (by decide +kernel))
theorem zw_2269 : Cond.selects RX11 yX11_solve yX11_solve ∈ zAll := zi_37 (List.mem_of_getElem? (i := 49) (by decide +kernel))
theorem zw_2270 : Cond.methodLink RL 157 yX16_solve ∈ zAll := zi_37 (List.mem_of_getElem? (i := 50) (by decide +kernel))
theorem zw_2271 : Cond.instanceMethod yX16_solve ∈ zAll := zi_37 (List.mem_of_getElem? (i := 51) (by decide +kernel))
theorem zw_2272 : Cond.selects RX16 yX16_solve yX16_solve ∈ zAll := zi_37 (List.mem_of_getElem? (i := 52) (by decide +kernel))
theorem zw_2273 : Cond.methodLink RL 158 yX11_count ∈ zAll := zi_37 (List.mem_of_getElem? (i := 53) (by decide +kernel))
theorem zw_2274 : Cond.instanceMethod yX11_count ∈ zAll := zi_37 (List.mem_of_getElem? (i := 54) (by decide +kernel))
theorem zw_2275 : Cond.selects RX11 yX11_count yX11_count ∈ zAll := zi_37 (List.mem_of_getElem? (i := 55) (by decide +kernel))
theorem zw_2276 : Cond.methodLink RL 161 yX16_count ∈ zAll := zi_37 (List.mem_of_getElem? (i := 56) (by decide +kernel))
theorem zw_2277 : Cond.instanceMethod yX16_count ∈ zAll := zi_37 (List.mem_of_getElem? (i := 57) (by decide +kernel))
theorem zw_2278 : Cond.selects RX16 yX16_count yX16_count ∈ zAll := zi_37 (List.mem_of_getElem? (i := 58) (by decide +kernel))
theorem zw_2279 : Cond.methodLink RX16 346 yX16_fail ∈ zAll := zi_37 (List.mem_of_getElem? (i := 59) (by decide +kernel))
theorem zw_2280 : Cond.instanceMethod yX16_fail ∈ zAll := zi_38 (List.mem_of_getElem? (i := 0) (by decide +kernel))
theorem zw_2281 : Cond.selects RX16 yX16_fail yX16_fail ∈ zAll := zi_38 (List.mem_of_getElem? (i := 1) (by decide +kernel))
end
section
/-! rows over single steps that also tell what stays: the heap's size, every other cell -/
section Z3
variable {p : Program} {l : Launch} {e : Env} {R : Room} {s : State} {m : MethodId} {args : Array Value} {below : List Frame} {meth : Method} {c : Code} {H : Heap} {locs : List Loc} {cells slots : Nat} {Q : State → Prop}
variable {cc : ByteArray} {pc : Nat} {ls : Array Slot} {rest : List Value} {D : va_G} {cl : List vw_C} {A : Nat → Prop} {a : Nat} {tys : List (ClassId × FieldType)} {ws : va_W} {H0 : Heap}
/-- what a heap keeps of another one -/
def zKeep (H H1 : Heap) : Prop := H.size ≤ H1.size ∧ ∀ q : Nat, q < H.size → H1[q]? = H[q]?
def zBut (a : Nat) (H H1 : Heap) : Prop := H1.size = H.size ∧ ∀ q : Nat, q ≠ a → H1[q]? = H[q]?
theorem zput (hexec : p.tables.exec = Jvm.exec) (hb : c.code = cc) {own ref C : String} {T : u_T} {N ci index : Nat} {Ts : List Cond} (hts : ∀ w ∈ Ts, w.before args s = true) (hin : ∀ w ∈ u_ws C T N, w ∈ Ts) (ty0 : Nat → FieldType) (hty : ∀ k, k < N → parseFieldDescriptor (T k).2.2.1 = some (ty0 k)) (hnm : ∀ a, a < N → ∀ b, b < N → a ≠ b → (T a).2.1 ≠ (T b).2.1) (hown : s.vm.findClass own = some m.cls) (hK : va_K D cl tys s) (hP : va_P D cl ws H) (hD : va_D A ws) (hS0 : va_S A H0 H locs) (q0 : Nat) {fs : List Value} (he : ws[q0]? = some (a, .inr (ci, fs))) (hc : cl[ci]? = some (C, T, N)) (k : Nat) (hk : k < N) (hlink : (Cond.fieldLink own index ref (T k).2.1 (T k).2.2.1).before args s = true) (hsame : ∀ x, s.fieldFound? (T k).1 (T k).2.1 (T k).2.2.1 = some x → s.fieldFound? ref (T k).2.1 (T k).2.2.1 = some x) (hfin : (T k).2.2.2 = false) {ty : FieldType} {v : Value} (hd : parseFieldDescriptor (T k).2.2.1 = some ty) (hn : narrow ty v = v) (hfit : fits ty v = true) (hl : k < fs.length)
    (hdg : decode cc pc = .ok (.putfield index, 3)) (kk : ∀ (H1 : Heap) (locs1 : List Loc), zBut a H H1 → va_P D cl (ws.set q0 (a, .inr (ci, fs.set k v))) H1 → va_D A (ws.set q0 (a, .inr (ci, fs.set k v))) → va_S A H0 H1 locs1 → W p l e R s m args below meth c H1 locs1 cells slots Q (F0 m (pc + 3) ls rest)) : W p l e R s m args below meth c H locs cells slots Q (F0 m pc ls (v :: .ref a :: rest)) := by
  obtain ⟨r, h1, cell, q1, q2, q3, q4⟩ := hP q0 _ he
  cases (Option.some.inj (h1.symm.trans hc) : r = (C, T, N))
  obtain ⟨hS, hfc, kC, hkC, hkind⟩ := hK.1 ci _ hc
  obtain ⟨cf, kf, fi, f, hi, hsl⟩ := hS k hk
  have hlay := hts _ (hin _ (u_in_lay hk))
  unfold u_lay at hlay
  rw [if_neg (by rw [hfin]; decide)] at hlay
  have hst := (u_facts hfc hkC (u_lays hts hin hk) hi).1
  refine W.putK hexec hb (f := f) ⟨hown, hlink, ⟨_, _, _, hsame _ hi⟩, hst⟩ (by rw [q2]; exact u_store hfc hkC hkind hlay hi hd hn hfit) q1 q3 (by rw [hsl]; exact k2_hasslot (q4 k hk)) rfl rfl hdg fun H' e1 e2 e3 => ?_
  rw [hsl] at e1 ⊢
  exact kk H' _ ⟨e2, e3⟩ (hP.set hD he ⟨_, hc, t_OB.to (V := updV (vp_V fs) k v) ⟨_, e1, q2, q3, t_set q4 (va_apart (own := own) hts hin ty0 hty hnm hK hc) hk v⟩ (fun j _ => vp_updV_set hl v j)⟩ e3) (hD.set he) (hS0.put e2 e3 (hD.2 q0 _ he))
theorem zputF (hexec : p.tables.exec = Jvm.exec) (hb : c.code = cc) {own ref C : String} {T : u_T} {N ci index : Nat} {Ts : List Cond} (hts : ∀ w ∈ Ts, w.before args s = true) (hin : ∀ w ∈ u_ws C T N, w ∈ Ts) (ty0 : Nat → FieldType) (hty : ∀ k, k < N → parseFieldDescriptor (T k).2.2.1 = some (ty0 k)) (hnm : ∀ a, a < N → ∀ b, b < N → a ≠ b → (T a).2.1 ≠ (T b).2.1) (hown : s.vm.findClass own = some m.cls) (hK : va_K D cl tys s) (hP : va_P D cl ws H) (hD : va_D A ws) (hS0 : va_S A H0 H locs) (q0 : Nat) {fs : List Value} (he : ws[q0]? = some (a, .inr (ci, fs))) (hc : cl[ci]? = some (C, T, N)) (k : Nat) (hk : k < N) (hlink : (Cond.fieldLink own index ref (T k).2.1 (T k).2.2.1).before args s = true) (hsame : ∀ x, s.fieldFound? (T k).1 (T k).2.1 (T k).2.2.1 = some x → s.fieldFound? ref (T k).2.1 (T k).2.2.1 = some x) (hfin : (T k).2.2.2 = true) (hin2 : meth.name = "<init>") (hdecl : (T k).1 = own) {ty : FieldType} {v : Value} (hd : parseFieldDescriptor (T k).2.2.1 = some ty) (hn : narrow ty v = v) (hfit : fits ty v = true) (hl : k < fs.length)
    (hdg : decode cc pc = .ok (.putfield index, 3)) (kk : ∀ (H1 : Heap) (locs1 : List Loc), zBut a H H1 → va_P D cl (ws.set q0 (a, .inr (ci, fs.set k v))) H1 → va_D A (ws.set q0 (a, .inr (ci, fs.set k v))) → va_S A H0 H1 locs1 → W p l e R s m args below meth c H1 locs1 cells slots Q (F0 m (pc + 3) ls rest)) : W p l e R s m args below meth c H locs cells slots Q (F0 m pc ls (v :: .ref a :: rest)) := by
  obtain ⟨r, h1, cell, q1, q2, q3, q4⟩ := hP q0 _ he
  cases (Option.some.inj (h1.symm.trans hc) : r = (C, T, N))
  obtain ⟨hS, hfc, kC, hkC, hkind⟩ := hK.1 ci _ hc
  obtain ⟨cf, kf, fi, f, hi, hsl⟩ := hS k hk
  have hlay := hts _ (hin _ (u_in_lay hk))
  unfold u_lay at hlay
  rw [if_pos hfin] at hlay
  have hst := (u_facts hfc hkC (u_lays hts hin hk) hi).1
  have hcf : m.cls = cf := by
    obtain ⟨_, _, c', _, _, _, -, -, hf', -, -, -, hown2, -⟩ := Cond.laysFinal_spec hlay
    have e1 : c' = cf := by have := hi.symm.trans hf'; simp at this; exact this.1.symm
    rw [hdecl] at hown2
    rw [← e1]; exact Option.some.inj (hown.symm.trans hown2)
  refine W.putFinK hexec hb hown hlink (hsame _ hi) hst hcf hin2 (by rw [q2]; exact u_fits hfc hkC hkind (Or.inr hlay) hi hd hn hfit) q1 q3 (by rw [hsl]; exact k2_hasslot (q4 k hk)) rfl rfl hdg fun H' e1 e2 e3 => ?_
  rw [hsl] at e1 ⊢
  exact kk H' _ ⟨e2, e3⟩ (hP.set hD he ⟨_, hc, t_OB.to (V := updV (vp_V fs) k v) ⟨_, e1, q2, q3, t_set q4 (va_apart (own := own) hts hin ty0 hty hnm hK hc) hk v⟩ (fun j _ => vp_updV_set hl v j)⟩ e3) (hD.set he) (hS0.put e2 e3 (hD.2 q0 _ he))
theorem zpush {D : va_G} {cl : List vw_C} {ws : va_W} {H H1 : Heap} {x : va_E} (hP : va_P D cl ws H) (hk : zKeep H H1) (hx : va_at D cl (H.size, x) H1) : va_P D cl (ws ++ [(H.size, x)]) H1 := by
  refine (hP.kept (fun k q hq => hk.2 q.1 ((hP k q hq).lt))).app (fun k q hq => ?_)
  have hz : k < 1 := (List.getElem?_eq_some_iff.mp hq).1
  rw [show k = 0 by omega] at hq
  cases hq
  exact hx
theorem zS_keep {A : Nat → Prop} {H0 H H1 : Heap} {locs : List Loc} (hS : va_S A H0 H locs) (hk : zKeep H H1) : va_S A H0 H1 locs := ⟨Nat.le_trans hS.1 hk.1, fun x h1 h2 => (hk.2 x (Nat.lt_of_lt_of_le h1 hS.1)).trans (hS.2.1 x h1 h2), hS.2.2⟩
theorem znew {c0 : Code} (hexec : p.tables.exec = Jvm.exec) (hb : c0.code = cc) {own C : String} {T : u_T} {N ci index : Nat} {Ts : List Cond} (hts : ∀ w ∈ Ts, w.before args s = true) (hin : ∀ w ∈ u_ws C T N, w ∈ Ts) (ty : Nat → FieldType) (hty : ∀ k, k < N → parseFieldDescriptor (T k).2.2.1 = some (ty k)) (hown : s.vm.findClass own = some m.cls) (hcl : (Cond.classLink own index C).before args s = true) (hinst : (Cond.instantiable C N).before args s = true) (hini : (Cond.initialized C).before args s = true)
    (hK : va_K D cl tys s) (hP : va_P D cl ws H) (hD : va_D A ws) (hS : va_S A H0 H locs) (hA : ∀ q, H0.size ≤ q → A q) (hc : cl[ci]? = some (C, T, N)) {fs : List Value} (hfs : ∀ j, j < N → defaultValue (ty j) = vp_V fs j) (hcells : cells + 1 ≤ R.cells) (hslots : slots + N ≤ R.slots) (hdg : decode cc pc = .ok (.new index, 3))
    (kk : ∀ (q : Nat) (H1 : Heap), q = H.size → H1.size = H.size + 1 → zKeep H H1 → va_P D cl (ws ++ [(q, .inr (ci, fs))]) H1 → va_D A (ws ++ [(q, .inr (ci, fs))]) → va_S A H0 H1 locs →
      W p l e R s m args below meth c0 H1 locs (cells + 1) (slots + N) Q (F0 m (pc + 3) ls (.ref q :: rest))) : W p l e R s m args below meth c0 H locs cells slots Q (F0 m pc ls rest) := by
  have hKn := hK.1 ci _ hc
  refine W.newcK hexec hb hown hcl hinst hini rfl hdg hcells hslots hKn.2.1 rfl fun H1 kC hkC e1 z1 o1 => ?_
  have hk : zKeep H H1 := ⟨by omega, o1⟩
  exact kk H.size H1 rfl z1 hk (zpush hP hk ⟨_, hc, (u_born ty hts hin hKn hkC e1 hty).to hfs⟩) (hD.push hP rfl (hA _ hS.1)) (zS_keep hS hk)
theorem znewa (hexec : p.tables.exec = Jvm.exec) (hb : c.code = cc) {atype : ArrayType} (harr : (Cond.arrayClass (newarray.typeOf atype)).before args s = true) {ty : FieldType} (hty : newarray.typeOf atype = ty) (hK : va_K D cl tys s) (hP : va_P D cl ws H) (hD : va_D A ws) (hS : va_S A H0 H locs) (hA : ∀ q, H0.size ≤ q → A q)
    (t0 : Nat) {cA : ClassId} (ht : tys[t0]? = some (cA, ty)) (hra : va_RA s cA ty → s.vm.findClass ("[" ++ ty.toString) = some cA) {n : Int32} {N' : Nat} {a0 : vp_A} (ha : vp_cell cA a0 = arrV cA N' (fun _ => defaultValue ty)) (hn : ¬ n < 0) (hN : n.toNatClampNeg = N') (hbytes : N' * componentBytes ty ≤ 536870912) (hcells : cells + 1 ≤ R.cells) (hslots : slots + N' ≤ R.slots) (hdg : decode cc pc = .ok (.newarray atype, 2))
    (kk : ∀ (q : Nat) (H1 : Heap), q = H.size → H1.size = H.size + 1 → zKeep H H1 → va_P D cl (ws ++ [(q, .inl (cA, a0))]) H1 → va_D A (ws ++ [(q, .inl (cA, a0))]) → va_S A H0 H1 locs →
      W p l e R s m args below meth c H1 locs (cells + 1) (slots + N') Q (F0 m (pc + 2) ls (.ref q :: rest))) : W p l e R s m args below meth c H locs cells slots Q (F0 m pc ls (.int n :: rest)) := by
  subst hty
  refine va_newaK hexec hb harr rfl hdg rfl hn hN hbytes hcells hslots rfl fun H1 cA' e1 z1 o1 hAr hNm => ?_
  have hk : zKeep H H1 := ⟨by omega, o1⟩
  cases (Option.some.inj (hNm.symm.trans (hra (hK.2 t0 _ ht).2)) : cA' = cA)
  exact kk H.size H1 rfl z1 hk (zpush hP hk (by show H1[H.size]? = some (vp_cell _ _); rw [ha]; exact e1)) (hD.push hP rfl (hA _ hS.1)) (zS_keep hS hk)
theorem znewq (hexec : p.tables.exec = Jvm.exec) (hb : c.code = cc) {own C : String} {index : Nat} (hown : s.vm.findClass own = some m.cls) (hclink : (Cond.classLink own index C).before args s = true) (hover : va_AO C s) (hK : va_K D cl tys s) (hP : va_P D cl ws H) (hD : va_D A ws) (hS : va_S A H0 H locs) (hA : ∀ q, H0.size ≤ q → A q)
    (t0 : Nat) {cA : ClassId} (ht : tys[t0]? = some (cA, .object C)) {n : Int32} {N' : Nat} (hn : ¬ n < 0) (hN : n.toNatClampNeg = N') (hbytes : N' * 4 ≤ 536870912) (hcells : cells + 1 ≤ R.cells) (hslots : slots + N' ≤ R.slots) (hdg : decode cc pc = .ok (.anewarray index, 3))
    (kk : ∀ (q : Nat) (H1 : Heap), q = H.size → H1.size = H.size + 1 → zKeep H H1 → va_P D cl (ws ++ [(q, .inl (cA, N', .inr (.inr (.inr (.inr (fun _ => none))))))]) H1 → va_D A (ws ++ [(q, .inl (cA, N', .inr (.inr (.inr (.inr (fun _ => none))))))]) → va_S A H0 H1 locs →
      W p l e R s m args below meth c H1 locs (cells + 1) (slots + N') Q (F0 m (pc + 3) ls (.ref q :: rest))) : W p l e R s m args below meth c H locs cells slots Q (F0 m pc ls (.int n :: rest)) := by
  subst hN
  refine W.anew hexec hb hown hclink (va_AO.use hover) rfl hdg rfl hn hbytes hcells hslots fun cA' kA comp f1 f2 f3 f4 => ?_
  obtain ⟨kA2, comp2, -, -, -, g4⟩ := (hK.2 t0 _ ht).2
  cases (Option.some.inj (f1.symm.trans g4) : cA' = cA)
  generalize hH1 : H.push ({ cls := cA, slots := Array.replicate n.toNatClampNeg .null, vm := .none } : Cell) = H1
  have z1 : H1.size = H.size + 1 := by rw [← hH1, Array.size_push]
  have e1 : H1[H.size]? = some (arrV cA n.toNatClampNeg (fun _ => .null)) := by rw [← hH1, Array.getElem?_push_size, ← arrV_new]
  have o1 : ∀ q : Nat, q < H.size → H1[q]? = H[q]? := fun q hq => by rw [← hH1, Array.getElem?_push, if_neg (Nat.ne_of_lt hq)]
  have hk : zKeep H H1 := ⟨by omega, o1⟩
  exact kk H.size H1 rfl z1 hk (zpush hP hk (by show H1[H.size]? = some (vp_cell _ _); rw [vp_cell_q]; exact e1)) (hD.push hP rfl (hA _ hS.1)) (zS_keep hS hk)
theorem zastq (hexec : p.tables.exec = Jvm.exec) (hb : c.code = cc) (hK : va_K D cl tys s) (hP : va_P D cl ws H) (hD : va_D A ws) (hS : va_S A H0 H locs) (q0 t0 ci : Nat) {cA : ClassId} {r : vw_C} {n v : Nat} {vs : List Value} {f : Nat → Option Nat} (ha : ws[q0]? = some (a, .inl (cA, n, .inr (.inr (.inr (.inr f)))))) (ht : tys[t0]? = some (cA, .object r.1)) (hv : va_at D cl (v, .inr (ci, vs)) H) (hc : cl[ci]? = some r) {i : Int32} (hin : vp_in i n) (hdg : decode cc pc = .ok (.aastore, 1))
    (kk : ∀ (H1 : Heap) (locs1 : List Loc), zBut a H H1 → va_P D cl (ws.set q0 (a, .inl (cA, n, .inr (.inr (.inr (.inr (va_up f i.toNatClampNeg (some v)))))))) H1 → va_D A (ws.set q0 (a, .inl (cA, n, .inr (.inr (.inr (.inr (va_up f i.toNatClampNeg (some v)))))))) → va_S A H0 H1 locs1 → W p l e R s m args below meth c H1 locs1 cells slots Q (F0 m (pc + 1) ls rest)) : W p l e R s m args below meth c H locs cells slots Q (F0 m pc ls (.ref v :: .int i :: .ref a :: rest)) := by
  have hlt : i.toNatClampNeg < n := Nat.not_le.mp fun q => hin (Or.inr q)
  obtain ⟨r', hr', cellV, g1, g2, g3, -⟩ := hv
  have hcls := (hK.1 ci r hc).2
  obtain ⟨kA, comp, k1, k2, k3, -⟩ := (hK.2 t0 _ ht).2
  cases (Option.some.inj (k3.symm.trans hcls.1) : comp = D.1 ci)
  obtain ⟨kC, hkC, -⟩ := hcls.2
  refine W.aast hexec hb (hP q0 _ ha) (fun q h => by cases h) (fun h => by cases h) k1 k2 rfl hkC ⟨fun q => hin (Or.inl q), by show _ < (arrV _ _ _).slots.size; rw [arrV_size]; exact hlt⟩ g1 (fun q h => by rw [g3] at h; cases h) (by rw [g2]; exact hkC) (by rw [g2]; exact va_assign hcls) rfl rfl hdg fun H1 e z oq => ?_
  refine kk H1 _ ⟨z, oq⟩ (hP.set hD ha ?_ oq) (hD.set ha) (hS.put z oq (hD.2 q0 _ ha))
  show H1[a]? = some (vp_cell _ _)
  rw [e, vp_cell_q, vp_cell_q, arrV_store]
  congr 2
  funext q
  by_cases hq : q = i.toNatClampNeg
  · subst hq
    simp [updV, va_up, va_rf]
  · simp [updV, va_up, hq]
end Z3
section Z4
variable {p : Program} {l : Launch} {e : Env} {R : Room} {s : State} {m : MethodId} {args : Array Value} {below : List Frame} {meth : Method} {c : Code} {H : Heap} {locs : List Loc} {cells slots : Nat} {Q : State → Prop}
variable {cc : ByteArray} {pc : Nat} {ls : Array Slot} {rest : List Value} {D : va_G} {cl : List vw_C} {A : Nat → Prop} {a : Nat} {tys : List (ClassId × FieldType)} {ws : va_W} {H0 : Heap}
theorem ziast (hexec : p.tables.exec = Jvm.exec) (hb : c.code = cc) (hK : va_K D cl tys s) (hP : va_P D cl ws H) (hD : va_D A ws) (hS : va_S A H0 H locs) (q0 t0 : Nat) {cA : ClassId} {n : Nat} {f : Nat → Int32} (ha : ws[q0]? = some (a, .inl (cA, n, .inl f))) (ht : tys[t0]? = some (cA, .int)) {i : Int32} {x : Int32} (hin : vp_in i n) (hdg : decode cc pc = .ok (.iastore, 1))
    (kk : ∀ (H1 : Heap) (locs1 : List Loc), zBut a H H1 → va_P D cl (ws.set q0 (a, .inl (cA, n, .inl (upd f i.toNatClampNeg x)))) H1 → va_D A (ws.set q0 (a, .inl (cA, n, .inl (upd f i.toNatClampNeg x)))) → va_S A H0 H1 locs1 → W p l e R s m args below meth c H1 locs1 cells slots Q (F0 m (pc + 1) ls rest)) : W p l e R s m args below meth c H locs cells slots Q (F0 m pc ls (.int x :: .int i :: .ref a :: rest)) := by
  refine W.iast hexec hb (hP q0 _ ha) ((hK.2 t0 _ ht).1 n (fun j => .int (f j))) (fun q => by cases q) (by show ¬ (i < 0 ∨ (arrV _ _ _).slots.size ≤ _); rw [arrV_size]; exact hin) rfl rfl hdg fun H1 e z oq => ?_
  refine kk H1 _ ⟨z, oq⟩ (hP.set hD ha ?_ oq) (hD.set ha) (hS.put z oq (hD.2 q0 _ ha))
  show H1[a]? = some (vp_cell _ _)
  rw [e, vp_cell_i, vp_cell_i, arrV_store]
  congr 2
  funext q
  by_cases hq : q = i.toNatClampNeg
  · subst hq
    simp [updV, upd]
  · simp [updV, upd, hq]
/-- a reference out of an array, where it is known -/
theorem zaldr (hexec : p.tables.exec = Jvm.exec) (hb : c.code = cc) (hK : va_K D cl tys s) (hP : va_P D cl ws H) (q0 t0 : Nat) {cA : ClassId} {C : String} {n : Nat} {f : Nat → Option Nat} (ha : ws[q0]? = some (a, .inl (cA, n, .inr (.inr (.inr (.inr f)))))) (ht : tys[t0]? = some (cA, .object C)) {i : Int32} (hin : vp_in i n) {q : Nat} (hq : f i.toNatClampNeg = some q) (hdg : decode cc pc = .ok (.aaload, 1))
    (kk : W p l e R s m args below meth c H locs cells slots Q (F0 m (pc + 1) ls (.ref q :: rest))) : W p l e R s m args below meth c H locs cells slots Q (F0 m pc ls (.int i :: .ref a :: rest)) := by
  refine va_aldq hexec hb hK hP q0 t0 ha ht hin hdg ?_
  rw [hq]
  exact kk
end Z4
end
section

section VXA
/-! The laws vx_back, vx_callV, vx_callS, vx_callSW, vx_throw0, vx_throwS follow proofs of the library, with one case more: JvmDerived/Free/Laws.lean (Back.of_free), Shelf42/LK1.lean (callV, callS), Shelf/KitTraced.lean (throwNew0V, throwNewS). -/
/-- where a method has thrown q: the class by its name, the cell, what was written, the world -/
def vx_T (XC : String → State → State → Prop) (st : State) (q : Addr) (t : State) (mc ms : Nat) (free : Addr → Prop) : Prop :=
  ∃ (E : String) (ce : Cell) (L : List Loc), XC E st t ∧ t.heap[q]? = some ce ∧ ce.vm = .none ∧ st.vm.findClass E = some ce.cls ∧ st.WarmedH t.vm ∧ st.sameButNew ({ t with vm := st.vm } : State) L mc ms ∧ ∀ z ∈ L, free z.base
def vx_Q (Qc : Array Value → State → Outcome → State → Prop) (XC : String → State → State → Prop) (mc ms : Nat) (free : Addr → Prop) : Array Value → State → Outcome → State → Prop := fun a st o t =>
  (Qc a st o t ∧ ∃ L, FrameEnd st o t L mc ms ∧ ∀ q ∈ L, free q.base) ∨ ∃ q, o = .threw q ∧ vx_T XC st q t mc ms free
/-- a callee that returns or throws -/
def vx_Met (l : Launch) (y : MethodName) (ws : List Cond) (rm : Room) (Pc : Array Value → State → Prop) (Qc : Array Value → State → Outcome → State → Prop) (XC : String → State → State → Prop) (mc ms : Nat) (free : Addr → Prop) : Prop :=
  MetFree l y (headSpec ws rm) Pc (fun _ _ _ _ _ => True) (vx_Q Qc XC mc ms free)
def vx_Post (XC : String → State → State → Prop) (mc ms : Nat) (free : Addr → Prop) : Pt → Array Value → Addr → Pt → Prop := fun A a q B =>
  ∃ (g : JFrame) (mk : MethodId) (t : State) (L : List Loc) (E : String) (ce : Cell), B.U.heap = t.heap ∧ B.U.vm = t.vm ∧ XC E (A.U.calling g mk a) t ∧ t.heap[q]? = some ce ∧ ce.vm = .none ∧ A.U.vm.findClass E = some ce.cls ∧ B.locs = A.locs ++ L ∧ (∀ z ∈ L, free z.base) ∧ B.cells = A.cells + mc ∧ B.slots = A.slots + ms
def vx_Back (l : Launch) (R : Room) (p : Program) (e : Env) (below : List Frame) (s : State) (sargs : Array Value) (y : MethodName) (len W9 : Nat)
    (Pre : Pt → Array Value → Prop) (Post : Pt → Array Value → Option Value → Pt → Prop) (PostX : Pt → Array Value → Addr → Pt → Prop) : Prop :=
  ∀ (m : MethodId) (meth : Method) (c : Code) (A : Pt) (g : JFrame) (ig : Instr) (mk : MethodId) (a : Array Value),
    Stand p l e R s m sargs below meth c A.U A.locs A.cells A.slots → g.method = m → g.locals.size = c.maxLocals → decode c.code g.pc = .ok (ig, len) →
    2 * g.monitorRoom + (g.stack.map fun v => v.category).sum ≤ W9 → A.U.methodNamed? y = some mk → Pre A a →
    (∃ (v : Option Value) (B : Pt), Stand p l e R s m sargs below meth c B.U B.locs B.cells B.slots ∧ Post A a v B ∧
      Steps p.tables e below (doInvoke e (A.U.setTop g) [] mk a).1 (B.U.setTop { g with pc := g.pc + len, stack := v.toList ++ g.stack })) ∨
    (∃ (q : Addr) (B : Pt), Stand p l e R s m sargs below meth c B.U B.locs B.cells B.slots ∧ PostX A a q B ∧
      Steps p.tables e below (doInvoke e (A.U.setTop g) [] mk a).1 ((B.U.setTop g).pushFrame (.throwing q)))
section Payer
variable {l : Launch} {R : Room} {p : Program} {e : Env} {below : List Frame} {s : State} {sargs : Array Value} {y : MethodName} {len W9 : Nat}
theorem vx_back {ws : List Cond} {rm : Room} {Pc : Array Value → State → Prop} {Qc : Array Value → State → Outcome → State → Prop} {XC : String → State → State → Prop} {mc ms : Nat} {free : Addr → Prop} {bytes : ByteArray} {maxL : Nat} {ret : Option FieldType}
    (hM : vx_Met l y ws rm Pc Qc XC mc ms free) (hblind : FrameBlind Pc) (hrc : rm.cells = mc) (hrs : rm.slots = ms)
    (hframes : rm.frames + 1 ≤ R.frames) (hlocals : W9 + (maxL + 11) + rm.locals ≤ R.locals)
    (hws : ∀ w ∈ ws, ∀ a' U, s.WarmedH U.vm → w.before a' U = true) (hcode : Cond.code y bytes maxL ret ∈ ws) (hinit : ∀ a' U, s.WarmedH U.vm → (Cond.initialized y.cls).before a' U = true) :
    vx_Back l R p e below s sargs y len W9 (PreOf R mc ms Pc) (PostOf Qc mc ms free) (vx_Post XC mc ms free) := by
  intro m meth c A g ig mk a X hg hsize hdg hW hn hp
  have h1 : (headSpec ws rm).pre.before a A.U = true := atoms_intro fun w hw => hws w hw _ _ X.warmed
  have h2 : (Cond.code y bytes maxL ret).before a A.U = true := hws _ hcode _ _ X.warmed
  have h3 : (Cond.initialized y.cls).before a A.U = true := hinit _ _ X.warmed
  have h4 : A.cells + (headSpec ws rm).room.cells ≤ R.cells := by rw [show (headSpec ws rm).room.cells = mc from hrc]; exact hp.1
  have h5 : A.slots + (headSpec ws rm).room.slots ≤ R.slots := by rw [show (headSpec ws rm).room.slots = ms from hrs]; exact hp.2.1
  have hPc : Pc a (A.U.calling g mk a) := hblind _ _ _ _ hp.2.2
  obtain ⟨U, Ls, c0, s0⟩ := A
  dsimp only [Pt.U, Pt.locs, Pt.cells, Pt.slots] at h1 h2 h3 h4 h5 X hn hPc ⊢
  obtain ⟨methY, cY, hmY, hcY, -, hlY, -, -, -, -⟩ := Cond.code_spec hn h2
  obtain ⟨kY, hkY, -⟩ := className_of_methodNamed hn
  have hinitY : kY.init = .initialized := Cond.initialized_spec (findClass_of_methodNamed hn) hkY h3
  have h : At U g.method c below := by rw [hg]; exact X.here
  have hlocals9 : W9 + (maxL + 11) + (headSpec ws rm).room.locals ≤ R.locals := hlocals
  have happ : (headSpec ws rm).appliesLoose y e.platform (U.calling g mk a) = true :=
    Spec.appliesLoose_calling (g := g) h hdg hn hkY hinitY
      (X.room_calling (g := g) (R' := (headSpec ws rm).room) hsize hmY hcY hframes (by rw [hlY]; omega) h4 h5) h1
  obtain ⟨mid, hmid⟩ := h.above
  have hfr : (U.setTop g).frames = (.java g :: mid) ++ below := by rw [State.frames_setTop' g h.top, hmid]; rfl
  obtain ⟨o, s₂, hsteps, -, hend, hq⟩ := Steps.callFree hM p X.admits X.cas X.clock (acts := []) hfr happ hPc trivial
  have hq' : vx_Q Qc XC mc ms free a (U.calling g mk a) o s₂ := hq
  rw [State.frames_setTop' g h.top] at hend
  obtain ⟨g₀, hg0⟩ := Option.isSome_iff_exists.mp h.top
  obtain ⟨r, hr⟩ := State.topJava?_eq_some.mp hg0
  have hr' : (({ U with heap := s₂.heap, slotsUsed := s₂.slotsUsed } : State).setVm s₂.vm).frames = .java g₀ :: r := hr
  rcases hq' with ⟨hqc, L, hfe, hL⟩ | ⟨q, rfl, E, ce, L, hx, hce, hcv, hcl, hW₂, hsm, hL⟩
  · obtain ⟨⟨v, rfl⟩, hW₂, e2, q2, q3, q4, q5, q6⟩ := id hfe
    have e3 : s₂ = ({ (U.calling g mk a).setFrames s₂.frames with heap := s₂.heap, slotsUsed := s₂.slotsUsed } : State).setVm s₂.vm := by
      have : s₂ = ({ s₂ with vm := (U.calling g mk a).vm } : State).setVm s₂.vm := rfl
      rw [e2] at this
      exact this
    obtain ⟨c₂, i₂, len₂, hc₂, hd₂, hf₂⟩ := hend
    have hW' : U.WarmedH s₂.vm := hW₂
    have hcc : c₂ = c := by
      have h1 : s₂.code? g.method = U.code? g.method := by
        rw [State.code?_eq, State.code?_eq, hW'.alike.method?]
      exact Option.some.inj (hc₂.symm.trans (h1.trans h.code))
    subst hcc
    have hlen : len₂ = len := by rw [hdg] at hd₂; cases hd₂; rfl
    subst hlen
    have hs₂ : s₂ = (({ U with heap := s₂.heap, slotsUsed := s₂.slotsUsed } : State).setVm s₂.vm).setTop { g with pc := g.pc + len₂, stack := v.toList ++ g.stack } := by
      refine e3.trans ?_
      rw [hf₂, State.calling_eq h.top, State.setFrames_setFrames, State.setTop_of_frames _ hr', hr]
      rfl
    have hsame : U.sameButNew ({ U with heap := s₂.heap, slotsUsed := s₂.slotsUsed } : State) L mc ms := by
      refine ⟨?_, q2, q3, q4, q5, q6⟩
      obtain ⟨t, ht, -⟩ := State.frames_cons hr
      show ({ U with heap := s₂.heap, slotsUsed := s₂.slotsUsed } : State) = { U.setFrames U.frames with heap := s₂.heap, slotsUsed := s₂.slotsUsed }
      rw [State.setFrames_self ht]
    subst hg
    refine Or.inl ⟨v, ⟨(({ U with heap := s₂.heap, slotsUsed := s₂.slotsUsed } : State).setVm s₂.vm), Ls ++ L, c0 + mc, s0 + ms⟩,
      ⟨X.admits, X.cas, X.clock, X.frames, X.room, X.hears, X.method, X.code, (X.here.setHeapUsed s₂.heap s₂.slotsUsed).setVm hW'.alike, X.tail, State.WarmedH.trans X.warmed hW', X.limits, X.bytes, X.same.trans (hsame.setVm s.vm)⟩,
      ⟨g, mk, s₂, L, rfl, rfl, hqc, rfl, hL, rfl, rfl⟩, ?_⟩
    show Steps p.tables e below _ ((({ U with heap := s₂.heap, slotsUsed := s₂.slotsUsed } : State).setVm s₂.vm).setTop { g with pc := g.pc + len₂, stack := v.toList ++ g.stack })
    rw [← hs₂]
    exact hsteps
  · obtain ⟨e2, q2, q3, q4, q5, q6⟩ := id hsm
    have e3 : s₂ = ({ (U.calling g mk a).setFrames s₂.frames with heap := s₂.heap, slotsUsed := s₂.slotsUsed } : State).setVm s₂.vm := by
      have : s₂ = ({ s₂ with vm := (U.calling g mk a).vm } : State).setVm s₂.vm := rfl
      rw [e2] at this
      exact this
    have hf₂ : s₂.frames = .throwing q :: .java g :: U.frames.tail := hend
    have hW' : U.WarmedH s₂.vm := hW₂
    have hs₂ : s₂ = ((({ U with heap := s₂.heap, slotsUsed := s₂.slotsUsed } : State).setVm s₂.vm).setTop g).pushFrame (.throwing q) := by
      refine e3.trans ?_
      rw [hf₂, State.calling_eq h.top, State.setFrames_setFrames, State.pushFrame, State.frames_setTop _ hr', State.setTop_of_frames _ hr', State.setFrames_setFrames, hr]
      rfl
    have hsame : U.sameButNew ({ U with heap := s₂.heap, slotsUsed := s₂.slotsUsed } : State) L mc ms := by
      refine ⟨?_, q2, q3, q4, q5, q6⟩
      obtain ⟨t, ht, -⟩ := State.frames_cons hr
      show ({ U with heap := s₂.heap, slotsUsed := s₂.slotsUsed } : State) = { U.setFrames U.frames with heap := s₂.heap, slotsUsed := s₂.slotsUsed }
      rw [State.setFrames_self ht]
    subst hg
    refine Or.inr ⟨q, ⟨(({ U with heap := s₂.heap, slotsUsed := s₂.slotsUsed } : State).setVm s₂.vm), Ls ++ L, c0 + mc, s0 + ms⟩,
      ⟨X.admits, X.cas, X.clock, X.frames, X.room, X.hears, X.method, X.code, (X.here.setHeapUsed s₂.heap s₂.slotsUsed).setVm hW'.alike, X.tail, State.WarmedH.trans X.warmed hW', X.limits, X.bytes, X.same.trans (hsame.setVm s.vm)⟩,
      ⟨g, mk, s₂, L, E, ce, rfl, rfl, hx, hce, hcv, hcl, rfl, hL, rfl, rfl⟩, ?_⟩
    show Steps p.tables e below _ (((({ U with heap := s₂.heap, slotsUsed := s₂.slotsUsed } : State).setVm s₂.vm).setTop g).pushFrame (.throwing q))
    rw [← hs₂]
    exact hsteps
end Payer
section Calls
variable {p : Program} {l : Launch} {e : Env} {R : Room} {s : State} {m : MethodId} {args : Array Value} {below : List Frame} {meth : Method} {c : Code} {T : State} {locs : List Loc} {cells slots : Nat}
theorem vx_callV (X : Stand p l e R s m args below meth c T locs cells slots) (hexec : p.tables.exec = Jvm.exec) {own C : String} {index : Nat} {y : MethodName} {bytes : ByteArray} {maxL : Nat} {ret : Option FieldType}
    (hown : s.vm.findClass own = some m.cls) (hlink : (Cond.methodLink own index y).before args s = true) (hinst : (Cond.instanceMethod y).before args s = true) (hsel : (Cond.selects C y y).before args s = true)
    (hcode : (Cond.code y bytes maxL ret).before args s = true) (hy : y.cls ≠ "java/lang/invoke/MethodHandle" ∧ y.cls ≠ "java/lang/invoke/VarHandle")
    {W9 : Nat} {Pre : Pt → Array Value → Prop} {Post : Pt → Array Value → Option Value → Pt → Prop} {PostX : Pt → Array Value → Addr → Pt → Prop} (hK : vx_Back l R p e below s args y 3 W9 Pre Post PostX)
    {b : Addr} {cellB : Cell} (hcell : T.heap[b]? = some cellB) (hobj : cellB.vm.isStatics = false) (hcls : s.vm.findClass C = some cellB.cls)
    {g : JFrame} (hg : g.method = m) (hsize : g.locals.size = c.maxLocals) {argsL rest : List Value} (hlen : ∀ sig, parseMethodDescriptor y.desc = some sig → argsL.length = sig.parameters.length)
    (hstack : g.stack = argsL.reverse ++ .ref b :: rest) (hW : 2 * g.monitorRoom + (rest.map fun v => v.category).sum ≤ W9) (hdg : decode c.code g.pc = .ok (.invokevirtual index, 3))
    (hpre : ∀ vm₁, s.WarmedH vm₁ → Pre ⟨T.setVm vm₁, locs, cells, slots⟩ (Value.ref b :: argsL).toArray) :
    (∃ (v : Option Value) (vm₁ : Vm) (B : Pt), s.WarmedH vm₁ ∧ Stand p l e R s m args below meth c B.U B.locs B.cells B.slots ∧ Post ⟨T.setVm vm₁, locs, cells, slots⟩ (Value.ref b :: argsL).toArray v B ∧
      ∀ target, Steps p.tables e below (B.U.setTop { g with pc := g.pc + 3, stack := v.toList ++ rest }) target → Steps p.tables e below (T.setTop g) target) ∨
    (∃ (q : Addr) (vm₁ : Vm) (B : Pt), s.WarmedH vm₁ ∧ Stand p l e R s m args below meth c B.U B.locs B.cells B.slots ∧ PostX ⟨T.setVm vm₁, locs, cells, slots⟩ (Value.ref b :: argsL).toArray q B ∧
      Steps p.tables e below (T.setTop g) ((B.U.setTop { g with stack := rest }).pushFrame (.throwing q))) := by
  obtain ⟨mk, methM, hnamed, hmethM, hstM, habM⟩ := Cond.instanceMethod_spec hinst
  obtain ⟨methM', cM, hmethM', -, -, -, -, -, -, hsigM⟩ := Cond.code_spec hnamed hcode
  cases hmethM.symm.trans hmethM'
  obtain ⟨c2, r2, m2, q1, q2, q3, q4, kP, hkP, hkPi⟩ := Cond.selects_spec hsel
  cases hcls.symm.trans q1
  cases (State.methodFound?_of_named hnamed hy).symm.trans q2
  cases hnamed.symm.trans q3
  have hselP : selectMethod e.platform s.vm cellB.cls mk = .method mk := by rw [Launch.admits_selectMethod X.admits]; exact q4
  obtain ⟨vm₁, X₁, hstep₁⟩ := X.invokevirtual hexec hown hlink hnamed hmethM hstM hkP hkPi hy (a := b) (cell := cellB) hcell
    (fun z h => by rw [h] at hobj; cases hobj) hselP hmethM habM hkP hkPi (g := g) hg (argsL := argsL) (rest := rest) (hlen _ hsigM) hstack hdg
  rcases hK m meth c ⟨T.setVm vm₁, locs, cells, slots⟩ { g with stack := rest } (.invokevirtual index) mk (Value.ref b :: argsL).toArray X₁ hg hsize hdg hW (X₁.named hnamed) (hpre vm₁ X₁.warmed) with ⟨v, B, X', hpost, hsteps⟩ | ⟨q, B, X', hpost, hsteps⟩
  · exact Or.inl ⟨v, vm₁, B, X₁.warmed, X', hpost, fun target h => hstep₁ _ fun acts => by rw [doInvoke_state]; exact hsteps.trans h⟩
  · exact Or.inr ⟨q, vm₁, B, X₁.warmed, X', hpost, hstep₁ _ fun acts => by rw [doInvoke_state]; exact hsteps⟩
theorem vx_callS (X : Stand p l e R s m args below meth c T locs cells slots) (hexec : p.tables.exec = Jvm.exec) {own : String} {index : Nat} {y : MethodName} {bytes : ByteArray} {maxL : Nat} {ret : Option FieldType}
    (hown : s.vm.findClass own = some m.cls) (hlink : (Cond.methodLink own index y).before args s = true) (hstat : (Cond.static y).before args s = true) (hinit : (Cond.initialized y.cls).before args s = true)
    (hcode : (Cond.code y bytes maxL ret).before args s = true) (hy : y.cls ≠ "java/lang/invoke/MethodHandle" ∧ y.cls ≠ "java/lang/invoke/VarHandle")
    {W9 : Nat} {Pre : Pt → Array Value → Prop} {Post : Pt → Array Value → Option Value → Pt → Prop} {PostX : Pt → Array Value → Addr → Pt → Prop} (hK : vx_Back l R p e below s args y 3 W9 Pre Post PostX)
    {g : JFrame} (hg : g.method = m) (hsize : g.locals.size = c.maxLocals) {argsL rest : List Value} (hlen : ∀ sig, parseMethodDescriptor y.desc = some sig → argsL.length = sig.parameters.length)
    (hstack : g.stack = argsL.reverse ++ rest) (hW : 2 * g.monitorRoom + (rest.map fun v => v.category).sum ≤ W9) (hdg : decode c.code g.pc = .ok (.invokestatic index, 3))
    (hpre : ∀ vm₁, s.WarmedH vm₁ → Pre ⟨T.setVm vm₁, locs, cells, slots⟩ argsL.toArray) :
    (∃ (v : Option Value) (vm₁ : Vm) (B : Pt), s.WarmedH vm₁ ∧ Stand p l e R s m args below meth c B.U B.locs B.cells B.slots ∧ Post ⟨T.setVm vm₁, locs, cells, slots⟩ argsL.toArray v B ∧
      ∀ target, Steps p.tables e below (B.U.setTop { g with pc := g.pc + 3, stack := v.toList ++ rest }) target → Steps p.tables e below (T.setTop g) target) ∨
    (∃ (q : Addr) (vm₁ : Vm) (B : Pt), s.WarmedH vm₁ ∧ Stand p l e R s m args below meth c B.U B.locs B.cells B.slots ∧ PostX ⟨T.setVm vm₁, locs, cells, slots⟩ argsL.toArray q B ∧
      Steps p.tables e below (T.setTop g) ((B.U.setTop { g with stack := rest }).pushFrame (.throwing q))) := by
  obtain ⟨mk, hnamed⟩ := Cond.code_named hcode
  obtain ⟨methM, cM, hmethM, -, -, -, -, -, -, hsigM⟩ := Cond.code_spec hnamed hcode
  have hstatic : methM.isStatic = true := Cond.static_spec hnamed hmethM hstat
  obtain ⟨kP, hkP, -⟩ := className_of_methodNamed hnamed
  have hinitP : kP.init = .initialized := Cond.initialized_spec (findClass_of_methodNamed hnamed) hkP hinit
  obtain ⟨vm₁, X₁, hstep₁⟩ := X.invokestatic hexec hown hlink hnamed hmethM hstatic hkP hinitP hy (g := g) hg (argsL := argsL) (rest := rest) (hlen _ hsigM) hstack hdg
  rcases hK m meth c ⟨T.setVm vm₁, locs, cells, slots⟩ { g with stack := rest } (.invokestatic index) mk argsL.toArray X₁ hg hsize hdg hW (X₁.named hnamed) (hpre vm₁ X₁.warmed) with ⟨v, B, X', hpost, hsteps⟩ | ⟨q, B, X', hpost, hsteps⟩
  · exact Or.inl ⟨v, vm₁, B, X₁.warmed, X', hpost, fun target h => hstep₁ _ fun acts => by rw [doInvoke_state]; exact hsteps.trans h⟩
  · exact Or.inr ⟨q, vm₁, B, X₁.warmed, X', hpost, hstep₁ _ fun acts => by rw [doInvoke_state]; exact hsteps⟩
end Calls
theorem vx_cls {s : State} {T : State} {vm₁ : Vm} {E : String} {k : ClassId} (hW : s.WarmedH vm₁) (h : (T.setVm vm₁).vm.findClass E = some k) : s.vm.findClass E = some k := by
  have h1 : vm₁.findClass E = some k := h
  rw [hW.alike.findClass] at h1
  exact h1
/-- the method's frame g, with q thrown over it -/
def vx_W (p : Program) (l : Launch) (e : Env) (R : Room) (s : State) (m : MethodId) (args : Array Value) (below : List Frame) (meth : Method) (c : Code) (H : Heap) (locs : List Loc) (cells slots : Nat) (Q : State → Prop) (g : JFrame) (q : Addr) : Prop :=
  ∀ T : State, T.heap = H → Stand p l e R s m args below meth c T locs cells slots → ∃ t, Steps p.tables e below ((T.setTop g).pushFrame (.throwing q)) t ∧ Q t
def vx_Run (p : Program) (l : Launch) (e : Env) (R : Room) (s : State) (m : MethodId) (args : Array Value) (below : List Frame) (meth : Method) (c : Code) (H : Heap) (locs : List Loc) (cells slots mc ms : Nat) (g : JFrame) (rest : List Value) (Qa : State → Outcome → State → Prop) (XC : String → State → State → Prop) (free : Addr → Prop) : Prop :=
  ∀ T : State, T.heap = H → Stand p l e R s m args below meth c T locs cells slots →
    (∃ (v : Option Value) (st₀ t T' : State) (L : List Loc), st₀.heap = H ∧ Stand p l e R s m args below meth c T' (locs ++ L) (cells + mc) (slots + ms) ∧ (∀ q ∈ L, free q.base) ∧ T'.heap = t.heap ∧ T'.vm = t.vm ∧ Qa st₀ (.returned v) t ∧
      Goes p e below T g T' { g with pc := g.pc + 3, stack := v.toList ++ rest }) ∨
    (∃ (q : Addr) (st₀ t T' : State) (L : List Loc) (E : String) (ce : Cell), st₀.heap = H ∧ Stand p l e R s m args below meth c T' (locs ++ L) (cells + mc) (slots + ms) ∧ (∀ z ∈ L, free z.base) ∧ T'.heap = t.heap ∧ T'.vm = t.vm ∧ XC E st₀ t ∧ t.heap[q]? = some ce ∧ ce.vm = .none ∧ s.vm.findClass E = some ce.cls ∧
      Steps p.tables e below (T.setTop g) ((T'.setTop { g with stack := rest }).pushFrame (.throwing q)))
def vx_X {S : Type} (px : S → Prop) (B : String → S → State → Prop) (A : Nat → Prop) : String → State → State → Prop := fun E st t => ∃ u : S, px u ∧ B E u t ∧ va_F A st t
section Runs
variable {p : Program} {l : Launch} {e : Env} {R : Room} {s : State} {m : MethodId} {args : Array Value} {below : List Frame} {meth : Method} {c : Code} {H : Heap} {locs : List Loc} {cells slots : Nat}
variable {y : MethodName} {bytes cc : ByteArray} {maxL nL mc ms n index : Nat} {ret : Option FieldType} {ws : List Cond} {rm : Room} {Pc : Array Value → State → Prop} {Qc : Array Value → State → Outcome → State → Prop} {XC : String → State → State → Prop} {free : Addr → Prop} {Ts : List Cond} {own C : String} {b : Addr} {As rest : List Value} {g : JFrame}
theorem vx_callBack (cb : CallB R s args own index y bytes maxL ret ws rm mc ms n) (hM : vx_Met l y ws rm Pc Qc XC mc ms free) (hbl : FrameBlind Pc) : vx_Back l R p e below s args y 3 8 (PreOf R mc ms Pc) (PostOf Qc mc ms free) (vx_Post XC mc ms free) := by
  obtain ⟨hrc, hrs, hfr, hlo, hws, hcw, -, hini, -⟩ := cb
  exact vx_back (bytes := bytes) (maxL := maxL) (ret := ret) hM hbl hrc hrs hfr hlo hws hcw (fun a' U hW => word_at hW (Or.inl (by first | rfl | simp [Cond.onTables, Cond.keeps, Cond.steady])) hini)
theorem vx_runV (S : CallFix p m c cc nL s args Ts own) (hM : vx_Met l y ws rm Pc Qc XC mc ms free) (cw : CallW R s args own C index y bytes maxL ret ws rm mc ms n) (hp : PreV s H C b Pc As)
    (hg : g.method = m) (hn : As.length = n) (hsize : g.locals.size = nL) (hstack : g.stack = As.reverse ++ .ref b :: rest) (hW : 2 * g.monitorRoom + (rest.map fun v => v.category).sum ≤ 8) (hdg : decode cc g.pc = .ok (.invokevirtual index, 3)) (hf : cells + mc ≤ R.cells ∧ slots + ms ≤ R.slots) :
    vx_Run p l e R s m args below meth c H locs cells slots mc ms g rest (Qc (Value.ref b :: As).toArray) XC free := by
  have hK : vx_Back l R p e below s args y 3 8 (PreOf R mc ms Pc) (PostOf Qc mc ms free) (vx_Post XC mc ms free) := vx_callBack cw.1 hM hp.1
  obtain ⟨⟨-, -, -, -, -, -, hcode, -, hy, hlen, hl⟩, hin, hse⟩ := cw
  obtain ⟨hx, hb, hml, ho, -⟩ := S
  obtain ⟨-, ⟨cellB, hcB, hoB, hclB⟩, hPc⟩ := hp
  intro T hT X
  rcases vx_callV X hx (C := C) (bytes := bytes) (maxL := maxL) (ret := ret) ho hl hin hse hcode hy hK (by rw [hT]; exact hcB) hoB hclB hg (hsize.trans hml.symm) (argsL := As) (rest := rest) (fun sig h => hn.trans (hlen sig h)) hstack hW (by rw [hb]; exact hdg)
    (fun vm₁ hW₁ => ⟨hf.1, hf.2, hPc (T.setVm vm₁) hT hW₁⟩) with ⟨v, vm₁, ⟨U', l2, c2, s2⟩, hW₁, X', ⟨g', mk, t, L, e1, e2, hq, h1, hL, h2, h3⟩, st⟩ | ⟨q, vm₁, ⟨U', l2, c2, s2⟩, hW₁, X', ⟨g', mk, t, L, E, ce, e1, e2, hq, hce, hcv, hcl, h1, hL, h2, h3⟩, st⟩
  · dsimp only [Pt.U, Pt.locs, Pt.cells, Pt.slots] at X' e1 e2 h1 h2 h3 st
    subst h1; subst h2; subst h3
    exact Or.inl ⟨v, (T.setVm vm₁).calling g' mk (Value.ref b :: As).toArray, t, U', L, hT, X', hL, e1, e2, hq, st⟩
  · dsimp only [Pt.U, Pt.locs, Pt.cells, Pt.slots] at X' e1 e2 h1 h2 h3 st hcl
    subst h1; subst h2; subst h3
    exact Or.inr ⟨q, (T.setVm vm₁).calling g' mk (Value.ref b :: As).toArray, t, U', L, E, ce, hT, X', hL, e1, e2, hq, hce, hcv, vx_cls hW₁ hcl, st⟩
theorem vx_runS (S : CallFix p m c cc nL s args Ts own) (hM : vx_Met l y ws rm Pc Qc XC mc ms free) (cw : CallB R s args own index y bytes maxL ret ws rm mc ms n ∧ (Cond.static y).before args s = true) (hp : PreS s H Pc As)
    (hg : g.method = m) (hn : As.length = n) (hsize : g.locals.size = nL) (hstack : g.stack = As.reverse ++ rest) (hW : 2 * g.monitorRoom + (rest.map fun v => v.category).sum ≤ 8) (hdg : decode cc g.pc = .ok (.invokestatic index, 3)) (hf : cells + mc ≤ R.cells ∧ slots + ms ≤ R.slots) :
    vx_Run p l e R s m args below meth c H locs cells slots mc ms g rest (Qc As.toArray) XC free := by
  have hK : vx_Back l R p e below s args y 3 8 (PreOf R mc ms Pc) (PostOf Qc mc ms free) (vx_Post XC mc ms free) := vx_callBack cw.1 hM hp.1
  obtain ⟨⟨-, -, -, -, -, -, hcode, hini, hy, hlen, hl⟩, hstt⟩ := cw
  obtain ⟨hx, hb, hml, ho, -⟩ := S
  intro T hT X
  rcases vx_callS X hx (bytes := bytes) (maxL := maxL) (ret := ret) ho hl hstt hini hcode hy hK hg (hsize.trans hml.symm) (argsL := As) (rest := rest) (fun sig h => hn.trans (hlen sig h)) hstack hW (by rw [hb]; exact hdg)
    (fun vm₁ hW₁ => ⟨hf.1, hf.2, hp.2 (T.setVm vm₁) hT hW₁⟩) with ⟨v, vm₁, ⟨U', l2, c2, s2⟩, hW₁, X', ⟨g', mk, t, L, e1, e2, hq, h1, hL, h2, h3⟩, st⟩ | ⟨q, vm₁, ⟨U', l2, c2, s2⟩, hW₁, X', ⟨g', mk, t, L, E, ce, e1, e2, hq, hce, hcv, hcl, h1, hL, h2, h3⟩, st⟩
  · dsimp only [Pt.U, Pt.locs, Pt.cells, Pt.slots] at X' e1 e2 h1 h2 h3 st
    subst h1; subst h2; subst h3
    exact Or.inl ⟨v, (T.setVm vm₁).calling g' mk As.toArray, t, U', L, hT, X', hL, e1, e2, hq, st⟩
  · dsimp only [Pt.U, Pt.locs, Pt.cells, Pt.slots] at X' e1 e2 h1 h2 h3 st hcl
    subst h1; subst h2; subst h3
    exact Or.inr ⟨q, (T.setVm vm₁).calling g' mk As.toArray, t, U', L, E, ce, hT, X', hL, e1, e2, hq, hce, hcv, vx_cls hW₁ hcl, st⟩
end Runs
section Rows
variable {p : Program} {l : Launch} {e : Env} {R : Room} {s : State} {m : MethodId} {args : Array Value} {below : List Frame} {meth : Method} {c : Code} {H : Heap} {locs : List Loc} {cells slots : Nat} {Q : State → Prop}
variable {mc ms : Nat} {free : Addr → Prop} {A0 A1 : Nat → Prop} {H0 : Heap} {a : Array Value} {pc : Nat} {ls : Array Slot} {st0 rest : List Value}
theorem vx_keep {st₀ t T' : State} {L : List Loc} (h0 : st₀.heap = H) (e1 : T'.heap = t.heap) (hS : va_S A0 H0 H locs) (hA : ∀ q, q < H.size → A1 q → A0 q) (hf : ∀ q, free q → A0 q) (hL : ∀ q ∈ L, free q.base) (hF : va_F A1 st₀ t) :
    H.size ≤ T'.heap.size ∧ (∀ q : Nat, q < H.size → ¬ A1 q → T'.heap[q]? = H[q]?) ∧ va_S A0 H0 T'.heap (locs ++ L) := by
  obtain ⟨hz, hk⟩ := hF
  rw [h0] at hz hk
  exact ⟨by rw [e1]; exact hz, fun q h1 h2 => by rw [e1]; exact hk q h1 h2,
    ⟨Nat.le_trans hS.1 (by rw [e1]; exact hz), fun q h1 h2 => by rw [e1, hk q (Nat.lt_of_lt_of_le h1 hS.1) (fun z => h2 (hA q (Nat.lt_of_lt_of_le h1 hS.1) z))]; exact hS.2.1 q h1 h2, fun q hq => by
      rcases List.mem_append.mp hq with h | h
      · exact hS.2.2 q h
      · exact hf _ (hL q h)⟩⟩
theorem vx_calli {S SX : Type} {post : Int32 → S → Prop} {px : SX → Prop} {B : S → State → Prop} {BX : String → SX → State → Prop} {AX : Nat → Prop} (hr : vx_Run p l e R s m args below meth c H locs cells slots mc ms (F0 m pc ls st0) rest (va_Qi post B A1 a) (vx_X px BX AX) free) (hS : va_S A0 H0 H locs) (hA : ∀ q, q < H.size → A1 q → A0 q) (hf : ∀ q, free q → A0 q) (hAX : ∀ q, q < H.size → AX q → A0 q)
    (kx : ∀ (E : String) (ce : Cell) (q9 : Addr) (u : SX) (t : State) (H1 : Heap) (locs1 : List Loc), t.heap = H1 → s.vm.Alike t.vm → px u → BX E u t → H.size ≤ H1.size → (∀ q : Nat, q < H.size → ¬ AX q → H1[q]? = H[q]?) → va_S A0 H0 H1 locs1 → H1[q9]? = some ce → ce.vm = .none → s.vm.findClass E = some ce.cls → vx_W p l e R s m args below meth c H1 locs1 (cells + mc) (slots + ms) Q (F0 m pc ls rest) q9)
    (kk : ∀ (r : Int32) (u : S) (t : State) (H1 : Heap) (locs1 : List Loc), t.heap = H1 → s.vm.Alike t.vm → post r u → B u t → H.size ≤ H1.size → (∀ q : Nat, q < H.size → ¬ A1 q → H1[q]? = H[q]?) → va_S A0 H0 H1 locs1 → W p l e R s m args below meth c H1 locs1 (cells + mc) (slots + ms) Q (F0 m (pc + 3) ls (.int r :: rest))) : W p l e R s m args below meth c H locs cells slots Q (F0 m pc ls st0) := by
  intro T hT X
  rcases hr T hT X with ⟨v, st₀, t, T', L, h0, X', hL, e1, e2, ⟨⟨r, u, hv, hp, hb⟩, hF⟩, st⟩ | ⟨q, st₀, t, T', L, E, ce, h0, X', hL, e1, e2, ⟨u, hp, hb, hF⟩, hce, hcv, hcl, st⟩
  · cases hv
    obtain ⟨k1, k2, k3⟩ := vx_keep h0 e1 hS hA hf hL hF
    obtain ⟨t2, a1, b1⟩ := kk r u t T'.heap (locs ++ L) e1.symm (by rw [← e2]; exact X'.warmed.alike) hp hb k1 k2 k3 T' rfl X'
    exact ⟨t2, st t2 a1, b1⟩
  · obtain ⟨k1, k2, k3⟩ := vx_keep h0 e1 hS hAX hf hL hF
    obtain ⟨t2, a1, b1⟩ := kx E ce q u t T'.heap (locs ++ L) e1.symm (by rw [← e2]; exact X'.warmed.alike) hp hb k1 k2 k3 (by rw [e1]; exact hce) hcv hcl T' rfl X'
    exact ⟨t2, st.trans a1, b1⟩
theorem vx_calll {S SX : Type} {post : Int64 → S → Prop} {px : SX → Prop} {B : S → State → Prop} {BX : String → SX → State → Prop} {AX : Nat → Prop} (hr : vx_Run p l e R s m args below meth c H locs cells slots mc ms (F0 m pc ls st0) rest (va_Ql post B A1 a) (vx_X px BX AX) free) (hS : va_S A0 H0 H locs) (hA : ∀ q, q < H.size → A1 q → A0 q) (hf : ∀ q, free q → A0 q) (hAX : ∀ q, q < H.size → AX q → A0 q)
    (kx : ∀ (E : String) (ce : Cell) (q9 : Addr) (u : SX) (t : State) (H1 : Heap) (locs1 : List Loc), t.heap = H1 → s.vm.Alike t.vm → px u → BX E u t → H.size ≤ H1.size → (∀ q : Nat, q < H.size → ¬ AX q → H1[q]? = H[q]?) → va_S A0 H0 H1 locs1 → H1[q9]? = some ce → ce.vm = .none → s.vm.findClass E = some ce.cls → vx_W p l e R s m args below meth c H1 locs1 (cells + mc) (slots + ms) Q (F0 m pc ls rest) q9)
    (kk : ∀ (r : Int64) (u : S) (t : State) (H1 : Heap) (locs1 : List Loc), t.heap = H1 → s.vm.Alike t.vm → post r u → B u t → H.size ≤ H1.size → (∀ q : Nat, q < H.size → ¬ A1 q → H1[q]? = H[q]?) → va_S A0 H0 H1 locs1 → W p l e R s m args below meth c H1 locs1 (cells + mc) (slots + ms) Q (F0 m (pc + 3) ls (.long r :: rest))) : W p l e R s m args below meth c H locs cells slots Q (F0 m pc ls st0) := by
  intro T hT X
  rcases hr T hT X with ⟨v, st₀, t, T', L, h0, X', hL, e1, e2, ⟨⟨r, u, hv, hp, hb⟩, hF⟩, st⟩ | ⟨q, st₀, t, T', L, E, ce, h0, X', hL, e1, e2, ⟨u, hp, hb, hF⟩, hce, hcv, hcl, st⟩
  · cases hv
    obtain ⟨k1, k2, k3⟩ := vx_keep h0 e1 hS hA hf hL hF
    obtain ⟨t2, a1, b1⟩ := kk r u t T'.heap (locs ++ L) e1.symm (by rw [← e2]; exact X'.warmed.alike) hp hb k1 k2 k3 T' rfl X'
    exact ⟨t2, st t2 a1, b1⟩
  · obtain ⟨k1, k2, k3⟩ := vx_keep h0 e1 hS hAX hf hL hF
    obtain ⟨t2, a1, b1⟩ := kx E ce q u t T'.heap (locs ++ L) e1.symm (by rw [← e2]; exact X'.warmed.alike) hp hb k1 k2 k3 (by rw [e1]; exact hce) hcv hcl T' rfl X'
    exact ⟨t2, st.trans a1, b1⟩
theorem vx_callf {S SX : Type} {post : UInt32 → S → Prop} {px : SX → Prop} {B : S → State → Prop} {BX : String → SX → State → Prop} {AX : Nat → Prop} (hr : vx_Run p l e R s m args below meth c H locs cells slots mc ms (F0 m pc ls st0) rest (va_Qf post B A1 a) (vx_X px BX AX) free) (hS : va_S A0 H0 H locs) (hA : ∀ q, q < H.size → A1 q → A0 q) (hf : ∀ q, free q → A0 q) (hAX : ∀ q, q < H.size → AX q → A0 q)
    (kx : ∀ (E : String) (ce : Cell) (q9 : Addr) (u : SX) (t : State) (H1 : Heap) (locs1 : List Loc), t.heap = H1 → s.vm.Alike t.vm → px u → BX E u t → H.size ≤ H1.size → (∀ q : Nat, q < H.size → ¬ AX q → H1[q]? = H[q]?) → va_S A0 H0 H1 locs1 → H1[q9]? = some ce → ce.vm = .none → s.vm.findClass E = some ce.cls → vx_W p l e R s m args below meth c H1 locs1 (cells + mc) (slots + ms) Q (F0 m pc ls rest) q9)
    (kk : ∀ (r : UInt32) (u : S) (t : State) (H1 : Heap) (locs1 : List Loc), t.heap = H1 → s.vm.Alike t.vm → post r u → B u t → H.size ≤ H1.size → (∀ q : Nat, q < H.size → ¬ A1 q → H1[q]? = H[q]?) → va_S A0 H0 H1 locs1 → W p l e R s m args below meth c H1 locs1 (cells + mc) (slots + ms) Q (F0 m (pc + 3) ls (.float r :: rest))) : W p l e R s m args below meth c H locs cells slots Q (F0 m pc ls st0) := by
  intro T hT X
  rcases hr T hT X with ⟨v, st₀, t, T', L, h0, X', hL, e1, e2, ⟨⟨r, u, hv, hp, hb⟩, hF⟩, st⟩ | ⟨q, st₀, t, T', L, E, ce, h0, X', hL, e1, e2, ⟨u, hp, hb, hF⟩, hce, hcv, hcl, st⟩
  · cases hv
    obtain ⟨k1, k2, k3⟩ := vx_keep h0 e1 hS hA hf hL hF
    obtain ⟨t2, a1, b1⟩ := kk r u t T'.heap (locs ++ L) e1.symm (by rw [← e2]; exact X'.warmed.alike) hp hb k1 k2 k3 T' rfl X'
    exact ⟨t2, st t2 a1, b1⟩
  · obtain ⟨k1, k2, k3⟩ := vx_keep h0 e1 hS hAX hf hL hF
    obtain ⟨t2, a1, b1⟩ := kx E ce q u t T'.heap (locs ++ L) e1.symm (by rw [← e2]; exact X'.warmed.alike) hp hb k1 k2 k3 (by rw [e1]; exact hce) hcv hcl T' rfl X'
    exact ⟨t2, st.trans a1, b1⟩
theorem vx_calld {S SX : Type} {post : UInt64 → S → Prop} {px : SX → Prop} {B : S → State → Prop} {BX : String → SX → State → Prop} {AX : Nat → Prop} (hr : vx_Run p l e R s m args below meth c H locs cells slots mc ms (F0 m pc ls st0) rest (va_Qd post B A1 a) (vx_X px BX AX) free) (hS : va_S A0 H0 H locs) (hA : ∀ q, q < H.size → A1 q → A0 q) (hf : ∀ q, free q → A0 q) (hAX : ∀ q, q < H.size → AX q → A0 q)
    (kx : ∀ (E : String) (ce : Cell) (q9 : Addr) (u : SX) (t : State) (H1 : Heap) (locs1 : List Loc), t.heap = H1 → s.vm.Alike t.vm → px u → BX E u t → H.size ≤ H1.size → (∀ q : Nat, q < H.size → ¬ AX q → H1[q]? = H[q]?) → va_S A0 H0 H1 locs1 → H1[q9]? = some ce → ce.vm = .none → s.vm.findClass E = some ce.cls → vx_W p l e R s m args below meth c H1 locs1 (cells + mc) (slots + ms) Q (F0 m pc ls rest) q9)
    (kk : ∀ (r : UInt64) (u : S) (t : State) (H1 : Heap) (locs1 : List Loc), t.heap = H1 → s.vm.Alike t.vm → post r u → B u t → H.size ≤ H1.size → (∀ q : Nat, q < H.size → ¬ A1 q → H1[q]? = H[q]?) → va_S A0 H0 H1 locs1 → W p l e R s m args below meth c H1 locs1 (cells + mc) (slots + ms) Q (F0 m (pc + 3) ls (.double r :: rest))) : W p l e R s m args below meth c H locs cells slots Q (F0 m pc ls st0) := by
  intro T hT X
  rcases hr T hT X with ⟨v, st₀, t, T', L, h0, X', hL, e1, e2, ⟨⟨r, u, hv, hp, hb⟩, hF⟩, st⟩ | ⟨q, st₀, t, T', L, E, ce, h0, X', hL, e1, e2, ⟨u, hp, hb, hF⟩, hce, hcv, hcl, st⟩
  · cases hv
    obtain ⟨k1, k2, k3⟩ := vx_keep h0 e1 hS hA hf hL hF
    obtain ⟨t2, a1, b1⟩ := kk r u t T'.heap (locs ++ L) e1.symm (by rw [← e2]; exact X'.warmed.alike) hp hb k1 k2 k3 T' rfl X'
    exact ⟨t2, st t2 a1, b1⟩
  · obtain ⟨k1, k2, k3⟩ := vx_keep h0 e1 hS hAX hf hL hF
    obtain ⟨t2, a1, b1⟩ := kx E ce q u t T'.heap (locs ++ L) e1.symm (by rw [← e2]; exact X'.warmed.alike) hp hb k1 k2 k3 (by rw [e1]; exact hce) hcv hcl T' rfl X'
    exact ⟨t2, st.trans a1, b1⟩
theorem vx_callv {S SX : Type} {post : S → Prop} {px : SX → Prop} {B : S → State → Prop} {BX : String → SX → State → Prop} {AX : Nat → Prop} (hr : vx_Run p l e R s m args below meth c H locs cells slots mc ms (F0 m pc ls st0) rest (va_Qv post B A1 a) (vx_X px BX AX) free) (hS : va_S A0 H0 H locs) (hA : ∀ q, q < H.size → A1 q → A0 q) (hf : ∀ q, free q → A0 q) (hAX : ∀ q, q < H.size → AX q → A0 q)
    (kx : ∀ (E : String) (ce : Cell) (q9 : Addr) (u : SX) (t : State) (H1 : Heap) (locs1 : List Loc), t.heap = H1 → s.vm.Alike t.vm → px u → BX E u t → H.size ≤ H1.size → (∀ q : Nat, q < H.size → ¬ AX q → H1[q]? = H[q]?) → va_S A0 H0 H1 locs1 → H1[q9]? = some ce → ce.vm = .none → s.vm.findClass E = some ce.cls → vx_W p l e R s m args below meth c H1 locs1 (cells + mc) (slots + ms) Q (F0 m pc ls rest) q9)
    (kk : ∀ (u : S) (t : State) (H1 : Heap) (locs1 : List Loc), t.heap = H1 → s.vm.Alike t.vm → post u → B u t → H.size ≤ H1.size → (∀ q : Nat, q < H.size → ¬ A1 q → H1[q]? = H[q]?) → va_S A0 H0 H1 locs1 → W p l e R s m args below meth c H1 locs1 (cells + mc) (slots + ms) Q (F0 m (pc + 3) ls (rest))) : W p l e R s m args below meth c H locs cells slots Q (F0 m pc ls st0) := by
  intro T hT X
  rcases hr T hT X with ⟨v, st₀, t, T', L, h0, X', hL, e1, e2, ⟨⟨u, hv, hp, hb⟩, hF⟩, st⟩ | ⟨q, st₀, t, T', L, E, ce, h0, X', hL, e1, e2, ⟨u, hp, hb, hF⟩, hce, hcv, hcl, st⟩
  · cases hv
    obtain ⟨k1, k2, k3⟩ := vx_keep h0 e1 hS hA hf hL hF
    obtain ⟨t2, a1, b1⟩ := kk u t T'.heap (locs ++ L) e1.symm (by rw [← e2]; exact X'.warmed.alike) hp hb k1 k2 k3 T' rfl X'
    exact ⟨t2, st t2 a1, b1⟩
  · obtain ⟨k1, k2, k3⟩ := vx_keep h0 e1 hS hAX hf hL hF
    obtain ⟨t2, a1, b1⟩ := kx E ce q u t T'.heap (locs ++ L) e1.symm (by rw [← e2]; exact X'.warmed.alike) hp hb k1 k2 k3 (by rw [e1]; exact hce) hcv hcl T' rfl X'
    exact ⟨t2, st.trans a1, b1⟩
/-- caught by the row x of this method's table; the rows ahead don't take it -/
theorem vx_catch {own name : String} {E : String} {ce : Cell} {q : Addr} (hown : s.vm.findClass own = some m.cls) (pre : List ExceptionTableEntry) (x : ExceptionTableEntry) (suf : List ExceptionTableEntry) (hsplit : c.exceptionTable.toList = pre ++ x :: suf)
    (hpass : ∀ z ∈ pre, covers z pc = false ∨ (z.catchType ≠ 0 ∧ ∃ nm : String, (Cond.classLink own z.catchType nm).before args s = true ∧ va_Nc E nm s)) (hx : covers x pc = true) (h0 : x.catchType ≠ 0)
    (hlink : (Cond.classLink own x.catchType name).before args s = true) (hcast : (Cond.castable E name).before args s = true) (hcell : H[q]? = some ce) (hv : ce.vm = .none) (hcl : s.vm.findClass E = some ce.cls)
    (kk : W p l e R s m args below meth c H locs cells slots Q (F0 m x.handlerPc ls [.ref q])) : vx_W p l e R s m args below meth c H locs cells slots Q (F0 m pc ls rest) q := by
  intro T hT X
  have hpl : e.platform.magicAccessors = ({} : Platform).magicAccessors := by rw [X.admits.platform]
  obtain ⟨c3, c4, hc3, hc4, hasg⟩ := Cond.castable_spec hcast
  cases Option.some.inj (hc3.symm.trans hcl)
  obtain ⟨c5, hc5, hcl5⟩ := Cond.classLink_spec hown hlink e.platform hpl
  cases Option.some.inj (hc4.symm.trans hc5)
  obtain ⟨vm', X', st⟩ := X.thenCaughtThrough q (g := F0 m pc ls rest) rfl (Steps.refl _) (by rw [hT]; exact hcell) (by rw [hv]; rfl) (by obtain ⟨k9, h9, -⟩ := Vm.findClass_spec hcl; exact ⟨k9, h9⟩) pre x suf hsplit
    (fun z hz => by
      rcases hpass z hz with h | ⟨hz0, nm, hl1, hn1⟩
      · exact Or.inl h
      · obtain ⟨c6, hc6, hcl6⟩ := Cond.classLink_spec hown hl1 e.platform hpl
        obtain ⟨a8, b8, h1, h2, h3⟩ := hn1
        cases Option.some.inj (h1.symm.trans hcl)
        cases Option.some.inj (h2.symm.trans hc6)
        exact Or.inr ⟨hz0, _, hcl6, h3⟩) hx (Or.inr ⟨h0, c4, hcl5, hasg⟩)
  obtain ⟨t, a1, b1⟩ := kk (T.setVm vm') hT X'
  exact ⟨t, st.trans a1, b1⟩
end Rows
section Ends
variable {p : Program} {l : Launch} {e : Env} {R : Room} {s : State} {m : MethodId} {args : Array Value} {below : List Frame} {meth : Method} {c : Code} {H : Heap} {locs : List Loc} {cells slots : Nat} {Q : State → Prop}
variable {mc ms : Nat} {free : Addr → Prop} {A0 A1 : Nat → Prop} {H0 : Heap} {a : Array Value} {ls : Array Slot} {st0 rest : List Value}
variable {Qc : Array Value → State → Outcome → State → Prop} {XC : String → State → State → Prop}
/-- what a body that may throw owes at its end -/
def vx_MQ (below : List Frame) (Qc : Array Value → State → Outcome → State → Prop) (XC : String → State → State → Prop) (a : Array Value) (s : State) (mc ms : Nat) (free : Addr → Prop) : State → Prop := fun t =>
  ∃ o, t.status = .running ∧ Ended t below o ∧ vx_Q Qc XC mc ms free a s o t
theorem vx_ret {g : JFrame} {mc ms : Nat} (k : W p l e R s m args below meth c H locs cells slots (MQ below Qc args s mc ms free) g) : W p l e R s m args below meth c H locs cells slots (vx_MQ below Qc XC args s mc ms free) g := by
  intro T hT X
  obtain ⟨t, a1, o, b1, b2, b3, b4⟩ := k T hT X
  exact ⟨t, a1, o, b1, b2, Or.inl ⟨b3, b4⟩⟩
/-- not caught here: it goes on to the caller -/
theorem vx_widen {g : JFrame} {q : Addr} {k n : Nat} (h1 : cells ≤ k) (h2 : slots ≤ n) (kk : vx_W p l e R s m args below meth c H locs k n Q g q) : vx_W p l e R s m args below meth c H locs cells slots Q g q := fun T hT X => kk T hT (stand_widen X h1 h2)
theorem vx_out {pc : Nat} {E : String} {ce : Cell} {q : Addr} {mc ms : Nat} (hout : ∀ x ∈ c.exceptionTable.toList, covers x pc = false) (hlocks : meth.locks = false) (hcell : H[q]? = some ce) (hv : ce.vm = .none) (hcl : s.vm.findClass E = some ce.cls)
    (hx : ∀ t : State, t.heap = H → s.vm.Alike t.vm → XC E s t) (hf : ∀ z ∈ locs, free z.base) (hc : cells ≤ mc) (hs : slots ≤ ms) :
    vx_W p l e R s m args below meth c H locs cells slots (vx_MQ below Qc XC args s mc ms free) (F0 m pc ls rest) q := by
  intro T hT X
  obtain ⟨st1, hrun, hend, hW, hsm⟩ := X.leaveThrown q (g := F0 m pc ls rest) rfl rfl rfl hout hlocks
  have hcell9 : (T.setFrames (.throwing q :: below)).heap[q]? = some ce := by
    show T.heap[q]? = some ce
    rw [hT]; exact hcell
  exact ⟨_, st1, .threw q, hrun, hend, Or.inr ⟨q, rfl, E, ce, locs, hx _ hT hW.alike, hcell9, hv, hcl, hW, hsm.mono hc hs, hf⟩⟩
theorem vx_frame {U : State} {k n : Nat} (h : s.sameButNew ({ U with vm := s.vm } : State) locs k n) : s.heap.size ≤ U.heap.size ∧ ∀ q : Nat, q < s.heap.size → (∀ z ∈ locs, z.base ≠ q) → U.heap[q]? = s.heap[q]? := by
  obtain ⟨-, h2, -, -, -, h6⟩ := h
  refine ⟨h2, fun q hq hz => ?_⟩
  obtain ⟨c9, e1, e2, e3, e4⟩ := h6 q _ (Array.getElem?_eq_getElem hq)
  have hs : c9.slots = (s.heap[q]).slots := Array.ext_getElem? fun i => e4 i fun hm => hz _ hm rfl
  have h9 : c9 = s.heap[q] := by
    rw [hs] at e2
    exact e2
  have e5 : U.heap[q]? = some c9 := e1
  rw [e5, h9, Array.getElem?_eq_getElem hq]
end Ends
section Bodies
variable {l : Launch}
theorem vx_ofW {y : MethodName} {ws ws' : List Cond} {rm : Room} {Pc : Array Value → State → Prop} {Qc : Array Value → State → Outcome → State → Prop} {XC : String → State → State → Prop} {mc ms : Nat} {free : Addr → Prop} {cc : ByteArray} {maxL : Nat} {ret : Option FieldType}
    (hy : plainName y.cls = true) (hw : ws = Cond.code y cc maxL ret :: ws')
    (body : ∀ p e s m args below meth c s₁, BodyLoose p l y (headSpec ws rm) cc maxL ret e s m args below meth c s₁ → c.maxLocals = maxL → (∀ x ∈ c.exceptionTable.toList, False) → Pc args s →
      W p l e (headSpec ws rm).room s m args below meth c s.heap [] 0 0 (vx_MQ below Qc XC args s mc ms free) (entryFrame m args maxL)) : vx_Met l y ws rm Pc Qc XC mc ms free := by
  refine MetFree.of_bodyS (code := cc) (maxLocals := maxL) (ret := ret) hy ?_ ?_
  · intro args s m h hn
    obtain ⟨meth, c, h1, h2, h3, h4, h5, h6, -, -⟩ := Cond.code_spec hn (atoms_spec (ws := ws) h _ (by rw [hw]; exact List.mem_cons_self))
    exact ⟨meth, c, h1, h2, h3, h4, h5, h6⟩
  · intro p e s m args below meth c s₁ B hml hP _
    have hh0 : s₁.heap = s.heap := by rw [B.state]; rfl
    have ht : ∀ x ∈ c.exceptionTable.toList, False := by
      obtain ⟨meth9, c9, h1, h2, -, -, -, -, h7, -⟩ := Cond.code_spec B.named (atoms_spec (ws := ws) B.pre _ (by rw [hw]; exact List.mem_cons_self))
      cases Option.some.inj (h1.symm.trans B.method)
      cases Option.some.inj (h2.symm.trans (Stand.of_body B).code)
      intro x hx
      rw [Array.isEmpty_iff.mp h7] at hx
      cases hx
    obtain ⟨t, a1, o, b1, b2, b3⟩ := body p e s m args below meth c s₁ B hml ht hP s₁ hh0 (Stand.of_body B)
    exact ⟨t, o, a1, b1, b2, b3⟩
/-- the table of a body with handlers -/
theorem vx_table {p : Program} {x y : MethodName} {S : Spec} {cc bytes : ByteArray} {maxL maxL' : Nat} {ret ret' : Option FieldType} {e : Env} {s s₁ : State} {m : MethodId} {args : Array Value} {below : List Frame} {meth : Method} {c : Code} {hh : List (Nat × Nat × Nat × Nat)}
    (B : BodyLoose p l y S cc maxL ret e s m args below meth c s₁) (h : (Cond.codeWith y bytes maxL' ret' hh).before args s = true) : c.exceptionTable.toList = tableOf hh := by
  obtain ⟨m9, meth9, c9, hn9, h1, h2, -, -, h6, -⟩ := Cond.codeWith_spec h
  cases Option.some.inj (hn9.symm.trans B.named)
  cases Option.some.inj (h1.symm.trans B.method)
  cases Option.some.inj (h2.symm.trans (Stand.of_body B).code)
  rw [← h6, table_eq]
end Bodies
end VXA
section VXH
variable {p : Program} {l : Launch} {e : Env} {R : Room} {s : State} {m : MethodId} {args : Array Value} {below : List Frame} {meth : Method} {c : Code} {T : State} {H : Heap} {locs : List Loc} {cells slots : Nat}
theorem vx_callVW (X : Stand p l e R s m args below meth c T locs cells slots) (hexec : p.tables.exec = Jvm.exec) {own C : String} {index : Nat} {y : MethodName} {bytes : ByteArray} {maxL : Nat} {ret : Option FieldType} {hh : List (Nat × Nat × Nat × Nat)}
    (hown : s.vm.findClass own = some m.cls) (hlink : (Cond.methodLink own index y).before args s = true) (hinst : (Cond.instanceMethod y).before args s = true) (hsel : (Cond.selects C y y).before args s = true)
    (hcode : (Cond.codeWith y bytes maxL ret hh).before args s = true) (hy : y.cls ≠ "java/lang/invoke/MethodHandle" ∧ y.cls ≠ "java/lang/invoke/VarHandle")
    {W9 : Nat} {Pre : Pt → Array Value → Prop} {Post : Pt → Array Value → Option Value → Pt → Prop} (hK : Back l R p e below s args y 3 W9 Pre Post)
    {b : Addr} {cellB : Cell} (hcell : T.heap[b]? = some cellB) (hobj : cellB.vm.isStatics = false) (hcls : s.vm.findClass C = some cellB.cls)
    {g : JFrame} (hg : g.method = m) (hsize : g.locals.size = c.maxLocals) {argsL rest : List Value} (hlen : ∀ sig, parseMethodDescriptor y.desc = some sig → argsL.length = sig.parameters.length)
    (hstack : g.stack = argsL.reverse ++ .ref b :: rest) (hW : 2 * g.monitorRoom + (rest.map fun v => v.category).sum ≤ W9) (hdg : decode c.code g.pc = .ok (.invokevirtual index, 3))
    (hpre : ∀ vm₁, s.WarmedH vm₁ → Pre ⟨T.setVm vm₁, locs, cells, slots⟩ (Value.ref b :: argsL).toArray) :
    ∃ (v : Option Value) (vm₁ : Vm) (B : Pt), s.WarmedH vm₁ ∧ Stand p l e R s m args below meth c B.U B.locs B.cells B.slots ∧ Post ⟨T.setVm vm₁, locs, cells, slots⟩ (Value.ref b :: argsL).toArray v B ∧
      ∀ target, Steps p.tables e below (B.U.setTop { g with pc := g.pc + 3, stack := v.toList ++ rest }) target → Steps p.tables e below (T.setTop g) target := by
  obtain ⟨mk, methM, hnamed, hmethM, hstM, habM⟩ := Cond.instanceMethod_spec hinst
  obtain ⟨m8, methM', cM, hn8, hmethM', -, -, -, -, -, -, hsigM⟩ := Cond.codeWith_spec hcode
  cases Option.some.inj (hn8.symm.trans hnamed)
  cases hmethM.symm.trans hmethM'
  obtain ⟨c2, r2, m2, q1, q2, q3, q4, kP, hkP, hkPi⟩ := Cond.selects_spec hsel
  cases hcls.symm.trans q1
  cases (State.methodFound?_of_named hnamed hy).symm.trans q2
  cases hnamed.symm.trans q3
  have hselP : selectMethod e.platform s.vm cellB.cls mk = .method mk := by rw [Launch.admits_selectMethod X.admits]; exact q4
  obtain ⟨vm₁, X₁, hstep₁⟩ := X.invokevirtual hexec hown hlink hnamed hmethM hstM hkP hkPi hy (a := b) (cell := cellB) hcell
    (fun z h => by rw [h] at hobj; cases hobj) hselP hmethM habM hkP hkPi (g := g) hg (argsL := argsL) (rest := rest) (hlen _ hsigM) hstack hdg
  obtain ⟨v, B, X', hpost, hsteps⟩ := hK m meth c ⟨T.setVm vm₁, locs, cells, slots⟩ { g with stack := rest } (.invokevirtual index) mk (Value.ref b :: argsL).toArray X₁ hg hsize hdg hW (X₁.named hnamed) (hpre vm₁ X₁.warmed)
  exact ⟨v, vm₁, B, X₁.warmed, X', hpost, fun target h => hstep₁ _ fun acts => by rw [doInvoke_state]; exact hsteps.trans h⟩
abbrev vx_CVW (R : Room) (s : State) (args : Array Value) (own C : String) (index : Nat) (y : MethodName) (bytes : ByteArray) (maxL : Nat) (ret : Option FieldType) (hh : List (Nat × Nat × Nat × Nat)) (ws : List Cond) (rm : Room) (mc ms n : Nat) : Prop :=
  (rm.cells = mc ∧ rm.slots = ms ∧ rm.frames + 1 ≤ R.frames ∧ 8 + (maxL + 11) + rm.locals ≤ R.locals ∧ (∀ w ∈ ws, ∀ (a' : Array Value) (U : State), s.WarmedH U.vm → w.before a' U = true) ∧ Cond.codeWith y bytes maxL ret hh ∈ ws) ∧
  (Cond.codeWith y bytes maxL ret hh).before args s = true ∧ (Cond.initialized y.cls).before args s = true ∧ (y.cls ≠ "java/lang/invoke/MethodHandle" ∧ y.cls ≠ "java/lang/invoke/VarHandle") ∧
  (∀ sig, parseMethodDescriptor y.desc = some sig → n = sig.parameters.length) ∧ (Cond.methodLink own index y).before args s = true ∧ (Cond.instanceMethod y).before args s = true ∧ (Cond.selects C y y).before args s = true
theorem vx_cwVW {own C : String} {index maxL mc ms : Nat} {y : MethodName} {bytes : ByteArray} {ret : Option FieldType} {hh : List (Nat × Nat × Nat × Nat)} {Ts ws ws' : List Cond} {rm : Room} (n : Nat) (ht : ∀ w ∈ Ts, w.before args s = true) (hT : GoodIn Ts (wsV own index C y ws)) (hw : ws = Cond.codeWith y bytes maxL ret hh :: ws') (hrc : rm.cells = mc) (hrs : rm.slots = ms)
    (hd : y.cls = C ∧ y.cls ≠ "java/lang/invoke/MethodHandle" ∧ y.cls ≠ "java/lang/invoke/VarHandle" ∧ (parseMethodDescriptor y.desc).map (fun d => d.parameters.length) = some n) (hR : rm.frames + 1 ≤ R.frames ∧ 8 + (maxL + 11) + rm.locals ≤ R.locals) :
    vx_CVW R s args own C index y bytes maxL ret hh ws rm mc ms n := by
  obtain ⟨hC, hd⟩ := hd
  subst hC
  have ok : ∀ w ∈ wsV own index y.cls y ws, w.before args s = true := fun w h => ht w (hT w h).1
  have hG : GoodIn Ts ws := fun w h => hT w (by unfold wsV; exact List.mem_append_right _ h)
  have hc : Cond.codeWith y bytes maxL ret hh ∈ ws := by rw [hw]; exact List.mem_cons_self
  refine ⟨⟨hrc, hrs, hR.1, hR.2, pay_in ht hG, hc⟩, ht _ (hG _ hc).1, ok _ (by simp [wsV]), ⟨hd.1, hd.2.1⟩, fun sig h => ?_, ok _ (by simp [wsV]), ok _ (by simp [wsV]), ok _ (by simp [wsV])⟩
  have h2 := hd.2.2
  rw [h] at h2
  exact (Option.some.inj h2).symm
theorem vx_runVW {y : MethodName} {bytes cc : ByteArray} {maxL nL mc ms n index : Nat} {ret : Option FieldType} {hh : List (Nat × Nat × Nat × Nat)} {ws : List Cond} {rm : Room} {Pc : Array Value → State → Prop} {Qc : Array Value → State → Outcome → State → Prop} {free : Addr → Prop} {Ts : List Cond} {own C : String} {b : Addr} {As rest : List Value} {g : JFrame}
    (S : CallFix p m c cc nL s args Ts own) (hM : Met l y ws rm Pc Qc mc ms free) (cw : vx_CVW R s args own C index y bytes maxL ret hh ws rm mc ms n) (hp : PreV s H C b Pc As)
    (hg : g.method = m) (hn : As.length = n) (hsize : g.locals.size = nL) (hstack : g.stack = As.reverse ++ .ref b :: rest) (hW : 2 * g.monitorRoom + (rest.map fun v => v.category).sum ≤ 8) (hdg : decode cc g.pc = .ok (.invokevirtual index, 3)) (hf : cells + mc ≤ R.cells ∧ slots + ms ≤ R.slots) :
    va_Run p l e R s m args below meth c H locs cells slots mc ms g rest (Qc (Value.ref b :: As).toArray) free := by
  obtain ⟨⟨hrc, hrs, hfr, hlo, hws, hcw⟩, hcode, hini, hy, hlen, hl, hin, hse⟩ := cw
  have hK : Back l R p e below s args y 3 8 (PreOf R mc ms Pc) (PostOf Qc mc ms free) := va_backW (hh := hh) (bytes := bytes) (maxL := maxL) (ret := ret) hM hp.1 hrc hrs hfr hlo hws hcw (fun a' U hW => word_at hW (Or.inl (by first | rfl | simp [Cond.onTables, Cond.keeps, Cond.steady])) hini)
  obtain ⟨hx, hb, hml, ho, -⟩ := S
  obtain ⟨-, ⟨cellB, hcB, hoB, hclB⟩, hPc⟩ := hp
  intro T hT X
  obtain ⟨v, vm₁, ⟨U', l2, c2, s2⟩, hW₁, X', ⟨g', mk, t, L, e1, e2, hq, h1, hL, h2, h3⟩, st⟩ := vx_callVW X hx (C := C) (hh := hh) (bytes := bytes) (maxL := maxL) (ret := ret) ho hl hin hse hcode hy hK (by rw [hT]; exact hcB) hoB hclB hg (hsize.trans hml.symm) (argsL := As) (rest := rest) (fun sig h => hn.trans (hlen sig h)) hstack hW (by rw [hb]; exact hdg)
    (fun vm₁ hW₁ => ⟨hf.1, hf.2, hPc (T.setVm vm₁) hT hW₁⟩)
  dsimp only [Pt.U, Pt.locs, Pt.cells, Pt.slots] at X' e1 e2 h1 h2 h3 st
  subst h1; subst h2; subst h3
  exact ⟨v, (T.setVm vm₁).calling g' mk (Value.ref b :: As).toArray, t, U', L, hT, X', hL, e1, e2, hq, st⟩
end VXH
section VXK2
variable {p : Program} {l : Launch} {e : Env} {R : Room} {s : State} {m : MethodId} {args : Array Value} {below : List Frame} {meth : Method} {c : Code} {H : Heap} {locs : List Loc} {cells slots : Nat} {Q : State → Prop}
variable {ls : Array Slot} {rest : List Value} {D : va_G} {cl : List vw_C} {tys : List (ClassId × FieldType)} {ws : va_W}
theorem vx_athrow {cc : ByteArray} {pc : Nat} (hexec : p.tables.exec = Jvm.exec) (hb : c.code = cc) {q : Addr} (hdg : decode cc pc = .ok (.athrow, 1)) (k : vx_W p l e R s m args below meth c H locs cells slots Q (F0 m pc ls rest) q) : W p l e R s m args below meth c H locs cells slots Q (F0 m pc ls (.ref q :: rest)) := by
  intro T hT X
  obtain ⟨t, st, hq⟩ := k T hT X
  refine ⟨t, ?_, hq⟩
  have hdg' : decode c.code pc = .ok (.athrow, 1) := by rw [hb]; exact hdg
  jvm_step X.here [X.here.top, hexec, hdg', athrow.wp_sem]
  exact st
end VXK2
end
section
/-! the small machine: frames and cells as plain lists and functions; here its plain steps (no cell is looked at) -/
abbrev zL : Type := List (Nat × Value)
def zlk {α : Type} : List (Nat × α) → Nat → Option α
  | [], _ => none
  | (a, x) :: t, k => if a = k then some x else zlk t k
theorem zlk_mem {α : Type} : ∀ {l : List (Nat × α)} {k : Nat} {x : α}, zlk l k = some x → (k, x) ∈ l
  | [], _, _, h => by cases h
  | (a, y) :: t, k, x, h => by
    unfold zlk at h
    split at h
    · next e => cases h; subst e; exact List.mem_cons_self
    · exact List.mem_cons_of_mem _ (zlk_mem h)
def zst1 (lv : zL) (i : Nat) (v : Value) : zL := (i, v) :: lv.filter (fun q => !(q.1 == i) && !(q.1 + 1 == i && q.2.category == 2))
def zst2 (lv : zL) (i : Nat) (v : Value) : zL := (i, v) :: lv.filter (fun q => !(q.1 == i) && (!(q.1 == i + 1) && !(q.1 + 1 == i && q.2.category == 2)))
def ztg (pc : Nat) (off : Int) : Nat := ((pc : Int) + off).toNat
def ztgok (pc : Nat) (off : Int) : Bool := decide (0 ≤ (pc : Int) + off)
theorem ztg_eq {pc : Nat} {off : Int} (h : ztgok pc off = true) : (pc : Int) + off = ((ztg pc off : Nat) : Int) := (Int.toNat_of_nonneg (of_decide_eq_true h)).symm
/-- how long an instruction is (a switch tells its own) -/
def zlen : Instr → Nat
  | .bipush _ => 2
  | .sipush _ => 3
  | .iload _ => 2
  | .lload _ => 2
  | .aload _ => 2
  | .istore _ => 2
  | .lstore _ => 2
  | .astore _ => 2
  | .iinc _ _ => 3
  | .ifCond _ _ => 3
  | .if_icmp _ _ => 3
  | .goto _ => 3
  | .ifnull _ => 3
  | .ifnonnull _ => 3
  | .getfield _ => 3
  | .putfield _ => 3
  | .ldc _ => 2
  | .ldc_w _ => 3
  | .ldc2_w _ => 3
  | .anewarray _ => 3
  | .invokevirtual _ => 3
  | .invokestatic _ => 3
  | .invokespecial _ => 3
  | .if_acmp _ _ => 3
  | _ => 1
set_option maxHeartbeats 4000000 in
def zpure (i : Instr) (pc nL : Nat) (lv : zL) (st : List Value) : Option (Nat × zL × List Value) :=
  match i with
  | .iconst n => some (pc + 1, lv, .int (Int32.ofInt n) :: st)
  | .bipush n => some (pc + 2, lv, .int (Int8.ofInt n).toInt32 :: st)
  | .sipush n => some (pc + 3, lv, .int (Int16.ofInt n).toInt32 :: st)
  | .lconst n => some (pc + 1, lv, .long (Int64.ofNat (n : Nat)) :: st)
  | .aconst_null => some (pc + 1, lv, .null :: st)
  | .iload_n k => match zlk lv (k : Nat) with
    | some (.int x) => some (pc + 1, lv, .int x :: st)
    | _ => none
  | .iload k => match zlk lv k with
    | some (.int x) => some (pc + 2, lv, .int x :: st)
    | _ => none
  | .lload_n k => match zlk lv (k : Nat) with
    | some (.long x) => some (pc + 1, lv, .long x :: st)
    | _ => none
  | .lload k => match zlk lv k with
    | some (.long x) => some (pc + 2, lv, .long x :: st)
    | _ => none
  | .aload_n k => match zlk lv (k : Nat) with
    | some (.ref x) => some (pc + 1, lv, .ref x :: st)
    | some .null => some (pc + 1, lv, .null :: st)
    | _ => none
  | .aload k => match zlk lv k with
    | some (.ref x) => some (pc + 2, lv, .ref x :: st)
    | some .null => some (pc + 2, lv, .null :: st)
    | _ => none
  | .istore_n k => match st with
    | .int x :: r => if (k : Nat) < nL then some (pc + 1, zst1 lv (k : Nat) (.int x), r) else none
    | _ => none
  | .istore k => match st with
    | .int x :: r => if k < nL then some (pc + 2, zst1 lv k (.int x), r) else none
    | _ => none
  | .lstore_n k => match st with
    | .long x :: r => if (k : Nat) + 1 < nL then some (pc + 1, zst2 lv (k : Nat) (.long x), r) else none
    | _ => none
  | .lstore k => match st with
    | .long x :: r => if k + 1 < nL then some (pc + 2, zst2 lv k (.long x), r) else none
    | _ => none
  | .astore_n k => match st with
    | .ref x :: r => if (k : Nat) < nL then some (pc + 1, zst1 lv (k : Nat) (.ref x), r) else none
    | .null :: r => if (k : Nat) < nL then some (pc + 1, zst1 lv (k : Nat) .null, r) else none
    | _ => none
  | .astore k => match st with
    | .ref x :: r => if k < nL then some (pc + 2, zst1 lv k (.ref x), r) else none
    | .null :: r => if k < nL then some (pc + 2, zst1 lv k .null, r) else none
    | _ => none
  | .iinc i n => match zlk lv i with
    | some (.int x) => if i < nL then some (pc + 3, zst1 lv i (.int (x + Int32.ofInt n)), st) else none
    | _ => none
  | .iadd => match st with
    | .int y :: .int x :: r => some (pc + 1, lv, .int (x + y) :: r)
    | _ => none
  | .isub => match st with
    | .int y :: .int x :: r => some (pc + 1, lv, .int (x - y) :: r)
    | _ => none
  | .imul => match st with
    | .int y :: .int x :: r => some (pc + 1, lv, .int (x * y) :: r)
    | _ => none
  | .iand => match st with
    | .int y :: .int x :: r => some (pc + 1, lv, .int (x &&& y) :: r)
    | _ => none
  | .ior => match st with
    | .int y :: .int x :: r => some (pc + 1, lv, .int (x ||| y) :: r)
    | _ => none
  | .ishl => match st with
    | .int y :: .int x :: r => some (pc + 1, lv, .int (x <<< (y &&& 31)) :: r)
    | _ => none
  | .ishr => match st with
    | .int y :: .int x :: r => some (pc + 1, lv, .int (x >>> (y &&& 31)) :: r)
    | _ => none
  | .ladd => match st with
    | .long y :: .long x :: r => some (pc + 1, lv, .long (x + y) :: r)
    | _ => none
  | .lsub => match st with
    | .long y :: .long x :: r => some (pc + 1, lv, .long (x - y) :: r)
    | _ => none
  | .lmul => match st with
    | .long y :: .long x :: r => some (pc + 1, lv, .long (x * y) :: r)
    | _ => none
  | .land => match st with
    | .long y :: .long x :: r => some (pc + 1, lv, .long (x &&& y) :: r)
    | _ => none
  | .lor => match st with
    | .long y :: .long x :: r => some (pc + 1, lv, .long (x ||| y) :: r)
    | _ => none
  | .idiv => match st with
    | .int y :: .int x :: r => if ¬ y = 0 then some (pc + 1, lv, .int (x / y) :: r) else none
    | _ => none
  | .irem => match st with
    | .int y :: .int x :: r => if ¬ y = 0 then some (pc + 1, lv, .int (x - x / y * y) :: r) else none
    | _ => none
  | .ldiv => match st with
    | .long y :: .long x :: r => if ¬ y = 0 then some (pc + 1, lv, .long (x / y) :: r) else none
    | _ => none
  | .lrem => match st with
    | .long y :: .long x :: r => if ¬ y = 0 then some (pc + 1, lv, .long (x - x / y * y) :: r) else none
    | _ => none
  | .ineg => match st with
    | .int x :: r => some (pc + 1, lv, .int (-x) :: r)
    | _ => none
  | .lneg => match st with
    | .long x :: r => some (pc + 1, lv, .long (-x) :: r)
    | _ => none
  | .lshl => match st with
    | .int y :: .long x :: r => some (pc + 1, lv, .long (x <<< (y.toInt64 &&& 63)) :: r)
    | _ => none
  | .lshr => match st with
    | .int y :: .long x :: r => some (pc + 1, lv, .long (x >>> (y.toInt64 &&& 63)) :: r)
    | _ => none
  | .i2l => match st with
    | .int x :: r => some (pc + 1, lv, .long x.toInt64 :: r)
    | _ => none
  | .l2i => match st with
    | .long x :: r => some (pc + 1, lv, .int x.toInt32 :: r)
    | _ => none
  | .i2b => match st with
    | .int x :: r => some (pc + 1, lv, .int x.toInt8.toInt32 :: r)
    | _ => none
  | .lcmp => match st with
    | .long y :: .long x :: r => some (pc + 1, lv, .int (lg_cmp x y) :: r)
    | _ => none
  | .dup => match st with
    | va :: r => if va.category = 1 then some (pc + 1, lv, va :: va :: r) else none
    | _ => none
  | .pop => match st with
    | va :: r => if va.category = 1 then some (pc + 1, lv, r) else none
    | _ => none
  | .dup_x1 => match st with
    | va :: vb :: r => if va.category = 1 ∧ vb.category = 1 then some (pc + 1, lv, va :: vb :: va :: r) else none
    | _ => none
  | .dup2 => match st with
    | va :: vb :: r => if va.category = 1 ∧ vb.category = 1 then some (pc + 1, lv, va :: vb :: va :: vb :: r) else none
    | _ => none
  | .ifCond .eq off => match st with
    | .int x :: r => bif ztgok pc off then some (if x = 0 then ztg pc off else pc + 3, lv, r) else none
    | _ => none
  | .ifCond .ne off => match st with
    | .int x :: r => bif ztgok pc off then some (if ¬ x = 0 then ztg pc off else pc + 3, lv, r) else none
    | _ => none
  | .ifCond .lt off => match st with
    | .int x :: r => bif ztgok pc off then some (if x < 0 then ztg pc off else pc + 3, lv, r) else none
    | _ => none
  | .ifCond .ge off => match st with
    | .int x :: r => bif ztgok pc off then some (if 0 ≤ x then ztg pc off else pc + 3, lv, r) else none
    | _ => none
  | .ifCond .gt off => match st with
    | .int x :: r => bif ztgok pc off then some (if 0 < x then ztg pc off else pc + 3, lv, r) else none
    | _ => none
  | .ifCond .le off => match st with
    | .int x :: r => bif ztgok pc off then some (if x ≤ 0 then ztg pc off else pc + 3, lv, r) else none
    | _ => none
  | .if_icmp .eq off => match st with
    | .int y :: .int x :: r => bif ztgok pc off then some (if x = y then ztg pc off else pc + 3, lv, r) else none
    | _ => none
  | .if_icmp .ne off => match st with
    | .int y :: .int x :: r => bif ztgok pc off then some (if ¬ x = y then ztg pc off else pc + 3, lv, r) else none
    | _ => none
  | .if_icmp .lt off => match st with
    | .int y :: .int x :: r => bif ztgok pc off then some (if x < y then ztg pc off else pc + 3, lv, r) else none
    | _ => none
  | .if_icmp .ge off => match st with
    | .int y :: .int x :: r => bif ztgok pc off then some (if y ≤ x then ztg pc off else pc + 3, lv, r) else none
    | _ => none
  | .if_icmp .gt off => match st with
    | .int y :: .int x :: r => bif ztgok pc off then some (if y < x then ztg pc off else pc + 3, lv, r) else none
    | _ => none
  | .if_icmp .le off => match st with
    | .int y :: .int x :: r => bif ztgok pc off then some (if x ≤ y then ztg pc off else pc + 3, lv, r) else none
    | _ => none
  | .goto off => bif ztgok pc off then some (ztg pc off, lv, st) else none
  | .ifnull off => match st with
    | .ref x :: r => some (pc + 3, lv, r)
    | .null :: r => bif ztgok pc off then some (ztg pc off, lv, r) else none
    | _ => none
  | .ifnonnull off => match st with
    | .ref x :: r => bif ztgok pc off then some (ztg pc off, lv, r) else none
    | .null :: r => some (pc + 3, lv, r)
    | _ => none
  | _ => none
section ZPURE
variable {p : Program} {l : Launch} {e : Env} {R : Room} {s : State} {m : MethodId} {args : Array Value} {below : List Frame} {meth : Method} {c : Code} {H : Heap} {locs : List Loc} {cells slots : Nat} {Q : State → Prop}
variable {cc : ByteArray} {pc nL : Nat} {ls : Array Slot} {lv lv' : zL} {st st' : List Value} {pc' : Nat} {i : Instr}
set_option maxHeartbeats 40000000 in
theorem zpure_ok (hx : p.tables.exec = Jvm.exec) (hb : c.code = cc) (hl : lv_has ls nL lv) (hdg : decode cc pc = .ok (i, zlen i)) (hp : zpure i pc nL lv st = some (pc', lv', st'))
    (kk : ∀ ls' : Array Slot, lv_has ls' nL lv' → W p l e R s m args below meth c H locs cells slots Q (F0 m pc' ls' st')) : W p l e R s m args below meth c H locs cells slots Q (F0 m pc ls st) := by
  cases i with
  | iconst n =>
    cases hp
    exact lv_iconst hx hb hdg rfl (kk _ hl)
  | bipush n =>
    cases hp
    exact lv_bipush hx hb hdg rfl (kk _ hl)
  | sipush n =>
    cases hp
    exact lv_sipush hx hb hdg rfl (kk _ hl)
  | lconst n =>
    cases hp
    exact lv_lconst hx hb hdg rfl (kk _ hl)
  | aconst_null =>
    cases hp
    exact lv_null hx hb hdg (kk _ hl)
  | iload_n k =>
    simp only [zpure] at hp
    split at hp
    · next he =>
      cases hp
      exact lv_iload_n hx hb hdg rfl (hl.2.2 _ (zlk_mem he)) (kk _ hl)
    · cases hp
  | iload k =>
    simp only [zpure] at hp
    split at hp
    · next he =>
      cases hp
      exact lv_iload hx hb hdg (hl.2.2 _ (zlk_mem he)) (kk _ hl)
    · cases hp
  | lload_n k =>
    simp only [zpure] at hp
    split at hp
    · next he =>
      cases hp
      exact lv_lload_n hx hb hdg rfl (hl.2.2 _ (zlk_mem he)) (kk _ hl)
    · cases hp
  | lload k =>
    simp only [zpure] at hp
    split at hp
    · next he =>
      cases hp
      exact lv_lload hx hb hdg (hl.2.2 _ (zlk_mem he)) (kk _ hl)
    · cases hp
  | aload_n k =>
    simp only [zpure] at hp
    split at hp
    · next he =>
      cases hp
      exact lv_aload_n hx hb hdg rfl (hl.2.2 _ (zlk_mem he)) (kk _ hl)
    · next he =>
      cases hp
      exact lv_aload_nN hx hb hdg rfl (hl.2.2 _ (zlk_mem he)) (kk _ hl)
    · cases hp
  | aload k =>
    simp only [zpure] at hp
    split at hp
    · next he =>
      cases hp
      exact lv_aload hx hb hdg (hl.2.2 _ (zlk_mem he)) (kk _ hl)
    · next he =>
      cases hp
      exact lv_aloadN hx hb hdg (hl.2.2 _ (zlk_mem he)) (kk _ hl)
    · cases hp
  | istore_n k =>
    simp only [zpure] at hp
    split at hp
    ·
      split at hp
      · next hg =>
        cases hp
        exact lv_istore_n hx hb hdg rfl hl hg rfl kk
      · cases hp
    · cases hp
  | istore k =>
    simp only [zpure] at hp
    split at hp
    ·
      split at hp
      · next hg =>
        cases hp
        exact lv_istore hx hb hdg hl hg rfl kk
      · cases hp
    · cases hp
  | lstore_n k =>
    simp only [zpure] at hp
    split at hp
    ·
      split at hp
      · next hg =>
        cases hp
        exact lv_lstore_n hx hb hdg rfl hl hg rfl kk
      · cases hp
    · cases hp
  | lstore k =>
    simp only [zpure] at hp
    split at hp
    ·
      split at hp
      · next hg =>
        cases hp
        exact lv_lstore hx hb hdg hl hg rfl kk
      · cases hp
    · cases hp
  | astore_n k =>
    simp only [zpure] at hp
    split at hp
    ·
      split at hp
      · next hg =>
        cases hp
        exact lv_astore_n hx hb hdg rfl hl hg rfl kk
      · cases hp
    ·
      split at hp
      · next hg =>
        cases hp
        exact lv_astore_nN hx hb hdg rfl hl hg rfl kk
      · cases hp
    · cases hp
  | astore k =>
    simp only [zpure] at hp
    split at hp
    ·
      split at hp
      · next hg =>
        cases hp
        exact lv_astore hx hb hdg hl hg rfl kk
      · cases hp
    ·
      split at hp
      · next hg =>
        cases hp
        exact lv_astoreN hx hb hdg hl hg rfl kk
      · cases hp
    · cases hp
  | iinc i n =>
    simp only [zpure] at hp
    split at hp
    · next he =>
      split at hp
      · next hg =>
        cases hp
        obtain ⟨k, hk⟩ := List.getElem?_of_mem (zlk_mem he)
        exact lv_iinc hx hb hdg hl hk rfl hg rfl kk
      · cases hp
    · cases hp
  | iadd =>
    simp only [zpure] at hp
    split at hp
    ·
      cases hp
      exact lv_iadd hx hb hdg (kk _ hl)
    · cases hp
  | isub =>
    simp only [zpure] at hp
    split at hp
    ·
      cases hp
      exact lv_isub hx hb hdg (kk _ hl)
    · cases hp
  | imul =>
    simp only [zpure] at hp
    split at hp
    ·
      cases hp
      exact lv_imul hx hb hdg (kk _ hl)
    · cases hp
  | iand =>
    simp only [zpure] at hp
    split at hp
    ·
      cases hp
      exact lv_iand hx hb hdg (kk _ hl)
    · cases hp
  | ior =>
    simp only [zpure] at hp
    split at hp
    ·
      cases hp
      exact lv_ior hx hb hdg (kk _ hl)
    · cases hp
  | ishl =>
    simp only [zpure] at hp
    split at hp
    ·
      cases hp
      exact lv_ishl hx hb hdg (kk _ hl)
    · cases hp
  | ishr =>
    simp only [zpure] at hp
    split at hp
    ·
      cases hp
      exact lv_ishr hx hb hdg (kk _ hl)
    · cases hp
  | ladd =>
    simp only [zpure] at hp
    split at hp
    ·
      cases hp
      exact lv_ladd hx hb hdg (kk _ hl)
    · cases hp
  | lsub =>
    simp only [zpure] at hp
    split at hp
    ·
      cases hp
      exact lv_lsub hx hb hdg (kk _ hl)
    · cases hp
  | lmul =>
    simp only [zpure] at hp
    split at hp
    ·
      cases hp
      exact lv_lmul hx hb hdg (kk _ hl)
    · cases hp
  | land =>
    simp only [zpure] at hp
    split at hp
    ·
      cases hp
      exact lv_land hx hb hdg (kk _ hl)
    · cases hp
  | lor =>
    simp only [zpure] at hp
    split at hp
    ·
      cases hp
      exact lv_lor hx hb hdg (kk _ hl)
    · cases hp
  | idiv =>
    simp only [zpure] at hp
    split at hp
    ·
      split at hp
      · next hg =>
        cases hp
        exact lv_idiv hx hb hdg hg (kk _ hl)
      · cases hp
    · cases hp
  | irem =>
    simp only [zpure] at hp
    split at hp
    ·
      split at hp
      · next hg =>
        cases hp
        exact lv_irem hx hb hdg hg (kk _ hl)
      · cases hp
    · cases hp
  | ldiv =>
    simp only [zpure] at hp
    split at hp
    ·
      split at hp
      · next hg =>
        cases hp
        exact lv_ldiv hx hb hdg hg (kk _ hl)
      · cases hp
    · cases hp
  | lrem =>
    simp only [zpure] at hp
    split at hp
    ·
      split at hp
      · next hg =>
        cases hp
        exact lv_lrem hx hb hdg hg (kk _ hl)
      · cases hp
    · cases hp
  | ineg =>
    simp only [zpure] at hp
    split at hp
    ·
      cases hp
      exact lv_ineg hx hb hdg (kk _ hl)
    · cases hp
  | lneg =>
    simp only [zpure] at hp
    split at hp
    ·
      cases hp
      exact lv_lneg hx hb hdg (kk _ hl)
    · cases hp
  | lshl =>
    simp only [zpure] at hp
    split at hp
    ·
      cases hp
      exact lv_lshl hx hb hdg rfl (kk _ hl)
    · cases hp
  | lshr =>
    simp only [zpure] at hp
    split at hp
    ·
      cases hp
      exact lv_lshr hx hb hdg rfl (kk _ hl)
    · cases hp
  | i2l =>
    simp only [zpure] at hp
    split at hp
    ·
      cases hp
      exact lv_i2l hx hb hdg rfl (kk _ hl)
    · cases hp
  | l2i =>
    simp only [zpure] at hp
    split at hp
    ·
      cases hp
      exact lv_l2i hx hb hdg rfl (kk _ hl)
    · cases hp
  | i2b =>
    simp only [zpure] at hp
    split at hp
    ·
      cases hp
      exact lv_i2b hx hb hdg rfl (kk _ hl)
    · cases hp
  | lcmp =>
    simp only [zpure] at hp
    split at hp
    ·
      cases hp
      exact W.lcmp hx hb hdg (kk _ hl)
    · cases hp
  | dup =>
    simp only [zpure] at hp
    split at hp
    ·
      split at hp
      · next hg =>
        cases hp
        exact lv_dup hx hb hdg hg (kk _ hl)
      · cases hp
    · cases hp
  | pop =>
    simp only [zpure] at hp
    split at hp
    ·
      split at hp
      · next hg =>
        cases hp
        exact lv_pop hx hb hdg hg (kk _ hl)
      · cases hp
    · cases hp
  | dup_x1 =>
    simp only [zpure] at hp
    split at hp
    ·
      split at hp
      · next hg =>
        cases hp
        exact lv_dup_x1 hx hb hdg hg.1 hg.2 (kk _ hl)
      · cases hp
    · cases hp
  | dup2 =>
    simp only [zpure] at hp
    split at hp
    ·
      split at hp
      · next hg =>
        cases hp
        exact lv_dup2_11 hx hb hdg hg.1 hg.2 (kk _ hl)
      · cases hp
    · cases hp
  | ifCond cnd off =>
    cases cnd with
    | eq =>
      simp only [zpure] at hp
      split at hp
      ·
        cases hg : ztgok pc off with
        | false => rw [hg] at hp; cases hp
        | true =>
          rw [hg] at hp
          simp only [cond_true, Option.some.injEq, Prod.mk.injEq] at hp
          obtain ⟨h1, h2, h3⟩ := hp
          subst h2; subst h3
          exact lv_if_eq hx hb hdg (ztg_eq hg) (fun q => by rw [if_pos q] at h1; subst h1; exact kk _ hl) (fun q => by rw [if_neg q] at h1; subst h1; exact kk _ hl)
      · cases hp
    | ne =>
      simp only [zpure] at hp
      split at hp
      ·
        cases hg : ztgok pc off with
        | false => rw [hg] at hp; cases hp
        | true =>
          rw [hg] at hp
          simp only [cond_true, Option.some.injEq, Prod.mk.injEq] at hp
          obtain ⟨h1, h2, h3⟩ := hp
          subst h2; subst h3
          exact lv_if_ne hx hb hdg (ztg_eq hg) (fun q => by rw [if_pos q] at h1; subst h1; exact kk _ hl) (fun q => by rw [if_neg (fun z => z q)] at h1; subst h1; exact kk _ hl)
      · cases hp
    | lt =>
      simp only [zpure] at hp
      split at hp
      ·
        cases hg : ztgok pc off with
        | false => rw [hg] at hp; cases hp
        | true =>
          rw [hg] at hp
          simp only [cond_true, Option.some.injEq, Prod.mk.injEq] at hp
          obtain ⟨h1, h2, h3⟩ := hp
          subst h2; subst h3
          exact lv_if_lt hx hb hdg (ztg_eq hg) (fun q => by rw [if_pos q] at h1; subst h1; exact kk _ hl) (fun q => by rw [if_neg q] at h1; subst h1; exact kk _ hl)
      · cases hp
    | ge =>
      simp only [zpure] at hp
      split at hp
      ·
        cases hg : ztgok pc off with
        | false => rw [hg] at hp; cases hp
        | true =>
          rw [hg] at hp
          simp only [cond_true, Option.some.injEq, Prod.mk.injEq] at hp
          obtain ⟨h1, h2, h3⟩ := hp
          subst h2; subst h3
          exact lv_if_ge hx hb hdg (ztg_eq hg) (fun q => by rw [if_pos q] at h1; subst h1; exact kk _ hl) (fun q => by rw [if_neg q] at h1; subst h1; exact kk _ hl)
      · cases hp
    | gt =>
      simp only [zpure] at hp
      split at hp
      ·
        cases hg : ztgok pc off with
        | false => rw [hg] at hp; cases hp
        | true =>
          rw [hg] at hp
          simp only [cond_true, Option.some.injEq, Prod.mk.injEq] at hp
          obtain ⟨h1, h2, h3⟩ := hp
          subst h2; subst h3
          exact lv_if_gt hx hb hdg (ztg_eq hg) (fun q => by rw [if_pos q] at h1; subst h1; exact kk _ hl) (fun q => by rw [if_neg q] at h1; subst h1; exact kk _ hl)
      · cases hp
    | le =>
      simp only [zpure] at hp
      split at hp
      ·
        cases hg : ztgok pc off with
        | false => rw [hg] at hp; cases hp
        | true =>
          rw [hg] at hp
          simp only [cond_true, Option.some.injEq, Prod.mk.injEq] at hp
          obtain ⟨h1, h2, h3⟩ := hp
          subst h2; subst h3
          exact lv_if_le hx hb hdg (ztg_eq hg) (fun q => by rw [if_pos q] at h1; subst h1; exact kk _ hl) (fun q => by rw [if_neg q] at h1; subst h1; exact kk _ hl)
      · cases hp
  | if_icmp cnd off =>
    cases cnd with
    | eq =>
      simp only [zpure] at hp
      split at hp
      ·
        cases hg : ztgok pc off with
        | false => rw [hg] at hp; cases hp
        | true =>
          rw [hg] at hp
          simp only [cond_true, Option.some.injEq, Prod.mk.injEq] at hp
          obtain ⟨h1, h2, h3⟩ := hp
          subst h2; subst h3
          exact lv_icmp_eq hx hb hdg (ztg_eq hg) (fun q => by rw [if_pos q] at h1; subst h1; exact kk _ hl) (fun q => by rw [if_neg q] at h1; subst h1; exact kk _ hl)
      · cases hp
    | ne =>
      simp only [zpure] at hp
      split at hp
      ·
        cases hg : ztgok pc off with
        | false => rw [hg] at hp; cases hp
        | true =>
          rw [hg] at hp
          simp only [cond_true, Option.some.injEq, Prod.mk.injEq] at hp
          obtain ⟨h1, h2, h3⟩ := hp
          subst h2; subst h3
          exact lv_icmp_ne hx hb hdg (ztg_eq hg) (fun q => by rw [if_pos q] at h1; subst h1; exact kk _ hl) (fun q => by rw [if_neg (fun z => z q)] at h1; subst h1; exact kk _ hl)
      · cases hp
    | lt =>
      simp only [zpure] at hp
      split at hp
      ·
        cases hg : ztgok pc off with
        | false => rw [hg] at hp; cases hp
        | true =>
          rw [hg] at hp
          simp only [cond_true, Option.some.injEq, Prod.mk.injEq] at hp
          obtain ⟨h1, h2, h3⟩ := hp
          subst h2; subst h3
          exact lv_icmp_lt hx hb hdg (ztg_eq hg) (fun q => by rw [if_pos q] at h1; subst h1; exact kk _ hl) (fun q => by rw [if_neg q] at h1; subst h1; exact kk _ hl)
      · cases hp
    | ge =>
      simp only [zpure] at hp
      split at hp
      ·
        cases hg : ztgok pc off with
        | false => rw [hg] at hp; cases hp
        | true =>
          rw [hg] at hp
          simp only [cond_true, Option.some.injEq, Prod.mk.injEq] at hp
          obtain ⟨h1, h2, h3⟩ := hp
          subst h2; subst h3
          exact lv_icmp_ge hx hb hdg (ztg_eq hg) (fun q => by rw [if_pos q] at h1; subst h1; exact kk _ hl) (fun q => by rw [if_neg q] at h1; subst h1; exact kk _ hl)
      · cases hp
    | gt =>
      simp only [zpure] at hp
      split at hp
      ·
        cases hg : ztgok pc off with
        | false => rw [hg] at hp; cases hp
        | true =>
          rw [hg] at hp
          simp only [cond_true, Option.some.injEq, Prod.mk.injEq] at hp
          obtain ⟨h1, h2, h3⟩ := hp
          subst h2; subst h3
          exact lv_icmp_gt hx hb hdg (ztg_eq hg) (fun q => by rw [if_pos q] at h1; subst h1; exact kk _ hl) (fun q => by rw [if_neg q] at h1; subst h1; exact kk _ hl)
      · cases hp
    | le =>
      simp only [zpure] at hp
      split at hp
      ·
        cases hg : ztgok pc off with
        | false => rw [hg] at hp; cases hp
        | true =>
          rw [hg] at hp
          simp only [cond_true, Option.some.injEq, Prod.mk.injEq] at hp
          obtain ⟨h1, h2, h3⟩ := hp
          subst h2; subst h3
          exact lv_icmp_le hx hb hdg (ztg_eq hg) (fun q => by rw [if_pos q] at h1; subst h1; exact kk _ hl) (fun q => by rw [if_neg q] at h1; subst h1; exact kk _ hl)
      · cases hp
  | goto off =>
    simp only [zpure] at hp
    cases hg : ztgok pc off with
    | false => rw [hg] at hp; cases hp
    | true => rw [hg] at hp; cases hp; exact lv_goto hx hb hdg (ztg_eq hg) (kk _ hl)
  | ifnull off =>
    simp only [zpure] at hp
    split at hp
    ·
      cases hp
      exact lv_ifnull hx hb hdg (kk _ hl)
    ·
      cases hg : ztgok pc off with
      | false => rw [hg] at hp; cases hp
      | true => rw [hg] at hp; cases hp; exact lv_ifnullN hx hb hdg (ztg_eq hg) (kk _ hl)
    · cases hp
  | ifnonnull off =>
    simp only [zpure] at hp
    split at hp
    ·
      cases hg : ztgok pc off with
      | false => rw [hg] at hp; cases hp
      | true => rw [hg] at hp; cases hp; exact lv_ifnonnull hx hb hdg (ztg_eq hg) (kk _ hl)
    ·
      cases hp
      exact lv_ifnonnullN hx hb hdg (kk _ hl)
    · cases hp
  | _ => exact absurd hp (by intro q; cases q)
end ZPURE
end
section
/-! worlds as functions: what stands at an address -/
def zT (aC : Nat → ClassId) : List (ClassId × FieldType) := [(aC 0, .int), (aC 1, .byte), (aC 2, .boolean), (aC 3, .object RX6), (aC 4, .object RX15), (aC 5, .object RX12), (aC 6, .object RX14), (aC 7, .array .int), (aC 8, .array (.object RX15))]
/-- the inner arrays of an array of arrays are of its class's component -/
def zCo (U : State) (cA cI : ClassId) : Prop := ∃ (kA kI : Class) (t : FieldType), U.vm.classes[cA]? = some kA ∧ kA.kind = .array cI t ∧ t.isReference = true ∧ U.vm.classes[cI]? = some kI
theorem zCo.moved {u U : State} {cA cI : ClassId} (hvm : u.vm.Alike U.vm) (h : zCo u cA cI) : zCo U cA cI := by
  obtain ⟨kA, kI, t, h1, h2, h3, h4⟩ := h
  obtain ⟨k', hk', he⟩ := hvm.2.2 _ _ h1
  obtain ⟨k2, hk2, -⟩ := hvm.2.2 _ _ h4
  exact ⟨k', k2, t, hk', by rw [he]; exact h2, h3, hk2⟩
theorem zas_self {vm : Vm} {c : ClassId} : vm.assignable c c = true := by
  show vm.assignableAux (255 + 1) c c = true
  rw [Vm.assignableAux]
  simp only [beq_self_eq_true, Bool.true_or]
def zO (aC : Nat → ClassId) (U : State) : Prop := va_AO RX6 U ∧ va_AO RX15 U ∧ va_AO RX12 U ∧ va_AO RX14 U ∧ va_Nw (.methodLinkNest RX16 442 yX14_init RX16) U ∧ va_Nw (.castable RX13 RX13) U ∧ zCo U (aC 7) (aC 0) ∧ zCo U (aC 8) (aC 4)
def zK (D : va_G) (aC : Nat → ClassId) (U : State) : Prop := va_K D vwCl (zT aC) U ∧ zO aC U
theorem zO.warm {aC : Nat → ClassId} {s U : State} (hW : s.WarmedH U.vm) (h : zO aC s) : zO aC U := ⟨h.1.moved hW.alike, h.2.1.moved hW.alike, h.2.2.1.moved hW.alike, h.2.2.2.1.moved hW.alike, va_Nw.warmM hW h.2.2.2.2.1, va_Nw.warmC hW h.2.2.2.2.2.1, h.2.2.2.2.2.2.1.moved hW.alike, h.2.2.2.2.2.2.2.moved hW.alike⟩
theorem zK.warm {D : va_G} {aC : Nat → ClassId} {s U : State} (hW : s.WarmedH U.vm) (h : zK D aC s) : zK D aC U := ⟨va_K.moved hW.alike h.1, h.2.warm hW⟩
theorem zK.calling {D : va_G} {aC : Nat → ClassId} {U : State} {g : JFrame} {mk : MethodId} {a : Array Value} (h : zK D aC U) : zK D aC (U.calling g mk a) := ⟨va_K.moved (u := U) (U := U.calling g mk a) (Vm.Alike.refl U.vm) h.1, h.2.1.moved (u := U) (U := U.calling g mk a) (Vm.Alike.refl U.vm), h.2.2.1.moved (u := U) (U := U.calling g mk a) (Vm.Alike.refl U.vm), h.2.2.2.1.moved (u := U) (U := U.calling g mk a) (Vm.Alike.refl U.vm), h.2.2.2.2.1.moved (u := U) (U := U.calling g mk a) (Vm.Alike.refl U.vm), va_tabs rfl (rfl : U.vm = (U.calling g mk a).vm) h.2.2.2.2.2.1, va_tabs rfl (rfl : U.vm = (U.calling g mk a).vm) h.2.2.2.2.2.2.1, h.2.2.2.2.2.2.2.1.moved (u := U) (U := U.calling g mk a) (Vm.Alike.refl U.vm), h.2.2.2.2.2.2.2.2.moved (u := U) (U := U.calling g mk a) (Vm.Alike.refl U.vm)⟩
abbrev zA : Type := (Nat → Int32) ⊕ (Nat → Option Nat)
/-- a cell: an object (its class, its fields), or an array (its type's place, its length, its contents) -/
abbrev zC : Type := (Nat × List Value) ⊕ (Nat × Nat × zA)
abbrev zM : Type := Nat → Option zC
def zup (w : zM) (a : Nat) (c : zC) : zM := fun b => if b = a then some c else w b
theorem zup_s {w : zM} {a : Nat} {c : zC} : zup w a c a = some c := by simp [zup]
theorem zup_n {w : zM} {a b : Nat} {c : zC} (h : b ≠ a) : zup w a c b = w b := by simp [zup, h]
def zcell (aC : Nat → ClassId) : zC → va_E
  | .inl o => .inr o
  | .inr (t, n, .inl f) => .inl (aC t, n, .inl f)
  | .inr (t, n, .inr f) => .inl (aC t, n, .inr (.inr (.inr (.inr f))))
def zFW (D : va_G) (aC : Nat → ClassId) (base : Nat) (w : zM) (H : Heap) : Prop := ∀ a c, w a = some c → base ≤ a ∧ va_at D vwCl (a, zcell aC c) H
theorem zFW.put {D : va_G} {aC : Nat → ClassId} {base a : Nat} {w : zM} {H H1 : Heap} {c : zC} (h : zFW D aC base w H) (hb : zBut a H H1) (ha : base ≤ a) (hc : va_at D vwCl (a, zcell aC c) H1) : zFW D aC base (zup w a c) H1 := by
  intro q c' hq
  by_cases e : q = a
  · subst e
    rw [zup_s] at hq
    cases hq
    exact ⟨ha, hc⟩
  · rw [zup_n e] at hq
    obtain ⟨h1, h2⟩ := h q c' hq
    exact ⟨h1, h2.kept (hb.2 q e)⟩
theorem zFW.new {D : va_G} {aC : Nat → ClassId} {base : Nat} {w : zM} {H H1 : Heap} {c : zC} (h : zFW D aC base w H) (hk : zKeep H H1) (ha : base ≤ H.size) (hc : va_at D vwCl (H.size, zcell aC c) H1) : zFW D aC base (zup w H.size c) H1 := by
  intro q c' hq
  by_cases e : q = H.size
  · subst e
    rw [zup_s] at hq
    cases hq
    exact ⟨ha, hc⟩
  · rw [zup_n e] at hq
    obtain ⟨h1, h2⟩ := h q c' hq
    exact ⟨h1, h2.kept (hk.2 q h2.lt)⟩
theorem zone {D : va_G} {aC : Nat → ClassId} {base a : Nat} {w : zM} {H : Heap} {c : zC} (h : zFW D aC base w H) (hc : w a = some c) : va_P D vwCl [(a, zcell aC c)] H := fun k q hq => by
  have hz : k < 1 := (List.getElem?_eq_some_iff.mp hq).1
  rw [show k = 0 by omega] at hq
  cases hq
  exact (h a c hc).2
theorem zoneD {A : Nat → Prop} {a : Nat} {e : va_E} (h : A a) : va_D A [(a, e)] := ⟨fun i j p q h1 h2 _ => by
  have z1 : i < 1 := (List.getElem?_eq_some_iff.mp h1).1
  have z2 : j < 1 := (List.getElem?_eq_some_iff.mp h2).1
  omega, fun k q hq => by
  have hz : k < 1 := (List.getElem?_eq_some_iff.mp hq).1
  rw [show k = 0 by omega] at hq
  cases hq
  exact h⟩
theorem zone0 {D : va_G} {a : Nat} {e : va_E} {H : Heap} (h : va_P D vwCl [(a, e)] H) : va_at D vwCl (a, e) H := h 0 _ rfl
def zN (base : Nat) : Nat → Prop := fun q => base ≤ q
/-- the fields of the classes: their types, and which are final -/
def zFT : List (List (FieldType × Bool)) := [[(.object "SumHouse$Room", true), (.object "SumHouse$Planes", true), (.array .int, true), (.array .int, true), (.array .int, true)],
  [(.object "SumHouse$Room", true)],
  [(.object "SumHouse$Room", true), (.object "SumHouse$Planes", true), (.object "SumHouse$Divisors", true)],
  [(.array .int, true), (.int, false), (.boolean, false)],
  [(.object "SumHouse$Room", true), (.object "SumHouse$Planes", true), (.object "SumHouse$Divisors", true), (.object "SumHouse$Solver", true), (.array .int, true), (.array .int, true), (.array .int, true), (.array .int, true), (.array .int, true)],
  [(.int, false), (.int, false), (.int, false), (.int, false), (.int, false), (.int, false), (.int, false), (.array .int, true), (.array .int, true), (.array .int, true), (.array .int, true), (.array .int, true)],
  [(.object "SumHouse$Room", true), (.array .int, true), (.array .int, true), (.array .int, true), (.int, false), (.int, false), (.int, false), (.int, false), (.int, false), (.int, false), (.int, false), (.int, false), (.boolean, false), (.int, false)],
  [(.object "SumHouse$Room", true), (.object "SumHouse$Planes", true), (.object "SumHouse$Divisors", true), (.object "SumHouse$Ratios", true), (.object "SumHouse$Terms", true), (.object "SumHouse$Solver", true), (.int, false), (.int, false), (.int, false), (.int, false), (.int, false), (.int, false), (.int, false), (.array .int, true), (.array .int, true), (.array .int, true), (.array .int, true), (.int, false)],
  [(.object "SumHouse$Room", true), (.object "SumHouse$Planes", true), (.object "SumHouse$Divisors", true), (.object "SumHouse$Ratios", true), (.array .int, true), (.array .int, true), (.int, false), (.int, false)],
  [(.object "SumHouse$Terms", true), (.array .int, true), (.int, false), (.array .int, true), (.int, false), (.array .int, true), (.int, false), (.array .int, true), (.int, false), (.array .int, true), (.int, false), (.int, false), (.int, false), (.array .int, true), (.int, false), (.int, false), (.int, false), (.int, false), (.int, false)],
  [(.array (.object "SumHouse$Slot"), true), (.object "SumHouse$Room", true), (.object "SumHouse$Planes", true), (.object "SumHouse$Divisors", true), (.object "SumHouse$Ratios", true), (.object "SumHouse$Terms", true), (.object "SumHouse$Texts", true), (.object "SumHouse$Sums", true), (.object "SumHouse$Sequences", true), (.array .int, true), (.int, false), (.array .int, true), (.int, false)],
  [(.array (.object "SumHouseModel$U"), true), (.int, false)],
  [(.object "java/lang/Throwable", false), (.array (.object "java/lang/StackTraceElement"), false), (.object "java/util/List", false), (.object "java/lang/String", false), (.object "java/lang/Object", false), (.int, false)],
  [(.int, false), (.array .int, true), (.array .int, true), (.int, false), (.int, false), (.int, false), (.array .int, true), (.array .int, true), (.array .int, true), (.array .int, true), (.int, false), (.array .int, true), (.int, false), (.int, false), (.array .int, true)],
  [(.array .int, true), (.int, false)],
  [(.array (.object "SumHouseModel$U"), true), (.int, false), (.array (.object "SumHouseModel$B"), true), (.int, false), (.array .int, true), (.array (.array .int), true), (.object "SumHouseModel$Thing", true), (.array .boolean, true), (.object "SumHouseModel$Stop", true), (.int, false), (.int, false), (.array (.object ""), true), (.int, false), (.int, false), (.int, false), (.array (.object "SumHouseModel$Thing"), true), (.int, false), (.int, false), (.int, false), (.int, false), (.array (.object "SumHouseModel$Thing"), true), (.object "SumHouseModel$Thing", true), (.int, false), (.array (.object ""), true), (.int, false), (.int, false), (.array (.object ""), true), (.boolean, false), (.array .int, true), (.int, false), (.array .int, true), (.int, false), (.array .int, true), (.array .int, true), (.array .int, true), (.array .int, true), (.int, false), (.int, false), (.array (.array .int), true), (.object "SumHouseModel$B", false), (.object "SumHouseModel$B", false), (.object "SumHouseModel$B", false), (.object "SumHouseModel$U", false), (.object "SumHouseModel$U", false), (.array (.array (.object "SumHouseModel$U")), true), (.array (.object "SumHouseModel$U"), true), (.array .boolean, true), (.array .int, true), (.int, false), (.array (.object "SumHouseModel$B"), true), (.array (.object "SumHouseModel$U"), true), (.array (.array .int), true), (.array (.array .int), true), (.array (.object "SumHouseModel$B"), true), (.array (.object "SumHouseModel$B"), true), (.array (.object "SumHouseModel$U"), true), (.array (.array (.object "SumHouseModel$U")), true), (.array (.array (.object "SumHouseModel$U")), true), (.array (.object "SumHouseModel$U"), true), (.array (.object "SumHouseModel$U"), true), (.array (.array .int), true), (.array .int, true), (.array .int, true), (.int, false), (.array .int, true)]]
def zft (ci k : Nat) : Option (FieldType × Bool) := match zFT[ci]? with
  | some r => r[k]?
  | none => none
/-- what the tables say of a field that is put -/
def zPt (ci k : Nat) (ty : FieldType) : Prop := ∃ (C : String) (T : u_T) (N : Nat) (ty0 : Nat → FieldType), vwCl[ci]? = some (C, T, N) ∧ k < N ∧ (∀ j, j < N → parseFieldDescriptor (T j).2.2.1 = some (ty0 j)) ∧ (∀ a, a < N → ∀ b, b < N → a ≠ b → (T a).2.1 ≠ (T b).2.1) ∧ (T k).2.2.2 = false ∧ parseFieldDescriptor (T k).2.2.1 = some ty
theorem zpt_3_1 : zPt 3 1 (.int) := ⟨RX4, TX4, 3, tyX4, rfl, by decide, tyX4_ok, nmX4, rfl, by decide +kernel⟩
theorem zpt_3_2 : zPt 3 2 (.boolean) := ⟨RX4, TX4, 3, tyX4, rfl, by decide, tyX4_ok, nmX4, rfl, by decide +kernel⟩
theorem zpt_5_0 : zPt 5 0 (.int) := ⟨RX6, TX6, 12, tyX6, rfl, by decide, tyX6_ok, nmX6, rfl, by decide +kernel⟩
theorem zpt_5_1 : zPt 5 1 (.int) := ⟨RX6, TX6, 12, tyX6, rfl, by decide, tyX6_ok, nmX6, rfl, by decide +kernel⟩
theorem zpt_5_2 : zPt 5 2 (.int) := ⟨RX6, TX6, 12, tyX6, rfl, by decide, tyX6_ok, nmX6, rfl, by decide +kernel⟩
theorem zpt_5_3 : zPt 5 3 (.int) := ⟨RX6, TX6, 12, tyX6, rfl, by decide, tyX6_ok, nmX6, rfl, by decide +kernel⟩
theorem zpt_5_4 : zPt 5 4 (.int) := ⟨RX6, TX6, 12, tyX6, rfl, by decide, tyX6_ok, nmX6, rfl, by decide +kernel⟩
theorem zpt_5_5 : zPt 5 5 (.int) := ⟨RX6, TX6, 12, tyX6, rfl, by decide, tyX6_ok, nmX6, rfl, by decide +kernel⟩
theorem zpt_5_6 : zPt 5 6 (.int) := ⟨RX6, TX6, 12, tyX6, rfl, by decide, tyX6_ok, nmX6, rfl, by decide +kernel⟩
theorem zpt_6_4 : zPt 6 4 (.int) := ⟨RX7, TX7, 14, tyX7, rfl, by decide, tyX7_ok, nmX7, rfl, by decide +kernel⟩
theorem zpt_6_5 : zPt 6 5 (.int) := ⟨RX7, TX7, 14, tyX7, rfl, by decide, tyX7_ok, nmX7, rfl, by decide +kernel⟩
theorem zpt_6_6 : zPt 6 6 (.int) := ⟨RX7, TX7, 14, tyX7, rfl, by decide, tyX7_ok, nmX7, rfl, by decide +kernel⟩
theorem zpt_6_7 : zPt 6 7 (.int) := ⟨RX7, TX7, 14, tyX7, rfl, by decide, tyX7_ok, nmX7, rfl, by decide +kernel⟩
theorem zpt_6_8 : zPt 6 8 (.int) := ⟨RX7, TX7, 14, tyX7, rfl, by decide, tyX7_ok, nmX7, rfl, by decide +kernel⟩
theorem zpt_6_9 : zPt 6 9 (.int) := ⟨RX7, TX7, 14, tyX7, rfl, by decide, tyX7_ok, nmX7, rfl, by decide +kernel⟩
theorem zpt_6_10 : zPt 6 10 (.int) := ⟨RX7, TX7, 14, tyX7, rfl, by decide, tyX7_ok, nmX7, rfl, by decide +kernel⟩
theorem zpt_6_11 : zPt 6 11 (.int) := ⟨RX7, TX7, 14, tyX7, rfl, by decide, tyX7_ok, nmX7, rfl, by decide +kernel⟩
theorem zpt_6_12 : zPt 6 12 (.boolean) := ⟨RX7, TX7, 14, tyX7, rfl, by decide, tyX7_ok, nmX7, rfl, by decide +kernel⟩
theorem zpt_6_13 : zPt 6 13 (.int) := ⟨RX7, TX7, 14, tyX7, rfl, by decide, tyX7_ok, nmX7, rfl, by decide +kernel⟩
theorem zpt_7_6 : zPt 7 6 (.int) := ⟨RX8, TX8, 18, tyX8, rfl, by decide, tyX8_ok, nmX8, rfl, by decide +kernel⟩
theorem zpt_7_7 : zPt 7 7 (.int) := ⟨RX8, TX8, 18, tyX8, rfl, by decide, tyX8_ok, nmX8, rfl, by decide +kernel⟩
theorem zpt_7_8 : zPt 7 8 (.int) := ⟨RX8, TX8, 18, tyX8, rfl, by decide, tyX8_ok, nmX8, rfl, by decide +kernel⟩
theorem zpt_7_9 : zPt 7 9 (.int) := ⟨RX8, TX8, 18, tyX8, rfl, by decide, tyX8_ok, nmX8, rfl, by decide +kernel⟩
theorem zpt_7_10 : zPt 7 10 (.int) := ⟨RX8, TX8, 18, tyX8, rfl, by decide, tyX8_ok, nmX8, rfl, by decide +kernel⟩
theorem zpt_7_11 : zPt 7 11 (.int) := ⟨RX8, TX8, 18, tyX8, rfl, by decide, tyX8_ok, nmX8, rfl, by decide +kernel⟩
theorem zpt_7_12 : zPt 7 12 (.int) := ⟨RX8, TX8, 18, tyX8, rfl, by decide, tyX8_ok, nmX8, rfl, by decide +kernel⟩
theorem zpt_7_17 : zPt 7 17 (.int) := ⟨RX8, TX8, 18, tyX8, rfl, by decide, tyX8_ok, nmX8, rfl, by decide +kernel⟩
theorem zpt_8_6 : zPt 8 6 (.int) := ⟨RX9, TX9, 8, tyX9, rfl, by decide, tyX9_ok, nmX9, rfl, by decide +kernel⟩
theorem zpt_8_7 : zPt 8 7 (.int) := ⟨RX9, TX9, 8, tyX9, rfl, by decide, tyX9_ok, nmX9, rfl, by decide +kernel⟩
theorem zpt_9_2 : zPt 9 2 (.int) := ⟨RX10, TX10, 19, tyX10, rfl, by decide, tyX10_ok, nmX10, rfl, by decide +kernel⟩
theorem zpt_9_4 : zPt 9 4 (.int) := ⟨RX10, TX10, 19, tyX10, rfl, by decide, tyX10_ok, nmX10, rfl, by decide +kernel⟩
theorem zpt_9_6 : zPt 9 6 (.int) := ⟨RX10, TX10, 19, tyX10, rfl, by decide, tyX10_ok, nmX10, rfl, by decide +kernel⟩
theorem zpt_9_8 : zPt 9 8 (.int) := ⟨RX10, TX10, 19, tyX10, rfl, by decide, tyX10_ok, nmX10, rfl, by decide +kernel⟩
theorem zpt_9_10 : zPt 9 10 (.int) := ⟨RX10, TX10, 19, tyX10, rfl, by decide, tyX10_ok, nmX10, rfl, by decide +kernel⟩
theorem zpt_9_11 : zPt 9 11 (.int) := ⟨RX10, TX10, 19, tyX10, rfl, by decide, tyX10_ok, nmX10, rfl, by decide +kernel⟩
theorem zpt_9_12 : zPt 9 12 (.int) := ⟨RX10, TX10, 19, tyX10, rfl, by decide, tyX10_ok, nmX10, rfl, by decide +kernel⟩
theorem zpt_9_14 : zPt 9 14 (.int) := ⟨RX10, TX10, 19, tyX10, rfl, by decide, tyX10_ok, nmX10, rfl, by decide +kernel⟩
theorem zpt_9_15 : zPt 9 15 (.int) := ⟨RX10, TX10, 19, tyX10, rfl, by decide, tyX10_ok, nmX10, rfl, by decide +kernel⟩
theorem zpt_9_16 : zPt 9 16 (.int) := ⟨RX10, TX10, 19, tyX10, rfl, by decide, tyX10_ok, nmX10, rfl, by decide +kernel⟩
theorem zpt_9_17 : zPt 9 17 (.int) := ⟨RX10, TX10, 19, tyX10, rfl, by decide, tyX10_ok, nmX10, rfl, by decide +kernel⟩
theorem zpt_9_18 : zPt 9 18 (.int) := ⟨RX10, TX10, 19, tyX10, rfl, by decide, tyX10_ok, nmX10, rfl, by decide +kernel⟩
theorem zpt_10_10 : zPt 10 10 (.int) := ⟨RX11, TX11, 13, tyX11, rfl, by decide, tyX11_ok, nmX11, rfl, by decide +kernel⟩
theorem zpt_10_12 : zPt 10 12 (.int) := ⟨RX11, TX11, 13, tyX11, rfl, by decide, tyX11_ok, nmX11, rfl, by decide +kernel⟩
theorem zpt_11_1 : zPt 11 1 (.int) := ⟨RX12, TX12, 2, tyX12, rfl, by decide, tyX12_ok, nmX12, rfl, by decide +kernel⟩
theorem zpt_12_0 : zPt 12 0 (.object "java/lang/Throwable") := ⟨RX13, TX13, 6, tyX13, rfl, by decide, tyX13_ok, nmX13, rfl, by decide +kernel⟩
theorem zpt_12_1 : zPt 12 1 (.array (.object "java/lang/StackTraceElement")) := ⟨RX13, TX13, 6, tyX13, rfl, by decide, tyX13_ok, nmX13, rfl, by decide +kernel⟩
theorem zpt_12_2 : zPt 12 2 (.object "java/util/List") := ⟨RX13, TX13, 6, tyX13, rfl, by decide, tyX13_ok, nmX13, rfl, by decide +kernel⟩
theorem zpt_12_3 : zPt 12 3 (.object "java/lang/String") := ⟨RX13, TX13, 6, tyX13, rfl, by decide, tyX13_ok, nmX13, rfl, by decide +kernel⟩
theorem zpt_12_4 : zPt 12 4 (.object "java/lang/Object") := ⟨RX13, TX13, 6, tyX13, rfl, by decide, tyX13_ok, nmX13, rfl, by decide +kernel⟩
theorem zpt_12_5 : zPt 12 5 (.int) := ⟨RX13, TX13, 6, tyX13, rfl, by decide, tyX13_ok, nmX13, rfl, by decide +kernel⟩
theorem zpt_13_0 : zPt 13 0 (.int) := ⟨RX14, TX14, 15, tyX14, rfl, by decide, tyX14_ok, nmX14, rfl, by decide +kernel⟩
theorem zpt_13_3 : zPt 13 3 (.int) := ⟨RX14, TX14, 15, tyX14, rfl, by decide, tyX14_ok, nmX14, rfl, by decide +kernel⟩
theorem zpt_13_4 : zPt 13 4 (.int) := ⟨RX14, TX14, 15, tyX14, rfl, by decide, tyX14_ok, nmX14, rfl, by decide +kernel⟩
theorem zpt_13_5 : zPt 13 5 (.int) := ⟨RX14, TX14, 15, tyX14, rfl, by decide, tyX14_ok, nmX14, rfl, by decide +kernel⟩
theorem zpt_13_10 : zPt 13 10 (.int) := ⟨RX14, TX14, 15, tyX14, rfl, by decide, tyX14_ok, nmX14, rfl, by decide +kernel⟩
theorem zpt_13_12 : zPt 13 12 (.int) := ⟨RX14, TX14, 15, tyX14, rfl, by decide, tyX14_ok, nmX14, rfl, by decide +kernel⟩
theorem zpt_13_13 : zPt 13 13 (.int) := ⟨RX14, TX14, 15, tyX14, rfl, by decide, tyX14_ok, nmX14, rfl, by decide +kernel⟩
theorem zpt_14_1 : zPt 14 1 (.int) := ⟨RX15, TX15, 2, tyX15, rfl, by decide, tyX15_ok, nmX15, rfl, by decide +kernel⟩
theorem zpt_15_1 : zPt 15 1 (.int) := ⟨RX16, TX16, 65, tyX16, rfl, by decide, tyX16_ok, nmX16, rfl, by decide +kernel⟩
theorem zpt_15_3 : zPt 15 3 (.int) := ⟨RX16, TX16, 65, tyX16, rfl, by decide, tyX16_ok, nmX16, rfl, by decide +kernel⟩
theorem zpt_15_9 : zPt 15 9 (.int) := ⟨RX16, TX16, 65, tyX16, rfl, by decide, tyX16_ok, nmX16, rfl, by decide +kernel⟩
theorem zpt_15_10 : zPt 15 10 (.int) := ⟨RX16, TX16, 65, tyX16, rfl, by decide, tyX16_ok, nmX16, rfl, by decide +kernel⟩
theorem zpt_15_12 : zPt 15 12 (.int) := ⟨RX16, TX16, 65, tyX16, rfl, by decide, tyX16_ok, nmX16, rfl, by decide +kernel⟩
theorem zpt_15_13 : zPt 15 13 (.int) := ⟨RX16, TX16, 65, tyX16, rfl, by decide, tyX16_ok, nmX16, rfl, by decide +kernel⟩
theorem zpt_15_14 : zPt 15 14 (.int) := ⟨RX16, TX16, 65, tyX16, rfl, by decide, tyX16_ok, nmX16, rfl, by decide +kernel⟩
theorem zpt_15_16 : zPt 15 16 (.int) := ⟨RX16, TX16, 65, tyX16, rfl, by decide, tyX16_ok, nmX16, rfl, by decide +kernel⟩
theorem zpt_15_17 : zPt 15 17 (.int) := ⟨RX16, TX16, 65, tyX16, rfl, by decide, tyX16_ok, nmX16, rfl, by decide +kernel⟩
theorem zpt_15_18 : zPt 15 18 (.int) := ⟨RX16, TX16, 65, tyX16, rfl, by decide, tyX16_ok, nmX16, rfl, by decide +kernel⟩
theorem zpt_15_19 : zPt 15 19 (.int) := ⟨RX16, TX16, 65, tyX16, rfl, by decide, tyX16_ok, nmX16, rfl, by decide +kernel⟩
theorem zpt_15_22 : zPt 15 22 (.int) := ⟨RX16, TX16, 65, tyX16, rfl, by decide, tyX16_ok, nmX16, rfl, by decide +kernel⟩
theorem zpt_15_24 : zPt 15 24 (.int) := ⟨RX16, TX16, 65, tyX16, rfl, by decide, tyX16_ok, nmX16, rfl, by decide +kernel⟩
theorem zpt_15_25 : zPt 15 25 (.int) := ⟨RX16, TX16, 65, tyX16, rfl, by decide, tyX16_ok, nmX16, rfl, by decide +kernel⟩
theorem zpt_15_27 : zPt 15 27 (.boolean) := ⟨RX16, TX16, 65, tyX16, rfl, by decide, tyX16_ok, nmX16, rfl, by decide +kernel⟩
theorem zpt_15_29 : zPt 15 29 (.int) := ⟨RX16, TX16, 65, tyX16, rfl, by decide, tyX16_ok, nmX16, rfl, by decide +kernel⟩
theorem zpt_15_31 : zPt 15 31 (.int) := ⟨RX16, TX16, 65, tyX16, rfl, by decide, tyX16_ok, nmX16, rfl, by decide +kernel⟩
theorem zpt_15_36 : zPt 15 36 (.int) := ⟨RX16, TX16, 65, tyX16, rfl, by decide, tyX16_ok, nmX16, rfl, by decide +kernel⟩
theorem zpt_15_37 : zPt 15 37 (.int) := ⟨RX16, TX16, 65, tyX16, rfl, by decide, tyX16_ok, nmX16, rfl, by decide +kernel⟩
theorem zpt_15_39 : zPt 15 39 (.object "SumHouseModel$B") := ⟨RX16, TX16, 65, tyX16, rfl, by decide, tyX16_ok, nmX16, rfl, by decide +kernel⟩
theorem zpt_15_40 : zPt 15 40 (.object "SumHouseModel$B") := ⟨RX16, TX16, 65, tyX16, rfl, by decide, tyX16_ok, nmX16, rfl, by decide +kernel⟩
theorem zpt_15_41 : zPt 15 41 (.object "SumHouseModel$B") := ⟨RX16, TX16, 65, tyX16, rfl, by decide, tyX16_ok, nmX16, rfl, by decide +kernel⟩
theorem zpt_15_42 : zPt 15 42 (.object "SumHouseModel$U") := ⟨RX16, TX16, 65, tyX16, rfl, by decide, tyX16_ok, nmX16, rfl, by decide +kernel⟩
theorem zpt_15_43 : zPt 15 43 (.object "SumHouseModel$U") := ⟨RX16, TX16, 65, tyX16, rfl, by decide, tyX16_ok, nmX16, rfl, by decide +kernel⟩
theorem zpt_15_48 : zPt 15 48 (.int) := ⟨RX16, TX16, 65, tyX16, rfl, by decide, tyX16_ok, nmX16, rfl, by decide +kernel⟩
theorem zpt_15_63 : zPt 15 63 (.int) := ⟨RX16, TX16, 65, tyX16, rfl, by decide, tyX16_ok, nmX16, rfl, by decide +kernel⟩
theorem zpt_all : ∀ ci k ty, zft ci k = some (ty, false) → zPt ci k ty := by
  intro ci k ty h
  unfold zft at h
  rcases ci with _ | _ | _ | _ | _ | _ | _ | _ | _ | _ | _ | _ | _ | _ | _ | _ | ci
  · rcases k with _ | _ | _ | _ | _ | k
    · cases h
    · cases h
    · cases h
    · cases h
    · cases h
    · simp [zFT] at h
  · rcases k with _ | k
    · cases h
    · simp [zFT] at h
  · rcases k with _ | _ | _ | k
    · cases h
    · cases h
    · cases h
    · simp [zFT] at h
  · rcases k with _ | _ | _ | k
    · cases h
    · cases h; exact zpt_3_1
    · cases h; exact zpt_3_2
    · simp [zFT] at h
  · rcases k with _ | _ | _ | _ | _ | _ | _ | _ | _ | k
    · cases h
    · cases h
    · cases h
    · cases h
    · cases h
    · cases h
    · cases h
    · cases h
    · cases h
    · simp [zFT] at h
  · rcases k with _ | _ | _ | _ | _ | _ | _ | _ | _ | _ | _ | _ | k
    · cases h; exact zpt_5_0
    · cases h; exact zpt_5_1
    · cases h; exact zpt_5_2
    · cases h; exact zpt_5_3
    · cases h; exact zpt_5_4
    · cases h; exact zpt_5_5
    · cases h; exact zpt_5_6
    · cases h
    · cases h
    · cases h
    · cases h
    · cases h
    · simp [zFT] at h
  · rcases k with _ | _ | _ | _ | _ | _ | _ | _ | _ | _ | _ | _ | _ | _ | k
    · cases h
    · cases h
    · cases h
    · cases h
    · cases h; exact zpt_6_4
    · cases h; exact zpt_6_5
    · cases h; exact zpt_6_6
    · cases h; exact zpt_6_7
    · cases h; exact zpt_6_8
    · cases h; exact zpt_6_9
    · cases h; exact zpt_6_10
    · cases h; exact zpt_6_11
    · cases h; exact zpt_6_12
    · cases h; exact zpt_6_13
    · simp [zFT] at h
  · rcases k with _ | _ | _ | _ | _ | _ | _ | _ | _ | _ | _ | _ | _ | _ | _ | _ | _ | _ | k
    · cases h
    · cases h
    · cases h
    · cases h
    · cases h
    · cases h
    · cases h; exact zpt_7_6
    · cases h; exact zpt_7_7
    · cases h; exact zpt_7_8
    · cases h; exact zpt_7_9
    · cases h; exact zpt_7_10
    · cases h; exact zpt_7_11
    · cases h; exact zpt_7_12
    · cases h
    · cases h
    · cases h
    · cases h
    · cases h; exact zpt_7_17
    · simp [zFT] at h
  · rcases k with _ | _ | _ | _ | _ | _ | _ | _ | k
    · cases h
    · cases h
    · cases h
    · cases h
    · cases h
    · cases h
    · cases h; exact zpt_8_6
    · cases h; exact zpt_8_7
    · simp [zFT] at h
  · rcases k with _ | _ | _ | _ | _ | _ | _ | _ | _ | _ | _ | _ | _ | _ | _ | _ | _ | _ | _ | k
    · cases h
    · cases h
    · cases h; exact zpt_9_2
    · cases h
    · cases h; exact zpt_9_4
    · cases h
    · cases h; exact zpt_9_6
    · cases h
    · cases h; exact zpt_9_8
    · cases h
    · cases h; exact zpt_9_10
    · cases h; exact zpt_9_11
    · cases h; exact zpt_9_12
    · cases h
    · cases h; exact zpt_9_14
    · cases h; exact zpt_9_15
    · cases h; exact zpt_9_16
    · cases h; exact zpt_9_17
    · cases h; exact zpt_9_18
    · simp [zFT] at h
  · rcases k with _ | _ | _ | _ | _ | _ | _ | _ | _ | _ | _ | _ | _ | k
    · cases h
    · cases h
    · cases h
    · cases h
    · cases h
    · cases h
    · cases h
    · cases h
    · cases h
    · cases h
    · cases h; exact zpt_10_10
    · cases h
    · cases h; exact zpt_10_12
    · simp [zFT] at h
  · rcases k with _ | _ | k
    · cases h
    · cases h; exact zpt_11_1
    · simp [zFT] at h
  · rcases k with _ | _ | _ | _ | _ | _ | k
    · cases h; exact zpt_12_0
    · cases h; exact zpt_12_1
    · cases h; exact zpt_12_2
    · cases h; exact zpt_12_3
    · cases h; exact zpt_12_4
    · cases h; exact zpt_12_5
    · simp [zFT] at h
  · rcases k with _ | _ | _ | _ | _ | _ | _ | _ | _ | _ | _ | _ | _ | _ | _ | k
    · cases h; exact zpt_13_0
    · cases h
    · cases h
    · cases h; exact zpt_13_3
    · cases h; exact zpt_13_4
    · cases h; exact zpt_13_5
    · cases h
    · cases h
    · cases h
    · cases h
    · cases h; exact zpt_13_10
    · cases h
    · cases h; exact zpt_13_12
    · cases h; exact zpt_13_13
    · cases h
    · simp [zFT] at h
  · rcases k with _ | _ | k
    · cases h
    · cases h; exact zpt_14_1
    · simp [zFT] at h
  · rcases k with _ | _ | _ | _ | _ | _ | _ | _ | _ | _ | _ | _ | _ | _ | _ | _ | _ | _ | _ | _ | _ | _ | _ | _ | _ | _ | _ | _ | _ | _ | _ | _ | _ | _ | _ | _ | _ | _ | _ | _ | _ | _ | _ | _ | _ | _ | _ | _ | _ | _ | _ | _ | _ | _ | _ | _ | _ | _ | _ | _ | _ | _ | _ | _ | _ | k
    · cases h
    · cases h; exact zpt_15_1
    · cases h
    · cases h; exact zpt_15_3
    · cases h
    · cases h
    · cases h
    · cases h
    · cases h
    · cases h; exact zpt_15_9
    · cases h; exact zpt_15_10
    · cases h
    · cases h; exact zpt_15_12
    · cases h; exact zpt_15_13
    · cases h; exact zpt_15_14
    · cases h
    · cases h; exact zpt_15_16
    · cases h; exact zpt_15_17
    · cases h; exact zpt_15_18
    · cases h; exact zpt_15_19
    · cases h
    · cases h
    · cases h; exact zpt_15_22
    · cases h
    · cases h; exact zpt_15_24
    · cases h; exact zpt_15_25
    · cases h
    · cases h; exact zpt_15_27
    · cases h
    · cases h; exact zpt_15_29
    · cases h
    · cases h; exact zpt_15_31
    · cases h
    · cases h
    · cases h
    · cases h
    · cases h; exact zpt_15_36
    · cases h; exact zpt_15_37
    · cases h
    · cases h; exact zpt_15_39
    · cases h; exact zpt_15_40
    · cases h; exact zpt_15_41
    · cases h; exact zpt_15_42
    · cases h; exact zpt_15_43
    · cases h
    · cases h
    · cases h
    · cases h
    · cases h; exact zpt_15_48
    · cases h
    · cases h
    · cases h
    · cases h
    · cases h
    · cases h
    · cases h
    · cases h
    · cases h
    · cases h
    · cases h
    · cases h
    · cases h
    · cases h
    · cases h; exact zpt_15_63
    · cases h
    · simp [zFT] at h
  · simp [zFT] at h
/-- what the tables say of a field's name in a class's pool -/
def zFl (own : String) (idx ci k : Nat) : Prop := ∃ (C : String) (T : u_T) (N : Nat), vwCl[ci]? = some (C, T, N) ∧ k < N ∧ (∀ w ∈ u_ws C T N, w ∈ zAll) ∧ Cond.fieldLink own idx (T k).1 (T k).2.1 (T k).2.2.1 ∈ zAll
def zfit (ty : FieldType) (v : Value) : Bool := match ty, v with
  | .int, .int _ => true
  | .boolean, .int x => decide (x = 0) || decide (x = 1)
  | .long, .long _ => true
  | .object _, .ref _ => true
  | .object _, .null => true
  | .array _, .ref _ => true
  | .array _, .null => true
  | _, _ => false
theorem zfit_ok {ty : FieldType} {v : Value} (h : zfit ty v = true) : narrow ty v = v ∧ fits ty v = true := by
  unfold zfit at h
  split at h
  · exact ⟨rfl, rfl⟩
  · rw [Bool.or_eq_true, decide_eq_true_eq, decide_eq_true_eq] at h
    rcases h with h | h <;> subst h <;> exact ⟨by decide, by decide⟩
  · exact ⟨rfl, rfl⟩
  · exact ⟨rfl, rfl⟩
  · exact ⟨rfl, rfl⟩
  · exact ⟨rfl, rfl⟩
  · exact ⟨rfl, rfl⟩
  · cases h
/-- a class's pool, as far as it is used: fields, ints, longs -/
abbrev zPool : Type := List (Nat × Nat × Nat) × List (Nat × Int32) × List (Nat × Int64)
def zPoolOk (own : String) (q : zPool) : Prop := (∀ x ∈ q.1, zFl own x.1 x.2.1 x.2.2) ∧ (∀ x ∈ q.2.1, Cond.constant own x.1 x.2 ∈ zAll) ∧ ∀ x ∈ q.2.2, Cond.constantLong own x.1 x.2 ∈ zAll
/-- the class of an array's elements -/
def zEl (t : Nat) : Nat := match t with
  | 3 => 5
  | 4 => 14
  | 5 => 11
  | 6 => 13
  | _ => 1000
set_option maxHeartbeats 4000000 in
def zheap (pl : zPool) (i : Instr) (pc : Nat) (lv : zL) (st : List Value) (w : zM) : Option (Nat × zL × List Value × zM) :=
  match i with
  | .getfield idx => match st with
    | .ref a :: r => match zlk pl.1 idx, w a with
      | some (ci, k), some (.inl (cj, fs)) => if cj = ci then match fs[k]? with
          | some v => some (pc + 3, lv, v :: r, w)
          | none => none
        else none
      | _, _ => none
    | _ => none
  | .putfield idx => match st with
    | v :: .ref a :: r => match zlk pl.1 idx, w a with
      | some (ci, k), some (.inl (cj, fs)) => if cj = ci ∧ k < fs.length then match zft ci k with
          | some (ty, false) => bif zfit ty v then some (pc + 3, lv, r, zup w a (.inl (ci, fs.set k v))) else none
          | _ => none
        else none
      | _, _ => none
    | _ => none
  | .iaload => match st with
    | .int j :: .ref a :: r => match w a with
      | some (.inr (0, n, .inl f)) => if ¬ (j < 0 ∨ n ≤ j.toNatClampNeg) then some (pc + 1, lv, .int (f j.toNatClampNeg) :: r, w) else none
      | _ => none
    | _ => none
  | .iastore => match st with
    | .int x :: .int j :: .ref a :: r => match w a with
      | some (.inr (0, n, .inl f)) => if ¬ (j < 0 ∨ n ≤ j.toNatClampNeg) then some (pc + 1, lv, r, zup w a (.inr (0, n, .inl (upd f j.toNatClampNeg x)))) else none
      | _ => none
    | _ => none
  | .baload => match st with
    | .int j :: .ref a :: r => match w a with
      | some (.inr (1, n, .inl f)) => if ¬ (j < 0 ∨ n ≤ j.toNatClampNeg) then some (pc + 1, lv, .int (f j.toNatClampNeg) :: r, w) else none
      | some (.inr (2, n, .inl f)) => if ¬ (j < 0 ∨ n ≤ j.toNatClampNeg) then some (pc + 1, lv, .int (f j.toNatClampNeg) :: r, w) else none
      | _ => none
    | _ => none
  | .bastore => match st with
    | .int x :: .int j :: .ref a :: r => match w a with
      | some (.inr (1, n, .inl f)) => if ¬ (j < 0 ∨ n ≤ j.toNatClampNeg) then some (pc + 1, lv, r, zup w a (.inr (1, n, .inl (upd f j.toNatClampNeg (vp_nar .byte x))))) else none
      | some (.inr (2, n, .inl f)) => if ¬ (j < 0 ∨ n ≤ j.toNatClampNeg) then some (pc + 1, lv, r, zup w a (.inr (2, n, .inl (upd f j.toNatClampNeg (vp_nar .boolean x))))) else none
      | _ => none
    | _ => none
  | .aaload => match st with
    | .int j :: .ref a :: r => match w a with
      | some (.inr (t, n, .inr f)) => if 3 ≤ t ∧ t ≤ 8 ∧ ¬ (j < 0 ∨ n ≤ j.toNatClampNeg) then some (pc + 1, lv, va_rf (f j.toNatClampNeg) :: r, w) else none
      | _ => none
    | _ => none
  | .aastore => match st with
    | .ref v :: .int j :: .ref a :: r => match w a, w v with
      | some (.inr (t, n, .inr f)), some (.inl (ci, _)) => if 3 ≤ t ∧ t ≤ 6 ∧ ci = zEl t ∧ ¬ (j < 0 ∨ n ≤ j.toNatClampNeg) then some (pc + 1, lv, r, zup w a (.inr (t, n, .inr (va_up f j.toNatClampNeg (some v))))) else none
      | some (.inr (t, n, .inr f)), some (.inr (u, _, _)) => if (t = 7 ∧ u = 0 ∨ t = 8 ∧ u = 4) ∧ ¬ (j < 0 ∨ n ≤ j.toNatClampNeg) then some (pc + 1, lv, r, zup w a (.inr (t, n, .inr (va_up f j.toNatClampNeg (some v))))) else none
      | _, _ => none
    | _ => none
  | .arraylength => match st with
    | .ref a :: r => match w a with
      | some (.inr (t, n, .inl _)) => if t ≤ 2 then some (pc + 1, lv, .int (Int32.ofNat n) :: r, w) else none
      | some (.inr (t, n, .inr _)) => if 3 ≤ t ∧ t ≤ 8 then some (pc + 1, lv, .int (Int32.ofNat n) :: r, w) else none
      | _ => none
    | _ => none
  | .ldc idx => match zlk pl.2.1 idx with
    | some v => some (pc + 2, lv, .int v :: st, w)
    | none => none
  | .ldc_w idx => match zlk pl.2.1 idx with
    | some v => some (pc + 3, lv, .int v :: st, w)
    | none => none
  | .ldc2_w idx => match zlk pl.2.2 idx with
    | some v => some (pc + 3, lv, .long v :: st, w)
    | none => none
  | .if_acmp .eq off => match st with
    | .ref y :: .ref x :: r => bif ztgok pc off then some (if x = y then ztg pc off else pc + 3, lv, r, w) else none
    | _ => none
  | .if_acmp .ne off => match st with
    | .ref y :: .ref x :: r => bif ztgok pc off then some (if ¬ x = y then ztg pc off else pc + 3, lv, r, w) else none
    | _ => none
  | _ => none
end
section
section ZHEAP
variable {p : Program} {l : Launch} {e : Env} {R : Room} {s : State} {m : MethodId} {args : Array Value} {below : List Frame} {meth : Method} {c : Code} {H : Heap} {locs : List Loc} {cells slots : Nat} {Q : State → Prop}
variable {cc : ByteArray} {pc nL : Nat} {ls : Array Slot} {lv lv' : zL} {rest st st' : List Value} {pc' : Nat} {i : Instr} {D : va_G} {aC : Nat → ClassId} {base a : Nat} {w w' : zM} {H0 : Heap} {own : String} {pl : zPool}
theorem zcell_lt (hF : zFW D aC base w H) {x : zC} (h : w a = some x) : base ≤ a := (hF a x h).1
theorem zs_get (hx : p.tables.exec = Jvm.exec) (hb : c.code = cc) (hown : s.vm.findClass own = some m.cls) (hall : ∀ w ∈ zAll, w.before args s = true) (hK : zK D aC s) (hF : zFW D aC base w H) {idx ci k : Nat} {fs : List Value} {v : Value} (hl : zFl own idx ci k) (hw : w a = some (.inl (ci, fs))) (hv : fs[k]? = some v) (hdg : decode cc pc = .ok (.getfield idx, 3))
    (kk : W p l e R s m args below meth c H locs cells slots Q (F0 m (pc + 3) ls (v :: rest))) : W p l e R s m args below meth c H locs cells slots Q (F0 m pc ls (.ref a :: rest)) := by
  obtain ⟨C, T, N, hc, hk, hin, hlk⟩ := hl
  exact va_get (D := D) hx hb hall hin hown hK.1 (zone hF hw) 0 rfl hc k hk (hall _ hlk) (fun _ h => h) hv hdg kk
theorem zs_put (hx : p.tables.exec = Jvm.exec) (hb : c.code = cc) (hown : s.vm.findClass own = some m.cls) (hall : ∀ w ∈ zAll, w.before args s = true) (hK : zK D aC s) (hF : zFW D aC base w H) (hS : va_S (zN base) H0 H locs) {idx ci k : Nat} {fs : List Value} {v : Value} {ty : FieldType} (hl : zFl own idx ci k) (hp : zPt ci k ty) (hw : w a = some (.inl (ci, fs))) (hlen : k < fs.length) (hfit : zfit ty v = true) (hdg : decode cc pc = .ok (.putfield idx, 3))
    (kk : ∀ (H1 : Heap) (locs1 : List Loc), H1.size = H.size → zFW D aC base (zup w a (.inl (ci, fs.set k v))) H1 → va_S (zN base) H0 H1 locs1 → W p l e R s m args below meth c H1 locs1 cells slots Q (F0 m (pc + 3) ls rest)) : W p l e R s m args below meth c H locs cells slots Q (F0 m pc ls (v :: .ref a :: rest)) := by
  obtain ⟨C, T, N, hc, hk, hin, hlk⟩ := hl
  obtain ⟨C', T', N', ty0, hc', hk', hty, hnm, hfin, hd⟩ := hp
  cases hc.symm.trans hc'
  obtain ⟨g1, g2⟩ := zfit_ok hfit
  refine zput (D := D) hx hb hall hin ty0 hty hnm hown hK.1 (zone hF hw) (zoneD (A := zN base) (zcell_lt hF hw)) hS 0 rfl hc k hk (hall _ hlk) (fun _ h => h) hfin hd g1 g2 hlen hdg (fun H1 locs1 hb1 hP1 hD1 hS1 => ?_)
  exact kk H1 locs1 hb1.1 (hF.put hb1 (zcell_lt hF hw) (zone0 hP1)) hS1
theorem zs_iast (hx : p.tables.exec = Jvm.exec) (hb : c.code = cc) (hK : zK D aC s) (hF : zFW D aC base w H) (hS : va_S (zN base) H0 H locs) {n : Nat} {f : Nat → Int32} {j x : Int32} (hw : w a = some (.inr (0, n, .inl f))) (hin : vp_in j n) (hdg : decode cc pc = .ok (.iastore, 1))
    (kk : ∀ (H1 : Heap) (locs1 : List Loc), H1.size = H.size → zFW D aC base (zup w a (.inr (0, n, .inl (upd f j.toNatClampNeg x)))) H1 → va_S (zN base) H0 H1 locs1 → W p l e R s m args below meth c H1 locs1 cells slots Q (F0 m (pc + 1) ls rest)) : W p l e R s m args below meth c H locs cells slots Q (F0 m pc ls (.int x :: .int j :: .ref a :: rest)) :=
  ziast (D := D) hx hb hK.1 (zone hF hw) (zoneD (A := zN base) (zcell_lt hF hw)) hS 0 0 rfl rfl hin hdg (fun H1 locs1 hb1 hP1 _ hS1 => kk H1 locs1 hb1.1 (hF.put hb1 (zcell_lt hF hw) (zone0 hP1)) hS1)
theorem zs_bast (hx : p.tables.exec = Jvm.exec) (hb : c.code = cc) (hK : zK D aC s) (hF : zFW D aC base w H) (hS : va_S (zN base) H0 H locs) {n : Nat} {f : Nat → Int32} {j x : Int32} (hw : w a = some (.inr (1, n, .inl f))) (hin : vp_in j n) (hdg : decode cc pc = .ok (.bastore, 1))
    (kk : ∀ (H1 : Heap) (locs1 : List Loc), H1.size = H.size → zFW D aC base (zup w a (.inr (1, n, .inl (upd f j.toNatClampNeg (vp_nar .byte x))))) H1 → va_S (zN base) H0 H1 locs1 → W p l e R s m args below meth c H1 locs1 cells slots Q (F0 m (pc + 1) ls rest)) : W p l e R s m args below meth c H locs cells slots Q (F0 m pc ls (.int x :: .int j :: .ref a :: rest)) := by
  have hP : va_P D vwCl [(a, zcell aC (.inr (1, n, .inl f)))] H := zone hF hw
  have hD : va_D (zN base) [(a, zcell aC (.inr (1, n, .inl f)))] := zoneD (zcell_lt hF hw)
  have ha : ([(a, zcell aC (.inr (1, n, .inl f)))] : va_W)[0]? = some (a, .inl (aC 1, n, .inl f)) := rfl
  have ht : (zT aC)[1]? = some (aC 1, .byte) := rfl
  refine W.bast hx hb (hP 0 _ ha) ((hK.1.2 1 _ ht).1 n (fun j => .int (f j))) (fun q => by cases q) (by show ¬ (j < 0 ∨ (arrV _ _ _).slots.size ≤ _); rw [arrV_size]; exact hin) rfl rfl hdg fun H1 e z oq => ?_
  refine kk H1 _ z (hF.put ⟨z, oq⟩ (zcell_lt hF hw) ?_) (hS.put z oq (hD.2 0 _ ha))
  show H1[a]? = some (vp_cell _ _)
  rw [e, vp_cell_i, vp_cell_i, arrV_store]
  congr 2
  funext q
  by_cases hq : q = j.toNatClampNeg
  · subst hq
    simp [updV, upd, vp_nar]
    try rfl
  · simp [updV, upd, hq]
theorem zs_zast (hx : p.tables.exec = Jvm.exec) (hb : c.code = cc) (hK : zK D aC s) (hF : zFW D aC base w H) (hS : va_S (zN base) H0 H locs) {n : Nat} {f : Nat → Int32} {j x : Int32} (hw : w a = some (.inr (2, n, .inl f))) (hin : vp_in j n) (hdg : decode cc pc = .ok (.bastore, 1))
    (kk : ∀ (H1 : Heap) (locs1 : List Loc), H1.size = H.size → zFW D aC base (zup w a (.inr (2, n, .inl (upd f j.toNatClampNeg (vp_nar .boolean x))))) H1 → va_S (zN base) H0 H1 locs1 → W p l e R s m args below meth c H1 locs1 cells slots Q (F0 m (pc + 1) ls rest)) : W p l e R s m args below meth c H locs cells slots Q (F0 m pc ls (.int x :: .int j :: .ref a :: rest)) := by
  have hP : va_P D vwCl [(a, zcell aC (.inr (2, n, .inl f)))] H := zone hF hw
  have hD : va_D (zN base) [(a, zcell aC (.inr (2, n, .inl f)))] := zoneD (zcell_lt hF hw)
  have ha : ([(a, zcell aC (.inr (2, n, .inl f)))] : va_W)[0]? = some (a, .inl (aC 2, n, .inl f)) := rfl
  have ht : (zT aC)[2]? = some (aC 2, .boolean) := rfl
  refine W.zast hx hb (hP 0 _ ha) ((hK.1.2 2 _ ht).1 n (fun j => .int (f j))) (fun q => by cases q) (by show ¬ (j < 0 ∨ (arrV _ _ _).slots.size ≤ _); rw [arrV_size]; exact hin) rfl rfl hdg fun H1 e z oq => ?_
  refine kk H1 _ z (hF.put ⟨z, oq⟩ (zcell_lt hF hw) ?_) (hS.put z oq (hD.2 0 _ ha))
  show H1[a]? = some (vp_cell _ _)
  rw [e, vp_cell_i, vp_cell_i, arrV_store]
  congr 2
  funext q
  by_cases hq : q = j.toNatClampNeg
  · subst hq
    simp [updV, upd, vp_nar]
    try rfl
  · simp [updV, upd, hq]
theorem zs_aald (hx : p.tables.exec = Jvm.exec) (hb : c.code = cc) (hK : zK D aC s) (hF : zFW D aC base w H) {t n : Nat} {f : Nat → Option Nat} {j : Int32} (hw : w a = some (.inr (t, n, .inr f))) (h3 : 3 ≤ t) (h8 : t ≤ 8) (hin : vp_in j n) (hdg : decode cc pc = .ok (.aaload, 1))
    (kk : W p l e R s m args below meth c H locs cells slots Q (F0 m (pc + 1) ls (va_rf (f j.toNatClampNeg) :: rest))) : W p l e R s m args below meth c H locs cells slots Q (F0 m pc ls (.int j :: .ref a :: rest)) := by
  have ht : ∃ ty : FieldType, (zT aC)[t]? = some (aC t, ty) ∧ ty.isReference = true := by
    obtain rfl | rfl | rfl | rfl | rfl | rfl : t = 3 ∨ t = 4 ∨ t = 5 ∨ t = 6 ∨ t = 7 ∨ t = 8 := by omega
    all_goals exact ⟨_, rfl, rfl⟩
  obtain ⟨ty, ht, hr⟩ := ht
  have hlt : j.toNatClampNeg < n := Nat.not_le.mp fun q => hin (Or.inr q)
  exact W.aald (v := va_rf (f j.toNatClampNeg)) (ty := ty) hx hb (hF a _ hw).2 ((hK.1.2 t _ ht).1 n (fun j => va_rf (f j))) hr (fun q => by cases q) (by show ¬ (j < 0 ∨ (arrV _ _ _).slots.size ≤ _); rw [arrV_size]; exact hin) (by show (arrV _ _ _).slots[_]? = _; rw [arrV_read _ _ hlt]) rfl rfl hdg kk
theorem zs_aast (hx : p.tables.exec = Jvm.exec) (hb : c.code = cc) (hK : zK D aC s) (hF : zFW D aC base w H) (hS : va_S (zN base) H0 H locs) {t n ci v : Nat} {fs : List Value} {f : Nat → Option Nat} {j : Int32} (hw : w a = some (.inr (t, n, .inr f))) (hv : w v = some (.inl (ci, fs))) (h3 : 3 ≤ t) (h6 : t ≤ 6) (he : ci = zEl t) (hin : vp_in j n) (hdg : decode cc pc = .ok (.aastore, 1))
    (kk : ∀ (H1 : Heap) (locs1 : List Loc), H1.size = H.size → zFW D aC base (zup w a (.inr (t, n, .inr (va_up f j.toNatClampNeg (some v))))) H1 → va_S (zN base) H0 H1 locs1 → W p l e R s m args below meth c H1 locs1 cells slots Q (F0 m (pc + 1) ls rest)) : W p l e R s m args below meth c H locs cells slots Q (F0 m pc ls (.ref v :: .int j :: .ref a :: rest)) := by
  subst he
  have ht : ∃ r : vw_C, (zT aC)[t]? = some (aC t, .object r.1) ∧ vwCl[zEl t]? = some r := by
    obtain rfl | rfl | rfl | rfl : t = 3 ∨ t = 4 ∨ t = 5 ∨ t = 6 := by omega
    all_goals exact ⟨_, rfl, rfl⟩
  obtain ⟨r, ht, hr⟩ := ht
  refine zastq (D := D) (r := r) hx hb hK.1 (zone hF hw) (zoneD (A := zN base) (zcell_lt hF hw)) hS 0 t (zEl t) rfl ht (hF v _ hv).2 hr hin hdg (fun H1 locs1 hb1 hP1 _ hS1 => ?_)
  exact kk H1 locs1 hb1.1 (hF.put hb1 (zcell_lt hF hw) (zone0 hP1)) hS1
theorem zs_aastA (hx : p.tables.exec = Jvm.exec) (hb : c.code = cc) (hK : zK D aC s) (hF : zFW D aC base w H) (hS : va_S (zN base) H0 H locs) {t u n n2 v : Nat} {g2 : zA} {f : Nat → Option Nat} {j : Int32} (hw : w a = some (.inr (t, n, .inr f))) (hv : w v = some (.inr (u, n2, g2))) (htu : t = 7 ∧ u = 0 ∨ t = 8 ∧ u = 4) (hin : vp_in j n) (hdg : decode cc pc = .ok (.aastore, 1))
    (kk : ∀ (H1 : Heap) (locs1 : List Loc), H1.size = H.size → zFW D aC base (zup w a (.inr (t, n, .inr (va_up f j.toNatClampNeg (some v))))) H1 → va_S (zN base) H0 H1 locs1 → W p l e R s m args below meth c H1 locs1 cells slots Q (F0 m (pc + 1) ls rest)) : W p l e R s m args below meth c H locs cells slots Q (F0 m pc ls (.ref v :: .int j :: .ref a :: rest)) := by
  have hco : zCo s (aC t) (aC u) := by
    rcases htu with ⟨rfl, rfl⟩ | ⟨rfl, rfl⟩
    · exact hK.2.2.2.2.2.2.2.1
    · exact hK.2.2.2.2.2.2.2.2
  obtain ⟨kA, kI, ty, k1, k2, k3, k4⟩ := hco
  have hlt : j.toNatClampNeg < n := Nat.not_le.mp fun q => hin (Or.inr q)
  have h0 : ¬ j < 0 := fun q => hin (Or.inl q)
  obtain ⟨cv, hcv, hcl, hvm⟩ : ∃ cv : Cell, H[v]? = some cv ∧ cv.cls = aC u ∧ cv.vm = .none := by
    have h := (hF v _ hv).2
    rcases g2 with g2 | g2
    · exact ⟨_, h, rfl, rfl⟩
    · exact ⟨_, h, rfl, rfl⟩
  refine W.aast hx hb (hF a _ hw).2 (fun q h => by cases h) (fun h => by cases h) k1 k2 k3 k4 ⟨h0, by show _ < (arrV _ _ _).slots.size; rw [arrV_size]; exact hlt⟩ hcv (fun q h => by rw [hvm] at h; cases h) (by rw [hcl]; exact k4) (by rw [hcl]; exact zas_self) rfl rfl hdg fun H1 e z oq => ?_
  refine kk H1 _ z (hF.put ⟨z, oq⟩ (zcell_lt hF hw) ?_) (hS.put z oq (zcell_lt hF hw))
  show H1[a]? = some (vp_cell _ _)
  rw [e]
  rw [vp_cell_q, vp_cell_q, arrV_store]
  congr 2
  funext q
  by_cases hq : q = j.toNatClampNeg
  · subst hq
    simp [updV, va_up, va_rf]
  · simp [updV, va_up, hq]
theorem zs_alen (hx : p.tables.exec = Jvm.exec) (hb : c.code = cc) (hK : zK D aC s) (hF : zFW D aC base w H) {t n : Nat} {g : zA} (hw : w a = some (.inr (t, n, g))) (h8 : t ≤ 8) (hdg : decode cc pc = .ok (.arraylength, 1))
    (kk : W p l e R s m args below meth c H locs cells slots Q (F0 m (pc + 1) ls (.int (Int32.ofNat n) :: rest))) : W p l e R s m args below meth c H locs cells slots Q (F0 m pc ls (.ref a :: rest)) := by
  have ht : ∃ ty : FieldType, (zT aC)[t]? = some (aC t, ty) := by
    obtain rfl | rfl | rfl | rfl | rfl | rfl | rfl | rfl | rfl : t = 0 ∨ t = 1 ∨ t = 2 ∨ t = 3 ∨ t = 4 ∨ t = 5 ∨ t = 6 ∨ t = 7 ∨ t = 8 := by omega
    all_goals exact ⟨_, rfl⟩
  obtain ⟨ty, ht⟩ := ht
  rcases g with g | g
  · exact va_alen (D := D) hx hb hK.1 (zone hF hw) 0 t rfl ht rfl hdg kk
  · exact va_alen (D := D) hx hb hK.1 (zone hF hw) 0 t rfl ht rfl hdg kk
set_option maxHeartbeats 4000000 in
theorem zheap_ok (hx : p.tables.exec = Jvm.exec) (hb : c.code = cc) (hown : s.vm.findClass own = some m.cls) (hall : ∀ w ∈ zAll, w.before args s = true) (hK : zK D aC s) (hpl : zPoolOk own pl) (hF : zFW D aC base w H) (hS : va_S (zN base) H0 H locs) (hl : lv_has ls nL lv) (hdg : decode cc pc = .ok (i, zlen i)) (hp : zheap pl i pc lv st w = some (pc', lv', st', w'))
    (kk : ∀ (H1 : Heap) (locs1 : List Loc), H1.size = H.size → zFW D aC base w' H1 → va_S (zN base) H0 H1 locs1 → lv_has ls nL lv' → W p l e R s m args below meth c H1 locs1 cells slots Q (F0 m pc' ls st')) : W p l e R s m args below meth c H locs cells slots Q (F0 m pc ls st) := by
  cases i with
  | getfield idx =>
    simp only [zheap] at hp
    split at hp
    · split at hp
      · next hz hw =>
        split at hp
        · next hci =>
          subst hci
          split at hp
          · next hv => cases hp; exact zs_get hx hb hown hall hK hF (hpl.1 _ (zlk_mem hz)) hw hv hdg (kk H locs rfl hF hS hl)
          · cases hp
        · cases hp
      · cases hp
    · cases hp
  | putfield idx =>
    simp only [zheap] at hp
    split at hp
    · split at hp
      · next hz hw =>
        split at hp
        · next hci =>
          obtain ⟨hci, hlen⟩ := hci
          subst hci
          split at hp
          · next hft =>
            cases hfit : zfit _ _ with
            | false => rw [hfit] at hp; cases hp
            | true =>
              rw [hfit] at hp
              cases hp
              exact zs_put hx hb hown hall hK hF hS (hpl.1 _ (zlk_mem hz)) (zpt_all _ _ _ hft) hw hlen hfit hdg (fun H1 locs1 z h1 h2 => kk H1 locs1 z h1 h2 hl)
          · cases hp
        · cases hp
      · cases hp
    · cases hp
  | iaload =>
    simp only [zheap] at hp
    split at hp
    · split at hp
      · next hw =>
        split at hp
        · next hin => cases hp; exact va_iald (D := D) hx hb hK.1 (zone hF hw) 0 0 rfl rfl hin hdg (kk H locs rfl hF hS hl)
        · cases hp
      · cases hp
    · cases hp
  | iastore =>
    simp only [zheap] at hp
    split at hp
    · split at hp
      · next hw =>
        split at hp
        · next hin => cases hp; exact zs_iast hx hb hK hF hS hw hin hdg (fun H1 locs1 z h1 h2 => kk H1 locs1 z h1 h2 hl)
        · cases hp
      · cases hp
    · cases hp
  | baload =>
    simp only [zheap] at hp
    split at hp
    · split at hp
      · next hw =>
        split at hp
        · next hin => cases hp; exact va_bald (D := D) hx hb hK.1 (zone hF hw) 0 1 rfl rfl hin hdg (kk H locs rfl hF hS hl)
        · cases hp
      · next hw =>
        split at hp
        · next hin => cases hp; exact va_zald (D := D) hx hb hK.1 (zone hF hw) 0 2 rfl rfl hin hdg (kk H locs rfl hF hS hl)
        · cases hp
      · cases hp
    · cases hp
  | bastore =>
    simp only [zheap] at hp
    split at hp
    · split at hp
      · next hw =>
        split at hp
        · next hin => cases hp; exact zs_bast hx hb hK hF hS hw hin hdg (fun H1 locs1 z h1 h2 => kk H1 locs1 z h1 h2 hl)
        · cases hp
      · next hw =>
        split at hp
        · next hin => cases hp; exact zs_zast hx hb hK hF hS hw hin hdg (fun H1 locs1 z h1 h2 => kk H1 locs1 z h1 h2 hl)
        · cases hp
      · cases hp
    · cases hp
  | aaload =>
    simp only [zheap] at hp
    split at hp
    · split at hp
      · next hw =>
        split at hp
        · next hin => cases hp; exact zs_aald hx hb hK hF hw hin.1 hin.2.1 hin.2.2 hdg (kk H locs rfl hF hS hl)
        · cases hp
      · cases hp
    · cases hp
  | aastore =>
    simp only [zheap] at hp
    split at hp
    · split at hp
      · next hw hv =>
        split at hp
        · next hin => cases hp; exact zs_aast hx hb hK hF hS hw hv hin.1 hin.2.1 hin.2.2.1 hin.2.2.2 hdg (fun H1 locs1 z h1 h2 => kk H1 locs1 z h1 h2 hl)
        · cases hp
      · next hw hv =>
        split at hp
        · next hin => cases hp; exact zs_aastA hx hb hK hF hS hw hv hin.1 hin.2 hdg (fun H1 locs1 z h1 h2 => kk H1 locs1 z h1 h2 hl)
        · cases hp
      · cases hp
    · cases hp
  | arraylength =>
    simp only [zheap] at hp
    split at hp
    · split at hp
      · next hw =>
        split at hp
        · next ht => cases hp; exact zs_alen hx hb hK hF hw (by omega) hdg (kk H locs rfl hF hS hl)
        · cases hp
      · next hw =>
        split at hp
        · next ht => cases hp; exact zs_alen hx hb hK hF hw (by omega) hdg (kk H locs rfl hF hS hl)
        · cases hp
      · cases hp
    · cases hp
  | ldc idx =>
    simp only [zheap] at hp
    split at hp
    · next hz => cases hp; exact lv_ldc hx hb hown (hall _ (hpl.2.1 _ (zlk_mem hz))) hdg (kk H locs rfl hF hS hl)
    · cases hp
  | ldc_w idx =>
    simp only [zheap] at hp
    split at hp
    · next hz => cases hp; exact lv_ldcw hx hb hown (hall _ (hpl.2.1 _ (zlk_mem hz))) hdg (kk H locs rfl hF hS hl)
    · cases hp
  | ldc2_w idx =>
    simp only [zheap] at hp
    split at hp
    · next hz => cases hp; exact lv_ldc2 hx hb hown (hall _ (hpl.2.2 _ (zlk_mem hz))) hdg (kk H locs rfl hF hS hl)
    · cases hp
  | if_acmp cnd off =>
    cases cnd with
    | eq =>
      simp only [zheap] at hp
      split at hp
      · next y x r =>
        cases hg : ztgok pc off with
        | false => rw [hg] at hp; cases hp
        | true =>
          rw [hg] at hp
          simp only [cond_true, Option.some.injEq, Prod.mk.injEq] at hp
          obtain ⟨h1, h2, h3, h4⟩ := hp
          subst h2; subst h3; subst h4
          refine lv_acmp_eq (rx := some x) (ry := some y) hx hb hdg (ztg_eq hg) (fun q => ?_) (fun q => ?_)
          · rw [if_pos (Option.some.inj q)] at h1; subst h1; exact kk H locs rfl hF hS hl
          · rw [if_neg (fun z => q (congrArg some z))] at h1; subst h1; exact kk H locs rfl hF hS hl
      · cases hp
    | ne =>
      simp only [zheap] at hp
      split at hp
      · next y x r =>
        cases hg : ztgok pc off with
        | false => rw [hg] at hp; cases hp
        | true =>
          rw [hg] at hp
          simp only [cond_true, Option.some.injEq, Prod.mk.injEq] at hp
          obtain ⟨h1, h2, h3, h4⟩ := hp
          subst h2; subst h3; subst h4
          refine lv_acmp_ne (rx := some x) (ry := some y) hx hb hdg (ztg_eq hg) (fun q => ?_) (fun q => ?_)
          · rw [if_pos (fun z => q (congrArg some z))] at h1; subst h1; exact kk H locs rfl hF hS hl
          · rw [if_neg (fun z => z (Option.some.inj q))] at h1; subst h1; exact kk H locs rfl hF hS hl
      · cases hp
  | _ => exact absurd hp (by intro q; cases q)
end ZHEAP
end
section
/-! the small machine's runs: whole methods, calls within -/
/-- a method: name, code, locals, what it answers, its class's place, how many arguments (the receiver apart), static, cells and slots that it may make, pool, calls, instructions -/
abbrev zQ : Type := MethodName × ByteArray × Nat × Option FieldType × Nat × Nat × Bool × (Nat × Nat) × zPool × List (Nat × Nat) × List (Nat × Instr)
abbrev zqY (q : zQ) : MethodName := q.1
abbrev zqB (q : zQ) : ByteArray := q.2.1
abbrev zqL (q : zQ) : Nat := q.2.2.1
abbrev zqR (q : zQ) : Option FieldType := q.2.2.2.1
abbrev zqC (q : zQ) : Nat := q.2.2.2.2.1
abbrev zqN (q : zQ) : Nat := q.2.2.2.2.2.1
abbrev zqS (q : zQ) : Bool := q.2.2.2.2.2.2.1
abbrev zqM (q : zQ) : Nat × Nat := q.2.2.2.2.2.2.2.1
abbrev zqP (q : zQ) : zPool := q.2.2.2.2.2.2.2.2.1
abbrev zqK (q : zQ) : List (Nat × Nat) := q.2.2.2.2.2.2.2.2.2.1
abbrev zqI (q : zQ) : List (Nat × Instr) := q.2.2.2.2.2.2.2.2.2.2
def zsum (r : List Value) : Nat := (r.map fun v => v.category).sum
/-- what a method answers at its end -/
def zret (ret : Option FieldType) (i : Instr) (st : List Value) : Option (Option Value) :=
  match i with
  | .ireturn => match st with
    | [.int v] => match ret with
      | some .int => some (some (.int v))
      | some .boolean => if v = 0 ∨ v = 1 then some (some (.int v)) else none
      | _ => none
    | _ => none
  | .areturn => match st with
    | [.ref a] => match ret with
      | some (.object _) => some (some (.ref a))
      | some (.array _) => some (some (.ref a))
      | _ => none
    | [.null] => match ret with
      | some (.object _) => some (some .null)
      | some (.array _) => some (some .null)
      | _ => none
    | _ => none
  | .return_ => match st with
    | [] => match ret with
      | none => some none
      | _ => none
    | _ => none
  | _ => none
/-- the one thing that is thrown: an object of the class at place 12 -/
def zthr (i : Instr) (st : List Value) (w : zM) : Bool := match i with
  | .athrow => match st with
    | .ref a :: _ => match w a with
      | some (.inl (ci, _)) => decide (ci = 12)
      | _ => false
    | _ => false
  | _ => false
noncomputable def zspec (q : zQ) (d : Nat) (i : Instr) (pc : Nat) (st : List Value) (w : zM) (sz mc ms : Nat) : Option (Nat × List Value × zM × Nat × Nat × Nat) :=
  match i with
  | .invokestatic idx => match zlk (zqK q) idx with
    | some 1000 => match st with
      | .int y :: .int x :: r => if 1 ≤ d ∧ zsum r ≤ 8 then some (pc + 3, .int (if x < y then y else x) :: r, w, sz, mc, ms) else none
      | _ => none
    | some 1001 => match st with
      | .int y :: .int x :: r => if 1 ≤ d ∧ zsum r ≤ 8 then some (pc + 3, .int (if y < x then y else x) :: r, w, sz, mc, ms) else none
      | _ => none
    | some 1002 => match st with
      | .int x :: r => if 1 ≤ d ∧ zsum r ≤ 8 then some (pc + 3, .int (if 0 ≤ x then x else 0 - x) :: r, w, sz, mc, ms) else none
      | _ => none
    | some 1003 => match st with
      | .int n :: .int dp :: .ref b :: .int sp :: .ref a :: r => match w a, w b with
        | some (.inr (t, n0, .inl f)), some (.inr (u, n1, .inl g)) => if 1 ≤ d ∧ zsum r ≤ 8 ∧ t = u ∧ ¬ sp < 0 ∧ ¬ dp < 0 ∧ ¬ n < 0 ∧ sp.toNatClampNeg + n.toNatClampNeg ≤ n0 ∧ dp.toNatClampNeg + n.toNatClampNeg ≤ n1 then
            match t with
            | 0 => some (pc + 3, r, zup w b (.inr (0, n1, .inl (va_cpy f g sp.toNatClampNeg dp.toNatClampNeg n.toNatClampNeg))), sz, mc, ms)
            | 1 => @ite _ (∀ i : Nat, i < n.toNatClampNeg → fits .byte (.int (f (sp.toNatClampNeg + i))) = true) (Classical.propDecidable _) (some (pc + 3, r, zup w b (.inr (1, n1, .inl (va_cpy f g sp.toNatClampNeg dp.toNatClampNeg n.toNatClampNeg))), sz, mc, ms)) none
            | _ => none
          else none
        | _, _ => none
      | _ => none
    | _ => none
  | .anewarray idx => match zlk (zqK q) idx with
    | some 1004 => match st with
      | .int n :: r => if ¬ n < 0 ∧ n.toNatClampNeg * 4 ≤ 536870912 ∧ 1 ≤ mc ∧ n.toNatClampNeg ≤ ms then some (pc + 3, .ref sz :: r, zup w sz (.inr (4, n.toNatClampNeg, .inr (fun _ => none))), sz + 1, mc - 1, ms - n.toNatClampNeg) else none
      | _ => none
    | _ => none
  | .tableswitch dflt lo hi offs => match st with
    | .int x :: r => if x.toInt < lo ∨ hi < x.toInt then (bif ztgok pc dflt then some (ztg pc dflt, r, w, sz, mc, ms) else none)
      else match offs[(x.toInt - lo).toNat]? with
        | some off => bif ztgok pc off then some (ztg pc off, r, w, sz, mc, ms) else none
        | none => none
    | _ => none
  | _ => none
/-- a call: the callee, its arguments, what stays on the stack -/
def zinv (M : Nat → Option zQ) (q : zQ) (i : Instr) (st : List Value) (w : zM) : Option (zQ × List Value × List Value) :=
  match i with
  | .invokevirtual idx => match zlk (zqK q) idx with
    | some j => match M j with
      | some q2 => if zqS q2 = false ∧ zqN q2 ≤ st.length then match st.drop (zqN q2) with
          | .ref b :: rest => match w b with
            | some (.inl (ci, _)) => if ci = zqC q2 then some (q2, .ref b :: (st.take (zqN q2)).reverse, rest) else none
            | _ => none
          | _ => none
        else none
      | none => none
    | none => none
  | .invokestatic idx => match zlk (zqK q) idx with
    | some j => match M j with
      | some q2 => if zqS q2 = true ∧ zqN q2 ≤ st.length then some (q2, (st.take (zqN q2)).reverse, st.drop (zqN q2)) else none
      | none => none
    | none => none
  | _ => none
noncomputable def zrun (M : Nat → Option zQ) : Nat → Nat → zQ → Nat → zL → List Value → zM → Nat → Nat → Nat → Option (Option (Option Value) × zM × Nat)
  | 0, _, _, _, _, _, _, _, _, _ => none
  | f + 1, d, q, pc, lv, st, w, sz, mc, ms =>
    match zlk (zqI q) pc with
    | none => none
    | some i =>
    match zpure i pc (zqL q) lv st with
    | some x => zrun M f d q x.1 x.2.1 x.2.2 w sz mc ms
    | none =>
    match zheap (zqP q) i pc lv st w with
    | some x => zrun M f d q x.1 x.2.1 x.2.2.1 x.2.2.2 sz mc ms
    | none =>
    match zret (zqR q) i st with
    | some r => some (some r, w, sz)
    | none =>
    match zthr i st w with
    | true => some (none, w, sz)
    | false =>
    match zspec q d i pc st w sz mc ms with
    | some x => zrun M f d q x.1 lv x.2.1 x.2.2.1 x.2.2.2.1 x.2.2.2.2.1 x.2.2.2.2.2
    | none =>
    match zinv M q i st w with
    | some x => match d with
      | 0 => none
      | d' + 1 => if (zqM x.1).1 ≤ mc ∧ (zqM x.1).2 ≤ ms ∧ zsum x.2.2 ≤ 8 ∧ (lg_sl x.2.1).length ≤ zqL x.1 then
          match zrun M f d' x.1 0 (lv_args 0 x.2.1) [] w sz (zqM x.1).1 (zqM x.1).2 with
          | some (some r, w2, sz2) => zrun M f (d' + 1) q (pc + 3) lv (r.toList ++ x.2.2) w2 sz2 (mc - (zqM x.1).1) (ms - (zqM x.1).2)
          | some (none, w2, sz2) => some (none, w2, sz2)
          | none => none
        else none
    | none => none
/-- what is known of a method's tables -/
def zOk (M : Nat → Option zQ) (q : zQ) : Prop :=
  plainName (zqY q).cls = true ∧ Cond.code (zqY q) (zqB q) (zqL q) (zqR q) ∈ zAll ∧
  (∀ x ∈ zqI q, decode (zqB q) x.1 = .ok (x.2, zlen x.2) ∨ ∃ (d lo hi : Int) (o : Array Int) (n : Nat), x.2 = .tableswitch d lo hi o ∧ decode (zqB q) x.1 = .ok (x.2, n)) ∧
  zPoolOk (zqY q).cls (zqP q) ∧ zqL q ≤ 22 ∧ ((zqY q).cls ≠ "java/lang/invoke/MethodHandle" ∧ (zqY q).cls ≠ "java/lang/invoke/VarHandle") ∧ Cond.initialized (zqY q).cls ∈ zAll ∧
  (if zqS q = true then Cond.static (zqY q) ∈ zAll else Cond.instanceMethod (zqY q) ∈ zAll ∧ Cond.selects (zqY q).cls (zqY q) (zqY q) ∈ zAll ∧ ∃ (T : u_T) (N : Nat), vwCl[zqC q]? = some ((zqY q).cls, T, N)) ∧
  (parseMethodDescriptor (zqY q).desc).map (fun d => d.parameters.length) = some (zqN q) ∧
  ∀ x ∈ zqK q, match x.2 with
    | 1000 => Cond.methodLink (zqY q).cls x.1 Lib.Math.max.name ∈ zAll
    | 1001 => Cond.methodLink (zqY q).cls x.1 Lib.Math.min.name ∈ zAll
    | 1002 => Cond.methodLink (zqY q).cls x.1 Lib.Math.abs.name ∈ zAll
    | 1003 => Cond.methodLink (zqY q).cls x.1 arraycopyName ∈ zAll
    | 1004 => Cond.classLink (zqY q).cls x.1 RX15 ∈ zAll
    | j => ∃ q2, M j = some q2 ∧ Cond.methodLink (zqY q).cls x.1 (zqY q2) ∈ zAll
/-- the words of the JDK's methods that are called -/
def zJdk : Prop := Cond.static Lib.Math.max.name ∈ zAll ∧ Cond.static Lib.Math.min.name ∈ zAll ∧ Cond.static Lib.Math.abs.name ∈ zAll ∧ Cond.initialized "java/lang/Math" ∈ zAll ∧
  Cond.code Lib.Math.max.name Lib.Math.max.code 2 (some .int) ∈ zAll ∧ Cond.code Lib.Math.min.name Lib.Math.min.code 2 (some .int) ∈ zAll ∧ Cond.code Lib.Math.abs.name Lib.Math.abs.code 1 (some .int) ∈ zAll ∧
  Cond.native arraycopyName ∈ zAll ∧ Cond.static arraycopyName ∈ zAll ∧ Cond.initialized "java/lang/System" ∈ zAll
abbrev zws (q : zQ) : List Cond := Cond.code (zqY q) (zqB q) (zqL q) (zqR q) :: zAll
def zPc (D : va_G) (aC : Nat → ClassId) (base : Nat) (w : zM) (sz : Nat) (av : List Value) : Array Value → State → Prop := va_Pc av (fun U => U.heap.size = sz ∧ zFW D aC base w U.heap ∧ zK D aC U ∧ base ≤ sz)
theorem zPc_blind {D : va_G} {aC : Nat → ClassId} {base : Nat} {w : zM} {sz : Nat} {av : List Value} : FrameBlind (zPc D aC base w sz av) := fun a U g mk q => by
  obtain ⟨q0, q1, q2, q3, q4⟩ := q
  exact ⟨q0, q1, q2, q3.calling, q4⟩
def zEnd (D : va_G) (aC : Nat → ClassId) (base : Nat) (w : zM) (sz : Nat) (st t : State) : Prop := t.heap.size = sz ∧ zFW D aC base w t.heap ∧ va_F (zN base) st t
def zQc (D : va_G) (aC : Nat → ClassId) (base : Nat) (res : Option (Option Value)) (w : zM) (sz : Nat) : Array Value → State → Outcome → State → Prop := fun _ st o t => ∃ r, res = some r ∧ o = .returned r ∧ zEnd D aC base w sz st t
def zXc (D : va_G) (aC : Nat → ClassId) (base : Nat) (res : Option (Option Value)) (w : zM) (sz : Nat) : String → State → State → Prop := fun E st t => res = none ∧ E = RX13 ∧ zEnd D aC base w sz st t
def zCx (p : Program) (s : State) (m : MethodId) (args : Array Value) (meth : Method) (c : Code) (q : zQ) (D : va_G) (aC : Nat → ClassId) (base : Nat) : Prop :=
  p.tables.exec = Jvm.exec ∧ c.code = zqB q ∧ c.maxLocals = zqL q ∧ s.vm.findClass (zqY q).cls = some m.cls ∧ (∀ w ∈ zAll, w.before args s = true) ∧ zK D aC s ∧ meth.locks = false ∧ meth.sig.returnType = zqR q ∧ (∀ x ∈ c.exceptionTable.toList, False) ∧ base ≤ s.heap.size
def zS (M : Nat → Option zQ) (l : Launch) (D : va_G) (aC : Nat → ClassId) (base f : Nat) : Prop :=
  ∀ (d : Nat) (q : zQ) (pc : Nat) (lv : zL) (st : List Value) (w : zM) (sz mc ms : Nat) (res : Option (Option Value)) (w' : zM) (sz' : Nat), zOk M q → zrun M f d q pc lv st w sz mc ms = some (res, w', sz') →
    ∀ (p : Program) (e : Env) (R : Room) (s : State) (m : MethodId) (args : Array Value) (below : List Frame) (meth : Method) (c : Code), zCx p s m args meth c q D aC base → R.frames = d → R.locals = 42 * d →
      ∀ (H : Heap) (locs : List Loc) (cells slots : Nat) (ls : Array Slot), H.size = sz → zFW D aC base w H → va_S (zN base) s.heap H locs → lv_has ls (zqL q) lv → cells + mc ≤ R.cells → slots + ms ≤ R.slots →
        W p l e R s m args below meth c H locs cells slots (vx_MQ below (zQc D aC base res w' sz') (zXc D aC base res w' sz') args s R.cells R.slots (zN base)) (F0 m pc ls st)
theorem zmetOf {M : Nat → Option zQ} {l : Launch} {D : va_G} {aC : Nat → ClassId} {base f : Nat} (h : zS M l D aC base f) {d : Nat} {q : zQ} {As : List Value} {w : zM} {sz mc ms : Nat} {res : Option (Option Value)} {w' : zM} {sz' : Nat} (hq : zOk M q)
    (hr : zrun M f d q 0 (lv_args 0 As) [] w sz mc ms = some (res, w', sz')) (hlen : (lg_sl As).length ≤ zqL q) :
    vx_Met l (zqY q) (zws q) ({ frames := d, cells := mc, slots := ms, locals := 42 * d }) (zPc D aC base w sz As) (zQc D aC base res w' sz') (zXc D aC base res w' sz') mc ms (zN base) := by
  refine vx_ofW (cc := zqB q) (maxL := zqL q) (ret := zqR q) hq.1 rfl ?_
  intro p e s m args below meth c s₁ B hml hnt hv
  obtain ⟨rfl, hsz, hF, hK, hb⟩ := hv
  have hts := atoms_spec (ws := zws q) B.pre
  have hl := lv_entry As (n := zqL q) hlen
  rw [lg_entry_eq]
  exact h d q 0 _ [] w sz mc ms res w' sz' hq hr p e _ s m _ below meth c ⟨B.exec, B.bytes, hml, findClass_of_methodNamed B.named, fun w h => hts w (List.mem_cons_of_mem _ h), hK, B.notSynchronized, B.returns, hnt, by rw [hsz]; exact hb⟩ rfl rfl
    s.heap [] 0 0 _ hsz hF va_S.rf hl (by show 0 + mc ≤ mc; omega) (by show 0 + ms ≤ ms; omega)
end
section
/-! the real machine follows the small one's runs -/
section ZSIM
variable {p : Program} {l : Launch} {e : Env} {R : Room} {s : State} {m : MethodId} {args : Array Value} {below : List Frame} {meth : Method} {c : Code} {H : Heap} {locs : List Loc} {cells slots : Nat} {Q : State → Prop}
variable {cc : ByteArray} {pc nL : Nat} {ls : Array Slot} {lv : zL} {rest st : List Value} {i : Instr} {D : va_G} {aC : Nat → ClassId} {base a : Nat} {w : zM} {H0 : Heap} {Qc : Array Value → State → Outcome → State → Prop} {free : Addr → Prop}
theorem zret_ok {ret : Option FieldType} {r : Option Value} (hx : p.tables.exec = Jvm.exec) (hb : c.code = cc) (hret : meth.sig.returnType = ret) (hlocks : meth.locks = false) (hdg : decode cc pc = .ok (i, zlen i)) (hr : zret ret i st = some r)
    (hq : ∀ t : State, t.heap = H → s.WarmedH t.vm → Qc args s (.returned r) t) (hf : ∀ q ∈ locs, free q.base) : W p l e R s m args below meth c H locs cells slots (MQ below Qc args s cells slots free) (F0 m pc ls st) := by
  cases i with
  | ireturn =>
    simp only [zret] at hr
    split at hr
    · split at hr
      · cases hr; exact W.zret hx hb hret rfl hq hf hdg hlocks
      · split at hr
        · next hv => cases hr; exact W.zret hx hb hret (by rcases hv with h | h <;> subst h <;> decide) hq hf hdg hlocks
        · cases hr
      · cases hr
    · cases hr
  | areturn =>
    simp only [zret] at hr
    split at hr
    · split at hr
      · cases hr; exact W.aret hx hb hret (Or.inl ⟨_, rfl⟩) (Or.inr ⟨_, rfl⟩) hq hf hdg hlocks
      · cases hr; exact W.aret hx hb hret (Or.inr ⟨_, rfl⟩) (Or.inr ⟨_, rfl⟩) hq hf hdg hlocks
      · cases hr
    · split at hr
      · cases hr; exact W.aret hx hb hret (Or.inl ⟨_, rfl⟩) (Or.inl rfl) hq hf hdg hlocks
      · cases hr; exact W.aret hx hb hret (Or.inr ⟨_, rfl⟩) (Or.inl rfl) hq hf hdg hlocks
      · cases hr
    · cases hr
  | return_ =>
    simp only [zret] at hr
    split at hr
    · split at hr
      · cases hr; exact W.vret hx hb hret hq hf hdg hlocks
      · cases hr
    · cases hr
  | _ => exact absurd hr (by intro q; cases q)
theorem znn {z : Int32} (hz : ¬ z < 0) : z.toInt = (z.toNatClampNeg : Int) := by
  have h0 : (0 : Int) ≤ z.toInt := by simpa using Int32.le_iff_toInt_le.mp (Int32.not_lt.mp hz)
  show z.toInt = ((z.toInt.toNat : Nat) : Int)
  omega
/-- System.arraycopy between two arrays of numbers; the heap keeps its size and all other cells -/
theorem zs_copy (hx : p.tables.exec = Jvm.exec) (hb : c.code = cc) (hml : c.maxLocals = ls.size) {own : String} {index : Nat} (hown : s.vm.findClass own = some m.cls) (w1 : (Cond.methodLink own index arraycopyName).before args s = true) (w2 : (Cond.native arraycopyName).before args s = true) (w3 : (Cond.static arraycopyName).before args s = true) (w4 : (Cond.initialized "java/lang/System").before args s = true)
    (hK : zK D aC s) (hF : zFW D aC base w H) (hS : va_S (zN base) H0 H locs) {af at_ t nf nt : Nat} {f g : Nat → Int32} {ty : FieldType} (hf : w af = some (.inr (t, nf, .inl f))) (ht : w at_ = some (.inr (t, nt, .inl g))) (hty : (zT aC)[t]? = some (aC t, ty)) (hprim : refKind ty = false)
    {n sp dp : Int32} (h1 : ¬ sp < 0) (h2 : ¬ dp < 0) (h3 : ¬ n < 0) (h4 : sp.toNatClampNeg + n.toNatClampNeg ≤ nf) (h5 : dp.toNatClampNeg + n.toNatClampNeg ≤ nt) (hfit : ∀ i, i < n.toNatClampNeg → fits ty (.int (f (sp.toNatClampNeg + i))) = true)
    (hframes : 1 ≤ R.frames) (hlocals : zsum rest + (nativeFrameWords "java/lang/System" "arraycopy" 5 + 11) ≤ R.locals) (hdg : decode cc pc = .ok (.invokestatic index, 3))
    (kk : ∀ (H1 : Heap) (locs1 : List Loc), H1.size = H.size → zFW D aC base (zup w at_ (.inr (t, nt, .inl (va_cpy f g sp.toNatClampNeg dp.toNatClampNeg n.toNatClampNeg)))) H1 → va_S (zN base) H0 H1 locs1 → W p l e R s m args below meth c H1 locs1 cells slots Q (F0 m (pc + 3) ls rest)) : W p l e R s m args below meth c H locs cells slots Q (F0 m pc ls (.int n :: .int dp :: .ref at_ :: .int sp :: .ref af :: rest)) := by
  intro T hT X
  have gf : H[af]? = some (vp_cell (aC t) (nf, .inl f)) := (hF af _ hf).2
  have gt : H[at_]? = some (vp_cell (aC t) (nt, .inl g)) := (hF at_ _ ht).2
  obtain ⟨-, kf, hkf, cmf, hkkf⟩ := (hK.1.2 t _ hty).1 nf (fun j => .int (f j))
  obtain ⟨-, kt, hkt, cmt, hkkt⟩ := (hK.1.2 t _ hty).1 nt (fun j => .int (g j))
  obtain ⟨vm', X', step⟩ := X.arraycopy hx hown w1 w2 w3 w4 (src := af) (dst := at_) (cs := vp_cell (aC t) (nf, .inl f)) (cd := vp_cell (aC t) (nt, .inl g)) (srcPos := sp) (destPos := dp) (n := n) (by rw [hT]; exact gf) (by rw [hT]; exact gt)
    (fun _ h => by cases h) (fun _ h => by cases h) (fun h => by cases h) (fun h => by cases h) hkf hkt hkkf hkkt (by simp [hprim]) h1 h2 h3
    (by rw [znn h1, znn h3]; show ¬ _ > ((arrV (aC t) nf (fun j => .int (f j))).slots.size : Int); rw [arrV_size]; omega)
    (by rw [znn h2, znn h3]; show ¬ _ > ((arrV (aC t) nt (fun j => .int (g j))).slots.size : Int); rw [arrV_size]; omega)
    (fun vm₁ _ i hi => by
      have e : (vp_cell (aC t) (nf, .inl f)).slots.getD (sp.toNatClampNeg + i) .null = .int (f (sp.toNatClampNeg + i)) := by
        show (arrV (aC t) nf (fun j => .int (f j))).slots.getD (sp.toNatClampNeg + i) .null = _
        rw [Array.getD_eq_getD_getElem?, arrV_read _ _ (by omega)]
        rfl
      rw [e]
      exact ⟨hfit i hi, trivial⟩)
    (g := F0 m pc ls (.int n :: .int dp :: .ref at_ :: .int sp :: .ref af :: rest)) rfl (by rw [hml]) (rest := rest) rfl (by rw [hb]; exact hdg) hframes (by show 2 * 0 + _ + _ ≤ _; unfold zsum at hlocals; omega)
  have ec : copied (vp_cell (aC t) (nf, .inl f)) (vp_cell (aC t) (nt, .inl g)) sp dp n = vp_cell (aC t) (nt, .inl (va_cpy f g sp.toNatClampNeg dp.toNatClampNeg n.toNatClampNeg)) := va_copied (fun z => .int z) (aC t) (aC t) f g (by omega)
  rw [ec] at X' step
  have hl : at_ < H.size := (Array.getElem?_eq_some_iff.mp gt).1
  generalize hC : vp_cell (aC t) (nt, .inl (va_cpy f g sp.toNatClampNeg dp.toNatClampNeg n.toNatClampNeg)) = C at X' step
  have hh : ((T.setVm vm').setCell at_ C).heap = H.setIfInBounds at_ C := by rw [← hT]; rfl
  have oq : ∀ q : Nat, q ≠ at_ → (H.setIfInBounds at_ C)[q]? = H[q]? := fun q hq => by simp [Array.getElem?_setIfInBounds, Ne.symm hq]
  have sz : (H.setIfInBounds at_ C).size = H.size := by simp
  have hbs : base ≤ at_ := (hF at_ _ ht).1
  obtain ⟨t', a1, b1⟩ := kk _ _ sz (hF.put (H1 := H.setIfInBounds at_ C) ⟨sz, oq⟩ hbs (show (H.setIfInBounds at_ C)[at_]? = some (vp_cell (aC t) (nt, .inl (va_cpy f g sp.toNatClampNeg dp.toNatClampNeg n.toNatClampNeg))) by rw [hC]; simp [Array.getElem?_setIfInBounds, hl])) ⟨by rw [sz]; exact hS.1, fun q g1 g2 => by
      rw [oq q (fun e => g2 (by rw [e]; exact hbs))]
      exact hS.2.1 q g1 g2, fun q hq => by
      rcases List.mem_append.mp hq with h | h
      · exact hS.2.2 q h
      · obtain ⟨z, -, hz⟩ := List.mem_map.mp h
        rw [← hz]
        exact hbs⟩ _ hh X'
  exact ⟨t', step t' a1, b1⟩
end ZSIM
theorem zgo {ws : List Cond} (h : ∀ w ∈ ws, w ∈ zAll) : GoodIn zAll ws := fun w hw => zAll_self w (h w hw)
theorem zws_in {q : zQ} (h : Cond.code (zqY q) (zqB q) (zqL q) (zqR q) ∈ zAll) : ∀ w ∈ zws q, w ∈ zAll := fun w hw => by
  rcases List.mem_cons.mp hw with h1 | h1
  · rw [h1]; exact h
  · exact h1
section ZCALL
variable {p : Program} {l : Launch} {e : Env} {R : Room} {s : State} {m : MethodId} {args : Array Value} {below : List Frame} {meth : Method} {c : Code} {H : Heap} {locs : List Loc} {cells slots : Nat} {Q : State → Prop}
variable {cc : ByteArray} {pc nL index : Nat} {ls : Array Slot} {lv : zL} {rest st As : List Value} {i : Instr} {D : va_G} {aC : Nat → ClassId} {base a b : Nat} {w w2 : zM} {M : Nat → Option zQ} {q q2 : zQ} {sz sz2 f d : Nat} {res : Option (Option Value)}
/-- a call of the receiver's own method -/
theorem zcallV (hM : zOk M q2) (hc : zCx p s m args meth c q D aC base) (hRf : R.frames = d + 1) (hRl : R.locals = 42 * (d + 1)) (hlk : Cond.methodLink (zqY q).cls index (zqY q2) ∈ zAll) (hst : zqS q2 = false) (hF : zFW D aC base w H) (hsz : H.size = sz) (hbs : base ≤ sz) (hl : lv_has ls (zqL q) lv)
    {fs : List Value} (hw : w b = some (.inl (zqC q2, fs))) (hlen : As.length = zqN q2) (hsg : (lg_sl (.ref b :: As)).length ≤ zqL q2) (hsum : zsum rest ≤ 8) (hcm : cells + (zqM q2).1 ≤ R.cells) (hsm : slots + (zqM q2).2 ≤ R.slots) (hdg : decode (zqB q) pc = .ok (.invokevirtual index, 3))
    (h : zS M l D aC base f) (hr : zrun M f d q2 0 (lv_args 0 (.ref b :: As)) [] w sz (zqM q2).1 (zqM q2).2 = some (res, w2, sz2)) :
    vx_Run p l e R s m args below meth c H locs cells slots (zqM q2).1 (zqM q2).2 (F0 m pc ls (As.reverse ++ .ref b :: rest)) rest (zQc D aC base res w2 sz2 (Value.ref b :: As).toArray) (zXc D aC base res w2 sz2) (zN base) := by
  obtain ⟨hx, hb, hml, hown, hall, hK, hlocks, hret, hnt, hbase⟩ := hc
  have hm := zmetOf (l := l) h hM hr hsg
  obtain ⟨q1, q2', q3, q4, q5, q6, q7, q8, q9, q10⟩ := hM
  rw [if_neg (by rw [hst]; decide)] at q8
  obtain ⟨g1, g2, T, N, hcl⟩ := q8
  refine vx_runV (y := zqY q2) (bytes := zqB q2) (maxL := zqL q2) (ret := zqR q2) (C := (zqY q2).cls) (n := zqN q2) ⟨hx, hb, hml, hown, hall⟩ hm (cwV (zqN q2) hall (zgo fun w' hw' => ?_) rfl rfl rfl ⟨rfl, q6.1, q6.2, q9⟩ ⟨by rw [hRf]; exact Nat.le_refl _, by rw [hRl]; show 8 + (zqL q2 + 11) + 42 * d ≤ _; omega⟩)
    ⟨zPc_blind, va_recv (q0 := 0) hK.1 (zone hF hw) hcl rfl, fun U hU hW => ⟨rfl, by rw [hU]; exact hsz, by rw [hU]; exact hF, hK.warm hW, hbs⟩⟩ rfl hlen hl.1 rfl (by show 2 * 0 + zsum rest ≤ 8; omega) hdg ⟨hcm, hsm⟩
  unfold wsV at hw'
  rcases List.mem_append.mp hw' with h1 | h1
  · rcases List.mem_cons.mp h1 with rfl | h1
    · exact hlk
    rcases List.mem_cons.mp h1 with rfl | h1
    · exact g1
    rcases List.mem_cons.mp h1 with rfl | h1
    · exact g2
    rcases List.mem_cons.mp h1 with rfl | h1
    · exact q7
    cases h1
  · exact zws_in q2' _ h1
theorem zcallS (hM : zOk M q2) (hc : zCx p s m args meth c q D aC base) (hRf : R.frames = d + 1) (hRl : R.locals = 42 * (d + 1)) (hlk : Cond.methodLink (zqY q).cls index (zqY q2) ∈ zAll) (hst : zqS q2 = true) (hF : zFW D aC base w H) (hsz : H.size = sz) (hbs : base ≤ sz) (hl : lv_has ls (zqL q) lv)
    (hlen : As.length = zqN q2) (hsg : (lg_sl As).length ≤ zqL q2) (hsum : zsum rest ≤ 8) (hcm : cells + (zqM q2).1 ≤ R.cells) (hsm : slots + (zqM q2).2 ≤ R.slots) (hdg : decode (zqB q) pc = .ok (.invokestatic index, 3))
    (h : zS M l D aC base f) (hr : zrun M f d q2 0 (lv_args 0 As) [] w sz (zqM q2).1 (zqM q2).2 = some (res, w2, sz2)) :
    vx_Run p l e R s m args below meth c H locs cells slots (zqM q2).1 (zqM q2).2 (F0 m pc ls (As.reverse ++ rest)) rest (zQc D aC base res w2 sz2 As.toArray) (zXc D aC base res w2 sz2) (zN base) := by
  obtain ⟨hx, hb, hml, hown, hall, hK, hlocks, hret, hnt, hbase⟩ := hc
  have hm := zmetOf (l := l) h hM hr hsg
  obtain ⟨q1, q2', q3, q4, q5, q6, q7, q8, q9, q10⟩ := hM
  rw [if_pos hst] at q8
  refine vx_runS (y := zqY q2) (bytes := zqB q2) (maxL := zqL q2) (ret := zqR q2) (n := zqN q2) ⟨hx, hb, hml, hown, hall⟩ hm (va_cwS (zqN q2) hall (zgo fun w' hw' => ?_) rfl rfl rfl ⟨q6.1, q6.2, q9⟩ ⟨by rw [hRf]; exact Nat.le_refl _, by rw [hRl]; show 8 + (zqL q2 + 11) + 42 * d ≤ _; omega⟩)
    ⟨zPc_blind, fun U hU hW => ⟨rfl, by rw [hU]; exact hsz, by rw [hU]; exact hF, hK.warm hW, hbs⟩⟩ rfl hlen hl.1 rfl (by show 2 * 0 + zsum rest ≤ 8; omega) hdg ⟨hcm, hsm⟩
  unfold va_wsS at hw'
  rcases List.mem_append.mp hw' with h1 | h1
  · rcases List.mem_cons.mp h1 with rfl | h1
    · exact hlk
    rcases List.mem_cons.mp h1 with rfl | h1
    · exact q8
    rcases List.mem_cons.mp h1 with rfl | h1
    · exact q7
    cases h1
  · exact zws_in q2' _ h1
end ZCALL
end
section
/-! every run of the small machine is one of the real machine -/
def zCont (M : Nat → Option zQ) (f d : Nat) (q : zQ) (pc : Nat) (lv : zL) (rest : List Value) (mc ms : Nat) (res : Option (Option Value)) (w' : zM) (sz' : Nat) (res2 : Option (Option Value)) (w2 : zM) (sz2 : Nat) : Prop := match res2 with
  | some r => zrun M f d q pc lv (r.toList ++ rest) w2 sz2 mc ms = some (res, w', sz')
  | none => res = none ∧ w' = w2 ∧ sz' = sz2
section ZSIM2
variable {M : Nat → Option zQ} {l : Launch} {D : va_G} {aC : Nat → ClassId} {base f : Nat}
variable {p : Program} {e : Env} {R : Room} {s : State} {m : MethodId} {args : Array Value} {below : List Frame} {meth : Method} {c : Code} {H : Heap} {locs : List Loc} {cells slots : Nat}
/-- behind a call: what came back, or what was thrown -/
theorem zback {d : Nat} {q : zQ} {pc : Nat} {ls : Array Slot} {lv : zL} {rest st0 : List Value} {w2 w' : zM} {sz2 sz' mc ms mc2 ms2 : Nat} {res res2 : Option (Option Value)} {As' : Array Value}
    (ih : zS M l D aC base f) (hq0 : zOk M q) (hc0 : zCx p s m args meth c q D aC base) (hRf : R.frames = d) (hRl : R.locals = 42 * d) (hS : va_S (zN base) s.heap H locs) (hl : lv_has ls (zqL q) lv)
    (h1 : mc2 ≤ mc) (h2 : ms2 ≤ ms) (hcm : cells + mc ≤ R.cells) (hsm : slots + ms ≤ R.slots)
    (hrun : vx_Run p l e R s m args below meth c H locs cells slots mc2 ms2 (F0 m pc ls st0) rest (zQc D aC base res2 w2 sz2 As') (zXc D aC base res2 w2 sz2) (zN base))
    (hk : zCont M f d q (pc + 3) lv rest (mc - mc2) (ms - ms2) res w' sz' res2 w2 sz2) :
    W p l e R s m args below meth c H locs cells slots (vx_MQ below (zQc D aC base res w' sz') (zXc D aC base res w' sz') args s R.cells R.slots (zN base)) (F0 m pc ls st0) := by
  intro T hT X
  rcases hrun T hT X with ⟨v, st₀, t, T', L, h0, X', hL, e1, e2, ⟨r, hres, hv, z1, z2, z3⟩, st⟩ | ⟨qq, st₀, t, T', L, E, ce, h0, X', hL, e1, e2, ⟨hres, hE, z1, z2, z3⟩, hce, hcv, hcl, st⟩
  · subst hres
    cases hv
    obtain ⟨k1, k2, k3⟩ := vx_keep (A1 := zN base) (free := zN base) h0 e1 hS (fun _ _ h => h) (fun _ h => h) hL z3
    obtain ⟨t2, a1, b1⟩ := ih d q (pc + 3) lv _ w2 sz2 _ _ res w' sz' hq0 hk p e R s m args below meth c hc0 hRf hRl T'.heap (locs ++ L) (cells + mc2) (slots + ms2) ls (by rw [e1]; exact z1) (by rw [e1]; exact z2) k3 hl (by omega) (by omega) T' rfl X'
    exact ⟨t2, st t2 a1, b1⟩
  · subst hres
    obtain ⟨hr1, hr2, hr3⟩ := hk
    subst hr1; subst hr2; subst hr3; subst hE
    obtain ⟨k1, k2, k3⟩ := vx_keep (A1 := zN base) (free := zN base) h0 e1 hS (fun _ _ h => h) (fun _ h => h) hL z3
    obtain ⟨hx, hb, hml, hown, hall, hK, hlocks, hret, hnt, hbase⟩ := hc0
    have ho : vx_W p l e R s m args below meth c T'.heap (locs ++ L) (cells + mc2) (slots + ms2) (vx_MQ below (zQc D aC base none w' sz') (zXc D aC base none w' sz') args s R.cells R.slots (zN base)) (F0 m pc ls rest) qq :=
      vx_out (E := RX13) (fun x hx => (hnt x hx).elim) hlocks (by rw [e1]; exact hce) hcv hcl (fun zt ht hvm => ⟨rfl, rfl, by rw [ht, e1]; exact z1, by rw [ht, e1]; exact z2, k3.F ht⟩) k3.2.2 (by omega) (by omega)
    obtain ⟨t2, a1, b1⟩ := ho T' rfl X'
    exact ⟨t2, st.trans a1, b1⟩
set_option maxHeartbeats 8000000 in
theorem zsim (hM : ∀ j q, M j = some q → zOk M q) (hN : ∀ j, 1000 ≤ j → M j = none) (hj : zJdk) : ∀ f, zS M l D aC base f := by
  intro f
  induction f with
  | zero =>
    intro d q pc lv st w sz mc ms res w' sz' hq hr
    simp [zrun] at hr
  | succ f ih =>
    intro d q pc lv st w sz mc ms res w' sz' hq0 hr p e R s m args below meth c hc0 hRf hRl H locs cells slots ls hsz hF hS hl hcm hsm
    obtain ⟨q1, q2, q3, q4, q5, q6, q7, q8, q9, q10⟩ := hq0
    have hq0 : zOk M q := ⟨q1, q2, q3, q4, q5, q6, q7, q8, q9, q10⟩
    obtain ⟨hx, hb, hml, hown, hall, hK, hlocks, hret, hnt, hbase⟩ := hc0
    have hc0 : zCx p s m args meth c q D aC base := ⟨hx, hb, hml, hown, hall, hK, hlocks, hret, hnt, hbase⟩
    have hbs : base ≤ sz := by rw [← hsz]; exact Nat.le_trans hbase hS.1
    have hml' : c.maxLocals = ls.size := by rw [hml, hl.1]
    rw [zrun] at hr
    split at hr
    · cases hr
    next i hi =>
    have hdec := q3 _ (zlk_mem hi)
    split at hr
    · next x hx1 =>
      obtain ⟨pc', lv', st'⟩ := x
      rcases hdec with hdg | ⟨z1, z2, z3, z4, z5, z6, z7⟩
      · exact zpure_ok hx hb hl hdg hx1 (fun ls' hl' => ih d q _ _ _ w sz mc ms res w' sz' hq0 hr p e R s m args below meth c hc0 hRf hRl H locs cells slots ls' hsz hF hS hl' hcm hsm)
      · dsimp only at z6; subst z6; cases hx1
    split at hr
    · next x hx1 =>
      obtain ⟨pc', lv', st', w1⟩ := x
      rcases hdec with hdg | ⟨z1, z2, z3, z4, z5, z6, z7⟩
      · exact zheap_ok hx hb hown hall hK q4 hF hS hl hdg hx1 (fun H1 locs1 e1 hF1 hS1 hl1 => ih d q _ _ _ w1 sz mc ms res w' sz' hq0 hr p e R s m args below meth c hc0 hRf hRl H1 locs1 cells slots ls (by rw [e1]; exact hsz) hF1 hS1 hl1 hcm hsm)
      · dsimp only at z6; subst z6; cases hx1
    split at hr
    · next r hx1 =>
      cases hr
      rcases hdec with hdg | ⟨z1, z2, z3, z4, z5, z6, z7⟩
      · refine vx_ret (W.widen (k := R.cells) (n := R.slots) (by omega) (by omega) (zret_ok hx hb hret hlocks hdg hx1 (fun t ht hW => ⟨r, rfl, rfl, by rw [ht]; exact hsz, by rw [ht]; exact hF, hS.F ht⟩) hS.2.2))
      · dsimp only at z6; subst z6; cases hx1
    split at hr
    · next hx1 =>
      cases hr
      rcases hdec with hdg | ⟨z1, z2, z3, z4, z5, z6, z7⟩
      · unfold zthr at hx1
        split at hx1
        · split at hx1
          · next a r =>
            split at hx1
            · next ci fs hw =>
              have hci := of_decide_eq_true hx1
              subst hci
              obtain ⟨q', h1, cell, g1, g2, g3, -⟩ := (hF _ _ hw).2
              cases h1
              refine vx_athrow hx hb hdg ?_
              exact vx_out (E := RX13) (fun x hx => (hnt x hx).elim) hlocks g1 g3 (by rw [g2]; exact (hK.1.1 12 _ rfl).2.1) (fun zt ht hvm => ⟨rfl, rfl, by rw [ht]; exact hsz, by rw [ht]; exact hF, hS.F ht⟩) hS.2.2 (by omega) (by omega)
            · cases hx1
          · cases hx1
        · cases hx1
      · dsimp only at z6; subst z6; cases hx1
    split at hr
    · next x hx1 =>
      obtain ⟨pc', st', w1, sz1, mc1, ms1⟩ := x
      dsimp only at hr
      cases i with
      | invokestatic idx =>
        rcases hdec with hdg | ⟨z1, z2, z3, z4, z5, z6, z7⟩
        case inr => cases z6
        simp only [zspec] at hx1
        split at hx1
        · next hk =>
          split at hx1
          · split at hx1
            · next hg =>
              cases hx1
              exact va_mmax hx hb hml' hown (hall _ (q10 _ (zlk_mem hk))) (hall _ hj.1) (hall _ hj.2.2.2.1) (hall _ hj.2.2.2.2.1) (by omega) (by rw [hRl]; have := hg.2; unfold zsum at this; omega) (by omega) (by omega) hdg
                (ih d q _ _ _ w sz mc ms res w' sz' hq0 hr p e R s m args below meth c hc0 hRf hRl H locs cells slots ls hsz hF hS hl hcm hsm)
            · cases hx1
          · cases hx1
        · next hk =>
          split at hx1
          · split at hx1
            · next hg =>
              cases hx1
              exact va_mmin hx hb hml' hown (hall _ (q10 _ (zlk_mem hk))) (hall _ hj.2.1) (hall _ hj.2.2.2.1) (hall _ hj.2.2.2.2.2.1) (by omega) (by rw [hRl]; have := hg.2; unfold zsum at this; omega) (by omega) (by omega) hdg
                (ih d q _ _ _ w sz mc ms res w' sz' hq0 hr p e R s m args below meth c hc0 hRf hRl H locs cells slots ls hsz hF hS hl hcm hsm)
            · cases hx1
          · cases hx1
        · next hk =>
          split at hx1
          · split at hx1
            · next hg =>
              cases hx1
              exact va_mabs hx hb hml' hown (hall _ (q10 _ (zlk_mem hk))) (hall _ hj.2.2.1) (hall _ hj.2.2.2.1) (hall _ hj.2.2.2.2.2.2.1) (by omega) (by rw [hRl]; have := hg.2; unfold zsum at this; omega) (by omega) (by omega) hdg
                (ih d q _ _ _ w sz mc ms res w' sz' hq0 hr p e R s m args below meth c hc0 hRf hRl H locs cells slots ls hsz hF hS hl hcm hsm)
            · cases hx1
          · cases hx1
        · next hk =>
          split at hx1
          · split at hx1
            · next hwa hwb =>
              split at hx1
              · next hg =>
                obtain ⟨g1, g2, g3, g4, g5, g6, g7, g8⟩ := hg
                subst g3
                have hnw : nativeFrameWords "java/lang/System" "arraycopy" 5 = 7 := by decide
                split at hx1
                · cases hx1
                  exact zs_copy (ty := .int) hx hb hml' hown (hall _ (q10 _ (zlk_mem hk))) (hall _ hj.2.2.2.2.2.2.2.1) (hall _ hj.2.2.2.2.2.2.2.2.1) (hall _ hj.2.2.2.2.2.2.2.2.2) hK hF hS hwa hwb rfl rfl g4 g5 g6 g7 g8 (fun _ _ => rfl) (by omega) (by rw [hRl, hnw]; omega) hdg
                    (fun H1 locs1 e1 hF1 hS1 => ih d q _ _ _ _ sz mc ms res w' sz' hq0 hr p e R s m args below meth c hc0 hRf hRl H1 locs1 cells slots ls (by rw [e1]; exact hsz) hF1 hS1 hl hcm hsm)
                · split at hx1
                  · next hfit =>
                    cases hx1
                    exact zs_copy (ty := .byte) hx hb hml' hown (hall _ (q10 _ (zlk_mem hk))) (hall _ hj.2.2.2.2.2.2.2.1) (hall _ hj.2.2.2.2.2.2.2.2.1) (hall _ hj.2.2.2.2.2.2.2.2.2) hK hF hS hwa hwb rfl rfl g4 g5 g6 g7 g8 hfit (by omega) (by rw [hRl, hnw]; omega) hdg
                      (fun H1 locs1 e1 hF1 hS1 => ih d q _ _ _ _ sz mc ms res w' sz' hq0 hr p e R s m args below meth c hc0 hRf hRl H1 locs1 cells slots ls (by rw [e1]; exact hsz) hF1 hS1 hl hcm hsm)
                  · cases hx1
                · cases hx1
              · cases hx1
            · cases hx1
          · cases hx1
        · cases hx1
      | anewarray idx =>
        rcases hdec with hdg | ⟨z1, z2, z3, z4, z5, z6, z7⟩
        case inr => cases z6
        simp only [zspec] at hx1
        split at hx1
        · next hk =>
          split at hx1
          · next n r =>
            split at hx1
            · next hg =>
              obtain ⟨g1, g2, g3, g4⟩ := hg
              cases hx1
              refine znewq (D := D) (ws := []) (A := zN base) hx hb hown (hall _ (q10 _ (zlk_mem hk))) hK.2.2.1 hK.1 (fun k x h => by simp at h) ⟨fun i j x y h => by simp at h, fun k x h => by simp at h⟩ hS (fun q h => Nat.le_trans hbase h) 4 rfl g1 rfl g2 (by omega) (by omega) hdg (fun qq H1 e1 e2 hkp hP1 hD1 hS1 => ?_)
              subst e1
              rw [← hsz] at hr
              exact ih d q _ _ _ _ _ _ _ res w' sz' hq0 hr p e R s m args below meth c hc0 hRf hRl H1 locs (cells + 1) (slots + _) ls e2 (hF.new hkp (by rw [hsz]; exact hbs) (hP1 0 _ rfl)) hS1 hl (by omega) (by omega)
            · cases hx1
          · cases hx1
        · cases hx1
      | tableswitch dflt lo hgh offs =>
        have hdg : ∃ n, decode (zqB q) pc = .ok (.tableswitch dflt lo hgh offs, n) := by
          rcases hdec with hdg | ⟨z1, z2, z3, z4, z5, z6, z7⟩
          · exact ⟨_, hdg⟩
          · exact ⟨_, z7⟩
        obtain ⟨n, hdg⟩ := hdg
        simp only [zspec] at hx1
        split at hx1
        · next x r =>
          split at hx1
          · next ho =>
            cases hg : ztgok pc dflt with
            | false => rw [hg] at hx1; cases hx1
            | true =>
              rw [hg] at hx1
              cases hx1
              exact lv_tableOut hx hb hdg ho (ztg_eq hg) (ih d q _ _ _ w sz mc ms res w' sz' hq0 hr p e R s m args below meth c hc0 hRf hRl H locs cells slots ls hsz hF hS hl hcm hsm)
          · next ho =>
            split at hx1
            · next off hof =>
              cases hg : ztgok pc off with
              | false => rw [hg] at hx1; cases hx1
              | true =>
                rw [hg] at hx1
                cases hx1
                exact lv_tableIn hx hb hdg (fun h => ho (Or.inl h)) (fun h => ho (Or.inr h)) hof (ztg_eq hg) (ih d q _ _ _ w sz mc ms res w' sz' hq0 hr p e R s m args below meth c hc0 hRf hRl H locs cells slots ls hsz hF hS hl hcm hsm)
            · cases hx1
        · cases hx1
      | _ => exact absurd hx1 (by intro z; cases z)
    split at hr
    · next x hx1 =>
      obtain ⟨qc, As, rest⟩ := x
      cases d with
      | zero => cases hr
      | succ d' =>
      dsimp only at hr
      split at hr
      · next hg =>
        obtain ⟨g1, g2, g3, g4⟩ := hg
        have hk : ∃ res2 w2 sz2, zrun M f d' qc 0 (lv_args 0 As) [] w sz (zqM qc).1 (zqM qc).2 = some (res2, w2, sz2) ∧ zCont M f (d' + 1) q (pc + 3) lv rest (mc - (zqM qc).1) (ms - (zqM qc).2) res w' sz' res2 w2 sz2 := by
          split at hr
          · next r w2 sz2 hrr => exact ⟨_, _, _, hrr, hr⟩
          · next w2 sz2 hrr => cases hr; exact ⟨_, _, _, hrr, rfl, rfl, rfl⟩
          · cases hr
        obtain ⟨res2, w2, sz2, hrr, hk⟩ := hk
        cases i with
        | invokevirtual idx =>
          rcases hdec with hdg | ⟨z1, z2, z3, z4, z5, z6, z7⟩
          case inr => cases z6
          simp only [zinv] at hx1
          split at hx1
          · next j hj1 =>
            split at hx1
            · next qd hqd =>
              split at hx1
              · next hst =>
                split at hx1
                · next b rs hdrop =>
                  split at hx1
                  · next ci fs hw =>
                    split at hx1
                    · next hci =>
                      subst hci
                      cases hx1
                      have hlk : Cond.methodLink (zqY q).cls idx (zqY qc) ∈ zAll := by
                        have h := q10 _ (zlk_mem hj1)
                        split at h
                        · next hh => dsimp only at hh; subst hh; exact absurd hqd (by rw [hN _ (by decide)]; intro z; cases z)
                        · next hh => dsimp only at hh; subst hh; exact absurd hqd (by rw [hN _ (by decide)]; intro z; cases z)
                        · next hh => dsimp only at hh; subst hh; exact absurd hqd (by rw [hN _ (by decide)]; intro z; cases z)
                        · next hh => dsimp only at hh; subst hh; exact absurd hqd (by rw [hN _ (by decide)]; intro z; cases z)
                        · next hh => dsimp only at hh; subst hh; exact absurd hqd (by rw [hN _ (by decide)]; intro z; cases z)
                        · obtain ⟨q5', h5, h6⟩ := h
                          cases h5.symm.trans hqd
                          exact h6
                      have hst' : st = ((st.take (zqN qc)).reverse).reverse ++ .ref b :: rest := by
                        rw [List.reverse_reverse, ← hdrop, List.take_append_drop]
                      rw [hst']
                      exact zback ih hq0 hc0 hRf hRl hS hl g1 g2 hcm hsm (zcallV (hM _ _ hqd) hc0 hRf hRl hlk hst.1 hF hsz hbs hl hw (by rw [List.length_reverse, List.length_take]; omega) g4 g3 (by omega) (by omega) hdg ih hrr) hk
                    · cases hx1
                  · cases hx1
                · cases hx1
              · cases hx1
            · cases hx1
          · cases hx1
        | invokestatic idx =>
          rcases hdec with hdg | ⟨z1, z2, z3, z4, z5, z6, z7⟩
          case inr => cases z6
          simp only [zinv] at hx1
          split at hx1
          · next j hj1 =>
            split at hx1
            · next qd hqd =>
              split at hx1
              · next hst =>
                cases hx1
                have hlk : Cond.methodLink (zqY q).cls idx (zqY qc) ∈ zAll := by
                  have h := q10 _ (zlk_mem hj1)
                  split at h
                  · next hh => dsimp only at hh; subst hh; exact absurd hqd (by rw [hN _ (by decide)]; intro z; cases z)
                  · next hh => dsimp only at hh; subst hh; exact absurd hqd (by rw [hN _ (by decide)]; intro z; cases z)
                  · next hh => dsimp only at hh; subst hh; exact absurd hqd (by rw [hN _ (by decide)]; intro z; cases z)
                  · next hh => dsimp only at hh; subst hh; exact absurd hqd (by rw [hN _ (by decide)]; intro z; cases z)
                  · next hh => dsimp only at hh; subst hh; exact absurd hqd (by rw [hN _ (by decide)]; intro z; cases z)
                  · obtain ⟨q5', h5, h6⟩ := h
                    cases h5.symm.trans hqd
                    exact h6
                have hst' : st = ((st.take (zqN qc)).reverse).reverse ++ st.drop (zqN qc) := by
                  rw [List.reverse_reverse, List.take_append_drop]
                have hb2 := zback (e := e) (below := below) (st0 := ((st.take (zqN qc)).reverse).reverse ++ st.drop (zqN qc)) (pc := pc) ih hq0 hc0 hRf hRl hS hl g1 g2 hcm hsm (zcallS (hM _ _ hqd) hc0 hRf hRl hlk hst.1 hF hsz hbs hl (by rw [List.length_reverse, List.length_take]; omega) g4 g3 (by omega) (by omega) hdg ih hrr) hk
                rw [← hst'] at hb2
                exact hb2
              · cases hx1
            · cases hx1
          · cases hx1
        | _ => exact absurd hx1 (by intro z; cases z)
      · cases hr
    · cases hr
end ZSIM2
end
