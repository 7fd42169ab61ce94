theorem dL_law_1163 : decode cL_law 1163 = .ok (.aload_n 1, 1) := by decide +kernel
theorem dL_law_1164 : decode cL_law 1164 = .ok (.aload_n 0, 1) := by decide +kernel
theorem dL_law_1165 : decode cL_law 1165 = .ok (.iload_n 3, 1) := by decide +kernel
theorem dL_law_1166 : decode cL_law 1166 = .ok (.iconst 1, 1) := by decide +kernel
theorem dL_law_1167 : decode cL_law 1167 = .ok (.iadd, 1) := by decide +kernel
theorem dL_law_1168 : decode cL_law 1168 = .ok (.iaload, 1) := by decide +kernel
theorem dL_law_1169 : decode cL_law 1169 = .ok (.aload_n 0, 1) := by decide +kernel
theorem dL_law_1170 : decode cL_law 1170 = .ok (.iload_n 3, 1) := by decide +kernel
theorem dL_law_1171 : decode cL_law 1171 = .ok (.iconst 2, 1) := by decide +kernel
theorem dL_law_1172 : decode cL_law 1172 = .ok (.iadd, 1) := by decide +kernel
theorem dL_law_1173 : decode cL_law 1173 = .ok (.iaload, 1) := by decide +kernel
theorem dL_law_1174 : decode cL_law 1174 = .ok (.invokevirtual 122, 3) := by decide +kernel
theorem dL_law_1177 : decode cL_law 1177 = .ok (.aload_n 2, 1) := by decide +kernel
theorem dL_law_1178 : decode cL_law 1178 = .ok (.aload_n 0, 1) := by decide +kernel
theorem dL_law_1179 : decode cL_law 1179 = .ok (.iload_n 3, 1) := by decide +kernel
theorem dL_law_1180 : decode cL_law 1180 = .ok (.iconst 1, 1) := by decide +kernel
theorem dL_law_1181 : decode cL_law 1181 = .ok (.iadd, 1) := by decide +kernel
theorem dL_law_1182 : decode cL_law 1182 = .ok (.iaload, 1) := by decide +kernel
theorem dL_law_1183 : decode cL_law 1183 = .ok (.aload_n 0, 1) := by decide +kernel
theorem dL_law_1184 : decode cL_law 1184 = .ok (.iload_n 3, 1) := by decide +kernel
theorem dL_law_1185 : decode cL_law 1185 = .ok (.iconst 2, 1) := by decide +kernel
theorem dL_law_1186 : decode cL_law 1186 = .ok (.iadd, 1) := by decide +kernel
theorem dL_law_1187 : decode cL_law 1187 = .ok (.iaload, 1) := by decide +kernel
theorem dL_law_1188 : decode cL_law 1188 = .ok (.invokevirtual 125, 3) := by decide +kernel
theorem dL_law_1191 : decode cL_law 1191 = .ok (.if_icmp .eq 252, 3) := by decide +kernel
theorem dL_law_1196 : decode cL_law 1196 = .ok (.aload_n 1, 1) := by decide +kernel
theorem dL_law_1197 : decode cL_law 1197 = .ok (.aload_n 0, 1) := by decide +kernel
theorem dL_law_1198 : decode cL_law 1198 = .ok (.iload_n 3, 1) := by decide +kernel
theorem dL_law_1199 : decode cL_law 1199 = .ok (.iconst 1, 1) := by decide +kernel
theorem dL_law_1200 : decode cL_law 1200 = .ok (.iadd, 1) := by decide +kernel
theorem dL_law_1201 : decode cL_law 1201 = .ok (.iaload, 1) := by decide +kernel
theorem dL_law_1202 : decode cL_law 1202 = .ok (.aload_n 0, 1) := by decide +kernel
theorem dL_law_1203 : decode cL_law 1203 = .ok (.iload_n 3, 1) := by decide +kernel
theorem dL_law_1204 : decode cL_law 1204 = .ok (.iconst 2, 1) := by decide +kernel
theorem dL_law_1205 : decode cL_law 1205 = .ok (.iadd, 1) := by decide +kernel
theorem dL_law_1206 : decode cL_law 1206 = .ok (.iaload, 1) := by decide +kernel
theorem dL_law_1207 : decode cL_law 1207 = .ok (.invokevirtual 126, 3) := by decide +kernel
theorem dL_law_1210 : decode cL_law 1210 = .ok (.aload_n 2, 1) := by decide +kernel
theorem dL_law_1211 : decode cL_law 1211 = .ok (.aload_n 0, 1) := by decide +kernel
theorem dL_law_1212 : decode cL_law 1212 = .ok (.iload_n 3, 1) := by decide +kernel
theorem dL_law_1213 : decode cL_law 1213 = .ok (.iconst 1, 1) := by decide +kernel
theorem dL_law_1214 : decode cL_law 1214 = .ok (.iadd, 1) := by decide +kernel
theorem dL_law_1215 : decode cL_law 1215 = .ok (.iaload, 1) := by decide +kernel
theorem dL_law_1216 : decode cL_law 1216 = .ok (.aload_n 0, 1) := by decide +kernel
theorem dL_law_1217 : decode cL_law 1217 = .ok (.iload_n 3, 1) := by decide +kernel
theorem dL_law_1218 : decode cL_law 1218 = .ok (.iconst 2, 1) := by decide +kernel
theorem dL_law_1219 : decode cL_law 1219 = .ok (.iadd, 1) := by decide +kernel
theorem dL_law_1220 : decode cL_law 1220 = .ok (.iaload, 1) := by decide +kernel
theorem dL_law_1221 : decode cL_law 1221 = .ok (.invokevirtual 129, 3) := by decide +kernel
theorem dL_law_1224 : decode cL_law 1224 = .ok (.if_icmp .eq 219, 3) := by decide +kernel
theorem dL_law_1229 : decode cL_law 1229 = .ok (.aload_n 1, 1) := by decide +kernel
theorem dL_law_1230 : decode cL_law 1230 = .ok (.aload_n 0, 1) := by decide +kernel
theorem dL_law_1231 : decode cL_law 1231 = .ok (.iload_n 3, 1) := by decide +kernel
theorem dL_law_1232 : decode cL_law 1232 = .ok (.iconst 1, 1) := by decide +kernel
theorem dL_law_1233 : decode cL_law 1233 = .ok (.iadd, 1) := by decide +kernel
theorem dL_law_1234 : decode cL_law 1234 = .ok (.iaload, 1) := by decide +kernel
theorem dL_law_1235 : decode cL_law 1235 = .ok (.aload_n 0, 1) := by decide +kernel
theorem dL_law_1236 : decode cL_law 1236 = .ok (.iload_n 3, 1) := by decide +kernel
theorem dL_law_1237 : decode cL_law 1237 = .ok (.iconst 2, 1) := by decide +kernel
theorem dL_law_1238 : decode cL_law 1238 = .ok (.iadd, 1) := by decide +kernel
theorem dL_law_1239 : decode cL_law 1239 = .ok (.iaload, 1) := by decide +kernel
theorem dL_law_1240 : decode cL_law 1240 = .ok (.aload_n 0, 1) := by decide +kernel
theorem dL_law_1241 : decode cL_law 1241 = .ok (.iload_n 3, 1) := by decide +kernel
theorem dL_law_1242 : decode cL_law 1242 = .ok (.iconst 3, 1) := by decide +kernel
theorem dL_law_1243 : decode cL_law 1243 = .ok (.iadd, 1) := by decide +kernel
theorem dL_law_1244 : decode cL_law 1244 = .ok (.iaload, 1) := by decide +kernel
theorem dL_law_1245 : decode cL_law 1245 = .ok (.aload_n 0, 1) := by decide +kernel
theorem dL_law_1246 : decode cL_law 1246 = .ok (.iload_n 3, 1) := by decide +kernel
theorem dL_law_1247 : decode cL_law 1247 = .ok (.iconst 4, 1) := by decide +kernel
theorem dL_law_1248 : decode cL_law 1248 = .ok (.iadd, 1) := by decide +kernel
theorem dL_law_1249 : decode cL_law 1249 = .ok (.iaload, 1) := by decide +kernel
theorem dL_law_1250 : decode cL_law 1250 = .ok (.invokevirtual 130, 3) := by decide +kernel
theorem dL_law_1253 : decode cL_law 1253 = .ok (.aload_n 2, 1) := by decide +kernel
theorem dL_law_1254 : decode cL_law 1254 = .ok (.aload_n 0, 1) := by decide +kernel
theorem dL_law_1255 : decode cL_law 1255 = .ok (.iload_n 3, 1) := by decide +kernel
theorem dL_law_1256 : decode cL_law 1256 = .ok (.iconst 1, 1) := by decide +kernel
theorem dL_law_1257 : decode cL_law 1257 = .ok (.iadd, 1) := by decide +kernel
theorem dL_law_1258 : decode cL_law 1258 = .ok (.iaload, 1) := by decide +kernel
theorem dL_law_1259 : decode cL_law 1259 = .ok (.aload_n 0, 1) := by decide +kernel
theorem dL_law_1260 : decode cL_law 1260 = .ok (.iload_n 3, 1) := by decide +kernel
theorem dL_law_1261 : decode cL_law 1261 = .ok (.iconst 2, 1) := by decide +kernel
theorem dL_law_1262 : decode cL_law 1262 = .ok (.iadd, 1) := by decide +kernel
theorem dL_law_1263 : decode cL_law 1263 = .ok (.iaload, 1) := by decide +kernel
theorem dL_law_1264 : decode cL_law 1264 = .ok (.aload_n 0, 1) := by decide +kernel
theorem dL_law_1265 : decode cL_law 1265 = .ok (.iload_n 3, 1) := by decide +kernel
theorem dL_law_1266 : decode cL_law 1266 = .ok (.iconst 3, 1) := by decide +kernel
theorem dL_law_1267 : decode cL_law 1267 = .ok (.iadd, 1) := by decide +kernel
theorem dL_law_1268 : decode cL_law 1268 = .ok (.iaload, 1) := by decide +kernel
theorem dL_law_1269 : decode cL_law 1269 = .ok (.aload_n 0, 1) := by decide +kernel
theorem dL_law_1270 : decode cL_law 1270 = .ok (.iload_n 3, 1) := by decide +kernel
theorem dL_law_1271 : decode cL_law 1271 = .ok (.iconst 4, 1) := by decide +kernel
theorem dL_law_1272 : decode cL_law 1272 = .ok (.iadd, 1) := by decide +kernel
theorem dL_law_1273 : decode cL_law 1273 = .ok (.iaload, 1) := by decide +kernel
theorem dL_law_1274 : decode cL_law 1274 = .ok (.invokevirtual 133, 3) := by decide +kernel
theorem dL_law_1277 : decode cL_law 1277 = .ok (.if_icmp .eq 166, 3) := by decide +kernel
theorem dL_law_1282 : decode cL_law 1282 = .ok (.aload_n 1, 1) := by decide +kernel
theorem dL_law_1283 : decode cL_law 1283 = .ok (.aload_n 0, 1) := by decide +kernel
theorem dL_law_1284 : decode cL_law 1284 = .ok (.iload_n 3, 1) := by decide +kernel
theorem dL_law_1285 : decode cL_law 1285 = .ok (.iconst 1, 1) := by decide +kernel
theorem dL_law_1286 : decode cL_law 1286 = .ok (.iadd, 1) := by decide +kernel
theorem dL_law_1287 : decode cL_law 1287 = .ok (.iaload, 1) := by decide +kernel
theorem dL_law_1288 : decode cL_law 1288 = .ok (.invokevirtual 134, 3) := by decide +kernel
theorem dL_law_1291 : decode cL_law 1291 = .ok (.aload_n 2, 1) := by decide +kernel
theorem dL_law_1292 : decode cL_law 1292 = .ok (.aload_n 0, 1) := by decide +kernel
theorem dL_law_1293 : decode cL_law 1293 = .ok (.iload_n 3, 1) := by decide +kernel
theorem dL_law_1294 : decode cL_law 1294 = .ok (.iconst 1, 1) := by decide +kernel
theorem dL_law_1295 : decode cL_law 1295 = .ok (.iadd, 1) := by decide +kernel
theorem dL_law_1296 : decode cL_law 1296 = .ok (.iaload, 1) := by decide +kernel
theorem dL_law_1297 : decode cL_law 1297 = .ok (.invokevirtual 137, 3) := by decide +kernel
theorem dL_law_1300 : decode cL_law 1300 = .ok (.if_icmp .eq 143, 3) := by decide +kernel
theorem dL_law_1305 : decode cL_law 1305 = .ok (.aload_n 1, 1) := by decide +kernel
theorem dL_law_1306 : decode cL_law 1306 = .ok (.invokevirtual 138, 3) := by decide +kernel
theorem dL_law_1309 : decode cL_law 1309 = .ok (.aload_n 2, 1) := by decide +kernel
theorem dL_law_1310 : decode cL_law 1310 = .ok (.invokevirtual 141, 3) := by decide +kernel
theorem dL_law_1313 : decode cL_law 1313 = .ok (.if_icmp .eq 130, 3) := by decide +kernel
set_option maxHeartbeats 4000000 in
set_option maxRecDepth 100000 in
theorem law_first {p : Program} {l : Launch} {e : Env} {s : State} {m : MethodId} {below : List Frame} {meth : Method} {c : Code} {b : Nat} {xs : Nat → Int32} {H : Heap} {locs : List Loc} {ls : Array Slot} {dC : Nat → ClassId} {dI : Nat → Nat → Nat} {aC : Nat → ClassId} {hh bb mm d : Nat} (C0 : lw_At p s m meth c b 6 xs) (hK : zK (dC, dI) aC s) (hR : zReady s H dC dI aC hh bb mm d) (hS : va_S (fun q => s.heap.size ≤ q) s.heap H locs) (hl : lv_has ls 4 [(3, .int 0), (2, .ref mm), (1, .ref hh), (0, .ref b)]) : W p l e room_1 s m #[Value.ref b] below meth c H locs 8431 1660372 (lw_Z below #[Value.ref b] s) (F0 m 1163 ls []) := by
  have C1 := C0
  obtain ⟨hx, hb, hr, hml, hown0, hts, hX, hbl, hlocks, hgv⟩ := C0
  obtain ⟨hPh, hFh, hPm, hFm, ez1, ez2, ez3, ez4, hz0⟩ := hR
  have hown : s.vm.findClass RL = some m.cls := hown0
  have hall : ∀ w ∈ zAll, w.before #[Value.ref b] s = true := fun w h => hts w (zAll_in w h)
  have hbA : ¬ (fun q : Nat => s.heap.size ≤ q) b := Nat.not_le.mpr hbl
  generalize hAe : (fun q : Nat => s.heap.size ≤ q) = A at hS hbA
  have hA : ∀ q : Nat, s.heap.size ≤ q → A q := fun q h => by rw [← hAe]; exact h
  generalize hQ : lw_Z below #[Value.ref b] s = QQ
  obtain ⟨x1, hx1⟩ : ∃ y, xs (1 : Int32).toNatClampNeg = y := ⟨_, rfl⟩
  obtain ⟨x2, hx2⟩ : ∃ y, xs (2 : Int32).toNatClampNeg = y := ⟨_, rfl⟩
  by_cases hk : zok x1 = true
  · obtain ⟨a1, ea1⟩ : ∃ q, q = bb + (1 + 6 * x1.toNatClampNeg) := ⟨_, rfl⟩
    obtain ⟨a2, ea2⟩ : ∃ q, q = d + (7485 + 9 * x1.toNatClampNeg) := ⟨_, rfl⟩
    have hn12 := zok_12 hk
    have hsl : zslot bb x1 = some a1 := by rw [ea1]; exact zslot_1 hk
    have hSl : va_P (dC, dI) vwCl (zSlotW aC a1) H := by rw [ea1]; exact hFh _ hn12
    have hTh : va_P (dC, dI) vwCl (zThW aC a2) H := by rw [ea2]; exact hFm _ hn12
    have hP : va_P (dC, dI) vwCl [(hh, .inr (10, [.ref (bb + 0), .ref (bb + 73), .ref (bb + 75), .ref (bb + 76), .ref (bb + 80), .ref (bb + 81), .ref (bb + 88), .ref (bb + 95), .ref (bb + 100), .ref (bb + 106), .int 0, .ref (bb + 107), .int 0])), (bb + 0, .inl (aC 3, 12, .inr (.inr (.inr (.inr (zrefs (fun i => bb + (1 + 6 * i)) 12)))))), (a1, .inr (5, [.int 0, .int 0, .int 0, .int 0, .int 0, .int 0, .int 0, .ref (a1 + 1), .ref (a1 + 2), .ref (a1 + 3), .ref (a1 + 4), .ref (a1 + 5)])), (mm, .inr (15, [.ref (d + 0), .int 0, .ref (d + 1), .int 0, .ref (d + 2), .ref (d + 3), .ref (d + 68), .ref (d + 77), .ref (d + 78), .int 0, .int 0, .ref (d + 79), .int 0, .int 0, .int 0, .ref (d + 80), .int 0, .int 0, .int 0, .int 0, .ref (d + 81), .ref (d + 82), .int (-1), .ref (d + 91), .int 0, .int 0, .ref (d + 92), .int 0, .ref (d + 93), .int 0, .ref (d + 94), .int 0, .ref (d + 95), .ref (d + 96), .ref (d + 97), .ref (d + 98), .int 0, .int 0, .ref (d + 99), .null, .null, .null, .null, .null, .ref (d + 148), .ref (d + 175), .ref (d + 176), .ref (d + 177), .int 0, .ref (d + 178), .ref (d + 179), .ref (d + 180), .ref (d + 185), .ref (d + 190), .ref (d + 191), .ref (d + 192), .ref (d + 193), .ref (d + 201), .ref (d + 209), .ref (d + 210), .ref (d + 211), .ref (d + 272), .ref (d + 273), .int 0, .ref (d + 274)])), (d + 81, .inl (aC 6, 12, .inr (.inr (.inr (.inr (zrefs (fun i => d + (7485 + 9 * i)) 12)))))), (a2, .inr (13, [.int 0, .ref (a2 + 1 + 0), .ref (a2 + 1 + 1), .int 0, .int 0, .int 0, .ref (a2 + 1 + 2), .ref (a2 + 1 + 3), .ref (a2 + 1 + 4), .ref (a2 + 1 + 5), .int 0, .ref (a2 + 1 + 6), .int 0, .int 0, .ref (a2 + 1 + 7)]))] H := zP_c (hPh 0 _ rfl) (zP_c (hPh 1 _ rfl) (zP_c (hSl 0 _ rfl) (zP_c (hPm 0 _ rfl) (zP_c (hPm 15 _ rfl) (zP_c (hTh 0 _ rfl) (zP_n))))))
    have hD : va_D A [(hh, .inr (10, [.ref (bb + 0), .ref (bb + 73), .ref (bb + 75), .ref (bb + 76), .ref (bb + 80), .ref (bb + 81), .ref (bb + 88), .ref (bb + 95), .ref (bb + 100), .ref (bb + 106), .int 0, .ref (bb + 107), .int 0])), (bb + 0, .inl (aC 3, 12, .inr (.inr (.inr (.inr (zrefs (fun i => bb + (1 + 6 * i)) 12)))))), (a1, .inr (5, [.int 0, .int 0, .int 0, .int 0, .int 0, .int 0, .int 0, .ref (a1 + 1), .ref (a1 + 2), .ref (a1 + 3), .ref (a1 + 4), .ref (a1 + 5)])), (mm, .inr (15, [.ref (d + 0), .int 0, .ref (d + 1), .int 0, .ref (d + 2), .ref (d + 3), .ref (d + 68), .ref (d + 77), .ref (d + 78), .int 0, .int 0, .ref (d + 79), .int 0, .int 0, .int 0, .ref (d + 80), .int 0, .int 0, .int 0, .int 0, .ref (d + 81), .ref (d + 82), .int (-1), .ref (d + 91), .int 0, .int 0, .ref (d + 92), .int 0, .ref (d + 93), .int 0, .ref (d + 94), .int 0, .ref (d + 95), .ref (d + 96), .ref (d + 97), .ref (d + 98), .int 0, .int 0, .ref (d + 99), .null, .null, .null, .null, .null, .ref (d + 148), .ref (d + 175), .ref (d + 176), .ref (d + 177), .int 0, .ref (d + 178), .ref (d + 179), .ref (d + 180), .ref (d + 185), .ref (d + 190), .ref (d + 191), .ref (d + 192), .ref (d + 193), .ref (d + 201), .ref (d + 209), .ref (d + 210), .ref (d + 211), .ref (d + 272), .ref (d + 273), .int 0, .ref (d + 274)])), (d + 81, .inl (aC 6, 12, .inr (.inr (.inr (.inr (zrefs (fun i => d + (7485 + 9 * i)) 12)))))), (a2, .inr (13, [.int 0, .ref (a2 + 1 + 0), .ref (a2 + 1 + 1), .int 0, .int 0, .int 0, .ref (a2 + 1 + 2), .ref (a2 + 1 + 3), .ref (a2 + 1 + 4), .ref (a2 + 1 + 5), .int 0, .ref (a2 + 1 + 6), .int 0, .int 0, .ref (a2 + 1 + 7)]))] := zUp_D (lo := s.heap.size) hA (zUp_c (by omega) (zUp_c (by omega) (zUp_c (by omega) (zUp_c (by omega) (zUp_c (by omega) (zUp_c (by omega) (zUp_n)))))))
    clear hPh hFh hPm hFm hSl hTh
    refine lv_aload_n hx hb dL_law_1163 rfl (lv_at hl 2 rfl) ?_
    refine lv_aload_n hx hb dL_law_1164 rfl (lv_at hl 3 rfl) ?_
    refine lv_iload_n hx hb dL_law_1165 rfl (lv_at hl 0 rfl) ?_
    refine lv_iconst (v := 1) hx hb dL_law_1166 (by decide) ?_
    refine lv_iadd hx hb dL_law_1167 ?_
    refine lv_topi (fun y140359 ey140359 => ?_)
    obtain rfl : y140359 = 1 := by rw [ey140359]; decide
    try clear ey140359
    show W p l e _ s m _ below meth c _ _ _ _ QQ (F0 m 1168 ls [.int 1, .ref b, .ref hh])
    refine zsld hx hb hX hbl hbA hS (zvp (by decide)) hx1 dL_law_1168 ?_
    refine lv_aload_n hx hb dL_law_1169 rfl (lv_at hl 3 rfl) ?_
    refine lv_iload_n hx hb dL_law_1170 rfl (lv_at hl 0 rfl) ?_
    refine lv_iconst (v := 2) hx hb dL_law_1171 (by decide) ?_
    refine lv_iadd hx hb dL_law_1172 ?_
    refine lv_topi (fun y140360 ey140360 => ?_)
    obtain rfl : y140360 = 2 := by rw [ey140360]; decide
    try clear ey140360
    show W p l e _ s m _ below meth c _ _ _ _ QQ (F0 m 1173 ls [.int 2, .ref b, .int x1, .ref hh])
    refine zsld hx hb hX hbl hbA hS (zvp (by decide)) hx2 dL_law_1173 ?_
    refine zro_i hS hA (va_runV (As := [.int x1, .int x2]) (rest := []) ⟨hx, hb, hml, hown, hall⟩ (c_X11_first_in l dC dI aC hh bb a1 x1 x2 H.size hsl) (cwV 2 hall (zgV zw_697 zw_699 zw_700 zw_802 g_X11_first rfl) rfl rfl rfl (by decide +kernel) ⟨Nat.le_of_ble_eq_true rfl, Nat.le_of_ble_eq_true rfl⟩) (zPre_V (As := [.int x1, .int x2]) hK hP hD [0, 1, 2] rfl (by decide +kernel) (ci := 10) (q0 := 0) rfl rfl) rfl rfl hl.1 rfl (lv_room (Nat.le_of_ble_eq_true rfl)) dL_law_1174 ⟨Nat.le_of_ble_eq_true rfl, Nat.le_of_ble_eq_true rfl⟩) (fun ra L140361 hw hS' => ?_)
    clear hS
    have hS := hS'
    clear hS'
    have hwa := hw
    clear hw
    refine lv_aload_n hx hb dL_law_1177 rfl (lv_at hl 1 rfl) ?_
    refine lv_aload_n hx hb dL_law_1178 rfl (lv_at hl 3 rfl) ?_
    refine lv_iload_n hx hb dL_law_1179 rfl (lv_at hl 0 rfl) ?_
    show W p l e _ s m _ below meth c _ _ _ _ QQ (F0 m 1180 ls [.int 0, .ref b, .ref mm, .int ra])
    refine lv_iconst (v := 1) hx hb dL_law_1180 (by decide) ?_
    refine lv_iadd hx hb dL_law_1181 ?_
    refine lv_topi (fun y140362 ey140362 => ?_)
    obtain rfl : y140362 = 1 := by rw [ey140362]; decide
    try clear ey140362
    refine zsld hx hb hX hbl hbA hS (zvp (by decide)) hx1 dL_law_1182 ?_
    refine lv_aload_n hx hb dL_law_1183 rfl (lv_at hl 3 rfl) ?_
    refine lv_iload_n hx hb dL_law_1184 rfl (lv_at hl 0 rfl) ?_
    show W p l e _ s m _ below meth c _ _ _ _ QQ (F0 m 1185 ls [.int 0, .ref b, .int x1, .ref mm, .int ra])
    refine lv_iconst (v := 2) hx hb dL_law_1185 (by decide) ?_
    refine lv_iadd hx hb dL_law_1186 ?_
    refine lv_topi (fun y140363 ey140363 => ?_)
    obtain rfl : y140363 = 2 := by rw [ey140363]; decide
    try clear ey140363
    refine zsld hx hb hX hbl hbA hS (zvp (by decide)) hx2 dL_law_1187 ?_
    refine zro_i hS hA (va_runV (As := [.int x1, .int x2]) (rest := [.int ra]) ⟨hx, hb, hml, hown, hall⟩ (c_X16_first_in l dC dI aC mm d a2 x1 x2 H.size hk ea2) (cwV 2 hall (zgV zw_701 zw_703 zw_704 zw_812 g_X16_first rfl) rfl rfl rfl (by decide +kernel) ⟨Nat.le_of_ble_eq_true rfl, Nat.le_of_ble_eq_true rfl⟩) (zPre_V (As := [.int x1, .int x2]) hK hP hD [3, 4, 5] rfl (by decide +kernel) (ci := 15) (q0 := 0) rfl rfl) rfl rfl hl.1 rfl (lv_room (Nat.le_of_ble_eq_true rfl)) dL_law_1188 ⟨Nat.le_of_ble_eq_true rfl, Nat.le_of_ble_eq_true rfl⟩) (fun rb L140364 hw hS' => ?_)
    clear hS
    have hS := hS'
    clear hS'
    have hwb := hw
    clear hw
    refine lv_icmp_eq (tgt := 1443) hx hb dL_law_1191 (by decide) (fun _ => ?_) (fun hne => absurd (hwa.trans hwb.symm) hne)
    subst hQ
    subst hAe
    exact law_tail C1 (Nat.le_of_ble_eq_true rfl) (Nat.le_of_ble_eq_true rfl) hS (lv_sub hl [0, 3] rfl)
  · have hP : va_P (dC, dI) vwCl [(hh, .inr (10, [.ref (bb + 0), .ref (bb + 73), .ref (bb + 75), .ref (bb + 76), .ref (bb + 80), .ref (bb + 81), .ref (bb + 88), .ref (bb + 95), .ref (bb + 100), .ref (bb + 106), .int 0, .ref (bb + 107), .int 0])), (bb + 0, .inl (aC 3, 12, .inr (.inr (.inr (.inr (zrefs (fun i => bb + (1 + 6 * i)) 12)))))), (mm, .inr (15, [.ref (d + 0), .int 0, .ref (d + 1), .int 0, .ref (d + 2), .ref (d + 3), .ref (d + 68), .ref (d + 77), .ref (d + 78), .int 0, .int 0, .ref (d + 79), .int 0, .int 0, .int 0, .ref (d + 80), .int 0, .int 0, .int 0, .int 0, .ref (d + 81), .ref (d + 82), .int (-1), .ref (d + 91), .int 0, .int 0, .ref (d + 92), .int 0, .ref (d + 93), .int 0, .ref (d + 94), .int 0, .ref (d + 95), .ref (d + 96), .ref (d + 97), .ref (d + 98), .int 0, .int 0, .ref (d + 99), .null, .null, .null, .null, .null, .ref (d + 148), .ref (d + 175), .ref (d + 176), .ref (d + 177), .int 0, .ref (d + 178), .ref (d + 179), .ref (d + 180), .ref (d + 185), .ref (d + 190), .ref (d + 191), .ref (d + 192), .ref (d + 193), .ref (d + 201), .ref (d + 209), .ref (d + 210), .ref (d + 211), .ref (d + 272), .ref (d + 273), .int 0, .ref (d + 274)])), (d + 81, .inl (aC 6, 12, .inr (.inr (.inr (.inr (zrefs (fun i => d + (7485 + 9 * i)) 12))))))] H := zP_c (hPh 0 _ rfl) (zP_c (hPh 1 _ rfl) (zP_c (hPm 0 _ rfl) (zP_c (hPm 15 _ rfl) (zP_n))))
    have hD : va_D A [(hh, .inr (10, [.ref (bb + 0), .ref (bb + 73), .ref (bb + 75), .ref (bb + 76), .ref (bb + 80), .ref (bb + 81), .ref (bb + 88), .ref (bb + 95), .ref (bb + 100), .ref (bb + 106), .int 0, .ref (bb + 107), .int 0])), (bb + 0, .inl (aC 3, 12, .inr (.inr (.inr (.inr (zrefs (fun i => bb + (1 + 6 * i)) 12)))))), (mm, .inr (15, [.ref (d + 0), .int 0, .ref (d + 1), .int 0, .ref (d + 2), .ref (d + 3), .ref (d + 68), .ref (d + 77), .ref (d + 78), .int 0, .int 0, .ref (d + 79), .int 0, .int 0, .int 0, .ref (d + 80), .int 0, .int 0, .int 0, .int 0, .ref (d + 81), .ref (d + 82), .int (-1), .ref (d + 91), .int 0, .int 0, .ref (d + 92), .int 0, .ref (d + 93), .int 0, .ref (d + 94), .int 0, .ref (d + 95), .ref (d + 96), .ref (d + 97), .ref (d + 98), .int 0, .int 0, .ref (d + 99), .null, .null, .null, .null, .null, .ref (d + 148), .ref (d + 175), .ref (d + 176), .ref (d + 177), .int 0, .ref (d + 178), .ref (d + 179), .ref (d + 180), .ref (d + 185), .ref (d + 190), .ref (d + 191), .ref (d + 192), .ref (d + 193), .ref (d + 201), .ref (d + 209), .ref (d + 210), .ref (d + 211), .ref (d + 272), .ref (d + 273), .int 0, .ref (d + 274)])), (d + 81, .inl (aC 6, 12, .inr (.inr (.inr (.inr (zrefs (fun i => d + (7485 + 9 * i)) 12))))))] := zUp_D (lo := s.heap.size) hA (zUp_c (by omega) (zUp_c (by omega) (zUp_c (by omega) (zUp_c (by omega) (zUp_n)))))
    clear hPh hFh hPm hFm
    refine lv_aload_n hx hb dL_law_1163 rfl (lv_at hl 2 rfl) ?_
    refine lv_aload_n hx hb dL_law_1164 rfl (lv_at hl 3 rfl) ?_
    refine lv_iload_n hx hb dL_law_1165 rfl (lv_at hl 0 rfl) ?_
    refine lv_iconst (v := 1) hx hb dL_law_1166 (by decide) ?_
    refine lv_iadd hx hb dL_law_1167 ?_
    refine lv_topi (fun y140365 ey140365 => ?_)
    obtain rfl : y140365 = 1 := by rw [ey140365]; decide
    try clear ey140365
    show W p l e _ s m _ below meth c _ _ _ _ QQ (F0 m 1168 ls [.int 1, .ref b, .ref hh])
    refine zsld hx hb hX hbl hbA hS (zvp (by decide)) hx1 dL_law_1168 ?_
    refine lv_aload_n hx hb dL_law_1169 rfl (lv_at hl 3 rfl) ?_
    refine lv_iload_n hx hb dL_law_1170 rfl (lv_at hl 0 rfl) ?_
    refine lv_iconst (v := 2) hx hb dL_law_1171 (by decide) ?_
    refine lv_iadd hx hb dL_law_1172 ?_
    refine lv_topi (fun y140366 ey140366 => ?_)
    obtain rfl : y140366 = 2 := by rw [ey140366]; decide
    try clear ey140366
    show W p l e _ s m _ below meth c _ _ _ _ QQ (F0 m 1173 ls [.int 2, .ref b, .int x1, .ref hh])
    refine zsld hx hb hX hbl hbA hS (zvp (by decide)) hx2 dL_law_1173 ?_
    refine zro_i hS hA (va_runV (As := [.int x1, .int x2]) (rest := []) ⟨hx, hb, hml, hown, hall⟩ (c_X11_first_out l dC dI aC hh bb x1 x2 H.size (zslot_0 hk)) (cwV 2 hall (zgV zw_697 zw_699 zw_700 zw_802 g_X11_first rfl) rfl rfl rfl (by decide +kernel) ⟨Nat.le_of_ble_eq_true rfl, Nat.le_of_ble_eq_true rfl⟩) (zPre_V (As := [.int x1, .int x2]) hK hP hD [0, 1] rfl (by decide +kernel) (ci := 10) (q0 := 0) rfl rfl) rfl rfl hl.1 rfl (lv_room (Nat.le_of_ble_eq_true rfl)) dL_law_1174 ⟨Nat.le_of_ble_eq_true rfl, Nat.le_of_ble_eq_true rfl⟩) (fun ra L140367 hw hS' => ?_)
    clear hS
    have hS := hS'
    clear hS'
    have hwa := hw
    clear hw
    refine lv_aload_n hx hb dL_law_1177 rfl (lv_at hl 1 rfl) ?_
    refine lv_aload_n hx hb dL_law_1178 rfl (lv_at hl 3 rfl) ?_
    refine lv_iload_n hx hb dL_law_1179 rfl (lv_at hl 0 rfl) ?_
    show W p l e _ s m _ below meth c _ _ _ _ QQ (F0 m 1180 ls [.int 0, .ref b, .ref mm, .int ra])
    refine lv_iconst (v := 1) hx hb dL_law_1180 (by decide) ?_
    refine lv_iadd hx hb dL_law_1181 ?_
    refine lv_topi (fun y140368 ey140368 => ?_)
    obtain rfl : y140368 = 1 := by rw [ey140368]; decide
    try clear ey140368
    refine zsld hx hb hX hbl hbA hS (zvp (by decide)) hx1 dL_law_1182 ?_
    refine lv_aload_n hx hb dL_law_1183 rfl (lv_at hl 3 rfl) ?_
    refine lv_iload_n hx hb dL_law_1184 rfl (lv_at hl 0 rfl) ?_
    show W p l e _ s m _ below meth c _ _ _ _ QQ (F0 m 1185 ls [.int 0, .ref b, .int x1, .ref mm, .int ra])
    refine lv_iconst (v := 2) hx hb dL_law_1185 (by decide) ?_
    refine lv_iadd hx hb dL_law_1186 ?_
    refine lv_topi (fun y140369 ey140369 => ?_)
    obtain rfl : y140369 = 2 := by rw [ey140369]; decide
    try clear ey140369
    refine zsld hx hb hX hbl hbA hS (zvp (by decide)) hx2 dL_law_1187 ?_
    refine zro_i hS hA (va_runV (As := [.int x1, .int x2]) (rest := [.int ra]) ⟨hx, hb, hml, hown, hall⟩ (c_X16_first_out l dC dI aC mm d x1 x2 H.size hk) (cwV 2 hall (zgV zw_701 zw_703 zw_704 zw_812 g_X16_first rfl) rfl rfl rfl (by decide +kernel) ⟨Nat.le_of_ble_eq_true rfl, Nat.le_of_ble_eq_true rfl⟩) (zPre_V (As := [.int x1, .int x2]) hK hP hD [2, 3] rfl (by decide +kernel) (ci := 15) (q0 := 0) rfl rfl) rfl rfl hl.1 rfl (lv_room (Nat.le_of_ble_eq_true rfl)) dL_law_1188 ⟨Nat.le_of_ble_eq_true rfl, Nat.le_of_ble_eq_true rfl⟩) (fun rb L140370 hw hS' => ?_)
    clear hS
    have hS := hS'
    clear hS'
    have hwb := hw
    clear hw
    refine lv_icmp_eq (tgt := 1443) hx hb dL_law_1191 (by decide) (fun _ => ?_) (fun hne => absurd (hwa.trans hwb.symm) hne)
    subst hQ
    subst hAe
    exact law_tail C1 (Nat.le_of_ble_eq_true rfl) (Nat.le_of_ble_eq_true rfl) hS (lv_sub hl [0, 3] rfl)

set_option maxHeartbeats 4000000 in
set_option maxRecDepth 100000 in
theorem law_at {p : Program} {l : Launch} {e : Env} {s : State} {m : MethodId} {below : List Frame} {meth : Method} {c : Code} {b : Nat} {xs : Nat → Int32} {H : Heap} {locs : List Loc} {ls : Array Slot} {dC : Nat → ClassId} {dI : Nat → Nat → Nat} {aC : Nat → ClassId} {hh bb mm d : Nat} (C0 : lw_At p s m meth c b 6 xs) (hK : zK (dC, dI) aC s) (hR : zReady s H dC dI aC hh bb mm d) (hS : va_S (fun q => s.heap.size ≤ q) s.heap H locs) (hl : lv_has ls 4 [(3, .int 0), (2, .ref mm), (1, .ref hh), (0, .ref b)]) : W p l e room_1 s m #[Value.ref b] below meth c H locs 8431 1660372 (lw_Z below #[Value.ref b] s) (F0 m 1196 ls []) := by
  have C1 := C0
  obtain ⟨hx, hb, hr, hml, hown0, hts, hX, hbl, hlocks, hgv⟩ := C0
  obtain ⟨hPh, hFh, hPm, hFm, ez1, ez2, ez3, ez4, hz0⟩ := hR
  have hown : s.vm.findClass RL = some m.cls := hown0
  have hall : ∀ w ∈ zAll, w.before #[Value.ref b] s = true := fun w h => hts w (zAll_in w h)
  have hbA : ¬ (fun q : Nat => s.heap.size ≤ q) b := Nat.not_le.mpr hbl
  generalize hAe : (fun q : Nat => s.heap.size ≤ q) = A at hS hbA
  have hA : ∀ q : Nat, s.heap.size ≤ q → A q := fun q h => by rw [← hAe]; exact h
  generalize hQ : lw_Z below #[Value.ref b] s = QQ
  obtain ⟨x1, hx1⟩ : ∃ y, xs (1 : Int32).toNatClampNeg = y := ⟨_, rfl⟩
  obtain ⟨x2, hx2⟩ : ∃ y, xs (2 : Int32).toNatClampNeg = y := ⟨_, rfl⟩
  by_cases hk : zok x1 = true
  · obtain ⟨a1, ea1⟩ : ∃ q, q = bb + (1 + 6 * x1.toNatClampNeg) := ⟨_, rfl⟩
    obtain ⟨a2, ea2⟩ : ∃ q, q = d + (7485 + 9 * x1.toNatClampNeg) := ⟨_, rfl⟩
    have hn12 := zok_12 hk
    have hsl : zslot bb x1 = some a1 := by rw [ea1]; exact zslot_1 hk
    have hSl : va_P (dC, dI) vwCl (zSlotW aC a1) H := by rw [ea1]; exact hFh _ hn12
    have hTh : va_P (dC, dI) vwCl (zThW aC a2) H := by rw [ea2]; exact hFm _ hn12
    have hP : va_P (dC, dI) vwCl [(hh, .inr (10, [.ref (bb + 0), .ref (bb + 73), .ref (bb + 75), .ref (bb + 76), .ref (bb + 80), .ref (bb + 81), .ref (bb + 88), .ref (bb + 95), .ref (bb + 100), .ref (bb + 106), .int 0, .ref (bb + 107), .int 0])), (bb + 0, .inl (aC 3, 12, .inr (.inr (.inr (.inr (zrefs (fun i => bb + (1 + 6 * i)) 12)))))), (a1, .inr (5, [.int 0, .int 0, .int 0, .int 0, .int 0, .int 0, .int 0, .ref (a1 + 1), .ref (a1 + 2), .ref (a1 + 3), .ref (a1 + 4), .ref (a1 + 5)])), (mm, .inr (15, [.ref (d + 0), .int 0, .ref (d + 1), .int 0, .ref (d + 2), .ref (d + 3), .ref (d + 68), .ref (d + 77), .ref (d + 78), .int 0, .int 0, .ref (d + 79), .int 0, .int 0, .int 0, .ref (d + 80), .int 0, .int 0, .int 0, .int 0, .ref (d + 81), .ref (d + 82), .int (-1), .ref (d + 91), .int 0, .int 0, .ref (d + 92), .int 0, .ref (d + 93), .int 0, .ref (d + 94), .int 0, .ref (d + 95), .ref (d + 96), .ref (d + 97), .ref (d + 98), .int 0, .int 0, .ref (d + 99), .null, .null, .null, .null, .null, .ref (d + 148), .ref (d + 175), .ref (d + 176), .ref (d + 177), .int 0, .ref (d + 178), .ref (d + 179), .ref (d + 180), .ref (d + 185), .ref (d + 190), .ref (d + 191), .ref (d + 192), .ref (d + 193), .ref (d + 201), .ref (d + 209), .ref (d + 210), .ref (d + 211), .ref (d + 272), .ref (d + 273), .int 0, .ref (d + 274)])), (d + 81, .inl (aC 6, 12, .inr (.inr (.inr (.inr (zrefs (fun i => d + (7485 + 9 * i)) 12)))))), (a2, .inr (13, [.int 0, .ref (a2 + 1 + 0), .ref (a2 + 1 + 1), .int 0, .int 0, .int 0, .ref (a2 + 1 + 2), .ref (a2 + 1 + 3), .ref (a2 + 1 + 4), .ref (a2 + 1 + 5), .int 0, .ref (a2 + 1 + 6), .int 0, .int 0, .ref (a2 + 1 + 7)]))] H := zP_c (hPh 0 _ rfl) (zP_c (hPh 1 _ rfl) (zP_c (hSl 0 _ rfl) (zP_c (hPm 0 _ rfl) (zP_c (hPm 15 _ rfl) (zP_c (hTh 0 _ rfl) (zP_n))))))
    have hD : va_D A [(hh, .inr (10, [.ref (bb + 0), .ref (bb + 73), .ref (bb + 75), .ref (bb + 76), .ref (bb + 80), .ref (bb + 81), .ref (bb + 88), .ref (bb + 95), .ref (bb + 100), .ref (bb + 106), .int 0, .ref (bb + 107), .int 0])), (bb + 0, .inl (aC 3, 12, .inr (.inr (.inr (.inr (zrefs (fun i => bb + (1 + 6 * i)) 12)))))), (a1, .inr (5, [.int 0, .int 0, .int 0, .int 0, .int 0, .int 0, .int 0, .ref (a1 + 1), .ref (a1 + 2), .ref (a1 + 3), .ref (a1 + 4), .ref (a1 + 5)])), (mm, .inr (15, [.ref (d + 0), .int 0, .ref (d + 1), .int 0, .ref (d + 2), .ref (d + 3), .ref (d + 68), .ref (d + 77), .ref (d + 78), .int 0, .int 0, .ref (d + 79), .int 0, .int 0, .int 0, .ref (d + 80), .int 0, .int 0, .int 0, .int 0, .ref (d + 81), .ref (d + 82), .int (-1), .ref (d + 91), .int 0, .int 0, .ref (d + 92), .int 0, .ref (d + 93), .int 0, .ref (d + 94), .int 0, .ref (d + 95), .ref (d + 96), .ref (d + 97), .ref (d + 98), .int 0, .int 0, .ref (d + 99), .null, .null, .null, .null, .null, .ref (d + 148), .ref (d + 175), .ref (d + 176), .ref (d + 177), .int 0, .ref (d + 178), .ref (d + 179), .ref (d + 180), .ref (d + 185), .ref (d + 190), .ref (d + 191), .ref (d + 192), .ref (d + 193), .ref (d + 201), .ref (d + 209), .ref (d + 210), .ref (d + 211), .ref (d + 272), .ref (d + 273), .int 0, .ref (d + 274)])), (d + 81, .inl (aC 6, 12, .inr (.inr (.inr (.inr (zrefs (fun i => d + (7485 + 9 * i)) 12)))))), (a2, .inr (13, [.int 0, .ref (a2 + 1 + 0), .ref (a2 + 1 + 1), .int 0, .int 0, .int 0, .ref (a2 + 1 + 2), .ref (a2 + 1 + 3), .ref (a2 + 1 + 4), .ref (a2 + 1 + 5), .int 0, .ref (a2 + 1 + 6), .int 0, .int 0, .ref (a2 + 1 + 7)]))] := zUp_D (lo := s.heap.size) hA (zUp_c (by omega) (zUp_c (by omega) (zUp_c (by omega) (zUp_c (by omega) (zUp_c (by omega) (zUp_c (by omega) (zUp_n)))))))
    clear hPh hFh hPm hFm hSl hTh
    refine lv_aload_n hx hb dL_law_1196 rfl (lv_at hl 2 rfl) ?_
    refine lv_aload_n hx hb dL_law_1197 rfl (lv_at hl 3 rfl) ?_
    refine lv_iload_n hx hb dL_law_1198 rfl (lv_at hl 0 rfl) ?_
    refine lv_iconst (v := 1) hx hb dL_law_1199 (by decide) ?_
    refine lv_iadd hx hb dL_law_1200 ?_
    refine lv_topi (fun y140371 ey140371 => ?_)
    obtain rfl : y140371 = 1 := by rw [ey140371]; decide
    try clear ey140371
    show W p l e _ s m _ below meth c _ _ _ _ QQ (F0 m 1201 ls [.int 1, .ref b, .ref hh])
    refine zsld hx hb hX hbl hbA hS (zvp (by decide)) hx1 dL_law_1201 ?_
    refine lv_aload_n hx hb dL_law_1202 rfl (lv_at hl 3 rfl) ?_
    refine lv_iload_n hx hb dL_law_1203 rfl (lv_at hl 0 rfl) ?_
    refine lv_iconst (v := 2) hx hb dL_law_1204 (by decide) ?_
    refine lv_iadd hx hb dL_law_1205 ?_
    refine lv_topi (fun y140372 ey140372 => ?_)
    obtain rfl : y140372 = 2 := by rw [ey140372]; decide
    try clear ey140372
    show W p l e _ s m _ below meth c _ _ _ _ QQ (F0 m 1206 ls [.int 2, .ref b, .int x1, .ref hh])
    refine zsld hx hb hX hbl hbA hS (zvp (by decide)) hx2 dL_law_1206 ?_
    refine zro_i hS hA (va_runV (As := [.int x1, .int x2]) (rest := []) ⟨hx, hb, hml, hown, hall⟩ (c_X11_at_in l dC dI aC hh bb a1 x1 x2 H.size hsl) (cwV 2 hall (zgV zw_705 zw_707 zw_708 zw_802 g_X11_at rfl) rfl rfl rfl (by decide +kernel) ⟨Nat.le_of_ble_eq_true rfl, Nat.le_of_ble_eq_true rfl⟩) (zPre_V (As := [.int x1, .int x2]) hK hP hD [0, 1, 2] rfl (by decide +kernel) (ci := 10) (q0 := 0) rfl rfl) rfl rfl hl.1 rfl (lv_room (Nat.le_of_ble_eq_true rfl)) dL_law_1207 ⟨Nat.le_of_ble_eq_true rfl, Nat.le_of_ble_eq_true rfl⟩) (fun ra L140373 hw hS' => ?_)
    clear hS
    have hS := hS'
    clear hS'
    have hwa := hw
    clear hw
    refine lv_aload_n hx hb dL_law_1210 rfl (lv_at hl 1 rfl) ?_
    refine lv_aload_n hx hb dL_law_1211 rfl (lv_at hl 3 rfl) ?_
    refine lv_iload_n hx hb dL_law_1212 rfl (lv_at hl 0 rfl) ?_
    show W p l e _ s m _ below meth c _ _ _ _ QQ (F0 m 1213 ls [.int 0, .ref b, .ref mm, .int ra])
    refine lv_iconst (v := 1) hx hb dL_law_1213 (by decide) ?_
    refine lv_iadd hx hb dL_law_1214 ?_
    refine lv_topi (fun y140374 ey140374 => ?_)
    obtain rfl : y140374 = 1 := by rw [ey140374]; decide
    try clear ey140374
    refine zsld hx hb hX hbl hbA hS (zvp (by decide)) hx1 dL_law_1215 ?_
    refine lv_aload_n hx hb dL_law_1216 rfl (lv_at hl 3 rfl) ?_
    refine lv_iload_n hx hb dL_law_1217 rfl (lv_at hl 0 rfl) ?_
    show W p l e _ s m _ below meth c _ _ _ _ QQ (F0 m 1218 ls [.int 0, .ref b, .int x1, .ref mm, .int ra])
    refine lv_iconst (v := 2) hx hb dL_law_1218 (by decide) ?_
    refine lv_iadd hx hb dL_law_1219 ?_
    refine lv_topi (fun y140375 ey140375 => ?_)
    obtain rfl : y140375 = 2 := by rw [ey140375]; decide
    try clear ey140375
    refine zsld hx hb hX hbl hbA hS (zvp (by decide)) hx2 dL_law_1220 ?_
    refine zro_i hS hA (va_runV (As := [.int x1, .int x2]) (rest := [.int ra]) ⟨hx, hb, hml, hown, hall⟩ (c_X16_at_in l dC dI aC mm d a2 x1 x2 H.size hk ea2) (cwV 2 hall (zgV zw_709 zw_711 zw_712 zw_812 g_X16_at rfl) rfl rfl rfl (by decide +kernel) ⟨Nat.le_of_ble_eq_true rfl, Nat.le_of_ble_eq_true rfl⟩) (zPre_V (As := [.int x1, .int x2]) hK hP hD [3, 4, 5] rfl (by decide +kernel) (ci := 15) (q0 := 0) rfl rfl) rfl rfl hl.1 rfl (lv_room (Nat.le_of_ble_eq_true rfl)) dL_law_1221 ⟨Nat.le_of_ble_eq_true rfl, Nat.le_of_ble_eq_true rfl⟩) (fun rb L140376 hw hS' => ?_)
    clear hS
    have hS := hS'
    clear hS'
    have hwb := hw
    clear hw
    refine lv_icmp_eq (tgt := 1443) hx hb dL_law_1224 (by decide) (fun _ => ?_) (fun hne => absurd (hwa.trans hwb.symm) hne)
    subst hQ
    subst hAe
    exact law_tail C1 (Nat.le_of_ble_eq_true rfl) (Nat.le_of_ble_eq_true rfl) hS (lv_sub hl [0, 3] rfl)
  · have hP : va_P (dC, dI) vwCl [(hh, .inr (10, [.ref (bb + 0), .ref (bb + 73), .ref (bb + 75), .ref (bb + 76), .ref (bb + 80), .ref (bb + 81), .ref (bb + 88), .ref (bb + 95), .ref (bb + 100), .ref (bb + 106), .int 0, .ref (bb + 107), .int 0])), (bb + 0, .inl (aC 3, 12, .inr (.inr (.inr (.inr (zrefs (fun i => bb + (1 + 6 * i)) 12)))))), (mm, .inr (15, [.ref (d + 0), .int 0, .ref (d + 1), .int 0, .ref (d + 2), .ref (d + 3), .ref (d + 68), .ref (d + 77), .ref (d + 78), .int 0, .int 0, .ref (d + 79), .int 0, .int 0, .int 0, .ref (d + 80), .int 0, .int 0, .int 0, .int 0, .ref (d + 81), .ref (d + 82), .int (-1), .ref (d + 91), .int 0, .int 0, .ref (d + 92), .int 0, .ref (d + 93), .int 0, .ref (d + 94), .int 0, .ref (d + 95), .ref (d + 96), .ref (d + 97), .ref (d + 98), .int 0, .int 0, .ref (d + 99), .null, .null, .null, .null, .null, .ref (d + 148), .ref (d + 175), .ref (d + 176), .ref (d + 177), .int 0, .ref (d + 178), .ref (d + 179), .ref (d + 180), .ref (d + 185), .ref (d + 190), .ref (d + 191), .ref (d + 192), .ref (d + 193), .ref (d + 201), .ref (d + 209), .ref (d + 210), .ref (d + 211), .ref (d + 272), .ref (d + 273), .int 0, .ref (d + 274)])), (d + 81, .inl (aC 6, 12, .inr (.inr (.inr (.inr (zrefs (fun i => d + (7485 + 9 * i)) 12))))))] H := zP_c (hPh 0 _ rfl) (zP_c (hPh 1 _ rfl) (zP_c (hPm 0 _ rfl) (zP_c (hPm 15 _ rfl) (zP_n))))
    have hD : va_D A [(hh, .inr (10, [.ref (bb + 0), .ref (bb + 73), .ref (bb + 75), .ref (bb + 76), .ref (bb + 80), .ref (bb + 81), .ref (bb + 88), .ref (bb + 95), .ref (bb + 100), .ref (bb + 106), .int 0, .ref (bb + 107), .int 0])), (bb + 0, .inl (aC 3, 12, .inr (.inr (.inr (.inr (zrefs (fun i => bb + (1 + 6 * i)) 12)))))), (mm, .inr (15, [.ref (d + 0), .int 0, .ref (d + 1), .int 0, .ref (d + 2), .ref (d + 3), .ref (d + 68), .ref (d + 77), .ref (d + 78), .int 0, .int 0, .ref (d + 79), .int 0, .int 0, .int 0, .ref (d + 80), .int 0, .int 0, .int 0, .int 0, .ref (d + 81), .ref (d + 82), .int (-1), .ref (d + 91), .int 0, .int 0, .ref (d + 92), .int 0, .ref (d + 93), .int 0, .ref (d + 94), .int 0, .ref (d + 95), .ref (d + 96), .ref (d + 97), .ref (d + 98), .int 0, .int 0, .ref (d + 99), .null, .null, .null, .null, .null, .ref (d + 148), .ref (d + 175), .ref (d + 176), .ref (d + 177), .int 0, .ref (d + 178), .ref (d + 179), .ref (d + 180), .ref (d + 185), .ref (d + 190), .ref (d + 191), .ref (d + 192), .ref (d + 193), .ref (d + 201), .ref (d + 209), .ref (d + 210), .ref (d + 211), .ref (d + 272), .ref (d + 273), .int 0, .ref (d + 274)])), (d + 81, .inl (aC 6, 12, .inr (.inr (.inr (.inr (zrefs (fun i => d + (7485 + 9 * i)) 12))))))] := zUp_D (lo := s.heap.size) hA (zUp_c (by omega) (zUp_c (by omega) (zUp_c (by omega) (zUp_c (by omega) (zUp_n)))))
    clear hPh hFh hPm hFm
    refine lv_aload_n hx hb dL_law_1196 rfl (lv_at hl 2 rfl) ?_
    refine lv_aload_n hx hb dL_law_1197 rfl (lv_at hl 3 rfl) ?_
    refine lv_iload_n hx hb dL_law_1198 rfl (lv_at hl 0 rfl) ?_
    refine lv_iconst (v := 1) hx hb dL_law_1199 (by decide) ?_
    refine lv_iadd hx hb dL_law_1200 ?_
    refine lv_topi (fun y140377 ey140377 => ?_)
    obtain rfl : y140377 = 1 := by rw [ey140377]; decide
    try clear ey140377
    show W p l e _ s m _ below meth c _ _ _ _ QQ (F0 m 1201 ls [.int 1, .ref b, .ref hh])
    refine zsld hx hb hX hbl hbA hS (zvp (by decide)) hx1 dL_law_1201 ?_
    refine lv_aload_n hx hb dL_law_1202 rfl (lv_at hl 3 rfl) ?_
    refine lv_iload_n hx hb dL_law_1203 rfl (lv_at hl 0 rfl) ?_
    refine lv_iconst (v := 2) hx hb dL_law_1204 (by decide) ?_
    refine lv_iadd hx hb dL_law_1205 ?_
    refine lv_topi (fun y140378 ey140378 => ?_)
    obtain rfl : y140378 = 2 := by rw [ey140378]; decide
    try clear ey140378
    show W p l e _ s m _ below meth c _ _ _ _ QQ (F0 m 1206 ls [.int 2, .ref b, .int x1, .ref hh])
    refine zsld hx hb hX hbl hbA hS (zvp (by decide)) hx2 dL_law_1206 ?_
    refine zro_i hS hA (va_runV (As := [.int x1, .int x2]) (rest := []) ⟨hx, hb, hml, hown, hall⟩ (c_X11_at_out l dC dI aC hh bb x1 x2 H.size (zslot_0 hk)) (cwV 2 hall (zgV zw_705 zw_707 zw_708 zw_802 g_X11_at rfl) rfl rfl rfl (by decide +kernel) ⟨Nat.le_of_ble_eq_true rfl, Nat.le_of_ble_eq_true rfl⟩) (zPre_V (As := [.int x1, .int x2]) hK hP hD [0, 1] rfl (by decide +kernel) (ci := 10) (q0 := 0) rfl rfl) rfl rfl hl.1 rfl (lv_room (Nat.le_of_ble_eq_true rfl)) dL_law_1207 ⟨Nat.le_of_ble_eq_true rfl, Nat.le_of_ble_eq_true rfl⟩) (fun ra L140379 hw hS' => ?_)
    clear hS
    have hS := hS'
    clear hS'
    have hwa := hw
    clear hw
    refine lv_aload_n hx hb dL_law_1210 rfl (lv_at hl 1 rfl) ?_
    refine lv_aload_n hx hb dL_law_1211 rfl (lv_at hl 3 rfl) ?_
    refine lv_iload_n hx hb dL_law_1212 rfl (lv_at hl 0 rfl) ?_
    show W p l e _ s m _ below meth c _ _ _ _ QQ (F0 m 1213 ls [.int 0, .ref b, .ref mm, .int ra])
    refine lv_iconst (v := 1) hx hb dL_law_1213 (by decide) ?_
    refine lv_iadd hx hb dL_law_1214 ?_
    refine lv_topi (fun y140380 ey140380 => ?_)
    obtain rfl : y140380 = 1 := by rw [ey140380]; decide
    try clear ey140380
    refine zsld hx hb hX hbl hbA hS (zvp (by decide)) hx1 dL_law_1215 ?_
    refine lv_aload_n hx hb dL_law_1216 rfl (lv_at hl 3 rfl) ?_
    refine lv_iload_n hx hb dL_law_1217 rfl (lv_at hl 0 rfl) ?_
    show W p l e _ s m _ below meth c _ _ _ _ QQ (F0 m 1218 ls [.int 0, .ref b, .int x1, .ref mm, .int ra])
    refine lv_iconst (v := 2) hx hb dL_law_1218 (by decide) ?_
    refine lv_iadd hx hb dL_law_1219 ?_
    refine lv_topi (fun y140381 ey140381 => ?_)
    obtain rfl : y140381 = 2 := by rw [ey140381]; decide
    try clear ey140381
    refine zsld hx hb hX hbl hbA hS (zvp (by decide)) hx2 dL_law_1220 ?_
    refine zro_i hS hA (va_runV (As := [.int x1, .int x2]) (rest := [.int ra]) ⟨hx, hb, hml, hown, hall⟩ (c_X16_at_out l dC dI aC mm d x1 x2 H.size hk) (cwV 2 hall (zgV zw_709 zw_711 zw_712 zw_812 g_X16_at rfl) rfl rfl rfl (by decide +kernel) ⟨Nat.le_of_ble_eq_true rfl, Nat.le_of_ble_eq_true rfl⟩) (zPre_V (As := [.int x1, .int x2]) hK hP hD [2, 3] rfl (by decide +kernel) (ci := 15) (q0 := 0) rfl rfl) rfl rfl hl.1 rfl (lv_room (Nat.le_of_ble_eq_true rfl)) dL_law_1221 ⟨Nat.le_of_ble_eq_true rfl, Nat.le_of_ble_eq_true rfl⟩) (fun rb L140382 hw hS' => ?_)
    clear hS
    have hS := hS'
    clear hS'
    have hwb := hw
    clear hw
    refine lv_icmp_eq (tgt := 1443) hx hb dL_law_1224 (by decide) (fun _ => ?_) (fun hne => absurd (hwa.trans hwb.symm) hne)
    subst hQ
    subst hAe
    exact law_tail C1 (Nat.le_of_ble_eq_true rfl) (Nat.le_of_ble_eq_true rfl) hS (lv_sub hl [0, 3] rfl)

set_option maxHeartbeats 4000000 in
set_option maxRecDepth 100000 in
theorem law_join {p : Program} {l : Launch} {e : Env} {s : State} {m : MethodId} {below : List Frame} {meth : Method} {c : Code} {b : Nat} {xs : Nat → Int32} {H : Heap} {locs : List Loc} {ls : Array Slot} {dC : Nat → ClassId} {dI : Nat → Nat → Nat} {aC : Nat → ClassId} {hh bb mm d : Nat} (C0 : lw_At p s m meth c b 6 xs) (hK : zK (dC, dI) aC s) (hR : zReady s H dC dI aC hh bb mm d) (hS : va_S (fun q => s.heap.size ≤ q) s.heap H locs) (hl : lv_has ls 4 [(3, .int 0), (2, .ref mm), (1, .ref hh), (0, .ref b)]) : W p l e room_1 s m #[Value.ref b] below meth c H locs 8431 1660372 (lw_Z below #[Value.ref b] s) (F0 m 1229 ls []) := by
  have C1 := C0
  obtain ⟨hx, hb, hr, hml, hown0, hts, hX, hbl, hlocks, hgv⟩ := C0
  obtain ⟨hPh, hFh, hPm, hFm, ez1, ez2, ez3, ez4, hz0⟩ := hR
  have hown : s.vm.findClass RL = some m.cls := hown0
  have hall : ∀ w ∈ zAll, w.before #[Value.ref b] s = true := fun w h => hts w (zAll_in w h)
  have hbA : ¬ (fun q : Nat => s.heap.size ≤ q) b := Nat.not_le.mpr hbl
  generalize hAe : (fun q : Nat => s.heap.size ≤ q) = A at hS hbA
  have hA : ∀ q : Nat, s.heap.size ≤ q → A q := fun q h => by rw [← hAe]; exact h
  generalize hQ : lw_Z below #[Value.ref b] s = QQ
  obtain ⟨x1, hx1⟩ : ∃ y, xs (1 : Int32).toNatClampNeg = y := ⟨_, rfl⟩
  obtain ⟨x2, hx2⟩ : ∃ y, xs (2 : Int32).toNatClampNeg = y := ⟨_, rfl⟩
  obtain ⟨x3, hx3⟩ : ∃ y, xs (3 : Int32).toNatClampNeg = y := ⟨_, rfl⟩
  obtain ⟨x4, hx4⟩ : ∃ y, xs (4 : Int32).toNatClampNeg = y := ⟨_, rfl⟩
  by_cases hk : zok x2 = true
  · obtain ⟨a1, ea1⟩ : ∃ q, q = bb + (1 + 6 * x2.toNatClampNeg) := ⟨_, rfl⟩
    obtain ⟨a2, ea2⟩ : ∃ q, q = d + (7485 + 9 * x2.toNatClampNeg) := ⟨_, rfl⟩
    have hn12 := zok_12 hk
    have hsl : zslot bb x2 = some a1 := by rw [ea1]; exact zslot_1 hk
    have hSl : va_P (dC, dI) vwCl (zSlotW aC a1) H := by rw [ea1]; exact hFh _ hn12
    have hTh : va_P (dC, dI) vwCl (zThW aC a2) H := by rw [ea2]; exact hFm _ hn12
    have hP : va_P (dC, dI) vwCl [(hh, .inr (10, [.ref (bb + 0), .ref (bb + 73), .ref (bb + 75), .ref (bb + 76), .ref (bb + 80), .ref (bb + 81), .ref (bb + 88), .ref (bb + 95), .ref (bb + 100), .ref (bb + 106), .int 0, .ref (bb + 107), .int 0])), (bb + 0, .inl (aC 3, 12, .inr (.inr (.inr (.inr (zrefs (fun i => bb + (1 + 6 * i)) 12)))))), (a1, .inr (5, [.int 0, .int 0, .int 0, .int 0, .int 0, .int 0, .int 0, .ref (a1 + 1), .ref (a1 + 2), .ref (a1 + 3), .ref (a1 + 4), .ref (a1 + 5)])), (mm, .inr (15, [.ref (d + 0), .int 0, .ref (d + 1), .int 0, .ref (d + 2), .ref (d + 3), .ref (d + 68), .ref (d + 77), .ref (d + 78), .int 0, .int 0, .ref (d + 79), .int 0, .int 0, .int 0, .ref (d + 80), .int 0, .int 0, .int 0, .int 0, .ref (d + 81), .ref (d + 82), .int (-1), .ref (d + 91), .int 0, .int 0, .ref (d + 92), .int 0, .ref (d + 93), .int 0, .ref (d + 94), .int 0, .ref (d + 95), .ref (d + 96), .ref (d + 97), .ref (d + 98), .int 0, .int 0, .ref (d + 99), .null, .null, .null, .null, .null, .ref (d + 148), .ref (d + 175), .ref (d + 176), .ref (d + 177), .int 0, .ref (d + 178), .ref (d + 179), .ref (d + 180), .ref (d + 185), .ref (d + 190), .ref (d + 191), .ref (d + 192), .ref (d + 193), .ref (d + 201), .ref (d + 209), .ref (d + 210), .ref (d + 211), .ref (d + 272), .ref (d + 273), .int 0, .ref (d + 274)])), (d + 81, .inl (aC 6, 12, .inr (.inr (.inr (.inr (zrefs (fun i => d + (7485 + 9 * i)) 12)))))), (a2, .inr (13, [.int 0, .ref (a2 + 1 + 0), .ref (a2 + 1 + 1), .int 0, .int 0, .int 0, .ref (a2 + 1 + 2), .ref (a2 + 1 + 3), .ref (a2 + 1 + 4), .ref (a2 + 1 + 5), .int 0, .ref (a2 + 1 + 6), .int 0, .int 0, .ref (a2 + 1 + 7)]))] H := zP_c (hPh 0 _ rfl) (zP_c (hPh 1 _ rfl) (zP_c (hSl 0 _ rfl) (zP_c (hPm 0 _ rfl) (zP_c (hPm 15 _ rfl) (zP_c (hTh 0 _ rfl) (zP_n))))))
    have hD : va_D A [(hh, .inr (10, [.ref (bb + 0), .ref (bb + 73), .ref (bb + 75), .ref (bb + 76), .ref (bb + 80), .ref (bb + 81), .ref (bb + 88), .ref (bb + 95), .ref (bb + 100), .ref (bb + 106), .int 0, .ref (bb + 107), .int 0])), (bb + 0, .inl (aC 3, 12, .inr (.inr (.inr (.inr (zrefs (fun i => bb + (1 + 6 * i)) 12)))))), (a1, .inr (5, [.int 0, .int 0, .int 0, .int 0, .int 0, .int 0, .int 0, .ref (a1 + 1), .ref (a1 + 2), .ref (a1 + 3), .ref (a1 + 4), .ref (a1 + 5)])), (mm, .inr (15, [.ref (d + 0), .int 0, .ref (d + 1), .int 0, .ref (d + 2), .ref (d + 3), .ref (d + 68), .ref (d + 77), .ref (d + 78), .int 0, .int 0, .ref (d + 79), .int 0, .int 0, .int 0, .ref (d + 80), .int 0, .int 0, .int 0, .int 0, .ref (d + 81), .ref (d + 82), .int (-1), .ref (d + 91), .int 0, .int 0, .ref (d + 92), .int 0, .ref (d + 93), .int 0, .ref (d + 94), .int 0, .ref (d + 95), .ref (d + 96), .ref (d + 97), .ref (d + 98), .int 0, .int 0, .ref (d + 99), .null, .null, .null, .null, .null, .ref (d + 148), .ref (d + 175), .ref (d + 176), .ref (d + 177), .int 0, .ref (d + 178), .ref (d + 179), .ref (d + 180), .ref (d + 185), .ref (d + 190), .ref (d + 191), .ref (d + 192), .ref (d + 193), .ref (d + 201), .ref (d + 209), .ref (d + 210), .ref (d + 211), .ref (d + 272), .ref (d + 273), .int 0, .ref (d + 274)])), (d + 81, .inl (aC 6, 12, .inr (.inr (.inr (.inr (zrefs (fun i => d + (7485 + 9 * i)) 12)))))), (a2, .inr (13, [.int 0, .ref (a2 + 1 + 0), .ref (a2 + 1 + 1), .int 0, .int 0, .int 0, .ref (a2 + 1 + 2), .ref (a2 + 1 + 3), .ref (a2 + 1 + 4), .ref (a2 + 1 + 5), .int 0, .ref (a2 + 1 + 6), .int 0, .int 0, .ref (a2 + 1 + 7)]))] := zUp_D (lo := s.heap.size) hA (zUp_c (by omega) (zUp_c (by omega) (zUp_c (by omega) (zUp_c (by omega) (zUp_c (by omega) (zUp_c (by omega) (zUp_n)))))))
    clear hPh hFh hPm hFm hSl hTh
    refine lv_aload_n hx hb dL_law_1229 rfl (lv_at hl 2 rfl) ?_
    refine lv_aload_n hx hb dL_law_1230 rfl (lv_at hl 3 rfl) ?_
    refine lv_iload_n hx hb dL_law_1231 rfl (lv_at hl 0 rfl) ?_
    refine lv_iconst (v := 1) hx hb dL_law_1232 (by decide) ?_
    refine lv_iadd hx hb dL_law_1233 ?_
    refine lv_topi (fun y140383 ey140383 => ?_)
    obtain rfl : y140383 = 1 := by rw [ey140383]; decide
    try clear ey140383
    show W p l e _ s m _ below meth c _ _ _ _ QQ (F0 m 1234 ls [.int 1, .ref b, .ref hh])
    refine zsld hx hb hX hbl hbA hS (zvp (by decide)) hx1 dL_law_1234 ?_
    refine lv_aload_n hx hb dL_law_1235 rfl (lv_at hl 3 rfl) ?_
    refine lv_iload_n hx hb dL_law_1236 rfl (lv_at hl 0 rfl) ?_
    refine lv_iconst (v := 2) hx hb dL_law_1237 (by decide) ?_
    refine lv_iadd hx hb dL_law_1238 ?_
    refine lv_topi (fun y140384 ey140384 => ?_)
    obtain rfl : y140384 = 2 := by rw [ey140384]; decide
    try clear ey140384
    show W p l e _ s m _ below meth c _ _ _ _ QQ (F0 m 1239 ls [.int 2, .ref b, .int x1, .ref hh])
    refine zsld hx hb hX hbl hbA hS (zvp (by decide)) hx2 dL_law_1239 ?_
    refine lv_aload_n hx hb dL_law_1240 rfl (lv_at hl 3 rfl) ?_
    refine lv_iload_n hx hb dL_law_1241 rfl (lv_at hl 0 rfl) ?_
    refine lv_iconst (v := 3) hx hb dL_law_1242 (by decide) ?_
    refine lv_iadd hx hb dL_law_1243 ?_
    refine lv_topi (fun y140385 ey140385 => ?_)
    obtain rfl : y140385 = 3 := by rw [ey140385]; decide
    try clear ey140385
    show W p l e _ s m _ below meth c _ _ _ _ QQ (F0 m 1244 ls [.int 3, .ref b, .int x2, .int x1, .ref hh])
    refine zsld hx hb hX hbl hbA hS (zvp (by decide)) hx3 dL_law_1244 ?_
    refine lv_aload_n hx hb dL_law_1245 rfl (lv_at hl 3 rfl) ?_
    refine lv_iload_n hx hb dL_law_1246 rfl (lv_at hl 0 rfl) ?_
    refine lv_iconst (v := 4) hx hb dL_law_1247 (by decide) ?_
    refine lv_iadd hx hb dL_law_1248 ?_
    refine lv_topi (fun y140386 ey140386 => ?_)
    obtain rfl : y140386 = 4 := by rw [ey140386]; decide
    try clear ey140386
    show W p l e _ s m _ below meth c _ _ _ _ QQ (F0 m 1249 ls [.int 4, .ref b, .int x3, .int x2, .int x1, .ref hh])
    refine zsld hx hb hX hbl hbA hS (zvp (by decide)) hx4 dL_law_1249 ?_
    refine zro_i hS hA (va_runV (As := [.int x1, .int x2, .int x3, .int x4]) (rest := []) ⟨hx, hb, hml, hown, hall⟩ (c_X11_join_in l dC dI aC hh bb a1 x1 x2 x3 x4 H.size hsl) (cwV 4 hall (zgV zw_713 zw_715 zw_716 zw_802 g_X11_join rfl) rfl rfl rfl (by decide +kernel) ⟨Nat.le_of_ble_eq_true rfl, Nat.le_of_ble_eq_true rfl⟩) (zPre_V (As := [.int x1, .int x2, .int x3, .int x4]) hK hP hD [0, 1, 2] rfl (by decide +kernel) (ci := 10) (q0 := 0) rfl rfl) rfl rfl hl.1 rfl (lv_room (Nat.le_of_ble_eq_true rfl)) dL_law_1250 ⟨Nat.le_of_ble_eq_true rfl, Nat.le_of_ble_eq_true rfl⟩) (fun ra L140387 hw hS' => ?_)
    clear hS
    have hS := hS'
    clear hS'
    have hwa := hw
    clear hw
    refine lv_aload_n hx hb dL_law_1253 rfl (lv_at hl 1 rfl) ?_
    refine lv_aload_n hx hb dL_law_1254 rfl (lv_at hl 3 rfl) ?_
    refine lv_iload_n hx hb dL_law_1255 rfl (lv_at hl 0 rfl) ?_
    show W p l e _ s m _ below meth c _ _ _ _ QQ (F0 m 1256 ls [.int 0, .ref b, .ref mm, .int ra])
    refine lv_iconst (v := 1) hx hb dL_law_1256 (by decide) ?_
    refine lv_iadd hx hb dL_law_1257 ?_
    refine lv_topi (fun y140388 ey140388 => ?_)
    obtain rfl : y140388 = 1 := by rw [ey140388]; decide
    try clear ey140388
    refine zsld hx hb hX hbl hbA hS (zvp (by decide)) hx1 dL_law_1258 ?_
    refine lv_aload_n hx hb dL_law_1259 rfl (lv_at hl 3 rfl) ?_
    refine lv_iload_n hx hb dL_law_1260 rfl (lv_at hl 0 rfl) ?_
    show W p l e _ s m _ below meth c _ _ _ _ QQ (F0 m 1261 ls [.int 0, .ref b, .int x1, .ref mm, .int ra])
    refine lv_iconst (v := 2) hx hb dL_law_1261 (by decide) ?_
    refine lv_iadd hx hb dL_law_1262 ?_
    refine lv_topi (fun y140389 ey140389 => ?_)
    obtain rfl : y140389 = 2 := by rw [ey140389]; decide
    try clear ey140389
    refine zsld hx hb hX hbl hbA hS (zvp (by decide)) hx2 dL_law_1263 ?_
    refine lv_aload_n hx hb dL_law_1264 rfl (lv_at hl 3 rfl) ?_
    refine lv_iload_n hx hb dL_law_1265 rfl (lv_at hl 0 rfl) ?_
    show W p l e _ s m _ below meth c _ _ _ _ QQ (F0 m 1266 ls [.int 0, .ref b, .int x2, .int x1, .ref mm, .int ra])
    refine lv_iconst (v := 3) hx hb dL_law_1266 (by decide) ?_
    refine lv_iadd hx hb dL_law_1267 ?_
    refine lv_topi (fun y140390 ey140390 => ?_)
    obtain rfl : y140390 = 3 := by rw [ey140390]; decide
    try clear ey140390
    refine zsld hx hb hX hbl hbA hS (zvp (by decide)) hx3 dL_law_1268 ?_
    refine lv_aload_n hx hb dL_law_1269 rfl (lv_at hl 3 rfl) ?_
    refine lv_iload_n hx hb dL_law_1270 rfl (lv_at hl 0 rfl) ?_
    show W p l e _ s m _ below meth c _ _ _ _ QQ (F0 m 1271 ls [.int 0, .ref b, .int x3, .int x2, .int x1, .ref mm, .int ra])
    refine lv_iconst (v := 4) hx hb dL_law_1271 (by decide) ?_
    refine lv_iadd hx hb dL_law_1272 ?_
    refine lv_topi (fun y140391 ey140391 => ?_)
    obtain rfl : y140391 = 4 := by rw [ey140391]; decide
    try clear ey140391
    refine zsld hx hb hX hbl hbA hS (zvp (by decide)) hx4 dL_law_1273 ?_
    refine zro_i hS hA (va_runV (As := [.int x1, .int x2, .int x3, .int x4]) (rest := [.int ra]) ⟨hx, hb, hml, hown, hall⟩ (c_X16_join_in l dC dI aC mm d a2 x1 x2 x3 x4 H.size hk ea2) (cwV 4 hall (zgV zw_717 zw_719 zw_720 zw_812 g_X16_join rfl) rfl rfl rfl (by decide +kernel) ⟨Nat.le_of_ble_eq_true rfl, Nat.le_of_ble_eq_true rfl⟩) (zPre_V (As := [.int x1, .int x2, .int x3, .int x4]) hK hP hD [3, 4, 5] rfl (by decide +kernel) (ci := 15) (q0 := 0) rfl rfl) rfl rfl hl.1 rfl (lv_room (Nat.le_of_ble_eq_true rfl)) dL_law_1274 ⟨Nat.le_of_ble_eq_true rfl, Nat.le_of_ble_eq_true rfl⟩) (fun rb L140392 hw hS' => ?_)
    clear hS
    have hS := hS'
    clear hS'
    have hwb := hw
    clear hw
    refine lv_icmp_eq (tgt := 1443) hx hb dL_law_1277 (by decide) (fun _ => ?_) (fun hne => absurd (hwa.trans hwb.symm) hne)
    subst hQ
    subst hAe
    exact law_tail C1 (Nat.le_of_ble_eq_true rfl) (Nat.le_of_ble_eq_true rfl) hS (lv_sub hl [0, 3] rfl)
  · have hP : va_P (dC, dI) vwCl [(hh, .inr (10, [.ref (bb + 0), .ref (bb + 73), .ref (bb + 75), .ref (bb + 76), .ref (bb + 80), .ref (bb + 81), .ref (bb + 88), .ref (bb + 95), .ref (bb + 100), .ref (bb + 106), .int 0, .ref (bb + 107), .int 0])), (bb + 0, .inl (aC 3, 12, .inr (.inr (.inr (.inr (zrefs (fun i => bb + (1 + 6 * i)) 12)))))), (mm, .inr (15, [.ref (d + 0), .int 0, .ref (d + 1), .int 0, .ref (d + 2), .ref (d + 3), .ref (d + 68), .ref (d + 77), .ref (d + 78), .int 0, .int 0, .ref (d + 79), .int 0, .int 0, .int 0, .ref (d + 80), .int 0, .int 0, .int 0, .int 0, .ref (d + 81), .ref (d + 82), .int (-1), .ref (d + 91), .int 0, .int 0, .ref (d + 92), .int 0, .ref (d + 93), .int 0, .ref (d + 94), .int 0, .ref (d + 95), .ref (d + 96), .ref (d + 97), .ref (d + 98), .int 0, .int 0, .ref (d + 99), .null, .null, .null, .null, .null, .ref (d + 148), .ref (d + 175), .ref (d + 176), .ref (d + 177), .int 0, .ref (d + 178), .ref (d + 179), .ref (d + 180), .ref (d + 185), .ref (d + 190), .ref (d + 191), .ref (d + 192), .ref (d + 193), .ref (d + 201), .ref (d + 209), .ref (d + 210), .ref (d + 211), .ref (d + 272), .ref (d + 273), .int 0, .ref (d + 274)])), (d + 81, .inl (aC 6, 12, .inr (.inr (.inr (.inr (zrefs (fun i => d + (7485 + 9 * i)) 12))))))] H := zP_c (hPh 0 _ rfl) (zP_c (hPh 1 _ rfl) (zP_c (hPm 0 _ rfl) (zP_c (hPm 15 _ rfl) (zP_n))))
    have hD : va_D A [(hh, .inr (10, [.ref (bb + 0), .ref (bb + 73), .ref (bb + 75), .ref (bb + 76), .ref (bb + 80), .ref (bb + 81), .ref (bb + 88), .ref (bb + 95), .ref (bb + 100), .ref (bb + 106), .int 0, .ref (bb + 107), .int 0])), (bb + 0, .inl (aC 3, 12, .inr (.inr (.inr (.inr (zrefs (fun i => bb + (1 + 6 * i)) 12)))))), (mm, .inr (15, [.ref (d + 0), .int 0, .ref (d + 1), .int 0, .ref (d + 2), .ref (d + 3), .ref (d + 68), .ref (d + 77), .ref (d + 78), .int 0, .int 0, .ref (d + 79), .int 0, .int 0, .int 0, .ref (d + 80), .int 0, .int 0, .int 0, .int 0, .ref (d + 81), .ref (d + 82), .int (-1), .ref (d + 91), .int 0, .int 0, .ref (d + 92), .int 0, .ref (d + 93), .int 0, .ref (d + 94), .int 0, .ref (d + 95), .ref (d + 96), .ref (d + 97), .ref (d + 98), .int 0, .int 0, .ref (d + 99), .null, .null, .null, .null, .null, .ref (d + 148), .ref (d + 175), .ref (d + 176), .ref (d + 177), .int 0, .ref (d + 178), .ref (d + 179), .ref (d + 180), .ref (d + 185), .ref (d + 190), .ref (d + 191), .ref (d + 192), .ref (d + 193), .ref (d + 201), .ref (d + 209), .ref (d + 210), .ref (d + 211), .ref (d + 272), .ref (d + 273), .int 0, .ref (d + 274)])), (d + 81, .inl (aC 6, 12, .inr (.inr (.inr (.inr (zrefs (fun i => d + (7485 + 9 * i)) 12))))))] := zUp_D (lo := s.heap.size) hA (zUp_c (by omega) (zUp_c (by omega) (zUp_c (by omega) (zUp_c (by omega) (zUp_n)))))
    clear hPh hFh hPm hFm
    refine lv_aload_n hx hb dL_law_1229 rfl (lv_at hl 2 rfl) ?_
    refine lv_aload_n hx hb dL_law_1230 rfl (lv_at hl 3 rfl) ?_
    refine lv_iload_n hx hb dL_law_1231 rfl (lv_at hl 0 rfl) ?_
    refine lv_iconst (v := 1) hx hb dL_law_1232 (by decide) ?_
    refine lv_iadd hx hb dL_law_1233 ?_
    refine lv_topi (fun y140393 ey140393 => ?_)
    obtain rfl : y140393 = 1 := by rw [ey140393]; decide
    try clear ey140393
    show W p l e _ s m _ below meth c _ _ _ _ QQ (F0 m 1234 ls [.int 1, .ref b, .ref hh])
    refine zsld hx hb hX hbl hbA hS (zvp (by decide)) hx1 dL_law_1234 ?_
    refine lv_aload_n hx hb dL_law_1235 rfl (lv_at hl 3 rfl) ?_
    refine lv_iload_n hx hb dL_law_1236 rfl (lv_at hl 0 rfl) ?_
    refine lv_iconst (v := 2) hx hb dL_law_1237 (by decide) ?_
    refine lv_iadd hx hb dL_law_1238 ?_
    refine lv_topi (fun y140394 ey140394 => ?_)
    obtain rfl : y140394 = 2 := by rw [ey140394]; decide
    try clear ey140394
    show W p l e _ s m _ below meth c _ _ _ _ QQ (F0 m 1239 ls [.int 2, .ref b, .int x1, .ref hh])
    refine zsld hx hb hX hbl hbA hS (zvp (by decide)) hx2 dL_law_1239 ?_
    refine lv_aload_n hx hb dL_law_1240 rfl (lv_at hl 3 rfl) ?_
    refine lv_iload_n hx hb dL_law_1241 rfl (lv_at hl 0 rfl) ?_
    refine lv_iconst (v := 3) hx hb dL_law_1242 (by decide) ?_
    refine lv_iadd hx hb dL_law_1243 ?_
    refine lv_topi (fun y140395 ey140395 => ?_)
    obtain rfl : y140395 = 3 := by rw [ey140395]; decide
    try clear ey140395
    show W p l e _ s m _ below meth c _ _ _ _ QQ (F0 m 1244 ls [.int 3, .ref b, .int x2, .int x1, .ref hh])
    refine zsld hx hb hX hbl hbA hS (zvp (by decide)) hx3 dL_law_1244 ?_
    refine lv_aload_n hx hb dL_law_1245 rfl (lv_at hl 3 rfl) ?_
    refine lv_iload_n hx hb dL_law_1246 rfl (lv_at hl 0 rfl) ?_
    refine lv_iconst (v := 4) hx hb dL_law_1247 (by decide) ?_
    refine lv_iadd hx hb dL_law_1248 ?_
    refine lv_topi (fun y140396 ey140396 => ?_)
    obtain rfl : y140396 = 4 := by rw [ey140396]; decide
    try clear ey140396
    show W p l e _ s m _ below meth c _ _ _ _ QQ (F0 m 1249 ls [.int 4, .ref b, .int x3, .int x2, .int x1, .ref hh])
    refine zsld hx hb hX hbl hbA hS (zvp (by decide)) hx4 dL_law_1249 ?_
    refine zro_i hS hA (va_runV (As := [.int x1, .int x2, .int x3, .int x4]) (rest := []) ⟨hx, hb, hml, hown, hall⟩ (c_X11_join_out l dC dI aC hh bb x1 x2 x3 x4 H.size (zslot_0 hk)) (cwV 4 hall (zgV zw_713 zw_715 zw_716 zw_802 g_X11_join rfl) rfl rfl rfl (by decide +kernel) ⟨Nat.le_of_ble_eq_true rfl, Nat.le_of_ble_eq_true rfl⟩) (zPre_V (As := [.int x1, .int x2, .int x3, .int x4]) hK hP hD [0, 1] rfl (by decide +kernel) (ci := 10) (q0 := 0) rfl rfl) rfl rfl hl.1 rfl (lv_room (Nat.le_of_ble_eq_true rfl)) dL_law_1250 ⟨Nat.le_of_ble_eq_true rfl, Nat.le_of_ble_eq_true rfl⟩) (fun ra L140397 hw hS' => ?_)
    clear hS
    have hS := hS'
    clear hS'
    have hwa := hw
    clear hw
    refine lv_aload_n hx hb dL_law_1253 rfl (lv_at hl 1 rfl) ?_
    refine lv_aload_n hx hb dL_law_1254 rfl (lv_at hl 3 rfl) ?_
    refine lv_iload_n hx hb dL_law_1255 rfl (lv_at hl 0 rfl) ?_
    show W p l e _ s m _ below meth c _ _ _ _ QQ (F0 m 1256 ls [.int 0, .ref b, .ref mm, .int ra])
    refine lv_iconst (v := 1) hx hb dL_law_1256 (by decide) ?_
    refine lv_iadd hx hb dL_law_1257 ?_
    refine lv_topi (fun y140398 ey140398 => ?_)
    obtain rfl : y140398 = 1 := by rw [ey140398]; decide
    try clear ey140398
    refine zsld hx hb hX hbl hbA hS (zvp (by decide)) hx1 dL_law_1258 ?_
    refine lv_aload_n hx hb dL_law_1259 rfl (lv_at hl 3 rfl) ?_
    refine lv_iload_n hx hb dL_law_1260 rfl (lv_at hl 0 rfl) ?_
    show W p l e _ s m _ below meth c _ _ _ _ QQ (F0 m 1261 ls [.int 0, .ref b, .int x1, .ref mm, .int ra])
    refine lv_iconst (v := 2) hx hb dL_law_1261 (by decide) ?_
    refine lv_iadd hx hb dL_law_1262 ?_
    refine lv_topi (fun y140399 ey140399 => ?_)
    obtain rfl : y140399 = 2 := by rw [ey140399]; decide
    try clear ey140399
    refine zsld hx hb hX hbl hbA hS (zvp (by decide)) hx2 dL_law_1263 ?_
    refine lv_aload_n hx hb dL_law_1264 rfl (lv_at hl 3 rfl) ?_
    refine lv_iload_n hx hb dL_law_1265 rfl (lv_at hl 0 rfl) ?_
    show W p l e _ s m _ below meth c _ _ _ _ QQ (F0 m 1266 ls [.int 0, .ref b, .int x2, .int x1, .ref mm, .int ra])
    refine lv_iconst (v := 3) hx hb dL_law_1266 (by decide) ?_
    refine lv_iadd hx hb dL_law_1267 ?_
    refine lv_topi (fun y140400 ey140400 => ?_)
    obtain rfl : y140400 = 3 := by rw [ey140400]; decide
    try clear ey140400
    refine zsld hx hb hX hbl hbA hS (zvp (by decide)) hx3 dL_law_1268 ?_
    refine lv_aload_n hx hb dL_law_1269 rfl (lv_at hl 3 rfl) ?_
    refine lv_iload_n hx hb dL_law_1270 rfl (lv_at hl 0 rfl) ?_
    show W p l e _ s m _ below meth c _ _ _ _ QQ (F0 m 1271 ls [.int 0, .ref b, .int x3, .int x2, .int x1, .ref mm, .int ra])
    refine lv_iconst (v := 4) hx hb dL_law_1271 (by decide) ?_
    refine lv_iadd hx hb dL_law_1272 ?_
    refine lv_topi (fun y140401 ey140401 => ?_)
    obtain rfl : y140401 = 4 := by rw [ey140401]; decide
    try clear ey140401
    refine zsld hx hb hX hbl hbA hS (zvp (by decide)) hx4 dL_law_1273 ?_
    refine zro_i hS hA (va_runV (As := [.int x1, .int x2, .int x3, .int x4]) (rest := [.int ra]) ⟨hx, hb, hml, hown, hall⟩ (c_X16_join_out l dC dI aC mm d x1 x2 x3 x4 H.size hk) (cwV 4 hall (zgV zw_717 zw_719 zw_720 zw_812 g_X16_join rfl) rfl rfl rfl (by decide +kernel) ⟨Nat.le_of_ble_eq_true rfl, Nat.le_of_ble_eq_true rfl⟩) (zPre_V (As := [.int x1, .int x2, .int x3, .int x4]) hK hP hD [2, 3] rfl (by decide +kernel) (ci := 15) (q0 := 0) rfl rfl) rfl rfl hl.1 rfl (lv_room (Nat.le_of_ble_eq_true rfl)) dL_law_1274 ⟨Nat.le_of_ble_eq_true rfl, Nat.le_of_ble_eq_true rfl⟩) (fun rb L140402 hw hS' => ?_)
    clear hS
    have hS := hS'
    clear hS'
    have hwb := hw
    clear hw
    refine lv_icmp_eq (tgt := 1443) hx hb dL_law_1277 (by decide) (fun _ => ?_) (fun hne => absurd (hwa.trans hwb.symm) hne)
    subst hQ
    subst hAe
    exact law_tail C1 (Nat.le_of_ble_eq_true rfl) (Nat.le_of_ble_eq_true rfl) hS (lv_sub hl [0, 3] rfl)

set_option maxHeartbeats 4000000 in
set_option maxRecDepth 100000 in
theorem law_feed {p : Program} {l : Launch} {e : Env} {s : State} {m : MethodId} {below : List Frame} {meth : Method} {c : Code} {b : Nat} {xs : Nat → Int32} {H : Heap} {locs : List Loc} {ls : Array Slot} {dC : Nat → ClassId} {dI : Nat → Nat → Nat} {aC : Nat → ClassId} {hh bb mm d : Nat} (C0 : lw_At p s m meth c b 6 xs) (hK : zK (dC, dI) aC s) (hR : zReady s H dC dI aC hh bb mm d) (hS : va_S (fun q => s.heap.size ≤ q) s.heap H locs) (hl : lv_has ls 4 [(3, .int 0), (2, .ref mm), (1, .ref hh), (0, .ref b)]) : W p l e room_1 s m #[Value.ref b] below meth c H locs 8431 1660372 (lw_Z below #[Value.ref b] s) (F0 m 1282 ls []) := by
  have C1 := C0
  obtain ⟨hx, hb, hr, hml, hown0, hts, hX, hbl, hlocks, hgv⟩ := C0
  obtain ⟨hPh, hFh, hPm, hFm, ez1, ez2, ez3, ez4, hz0⟩ := hR
  have hown : s.vm.findClass RL = some m.cls := hown0
  have hall : ∀ w ∈ zAll, w.before #[Value.ref b] s = true := fun w h => hts w (zAll_in w h)
  have hbA : ¬ (fun q : Nat => s.heap.size ≤ q) b := Nat.not_le.mpr hbl
  generalize hAe : (fun q : Nat => s.heap.size ≤ q) = A at hS hbA
  have hA : ∀ q : Nat, s.heap.size ≤ q → A q := fun q h => by rw [← hAe]; exact h
  generalize hQ : lw_Z below #[Value.ref b] s = QQ
  obtain ⟨x1, hx1⟩ : ∃ y, xs (1 : Int32).toNatClampNeg = y := ⟨_, rfl⟩
  have hP : va_P (dC, dI) vwCl [(hh, .inr (10, [.ref (bb + 0), .ref (bb + 73), .ref (bb + 75), .ref (bb + 76), .ref (bb + 80), .ref (bb + 81), .ref (bb + 88), .ref (bb + 95), .ref (bb + 100), .ref (bb + 106), .int 0, .ref (bb + 107), .int 0])), (bb + 106, .inl (aC 0, 60, .inl (fun _ => 0))), (mm, .inr (15, [.ref (d + 0), .int 0, .ref (d + 1), .int 0, .ref (d + 2), .ref (d + 3), .ref (d + 68), .ref (d + 77), .ref (d + 78), .int 0, .int 0, .ref (d + 79), .int 0, .int 0, .int 0, .ref (d + 80), .int 0, .int 0, .int 0, .int 0, .ref (d + 81), .ref (d + 82), .int (-1), .ref (d + 91), .int 0, .int 0, .ref (d + 92), .int 0, .ref (d + 93), .int 0, .ref (d + 94), .int 0, .ref (d + 95), .ref (d + 96), .ref (d + 97), .ref (d + 98), .int 0, .int 0, .ref (d + 99), .null, .null, .null, .null, .null, .ref (d + 148), .ref (d + 175), .ref (d + 176), .ref (d + 177), .int 0, .ref (d + 178), .ref (d + 179), .ref (d + 180), .ref (d + 185), .ref (d + 190), .ref (d + 191), .ref (d + 192), .ref (d + 193), .ref (d + 201), .ref (d + 209), .ref (d + 210), .ref (d + 211), .ref (d + 272), .ref (d + 273), .int 0, .ref (d + 274)])), (d + 93, .inl (aC 0, 60, .inl (fun _ => 0)))] H := zP_c (hPh 0 _ rfl) (zP_c (hPh 10 _ rfl) (zP_c (hPm 0 _ rfl) (zP_c (hPm 13 _ rfl) (zP_n))))
  have hD : va_D A [(hh, .inr (10, [.ref (bb + 0), .ref (bb + 73), .ref (bb + 75), .ref (bb + 76), .ref (bb + 80), .ref (bb + 81), .ref (bb + 88), .ref (bb + 95), .ref (bb + 100), .ref (bb + 106), .int 0, .ref (bb + 107), .int 0])), (bb + 106, .inl (aC 0, 60, .inl (fun _ => 0))), (mm, .inr (15, [.ref (d + 0), .int 0, .ref (d + 1), .int 0, .ref (d + 2), .ref (d + 3), .ref (d + 68), .ref (d + 77), .ref (d + 78), .int 0, .int 0, .ref (d + 79), .int 0, .int 0, .int 0, .ref (d + 80), .int 0, .int 0, .int 0, .int 0, .ref (d + 81), .ref (d + 82), .int (-1), .ref (d + 91), .int 0, .int 0, .ref (d + 92), .int 0, .ref (d + 93), .int 0, .ref (d + 94), .int 0, .ref (d + 95), .ref (d + 96), .ref (d + 97), .ref (d + 98), .int 0, .int 0, .ref (d + 99), .null, .null, .null, .null, .null, .ref (d + 148), .ref (d + 175), .ref (d + 176), .ref (d + 177), .int 0, .ref (d + 178), .ref (d + 179), .ref (d + 180), .ref (d + 185), .ref (d + 190), .ref (d + 191), .ref (d + 192), .ref (d + 193), .ref (d + 201), .ref (d + 209), .ref (d + 210), .ref (d + 211), .ref (d + 272), .ref (d + 273), .int 0, .ref (d + 274)])), (d + 93, .inl (aC 0, 60, .inl (fun _ => 0)))] := zUp_D (lo := s.heap.size) hA (zUp_c (by omega) (zUp_c (by omega) (zUp_c (by omega) (zUp_c (by omega) (zUp_n)))))
  clear hPh hFh hPm hFm
  refine lv_aload_n hx hb dL_law_1282 rfl (lv_at hl 2 rfl) ?_
  refine lv_aload_n hx hb dL_law_1283 rfl (lv_at hl 3 rfl) ?_
  refine lv_iload_n hx hb dL_law_1284 rfl (lv_at hl 0 rfl) ?_
  refine lv_iconst (v := 1) hx hb dL_law_1285 (by decide) ?_
  refine lv_iadd hx hb dL_law_1286 ?_
  refine lv_topi (fun y140403 ey140403 => ?_)
  obtain rfl : y140403 = 1 := by rw [ey140403]; decide
  try clear ey140403
  show W p l e _ s m _ below meth c _ _ _ _ QQ (F0 m 1287 ls [.int 1, .ref b, .ref hh])
  refine zsld hx hb hX hbl hbA hS (zvp (by decide)) hx1 dL_law_1287 ?_
  refine zrw_i (f := fun _ => False) (B := fun _ _ => True) (k := 0) (wr := [(mm, .inr (15, [.ref (d + 0), .int 0, .ref (d + 1), .int 0, .ref (d + 2), .ref (d + 3), .ref (d + 68), .ref (d + 77), .ref (d + 78), .int 0, .int 0, .ref (d + 79), .int 0, .int 0, .int 0, .ref (d + 80), .int 0, .int 0, .int 0, .int 0, .ref (d + 81), .ref (d + 82), .int (-1), .ref (d + 91), .int 0, .int 0, .ref (d + 92), .int 0, .ref (d + 93), .int 0, .ref (d + 94), .int 0, .ref (d + 95), .ref (d + 96), .ref (d + 97), .ref (d + 98), .int 0, .int 0, .ref (d + 99), .null, .null, .null, .null, .null, .ref (d + 148), .ref (d + 175), .ref (d + 176), .ref (d + 177), .int 0, .ref (d + 178), .ref (d + 179), .ref (d + 180), .ref (d + 185), .ref (d + 190), .ref (d + 191), .ref (d + 192), .ref (d + 193), .ref (d + 201), .ref (d + 209), .ref (d + 210), .ref (d + 211), .ref (d + 272), .ref (d + 273), .int 0, .ref (d + 274)])), (d + 93, .inl (aC 0, 60, .inl (fun _ => 0)))]) (wc := [(hh, .inr (10, [.ref (bb + 0), .ref (bb + 73), .ref (bb + 75), .ref (bb + 76), .ref (bb + 80), .ref (bb + 81), .ref (bb + 88), .ref (bb + 95), .ref (bb + 100), .ref (bb + 106), .int 0, .ref (bb + 107), .int 0])), (bb + 106, .inl (aC 0, 60, .inl (fun _ => 0)))]) (w1 := fun _ => []) hP hD hS hA [0, 1] [2, 3] rfl rfl (by decide +kernel) (by decide +kernel) (va_runV (As := [.int x1]) (rest := []) ⟨hx, hb, hml, hown, hall⟩ (c_X11_feed l dC dI aC hh bb x1 H.size) (cwV 1 hall (zgV zw_721 zw_723 zw_724 zw_802 g_X11_feed rfl) rfl rfl rfl (by decide +kernel) ⟨Nat.le_of_ble_eq_true rfl, Nat.le_of_ble_eq_true rfl⟩) (zPre_V (As := [.int x1]) hK hP hD [0, 1] rfl (by decide +kernel) (ci := 10) (q0 := 0) rfl rfl) rfl rfl hl.1 rfl (lv_room (Nat.le_of_ble_eq_true rfl)) dL_law_1288 ⟨Nat.le_of_ble_eq_true rfl, Nat.le_of_ble_eq_true rfl⟩) (fun ra u H140404 L140405 hw hz hk hP' hD' hS' => ?_)
  try rw [hz0] at hP'
  try rw [hz0] at hD'
  rw [hz0] at hz
  replace hz0 : H140404.size = s.heap.size + 8431 := by omega
  clear hz
  clear hP hD hS hk
  have hP : va_P (dC, dI) vwCl [(mm, .inr (15, [.ref (d + 0), .int 0, .ref (d + 1), .int 0, .ref (d + 2), .ref (d + 3), .ref (d + 68), .ref (d + 77), .ref (d + 78), .int 0, .int 0, .ref (d + 79), .int 0, .int 0, .int 0, .ref (d + 80), .int 0, .int 0, .int 0, .int 0, .ref (d + 81), .ref (d + 82), .int (-1), .ref (d + 91), .int 0, .int 0, .ref (d + 92), .int 0, .ref (d + 93), .int 0, .ref (d + 94), .int 0, .ref (d + 95), .ref (d + 96), .ref (d + 97), .ref (d + 98), .int 0, .int 0, .ref (d + 99), .null, .null, .null, .null, .null, .ref (d + 148), .ref (d + 175), .ref (d + 176), .ref (d + 177), .int 0, .ref (d + 178), .ref (d + 179), .ref (d + 180), .ref (d + 185), .ref (d + 190), .ref (d + 191), .ref (d + 192), .ref (d + 193), .ref (d + 201), .ref (d + 209), .ref (d + 210), .ref (d + 211), .ref (d + 272), .ref (d + 273), .int 0, .ref (d + 274)])), (d + 93, .inl (aC 0, 60, .inl (fun _ => 0)))] H140404 := hP'
  have hD : va_D A [(mm, .inr (15, [.ref (d + 0), .int 0, .ref (d + 1), .int 0, .ref (d + 2), .ref (d + 3), .ref (d + 68), .ref (d + 77), .ref (d + 78), .int 0, .int 0, .ref (d + 79), .int 0, .int 0, .int 0, .ref (d + 80), .int 0, .int 0, .int 0, .int 0, .ref (d + 81), .ref (d + 82), .int (-1), .ref (d + 91), .int 0, .int 0, .ref (d + 92), .int 0, .ref (d + 93), .int 0, .ref (d + 94), .int 0, .ref (d + 95), .ref (d + 96), .ref (d + 97), .ref (d + 98), .int 0, .int 0, .ref (d + 99), .null, .null, .null, .null, .null, .ref (d + 148), .ref (d + 175), .ref (d + 176), .ref (d + 177), .int 0, .ref (d + 178), .ref (d + 179), .ref (d + 180), .ref (d + 185), .ref (d + 190), .ref (d + 191), .ref (d + 192), .ref (d + 193), .ref (d + 201), .ref (d + 209), .ref (d + 210), .ref (d + 211), .ref (d + 272), .ref (d + 273), .int 0, .ref (d + 274)])), (d + 93, .inl (aC 0, 60, .inl (fun _ => 0)))] := hD'
  have hS : va_S A s.heap H140404 L140405 := hS'
  clear hP' hD' hS'
  have hwa := hw
  clear hw
  refine lv_aload_n hx hb dL_law_1291 rfl (lv_at hl 1 rfl) ?_
  refine lv_aload_n hx hb dL_law_1292 rfl (lv_at hl 3 rfl) ?_
  refine lv_iload_n hx hb dL_law_1293 rfl (lv_at hl 0 rfl) ?_
  show W p l e _ s m _ below meth c _ _ _ _ QQ (F0 m 1294 ls [.int 0, .ref b, .ref mm, .int ra])
  refine lv_iconst (v := 1) hx hb dL_law_1294 (by decide) ?_
  refine lv_iadd hx hb dL_law_1295 ?_
  refine lv_topi (fun y140406 ey140406 => ?_)
  obtain rfl : y140406 = 1 := by rw [ey140406]; decide
  try clear ey140406
  refine zsld hx hb hX hbl hbA hS (zvp (by decide)) hx1 dL_law_1296 ?_
  refine zrw_i (f := fun _ => False) (B := fun _ _ => True) (k := 0) (wr := []) (wc := [(mm, .inr (15, [.ref (d + 0), .int 0, .ref (d + 1), .int 0, .ref (d + 2), .ref (d + 3), .ref (d + 68), .ref (d + 77), .ref (d + 78), .int 0, .int 0, .ref (d + 79), .int 0, .int 0, .int 0, .ref (d + 80), .int 0, .int 0, .int 0, .int 0, .ref (d + 81), .ref (d + 82), .int (-1), .ref (d + 91), .int 0, .int 0, .ref (d + 92), .int 0, .ref (d + 93), .int 0, .ref (d + 94), .int 0, .ref (d + 95), .ref (d + 96), .ref (d + 97), .ref (d + 98), .int 0, .int 0, .ref (d + 99), .null, .null, .null, .null, .null, .ref (d + 148), .ref (d + 175), .ref (d + 176), .ref (d + 177), .int 0, .ref (d + 178), .ref (d + 179), .ref (d + 180), .ref (d + 185), .ref (d + 190), .ref (d + 191), .ref (d + 192), .ref (d + 193), .ref (d + 201), .ref (d + 209), .ref (d + 210), .ref (d + 211), .ref (d + 272), .ref (d + 273), .int 0, .ref (d + 274)])), (d + 93, .inl (aC 0, 60, .inl (fun _ => 0)))]) (w1 := fun _ => []) hP hD hS hA [0, 1] [] rfl rfl (by decide +kernel) (by decide +kernel) (va_runV (As := [.int x1]) (rest := [.int ra]) ⟨hx, hb, hml, hown, hall⟩ (c_X16_feed l dC dI aC mm d x1 H140404.size) (cwV 1 hall (zgV zw_725 zw_727 zw_728 zw_812 g_X16_feed rfl) rfl rfl rfl (by decide +kernel) ⟨Nat.le_of_ble_eq_true rfl, Nat.le_of_ble_eq_true rfl⟩) (zPre_V (As := [.int x1]) hK hP hD [0, 1] rfl (by decide +kernel) (ci := 15) (q0 := 0) rfl rfl) rfl rfl hl.1 rfl (lv_room (Nat.le_of_ble_eq_true rfl)) dL_law_1297 ⟨Nat.le_of_ble_eq_true rfl, Nat.le_of_ble_eq_true rfl⟩) (fun rb u H140407 L140408 hw hz hk hP' hD' hS' => ?_)
  try rw [hz0] at hP'
  try rw [hz0] at hD'
  rw [hz0] at hz
  replace hz0 : H140407.size = s.heap.size + 8431 := by omega
  clear hz
  clear hP hD hS hk
  have hP : va_P (dC, dI) vwCl [] H140407 := hP'
  have hD : va_D A [] := hD'
  have hS : va_S A s.heap H140407 L140408 := hS'
  clear hP' hD' hS'
  clear L140405 H140404
  have hwb := hw
  clear hw
  refine lv_icmp_eq (tgt := 1443) hx hb dL_law_1300 (by decide) (fun _ => ?_) (fun hne => absurd (hwa.trans hwb.symm) hne)
  subst hQ
  subst hAe
  exact law_tail C1 (Nat.le_of_ble_eq_true rfl) (Nat.le_of_ble_eq_true rfl) hS (lv_sub hl [0, 3] rfl)

set_option maxHeartbeats 4000000 in
set_option maxRecDepth 100000 in
theorem law_clear {p : Program} {l : Launch} {e : Env} {s : State} {m : MethodId} {below : List Frame} {meth : Method} {c : Code} {b : Nat} {xs : Nat → Int32} {H : Heap} {locs : List Loc} {ls : Array Slot} {dC : Nat → ClassId} {dI : Nat → Nat → Nat} {aC : Nat → ClassId} {hh bb mm d : Nat} (C0 : lw_At p s m meth c b 6 xs) (hK : zK (dC, dI) aC s) (hR : zReady s H dC dI aC hh bb mm d) (hS : va_S (fun q => s.heap.size ≤ q) s.heap H locs) (hl : lv_has ls 4 [(3, .int 0), (2, .ref mm), (1, .ref hh), (0, .ref b)]) : W p l e room_1 s m #[Value.ref b] below meth c H locs 8431 1660372 (lw_Z below #[Value.ref b] s) (F0 m 1305 ls []) := by
  have C1 := C0
  obtain ⟨hx, hb, hr, hml, hown0, hts, hX, hbl, hlocks, hgv⟩ := C0
  obtain ⟨hPh, hFh, hPm, hFm, ez1, ez2, ez3, ez4, hz0⟩ := hR
  have hown : s.vm.findClass RL = some m.cls := hown0
  have hall : ∀ w ∈ zAll, w.before #[Value.ref b] s = true := fun w h => hts w (zAll_in w h)
  have hbA : ¬ (fun q : Nat => s.heap.size ≤ q) b := Nat.not_le.mpr hbl
  generalize hAe : (fun q : Nat => s.heap.size ≤ q) = A at hS hbA
  have hA : ∀ q : Nat, s.heap.size ≤ q → A q := fun q h => by rw [← hAe]; exact h
  generalize hQ : lw_Z below #[Value.ref b] s = QQ
  have hP : va_P (dC, dI) vwCl [(hh, .inr (10, [.ref (bb + 0), .ref (bb + 73), .ref (bb + 75), .ref (bb + 76), .ref (bb + 80), .ref (bb + 81), .ref (bb + 88), .ref (bb + 95), .ref (bb + 100), .ref (bb + 106), .int 0, .ref (bb + 107), .int 0])), (mm, .inr (15, [.ref (d + 0), .int 0, .ref (d + 1), .int 0, .ref (d + 2), .ref (d + 3), .ref (d + 68), .ref (d + 77), .ref (d + 78), .int 0, .int 0, .ref (d + 79), .int 0, .int 0, .int 0, .ref (d + 80), .int 0, .int 0, .int 0, .int 0, .ref (d + 81), .ref (d + 82), .int (-1), .ref (d + 91), .int 0, .int 0, .ref (d + 92), .int 0, .ref (d + 93), .int 0, .ref (d + 94), .int 0, .ref (d + 95), .ref (d + 96), .ref (d + 97), .ref (d + 98), .int 0, .int 0, .ref (d + 99), .null, .null, .null, .null, .null, .ref (d + 148), .ref (d + 175), .ref (d + 176), .ref (d + 177), .int 0, .ref (d + 178), .ref (d + 179), .ref (d + 180), .ref (d + 185), .ref (d + 190), .ref (d + 191), .ref (d + 192), .ref (d + 193), .ref (d + 201), .ref (d + 209), .ref (d + 210), .ref (d + 211), .ref (d + 272), .ref (d + 273), .int 0, .ref (d + 274)]))] H := zP_c (hPh 0 _ rfl) (zP_c (hPm 0 _ rfl) (zP_n))
  have hD : va_D A [(hh, .inr (10, [.ref (bb + 0), .ref (bb + 73), .ref (bb + 75), .ref (bb + 76), .ref (bb + 80), .ref (bb + 81), .ref (bb + 88), .ref (bb + 95), .ref (bb + 100), .ref (bb + 106), .int 0, .ref (bb + 107), .int 0])), (mm, .inr (15, [.ref (d + 0), .int 0, .ref (d + 1), .int 0, .ref (d + 2), .ref (d + 3), .ref (d + 68), .ref (d + 77), .ref (d + 78), .int 0, .int 0, .ref (d + 79), .int 0, .int 0, .int 0, .ref (d + 80), .int 0, .int 0, .int 0, .int 0, .ref (d + 81), .ref (d + 82), .int (-1), .ref (d + 91), .int 0, .int 0, .ref (d + 92), .int 0, .ref (d + 93), .int 0, .ref (d + 94), .int 0, .ref (d + 95), .ref (d + 96), .ref (d + 97), .ref (d + 98), .int 0, .int 0, .ref (d + 99), .null, .null, .null, .null, .null, .ref (d + 148), .ref (d + 175), .ref (d + 176), .ref (d + 177), .int 0, .ref (d + 178), .ref (d + 179), .ref (d + 180), .ref (d + 185), .ref (d + 190), .ref (d + 191), .ref (d + 192), .ref (d + 193), .ref (d + 201), .ref (d + 209), .ref (d + 210), .ref (d + 211), .ref (d + 272), .ref (d + 273), .int 0, .ref (d + 274)]))] := zUp_D (lo := s.heap.size) hA (zUp_c (by omega) (zUp_c (by omega) (zUp_n)))
  clear hPh hFh hPm hFm
  refine lv_aload_n hx hb dL_law_1305 rfl (lv_at hl 2 rfl) ?_
  refine zrw_i (f := fun _ => False) (B := fun _ _ => True) (k := 0) (wr := [(mm, .inr (15, [.ref (d + 0), .int 0, .ref (d + 1), .int 0, .ref (d + 2), .ref (d + 3), .ref (d + 68), .ref (d + 77), .ref (d + 78), .int 0, .int 0, .ref (d + 79), .int 0, .int 0, .int 0, .ref (d + 80), .int 0, .int 0, .int 0, .int 0, .ref (d + 81), .ref (d + 82), .int (-1), .ref (d + 91), .int 0, .int 0, .ref (d + 92), .int 0, .ref (d + 93), .int 0, .ref (d + 94), .int 0, .ref (d + 95), .ref (d + 96), .ref (d + 97), .ref (d + 98), .int 0, .int 0, .ref (d + 99), .null, .null, .null, .null, .null, .ref (d + 148), .ref (d + 175), .ref (d + 176), .ref (d + 177), .int 0, .ref (d + 178), .ref (d + 179), .ref (d + 180), .ref (d + 185), .ref (d + 190), .ref (d + 191), .ref (d + 192), .ref (d + 193), .ref (d + 201), .ref (d + 209), .ref (d + 210), .ref (d + 211), .ref (d + 272), .ref (d + 273), .int 0, .ref (d + 274)]))]) (wc := [(hh, .inr (10, [.ref (bb + 0), .ref (bb + 73), .ref (bb + 75), .ref (bb + 76), .ref (bb + 80), .ref (bb + 81), .ref (bb + 88), .ref (bb + 95), .ref (bb + 100), .ref (bb + 106), .int 0, .ref (bb + 107), .int 0]))]) (w1 := fun _ => []) hP hD hS hA [0] [1] rfl rfl (by decide +kernel) (by decide +kernel) (va_runV (As := []) (rest := []) ⟨hx, hb, hml, hown, hall⟩ (c_X11_clear l dC dI aC hh bb H.size) (cwV 0 hall (zgV zw_729 zw_731 zw_732 zw_802 g_X11_clear rfl) rfl rfl rfl (by decide +kernel) ⟨Nat.le_of_ble_eq_true rfl, Nat.le_of_ble_eq_true rfl⟩) (zPre_V (As := []) hK hP hD [0] rfl (by decide +kernel) (ci := 10) (q0 := 0) rfl rfl) rfl rfl hl.1 rfl (lv_room (Nat.le_of_ble_eq_true rfl)) dL_law_1306 ⟨Nat.le_of_ble_eq_true rfl, Nat.le_of_ble_eq_true rfl⟩) (fun ra u H140409 L140410 hw hz hk hP' hD' hS' => ?_)
  try rw [hz0] at hP'
  try rw [hz0] at hD'
  rw [hz0] at hz
  replace hz0 : H140409.size = s.heap.size + 8431 := by omega
  clear hz
  clear hP hD hS hk
  have hP : va_P (dC, dI) vwCl [(mm, .inr (15, [.ref (d + 0), .int 0, .ref (d + 1), .int 0, .ref (d + 2), .ref (d + 3), .ref (d + 68), .ref (d + 77), .ref (d + 78), .int 0, .int 0, .ref (d + 79), .int 0, .int 0, .int 0, .ref (d + 80), .int 0, .int 0, .int 0, .int 0, .ref (d + 81), .ref (d + 82), .int (-1), .ref (d + 91), .int 0, .int 0, .ref (d + 92), .int 0, .ref (d + 93), .int 0, .ref (d + 94), .int 0, .ref (d + 95), .ref (d + 96), .ref (d + 97), .ref (d + 98), .int 0, .int 0, .ref (d + 99), .null, .null, .null, .null, .null, .ref (d + 148), .ref (d + 175), .ref (d + 176), .ref (d + 177), .int 0, .ref (d + 178), .ref (d + 179), .ref (d + 180), .ref (d + 185), .ref (d + 190), .ref (d + 191), .ref (d + 192), .ref (d + 193), .ref (d + 201), .ref (d + 209), .ref (d + 210), .ref (d + 211), .ref (d + 272), .ref (d + 273), .int 0, .ref (d + 274)]))] H140409 := hP'
  have hD : va_D A [(mm, .inr (15, [.ref (d + 0), .int 0, .ref (d + 1), .int 0, .ref (d + 2), .ref (d + 3), .ref (d + 68), .ref (d + 77), .ref (d + 78), .int 0, .int 0, .ref (d + 79), .int 0, .int 0, .int 0, .ref (d + 80), .int 0, .int 0, .int 0, .int 0, .ref (d + 81), .ref (d + 82), .int (-1), .ref (d + 91), .int 0, .int 0, .ref (d + 92), .int 0, .ref (d + 93), .int 0, .ref (d + 94), .int 0, .ref (d + 95), .ref (d + 96), .ref (d + 97), .ref (d + 98), .int 0, .int 0, .ref (d + 99), .null, .null, .null, .null, .null, .ref (d + 148), .ref (d + 175), .ref (d + 176), .ref (d + 177), .int 0, .ref (d + 178), .ref (d + 179), .ref (d + 180), .ref (d + 185), .ref (d + 190), .ref (d + 191), .ref (d + 192), .ref (d + 193), .ref (d + 201), .ref (d + 209), .ref (d + 210), .ref (d + 211), .ref (d + 272), .ref (d + 273), .int 0, .ref (d + 274)]))] := hD'
  have hS : va_S A s.heap H140409 L140410 := hS'
  clear hP' hD' hS'
  have hwa := hw
  clear hw
  refine lv_aload_n hx hb dL_law_1309 rfl (lv_at hl 1 rfl) ?_
  refine zrw_i (f := fun _ => False) (B := fun _ _ => True) (k := 0) (wr := []) (wc := [(mm, .inr (15, [.ref (d + 0), .int 0, .ref (d + 1), .int 0, .ref (d + 2), .ref (d + 3), .ref (d + 68), .ref (d + 77), .ref (d + 78), .int 0, .int 0, .ref (d + 79), .int 0, .int 0, .int 0, .ref (d + 80), .int 0, .int 0, .int 0, .int 0, .ref (d + 81), .ref (d + 82), .int (-1), .ref (d + 91), .int 0, .int 0, .ref (d + 92), .int 0, .ref (d + 93), .int 0, .ref (d + 94), .int 0, .ref (d + 95), .ref (d + 96), .ref (d + 97), .ref (d + 98), .int 0, .int 0, .ref (d + 99), .null, .null, .null, .null, .null, .ref (d + 148), .ref (d + 175), .ref (d + 176), .ref (d + 177), .int 0, .ref (d + 178), .ref (d + 179), .ref (d + 180), .ref (d + 185), .ref (d + 190), .ref (d + 191), .ref (d + 192), .ref (d + 193), .ref (d + 201), .ref (d + 209), .ref (d + 210), .ref (d + 211), .ref (d + 272), .ref (d + 273), .int 0, .ref (d + 274)]))]) (w1 := fun _ => []) hP hD hS hA [0] [] rfl rfl (by decide +kernel) (by decide +kernel) (va_runV (As := []) (rest := [.int ra]) ⟨hx, hb, hml, hown, hall⟩ (c_X16_clear_ l dC dI aC mm d H140409.size) (cwV 0 hall (zgV zw_733 zw_735 zw_736 zw_812 g_X16_clear_ rfl) rfl rfl rfl (by decide +kernel) ⟨Nat.le_of_ble_eq_true rfl, Nat.le_of_ble_eq_true rfl⟩) (zPre_V (As := []) hK hP hD [0] rfl (by decide +kernel) (ci := 15) (q0 := 0) rfl rfl) rfl rfl hl.1 rfl (lv_room (Nat.le_of_ble_eq_true rfl)) dL_law_1310 ⟨Nat.le_of_ble_eq_true rfl, Nat.le_of_ble_eq_true rfl⟩) (fun rb u H140411 L140412 hw hz hk hP' hD' hS' => ?_)
  try rw [hz0] at hP'
  try rw [hz0] at hD'
  rw [hz0] at hz
  replace hz0 : H140411.size = s.heap.size + 8431 := by omega
  clear hz
  clear hP hD hS hk
  have hP : va_P (dC, dI) vwCl [] H140411 := hP'
  have hD : va_D A [] := hD'
  have hS : va_S A s.heap H140411 L140412 := hS'
  clear hP' hD' hS'
  clear L140410 H140409
  have hwb := hw
  clear hw
  refine lv_icmp_eq (tgt := 1443) hx hb dL_law_1313 (by decide) (fun _ => ?_) (fun hne => absurd (hwa.trans hwb.symm) hne)
  subst hQ
  subst hAe
  exact law_tail C1 (Nat.le_of_ble_eq_true rfl) (Nat.le_of_ble_eq_true rfl) hS (lv_sub hl [0, 3] rfl)
