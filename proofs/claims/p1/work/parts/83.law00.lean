theorem dL_law_188 : decode cL_law 188 = .ok (.aload_n 1, 1) := by decide +kernel
theorem dL_law_189 : decode cL_law 189 = .ok (.aload_n 0, 1) := by decide +kernel
theorem dL_law_190 : decode cL_law 190 = .ok (.iload_n 3, 1) := by decide +kernel
theorem dL_law_191 : decode cL_law 191 = .ok (.iconst 1, 1) := by decide +kernel
theorem dL_law_192 : decode cL_law 192 = .ok (.iadd, 1) := by decide +kernel
theorem dL_law_193 : decode cL_law 193 = .ok (.iaload, 1) := by decide +kernel
theorem dL_law_194 : decode cL_law 194 = .ok (.i2l, 1) := by decide +kernel
theorem dL_law_195 : decode cL_law 195 = .ok (.bipush 32, 2) := by decide +kernel
theorem dL_law_197 : decode cL_law 197 = .ok (.lshl, 1) := by decide +kernel
theorem dL_law_198 : decode cL_law 198 = .ok (.aload_n 0, 1) := by decide +kernel
theorem dL_law_199 : decode cL_law 199 = .ok (.iload_n 3, 1) := by decide +kernel
theorem dL_law_200 : decode cL_law 200 = .ok (.iconst 2, 1) := by decide +kernel
theorem dL_law_201 : decode cL_law 201 = .ok (.iadd, 1) := by decide +kernel
theorem dL_law_202 : decode cL_law 202 = .ok (.iaload, 1) := by decide +kernel
theorem dL_law_203 : decode cL_law 203 = .ok (.i2l, 1) := by decide +kernel
theorem dL_law_204 : decode cL_law 204 = .ok (.ldc2_w 13, 3) := by decide +kernel
theorem dL_law_207 : decode cL_law 207 = .ok (.land, 1) := by decide +kernel
theorem dL_law_208 : decode cL_law 208 = .ok (.lor, 1) := by decide +kernel
theorem dL_law_209 : decode cL_law 209 = .ok (.aload_n 0, 1) := by decide +kernel
theorem dL_law_210 : decode cL_law 210 = .ok (.iload_n 3, 1) := by decide +kernel
theorem dL_law_211 : decode cL_law 211 = .ok (.iconst 3, 1) := by decide +kernel
theorem dL_law_212 : decode cL_law 212 = .ok (.iadd, 1) := by decide +kernel
theorem dL_law_213 : decode cL_law 213 = .ok (.iaload, 1) := by decide +kernel
theorem dL_law_214 : decode cL_law 214 = .ok (.invokevirtual 15, 3) := by decide +kernel
theorem dL_law_217 : decode cL_law 217 = .ok (.aload_n 2, 1) := by decide +kernel
theorem dL_law_218 : decode cL_law 218 = .ok (.aload_n 0, 1) := by decide +kernel
theorem dL_law_219 : decode cL_law 219 = .ok (.iload_n 3, 1) := by decide +kernel
theorem dL_law_220 : decode cL_law 220 = .ok (.iconst 1, 1) := by decide +kernel
theorem dL_law_221 : decode cL_law 221 = .ok (.iadd, 1) := by decide +kernel
theorem dL_law_222 : decode cL_law 222 = .ok (.iaload, 1) := by decide +kernel
theorem dL_law_223 : decode cL_law 223 = .ok (.i2l, 1) := by decide +kernel
theorem dL_law_224 : decode cL_law 224 = .ok (.bipush 32, 2) := by decide +kernel
theorem dL_law_226 : decode cL_law 226 = .ok (.lshl, 1) := by decide +kernel
theorem dL_law_227 : decode cL_law 227 = .ok (.aload_n 0, 1) := by decide +kernel
theorem dL_law_228 : decode cL_law 228 = .ok (.iload_n 3, 1) := by decide +kernel
theorem dL_law_229 : decode cL_law 229 = .ok (.iconst 2, 1) := by decide +kernel
theorem dL_law_230 : decode cL_law 230 = .ok (.iadd, 1) := by decide +kernel
theorem dL_law_231 : decode cL_law 231 = .ok (.iaload, 1) := by decide +kernel
theorem dL_law_232 : decode cL_law 232 = .ok (.i2l, 1) := by decide +kernel
theorem dL_law_233 : decode cL_law 233 = .ok (.ldc2_w 13, 3) := by decide +kernel
theorem dL_law_236 : decode cL_law 236 = .ok (.land, 1) := by decide +kernel
theorem dL_law_237 : decode cL_law 237 = .ok (.lor, 1) := by decide +kernel
theorem dL_law_238 : decode cL_law 238 = .ok (.aload_n 0, 1) := by decide +kernel
theorem dL_law_239 : decode cL_law 239 = .ok (.iload_n 3, 1) := by decide +kernel
theorem dL_law_240 : decode cL_law 240 = .ok (.iconst 3, 1) := by decide +kernel
theorem dL_law_241 : decode cL_law 241 = .ok (.iadd, 1) := by decide +kernel
theorem dL_law_242 : decode cL_law 242 = .ok (.iaload, 1) := by decide +kernel
theorem dL_law_243 : decode cL_law 243 = .ok (.invokevirtual 19, 3) := by decide +kernel
theorem dL_law_246 : decode cL_law 246 = .ok (.if_icmp .eq 1197, 3) := by decide +kernel
theorem dL_law_251 : decode cL_law 251 = .ok (.aload_n 1, 1) := by decide +kernel
theorem dL_law_252 : decode cL_law 252 = .ok (.aload_n 0, 1) := by decide +kernel
theorem dL_law_253 : decode cL_law 253 = .ok (.iload_n 3, 1) := by decide +kernel
theorem dL_law_254 : decode cL_law 254 = .ok (.iconst 1, 1) := by decide +kernel
theorem dL_law_255 : decode cL_law 255 = .ok (.iadd, 1) := by decide +kernel
theorem dL_law_256 : decode cL_law 256 = .ok (.iaload, 1) := by decide +kernel
theorem dL_law_257 : decode cL_law 257 = .ok (.invokevirtual 20, 3) := by decide +kernel
theorem dL_law_260 : decode cL_law 260 = .ok (.aload_n 2, 1) := by decide +kernel
theorem dL_law_261 : decode cL_law 261 = .ok (.aload_n 0, 1) := by decide +kernel
theorem dL_law_262 : decode cL_law 262 = .ok (.iload_n 3, 1) := by decide +kernel
theorem dL_law_263 : decode cL_law 263 = .ok (.iconst 1, 1) := by decide +kernel
theorem dL_law_264 : decode cL_law 264 = .ok (.iadd, 1) := by decide +kernel
theorem dL_law_265 : decode cL_law 265 = .ok (.iaload, 1) := by decide +kernel
theorem dL_law_266 : decode cL_law 266 = .ok (.invokevirtual 24, 3) := by decide +kernel
theorem dL_law_269 : decode cL_law 269 = .ok (.if_icmp .eq 1174, 3) := by decide +kernel
theorem dL_law_274 : decode cL_law 274 = .ok (.aload_n 1, 1) := by decide +kernel
theorem dL_law_275 : decode cL_law 275 = .ok (.invokevirtual 25, 3) := by decide +kernel
theorem dL_law_278 : decode cL_law 278 = .ok (.aload_n 2, 1) := by decide +kernel
theorem dL_law_279 : decode cL_law 279 = .ok (.invokevirtual 29, 3) := by decide +kernel
theorem dL_law_282 : decode cL_law 282 = .ok (.if_icmp .eq 1161, 3) := by decide +kernel
theorem dL_law_287 : decode cL_law 287 = .ok (.aload_n 1, 1) := by decide +kernel
theorem dL_law_288 : decode cL_law 288 = .ok (.aload_n 0, 1) := by decide +kernel
theorem dL_law_289 : decode cL_law 289 = .ok (.iload_n 3, 1) := by decide +kernel
theorem dL_law_290 : decode cL_law 290 = .ok (.iconst 1, 1) := by decide +kernel
theorem dL_law_291 : decode cL_law 291 = .ok (.iadd, 1) := by decide +kernel
theorem dL_law_292 : decode cL_law 292 = .ok (.iaload, 1) := by decide +kernel
theorem dL_law_293 : decode cL_law 293 = .ok (.invokevirtual 30, 3) := by decide +kernel
theorem dL_law_296 : decode cL_law 296 = .ok (.aload_n 2, 1) := by decide +kernel
theorem dL_law_297 : decode cL_law 297 = .ok (.aload_n 0, 1) := by decide +kernel
theorem dL_law_298 : decode cL_law 298 = .ok (.iload_n 3, 1) := by decide +kernel
theorem dL_law_299 : decode cL_law 299 = .ok (.iconst 1, 1) := by decide +kernel
theorem dL_law_300 : decode cL_law 300 = .ok (.iadd, 1) := by decide +kernel
theorem dL_law_301 : decode cL_law 301 = .ok (.iaload, 1) := by decide +kernel
theorem dL_law_302 : decode cL_law 302 = .ok (.invokevirtual 33, 3) := by decide +kernel
theorem dL_law_305 : decode cL_law 305 = .ok (.if_icmp .eq 1138, 3) := by decide +kernel
theorem dL_law_310 : decode cL_law 310 = .ok (.aload_n 1, 1) := by decide +kernel
theorem dL_law_311 : decode cL_law 311 = .ok (.aload_n 0, 1) := by decide +kernel
theorem dL_law_312 : decode cL_law 312 = .ok (.iload_n 3, 1) := by decide +kernel
theorem dL_law_313 : decode cL_law 313 = .ok (.iconst 1, 1) := by decide +kernel
theorem dL_law_314 : decode cL_law 314 = .ok (.iadd, 1) := by decide +kernel
theorem dL_law_315 : decode cL_law 315 = .ok (.iaload, 1) := by decide +kernel
theorem dL_law_316 : decode cL_law 316 = .ok (.invokevirtual 34, 3) := by decide +kernel
theorem dL_law_319 : decode cL_law 319 = .ok (.aload_n 2, 1) := by decide +kernel
theorem dL_law_320 : decode cL_law 320 = .ok (.aload_n 0, 1) := by decide +kernel
theorem dL_law_321 : decode cL_law 321 = .ok (.iload_n 3, 1) := by decide +kernel
theorem dL_law_322 : decode cL_law 322 = .ok (.iconst 1, 1) := by decide +kernel
theorem dL_law_323 : decode cL_law 323 = .ok (.iadd, 1) := by decide +kernel
theorem dL_law_324 : decode cL_law 324 = .ok (.iaload, 1) := by decide +kernel
theorem dL_law_325 : decode cL_law 325 = .ok (.invokevirtual 37, 3) := by decide +kernel
theorem dL_law_328 : decode cL_law 328 = .ok (.if_icmp .eq 1115, 3) := by decide +kernel
set_option maxHeartbeats 4000000 in
set_option maxRecDepth 100000 in
theorem law_type {p : Program} {l : Launch} {e : Env} {s : State} {m : MethodId} {below : List Frame} {meth : Method} {c : Code} {b : Nat} {xs : Nat → Int32} {H : Heap} {locs : List Loc} {ls : Array Slot} {dC : Nat → ClassId} {dI : Nat → Nat → Nat} {aC : Nat → ClassId} {hh bb mm d : Nat} (C0 : lw_At p s m meth c b 6 xs) (hK : zK (dC, dI) aC s) (hR : zReady s H dC dI aC hh bb mm d) (hS : va_S (fun q => s.heap.size ≤ q) s.heap H locs) (hl : lv_has ls 4 [(3, .int 0), (2, .ref mm), (1, .ref hh), (0, .ref b)]) : W p l e room_1 s m #[Value.ref b] below meth c H locs 8431 1660372 (lw_Z below #[Value.ref b] s) (F0 m 188 ls []) := by
  have C1 := C0
  obtain ⟨hx, hb, hr, hml, hown0, hts, hX, hbl, hlocks, hgv⟩ := C0
  obtain ⟨hPh, hFh, hPm, hFm, ez1, ez2, ez3, ez4, hz0⟩ := hR
  have hown : s.vm.findClass RL = some m.cls := hown0
  have hall : ∀ w ∈ zAll, w.before #[Value.ref b] s = true := fun w h => hts w (zAll_in w h)
  have hbA : ¬ (fun q : Nat => s.heap.size ≤ q) b := Nat.not_le.mpr hbl
  generalize hAe : (fun q : Nat => s.heap.size ≤ q) = A at hS hbA
  have hA : ∀ q : Nat, s.heap.size ≤ q → A q := fun q h => by rw [← hAe]; exact h
  generalize hQ : lw_Z below #[Value.ref b] s = QQ
  obtain ⟨x1, hx1⟩ : ∃ y, xs (1 : Int32).toNatClampNeg = y := ⟨_, rfl⟩
  obtain ⟨x2, hx2⟩ : ∃ y, xs (2 : Int32).toNatClampNeg = y := ⟨_, rfl⟩
  obtain ⟨x3, hx3⟩ : ∃ y, xs (3 : Int32).toNatClampNeg = y := ⟨_, rfl⟩
  have hP : va_P (dC, dI) vwCl [(hh, .inr (10, [.ref (bb + 0), .ref (bb + 73), .ref (bb + 75), .ref (bb + 76), .ref (bb + 80), .ref (bb + 81), .ref (bb + 88), .ref (bb + 95), .ref (bb + 100), .ref (bb + 106), .int 0, .ref (bb + 107), .int 0])), (bb + 88, .inr (9, [.ref (bb + 81), .ref (bb + 89), .int 0, .ref (bb + 90), .int 0, .ref (bb + 91), .int 0, .ref (bb + 92), .int 0, .ref (bb + 93), .int 0, .int 0, .int 0, .ref (bb + 94), .int 0, .int 0, .int 0, .int 0, .int (-1)])), (bb + 89, .inl (aC 0, 400, .inl (fun _ => 0))), (mm, .inr (15, [.ref (d + 0), .int 0, .ref (d + 1), .int 0, .ref (d + 2), .ref (d + 3), .ref (d + 68), .ref (d + 77), .ref (d + 78), .int 0, .int 0, .ref (d + 79), .int 0, .int 0, .int 0, .ref (d + 80), .int 0, .int 0, .int 0, .int 0, .ref (d + 81), .ref (d + 82), .int (-1), .ref (d + 91), .int 0, .int 0, .ref (d + 92), .int 0, .ref (d + 93), .int 0, .ref (d + 94), .int 0, .ref (d + 95), .ref (d + 96), .ref (d + 97), .ref (d + 98), .int 0, .int 0, .ref (d + 99), .null, .null, .null, .null, .null, .ref (d + 148), .ref (d + 175), .ref (d + 176), .ref (d + 177), .int 0, .ref (d + 178), .ref (d + 179), .ref (d + 180), .ref (d + 185), .ref (d + 190), .ref (d + 191), .ref (d + 192), .ref (d + 193), .ref (d + 201), .ref (d + 209), .ref (d + 210), .ref (d + 211), .ref (d + 272), .ref (d + 273), .int 0, .ref (d + 274)])), (d + 79, .inl (aC 1, 400, .inl (fun _ => 0)))] H := zP_c (hPh 0 _ rfl) (zP_c (hPh 7 _ rfl) (zP_c (hPh 8 _ rfl) (zP_c (hPm 0 _ rfl) (zP_c (hPm 2 _ rfl) (zP_n)))))
  have hD : va_D A [(hh, .inr (10, [.ref (bb + 0), .ref (bb + 73), .ref (bb + 75), .ref (bb + 76), .ref (bb + 80), .ref (bb + 81), .ref (bb + 88), .ref (bb + 95), .ref (bb + 100), .ref (bb + 106), .int 0, .ref (bb + 107), .int 0])), (bb + 88, .inr (9, [.ref (bb + 81), .ref (bb + 89), .int 0, .ref (bb + 90), .int 0, .ref (bb + 91), .int 0, .ref (bb + 92), .int 0, .ref (bb + 93), .int 0, .int 0, .int 0, .ref (bb + 94), .int 0, .int 0, .int 0, .int 0, .int (-1)])), (bb + 89, .inl (aC 0, 400, .inl (fun _ => 0))), (mm, .inr (15, [.ref (d + 0), .int 0, .ref (d + 1), .int 0, .ref (d + 2), .ref (d + 3), .ref (d + 68), .ref (d + 77), .ref (d + 78), .int 0, .int 0, .ref (d + 79), .int 0, .int 0, .int 0, .ref (d + 80), .int 0, .int 0, .int 0, .int 0, .ref (d + 81), .ref (d + 82), .int (-1), .ref (d + 91), .int 0, .int 0, .ref (d + 92), .int 0, .ref (d + 93), .int 0, .ref (d + 94), .int 0, .ref (d + 95), .ref (d + 96), .ref (d + 97), .ref (d + 98), .int 0, .int 0, .ref (d + 99), .null, .null, .null, .null, .null, .ref (d + 148), .ref (d + 175), .ref (d + 176), .ref (d + 177), .int 0, .ref (d + 178), .ref (d + 179), .ref (d + 180), .ref (d + 185), .ref (d + 190), .ref (d + 191), .ref (d + 192), .ref (d + 193), .ref (d + 201), .ref (d + 209), .ref (d + 210), .ref (d + 211), .ref (d + 272), .ref (d + 273), .int 0, .ref (d + 274)])), (d + 79, .inl (aC 1, 400, .inl (fun _ => 0)))] := zUp_D (lo := s.heap.size) hA (zUp_c (by omega) (zUp_c (by omega) (zUp_c (by omega) (zUp_c (by omega) (zUp_c (by omega) (zUp_n))))))
  clear hPh hFh hPm hFm
  refine lv_aload_n hx hb dL_law_188 rfl (lv_at hl 2 rfl) ?_
  refine lv_aload_n hx hb dL_law_189 rfl (lv_at hl 3 rfl) ?_
  refine lv_iload_n hx hb dL_law_190 rfl (lv_at hl 0 rfl) ?_
  refine lv_iconst (v := 1) hx hb dL_law_191 (by decide) ?_
  refine lv_iadd hx hb dL_law_192 ?_
  refine lv_topi (fun y140001 ey140001 => ?_)
  obtain rfl : y140001 = 1 := by rw [ey140001]; decide
  try clear ey140001
  show W p l e _ s m _ below meth c _ _ _ _ QQ (F0 m 193 ls [.int 1, .ref b, .ref hh])
  refine zsld hx hb hX hbl hbA hS (zvp (by decide)) hx1 dL_law_193 ?_
  refine lv_i2l (v := x1.toInt64) hx hb dL_law_194 rfl ?_
  refine lv_bipush (v := 32) hx hb dL_law_195 (by decide) ?_
  refine lv_lshl hx hb dL_law_197 rfl ?_
  refine lv_aload_n hx hb dL_law_198 rfl (lv_at hl 3 rfl) ?_
  show W p l e _ s m _ below meth c _ _ _ _ QQ (F0 m 199 ls [.ref b, .long (x1.toInt64 <<< ((32 : Int32).toInt64 &&& 63)), .ref hh])
  refine lv_iload_n hx hb dL_law_199 rfl (lv_at hl 0 rfl) ?_
  refine lv_iconst (v := 2) hx hb dL_law_200 (by decide) ?_
  refine lv_iadd hx hb dL_law_201 ?_
  refine lv_topi (fun y140002 ey140002 => ?_)
  obtain rfl : y140002 = 2 := by rw [ey140002]; decide
  try clear ey140002
  refine zsld hx hb hX hbl hbA hS (zvp (by decide)) hx2 dL_law_202 ?_
  refine lv_i2l (v := x2.toInt64) hx hb dL_law_203 rfl ?_
  show W p l e _ s m _ below meth c _ _ _ _ QQ (F0 m 204 ls [.long x2.toInt64, .long (x1.toInt64 <<< ((32 : Int32).toInt64 &&& 63)), .ref hh])
  refine lv_ldc2 hx hb hown (hall _ zw_496) dL_law_204 ?_
  refine lv_land hx hb dL_law_207 ?_
  refine lv_lor hx hb dL_law_208 ?_
  refine lv_aload_n hx hb dL_law_209 rfl (lv_at hl 3 rfl) ?_
  refine lv_iload_n hx hb dL_law_210 rfl (lv_at hl 0 rfl) ?_
  show W p l e _ s m _ below meth c _ _ _ _ QQ (F0 m 211 ls [.int 0, .ref b, .long ((x1.toInt64 <<< ((32 : Int32).toInt64 &&& 63)) ||| (x2.toInt64 &&& 4294967295)), .ref hh])
  refine lv_iconst (v := 3) hx hb dL_law_211 (by decide) ?_
  refine lv_iadd hx hb dL_law_212 ?_
  refine lv_topi (fun y140003 ey140003 => ?_)
  obtain rfl : y140003 = 3 := by rw [ey140003]; decide
  try clear ey140003
  refine zsld hx hb hX hbl hbA hS (zvp (by decide)) hx3 dL_law_213 ?_
  refine zrw_i (f := fun _ => False) (B := fun _ _ => True) (k := 0) (wr := [(mm, .inr (15, [.ref (d + 0), .int 0, .ref (d + 1), .int 0, .ref (d + 2), .ref (d + 3), .ref (d + 68), .ref (d + 77), .ref (d + 78), .int 0, .int 0, .ref (d + 79), .int 0, .int 0, .int 0, .ref (d + 80), .int 0, .int 0, .int 0, .int 0, .ref (d + 81), .ref (d + 82), .int (-1), .ref (d + 91), .int 0, .int 0, .ref (d + 92), .int 0, .ref (d + 93), .int 0, .ref (d + 94), .int 0, .ref (d + 95), .ref (d + 96), .ref (d + 97), .ref (d + 98), .int 0, .int 0, .ref (d + 99), .null, .null, .null, .null, .null, .ref (d + 148), .ref (d + 175), .ref (d + 176), .ref (d + 177), .int 0, .ref (d + 178), .ref (d + 179), .ref (d + 180), .ref (d + 185), .ref (d + 190), .ref (d + 191), .ref (d + 192), .ref (d + 193), .ref (d + 201), .ref (d + 209), .ref (d + 210), .ref (d + 211), .ref (d + 272), .ref (d + 273), .int 0, .ref (d + 274)])), (d + 79, .inl (aC 1, 400, .inl (fun _ => 0)))]) (wc := [(hh, .inr (10, [.ref (bb + 0), .ref (bb + 73), .ref (bb + 75), .ref (bb + 76), .ref (bb + 80), .ref (bb + 81), .ref (bb + 88), .ref (bb + 95), .ref (bb + 100), .ref (bb + 106), .int 0, .ref (bb + 107), .int 0])), (bb + 88, .inr (9, [.ref (bb + 81), .ref (bb + 89), .int 0, .ref (bb + 90), .int 0, .ref (bb + 91), .int 0, .ref (bb + 92), .int 0, .ref (bb + 93), .int 0, .int 0, .int 0, .ref (bb + 94), .int 0, .int 0, .int 0, .int 0, .int (-1)])), (bb + 89, .inl (aC 0, 400, .inl (fun _ => 0)))]) (w1 := fun _ => []) hP hD hS hA [0, 1, 2] [3, 4] rfl rfl (by decide +kernel) (by decide +kernel) (va_runV (As := [.long ((x1.toInt64 <<< ((32 : Int32).toInt64 &&& 63)) ||| (x2.toInt64 &&& 4294967295)), .int x3]) (rest := []) ⟨hx, hb, hml, hown, hall⟩ (c_X11_type l dC dI aC hh bb ((x1.toInt64 <<< ((32 : Int32).toInt64 &&& 63)) ||| (x2.toInt64 &&& 4294967295)) x3 H.size) (cwV 2 hall (zgV zw_497 zw_499 zw_500 zw_802 g_X11_type rfl) rfl rfl rfl (by decide +kernel) ⟨Nat.le_of_ble_eq_true rfl, Nat.le_of_ble_eq_true rfl⟩) (zPre_V (As := [.long ((x1.toInt64 <<< ((32 : Int32).toInt64 &&& 63)) ||| (x2.toInt64 &&& 4294967295)), .int x3]) hK hP hD [0, 1, 2] rfl (by decide +kernel) (ci := 10) (q0 := 0) rfl rfl) rfl rfl hl.1 rfl (lv_room (Nat.le_of_ble_eq_true rfl)) dL_law_214 ⟨Nat.le_of_ble_eq_true rfl, Nat.le_of_ble_eq_true rfl⟩) (fun ra u H140004 L140005 hw hz hk hP' hD' hS' => ?_)
  try rw [hz0] at hP'
  try rw [hz0] at hD'
  rw [hz0] at hz
  replace hz0 : H140004.size = s.heap.size + 8431 := by omega
  clear hz
  clear hP hD hS hk
  have hP : va_P (dC, dI) vwCl [(mm, .inr (15, [.ref (d + 0), .int 0, .ref (d + 1), .int 0, .ref (d + 2), .ref (d + 3), .ref (d + 68), .ref (d + 77), .ref (d + 78), .int 0, .int 0, .ref (d + 79), .int 0, .int 0, .int 0, .ref (d + 80), .int 0, .int 0, .int 0, .int 0, .ref (d + 81), .ref (d + 82), .int (-1), .ref (d + 91), .int 0, .int 0, .ref (d + 92), .int 0, .ref (d + 93), .int 0, .ref (d + 94), .int 0, .ref (d + 95), .ref (d + 96), .ref (d + 97), .ref (d + 98), .int 0, .int 0, .ref (d + 99), .null, .null, .null, .null, .null, .ref (d + 148), .ref (d + 175), .ref (d + 176), .ref (d + 177), .int 0, .ref (d + 178), .ref (d + 179), .ref (d + 180), .ref (d + 185), .ref (d + 190), .ref (d + 191), .ref (d + 192), .ref (d + 193), .ref (d + 201), .ref (d + 209), .ref (d + 210), .ref (d + 211), .ref (d + 272), .ref (d + 273), .int 0, .ref (d + 274)])), (d + 79, .inl (aC 1, 400, .inl (fun _ => 0)))] H140004 := hP'
  have hD : va_D A [(mm, .inr (15, [.ref (d + 0), .int 0, .ref (d + 1), .int 0, .ref (d + 2), .ref (d + 3), .ref (d + 68), .ref (d + 77), .ref (d + 78), .int 0, .int 0, .ref (d + 79), .int 0, .int 0, .int 0, .ref (d + 80), .int 0, .int 0, .int 0, .int 0, .ref (d + 81), .ref (d + 82), .int (-1), .ref (d + 91), .int 0, .int 0, .ref (d + 92), .int 0, .ref (d + 93), .int 0, .ref (d + 94), .int 0, .ref (d + 95), .ref (d + 96), .ref (d + 97), .ref (d + 98), .int 0, .int 0, .ref (d + 99), .null, .null, .null, .null, .null, .ref (d + 148), .ref (d + 175), .ref (d + 176), .ref (d + 177), .int 0, .ref (d + 178), .ref (d + 179), .ref (d + 180), .ref (d + 185), .ref (d + 190), .ref (d + 191), .ref (d + 192), .ref (d + 193), .ref (d + 201), .ref (d + 209), .ref (d + 210), .ref (d + 211), .ref (d + 272), .ref (d + 273), .int 0, .ref (d + 274)])), (d + 79, .inl (aC 1, 400, .inl (fun _ => 0)))] := hD'
  have hS : va_S A s.heap H140004 L140005 := hS'
  clear hP' hD' hS'
  have hwa := hw
  clear hw
  refine lv_aload_n hx hb dL_law_217 rfl (lv_at hl 1 rfl) ?_
  show W p l e _ s m _ below meth c _ _ _ _ QQ (F0 m 218 ls [.ref mm, .int ra])
  refine lv_aload_n hx hb dL_law_218 rfl (lv_at hl 3 rfl) ?_
  refine lv_iload_n hx hb dL_law_219 rfl (lv_at hl 0 rfl) ?_
  refine lv_iconst (v := 1) hx hb dL_law_220 (by decide) ?_
  refine lv_iadd hx hb dL_law_221 ?_
  refine lv_topi (fun y140006 ey140006 => ?_)
  obtain rfl : y140006 = 1 := by rw [ey140006]; decide
  try clear ey140006
  refine zsld hx hb hX hbl hbA hS (zvp (by decide)) hx1 dL_law_222 ?_
  show W p l e _ s m _ below meth c _ _ _ _ QQ (F0 m 223 ls [.int x1, .ref mm, .int ra])
  refine lv_i2l (v := x1.toInt64) hx hb dL_law_223 rfl ?_
  refine lv_bipush (v := 32) hx hb dL_law_224 (by decide) ?_
  refine lv_lshl hx hb dL_law_226 rfl ?_
  refine lv_aload_n hx hb dL_law_227 rfl (lv_at hl 3 rfl) ?_
  refine lv_iload_n hx hb dL_law_228 rfl (lv_at hl 0 rfl) ?_
  show W p l e _ s m _ below meth c _ _ _ _ QQ (F0 m 229 ls [.int 0, .ref b, .long (x1.toInt64 <<< ((32 : Int32).toInt64 &&& 63)), .ref mm, .int ra])
  refine lv_iconst (v := 2) hx hb dL_law_229 (by decide) ?_
  refine lv_iadd hx hb dL_law_230 ?_
  refine lv_topi (fun y140007 ey140007 => ?_)
  obtain rfl : y140007 = 2 := by rw [ey140007]; decide
  try clear ey140007
  refine zsld hx hb hX hbl hbA hS (zvp (by decide)) hx2 dL_law_231 ?_
  refine lv_i2l (v := x2.toInt64) hx hb dL_law_232 rfl ?_
  refine lv_ldc2 hx hb hown (hall _ zw_496) dL_law_233 ?_
  show W p l e _ s m _ below meth c _ _ _ _ QQ (F0 m 236 ls [.long 4294967295, .long x2.toInt64, .long (x1.toInt64 <<< ((32 : Int32).toInt64 &&& 63)), .ref mm, .int ra])
  refine lv_land hx hb dL_law_236 ?_
  refine lv_lor hx hb dL_law_237 ?_
  refine lv_aload_n hx hb dL_law_238 rfl (lv_at hl 3 rfl) ?_
  refine lv_iload_n hx hb dL_law_239 rfl (lv_at hl 0 rfl) ?_
  refine lv_iconst (v := 3) hx hb dL_law_240 (by decide) ?_
  show W p l e _ s m _ below meth c _ _ _ _ QQ (F0 m 241 ls [.int 3, .int 0, .ref b, .long ((x1.toInt64 <<< ((32 : Int32).toInt64 &&& 63)) ||| (x2.toInt64 &&& 4294967295)), .ref mm, .int ra])
  refine lv_iadd hx hb dL_law_241 ?_
  refine lv_topi (fun y140008 ey140008 => ?_)
  obtain rfl : y140008 = 3 := by rw [ey140008]; decide
  try clear ey140008
  refine zsld hx hb hX hbl hbA hS (zvp (by decide)) hx3 dL_law_242 ?_
  refine zrw_i (f := fun _ => False) (B := fun _ _ => True) (k := 0) (wr := []) (wc := [(mm, .inr (15, [.ref (d + 0), .int 0, .ref (d + 1), .int 0, .ref (d + 2), .ref (d + 3), .ref (d + 68), .ref (d + 77), .ref (d + 78), .int 0, .int 0, .ref (d + 79), .int 0, .int 0, .int 0, .ref (d + 80), .int 0, .int 0, .int 0, .int 0, .ref (d + 81), .ref (d + 82), .int (-1), .ref (d + 91), .int 0, .int 0, .ref (d + 92), .int 0, .ref (d + 93), .int 0, .ref (d + 94), .int 0, .ref (d + 95), .ref (d + 96), .ref (d + 97), .ref (d + 98), .int 0, .int 0, .ref (d + 99), .null, .null, .null, .null, .null, .ref (d + 148), .ref (d + 175), .ref (d + 176), .ref (d + 177), .int 0, .ref (d + 178), .ref (d + 179), .ref (d + 180), .ref (d + 185), .ref (d + 190), .ref (d + 191), .ref (d + 192), .ref (d + 193), .ref (d + 201), .ref (d + 209), .ref (d + 210), .ref (d + 211), .ref (d + 272), .ref (d + 273), .int 0, .ref (d + 274)])), (d + 79, .inl (aC 1, 400, .inl (fun _ => 0)))]) (w1 := fun _ => []) hP hD hS hA [0, 1] [] rfl rfl (by decide +kernel) (by decide +kernel) (va_runV (As := [.long ((x1.toInt64 <<< ((32 : Int32).toInt64 &&& 63)) ||| (x2.toInt64 &&& 4294967295)), .int x3]) (rest := [.int ra]) ⟨hx, hb, hml, hown, hall⟩ (c_X16_type l dC dI aC mm d ((x1.toInt64 <<< ((32 : Int32).toInt64 &&& 63)) ||| (x2.toInt64 &&& 4294967295)) x3 H140004.size) (cwV 2 hall (zgV zw_501 zw_503 zw_504 zw_812 g_X16_type rfl) rfl rfl rfl (by decide +kernel) ⟨Nat.le_of_ble_eq_true rfl, Nat.le_of_ble_eq_true rfl⟩) (zPre_V (As := [.long ((x1.toInt64 <<< ((32 : Int32).toInt64 &&& 63)) ||| (x2.toInt64 &&& 4294967295)), .int x3]) hK hP hD [0, 1] rfl (by decide +kernel) (ci := 15) (q0 := 0) rfl rfl) rfl rfl hl.1 rfl (lv_room (Nat.le_of_ble_eq_true rfl)) dL_law_243 ⟨Nat.le_of_ble_eq_true rfl, Nat.le_of_ble_eq_true rfl⟩) (fun rb u H140009 L140010 hw hz hk hP' hD' hS' => ?_)
  try rw [hz0] at hP'
  try rw [hz0] at hD'
  rw [hz0] at hz
  replace hz0 : H140009.size = s.heap.size + 8431 := by omega
  clear hz
  clear hP hD hS hk
  have hP : va_P (dC, dI) vwCl [] H140009 := hP'
  have hD : va_D A [] := hD'
  have hS : va_S A s.heap H140009 L140010 := hS'
  clear hP' hD' hS'
  clear L140005 H140004
  have hwb := hw
  clear hw
  refine lv_icmp_eq (tgt := 1443) hx hb dL_law_246 (by decide) (fun _ => ?_) (fun hne => absurd (hwa.trans hwb.symm) hne)
  subst hQ
  subst hAe
  exact law_tail C1 (Nat.le_of_ble_eq_true rfl) (Nat.le_of_ble_eq_true rfl) hS (lv_sub hl [0, 3] rfl)

set_option maxHeartbeats 4000000 in
set_option maxRecDepth 100000 in
theorem law_read {p : Program} {l : Launch} {e : Env} {s : State} {m : MethodId} {below : List Frame} {meth : Method} {c : Code} {b : Nat} {xs : Nat → Int32} {H : Heap} {locs : List Loc} {ls : Array Slot} {dC : Nat → ClassId} {dI : Nat → Nat → Nat} {aC : Nat → ClassId} {hh bb mm d : Nat} (C0 : lw_At p s m meth c b 6 xs) (hK : zK (dC, dI) aC s) (hR : zReady s H dC dI aC hh bb mm d) (hS : va_S (fun q => s.heap.size ≤ q) s.heap H locs) (hl : lv_has ls 4 [(3, .int 0), (2, .ref mm), (1, .ref hh), (0, .ref b)]) : W p l e room_1 s m #[Value.ref b] below meth c H locs 8431 1660372 (lw_Z below #[Value.ref b] s) (F0 m 251 ls []) := by
  have C1 := C0
  obtain ⟨hx, hb, hr, hml, hown0, hts, hX, hbl, hlocks, hgv⟩ := C0
  obtain ⟨hPh, hFh, hPm, hFm, ez1, ez2, ez3, ez4, hz0⟩ := hR
  have hown : s.vm.findClass RL = some m.cls := hown0
  have hall : ∀ w ∈ zAll, w.before #[Value.ref b] s = true := fun w h => hts w (zAll_in w h)
  have hbA : ¬ (fun q : Nat => s.heap.size ≤ q) b := Nat.not_le.mpr hbl
  generalize hAe : (fun q : Nat => s.heap.size ≤ q) = A at hS hbA
  have hA : ∀ q : Nat, s.heap.size ≤ q → A q := fun q h => by rw [← hAe]; exact h
  generalize hQ : lw_Z below #[Value.ref b] s = QQ
  obtain ⟨x1, hx1⟩ : ∃ y, xs (1 : Int32).toNatClampNeg = y := ⟨_, rfl⟩
  by_cases hk : zok x1 = true
  · obtain ⟨a1, ea1⟩ : ∃ q, q = bb + (1 + 6 * x1.toNatClampNeg) := ⟨_, rfl⟩
    obtain ⟨a2, ea2⟩ : ∃ q, q = d + (7485 + 9 * x1.toNatClampNeg) := ⟨_, rfl⟩
    have hn12 := zok_12 hk
    have hsl : zslot bb x1 = some a1 := by rw [ea1]; exact zslot_1 hk
    have hSl : va_P (dC, dI) vwCl (zSlotW aC a1) H := by rw [ea1]; exact hFh _ hn12
    have hTh : va_P (dC, dI) vwCl (zThW aC a2) H := by rw [ea2]; exact hFm _ hn12
    have hP : va_P (dC, dI) vwCl [(hh, .inr (10, [.ref (bb + 0), .ref (bb + 73), .ref (bb + 75), .ref (bb + 76), .ref (bb + 80), .ref (bb + 81), .ref (bb + 88), .ref (bb + 95), .ref (bb + 100), .ref (bb + 106), .int 0, .ref (bb + 107), .int 0])), (bb + 0, .inl (aC 3, 12, .inr (.inr (.inr (.inr (zrefs (fun i => bb + (1 + 6 * i)) 12)))))), (bb + 73, .inr (3, [.ref (bb + 74), .int 2048, .int 0])), (bb + 74, .inl (aC 0, 131072, .inl (fun _ => 0))), (bb + 88, .inr (9, [.ref (bb + 81), .ref (bb + 89), .int 0, .ref (bb + 90), .int 0, .ref (bb + 91), .int 0, .ref (bb + 92), .int 0, .ref (bb + 93), .int 0, .int 0, .int 0, .ref (bb + 94), .int 0, .int 0, .int 0, .int 0, .int (-1)])), (bb + 89, .inl (aC 0, 400, .inl (fun _ => 0))), (mm, .inr (15, [.ref (d + 0), .int 0, .ref (d + 1), .int 0, .ref (d + 2), .ref (d + 3), .ref (d + 68), .ref (d + 77), .ref (d + 78), .int 0, .int 0, .ref (d + 79), .int 0, .int 0, .int 0, .ref (d + 80), .int 0, .int 0, .int 0, .int 0, .ref (d + 81), .ref (d + 82), .int (-1), .ref (d + 91), .int 0, .int 0, .ref (d + 92), .int 0, .ref (d + 93), .int 0, .ref (d + 94), .int 0, .ref (d + 95), .ref (d + 96), .ref (d + 97), .ref (d + 98), .int 0, .int 0, .ref (d + 99), .null, .null, .null, .null, .null, .ref (d + 148), .ref (d + 175), .ref (d + 176), .ref (d + 177), .int 0, .ref (d + 178), .ref (d + 179), .ref (d + 180), .ref (d + 185), .ref (d + 190), .ref (d + 191), .ref (d + 192), .ref (d + 193), .ref (d + 201), .ref (d + 209), .ref (d + 210), .ref (d + 211), .ref (d + 272), .ref (d + 273), .int 0, .ref (d + 274)])), (d + 78, .inr (12, [.null, .null, .null, .null, .null, .int 0]))] H := zP_c (hPh 0 _ rfl) (zP_c (hPh 1 _ rfl) (zP_c (hPh 2 _ rfl) (zP_c (hPh 3 _ rfl) (zP_c (hPh 7 _ rfl) (zP_c (hPh 8 _ rfl) (zP_c (hPm 0 _ rfl) (zP_c (hPm 1 _ rfl) (zP_n))))))))
    have hD : va_D A [(hh, .inr (10, [.ref (bb + 0), .ref (bb + 73), .ref (bb + 75), .ref (bb + 76), .ref (bb + 80), .ref (bb + 81), .ref (bb + 88), .ref (bb + 95), .ref (bb + 100), .ref (bb + 106), .int 0, .ref (bb + 107), .int 0])), (bb + 0, .inl (aC 3, 12, .inr (.inr (.inr (.inr (zrefs (fun i => bb + (1 + 6 * i)) 12)))))), (bb + 73, .inr (3, [.ref (bb + 74), .int 2048, .int 0])), (bb + 74, .inl (aC 0, 131072, .inl (fun _ => 0))), (bb + 88, .inr (9, [.ref (bb + 81), .ref (bb + 89), .int 0, .ref (bb + 90), .int 0, .ref (bb + 91), .int 0, .ref (bb + 92), .int 0, .ref (bb + 93), .int 0, .int 0, .int 0, .ref (bb + 94), .int 0, .int 0, .int 0, .int 0, .int (-1)])), (bb + 89, .inl (aC 0, 400, .inl (fun _ => 0))), (mm, .inr (15, [.ref (d + 0), .int 0, .ref (d + 1), .int 0, .ref (d + 2), .ref (d + 3), .ref (d + 68), .ref (d + 77), .ref (d + 78), .int 0, .int 0, .ref (d + 79), .int 0, .int 0, .int 0, .ref (d + 80), .int 0, .int 0, .int 0, .int 0, .ref (d + 81), .ref (d + 82), .int (-1), .ref (d + 91), .int 0, .int 0, .ref (d + 92), .int 0, .ref (d + 93), .int 0, .ref (d + 94), .int 0, .ref (d + 95), .ref (d + 96), .ref (d + 97), .ref (d + 98), .int 0, .int 0, .ref (d + 99), .null, .null, .null, .null, .null, .ref (d + 148), .ref (d + 175), .ref (d + 176), .ref (d + 177), .int 0, .ref (d + 178), .ref (d + 179), .ref (d + 180), .ref (d + 185), .ref (d + 190), .ref (d + 191), .ref (d + 192), .ref (d + 193), .ref (d + 201), .ref (d + 209), .ref (d + 210), .ref (d + 211), .ref (d + 272), .ref (d + 273), .int 0, .ref (d + 274)])), (d + 78, .inr (12, [.null, .null, .null, .null, .null, .int 0]))] := zUp_D (lo := s.heap.size) hA (zUp_c (by omega) (zUp_c (by omega) (zUp_c (by omega) (zUp_c (by omega) (zUp_c (by omega) (zUp_c (by omega) (zUp_c (by omega) (zUp_c (by omega) (zUp_n)))))))))
    clear hPh hFh hPm hFm hSl hTh
    refine lv_aload_n hx hb dL_law_251 rfl (lv_at hl 2 rfl) ?_
    refine lv_aload_n hx hb dL_law_252 rfl (lv_at hl 3 rfl) ?_
    refine lv_iload_n hx hb dL_law_253 rfl (lv_at hl 0 rfl) ?_
    refine lv_iconst (v := 1) hx hb dL_law_254 (by decide) ?_
    refine lv_iadd hx hb dL_law_255 ?_
    refine lv_topi (fun y140011 ey140011 => ?_)
    obtain rfl : y140011 = 1 := by rw [ey140011]; decide
    try clear ey140011
    show W p l e _ s m _ below meth c _ _ _ _ QQ (F0 m 256 ls [.int 1, .ref b, .ref hh])
    refine zsld hx hb hX hbl hbA hS (zvp (by decide)) hx1 dL_law_256 ?_
    refine zrw_i (f := fun _ => False) (B := fun _ _ => True) (k := 0) (wr := [(mm, .inr (15, [.ref (d + 0), .int 0, .ref (d + 1), .int 0, .ref (d + 2), .ref (d + 3), .ref (d + 68), .ref (d + 77), .ref (d + 78), .int 0, .int 0, .ref (d + 79), .int 0, .int 0, .int 0, .ref (d + 80), .int 0, .int 0, .int 0, .int 0, .ref (d + 81), .ref (d + 82), .int (-1), .ref (d + 91), .int 0, .int 0, .ref (d + 92), .int 0, .ref (d + 93), .int 0, .ref (d + 94), .int 0, .ref (d + 95), .ref (d + 96), .ref (d + 97), .ref (d + 98), .int 0, .int 0, .ref (d + 99), .null, .null, .null, .null, .null, .ref (d + 148), .ref (d + 175), .ref (d + 176), .ref (d + 177), .int 0, .ref (d + 178), .ref (d + 179), .ref (d + 180), .ref (d + 185), .ref (d + 190), .ref (d + 191), .ref (d + 192), .ref (d + 193), .ref (d + 201), .ref (d + 209), .ref (d + 210), .ref (d + 211), .ref (d + 272), .ref (d + 273), .int 0, .ref (d + 274)])), (d + 78, .inr (12, [.null, .null, .null, .null, .null, .int 0]))]) (wc := [(hh, .inr (10, [.ref (bb + 0), .ref (bb + 73), .ref (bb + 75), .ref (bb + 76), .ref (bb + 80), .ref (bb + 81), .ref (bb + 88), .ref (bb + 95), .ref (bb + 100), .ref (bb + 106), .int 0, .ref (bb + 107), .int 0])), (bb + 0, .inl (aC 3, 12, .inr (.inr (.inr (.inr (zrefs (fun i => bb + (1 + 6 * i)) 12)))))), (bb + 73, .inr (3, [.ref (bb + 74), .int 2048, .int 0])), (bb + 74, .inl (aC 0, 131072, .inl (fun _ => 0))), (bb + 88, .inr (9, [.ref (bb + 81), .ref (bb + 89), .int 0, .ref (bb + 90), .int 0, .ref (bb + 91), .int 0, .ref (bb + 92), .int 0, .ref (bb + 93), .int 0, .int 0, .int 0, .ref (bb + 94), .int 0, .int 0, .int 0, .int 0, .int (-1)])), (bb + 89, .inl (aC 0, 400, .inl (fun _ => 0)))]) (w1 := fun _ => []) hP hD hS hA [0, 1, 2, 3, 4, 5] [6, 7] rfl rfl (by decide +kernel) (by decide +kernel) (va_runV (As := [.int x1]) (rest := []) ⟨hx, hb, hml, hown, hall⟩ (c_X11_read_in l dC dI aC hh bb a1 x1 H.size hsl) (cwV 1 hall (zgV zw_505 zw_507 zw_508 zw_802 g_X11_read rfl) rfl rfl rfl (by decide +kernel) ⟨Nat.le_of_ble_eq_true rfl, Nat.le_of_ble_eq_true rfl⟩) (zPre_V (As := [.int x1]) hK hP hD [0, 1, 2, 3, 4, 5] rfl (by decide +kernel) (ci := 10) (q0 := 0) rfl rfl) rfl rfl hl.1 rfl (lv_room (Nat.le_of_ble_eq_true rfl)) dL_law_257 ⟨Nat.le_of_ble_eq_true rfl, Nat.le_of_ble_eq_true rfl⟩) (fun ra u H140012 L140013 hw hz hk hP' hD' hS' => ?_)
    try rw [hz0] at hP'
    try rw [hz0] at hD'
    rw [hz0] at hz
    replace hz0 : H140012.size = s.heap.size + 8431 := by omega
    clear hz
    clear hP hD hS hk
    have hP : va_P (dC, dI) vwCl [(mm, .inr (15, [.ref (d + 0), .int 0, .ref (d + 1), .int 0, .ref (d + 2), .ref (d + 3), .ref (d + 68), .ref (d + 77), .ref (d + 78), .int 0, .int 0, .ref (d + 79), .int 0, .int 0, .int 0, .ref (d + 80), .int 0, .int 0, .int 0, .int 0, .ref (d + 81), .ref (d + 82), .int (-1), .ref (d + 91), .int 0, .int 0, .ref (d + 92), .int 0, .ref (d + 93), .int 0, .ref (d + 94), .int 0, .ref (d + 95), .ref (d + 96), .ref (d + 97), .ref (d + 98), .int 0, .int 0, .ref (d + 99), .null, .null, .null, .null, .null, .ref (d + 148), .ref (d + 175), .ref (d + 176), .ref (d + 177), .int 0, .ref (d + 178), .ref (d + 179), .ref (d + 180), .ref (d + 185), .ref (d + 190), .ref (d + 191), .ref (d + 192), .ref (d + 193), .ref (d + 201), .ref (d + 209), .ref (d + 210), .ref (d + 211), .ref (d + 272), .ref (d + 273), .int 0, .ref (d + 274)])), (d + 78, .inr (12, [.null, .null, .null, .null, .null, .int 0]))] H140012 := hP'
    have hD : va_D A [(mm, .inr (15, [.ref (d + 0), .int 0, .ref (d + 1), .int 0, .ref (d + 2), .ref (d + 3), .ref (d + 68), .ref (d + 77), .ref (d + 78), .int 0, .int 0, .ref (d + 79), .int 0, .int 0, .int 0, .ref (d + 80), .int 0, .int 0, .int 0, .int 0, .ref (d + 81), .ref (d + 82), .int (-1), .ref (d + 91), .int 0, .int 0, .ref (d + 92), .int 0, .ref (d + 93), .int 0, .ref (d + 94), .int 0, .ref (d + 95), .ref (d + 96), .ref (d + 97), .ref (d + 98), .int 0, .int 0, .ref (d + 99), .null, .null, .null, .null, .null, .ref (d + 148), .ref (d + 175), .ref (d + 176), .ref (d + 177), .int 0, .ref (d + 178), .ref (d + 179), .ref (d + 180), .ref (d + 185), .ref (d + 190), .ref (d + 191), .ref (d + 192), .ref (d + 193), .ref (d + 201), .ref (d + 209), .ref (d + 210), .ref (d + 211), .ref (d + 272), .ref (d + 273), .int 0, .ref (d + 274)])), (d + 78, .inr (12, [.null, .null, .null, .null, .null, .int 0]))] := hD'
    have hS : va_S A s.heap H140012 L140013 := hS'
    clear hP' hD' hS'
    have hwa := hw
    clear hw
    refine lv_aload_n hx hb dL_law_260 rfl (lv_at hl 1 rfl) ?_
    refine lv_aload_n hx hb dL_law_261 rfl (lv_at hl 3 rfl) ?_
    refine lv_iload_n hx hb dL_law_262 rfl (lv_at hl 0 rfl) ?_
    show W p l e _ s m _ below meth c _ _ _ _ QQ (F0 m 263 ls [.int 0, .ref b, .ref mm, .int ra])
    refine lv_iconst (v := 1) hx hb dL_law_263 (by decide) ?_
    refine lv_iadd hx hb dL_law_264 ?_
    refine lv_topi (fun y140014 ey140014 => ?_)
    obtain rfl : y140014 = 1 := by rw [ey140014]; decide
    try clear ey140014
    refine zsld hx hb hX hbl hbA hS (zvp (by decide)) hx1 dL_law_265 ?_
    refine zrw_i (f := fun _ => False) (B := fun _ _ => True) (k := 0) (wr := []) (wc := [(mm, .inr (15, [.ref (d + 0), .int 0, .ref (d + 1), .int 0, .ref (d + 2), .ref (d + 3), .ref (d + 68), .ref (d + 77), .ref (d + 78), .int 0, .int 0, .ref (d + 79), .int 0, .int 0, .int 0, .ref (d + 80), .int 0, .int 0, .int 0, .int 0, .ref (d + 81), .ref (d + 82), .int (-1), .ref (d + 91), .int 0, .int 0, .ref (d + 92), .int 0, .ref (d + 93), .int 0, .ref (d + 94), .int 0, .ref (d + 95), .ref (d + 96), .ref (d + 97), .ref (d + 98), .int 0, .int 0, .ref (d + 99), .null, .null, .null, .null, .null, .ref (d + 148), .ref (d + 175), .ref (d + 176), .ref (d + 177), .int 0, .ref (d + 178), .ref (d + 179), .ref (d + 180), .ref (d + 185), .ref (d + 190), .ref (d + 191), .ref (d + 192), .ref (d + 193), .ref (d + 201), .ref (d + 209), .ref (d + 210), .ref (d + 211), .ref (d + 272), .ref (d + 273), .int 0, .ref (d + 274)])), (d + 78, .inr (12, [.null, .null, .null, .null, .null, .int 0]))]) (w1 := fun _ => []) hP hD hS hA [0, 1] [] rfl rfl (by decide +kernel) (by decide +kernel) (vx_runVW (As := [.int x1]) (rest := [.int ra]) ⟨hx, hb, hml, hown, hall⟩ (c_X16_read_in l dC dI aC mm d x1 H140012.size hk) (vx_cwVW 1 hall (zgV zw_509 zw_510 zw_511 zw_812 g_X16_read rfl) rfl rfl rfl (by decide +kernel) ⟨Nat.le_of_ble_eq_true rfl, Nat.le_of_ble_eq_true rfl⟩) (zPre_V (As := [.int x1]) hK hP hD [0, 1] rfl (by decide +kernel) (ci := 15) (q0 := 0) rfl rfl) rfl rfl hl.1 rfl (lv_room (Nat.le_of_ble_eq_true rfl)) dL_law_266 ⟨Nat.le_of_ble_eq_true rfl, Nat.le_of_ble_eq_true rfl⟩) (fun rb u H140015 L140016 hw hz hk hP' hD' hS' => ?_)
    try rw [hz0] at hP'
    try rw [hz0] at hD'
    rw [hz0] at hz
    replace hz0 : H140015.size = s.heap.size + 8431 := by omega
    clear hz
    clear hP hD hS hk
    have hP : va_P (dC, dI) vwCl [] H140015 := hP'
    have hD : va_D A [] := hD'
    have hS : va_S A s.heap H140015 L140016 := hS'
    clear hP' hD' hS'
    clear L140013 H140012
    have hwb := hw
    clear hw
    refine lv_icmp_eq (tgt := 1443) hx hb dL_law_269 (by decide) (fun _ => ?_) (fun hne => absurd (hwa.trans hwb.symm) hne)
    subst hQ
    subst hAe
    exact law_tail C1 (Nat.le_of_ble_eq_true rfl) (Nat.le_of_ble_eq_true rfl) hS (lv_sub hl [0, 3] rfl)
  · have hP : va_P (dC, dI) vwCl [(hh, .inr (10, [.ref (bb + 0), .ref (bb + 73), .ref (bb + 75), .ref (bb + 76), .ref (bb + 80), .ref (bb + 81), .ref (bb + 88), .ref (bb + 95), .ref (bb + 100), .ref (bb + 106), .int 0, .ref (bb + 107), .int 0])), (bb + 0, .inl (aC 3, 12, .inr (.inr (.inr (.inr (zrefs (fun i => bb + (1 + 6 * i)) 12)))))), (mm, .inr (15, [.ref (d + 0), .int 0, .ref (d + 1), .int 0, .ref (d + 2), .ref (d + 3), .ref (d + 68), .ref (d + 77), .ref (d + 78), .int 0, .int 0, .ref (d + 79), .int 0, .int 0, .int 0, .ref (d + 80), .int 0, .int 0, .int 0, .int 0, .ref (d + 81), .ref (d + 82), .int (-1), .ref (d + 91), .int 0, .int 0, .ref (d + 92), .int 0, .ref (d + 93), .int 0, .ref (d + 94), .int 0, .ref (d + 95), .ref (d + 96), .ref (d + 97), .ref (d + 98), .int 0, .int 0, .ref (d + 99), .null, .null, .null, .null, .null, .ref (d + 148), .ref (d + 175), .ref (d + 176), .ref (d + 177), .int 0, .ref (d + 178), .ref (d + 179), .ref (d + 180), .ref (d + 185), .ref (d + 190), .ref (d + 191), .ref (d + 192), .ref (d + 193), .ref (d + 201), .ref (d + 209), .ref (d + 210), .ref (d + 211), .ref (d + 272), .ref (d + 273), .int 0, .ref (d + 274)]))] H := zP_c (hPh 0 _ rfl) (zP_c (hPh 1 _ rfl) (zP_c (hPm 0 _ rfl) (zP_n)))
    have hD : va_D A [(hh, .inr (10, [.ref (bb + 0), .ref (bb + 73), .ref (bb + 75), .ref (bb + 76), .ref (bb + 80), .ref (bb + 81), .ref (bb + 88), .ref (bb + 95), .ref (bb + 100), .ref (bb + 106), .int 0, .ref (bb + 107), .int 0])), (bb + 0, .inl (aC 3, 12, .inr (.inr (.inr (.inr (zrefs (fun i => bb + (1 + 6 * i)) 12)))))), (mm, .inr (15, [.ref (d + 0), .int 0, .ref (d + 1), .int 0, .ref (d + 2), .ref (d + 3), .ref (d + 68), .ref (d + 77), .ref (d + 78), .int 0, .int 0, .ref (d + 79), .int 0, .int 0, .int 0, .ref (d + 80), .int 0, .int 0, .int 0, .int 0, .ref (d + 81), .ref (d + 82), .int (-1), .ref (d + 91), .int 0, .int 0, .ref (d + 92), .int 0, .ref (d + 93), .int 0, .ref (d + 94), .int 0, .ref (d + 95), .ref (d + 96), .ref (d + 97), .ref (d + 98), .int 0, .int 0, .ref (d + 99), .null, .null, .null, .null, .null, .ref (d + 148), .ref (d + 175), .ref (d + 176), .ref (d + 177), .int 0, .ref (d + 178), .ref (d + 179), .ref (d + 180), .ref (d + 185), .ref (d + 190), .ref (d + 191), .ref (d + 192), .ref (d + 193), .ref (d + 201), .ref (d + 209), .ref (d + 210), .ref (d + 211), .ref (d + 272), .ref (d + 273), .int 0, .ref (d + 274)]))] := zUp_D (lo := s.heap.size) hA (zUp_c (by omega) (zUp_c (by omega) (zUp_c (by omega) (zUp_n))))
    clear hPh hFh hPm hFm
    refine lv_aload_n hx hb dL_law_251 rfl (lv_at hl 2 rfl) ?_
    refine lv_aload_n hx hb dL_law_252 rfl (lv_at hl 3 rfl) ?_
    refine lv_iload_n hx hb dL_law_253 rfl (lv_at hl 0 rfl) ?_
    refine lv_iconst (v := 1) hx hb dL_law_254 (by decide) ?_
    refine lv_iadd hx hb dL_law_255 ?_
    refine lv_topi (fun y140017 ey140017 => ?_)
    obtain rfl : y140017 = 1 := by rw [ey140017]; decide
    try clear ey140017
    show W p l e _ s m _ below meth c _ _ _ _ QQ (F0 m 256 ls [.int 1, .ref b, .ref hh])
    refine zsld hx hb hX hbl hbA hS (zvp (by decide)) hx1 dL_law_256 ?_
    refine zro_i hS hA (va_runV (As := [.int x1]) (rest := []) ⟨hx, hb, hml, hown, hall⟩ (c_X11_read_out l dC dI aC hh bb x1 H.size (zslot_0 hk)) (cwV 1 hall (zgV zw_505 zw_507 zw_508 zw_802 g_X11_read rfl) rfl rfl rfl (by decide +kernel) ⟨Nat.le_of_ble_eq_true rfl, Nat.le_of_ble_eq_true rfl⟩) (zPre_V (As := [.int x1]) hK hP hD [0, 1] rfl (by decide +kernel) (ci := 10) (q0 := 0) rfl rfl) rfl rfl hl.1 rfl (lv_room (Nat.le_of_ble_eq_true rfl)) dL_law_257 ⟨Nat.le_of_ble_eq_true rfl, Nat.le_of_ble_eq_true rfl⟩) (fun ra L140018 hw hS' => ?_)
    clear hS
    have hS := hS'
    clear hS'
    have hwa := hw
    clear hw
    refine lv_aload_n hx hb dL_law_260 rfl (lv_at hl 1 rfl) ?_
    refine lv_aload_n hx hb dL_law_261 rfl (lv_at hl 3 rfl) ?_
    refine lv_iload_n hx hb dL_law_262 rfl (lv_at hl 0 rfl) ?_
    show W p l e _ s m _ below meth c _ _ _ _ QQ (F0 m 263 ls [.int 0, .ref b, .ref mm, .int ra])
    refine lv_iconst (v := 1) hx hb dL_law_263 (by decide) ?_
    refine lv_iadd hx hb dL_law_264 ?_
    refine lv_topi (fun y140019 ey140019 => ?_)
    obtain rfl : y140019 = 1 := by rw [ey140019]; decide
    try clear ey140019
    refine zsld hx hb hX hbl hbA hS (zvp (by decide)) hx1 dL_law_265 ?_
    refine zro_i hS hA (vx_runVW (As := [.int x1]) (rest := [.int ra]) ⟨hx, hb, hml, hown, hall⟩ (c_X16_read_out l dC dI aC mm d x1 H.size hk) (vx_cwVW 1 hall (zgV zw_509 zw_510 zw_511 zw_812 g_X16_read rfl) rfl rfl rfl (by decide +kernel) ⟨Nat.le_of_ble_eq_true rfl, Nat.le_of_ble_eq_true rfl⟩) (zPre_V (As := [.int x1]) hK hP hD [2] rfl (by decide +kernel) (ci := 15) (q0 := 0) rfl rfl) rfl rfl hl.1 rfl (lv_room (Nat.le_of_ble_eq_true rfl)) dL_law_266 ⟨Nat.le_of_ble_eq_true rfl, Nat.le_of_ble_eq_true rfl⟩) (fun rb L140020 hw hS' => ?_)
    clear hS
    have hS := hS'
    clear hS'
    have hwb := hw
    clear hw
    refine lv_icmp_eq (tgt := 1443) hx hb dL_law_269 (by decide) (fun _ => ?_) (fun hne => absurd (hwa.trans hwb.symm) hne)
    subst hQ
    subst hAe
    exact law_tail C1 (Nat.le_of_ble_eq_true rfl) (Nat.le_of_ble_eq_true rfl) hS (lv_sub hl [0, 3] rfl)

set_option maxHeartbeats 4000000 in
set_option maxRecDepth 100000 in
theorem law_place {p : Program} {l : Launch} {e : Env} {s : State} {m : MethodId} {below : List Frame} {meth : Method} {c : Code} {b : Nat} {xs : Nat → Int32} {H : Heap} {locs : List Loc} {ls : Array Slot} {dC : Nat → ClassId} {dI : Nat → Nat → Nat} {aC : Nat → ClassId} {hh bb mm d : Nat} (C0 : lw_At p s m meth c b 6 xs) (hK : zK (dC, dI) aC s) (hR : zReady s H dC dI aC hh bb mm d) (hS : va_S (fun q => s.heap.size ≤ q) s.heap H locs) (hl : lv_has ls 4 [(3, .int 0), (2, .ref mm), (1, .ref hh), (0, .ref b)]) : W p l e room_1 s m #[Value.ref b] below meth c H locs 8431 1660372 (lw_Z below #[Value.ref b] s) (F0 m 274 ls []) := by
  have C1 := C0
  obtain ⟨hx, hb, hr, hml, hown0, hts, hX, hbl, hlocks, hgv⟩ := C0
  obtain ⟨hPh, hFh, hPm, hFm, ez1, ez2, ez3, ez4, hz0⟩ := hR
  have hown : s.vm.findClass RL = some m.cls := hown0
  have hall : ∀ w ∈ zAll, w.before #[Value.ref b] s = true := fun w h => hts w (zAll_in w h)
  have hbA : ¬ (fun q : Nat => s.heap.size ≤ q) b := Nat.not_le.mpr hbl
  generalize hAe : (fun q : Nat => s.heap.size ≤ q) = A at hS hbA
  have hA : ∀ q : Nat, s.heap.size ≤ q → A q := fun q h => by rw [← hAe]; exact h
  generalize hQ : lw_Z below #[Value.ref b] s = QQ
  have hP : va_P (dC, dI) vwCl [(hh, .inr (10, [.ref (bb + 0), .ref (bb + 73), .ref (bb + 75), .ref (bb + 76), .ref (bb + 80), .ref (bb + 81), .ref (bb + 88), .ref (bb + 95), .ref (bb + 100), .ref (bb + 106), .int 0, .ref (bb + 107), .int 0])), (bb + 88, .inr (9, [.ref (bb + 81), .ref (bb + 89), .int 0, .ref (bb + 90), .int 0, .ref (bb + 91), .int 0, .ref (bb + 92), .int 0, .ref (bb + 93), .int 0, .int 0, .int 0, .ref (bb + 94), .int 0, .int 0, .int 0, .int 0, .int (-1)])), (mm, .inr (15, [.ref (d + 0), .int 0, .ref (d + 1), .int 0, .ref (d + 2), .ref (d + 3), .ref (d + 68), .ref (d + 77), .ref (d + 78), .int 0, .int 0, .ref (d + 79), .int 0, .int 0, .int 0, .ref (d + 80), .int 0, .int 0, .int 0, .int 0, .ref (d + 81), .ref (d + 82), .int (-1), .ref (d + 91), .int 0, .int 0, .ref (d + 92), .int 0, .ref (d + 93), .int 0, .ref (d + 94), .int 0, .ref (d + 95), .ref (d + 96), .ref (d + 97), .ref (d + 98), .int 0, .int 0, .ref (d + 99), .null, .null, .null, .null, .null, .ref (d + 148), .ref (d + 175), .ref (d + 176), .ref (d + 177), .int 0, .ref (d + 178), .ref (d + 179), .ref (d + 180), .ref (d + 185), .ref (d + 190), .ref (d + 191), .ref (d + 192), .ref (d + 193), .ref (d + 201), .ref (d + 209), .ref (d + 210), .ref (d + 211), .ref (d + 272), .ref (d + 273), .int 0, .ref (d + 274)]))] H := zP_c (hPh 0 _ rfl) (zP_c (hPh 7 _ rfl) (zP_c (hPm 0 _ rfl) (zP_n)))
  have hD : va_D A [(hh, .inr (10, [.ref (bb + 0), .ref (bb + 73), .ref (bb + 75), .ref (bb + 76), .ref (bb + 80), .ref (bb + 81), .ref (bb + 88), .ref (bb + 95), .ref (bb + 100), .ref (bb + 106), .int 0, .ref (bb + 107), .int 0])), (bb + 88, .inr (9, [.ref (bb + 81), .ref (bb + 89), .int 0, .ref (bb + 90), .int 0, .ref (bb + 91), .int 0, .ref (bb + 92), .int 0, .ref (bb + 93), .int 0, .int 0, .int 0, .ref (bb + 94), .int 0, .int 0, .int 0, .int 0, .int (-1)])), (mm, .inr (15, [.ref (d + 0), .int 0, .ref (d + 1), .int 0, .ref (d + 2), .ref (d + 3), .ref (d + 68), .ref (d + 77), .ref (d + 78), .int 0, .int 0, .ref (d + 79), .int 0, .int 0, .int 0, .ref (d + 80), .int 0, .int 0, .int 0, .int 0, .ref (d + 81), .ref (d + 82), .int (-1), .ref (d + 91), .int 0, .int 0, .ref (d + 92), .int 0, .ref (d + 93), .int 0, .ref (d + 94), .int 0, .ref (d + 95), .ref (d + 96), .ref (d + 97), .ref (d + 98), .int 0, .int 0, .ref (d + 99), .null, .null, .null, .null, .null, .ref (d + 148), .ref (d + 175), .ref (d + 176), .ref (d + 177), .int 0, .ref (d + 178), .ref (d + 179), .ref (d + 180), .ref (d + 185), .ref (d + 190), .ref (d + 191), .ref (d + 192), .ref (d + 193), .ref (d + 201), .ref (d + 209), .ref (d + 210), .ref (d + 211), .ref (d + 272), .ref (d + 273), .int 0, .ref (d + 274)]))] := zUp_D (lo := s.heap.size) hA (zUp_c (by omega) (zUp_c (by omega) (zUp_c (by omega) (zUp_n))))
  clear hPh hFh hPm hFm
  refine lv_aload_n hx hb dL_law_274 rfl (lv_at hl 2 rfl) ?_
  refine zro_i hS hA (va_runV (As := []) (rest := []) ⟨hx, hb, hml, hown, hall⟩ (c_X11_place l dC dI aC hh bb H.size) (cwV 0 hall (zgV zw_513 zw_515 zw_516 zw_802 g_X11_place rfl) rfl rfl rfl (by decide +kernel) ⟨Nat.le_of_ble_eq_true rfl, Nat.le_of_ble_eq_true rfl⟩) (zPre_V (As := []) hK hP hD [0, 1] rfl (by decide +kernel) (ci := 10) (q0 := 0) rfl rfl) rfl rfl hl.1 rfl (lv_room (Nat.le_of_ble_eq_true rfl)) dL_law_275 ⟨Nat.le_of_ble_eq_true rfl, Nat.le_of_ble_eq_true rfl⟩) (fun ra L140021 hw hS' => ?_)
  clear hS
  have hS := hS'
  clear hS'
  have hwa := hw
  clear hw
  refine lv_aload_n hx hb dL_law_278 rfl (lv_at hl 1 rfl) ?_
  refine zro_i hS hA (va_runV (As := []) (rest := [.int ra]) ⟨hx, hb, hml, hown, hall⟩ (c_X16_place l dC dI aC mm d H.size) (cwV 0 hall (zgV zw_517 zw_519 zw_520 zw_812 g_X16_place rfl) rfl rfl rfl (by decide +kernel) ⟨Nat.le_of_ble_eq_true rfl, Nat.le_of_ble_eq_true rfl⟩) (zPre_V (As := []) hK hP hD [2] rfl (by decide +kernel) (ci := 15) (q0 := 0) rfl rfl) rfl rfl hl.1 rfl (lv_room (Nat.le_of_ble_eq_true rfl)) dL_law_279 ⟨Nat.le_of_ble_eq_true rfl, Nat.le_of_ble_eq_true rfl⟩) (fun rb L140022 hw hS' => ?_)
  clear hS
  have hS := hS'
  clear hS'
  have hwb := hw
  clear hw
  refine lv_icmp_eq (tgt := 1443) hx hb dL_law_282 (by decide) (fun _ => ?_) (fun hne => absurd (hwa.trans hwb.symm) hne)
  subst hQ
  subst hAe
  exact law_tail C1 (Nat.le_of_ble_eq_true rfl) (Nat.le_of_ble_eq_true rfl) hS (lv_sub hl [0, 3] rfl)

set_option maxHeartbeats 4000000 in
set_option maxRecDepth 100000 in
theorem law_write {p : Program} {l : Launch} {e : Env} {s : State} {m : MethodId} {below : List Frame} {meth : Method} {c : Code} {b : Nat} {xs : Nat → Int32} {H : Heap} {locs : List Loc} {ls : Array Slot} {dC : Nat → ClassId} {dI : Nat → Nat → Nat} {aC : Nat → ClassId} {hh bb mm d : Nat} (C0 : lw_At p s m meth c b 6 xs) (hK : zK (dC, dI) aC s) (hR : zReady s H dC dI aC hh bb mm d) (hS : va_S (fun q => s.heap.size ≤ q) s.heap H locs) (hl : lv_has ls 4 [(3, .int 0), (2, .ref mm), (1, .ref hh), (0, .ref b)]) : W p l e room_1 s m #[Value.ref b] below meth c H locs 8431 1660372 (lw_Z below #[Value.ref b] s) (F0 m 287 ls []) := by
  have C1 := C0
  obtain ⟨hx, hb, hr, hml, hown0, hts, hX, hbl, hlocks, hgv⟩ := C0
  obtain ⟨hPh, hFh, hPm, hFm, ez1, ez2, ez3, ez4, hz0⟩ := hR
  have hown : s.vm.findClass RL = some m.cls := hown0
  have hall : ∀ w ∈ zAll, w.before #[Value.ref b] s = true := fun w h => hts w (zAll_in w h)
  have hbA : ¬ (fun q : Nat => s.heap.size ≤ q) b := Nat.not_le.mpr hbl
  generalize hAe : (fun q : Nat => s.heap.size ≤ q) = A at hS hbA
  have hA : ∀ q : Nat, s.heap.size ≤ q → A q := fun q h => by rw [← hAe]; exact h
  generalize hQ : lw_Z below #[Value.ref b] s = QQ
  obtain ⟨x1, hx1⟩ : ∃ y, xs (1 : Int32).toNatClampNeg = y := ⟨_, rfl⟩
  by_cases hk : zok x1 = true
  · obtain ⟨a1, ea1⟩ : ∃ q, q = bb + (1 + 6 * x1.toNatClampNeg) := ⟨_, rfl⟩
    obtain ⟨a2, ea2⟩ : ∃ q, q = d + (7485 + 9 * x1.toNatClampNeg) := ⟨_, rfl⟩
    have hn12 := zok_12 hk
    have hsl : zslot bb x1 = some a1 := by rw [ea1]; exact zslot_1 hk
    have hSl : va_P (dC, dI) vwCl (zSlotW aC a1) H := by rw [ea1]; exact hFh _ hn12
    have hTh : va_P (dC, dI) vwCl (zThW aC a2) H := by rw [ea2]; exact hFm _ hn12
    have hP : va_P (dC, dI) vwCl [(hh, .inr (10, [.ref (bb + 0), .ref (bb + 73), .ref (bb + 75), .ref (bb + 76), .ref (bb + 80), .ref (bb + 81), .ref (bb + 88), .ref (bb + 95), .ref (bb + 100), .ref (bb + 106), .int 0, .ref (bb + 107), .int 0])), (bb + 0, .inl (aC 3, 12, .inr (.inr (.inr (.inr (zrefs (fun i => bb + (1 + 6 * i)) 12)))))), (a1, .inr (5, [.int 0, .int 0, .int 0, .int 0, .int 0, .int 0, .int 0, .ref (a1 + 1), .ref (a1 + 2), .ref (a1 + 3), .ref (a1 + 4), .ref (a1 + 5)])), (mm, .inr (15, [.ref (d + 0), .int 0, .ref (d + 1), .int 0, .ref (d + 2), .ref (d + 3), .ref (d + 68), .ref (d + 77), .ref (d + 78), .int 0, .int 0, .ref (d + 79), .int 0, .int 0, .int 0, .ref (d + 80), .int 0, .int 0, .int 0, .int 0, .ref (d + 81), .ref (d + 82), .int (-1), .ref (d + 91), .int 0, .int 0, .ref (d + 92), .int 0, .ref (d + 93), .int 0, .ref (d + 94), .int 0, .ref (d + 95), .ref (d + 96), .ref (d + 97), .ref (d + 98), .int 0, .int 0, .ref (d + 99), .null, .null, .null, .null, .null, .ref (d + 148), .ref (d + 175), .ref (d + 176), .ref (d + 177), .int 0, .ref (d + 178), .ref (d + 179), .ref (d + 180), .ref (d + 185), .ref (d + 190), .ref (d + 191), .ref (d + 192), .ref (d + 193), .ref (d + 201), .ref (d + 209), .ref (d + 210), .ref (d + 211), .ref (d + 272), .ref (d + 273), .int 0, .ref (d + 274)])), (d + 81, .inl (aC 6, 12, .inr (.inr (.inr (.inr (zrefs (fun i => d + (7485 + 9 * i)) 12)))))), (a2, .inr (13, [.int 0, .ref (a2 + 1 + 0), .ref (a2 + 1 + 1), .int 0, .int 0, .int 0, .ref (a2 + 1 + 2), .ref (a2 + 1 + 3), .ref (a2 + 1 + 4), .ref (a2 + 1 + 5), .int 0, .ref (a2 + 1 + 6), .int 0, .int 0, .ref (a2 + 1 + 7)]))] H := zP_c (hPh 0 _ rfl) (zP_c (hPh 1 _ rfl) (zP_c (hSl 0 _ rfl) (zP_c (hPm 0 _ rfl) (zP_c (hPm 15 _ rfl) (zP_c (hTh 0 _ rfl) (zP_n))))))
    have hD : va_D A [(hh, .inr (10, [.ref (bb + 0), .ref (bb + 73), .ref (bb + 75), .ref (bb + 76), .ref (bb + 80), .ref (bb + 81), .ref (bb + 88), .ref (bb + 95), .ref (bb + 100), .ref (bb + 106), .int 0, .ref (bb + 107), .int 0])), (bb + 0, .inl (aC 3, 12, .inr (.inr (.inr (.inr (zrefs (fun i => bb + (1 + 6 * i)) 12)))))), (a1, .inr (5, [.int 0, .int 0, .int 0, .int 0, .int 0, .int 0, .int 0, .ref (a1 + 1), .ref (a1 + 2), .ref (a1 + 3), .ref (a1 + 4), .ref (a1 + 5)])), (mm, .inr (15, [.ref (d + 0), .int 0, .ref (d + 1), .int 0, .ref (d + 2), .ref (d + 3), .ref (d + 68), .ref (d + 77), .ref (d + 78), .int 0, .int 0, .ref (d + 79), .int 0, .int 0, .int 0, .ref (d + 80), .int 0, .int 0, .int 0, .int 0, .ref (d + 81), .ref (d + 82), .int (-1), .ref (d + 91), .int 0, .int 0, .ref (d + 92), .int 0, .ref (d + 93), .int 0, .ref (d + 94), .int 0, .ref (d + 95), .ref (d + 96), .ref (d + 97), .ref (d + 98), .int 0, .int 0, .ref (d + 99), .null, .null, .null, .null, .null, .ref (d + 148), .ref (d + 175), .ref (d + 176), .ref (d + 177), .int 0, .ref (d + 178), .ref (d + 179), .ref (d + 180), .ref (d + 185), .ref (d + 190), .ref (d + 191), .ref (d + 192), .ref (d + 193), .ref (d + 201), .ref (d + 209), .ref (d + 210), .ref (d + 211), .ref (d + 272), .ref (d + 273), .int 0, .ref (d + 274)])), (d + 81, .inl (aC 6, 12, .inr (.inr (.inr (.inr (zrefs (fun i => d + (7485 + 9 * i)) 12)))))), (a2, .inr (13, [.int 0, .ref (a2 + 1 + 0), .ref (a2 + 1 + 1), .int 0, .int 0, .int 0, .ref (a2 + 1 + 2), .ref (a2 + 1 + 3), .ref (a2 + 1 + 4), .ref (a2 + 1 + 5), .int 0, .ref (a2 + 1 + 6), .int 0, .int 0, .ref (a2 + 1 + 7)]))] := zUp_D (lo := s.heap.size) hA (zUp_c (by omega) (zUp_c (by omega) (zUp_c (by omega) (zUp_c (by omega) (zUp_c (by omega) (zUp_c (by omega) (zUp_n)))))))
    clear hPh hFh hPm hFm hSl hTh
    refine lv_aload_n hx hb dL_law_287 rfl (lv_at hl 2 rfl) ?_
    refine lv_aload_n hx hb dL_law_288 rfl (lv_at hl 3 rfl) ?_
    refine lv_iload_n hx hb dL_law_289 rfl (lv_at hl 0 rfl) ?_
    refine lv_iconst (v := 1) hx hb dL_law_290 (by decide) ?_
    refine lv_iadd hx hb dL_law_291 ?_
    refine lv_topi (fun y140023 ey140023 => ?_)
    obtain rfl : y140023 = 1 := by rw [ey140023]; decide
    try clear ey140023
    show W p l e _ s m _ below meth c _ _ _ _ QQ (F0 m 292 ls [.int 1, .ref b, .ref hh])
    refine zsld hx hb hX hbl hbA hS (zvp (by decide)) hx1 dL_law_292 ?_
    refine zro_i hS hA (va_runV (As := [.int x1]) (rest := []) ⟨hx, hb, hml, hown, hall⟩ (c_X11_write_in l dC dI aC hh bb a1 x1 H.size hsl) (cwV 1 hall (zgV zw_521 zw_523 zw_524 zw_802 g_X11_write rfl) rfl rfl rfl (by decide +kernel) ⟨Nat.le_of_ble_eq_true rfl, Nat.le_of_ble_eq_true rfl⟩) (zPre_V (As := [.int x1]) hK hP hD [0, 1, 2] rfl (by decide +kernel) (ci := 10) (q0 := 0) rfl rfl) rfl rfl hl.1 rfl (lv_room (Nat.le_of_ble_eq_true rfl)) dL_law_293 ⟨Nat.le_of_ble_eq_true rfl, Nat.le_of_ble_eq_true rfl⟩) (fun ra L140024 hw hS' => ?_)
    clear hS
    have hS := hS'
    clear hS'
    have hwa := hw
    clear hw
    refine lv_aload_n hx hb dL_law_296 rfl (lv_at hl 1 rfl) ?_
    refine lv_aload_n hx hb dL_law_297 rfl (lv_at hl 3 rfl) ?_
    refine lv_iload_n hx hb dL_law_298 rfl (lv_at hl 0 rfl) ?_
    show W p l e _ s m _ below meth c _ _ _ _ QQ (F0 m 299 ls [.int 0, .ref b, .ref mm, .int ra])
    refine lv_iconst (v := 1) hx hb dL_law_299 (by decide) ?_
    refine lv_iadd hx hb dL_law_300 ?_
    refine lv_topi (fun y140025 ey140025 => ?_)
    obtain rfl : y140025 = 1 := by rw [ey140025]; decide
    try clear ey140025
    refine zsld hx hb hX hbl hbA hS (zvp (by decide)) hx1 dL_law_301 ?_
    refine zro_i hS hA (va_runV (As := [.int x1]) (rest := [.int ra]) ⟨hx, hb, hml, hown, hall⟩ (c_X16_write_in l dC dI aC mm d a2 x1 H.size hk ea2) (cwV 1 hall (zgV zw_525 zw_527 zw_528 zw_812 g_X16_write rfl) rfl rfl rfl (by decide +kernel) ⟨Nat.le_of_ble_eq_true rfl, Nat.le_of_ble_eq_true rfl⟩) (zPre_V (As := [.int x1]) hK hP hD [3, 4, 5] rfl (by decide +kernel) (ci := 15) (q0 := 0) rfl rfl) rfl rfl hl.1 rfl (lv_room (Nat.le_of_ble_eq_true rfl)) dL_law_302 ⟨Nat.le_of_ble_eq_true rfl, Nat.le_of_ble_eq_true rfl⟩) (fun rb L140026 hw hS' => ?_)
    clear hS
    have hS := hS'
    clear hS'
    have hwb := hw
    clear hw
    refine lv_icmp_eq (tgt := 1443) hx hb dL_law_305 (by decide) (fun _ => ?_) (fun hne => absurd (hwa.trans hwb.symm) hne)
    subst hQ
    subst hAe
    exact law_tail C1 (Nat.le_of_ble_eq_true rfl) (Nat.le_of_ble_eq_true rfl) hS (lv_sub hl [0, 3] rfl)
  · have hP : va_P (dC, dI) vwCl [(hh, .inr (10, [.ref (bb + 0), .ref (bb + 73), .ref (bb + 75), .ref (bb + 76), .ref (bb + 80), .ref (bb + 81), .ref (bb + 88), .ref (bb + 95), .ref (bb + 100), .ref (bb + 106), .int 0, .ref (bb + 107), .int 0])), (bb + 0, .inl (aC 3, 12, .inr (.inr (.inr (.inr (zrefs (fun i => bb + (1 + 6 * i)) 12)))))), (mm, .inr (15, [.ref (d + 0), .int 0, .ref (d + 1), .int 0, .ref (d + 2), .ref (d + 3), .ref (d + 68), .ref (d + 77), .ref (d + 78), .int 0, .int 0, .ref (d + 79), .int 0, .int 0, .int 0, .ref (d + 80), .int 0, .int 0, .int 0, .int 0, .ref (d + 81), .ref (d + 82), .int (-1), .ref (d + 91), .int 0, .int 0, .ref (d + 92), .int 0, .ref (d + 93), .int 0, .ref (d + 94), .int 0, .ref (d + 95), .ref (d + 96), .ref (d + 97), .ref (d + 98), .int 0, .int 0, .ref (d + 99), .null, .null, .null, .null, .null, .ref (d + 148), .ref (d + 175), .ref (d + 176), .ref (d + 177), .int 0, .ref (d + 178), .ref (d + 179), .ref (d + 180), .ref (d + 185), .ref (d + 190), .ref (d + 191), .ref (d + 192), .ref (d + 193), .ref (d + 201), .ref (d + 209), .ref (d + 210), .ref (d + 211), .ref (d + 272), .ref (d + 273), .int 0, .ref (d + 274)])), (d + 81, .inl (aC 6, 12, .inr (.inr (.inr (.inr (zrefs (fun i => d + (7485 + 9 * i)) 12))))))] H := zP_c (hPh 0 _ rfl) (zP_c (hPh 1 _ rfl) (zP_c (hPm 0 _ rfl) (zP_c (hPm 15 _ rfl) (zP_n))))
    have hD : va_D A [(hh, .inr (10, [.ref (bb + 0), .ref (bb + 73), .ref (bb + 75), .ref (bb + 76), .ref (bb + 80), .ref (bb + 81), .ref (bb + 88), .ref (bb + 95), .ref (bb + 100), .ref (bb + 106), .int 0, .ref (bb + 107), .int 0])), (bb + 0, .inl (aC 3, 12, .inr (.inr (.inr (.inr (zrefs (fun i => bb + (1 + 6 * i)) 12)))))), (mm, .inr (15, [.ref (d + 0), .int 0, .ref (d + 1), .int 0, .ref (d + 2), .ref (d + 3), .ref (d + 68), .ref (d + 77), .ref (d + 78), .int 0, .int 0, .ref (d + 79), .int 0, .int 0, .int 0, .ref (d + 80), .int 0, .int 0, .int 0, .int 0, .ref (d + 81), .ref (d + 82), .int (-1), .ref (d + 91), .int 0, .int 0, .ref (d + 92), .int 0, .ref (d + 93), .int 0, .ref (d + 94), .int 0, .ref (d + 95), .ref (d + 96), .ref (d + 97), .ref (d + 98), .int 0, .int 0, .ref (d + 99), .null, .null, .null, .null, .null, .ref (d + 148), .ref (d + 175), .ref (d + 176), .ref (d + 177), .int 0, .ref (d + 178), .ref (d + 179), .ref (d + 180), .ref (d + 185), .ref (d + 190), .ref (d + 191), .ref (d + 192), .ref (d + 193), .ref (d + 201), .ref (d + 209), .ref (d + 210), .ref (d + 211), .ref (d + 272), .ref (d + 273), .int 0, .ref (d + 274)])), (d + 81, .inl (aC 6, 12, .inr (.inr (.inr (.inr (zrefs (fun i => d + (7485 + 9 * i)) 12))))))] := zUp_D (lo := s.heap.size) hA (zUp_c (by omega) (zUp_c (by omega) (zUp_c (by omega) (zUp_c (by omega) (zUp_n)))))
    clear hPh hFh hPm hFm
    refine lv_aload_n hx hb dL_law_287 rfl (lv_at hl 2 rfl) ?_
    refine lv_aload_n hx hb dL_law_288 rfl (lv_at hl 3 rfl) ?_
    refine lv_iload_n hx hb dL_law_289 rfl (lv_at hl 0 rfl) ?_
    refine lv_iconst (v := 1) hx hb dL_law_290 (by decide) ?_
    refine lv_iadd hx hb dL_law_291 ?_
    refine lv_topi (fun y140027 ey140027 => ?_)
    obtain rfl : y140027 = 1 := by rw [ey140027]; decide
    try clear ey140027
    show W p l e _ s m _ below meth c _ _ _ _ QQ (F0 m 292 ls [.int 1, .ref b, .ref hh])
    refine zsld hx hb hX hbl hbA hS (zvp (by decide)) hx1 dL_law_292 ?_
    refine zro_i hS hA (va_runV (As := [.int x1]) (rest := []) ⟨hx, hb, hml, hown, hall⟩ (c_X11_write_out l dC dI aC hh bb x1 H.size (zslot_0 hk)) (cwV 1 hall (zgV zw_521 zw_523 zw_524 zw_802 g_X11_write rfl) rfl rfl rfl (by decide +kernel) ⟨Nat.le_of_ble_eq_true rfl, Nat.le_of_ble_eq_true rfl⟩) (zPre_V (As := [.int x1]) hK hP hD [0, 1] rfl (by decide +kernel) (ci := 10) (q0 := 0) rfl rfl) rfl rfl hl.1 rfl (lv_room (Nat.le_of_ble_eq_true rfl)) dL_law_293 ⟨Nat.le_of_ble_eq_true rfl, Nat.le_of_ble_eq_true rfl⟩) (fun ra L140028 hw hS' => ?_)
    clear hS
    have hS := hS'
    clear hS'
    have hwa := hw
    clear hw
    refine lv_aload_n hx hb dL_law_296 rfl (lv_at hl 1 rfl) ?_
    refine lv_aload_n hx hb dL_law_297 rfl (lv_at hl 3 rfl) ?_
    refine lv_iload_n hx hb dL_law_298 rfl (lv_at hl 0 rfl) ?_
    show W p l e _ s m _ below meth c _ _ _ _ QQ (F0 m 299 ls [.int 0, .ref b, .ref mm, .int ra])
    refine lv_iconst (v := 1) hx hb dL_law_299 (by decide) ?_
    refine lv_iadd hx hb dL_law_300 ?_
    refine lv_topi (fun y140029 ey140029 => ?_)
    obtain rfl : y140029 = 1 := by rw [ey140029]; decide
    try clear ey140029
    refine zsld hx hb hX hbl hbA hS (zvp (by decide)) hx1 dL_law_301 ?_
    refine zro_i hS hA (va_runV (As := [.int x1]) (rest := [.int ra]) ⟨hx, hb, hml, hown, hall⟩ (c_X16_write_out l dC dI aC mm d x1 H.size hk) (cwV 1 hall (zgV zw_525 zw_527 zw_528 zw_812 g_X16_write rfl) rfl rfl rfl (by decide +kernel) ⟨Nat.le_of_ble_eq_true rfl, Nat.le_of_ble_eq_true rfl⟩) (zPre_V (As := [.int x1]) hK hP hD [2, 3] rfl (by decide +kernel) (ci := 15) (q0 := 0) rfl rfl) rfl rfl hl.1 rfl (lv_room (Nat.le_of_ble_eq_true rfl)) dL_law_302 ⟨Nat.le_of_ble_eq_true rfl, Nat.le_of_ble_eq_true rfl⟩) (fun rb L140030 hw hS' => ?_)
    clear hS
    have hS := hS'
    clear hS'
    have hwb := hw
    clear hw
    refine lv_icmp_eq (tgt := 1443) hx hb dL_law_305 (by decide) (fun _ => ?_) (fun hne => absurd (hwa.trans hwb.symm) hne)
    subst hQ
    subst hAe
    exact law_tail C1 (Nat.le_of_ble_eq_true rfl) (Nat.le_of_ble_eq_true rfl) hS (lv_sub hl [0, 3] rfl)

set_option maxHeartbeats 4000000 in
set_option maxRecDepth 100000 in
theorem law_written {p : Program} {l : Launch} {e : Env} {s : State} {m : MethodId} {below : List Frame} {meth : Method} {c : Code} {b : Nat} {xs : Nat → Int32} {H : Heap} {locs : List Loc} {ls : Array Slot} {dC : Nat → ClassId} {dI : Nat → Nat → Nat} {aC : Nat → ClassId} {hh bb mm d : Nat} (C0 : lw_At p s m meth c b 6 xs) (hK : zK (dC, dI) aC s) (hR : zReady s H dC dI aC hh bb mm d) (hS : va_S (fun q => s.heap.size ≤ q) s.heap H locs) (hl : lv_has ls 4 [(3, .int 0), (2, .ref mm), (1, .ref hh), (0, .ref b)]) : W p l e room_1 s m #[Value.ref b] below meth c H locs 8431 1660372 (lw_Z below #[Value.ref b] s) (F0 m 310 ls []) := by
  have C1 := C0
  obtain ⟨hx, hb, hr, hml, hown0, hts, hX, hbl, hlocks, hgv⟩ := C0
  obtain ⟨hPh, hFh, hPm, hFm, ez1, ez2, ez3, ez4, hz0⟩ := hR
  have hown : s.vm.findClass RL = some m.cls := hown0
  have hall : ∀ w ∈ zAll, w.before #[Value.ref b] s = true := fun w h => hts w (zAll_in w h)
  have hbA : ¬ (fun q : Nat => s.heap.size ≤ q) b := Nat.not_le.mpr hbl
  generalize hAe : (fun q : Nat => s.heap.size ≤ q) = A at hS hbA
  have hA : ∀ q : Nat, s.heap.size ≤ q → A q := fun q h => by rw [← hAe]; exact h
  generalize hQ : lw_Z below #[Value.ref b] s = QQ
  obtain ⟨x1, hx1⟩ : ∃ y, xs (1 : Int32).toNatClampNeg = y := ⟨_, rfl⟩
  have hP : va_P (dC, dI) vwCl [(hh, .inr (10, [.ref (bb + 0), .ref (bb + 73), .ref (bb + 75), .ref (bb + 76), .ref (bb + 80), .ref (bb + 81), .ref (bb + 88), .ref (bb + 95), .ref (bb + 100), .ref (bb + 106), .int 0, .ref (bb + 107), .int 0])), (bb + 88, .inr (9, [.ref (bb + 81), .ref (bb + 89), .int 0, .ref (bb + 90), .int 0, .ref (bb + 91), .int 0, .ref (bb + 92), .int 0, .ref (bb + 93), .int 0, .int 0, .int 0, .ref (bb + 94), .int 0, .int 0, .int 0, .int 0, .int (-1)])), (mm, .inr (15, [.ref (d + 0), .int 0, .ref (d + 1), .int 0, .ref (d + 2), .ref (d + 3), .ref (d + 68), .ref (d + 77), .ref (d + 78), .int 0, .int 0, .ref (d + 79), .int 0, .int 0, .int 0, .ref (d + 80), .int 0, .int 0, .int 0, .int 0, .ref (d + 81), .ref (d + 82), .int (-1), .ref (d + 91), .int 0, .int 0, .ref (d + 92), .int 0, .ref (d + 93), .int 0, .ref (d + 94), .int 0, .ref (d + 95), .ref (d + 96), .ref (d + 97), .ref (d + 98), .int 0, .int 0, .ref (d + 99), .null, .null, .null, .null, .null, .ref (d + 148), .ref (d + 175), .ref (d + 176), .ref (d + 177), .int 0, .ref (d + 178), .ref (d + 179), .ref (d + 180), .ref (d + 185), .ref (d + 190), .ref (d + 191), .ref (d + 192), .ref (d + 193), .ref (d + 201), .ref (d + 209), .ref (d + 210), .ref (d + 211), .ref (d + 272), .ref (d + 273), .int 0, .ref (d + 274)]))] H := zP_c (hPh 0 _ rfl) (zP_c (hPh 7 _ rfl) (zP_c (hPm 0 _ rfl) (zP_n)))
  have hD : va_D A [(hh, .inr (10, [.ref (bb + 0), .ref (bb + 73), .ref (bb + 75), .ref (bb + 76), .ref (bb + 80), .ref (bb + 81), .ref (bb + 88), .ref (bb + 95), .ref (bb + 100), .ref (bb + 106), .int 0, .ref (bb + 107), .int 0])), (bb + 88, .inr (9, [.ref (bb + 81), .ref (bb + 89), .int 0, .ref (bb + 90), .int 0, .ref (bb + 91), .int 0, .ref (bb + 92), .int 0, .ref (bb + 93), .int 0, .int 0, .int 0, .ref (bb + 94), .int 0, .int 0, .int 0, .int 0, .int (-1)])), (mm, .inr (15, [.ref (d + 0), .int 0, .ref (d + 1), .int 0, .ref (d + 2), .ref (d + 3), .ref (d + 68), .ref (d + 77), .ref (d + 78), .int 0, .int 0, .ref (d + 79), .int 0, .int 0, .int 0, .ref (d + 80), .int 0, .int 0, .int 0, .int 0, .ref (d + 81), .ref (d + 82), .int (-1), .ref (d + 91), .int 0, .int 0, .ref (d + 92), .int 0, .ref (d + 93), .int 0, .ref (d + 94), .int 0, .ref (d + 95), .ref (d + 96), .ref (d + 97), .ref (d + 98), .int 0, .int 0, .ref (d + 99), .null, .null, .null, .null, .null, .ref (d + 148), .ref (d + 175), .ref (d + 176), .ref (d + 177), .int 0, .ref (d + 178), .ref (d + 179), .ref (d + 180), .ref (d + 185), .ref (d + 190), .ref (d + 191), .ref (d + 192), .ref (d + 193), .ref (d + 201), .ref (d + 209), .ref (d + 210), .ref (d + 211), .ref (d + 272), .ref (d + 273), .int 0, .ref (d + 274)]))] := zUp_D (lo := s.heap.size) hA (zUp_c (by omega) (zUp_c (by omega) (zUp_c (by omega) (zUp_n))))
  clear hPh hFh hPm hFm
  refine lv_aload_n hx hb dL_law_310 rfl (lv_at hl 2 rfl) ?_
  refine lv_aload_n hx hb dL_law_311 rfl (lv_at hl 3 rfl) ?_
  refine lv_iload_n hx hb dL_law_312 rfl (lv_at hl 0 rfl) ?_
  refine lv_iconst (v := 1) hx hb dL_law_313 (by decide) ?_
  refine lv_iadd hx hb dL_law_314 ?_
  refine lv_topi (fun y140031 ey140031 => ?_)
  obtain rfl : y140031 = 1 := by rw [ey140031]; decide
  try clear ey140031
  show W p l e _ s m _ below meth c _ _ _ _ QQ (F0 m 315 ls [.int 1, .ref b, .ref hh])
  refine zsld hx hb hX hbl hbA hS (zvp (by decide)) hx1 dL_law_315 ?_
  refine zro_i hS hA (va_runV (As := [.int x1]) (rest := []) ⟨hx, hb, hml, hown, hall⟩ (c_X11_written l dC dI aC hh bb x1 H.size) (cwV 1 hall (zgV zw_529 zw_531 zw_532 zw_802 g_X11_written rfl) rfl rfl rfl (by decide +kernel) ⟨Nat.le_of_ble_eq_true rfl, Nat.le_of_ble_eq_true rfl⟩) (zPre_V (As := [.int x1]) hK hP hD [0, 1] rfl (by decide +kernel) (ci := 10) (q0 := 0) rfl rfl) rfl rfl hl.1 rfl (lv_room (Nat.le_of_ble_eq_true rfl)) dL_law_316 ⟨Nat.le_of_ble_eq_true rfl, Nat.le_of_ble_eq_true rfl⟩) (fun ra L140032 hw hS' => ?_)
  clear hS
  have hS := hS'
  clear hS'
  have hwa := hw
  clear hw
  refine lv_aload_n hx hb dL_law_319 rfl (lv_at hl 1 rfl) ?_
  refine lv_aload_n hx hb dL_law_320 rfl (lv_at hl 3 rfl) ?_
  refine lv_iload_n hx hb dL_law_321 rfl (lv_at hl 0 rfl) ?_
  show W p l e _ s m _ below meth c _ _ _ _ QQ (F0 m 322 ls [.int 0, .ref b, .ref mm, .int ra])
  refine lv_iconst (v := 1) hx hb dL_law_322 (by decide) ?_
  refine lv_iadd hx hb dL_law_323 ?_
  refine lv_topi (fun y140033 ey140033 => ?_)
  obtain rfl : y140033 = 1 := by rw [ey140033]; decide
  try clear ey140033
  refine zsld hx hb hX hbl hbA hS (zvp (by decide)) hx1 dL_law_324 ?_
  refine zro_i hS hA (va_runV (As := [.int x1]) (rest := [.int ra]) ⟨hx, hb, hml, hown, hall⟩ (c_X16_written l dC dI aC mm d x1 H.size) (cwV 1 hall (zgV zw_533 zw_535 zw_536 zw_812 g_X16_written rfl) rfl rfl rfl (by decide +kernel) ⟨Nat.le_of_ble_eq_true rfl, Nat.le_of_ble_eq_true rfl⟩) (zPre_V (As := [.int x1]) hK hP hD [2] rfl (by decide +kernel) (ci := 15) (q0 := 0) rfl rfl) rfl rfl hl.1 rfl (lv_room (Nat.le_of_ble_eq_true rfl)) dL_law_325 ⟨Nat.le_of_ble_eq_true rfl, Nat.le_of_ble_eq_true rfl⟩) (fun rb L140034 hw hS' => ?_)
  clear hS
  have hS := hS'
  clear hS'
  have hwb := hw
  clear hw
  refine lv_icmp_eq (tgt := 1443) hx hb dL_law_328 (by decide) (fun _ => ?_) (fun hne => absurd (hwa.trans hwb.symm) hne)
  subst hQ
  subst hAe
  exact law_tail C1 (Nat.le_of_ble_eq_true rfl) (Nat.le_of_ble_eq_true rfl) hS (lv_sub hl [0, 3] rfl)
