theorem lg_cmp_self (x : Int64) : lg_cmp x x = 0 := by rw [cmpS.2.2.1]
theorem law_0 {G : xG} {p : Program} {e : Env} {s : State} {m : MethodId} {below : List Frame} {meth : Method} {c : Code} {b L : Nat} {xs : Nat → Int32} {H : Heap} {locs : List Loc} {ls : Array Slot} {i : Nat} {mm : xM} (C : LX G p s m meth c b L xs) (hl : lv_has ls 4 (lawL G b i)) (hi : 6 * i + 6 ≤ L) (hR : REL mm) (hP : va_P G.2.1 xcl (wl G mm) H) (hS : va_S (xA G) s.heap H locs) (kk : ∀ m' H1 locs1, REL m' → va_P G.2.1 xcl (wl G m') H1 → va_S (xA G) s.heap H1 locs1 → LW G p e s m below meth c b H1 locs1 1175 ls []) : LW G p e s m below meth c b H locs 168 ls [] := by
  have hx := C.1.1
  have hb := C.1.2.1
  have hown := C.1.2.2.2.2.1
  have hts0 := C.1.2.2.2.2.2.1
  refine lv_aload_n hx hb dl_168 rfl (lv_at hl 1 rfl) ?_
  refine sc_ld C hl hS (k := 1) (by decide) hi rfl dl_169 dl_170 dl_171 dl_172 dl_173 ?_
  refine sc_ld C hl hS (k := 2) (by decide) hi rfl dl_174 dl_175 dl_176 dl_177 dl_178 ?_
  refine sc_ld C hl hS (k := 3) (by decide) hi rfl dl_179 dl_180 dl_181 dl_182 dl_183 ?_
  refine law_call C (y := 9) (o := 0) (as := [.int (xs (6 * i + 1)), .int (xs (6 * i + 2)), .int (xs (6 * i + 3))]) (rest := []) (Q1 := (fun r m1 => ∃ rv, r = some (.long rv) ∧ MID G 146 (.ref 86 :: [.int (xs (6 * i + 1)), .int (xs (6 * i + 2)), .int (xs (6 * i + 3))]) (.long rv) m1)) hl.1 hP hS (q4 := 373) (by decide +kernel) (by decide +kernel) ⟨7, _, rfl, rfl, by decide +kernel⟩ ((rfl : _ = 3).trans (by decide +kernel : (3 : Nat) = (xe 9).2.2.2.2.2.2.1)) (by decide +kernel) (by show wt [] ≤ 8; decide) dl_184 (p9 hR (xs (6 * i + 1)) (xs (6 * i + 2)) (xs (6 * i + 3)) (fun rv m1 hm => ⟨rv, rfl, hm⟩)) (fun r m1 H1 locs1 hq hP hS => ?_)
  obtain ⟨rv, hrv, hm⟩ := hq
  subst hrv
  refine lv_aload_n hx hb dl_187 rfl (lv_at hl 2 rfl) ?_
  refine sc_ld C hl hS (k := 1) (by decide) hi rfl dl_188 dl_189 dl_190 dl_191 dl_192 ?_
  refine sc_ld C hl hS (k := 2) (by decide) hi rfl dl_193 dl_194 dl_195 dl_196 dl_197 ?_
  refine sc_ld C hl hS (k := 3) (by decide) hi rfl dl_198 dl_199 dl_200 dl_201 dl_202 ?_
  refine law_call C (y := 146) (o := 86) (as := [.int (xs (6 * i + 1)), .int (xs (6 * i + 2)), .int (xs (6 * i + 3))]) (rest := [.long rv]) (Q1 := fun r m2 => r = some (.long rv) ∧ REL m2) hl.1 hP hS (q4 := 1039) (by decide +kernel) (by decide +kernel) ⟨8, _, rfl, rfl, by decide +kernel⟩ ((rfl : _ = 3).trans (by decide +kernel : (3 : Nat) = (xe 146).2.2.2.2.2.2.1)) (by decide +kernel) (by show wt [.long rv] ≤ 8; exact Nat.le_of_ble_eq_true rfl) dl_203 (hm _ (fun m2 h => ⟨rfl, h⟩)) (fun r m2 H2 locs2 hq hP hS => ?_)
  obtain ⟨hrv, hR2⟩ := hq
  subst hrv
  refine W.lcmp hx hb dl_206 ?_
  refine lv_if_eq (tgt := 1175) hx hb dl_207 (by decide) (fun _ => kk m2 H2 locs2 hR2 hP hS) (fun z => absurd (lg_cmp_self rv) z)
theorem law_1 {G : xG} {p : Program} {e : Env} {s : State} {m : MethodId} {below : List Frame} {meth : Method} {c : Code} {b L : Nat} {xs : Nat → Int32} {H : Heap} {locs : List Loc} {ls : Array Slot} {i : Nat} {mm : xM} (C : LX G p s m meth c b L xs) (hl : lv_has ls 4 (lawL G b i)) (hi : 6 * i + 6 ≤ L) (hR : REL mm) (hP : va_P G.2.1 xcl (wl G mm) H) (hS : va_S (xA G) s.heap H locs) (kk : ∀ m' H1 locs1, REL m' → va_P G.2.1 xcl (wl G m') H1 → va_S (xA G) s.heap H1 locs1 → LW G p e s m below meth c b H1 locs1 1175 ls []) : LW G p e s m below meth c b H locs 212 ls [] := by
  have hx := C.1.1
  have hb := C.1.2.1
  have hown := C.1.2.2.2.2.1
  have hts0 := C.1.2.2.2.2.2.1
  refine lv_aload_n hx hb dl_212 rfl (lv_at hl 1 rfl) ?_
  refine sc_ld C hl hS (k := 1) (by decide) hi rfl dl_213 dl_214 dl_215 dl_216 dl_217 ?_
  refine sc_ld C hl hS (k := 2) (by decide) hi rfl dl_218 dl_219 dl_220 dl_221 dl_222 ?_
  refine sc_ld C hl hS (k := 3) (by decide) hi rfl dl_223 dl_224 dl_225 dl_226 dl_227 ?_
  refine law_call C (y := 14) (o := 0) (as := [.int (xs (6 * i + 1)), .int (xs (6 * i + 2)), .int (xs (6 * i + 3))]) (rest := []) (Q1 := (fun r m1 => ∃ rv, r = some (.long rv) ∧ MID G 150 (.ref 86 :: [.int (xs (6 * i + 1)), .int (xs (6 * i + 2)), .int (xs (6 * i + 3))]) (.long rv) m1)) hl.1 hP hS (q4 := 394) (by decide +kernel) (by decide +kernel) ⟨7, _, rfl, rfl, by decide +kernel⟩ ((rfl : _ = 3).trans (by decide +kernel : (3 : Nat) = (xe 14).2.2.2.2.2.2.1)) (by decide +kernel) (by show wt [] ≤ 8; decide) dl_228 (p14 hR (xs (6 * i + 1)) (xs (6 * i + 2)) (xs (6 * i + 3)) (fun rv m1 hm => ⟨rv, rfl, hm⟩)) (fun r m1 H1 locs1 hq hP hS => ?_)
  obtain ⟨rv, hrv, hm⟩ := hq
  subst hrv
  refine lv_aload_n hx hb dl_231 rfl (lv_at hl 2 rfl) ?_
  refine sc_ld C hl hS (k := 1) (by decide) hi rfl dl_232 dl_233 dl_234 dl_235 dl_236 ?_
  refine sc_ld C hl hS (k := 2) (by decide) hi rfl dl_237 dl_238 dl_239 dl_240 dl_241 ?_
  refine sc_ld C hl hS (k := 3) (by decide) hi rfl dl_242 dl_243 dl_244 dl_245 dl_246 ?_
  refine law_call C (y := 150) (o := 86) (as := [.int (xs (6 * i + 1)), .int (xs (6 * i + 2)), .int (xs (6 * i + 3))]) (rest := [.long rv]) (Q1 := fun r m2 => r = some (.long rv) ∧ REL m2) hl.1 hP hS (q4 := 1057) (by decide +kernel) (by decide +kernel) ⟨8, _, rfl, rfl, by decide +kernel⟩ ((rfl : _ = 3).trans (by decide +kernel : (3 : Nat) = (xe 150).2.2.2.2.2.2.1)) (by decide +kernel) (by show wt [.long rv] ≤ 8; exact Nat.le_of_ble_eq_true rfl) dl_247 (hm _ (fun m2 h => ⟨rfl, h⟩)) (fun r m2 H2 locs2 hq hP hS => ?_)
  obtain ⟨hrv, hR2⟩ := hq
  subst hrv
  refine W.lcmp hx hb dl_250 ?_
  refine lv_if_eq (tgt := 1175) hx hb dl_251 (by decide) (fun _ => kk m2 H2 locs2 hR2 hP hS) (fun z => absurd (lg_cmp_self rv) z)
theorem law_2 {G : xG} {p : Program} {e : Env} {s : State} {m : MethodId} {below : List Frame} {meth : Method} {c : Code} {b L : Nat} {xs : Nat → Int32} {H : Heap} {locs : List Loc} {ls : Array Slot} {i : Nat} {mm : xM} (C : LX G p s m meth c b L xs) (hl : lv_has ls 4 (lawL G b i)) (hi : 6 * i + 6 ≤ L) (hR : REL mm) (hP : va_P G.2.1 xcl (wl G mm) H) (hS : va_S (xA G) s.heap H locs) (kk : ∀ m' H1 locs1, REL m' → va_P G.2.1 xcl (wl G m') H1 → va_S (xA G) s.heap H1 locs1 → LW G p e s m below meth c b H1 locs1 1175 ls []) : LW G p e s m below meth c b H locs 256 ls [] := by
  have hx := C.1.1
  have hb := C.1.2.1
  have hown := C.1.2.2.2.2.1
  have hts0 := C.1.2.2.2.2.2.1
  refine lv_aload_n hx hb dl_256 rfl (lv_at hl 1 rfl) ?_
  refine sc_ld C hl hS (k := 1) (by decide) hi rfl dl_257 dl_258 dl_259 dl_260 dl_261 ?_
  refine sc_ld C hl hS (k := 2) (by decide) hi rfl dl_262 dl_263 dl_264 dl_265 dl_266 ?_
  refine sc_ld C hl hS (k := 3) (by decide) hi rfl dl_267 dl_268 dl_269 dl_270 dl_271 ?_
  refine sc_ld C hl hS (k := 4) (by decide) hi rfl dl_272 dl_273 dl_274 dl_275 dl_276 ?_
  refine sc_ld C hl hS (k := 5) (by decide) hi rfl dl_277 dl_278 dl_279 dl_280 dl_281 ?_
  refine law_call C (y := 17) (o := 0) (as := [.int (xs (6 * i + 1)), .int (xs (6 * i + 2)), .int (xs (6 * i + 3)), .int (xs (6 * i + 4)), .int (xs (6 * i + 5))]) (rest := []) (Q1 := (fun r m1 => ∃ rv, r = some (.long rv) ∧ MID G 151 (.ref 86 :: [.int (xs (6 * i + 1)), .int (xs (6 * i + 2)), .int (xs (6 * i + 3)), .int (xs (6 * i + 4)), .int (xs (6 * i + 5))]) (.long rv) m1)) hl.1 hP hS (q4 := 406) (by decide +kernel) (by decide +kernel) ⟨7, _, rfl, rfl, by decide +kernel⟩ ((rfl : _ = 5).trans (by decide +kernel : (5 : Nat) = (xe 17).2.2.2.2.2.2.1)) (by decide +kernel) (by show wt [] ≤ 8; decide) dl_282 (p17 hR (xs (6 * i + 1)) (xs (6 * i + 2)) (xs (6 * i + 3)) (xs (6 * i + 4)) (xs (6 * i + 5)) (fun rv m1 hm => ⟨rv, rfl, hm⟩)) (fun r m1 H1 locs1 hq hP hS => ?_)
  obtain ⟨rv, hrv, hm⟩ := hq
  subst hrv
  refine lv_aload_n hx hb dl_285 rfl (lv_at hl 2 rfl) ?_
  refine sc_ld C hl hS (k := 1) (by decide) hi rfl dl_286 dl_287 dl_288 dl_289 dl_290 ?_
  refine sc_ld C hl hS (k := 2) (by decide) hi rfl dl_291 dl_292 dl_293 dl_294 dl_295 ?_
  refine sc_ld C hl hS (k := 3) (by decide) hi rfl dl_296 dl_297 dl_298 dl_299 dl_300 ?_
  refine sc_ld C hl hS (k := 4) (by decide) hi rfl dl_301 dl_302 dl_303 dl_304 dl_305 ?_
  refine sc_ld C hl hS (k := 5) (by decide) hi rfl dl_306 dl_307 dl_308 dl_309 dl_310 ?_
  refine law_call C (y := 151) (o := 86) (as := [.int (xs (6 * i + 1)), .int (xs (6 * i + 2)), .int (xs (6 * i + 3)), .int (xs (6 * i + 4)), .int (xs (6 * i + 5))]) (rest := [.long rv]) (Q1 := fun r m2 => r = some (.long rv) ∧ REL m2) hl.1 hP hS (q4 := 1061) (by decide +kernel) (by decide +kernel) ⟨8, _, rfl, rfl, by decide +kernel⟩ ((rfl : _ = 5).trans (by decide +kernel : (5 : Nat) = (xe 151).2.2.2.2.2.2.1)) (by decide +kernel) (by show wt [.long rv] ≤ 8; exact Nat.le_of_ble_eq_true rfl) dl_311 (hm _ (fun m2 h => ⟨rfl, h⟩)) (fun r m2 H2 locs2 hq hP hS => ?_)
  obtain ⟨hrv, hR2⟩ := hq
  subst hrv
  refine W.lcmp hx hb dl_314 ?_
  refine lv_if_eq (tgt := 1175) hx hb dl_315 (by decide) (fun _ => kk m2 H2 locs2 hR2 hP hS) (fun z => absurd (lg_cmp_self rv) z)
theorem law_3 {G : xG} {p : Program} {e : Env} {s : State} {m : MethodId} {below : List Frame} {meth : Method} {c : Code} {b L : Nat} {xs : Nat → Int32} {H : Heap} {locs : List Loc} {ls : Array Slot} {i : Nat} {mm : xM} (C : LX G p s m meth c b L xs) (hl : lv_has ls 4 (lawL G b i)) (hi : 6 * i + 6 ≤ L) (hR : REL mm) (hP : va_P G.2.1 xcl (wl G mm) H) (hS : va_S (xA G) s.heap H locs) (kk : ∀ m' H1 locs1, REL m' → va_P G.2.1 xcl (wl G m') H1 → va_S (xA G) s.heap H1 locs1 → LW G p e s m below meth c b H1 locs1 1175 ls []) : LW G p e s m below meth c b H locs 320 ls [] := by
  have hx := C.1.1
  have hb := C.1.2.1
  have hown := C.1.2.2.2.2.1
  have hts0 := C.1.2.2.2.2.2.1
  refine lv_aload_n hx hb dl_320 rfl (lv_at hl 1 rfl) ?_
  refine sc_ld C hl hS (k := 1) (by decide) hi rfl dl_321 dl_322 dl_323 dl_324 dl_325 ?_
  refine law_call C (y := 20) (o := 0) (as := [.int (xs (6 * i + 1))]) (rest := []) (Q1 := (fun r m1 => ∃ rv, r = some (.long rv) ∧ MID G 152 (.ref 86 :: [.int (xs (6 * i + 1))]) (.long rv) m1)) hl.1 hP hS (q4 := 421) (by decide +kernel) (by decide +kernel) ⟨7, _, rfl, rfl, by decide +kernel⟩ ((rfl : _ = 1).trans (by decide +kernel : (1 : Nat) = (xe 20).2.2.2.2.2.2.1)) (by decide +kernel) (by show wt [] ≤ 8; decide) dl_326 (p20 hR (xs (6 * i + 1)) (fun rv m1 hm => ⟨rv, rfl, hm⟩)) (fun r m1 H1 locs1 hq hP hS => ?_)
  obtain ⟨rv, hrv, hm⟩ := hq
  subst hrv
  refine lv_aload_n hx hb dl_329 rfl (lv_at hl 2 rfl) ?_
  refine sc_ld C hl hS (k := 1) (by decide) hi rfl dl_330 dl_331 dl_332 dl_333 dl_334 ?_
  refine law_call C (y := 152) (o := 86) (as := [.int (xs (6 * i + 1))]) (rest := [.long rv]) (Q1 := fun r m2 => r = some (.long rv) ∧ REL m2) hl.1 hP hS (q4 := 1065) (by decide +kernel) (by decide +kernel) ⟨8, _, rfl, rfl, by decide +kernel⟩ ((rfl : _ = 1).trans (by decide +kernel : (1 : Nat) = (xe 152).2.2.2.2.2.2.1)) (by decide +kernel) (by show wt [.long rv] ≤ 8; exact Nat.le_of_ble_eq_true rfl) dl_335 (hm _ (fun m2 h => ⟨rfl, h⟩)) (fun r m2 H2 locs2 hq hP hS => ?_)
  obtain ⟨hrv, hR2⟩ := hq
  subst hrv
  refine W.lcmp hx hb dl_338 ?_
  refine lv_if_eq (tgt := 1175) hx hb dl_339 (by decide) (fun _ => kk m2 H2 locs2 hR2 hP hS) (fun z => absurd (lg_cmp_self rv) z)
theorem law_4 {G : xG} {p : Program} {e : Env} {s : State} {m : MethodId} {below : List Frame} {meth : Method} {c : Code} {b L : Nat} {xs : Nat → Int32} {H : Heap} {locs : List Loc} {ls : Array Slot} {i : Nat} {mm : xM} (C : LX G p s m meth c b L xs) (hl : lv_has ls 4 (lawL G b i)) (hi : 6 * i + 6 ≤ L) (hR : REL mm) (hP : va_P G.2.1 xcl (wl G mm) H) (hS : va_S (xA G) s.heap H locs) (kk : ∀ m' H1 locs1, REL m' → va_P G.2.1 xcl (wl G m') H1 → va_S (xA G) s.heap H1 locs1 → LW G p e s m below meth c b H1 locs1 1175 ls []) : LW G p e s m below meth c b H locs 344 ls [] := by
  have hx := C.1.1
  have hb := C.1.2.1
  have hown := C.1.2.2.2.2.1
  have hts0 := C.1.2.2.2.2.2.1
  refine lv_aload_n hx hb dl_344 rfl (lv_at hl 1 rfl) ?_
  refine sc_ld C hl hS (k := 1) (by decide) hi rfl dl_345 dl_346 dl_347 dl_348 dl_349 ?_
  refine lv_i2l hx hb dl_350 rfl ?_
  refine lv_bipush (v := 32) hx hb dl_351 (by decide) ?_
  refine lv_lshl hx hb dl_353 rfl ?_
  refine sc_ld C hl hS (k := 2) (by decide) hi rfl dl_354 dl_355 dl_356 dl_357 dl_358 ?_
  refine lv_i2l hx hb dl_359 rfl ?_
  refine lv_ldc2 (v := 4294967295) hx hb hown (hts0 _ (List.mem_of_getElem? (i := 1419) (by decide +kernel))) dl_360 ?_
  refine lv_land hx hb dl_363 ?_
  refine lv_lor hx hb dl_364 ?_
  refine sc_ld C hl hS (k := 3) (by decide) hi rfl dl_365 dl_366 dl_367 dl_368 dl_369 ?_
  refine law_call C (y := 21) (o := 0) (as := [.long (((xs (6 * i + 1)).toInt64 <<< ((32 : Int32).toInt64 &&& 63)) ||| ((xs (6 * i + 2)).toInt64 &&& 4294967295)), .int (xs (6 * i + 3))]) (rest := []) (Q1 := (fun r m1 => ∃ rv, r = some (.long rv) ∧ MID G 153 (.ref 86 :: [.long (((xs (6 * i + 1)).toInt64 <<< ((32 : Int32).toInt64 &&& 63)) ||| ((xs (6 * i + 2)).toInt64 &&& 4294967295)), .int (xs (6 * i + 3))]) (.long rv) m1)) hl.1 hP hS (q4 := 425) (by decide +kernel) (by decide +kernel) ⟨7, _, rfl, rfl, by decide +kernel⟩ ((rfl : _ = 2).trans (by decide +kernel : (2 : Nat) = (xe 21).2.2.2.2.2.2.1)) (by decide +kernel) (by show wt [] ≤ 8; decide) dl_370 (p21 hR (((xs (6 * i + 1)).toInt64 <<< ((32 : Int32).toInt64 &&& 63)) ||| ((xs (6 * i + 2)).toInt64 &&& 4294967295)) (xs (6 * i + 3)) (fun rv m1 hm => ⟨rv, rfl, hm⟩)) (fun r m1 H1 locs1 hq hP hS => ?_)
  obtain ⟨rv, hrv, hm⟩ := hq
  subst hrv
  refine lv_aload_n hx hb dl_373 rfl (lv_at hl 2 rfl) ?_
  refine sc_ld C hl hS (k := 1) (by decide) hi rfl dl_374 dl_375 dl_376 dl_377 dl_378 ?_
  refine lv_i2l hx hb dl_379 rfl ?_
  refine lv_bipush (v := 32) hx hb dl_380 (by decide) ?_
  refine lv_lshl hx hb dl_382 rfl ?_
  refine sc_ld C hl hS (k := 2) (by decide) hi rfl dl_383 dl_384 dl_385 dl_386 dl_387 ?_
  refine lv_i2l hx hb dl_388 rfl ?_
  refine lv_ldc2 (v := 4294967295) hx hb hown (hts0 _ (List.mem_of_getElem? (i := 1419) (by decide +kernel))) dl_389 ?_
  refine lv_land hx hb dl_392 ?_
  refine lv_lor hx hb dl_393 ?_
  refine sc_ld C hl hS (k := 3) (by decide) hi rfl dl_394 dl_395 dl_396 dl_397 dl_398 ?_
  refine law_call C (y := 153) (o := 86) (as := [.long (((xs (6 * i + 1)).toInt64 <<< ((32 : Int32).toInt64 &&& 63)) ||| ((xs (6 * i + 2)).toInt64 &&& 4294967295)), .int (xs (6 * i + 3))]) (rest := [.long rv]) (Q1 := fun r m2 => r = some (.long rv) ∧ REL m2) hl.1 hP hS (q4 := 1069) (by decide +kernel) (by decide +kernel) ⟨8, _, rfl, rfl, by decide +kernel⟩ ((rfl : _ = 2).trans (by decide +kernel : (2 : Nat) = (xe 153).2.2.2.2.2.2.1)) (by decide +kernel) (by show wt [.long rv] ≤ 8; exact Nat.le_of_ble_eq_true rfl) dl_399 (hm _ (fun m2 h => ⟨rfl, h⟩)) (fun r m2 H2 locs2 hq hP hS => ?_)
  obtain ⟨hrv, hR2⟩ := hq
  subst hrv
  refine W.lcmp hx hb dl_402 ?_
  refine lv_if_eq (tgt := 1175) hx hb dl_403 (by decide) (fun _ => kk m2 H2 locs2 hR2 hP hS) (fun z => absurd (lg_cmp_self rv) z)
theorem law_5 {G : xG} {p : Program} {e : Env} {s : State} {m : MethodId} {below : List Frame} {meth : Method} {c : Code} {b L : Nat} {xs : Nat → Int32} {H : Heap} {locs : List Loc} {ls : Array Slot} {i : Nat} {mm : xM} (C : LX G p s m meth c b L xs) (hl : lv_has ls 4 (lawL G b i)) (hi : 6 * i + 6 ≤ L) (hR : REL mm) (hP : va_P G.2.1 xcl (wl G mm) H) (hS : va_S (xA G) s.heap H locs) (kk : ∀ m' H1 locs1, REL m' → va_P G.2.1 xcl (wl G m') H1 → va_S (xA G) s.heap H1 locs1 → LW G p e s m below meth c b H1 locs1 1175 ls []) : LW G p e s m below meth c b H locs 408 ls [] := by
  have hx := C.1.1
  have hb := C.1.2.1
  have hown := C.1.2.2.2.2.1
  have hts0 := C.1.2.2.2.2.2.1
  refine lv_aload_n hx hb dl_408 rfl (lv_at hl 1 rfl) ?_
  refine law_call C (y := 24) (o := 0) (as := []) (rest := []) (Q1 := (fun r m1 => ∃ rv, r = some (.long rv) ∧ MID G 154 (.ref 86 :: []) (.long rv) m1)) hl.1 hP hS (q4 := 438) (by decide +kernel) (by decide +kernel) ⟨7, _, rfl, rfl, by decide +kernel⟩ ((rfl : _ = 0).trans (by decide +kernel : (0 : Nat) = (xe 24).2.2.2.2.2.2.1)) (by decide +kernel) (by show wt [] ≤ 8; decide) dl_409 (p24 hR (fun rv m1 hm => ⟨rv, rfl, hm⟩)) (fun r m1 H1 locs1 hq hP hS => ?_)
  obtain ⟨rv, hrv, hm⟩ := hq
  subst hrv
  refine lv_aload_n hx hb dl_412 rfl (lv_at hl 2 rfl) ?_
  refine law_call C (y := 154) (o := 86) (as := []) (rest := [.long rv]) (Q1 := fun r m2 => r = some (.long rv) ∧ REL m2) hl.1 hP hS (q4 := 1076) (by decide +kernel) (by decide +kernel) ⟨8, _, rfl, rfl, by decide +kernel⟩ ((rfl : _ = 0).trans (by decide +kernel : (0 : Nat) = (xe 154).2.2.2.2.2.2.1)) (by decide +kernel) (by show wt [.long rv] ≤ 8; exact Nat.le_of_ble_eq_true rfl) dl_413 (hm _ (fun m2 h => ⟨rfl, h⟩)) (fun r m2 H2 locs2 hq hP hS => ?_)
  obtain ⟨hrv, hR2⟩ := hq
  subst hrv
  refine W.lcmp hx hb dl_416 ?_
  refine lv_if_eq (tgt := 1175) hx hb dl_417 (by decide) (fun _ => kk m2 H2 locs2 hR2 hP hS) (fun z => absurd (lg_cmp_self rv) z)
theorem law_6 {G : xG} {p : Program} {e : Env} {s : State} {m : MethodId} {below : List Frame} {meth : Method} {c : Code} {b L : Nat} {xs : Nat → Int32} {H : Heap} {locs : List Loc} {ls : Array Slot} {i : Nat} {mm : xM} (C : LX G p s m meth c b L xs) (hl : lv_has ls 4 (lawL G b i)) (hi : 6 * i + 6 ≤ L) (hR : REL mm) (hP : va_P G.2.1 xcl (wl G mm) H) (hS : va_S (xA G) s.heap H locs) (kk : ∀ m' H1 locs1, REL m' → va_P G.2.1 xcl (wl G m') H1 → va_S (xA G) s.heap H1 locs1 → LW G p e s m below meth c b H1 locs1 1175 ls []) : LW G p e s m below meth c b H locs 422 ls [] := by
  have hx := C.1.1
  have hb := C.1.2.1
  have hown := C.1.2.2.2.2.1
  have hts0 := C.1.2.2.2.2.2.1
  refine lv_aload_n hx hb dl_422 rfl (lv_at hl 1 rfl) ?_
  refine law_call C (y := 53) (o := 0) (as := []) (rest := []) (Q1 := (fun r m1 => ∃ rv, r = some (.int rv) ∧ MID G 170 (.ref 86 :: []) (.int rv) m1)) hl.1 hP hS (q4 := 563) (by decide +kernel) (by decide +kernel) ⟨7, _, rfl, rfl, by decide +kernel⟩ ((rfl : _ = 0).trans (by decide +kernel : (0 : Nat) = (xe 53).2.2.2.2.2.2.1)) (by decide +kernel) (by show wt [] ≤ 8; decide) dl_423 (p53 hR (fun rv m1 hm => ⟨rv, rfl, hm⟩)) (fun r m1 H1 locs1 hq hP hS => ?_)
  obtain ⟨rv, hrv, hm⟩ := hq
  subst hrv
  refine lv_aload_n hx hb dl_426 rfl (lv_at hl 2 rfl) ?_
  refine law_call C (y := 170) (o := 86) (as := []) (rest := [.int rv]) (Q1 := fun r m2 => r = some (.int rv) ∧ REL m2) hl.1 hP hS (q4 := 1144) (by decide +kernel) (by decide +kernel) ⟨8, _, rfl, rfl, by decide +kernel⟩ ((rfl : _ = 0).trans (by decide +kernel : (0 : Nat) = (xe 170).2.2.2.2.2.2.1)) (by decide +kernel) (by show wt [.int rv] ≤ 8; exact Nat.le_of_ble_eq_true rfl) dl_427 (hm _ (fun m2 h => ⟨rfl, h⟩)) (fun r m2 H2 locs2 hq hP hS => ?_)
  obtain ⟨hrv, hR2⟩ := hq
  subst hrv
  refine lv_icmp_eq (tgt := 1175) hx hb dl_430 (by decide) (fun _ => kk m2 H2 locs2 hR2 hP hS) (fun z => absurd rfl z)
theorem law_7 {G : xG} {p : Program} {e : Env} {s : State} {m : MethodId} {below : List Frame} {meth : Method} {c : Code} {b L : Nat} {xs : Nat → Int32} {H : Heap} {locs : List Loc} {ls : Array Slot} {i : Nat} {mm : xM} (C : LX G p s m meth c b L xs) (hl : lv_has ls 4 (lawL G b i)) (hi : 6 * i + 6 ≤ L) (hR : REL mm) (hP : va_P G.2.1 xcl (wl G mm) H) (hS : va_S (xA G) s.heap H locs) (kk : ∀ m' H1 locs1, REL m' → va_P G.2.1 xcl (wl G m') H1 → va_S (xA G) s.heap H1 locs1 → LW G p e s m below meth c b H1 locs1 1175 ls []) : LW G p e s m below meth c b H locs 435 ls [] := by
  have hx := C.1.1
  have hb := C.1.2.1
  have hown := C.1.2.2.2.2.1
  have hts0 := C.1.2.2.2.2.2.1
  refine lv_aload_n hx hb dl_435 rfl (lv_at hl 1 rfl) ?_
  refine sc_ld C hl hS (k := 1) (by decide) hi rfl dl_436 dl_437 dl_438 dl_439 dl_440 ?_
  refine sc_ld C hl hS (k := 2) (by decide) hi rfl dl_441 dl_442 dl_443 dl_444 dl_445 ?_
  refine law_call C (y := 54) (o := 0) (as := [.int (xs (6 * i + 1)), .int (xs (6 * i + 2))]) (rest := []) (Q1 := (fun r m1 => ∃ rv, r = some (.long rv) ∧ MID G 171 (.ref 86 :: [.int (xs (6 * i + 1)), .int (xs (6 * i + 2))]) (.long rv) m1)) hl.1 hP hS (q4 := 567) (by decide +kernel) (by decide +kernel) ⟨7, _, rfl, rfl, by decide +kernel⟩ ((rfl : _ = 2).trans (by decide +kernel : (2 : Nat) = (xe 54).2.2.2.2.2.2.1)) (by decide +kernel) (by show wt [] ≤ 8; decide) dl_446 (p54 hR (xs (6 * i + 1)) (xs (6 * i + 2)) (fun rv m1 hm => ⟨rv, rfl, hm⟩)) (fun r m1 H1 locs1 hq hP hS => ?_)
  obtain ⟨rv, hrv, hm⟩ := hq
  subst hrv
  refine lv_aload_n hx hb dl_449 rfl (lv_at hl 2 rfl) ?_
  refine sc_ld C hl hS (k := 1) (by decide) hi rfl dl_450 dl_451 dl_452 dl_453 dl_454 ?_
  refine sc_ld C hl hS (k := 2) (by decide) hi rfl dl_455 dl_456 dl_457 dl_458 dl_459 ?_
  refine law_call C (y := 171) (o := 86) (as := [.int (xs (6 * i + 1)), .int (xs (6 * i + 2))]) (rest := [.long rv]) (Q1 := fun r m2 => r = some (.long rv) ∧ REL m2) hl.1 hP hS (q4 := 1148) (by decide +kernel) (by decide +kernel) ⟨8, _, rfl, rfl, by decide +kernel⟩ ((rfl : _ = 2).trans (by decide +kernel : (2 : Nat) = (xe 171).2.2.2.2.2.2.1)) (by decide +kernel) (by show wt [.long rv] ≤ 8; exact Nat.le_of_ble_eq_true rfl) dl_460 (hm _ (fun m2 h => ⟨rfl, h⟩)) (fun r m2 H2 locs2 hq hP hS => ?_)
  obtain ⟨hrv, hR2⟩ := hq
  subst hrv
  refine W.lcmp hx hb dl_463 ?_
  refine lv_if_eq (tgt := 1175) hx hb dl_464 (by decide) (fun _ => kk m2 H2 locs2 hR2 hP hS) (fun z => absurd (lg_cmp_self rv) z)
theorem law_8 {G : xG} {p : Program} {e : Env} {s : State} {m : MethodId} {below : List Frame} {meth : Method} {c : Code} {b L : Nat} {xs : Nat → Int32} {H : Heap} {locs : List Loc} {ls : Array Slot} {i : Nat} {mm : xM} (C : LX G p s m meth c b L xs) (hl : lv_has ls 4 (lawL G b i)) (hi : 6 * i + 6 ≤ L) (hR : REL mm) (hP : va_P G.2.1 xcl (wl G mm) H) (hS : va_S (xA G) s.heap H locs) (kk : ∀ m' H1 locs1, REL m' → va_P G.2.1 xcl (wl G m') H1 → va_S (xA G) s.heap H1 locs1 → LW G p e s m below meth c b H1 locs1 1175 ls []) : LW G p e s m below meth c b H locs 469 ls [] := by
  have hx := C.1.1
  have hb := C.1.2.1
  have hown := C.1.2.2.2.2.1
  have hts0 := C.1.2.2.2.2.2.1
  refine lv_aload_n hx hb dl_469 rfl (lv_at hl 1 rfl) ?_
  refine sc_ld C hl hS (k := 1) (by decide) hi rfl dl_470 dl_471 dl_472 dl_473 dl_474 ?_
  refine law_call C (y := 58) (o := 0) (as := [.int (xs (6 * i + 1))]) (rest := []) (Q1 := (fun r m1 => ∃ rv, r = some (.long rv) ∧ MID G 176 (.ref 86 :: [.int (xs (6 * i + 1))]) (.long rv) m1)) hl.1 hP hS (q4 := 584) (by decide +kernel) (by decide +kernel) ⟨7, _, rfl, rfl, by decide +kernel⟩ ((rfl : _ = 1).trans (by decide +kernel : (1 : Nat) = (xe 58).2.2.2.2.2.2.1)) (by decide +kernel) (by show wt [] ≤ 8; decide) dl_475 (p58 hR (xs (6 * i + 1)) (fun rv m1 hm => ⟨rv, rfl, hm⟩)) (fun r m1 H1 locs1 hq hP hS => ?_)
  obtain ⟨rv, hrv, hm⟩ := hq
  subst hrv
  refine lv_aload_n hx hb dl_478 rfl (lv_at hl 2 rfl) ?_
  refine sc_ld C hl hS (k := 1) (by decide) hi rfl dl_479 dl_480 dl_481 dl_482 dl_483 ?_
  refine law_call C (y := 176) (o := 86) (as := [.int (xs (6 * i + 1))]) (rest := [.long rv]) (Q1 := fun r m2 => r = some (.long rv) ∧ REL m2) hl.1 hP hS (q4 := 1169) (by decide +kernel) (by decide +kernel) ⟨8, _, rfl, rfl, by decide +kernel⟩ ((rfl : _ = 1).trans (by decide +kernel : (1 : Nat) = (xe 176).2.2.2.2.2.2.1)) (by decide +kernel) (by show wt [.long rv] ≤ 8; exact Nat.le_of_ble_eq_true rfl) dl_484 (hm _ (fun m2 h => ⟨rfl, h⟩)) (fun r m2 H2 locs2 hq hP hS => ?_)
  obtain ⟨hrv, hR2⟩ := hq
  subst hrv
  refine W.lcmp hx hb dl_487 ?_
  refine lv_if_eq (tgt := 1175) hx hb dl_488 (by decide) (fun _ => kk m2 H2 locs2 hR2 hP hS) (fun z => absurd (lg_cmp_self rv) z)
theorem law_9 {G : xG} {p : Program} {e : Env} {s : State} {m : MethodId} {below : List Frame} {meth : Method} {c : Code} {b L : Nat} {xs : Nat → Int32} {H : Heap} {locs : List Loc} {ls : Array Slot} {i : Nat} {mm : xM} (C : LX G p s m meth c b L xs) (hl : lv_has ls 4 (lawL G b i)) (hi : 6 * i + 6 ≤ L) (hR : REL mm) (hP : va_P G.2.1 xcl (wl G mm) H) (hS : va_S (xA G) s.heap H locs) (kk : ∀ m' H1 locs1, REL m' → va_P G.2.1 xcl (wl G m') H1 → va_S (xA G) s.heap H1 locs1 → LW G p e s m below meth c b H1 locs1 1175 ls []) : LW G p e s m below meth c b H locs 493 ls [] := by
  have hx := C.1.1
  have hb := C.1.2.1
  have hown := C.1.2.2.2.2.1
  have hts0 := C.1.2.2.2.2.2.1
  refine lv_aload_n hx hb dl_493 rfl (lv_at hl 1 rfl) ?_
  refine sc_ld C hl hS (k := 1) (by decide) hi rfl dl_494 dl_495 dl_496 dl_497 dl_498 ?_
  refine sc_ld C hl hS (k := 2) (by decide) hi rfl dl_499 dl_500 dl_501 dl_502 dl_503 ?_
  refine law_call C (y := 62) (o := 0) (as := [.int (xs (6 * i + 1)), .int (xs (6 * i + 2))]) (rest := []) (Q1 := (fun r m1 => ∃ rv, r = some (.long rv) ∧ MID G 182 (.ref 86 :: [.int (xs (6 * i + 1)), .int (xs (6 * i + 2))]) (.long rv) m1)) hl.1 hP hS (q4 := 600) (by decide +kernel) (by decide +kernel) ⟨7, _, rfl, rfl, by decide +kernel⟩ ((rfl : _ = 2).trans (by decide +kernel : (2 : Nat) = (xe 62).2.2.2.2.2.2.1)) (by decide +kernel) (by show wt [] ≤ 8; decide) dl_504 (p62 hR (xs (6 * i + 1)) (xs (6 * i + 2)) (fun rv m1 hm => ⟨rv, rfl, hm⟩)) (fun r m1 H1 locs1 hq hP hS => ?_)
  obtain ⟨rv, hrv, hm⟩ := hq
  subst hrv
  refine lv_aload_n hx hb dl_507 rfl (lv_at hl 2 rfl) ?_
  refine sc_ld C hl hS (k := 1) (by decide) hi rfl dl_508 dl_509 dl_510 dl_511 dl_512 ?_
  refine sc_ld C hl hS (k := 2) (by decide) hi rfl dl_513 dl_514 dl_515 dl_516 dl_517 ?_
  refine law_call C (y := 182) (o := 86) (as := [.int (xs (6 * i + 1)), .int (xs (6 * i + 2))]) (rest := [.long rv]) (Q1 := fun r m2 => r = some (.long rv) ∧ REL m2) hl.1 hP hS (q4 := 1192) (by decide +kernel) (by decide +kernel) ⟨8, _, rfl, rfl, by decide +kernel⟩ ((rfl : _ = 2).trans (by decide +kernel : (2 : Nat) = (xe 182).2.2.2.2.2.2.1)) (by decide +kernel) (by show wt [.long rv] ≤ 8; exact Nat.le_of_ble_eq_true rfl) dl_518 (hm _ (fun m2 h => ⟨rfl, h⟩)) (fun r m2 H2 locs2 hq hP hS => ?_)
  obtain ⟨hrv, hR2⟩ := hq
  subst hrv
  refine W.lcmp hx hb dl_521 ?_
  refine lv_if_eq (tgt := 1175) hx hb dl_522 (by decide) (fun _ => kk m2 H2 locs2 hR2 hP hS) (fun z => absurd (lg_cmp_self rv) z)
theorem law_10 {G : xG} {p : Program} {e : Env} {s : State} {m : MethodId} {below : List Frame} {meth : Method} {c : Code} {b L : Nat} {xs : Nat → Int32} {H : Heap} {locs : List Loc} {ls : Array Slot} {i : Nat} {mm : xM} (C : LX G p s m meth c b L xs) (hl : lv_has ls 4 (lawL G b i)) (hi : 6 * i + 6 ≤ L) (hR : REL mm) (hP : va_P G.2.1 xcl (wl G mm) H) (hS : va_S (xA G) s.heap H locs) (kk : ∀ m' H1 locs1, REL m' → va_P G.2.1 xcl (wl G m') H1 → va_S (xA G) s.heap H1 locs1 → LW G p e s m below meth c b H1 locs1 1175 ls []) : LW G p e s m below meth c b H locs 527 ls [] := by
  have hx := C.1.1
  have hb := C.1.2.1
  have hown := C.1.2.2.2.2.1
  have hts0 := C.1.2.2.2.2.2.1
  refine lv_aload_n hx hb dl_527 rfl (lv_at hl 1 rfl) ?_
  refine sc_ld C hl hS (k := 1) (by decide) hi rfl dl_528 dl_529 dl_530 dl_531 dl_532 ?_
  refine sc_ld C hl hS (k := 2) (by decide) hi rfl dl_533 dl_534 dl_535 dl_536 dl_537 ?_
  refine law_call C (y := 82) (o := 0) (as := [.int (xs (6 * i + 1)), .int (xs (6 * i + 2))]) (rest := []) (Q1 := (fun r m1 => ∃ rv, r = some (.long rv) ∧ MID G 197 (.ref 86 :: [.int (xs (6 * i + 1)), .int (xs (6 * i + 2))]) (.long rv) m1)) hl.1 hP hS (q4 := 682) (by decide +kernel) (by decide +kernel) ⟨7, _, rfl, rfl, by decide +kernel⟩ ((rfl : _ = 2).trans (by decide +kernel : (2 : Nat) = (xe 82).2.2.2.2.2.2.1)) (by decide +kernel) (by show wt [] ≤ 8; decide) dl_538 (p82 hR (xs (6 * i + 1)) (xs (6 * i + 2)) (fun rv m1 hm => ⟨rv, rfl, hm⟩)) (fun r m1 H1 locs1 hq hP hS => ?_)
  obtain ⟨rv, hrv, hm⟩ := hq
  subst hrv
  refine lv_aload_n hx hb dl_541 rfl (lv_at hl 2 rfl) ?_
  refine sc_ld C hl hS (k := 1) (by decide) hi rfl dl_542 dl_543 dl_544 dl_545 dl_546 ?_
  refine sc_ld C hl hS (k := 2) (by decide) hi rfl dl_547 dl_548 dl_549 dl_550 dl_551 ?_
  refine law_call C (y := 197) (o := 86) (as := [.int (xs (6 * i + 1)), .int (xs (6 * i + 2))]) (rest := [.long rv]) (Q1 := fun r m2 => r = some (.long rv) ∧ REL m2) hl.1 hP hS (q4 := 1256) (by decide +kernel) (by decide +kernel) ⟨8, _, rfl, rfl, by decide +kernel⟩ ((rfl : _ = 2).trans (by decide +kernel : (2 : Nat) = (xe 197).2.2.2.2.2.2.1)) (by decide +kernel) (by show wt [.long rv] ≤ 8; exact Nat.le_of_ble_eq_true rfl) dl_552 (hm _ (fun m2 h => ⟨rfl, h⟩)) (fun r m2 H2 locs2 hq hP hS => ?_)
  obtain ⟨hrv, hR2⟩ := hq
  subst hrv
  refine W.lcmp hx hb dl_555 ?_
  refine lv_if_eq (tgt := 1175) hx hb dl_556 (by decide) (fun _ => kk m2 H2 locs2 hR2 hP hS) (fun z => absurd (lg_cmp_self rv) z)
theorem law_11 {G : xG} {p : Program} {e : Env} {s : State} {m : MethodId} {below : List Frame} {meth : Method} {c : Code} {b L : Nat} {xs : Nat → Int32} {H : Heap} {locs : List Loc} {ls : Array Slot} {i : Nat} {mm : xM} (C : LX G p s m meth c b L xs) (hl : lv_has ls 4 (lawL G b i)) (hi : 6 * i + 6 ≤ L) (hR : REL mm) (hP : va_P G.2.1 xcl (wl G mm) H) (hS : va_S (xA G) s.heap H locs) (kk : ∀ m' H1 locs1, REL m' → va_P G.2.1 xcl (wl G m') H1 → va_S (xA G) s.heap H1 locs1 → LW G p e s m below meth c b H1 locs1 1175 ls []) : LW G p e s m below meth c b H locs 561 ls [] := by
  have hx := C.1.1
  have hb := C.1.2.1
  have hown := C.1.2.2.2.2.1
  have hts0 := C.1.2.2.2.2.2.1
  refine lv_aload_n hx hb dl_561 rfl (lv_at hl 1 rfl) ?_
  refine sc_ld C hl hS (k := 1) (by decide) hi rfl dl_562 dl_563 dl_564 dl_565 dl_566 ?_
  refine sc_ld C hl hS (k := 2) (by decide) hi rfl dl_567 dl_568 dl_569 dl_570 dl_571 ?_
  refine law_call C (y := 83) (o := 0) (as := [.int (xs (6 * i + 1)), .int (xs (6 * i + 2))]) (rest := []) (Q1 := (fun r m1 => ∃ rv, r = some (.long rv) ∧ MID G 198 (.ref 86 :: [.int (xs (6 * i + 1)), .int (xs (6 * i + 2))]) (.long rv) m1)) hl.1 hP hS (q4 := 689) (by decide +kernel) (by decide +kernel) ⟨7, _, rfl, rfl, by decide +kernel⟩ ((rfl : _ = 2).trans (by decide +kernel : (2 : Nat) = (xe 83).2.2.2.2.2.2.1)) (by decide +kernel) (by show wt [] ≤ 8; decide) dl_572 (p83 hR (xs (6 * i + 1)) (xs (6 * i + 2)) (fun rv m1 hm => ⟨rv, rfl, hm⟩)) (fun r m1 H1 locs1 hq hP hS => ?_)
  obtain ⟨rv, hrv, hm⟩ := hq
  subst hrv
  refine lv_aload_n hx hb dl_575 rfl (lv_at hl 2 rfl) ?_
  refine sc_ld C hl hS (k := 1) (by decide) hi rfl dl_576 dl_577 dl_578 dl_579 dl_580 ?_
  refine sc_ld C hl hS (k := 2) (by decide) hi rfl dl_581 dl_582 dl_583 dl_584 dl_585 ?_
  refine law_call C (y := 198) (o := 86) (as := [.int (xs (6 * i + 1)), .int (xs (6 * i + 2))]) (rest := [.long rv]) (Q1 := fun r m2 => r = some (.long rv) ∧ REL m2) hl.1 hP hS (q4 := 1260) (by decide +kernel) (by decide +kernel) ⟨8, _, rfl, rfl, by decide +kernel⟩ ((rfl : _ = 2).trans (by decide +kernel : (2 : Nat) = (xe 198).2.2.2.2.2.2.1)) (by decide +kernel) (by show wt [.long rv] ≤ 8; exact Nat.le_of_ble_eq_true rfl) dl_586 (hm _ (fun m2 h => ⟨rfl, h⟩)) (fun r m2 H2 locs2 hq hP hS => ?_)
  obtain ⟨hrv, hR2⟩ := hq
  subst hrv
  refine W.lcmp hx hb dl_589 ?_
  refine lv_if_eq (tgt := 1175) hx hb dl_590 (by decide) (fun _ => kk m2 H2 locs2 hR2 hP hS) (fun z => absurd (lg_cmp_self rv) z)
theorem law_12 {G : xG} {p : Program} {e : Env} {s : State} {m : MethodId} {below : List Frame} {meth : Method} {c : Code} {b L : Nat} {xs : Nat → Int32} {H : Heap} {locs : List Loc} {ls : Array Slot} {i : Nat} {mm : xM} (C : LX G p s m meth c b L xs) (hl : lv_has ls 4 (lawL G b i)) (hi : 6 * i + 6 ≤ L) (hR : REL mm) (hP : va_P G.2.1 xcl (wl G mm) H) (hS : va_S (xA G) s.heap H locs) (kk : ∀ m' H1 locs1, REL m' → va_P G.2.1 xcl (wl G m') H1 → va_S (xA G) s.heap H1 locs1 → LW G p e s m below meth c b H1 locs1 1175 ls []) : LW G p e s m below meth c b H locs 595 ls [] := by
  have hx := C.1.1
  have hb := C.1.2.1
  have hown := C.1.2.2.2.2.1
  have hts0 := C.1.2.2.2.2.2.1
  refine lv_aload_n hx hb dl_595 rfl (lv_at hl 1 rfl) ?_
  refine sc_ld C hl hS (k := 1) (by decide) hi rfl dl_596 dl_597 dl_598 dl_599 dl_600 ?_
  refine sc_ld C hl hS (k := 2) (by decide) hi rfl dl_601 dl_602 dl_603 dl_604 dl_605 ?_
  refine sc_ld C hl hS (k := 3) (by decide) hi rfl dl_606 dl_607 dl_608 dl_609 dl_610 ?_
  refine sc_ld C hl hS (k := 4) (by decide) hi rfl dl_611 dl_612 dl_613 dl_614 dl_615 ?_
  refine law_call C (y := 84) (o := 0) (as := [.int (xs (6 * i + 1)), .int (xs (6 * i + 2)), .int (xs (6 * i + 3)), .int (xs (6 * i + 4))]) (rest := []) (Q1 := (fun r m1 => ∃ rv, r = some (.long rv) ∧ MID G 199 (.ref 86 :: [.int (xs (6 * i + 1)), .int (xs (6 * i + 2)), .int (xs (6 * i + 3)), .int (xs (6 * i + 4))]) (.long rv) m1)) hl.1 hP hS (q4 := 693) (by decide +kernel) (by decide +kernel) ⟨7, _, rfl, rfl, by decide +kernel⟩ ((rfl : _ = 4).trans (by decide +kernel : (4 : Nat) = (xe 84).2.2.2.2.2.2.1)) (by decide +kernel) (by show wt [] ≤ 8; decide) dl_616 (p84 hR (xs (6 * i + 1)) (xs (6 * i + 2)) (xs (6 * i + 3)) (xs (6 * i + 4)) (fun rv m1 hm => ⟨rv, rfl, hm⟩)) (fun r m1 H1 locs1 hq hP hS => ?_)
  obtain ⟨rv, hrv, hm⟩ := hq
  subst hrv
  refine lv_aload_n hx hb dl_619 rfl (lv_at hl 2 rfl) ?_
  refine sc_ld C hl hS (k := 1) (by decide) hi rfl dl_620 dl_621 dl_622 dl_623 dl_624 ?_
  refine sc_ld C hl hS (k := 2) (by decide) hi rfl dl_625 dl_626 dl_627 dl_628 dl_629 ?_
  refine sc_ld C hl hS (k := 3) (by decide) hi rfl dl_630 dl_631 dl_632 dl_633 dl_634 ?_
  refine sc_ld C hl hS (k := 4) (by decide) hi rfl dl_635 dl_636 dl_637 dl_638 dl_639 ?_
  refine law_call C (y := 199) (o := 86) (as := [.int (xs (6 * i + 1)), .int (xs (6 * i + 2)), .int (xs (6 * i + 3)), .int (xs (6 * i + 4))]) (rest := [.long rv]) (Q1 := fun r m2 => r = some (.long rv) ∧ REL m2) hl.1 hP hS (q4 := 1264) (by decide +kernel) (by decide +kernel) ⟨8, _, rfl, rfl, by decide +kernel⟩ ((rfl : _ = 4).trans (by decide +kernel : (4 : Nat) = (xe 199).2.2.2.2.2.2.1)) (by decide +kernel) (by show wt [.long rv] ≤ 8; exact Nat.le_of_ble_eq_true rfl) dl_640 (hm _ (fun m2 h => ⟨rfl, h⟩)) (fun r m2 H2 locs2 hq hP hS => ?_)
  obtain ⟨hrv, hR2⟩ := hq
  subst hrv
  refine W.lcmp hx hb dl_643 ?_
  refine lv_if_eq (tgt := 1175) hx hb dl_644 (by decide) (fun _ => kk m2 H2 locs2 hR2 hP hS) (fun z => absurd (lg_cmp_self rv) z)
theorem law_13 {G : xG} {p : Program} {e : Env} {s : State} {m : MethodId} {below : List Frame} {meth : Method} {c : Code} {b L : Nat} {xs : Nat → Int32} {H : Heap} {locs : List Loc} {ls : Array Slot} {i : Nat} {mm : xM} (C : LX G p s m meth c b L xs) (hl : lv_has ls 4 (lawL G b i)) (hi : 6 * i + 6 ≤ L) (hR : REL mm) (hP : va_P G.2.1 xcl (wl G mm) H) (hS : va_S (xA G) s.heap H locs) (kk : ∀ m' H1 locs1, REL m' → va_P G.2.1 xcl (wl G m') H1 → va_S (xA G) s.heap H1 locs1 → LW G p e s m below meth c b H1 locs1 1175 ls []) : LW G p e s m below meth c b H locs 649 ls [] := by
  have hx := C.1.1
  have hb := C.1.2.1
  have hown := C.1.2.2.2.2.1
  have hts0 := C.1.2.2.2.2.2.1
  refine lv_aload_n hx hb dl_649 rfl (lv_at hl 1 rfl) ?_
  refine sc_ld C hl hS (k := 1) (by decide) hi rfl dl_650 dl_651 dl_652 dl_653 dl_654 ?_
  refine law_call C (y := 89) (o := 0) (as := [.int (xs (6 * i + 1))]) (rest := []) (Q1 := (fun r m1 => ∃ rv, r = some (.long rv) ∧ MID G 201 (.ref 86 :: [.int (xs (6 * i + 1))]) (.long rv) m1)) hl.1 hP hS (q4 := 715) (by decide +kernel) (by decide +kernel) ⟨7, _, rfl, rfl, by decide +kernel⟩ ((rfl : _ = 1).trans (by decide +kernel : (1 : Nat) = (xe 89).2.2.2.2.2.2.1)) (by decide +kernel) (by show wt [] ≤ 8; decide) dl_655 (p89 hR (xs (6 * i + 1)) (fun rv m1 hm => ⟨rv, rfl, hm⟩)) (fun r m1 H1 locs1 hq hP hS => ?_)
  obtain ⟨rv, hrv, hm⟩ := hq
  subst hrv
  refine lv_aload_n hx hb dl_658 rfl (lv_at hl 2 rfl) ?_
  refine sc_ld C hl hS (k := 1) (by decide) hi rfl dl_659 dl_660 dl_661 dl_662 dl_663 ?_
  refine law_call C (y := 201) (o := 86) (as := [.int (xs (6 * i + 1))]) (rest := [.long rv]) (Q1 := fun r m2 => r = some (.long rv) ∧ REL m2) hl.1 hP hS (q4 := 1274) (by decide +kernel) (by decide +kernel) ⟨8, _, rfl, rfl, by decide +kernel⟩ ((rfl : _ = 1).trans (by decide +kernel : (1 : Nat) = (xe 201).2.2.2.2.2.2.1)) (by decide +kernel) (by show wt [.long rv] ≤ 8; exact Nat.le_of_ble_eq_true rfl) dl_664 (hm _ (fun m2 h => ⟨rfl, h⟩)) (fun r m2 H2 locs2 hq hP hS => ?_)
  obtain ⟨hrv, hR2⟩ := hq
  subst hrv
  refine W.lcmp hx hb dl_667 ?_
  refine lv_if_eq (tgt := 1175) hx hb dl_668 (by decide) (fun _ => kk m2 H2 locs2 hR2 hP hS) (fun z => absurd (lg_cmp_self rv) z)
theorem law_14 {G : xG} {p : Program} {e : Env} {s : State} {m : MethodId} {below : List Frame} {meth : Method} {c : Code} {b L : Nat} {xs : Nat → Int32} {H : Heap} {locs : List Loc} {ls : Array Slot} {i : Nat} {mm : xM} (C : LX G p s m meth c b L xs) (hl : lv_has ls 4 (lawL G b i)) (hi : 6 * i + 6 ≤ L) (hR : REL mm) (hP : va_P G.2.1 xcl (wl G mm) H) (hS : va_S (xA G) s.heap H locs) (kk : ∀ m' H1 locs1, REL m' → va_P G.2.1 xcl (wl G m') H1 → va_S (xA G) s.heap H1 locs1 → LW G p e s m below meth c b H1 locs1 1175 ls []) : LW G p e s m below meth c b H locs 673 ls [] := by
  have hx := C.1.1
  have hb := C.1.2.1
  have hown := C.1.2.2.2.2.1
  have hts0 := C.1.2.2.2.2.2.1
  refine lv_aload_n hx hb dl_673 rfl (lv_at hl 1 rfl) ?_
  refine sc_ld C hl hS (k := 1) (by decide) hi rfl dl_674 dl_675 dl_676 dl_677 dl_678 ?_
  refine law_call C (y := 91) (o := 0) (as := [.int (xs (6 * i + 1))]) (rest := []) (Q1 := (fun r m1 => ∃ rv, r = some (.long rv) ∧ MID G 202 (.ref 86 :: [.int (xs (6 * i + 1))]) (.long rv) m1)) hl.1 hP hS (q4 := 723) (by decide +kernel) (by decide +kernel) ⟨7, _, rfl, rfl, by decide +kernel⟩ ((rfl : _ = 1).trans (by decide +kernel : (1 : Nat) = (xe 91).2.2.2.2.2.2.1)) (by decide +kernel) (by show wt [] ≤ 8; decide) dl_679 (p91 hR (xs (6 * i + 1)) (fun rv m1 hm => ⟨rv, rfl, hm⟩)) (fun r m1 H1 locs1 hq hP hS => ?_)
  obtain ⟨rv, hrv, hm⟩ := hq
  subst hrv
  refine lv_aload_n hx hb dl_682 rfl (lv_at hl 2 rfl) ?_
  refine sc_ld C hl hS (k := 1) (by decide) hi rfl dl_683 dl_684 dl_685 dl_686 dl_687 ?_
  refine law_call C (y := 202) (o := 86) (as := [.int (xs (6 * i + 1))]) (rest := [.long rv]) (Q1 := fun r m2 => r = some (.long rv) ∧ REL m2) hl.1 hP hS (q4 := 1278) (by decide +kernel) (by decide +kernel) ⟨8, _, rfl, rfl, by decide +kernel⟩ ((rfl : _ = 1).trans (by decide +kernel : (1 : Nat) = (xe 202).2.2.2.2.2.2.1)) (by decide +kernel) (by show wt [.long rv] ≤ 8; exact Nat.le_of_ble_eq_true rfl) dl_688 (hm _ (fun m2 h => ⟨rfl, h⟩)) (fun r m2 H2 locs2 hq hP hS => ?_)
  obtain ⟨hrv, hR2⟩ := hq
  subst hrv
  refine W.lcmp hx hb dl_691 ?_
  refine lv_if_eq (tgt := 1175) hx hb dl_692 (by decide) (fun _ => kk m2 H2 locs2 hR2 hP hS) (fun z => absurd (lg_cmp_self rv) z)
theorem law_15 {G : xG} {p : Program} {e : Env} {s : State} {m : MethodId} {below : List Frame} {meth : Method} {c : Code} {b L : Nat} {xs : Nat → Int32} {H : Heap} {locs : List Loc} {ls : Array Slot} {i : Nat} {mm : xM} (C : LX G p s m meth c b L xs) (hl : lv_has ls 4 (lawL G b i)) (hi : 6 * i + 6 ≤ L) (hR : REL mm) (hP : va_P G.2.1 xcl (wl G mm) H) (hS : va_S (xA G) s.heap H locs) (kk : ∀ m' H1 locs1, REL m' → va_P G.2.1 xcl (wl G m') H1 → va_S (xA G) s.heap H1 locs1 → LW G p e s m below meth c b H1 locs1 1175 ls []) : LW G p e s m below meth c b H locs 697 ls [] := by
  have hx := C.1.1
  have hb := C.1.2.1
  have hown := C.1.2.2.2.2.1
  have hts0 := C.1.2.2.2.2.2.1
  refine lv_aload_n hx hb dl_697 rfl (lv_at hl 1 rfl) ?_
  refine sc_ld C hl hS (k := 1) (by decide) hi rfl dl_698 dl_699 dl_700 dl_701 dl_702 ?_
  refine sc_ld C hl hS (k := 2) (by decide) hi rfl dl_703 dl_704 dl_705 dl_706 dl_707 ?_
  refine law_call C (y := 94) (o := 0) (as := [.int (xs (6 * i + 1)), .int (xs (6 * i + 2))]) (rest := []) (Q1 := (fun r m1 => ∃ rv, r = some (.long rv) ∧ MID G 203 (.ref 86 :: [.int (xs (6 * i + 1)), .int (xs (6 * i + 2))]) (.long rv) m1)) hl.1 hP hS (q4 := 733) (by decide +kernel) (by decide +kernel) ⟨7, _, rfl, rfl, by decide +kernel⟩ ((rfl : _ = 2).trans (by decide +kernel : (2 : Nat) = (xe 94).2.2.2.2.2.2.1)) (by decide +kernel) (by show wt [] ≤ 8; decide) dl_708 (p94 hR (xs (6 * i + 1)) (xs (6 * i + 2)) (fun rv m1 hm => ⟨rv, rfl, hm⟩)) (fun r m1 H1 locs1 hq hP hS => ?_)
  obtain ⟨rv, hrv, hm⟩ := hq
  subst hrv
  refine lv_aload_n hx hb dl_711 rfl (lv_at hl 2 rfl) ?_
  refine sc_ld C hl hS (k := 1) (by decide) hi rfl dl_712 dl_713 dl_714 dl_715 dl_716 ?_
  refine sc_ld C hl hS (k := 2) (by decide) hi rfl dl_717 dl_718 dl_719 dl_720 dl_721 ?_
  refine law_call C (y := 203) (o := 86) (as := [.int (xs (6 * i + 1)), .int (xs (6 * i + 2))]) (rest := [.long rv]) (Q1 := fun r m2 => r = some (.long rv) ∧ REL m2) hl.1 hP hS (q4 := 1282) (by decide +kernel) (by decide +kernel) ⟨8, _, rfl, rfl, by decide +kernel⟩ ((rfl : _ = 2).trans (by decide +kernel : (2 : Nat) = (xe 203).2.2.2.2.2.2.1)) (by decide +kernel) (by show wt [.long rv] ≤ 8; exact Nat.le_of_ble_eq_true rfl) dl_722 (hm _ (fun m2 h => ⟨rfl, h⟩)) (fun r m2 H2 locs2 hq hP hS => ?_)
  obtain ⟨hrv, hR2⟩ := hq
  subst hrv
  refine W.lcmp hx hb dl_725 ?_
  refine lv_if_eq (tgt := 1175) hx hb dl_726 (by decide) (fun _ => kk m2 H2 locs2 hR2 hP hS) (fun z => absurd (lg_cmp_self rv) z)
theorem law_16 {G : xG} {p : Program} {e : Env} {s : State} {m : MethodId} {below : List Frame} {meth : Method} {c : Code} {b L : Nat} {xs : Nat → Int32} {H : Heap} {locs : List Loc} {ls : Array Slot} {i : Nat} {mm : xM} (C : LX G p s m meth c b L xs) (hl : lv_has ls 4 (lawL G b i)) (hi : 6 * i + 6 ≤ L) (hR : REL mm) (hP : va_P G.2.1 xcl (wl G mm) H) (hS : va_S (xA G) s.heap H locs) (kk : ∀ m' H1 locs1, REL m' → va_P G.2.1 xcl (wl G m') H1 → va_S (xA G) s.heap H1 locs1 → LW G p e s m below meth c b H1 locs1 1175 ls []) : LW G p e s m below meth c b H locs 731 ls [] := by
  have hx := C.1.1
  have hb := C.1.2.1
  have hown := C.1.2.2.2.2.1
  have hts0 := C.1.2.2.2.2.2.1
  refine lv_aload_n hx hb dl_731 rfl (lv_at hl 1 rfl) ?_
  refine sc_ld C hl hS (k := 1) (by decide) hi rfl dl_732 dl_733 dl_734 dl_735 dl_736 ?_
  refine sc_ld C hl hS (k := 2) (by decide) hi rfl dl_737 dl_738 dl_739 dl_740 dl_741 ?_
  refine law_call C (y := 105) (o := 0) (as := [.int (xs (6 * i + 1)), .int (xs (6 * i + 2))]) (rest := []) (Q1 := (fun r m1 => ∃ rv, r = some (.long rv) ∧ MID G 207 (.ref 86 :: [.int (xs (6 * i + 1)), .int (xs (6 * i + 2))]) (.long rv) m1)) hl.1 hP hS (q4 := 766) (by decide +kernel) (by decide +kernel) ⟨7, _, rfl, rfl, by decide +kernel⟩ ((rfl : _ = 2).trans (by decide +kernel : (2 : Nat) = (xe 105).2.2.2.2.2.2.1)) (by decide +kernel) (by show wt [] ≤ 8; decide) dl_742 (p105 hR (xs (6 * i + 1)) (xs (6 * i + 2)) (fun rv m1 hm => ⟨rv, rfl, hm⟩)) (fun r m1 H1 locs1 hq hP hS => ?_)
  obtain ⟨rv, hrv, hm⟩ := hq
  subst hrv
  refine lv_aload_n hx hb dl_745 rfl (lv_at hl 2 rfl) ?_
  refine sc_ld C hl hS (k := 1) (by decide) hi rfl dl_746 dl_747 dl_748 dl_749 dl_750 ?_
  refine sc_ld C hl hS (k := 2) (by decide) hi rfl dl_751 dl_752 dl_753 dl_754 dl_755 ?_
  refine law_call C (y := 207) (o := 86) (as := [.int (xs (6 * i + 1)), .int (xs (6 * i + 2))]) (rest := [.long rv]) (Q1 := fun r m2 => r = some (.long rv) ∧ REL m2) hl.1 hP hS (q4 := 1298) (by decide +kernel) (by decide +kernel) ⟨8, _, rfl, rfl, by decide +kernel⟩ ((rfl : _ = 2).trans (by decide +kernel : (2 : Nat) = (xe 207).2.2.2.2.2.2.1)) (by decide +kernel) (by show wt [.long rv] ≤ 8; exact Nat.le_of_ble_eq_true rfl) dl_756 (hm _ (fun m2 h => ⟨rfl, h⟩)) (fun r m2 H2 locs2 hq hP hS => ?_)
  obtain ⟨hrv, hR2⟩ := hq
  subst hrv
  refine W.lcmp hx hb dl_759 ?_
  refine lv_if_eq (tgt := 1175) hx hb dl_760 (by decide) (fun _ => kk m2 H2 locs2 hR2 hP hS) (fun z => absurd (lg_cmp_self rv) z)
theorem law_17 {G : xG} {p : Program} {e : Env} {s : State} {m : MethodId} {below : List Frame} {meth : Method} {c : Code} {b L : Nat} {xs : Nat → Int32} {H : Heap} {locs : List Loc} {ls : Array Slot} {i : Nat} {mm : xM} (C : LX G p s m meth c b L xs) (hl : lv_has ls 4 (lawL G b i)) (hi : 6 * i + 6 ≤ L) (hR : REL mm) (hP : va_P G.2.1 xcl (wl G mm) H) (hS : va_S (xA G) s.heap H locs) (kk : ∀ m' H1 locs1, REL m' → va_P G.2.1 xcl (wl G m') H1 → va_S (xA G) s.heap H1 locs1 → LW G p e s m below meth c b H1 locs1 1175 ls []) : LW G p e s m below meth c b H locs 765 ls [] := by
  have hx := C.1.1
  have hb := C.1.2.1
  have hown := C.1.2.2.2.2.1
  have hts0 := C.1.2.2.2.2.2.1
  refine lv_aload_n hx hb dl_765 rfl (lv_at hl 1 rfl) ?_
  refine sc_ld C hl hS (k := 1) (by decide) hi rfl dl_766 dl_767 dl_768 dl_769 dl_770 ?_
  refine law_call C (y := 106) (o := 0) (as := [.int (xs (6 * i + 1))]) (rest := []) (Q1 := (fun r m1 => ∃ rv, r = some (.long rv) ∧ MID G 208 (.ref 86 :: [.int (xs (6 * i + 1))]) (.long rv) m1)) hl.1 hP hS (q4 := 772) (by decide +kernel) (by decide +kernel) ⟨7, _, rfl, rfl, by decide +kernel⟩ ((rfl : _ = 1).trans (by decide +kernel : (1 : Nat) = (xe 106).2.2.2.2.2.2.1)) (by decide +kernel) (by show wt [] ≤ 8; decide) dl_771 (p106 hR (xs (6 * i + 1)) (fun rv m1 hm => ⟨rv, rfl, hm⟩)) (fun r m1 H1 locs1 hq hP hS => ?_)
  obtain ⟨rv, hrv, hm⟩ := hq
  subst hrv
  refine lv_aload_n hx hb dl_774 rfl (lv_at hl 2 rfl) ?_
  refine sc_ld C hl hS (k := 1) (by decide) hi rfl dl_775 dl_776 dl_777 dl_778 dl_779 ?_
  refine law_call C (y := 208) (o := 86) (as := [.int (xs (6 * i + 1))]) (rest := [.long rv]) (Q1 := fun r m2 => r = some (.long rv) ∧ REL m2) hl.1 hP hS (q4 := 1302) (by decide +kernel) (by decide +kernel) ⟨8, _, rfl, rfl, by decide +kernel⟩ ((rfl : _ = 1).trans (by decide +kernel : (1 : Nat) = (xe 208).2.2.2.2.2.2.1)) (by decide +kernel) (by show wt [.long rv] ≤ 8; exact Nat.le_of_ble_eq_true rfl) dl_780 (hm _ (fun m2 h => ⟨rfl, h⟩)) (fun r m2 H2 locs2 hq hP hS => ?_)
  obtain ⟨hrv, hR2⟩ := hq
  subst hrv
  refine W.lcmp hx hb dl_783 ?_
  refine lv_if_eq (tgt := 1175) hx hb dl_784 (by decide) (fun _ => kk m2 H2 locs2 hR2 hP hS) (fun z => absurd (lg_cmp_self rv) z)
theorem law_18 {G : xG} {p : Program} {e : Env} {s : State} {m : MethodId} {below : List Frame} {meth : Method} {c : Code} {b L : Nat} {xs : Nat → Int32} {H : Heap} {locs : List Loc} {ls : Array Slot} {i : Nat} {mm : xM} (C : LX G p s m meth c b L xs) (hl : lv_has ls 4 (lawL G b i)) (hi : 6 * i + 6 ≤ L) (hR : REL mm) (hP : va_P G.2.1 xcl (wl G mm) H) (hS : va_S (xA G) s.heap H locs) (kk : ∀ m' H1 locs1, REL m' → va_P G.2.1 xcl (wl G m') H1 → va_S (xA G) s.heap H1 locs1 → LW G p e s m below meth c b H1 locs1 1175 ls []) : LW G p e s m below meth c b H locs 789 ls [] := by
  have hx := C.1.1
  have hb := C.1.2.1
  have hown := C.1.2.2.2.2.1
  have hts0 := C.1.2.2.2.2.2.1
  refine lv_aload_n hx hb dl_789 rfl (lv_at hl 1 rfl) ?_
  refine sc_ld C hl hS (k := 1) (by decide) hi rfl dl_790 dl_791 dl_792 dl_793 dl_794 ?_
  refine sc_ld C hl hS (k := 2) (by decide) hi rfl dl_795 dl_796 dl_797 dl_798 dl_799 ?_
  refine sc_ld C hl hS (k := 3) (by decide) hi rfl dl_800 dl_801 dl_802 dl_803 dl_804 ?_
  refine sc_ld C hl hS (k := 4) (by decide) hi rfl dl_805 dl_806 dl_807 dl_808 dl_809 ?_
  refine law_call C (y := 110) (o := 0) (as := [.int (xs (6 * i + 1)), .int (xs (6 * i + 2)), .int (xs (6 * i + 3)), .int (xs (6 * i + 4))]) (rest := []) (Q1 := (fun r m1 => ∃ rv, r = some (.long rv) ∧ MID G 210 (.ref 86 :: [.int (xs (6 * i + 1)), .int (xs (6 * i + 2)), .int (xs (6 * i + 3)), .int (xs (6 * i + 4))]) (.long rv) m1)) hl.1 hP hS (q4 := 785) (by decide +kernel) (by decide +kernel) ⟨7, _, rfl, rfl, by decide +kernel⟩ ((rfl : _ = 4).trans (by decide +kernel : (4 : Nat) = (xe 110).2.2.2.2.2.2.1)) (by decide +kernel) (by show wt [] ≤ 8; decide) dl_810 (p110 hR (xs (6 * i + 1)) (xs (6 * i + 2)) (xs (6 * i + 3)) (xs (6 * i + 4)) (fun rv m1 hm => ⟨rv, rfl, hm⟩)) (fun r m1 H1 locs1 hq hP hS => ?_)
  obtain ⟨rv, hrv, hm⟩ := hq
  subst hrv
  refine lv_aload_n hx hb dl_813 rfl (lv_at hl 2 rfl) ?_
  refine sc_ld C hl hS (k := 1) (by decide) hi rfl dl_814 dl_815 dl_816 dl_817 dl_818 ?_
  refine sc_ld C hl hS (k := 2) (by decide) hi rfl dl_819 dl_820 dl_821 dl_822 dl_823 ?_
  refine sc_ld C hl hS (k := 3) (by decide) hi rfl dl_824 dl_825 dl_826 dl_827 dl_828 ?_
  refine sc_ld C hl hS (k := 4) (by decide) hi rfl dl_829 dl_830 dl_831 dl_832 dl_833 ?_
  refine law_call C (y := 210) (o := 86) (as := [.int (xs (6 * i + 1)), .int (xs (6 * i + 2)), .int (xs (6 * i + 3)), .int (xs (6 * i + 4))]) (rest := [.long rv]) (Q1 := fun r m2 => r = some (.long rv) ∧ REL m2) hl.1 hP hS (q4 := 1310) (by decide +kernel) (by decide +kernel) ⟨8, _, rfl, rfl, by decide +kernel⟩ ((rfl : _ = 4).trans (by decide +kernel : (4 : Nat) = (xe 210).2.2.2.2.2.2.1)) (by decide +kernel) (by show wt [.long rv] ≤ 8; exact Nat.le_of_ble_eq_true rfl) dl_834 (hm _ (fun m2 h => ⟨rfl, h⟩)) (fun r m2 H2 locs2 hq hP hS => ?_)
  obtain ⟨hrv, hR2⟩ := hq
  subst hrv
  refine W.lcmp hx hb dl_837 ?_
  refine lv_if_eq (tgt := 1175) hx hb dl_838 (by decide) (fun _ => kk m2 H2 locs2 hR2 hP hS) (fun z => absurd (lg_cmp_self rv) z)
theorem law_19 {G : xG} {p : Program} {e : Env} {s : State} {m : MethodId} {below : List Frame} {meth : Method} {c : Code} {b L : Nat} {xs : Nat → Int32} {H : Heap} {locs : List Loc} {ls : Array Slot} {i : Nat} {mm : xM} (C : LX G p s m meth c b L xs) (hl : lv_has ls 4 (lawL G b i)) (hi : 6 * i + 6 ≤ L) (hR : REL mm) (hP : va_P G.2.1 xcl (wl G mm) H) (hS : va_S (xA G) s.heap H locs) (kk : ∀ m' H1 locs1, REL m' → va_P G.2.1 xcl (wl G m') H1 → va_S (xA G) s.heap H1 locs1 → LW G p e s m below meth c b H1 locs1 1175 ls []) : LW G p e s m below meth c b H locs 843 ls [] := by
  have hx := C.1.1
  have hb := C.1.2.1
  have hown := C.1.2.2.2.2.1
  have hts0 := C.1.2.2.2.2.2.1
  refine lv_aload_n hx hb dl_843 rfl (lv_at hl 1 rfl) ?_
  refine sc_ld C hl hS (k := 1) (by decide) hi rfl dl_844 dl_845 dl_846 dl_847 dl_848 ?_
  refine sc_ld C hl hS (k := 2) (by decide) hi rfl dl_849 dl_850 dl_851 dl_852 dl_853 ?_
  refine sc_ld C hl hS (k := 3) (by decide) hi rfl dl_854 dl_855 dl_856 dl_857 dl_858 ?_
  refine sc_ld C hl hS (k := 4) (by decide) hi rfl dl_859 dl_860 dl_861 dl_862 dl_863 ?_
  refine law_call C (y := 117) (o := 0) (as := [.int (xs (6 * i + 1)), .int (xs (6 * i + 2)), .int (xs (6 * i + 3)), .int (xs (6 * i + 4))]) (rest := []) (Q1 := (fun r m1 => ∃ rv, r = some (.long rv) ∧ MID G 214 (.ref 86 :: [.int (xs (6 * i + 1)), .int (xs (6 * i + 2)), .int (xs (6 * i + 3)), .int (xs (6 * i + 4))]) (.long rv) m1)) hl.1 hP hS (q4 := 815) (by decide +kernel) (by decide +kernel) ⟨7, _, rfl, rfl, by decide +kernel⟩ ((rfl : _ = 4).trans (by decide +kernel : (4 : Nat) = (xe 117).2.2.2.2.2.2.1)) (by decide +kernel) (by show wt [] ≤ 8; decide) dl_864 (p117 hR (xs (6 * i + 1)) (xs (6 * i + 2)) (xs (6 * i + 3)) (xs (6 * i + 4)) (fun rv m1 hm => ⟨rv, rfl, hm⟩)) (fun r m1 H1 locs1 hq hP hS => ?_)
  obtain ⟨rv, hrv, hm⟩ := hq
  subst hrv
  refine lv_aload_n hx hb dl_867 rfl (lv_at hl 2 rfl) ?_
  refine sc_ld C hl hS (k := 1) (by decide) hi rfl dl_868 dl_869 dl_870 dl_871 dl_872 ?_
  refine sc_ld C hl hS (k := 2) (by decide) hi rfl dl_873 dl_874 dl_875 dl_876 dl_877 ?_
  refine sc_ld C hl hS (k := 3) (by decide) hi rfl dl_878 dl_879 dl_880 dl_881 dl_882 ?_
  refine sc_ld C hl hS (k := 4) (by decide) hi rfl dl_883 dl_884 dl_885 dl_886 dl_887 ?_
  refine law_call C (y := 214) (o := 86) (as := [.int (xs (6 * i + 1)), .int (xs (6 * i + 2)), .int (xs (6 * i + 3)), .int (xs (6 * i + 4))]) (rest := [.long rv]) (Q1 := fun r m2 => r = some (.long rv) ∧ REL m2) hl.1 hP hS (q4 := 1328) (by decide +kernel) (by decide +kernel) ⟨8, _, rfl, rfl, by decide +kernel⟩ ((rfl : _ = 4).trans (by decide +kernel : (4 : Nat) = (xe 214).2.2.2.2.2.2.1)) (by decide +kernel) (by show wt [.long rv] ≤ 8; exact Nat.le_of_ble_eq_true rfl) dl_888 (hm _ (fun m2 h => ⟨rfl, h⟩)) (fun r m2 H2 locs2 hq hP hS => ?_)
  obtain ⟨hrv, hR2⟩ := hq
  subst hrv
  refine W.lcmp hx hb dl_891 ?_
  refine lv_if_eq (tgt := 1175) hx hb dl_892 (by decide) (fun _ => kk m2 H2 locs2 hR2 hP hS) (fun z => absurd (lg_cmp_self rv) z)
theorem law_20 {G : xG} {p : Program} {e : Env} {s : State} {m : MethodId} {below : List Frame} {meth : Method} {c : Code} {b L : Nat} {xs : Nat → Int32} {H : Heap} {locs : List Loc} {ls : Array Slot} {i : Nat} {mm : xM} (C : LX G p s m meth c b L xs) (hl : lv_has ls 4 (lawL G b i)) (hi : 6 * i + 6 ≤ L) (hR : REL mm) (hP : va_P G.2.1 xcl (wl G mm) H) (hS : va_S (xA G) s.heap H locs) (kk : ∀ m' H1 locs1, REL m' → va_P G.2.1 xcl (wl G m') H1 → va_S (xA G) s.heap H1 locs1 → LW G p e s m below meth c b H1 locs1 1175 ls []) : LW G p e s m below meth c b H locs 897 ls [] := by
  have hx := C.1.1
  have hb := C.1.2.1
  have hown := C.1.2.2.2.2.1
  have hts0 := C.1.2.2.2.2.2.1
  refine lv_aload_n hx hb dl_897 rfl (lv_at hl 1 rfl) ?_
  refine sc_ld C hl hS (k := 1) (by decide) hi rfl dl_898 dl_899 dl_900 dl_901 dl_902 ?_
  refine sc_ld C hl hS (k := 2) (by decide) hi rfl dl_903 dl_904 dl_905 dl_906 dl_907 ?_
  refine sc_ld C hl hS (k := 3) (by decide) hi rfl dl_908 dl_909 dl_910 dl_911 dl_912 ?_
  refine law_call C (y := 123) (o := 0) (as := [.int (xs (6 * i + 1)), .int (xs (6 * i + 2)), .int (xs (6 * i + 3))]) (rest := []) (Q1 := (fun r m1 => ∃ rv, r = some (.long rv) ∧ MID G 219 (.ref 86 :: [.int (xs (6 * i + 1)), .int (xs (6 * i + 2)), .int (xs (6 * i + 3))]) (.long rv) m1)) hl.1 hP hS (q4 := 836) (by decide +kernel) (by decide +kernel) ⟨7, _, rfl, rfl, by decide +kernel⟩ ((rfl : _ = 3).trans (by decide +kernel : (3 : Nat) = (xe 123).2.2.2.2.2.2.1)) (by decide +kernel) (by show wt [] ≤ 8; decide) dl_913 (p123 hR (xs (6 * i + 1)) (xs (6 * i + 2)) (xs (6 * i + 3)) (fun rv m1 hm => ⟨rv, rfl, hm⟩)) (fun r m1 H1 locs1 hq hP hS => ?_)
  obtain ⟨rv, hrv, hm⟩ := hq
  subst hrv
  refine lv_aload_n hx hb dl_916 rfl (lv_at hl 2 rfl) ?_
  refine sc_ld C hl hS (k := 1) (by decide) hi rfl dl_917 dl_918 dl_919 dl_920 dl_921 ?_
  refine sc_ld C hl hS (k := 2) (by decide) hi rfl dl_922 dl_923 dl_924 dl_925 dl_926 ?_
  refine sc_ld C hl hS (k := 3) (by decide) hi rfl dl_927 dl_928 dl_929 dl_930 dl_931 ?_
  refine law_call C (y := 219) (o := 86) (as := [.int (xs (6 * i + 1)), .int (xs (6 * i + 2)), .int (xs (6 * i + 3))]) (rest := [.long rv]) (Q1 := fun r m2 => r = some (.long rv) ∧ REL m2) hl.1 hP hS (q4 := 1344) (by decide +kernel) (by decide +kernel) ⟨8, _, rfl, rfl, by decide +kernel⟩ ((rfl : _ = 3).trans (by decide +kernel : (3 : Nat) = (xe 219).2.2.2.2.2.2.1)) (by decide +kernel) (by show wt [.long rv] ≤ 8; exact Nat.le_of_ble_eq_true rfl) dl_932 (hm _ (fun m2 h => ⟨rfl, h⟩)) (fun r m2 H2 locs2 hq hP hS => ?_)
  obtain ⟨hrv, hR2⟩ := hq
  subst hrv
  refine W.lcmp hx hb dl_935 ?_
  refine lv_if_eq (tgt := 1175) hx hb dl_936 (by decide) (fun _ => kk m2 H2 locs2 hR2 hP hS) (fun z => absurd (lg_cmp_self rv) z)
theorem law_21 {G : xG} {p : Program} {e : Env} {s : State} {m : MethodId} {below : List Frame} {meth : Method} {c : Code} {b L : Nat} {xs : Nat → Int32} {H : Heap} {locs : List Loc} {ls : Array Slot} {i : Nat} {mm : xM} (C : LX G p s m meth c b L xs) (hl : lv_has ls 4 (lawL G b i)) (hi : 6 * i + 6 ≤ L) (hR : REL mm) (hP : va_P G.2.1 xcl (wl G mm) H) (hS : va_S (xA G) s.heap H locs) (kk : ∀ m' H1 locs1, REL m' → va_P G.2.1 xcl (wl G m') H1 → va_S (xA G) s.heap H1 locs1 → LW G p e s m below meth c b H1 locs1 1175 ls []) : LW G p e s m below meth c b H locs 941 ls [] := by
  have hx := C.1.1
  have hb := C.1.2.1
  have hown := C.1.2.2.2.2.1
  have hts0 := C.1.2.2.2.2.2.1
  refine lv_aload_n hx hb dl_941 rfl (lv_at hl 1 rfl) ?_
  refine sc_ld C hl hS (k := 1) (by decide) hi rfl dl_942 dl_943 dl_944 dl_945 dl_946 ?_
  refine sc_ld C hl hS (k := 2) (by decide) hi rfl dl_947 dl_948 dl_949 dl_950 dl_951 ?_
  refine law_call C (y := 124) (o := 0) (as := [.int (xs (6 * i + 1)), .int (xs (6 * i + 2))]) (rest := []) (Q1 := (fun r m1 => ∃ rv, r = some (.long rv) ∧ MID G 220 (.ref 86 :: [.int (xs (6 * i + 1)), .int (xs (6 * i + 2))]) (.long rv) m1)) hl.1 hP hS (q4 := 841) (by decide +kernel) (by decide +kernel) ⟨7, _, rfl, rfl, by decide +kernel⟩ ((rfl : _ = 2).trans (by decide +kernel : (2 : Nat) = (xe 124).2.2.2.2.2.2.1)) (by decide +kernel) (by show wt [] ≤ 8; decide) dl_952 (p124 hR (xs (6 * i + 1)) (xs (6 * i + 2)) (fun rv m1 hm => ⟨rv, rfl, hm⟩)) (fun r m1 H1 locs1 hq hP hS => ?_)
  obtain ⟨rv, hrv, hm⟩ := hq
  subst hrv
  refine lv_aload_n hx hb dl_955 rfl (lv_at hl 2 rfl) ?_
  refine sc_ld C hl hS (k := 1) (by decide) hi rfl dl_956 dl_957 dl_958 dl_959 dl_960 ?_
  refine sc_ld C hl hS (k := 2) (by decide) hi rfl dl_961 dl_962 dl_963 dl_964 dl_965 ?_
  refine law_call C (y := 220) (o := 86) (as := [.int (xs (6 * i + 1)), .int (xs (6 * i + 2))]) (rest := [.long rv]) (Q1 := fun r m2 => r = some (.long rv) ∧ REL m2) hl.1 hP hS (q4 := 1350) (by decide +kernel) (by decide +kernel) ⟨8, _, rfl, rfl, by decide +kernel⟩ ((rfl : _ = 2).trans (by decide +kernel : (2 : Nat) = (xe 220).2.2.2.2.2.2.1)) (by decide +kernel) (by show wt [.long rv] ≤ 8; exact Nat.le_of_ble_eq_true rfl) dl_966 (hm _ (fun m2 h => ⟨rfl, h⟩)) (fun r m2 H2 locs2 hq hP hS => ?_)
  obtain ⟨hrv, hR2⟩ := hq
  subst hrv
  refine W.lcmp hx hb dl_969 ?_
  refine lv_if_eq (tgt := 1175) hx hb dl_970 (by decide) (fun _ => kk m2 H2 locs2 hR2 hP hS) (fun z => absurd (lg_cmp_self rv) z)
theorem law_22 {G : xG} {p : Program} {e : Env} {s : State} {m : MethodId} {below : List Frame} {meth : Method} {c : Code} {b L : Nat} {xs : Nat → Int32} {H : Heap} {locs : List Loc} {ls : Array Slot} {i : Nat} {mm : xM} (C : LX G p s m meth c b L xs) (hl : lv_has ls 4 (lawL G b i)) (hi : 6 * i + 6 ≤ L) (hR : REL mm) (hP : va_P G.2.1 xcl (wl G mm) H) (hS : va_S (xA G) s.heap H locs) (kk : ∀ m' H1 locs1, REL m' → va_P G.2.1 xcl (wl G m') H1 → va_S (xA G) s.heap H1 locs1 → LW G p e s m below meth c b H1 locs1 1175 ls []) : LW G p e s m below meth c b H locs 975 ls [] := by
  have hx := C.1.1
  have hb := C.1.2.1
  have hown := C.1.2.2.2.2.1
  have hts0 := C.1.2.2.2.2.2.1
  refine lv_aload_n hx hb dl_975 rfl (lv_at hl 1 rfl) ?_
  refine sc_ld C hl hS (k := 1) (by decide) hi rfl dl_976 dl_977 dl_978 dl_979 dl_980 ?_
  refine law_call C (y := 126) (o := 0) (as := [.int (xs (6 * i + 1))]) (rest := []) (Q1 := (fun r m1 => ∃ rv, r = some (.long rv) ∧ MID G 221 (.ref 86 :: [.int (xs (6 * i + 1))]) (.long rv) m1)) hl.1 hP hS (q4 := 849) (by decide +kernel) (by decide +kernel) ⟨7, _, rfl, rfl, by decide +kernel⟩ ((rfl : _ = 1).trans (by decide +kernel : (1 : Nat) = (xe 126).2.2.2.2.2.2.1)) (by decide +kernel) (by show wt [] ≤ 8; decide) dl_981 (p126 hR (xs (6 * i + 1)) (fun rv m1 hm => ⟨rv, rfl, hm⟩)) (fun r m1 H1 locs1 hq hP hS => ?_)
  obtain ⟨rv, hrv, hm⟩ := hq
  subst hrv
  refine lv_aload_n hx hb dl_984 rfl (lv_at hl 2 rfl) ?_
  refine sc_ld C hl hS (k := 1) (by decide) hi rfl dl_985 dl_986 dl_987 dl_988 dl_989 ?_
  refine law_call C (y := 221) (o := 86) (as := [.int (xs (6 * i + 1))]) (rest := [.long rv]) (Q1 := fun r m2 => r = some (.long rv) ∧ REL m2) hl.1 hP hS (q4 := 1355) (by decide +kernel) (by decide +kernel) ⟨8, _, rfl, rfl, by decide +kernel⟩ ((rfl : _ = 1).trans (by decide +kernel : (1 : Nat) = (xe 221).2.2.2.2.2.2.1)) (by decide +kernel) (by show wt [.long rv] ≤ 8; exact Nat.le_of_ble_eq_true rfl) dl_990 (hm _ (fun m2 h => ⟨rfl, h⟩)) (fun r m2 H2 locs2 hq hP hS => ?_)
  obtain ⟨hrv, hR2⟩ := hq
  subst hrv
  refine W.lcmp hx hb dl_993 ?_
  refine lv_if_eq (tgt := 1175) hx hb dl_994 (by decide) (fun _ => kk m2 H2 locs2 hR2 hP hS) (fun z => absurd (lg_cmp_self rv) z)
theorem law_23 {G : xG} {p : Program} {e : Env} {s : State} {m : MethodId} {below : List Frame} {meth : Method} {c : Code} {b L : Nat} {xs : Nat → Int32} {H : Heap} {locs : List Loc} {ls : Array Slot} {i : Nat} {mm : xM} (C : LX G p s m meth c b L xs) (hl : lv_has ls 4 (lawL G b i)) (hi : 6 * i + 6 ≤ L) (hR : REL mm) (hP : va_P G.2.1 xcl (wl G mm) H) (hS : va_S (xA G) s.heap H locs) (kk : ∀ m' H1 locs1, REL m' → va_P G.2.1 xcl (wl G m') H1 → va_S (xA G) s.heap H1 locs1 → LW G p e s m below meth c b H1 locs1 1175 ls []) : LW G p e s m below meth c b H locs 999 ls [] := by
  have hx := C.1.1
  have hb := C.1.2.1
  have hown := C.1.2.2.2.2.1
  have hts0 := C.1.2.2.2.2.2.1
  refine lv_aload_n hx hb dl_999 rfl (lv_at hl 1 rfl) ?_
  refine sc_ld C hl hS (k := 1) (by decide) hi rfl dl_1000 dl_1001 dl_1002 dl_1003 dl_1004 ?_
  refine law_call C (y := 128) (o := 0) (as := [.int (xs (6 * i + 1))]) (rest := []) (Q1 := (fun r m1 => ∃ rv, r = some (.long rv) ∧ MID G 222 (.ref 86 :: [.int (xs (6 * i + 1))]) (.long rv) m1)) hl.1 hP hS (q4 := 857) (by decide +kernel) (by decide +kernel) ⟨7, _, rfl, rfl, by decide +kernel⟩ ((rfl : _ = 1).trans (by decide +kernel : (1 : Nat) = (xe 128).2.2.2.2.2.2.1)) (by decide +kernel) (by show wt [] ≤ 8; decide) dl_1005 (p128 hR (xs (6 * i + 1)) (fun rv m1 hm => ⟨rv, rfl, hm⟩)) (fun r m1 H1 locs1 hq hP hS => ?_)
  obtain ⟨rv, hrv, hm⟩ := hq
  subst hrv
  refine lv_aload_n hx hb dl_1008 rfl (lv_at hl 2 rfl) ?_
  refine sc_ld C hl hS (k := 1) (by decide) hi rfl dl_1009 dl_1010 dl_1011 dl_1012 dl_1013 ?_
  refine law_call C (y := 222) (o := 86) (as := [.int (xs (6 * i + 1))]) (rest := [.long rv]) (Q1 := fun r m2 => r = some (.long rv) ∧ REL m2) hl.1 hP hS (q4 := 1359) (by decide +kernel) (by decide +kernel) ⟨8, _, rfl, rfl, by decide +kernel⟩ ((rfl : _ = 1).trans (by decide +kernel : (1 : Nat) = (xe 222).2.2.2.2.2.2.1)) (by decide +kernel) (by show wt [.long rv] ≤ 8; exact Nat.le_of_ble_eq_true rfl) dl_1014 (hm _ (fun m2 h => ⟨rfl, h⟩)) (fun r m2 H2 locs2 hq hP hS => ?_)
  obtain ⟨hrv, hR2⟩ := hq
  subst hrv
  refine W.lcmp hx hb dl_1017 ?_
  refine lv_if_eq (tgt := 1175) hx hb dl_1018 (by decide) (fun _ => kk m2 H2 locs2 hR2 hP hS) (fun z => absurd (lg_cmp_self rv) z)
theorem law_24 {G : xG} {p : Program} {e : Env} {s : State} {m : MethodId} {below : List Frame} {meth : Method} {c : Code} {b L : Nat} {xs : Nat → Int32} {H : Heap} {locs : List Loc} {ls : Array Slot} {i : Nat} {mm : xM} (C : LX G p s m meth c b L xs) (hl : lv_has ls 4 (lawL G b i)) (hi : 6 * i + 6 ≤ L) (hR : REL mm) (hP : va_P G.2.1 xcl (wl G mm) H) (hS : va_S (xA G) s.heap H locs) (kk : ∀ m' H1 locs1, REL m' → va_P G.2.1 xcl (wl G m') H1 → va_S (xA G) s.heap H1 locs1 → LW G p e s m below meth c b H1 locs1 1175 ls []) : LW G p e s m below meth c b H locs 1023 ls [] := by
  have hx := C.1.1
  have hb := C.1.2.1
  have hown := C.1.2.2.2.2.1
  have hts0 := C.1.2.2.2.2.2.1
  refine lv_aload_n hx hb dl_1023 rfl (lv_at hl 1 rfl) ?_
  refine sc_ld C hl hS (k := 1) (by decide) hi rfl dl_1024 dl_1025 dl_1026 dl_1027 dl_1028 ?_
  refine law_call C (y := 129) (o := 0) (as := [.int (xs (6 * i + 1))]) (rest := []) (Q1 := (fun r m1 => ∃ rv, r = some (.long rv) ∧ MID G 223 (.ref 86 :: [.int (xs (6 * i + 1))]) (.long rv) m1)) hl.1 hP hS (q4 := 861) (by decide +kernel) (by decide +kernel) ⟨7, _, rfl, rfl, by decide +kernel⟩ ((rfl : _ = 1).trans (by decide +kernel : (1 : Nat) = (xe 129).2.2.2.2.2.2.1)) (by decide +kernel) (by show wt [] ≤ 8; decide) dl_1029 (p129 hR (xs (6 * i + 1)) (fun rv m1 hm => ⟨rv, rfl, hm⟩)) (fun r m1 H1 locs1 hq hP hS => ?_)
  obtain ⟨rv, hrv, hm⟩ := hq
  subst hrv
  refine lv_aload_n hx hb dl_1032 rfl (lv_at hl 2 rfl) ?_
  refine sc_ld C hl hS (k := 1) (by decide) hi rfl dl_1033 dl_1034 dl_1035 dl_1036 dl_1037 ?_
  refine law_call C (y := 223) (o := 86) (as := [.int (xs (6 * i + 1))]) (rest := [.long rv]) (Q1 := fun r m2 => r = some (.long rv) ∧ REL m2) hl.1 hP hS (q4 := 1363) (by decide +kernel) (by decide +kernel) ⟨8, _, rfl, rfl, by decide +kernel⟩ ((rfl : _ = 1).trans (by decide +kernel : (1 : Nat) = (xe 223).2.2.2.2.2.2.1)) (by decide +kernel) (by show wt [.long rv] ≤ 8; exact Nat.le_of_ble_eq_true rfl) dl_1038 (hm _ (fun m2 h => ⟨rfl, h⟩)) (fun r m2 H2 locs2 hq hP hS => ?_)
  obtain ⟨hrv, hR2⟩ := hq
  subst hrv
  refine W.lcmp hx hb dl_1041 ?_
  refine lv_if_eq (tgt := 1175) hx hb dl_1042 (by decide) (fun _ => kk m2 H2 locs2 hR2 hP hS) (fun z => absurd (lg_cmp_self rv) z)
theorem law_25 {G : xG} {p : Program} {e : Env} {s : State} {m : MethodId} {below : List Frame} {meth : Method} {c : Code} {b L : Nat} {xs : Nat → Int32} {H : Heap} {locs : List Loc} {ls : Array Slot} {i : Nat} {mm : xM} (C : LX G p s m meth c b L xs) (hl : lv_has ls 4 (lawL G b i)) (hi : 6 * i + 6 ≤ L) (hR : REL mm) (hP : va_P G.2.1 xcl (wl G mm) H) (hS : va_S (xA G) s.heap H locs) (kk : ∀ m' H1 locs1, REL m' → va_P G.2.1 xcl (wl G m') H1 → va_S (xA G) s.heap H1 locs1 → LW G p e s m below meth c b H1 locs1 1175 ls []) : LW G p e s m below meth c b H locs 1047 ls [] := by
  have hx := C.1.1
  have hb := C.1.2.1
  have hown := C.1.2.2.2.2.1
  have hts0 := C.1.2.2.2.2.2.1
  refine lv_aload_n hx hb dl_1047 rfl (lv_at hl 1 rfl) ?_
  refine sc_ld C hl hS (k := 1) (by decide) hi rfl dl_1048 dl_1049 dl_1050 dl_1051 dl_1052 ?_
  refine sc_ld C hl hS (k := 2) (by decide) hi rfl dl_1053 dl_1054 dl_1055 dl_1056 dl_1057 ?_
  refine law_call C (y := 131) (o := 0) (as := [.int (xs (6 * i + 1)), .int (xs (6 * i + 2))]) (rest := []) (Q1 := (fun r m1 => ∃ rv, r = some (.long rv) ∧ MID G 225 (.ref 86 :: [.int (xs (6 * i + 1)), .int (xs (6 * i + 2))]) (.long rv) m1)) hl.1 hP hS (q4 := 868) (by decide +kernel) (by decide +kernel) ⟨7, _, rfl, rfl, by decide +kernel⟩ ((rfl : _ = 2).trans (by decide +kernel : (2 : Nat) = (xe 131).2.2.2.2.2.2.1)) (by decide +kernel) (by show wt [] ≤ 8; decide) dl_1058 (p131 hR (xs (6 * i + 1)) (xs (6 * i + 2)) (fun rv m1 hm => ⟨rv, rfl, hm⟩)) (fun r m1 H1 locs1 hq hP hS => ?_)
  obtain ⟨rv, hrv, hm⟩ := hq
  subst hrv
  refine lv_aload_n hx hb dl_1061 rfl (lv_at hl 2 rfl) ?_
  refine sc_ld C hl hS (k := 1) (by decide) hi rfl dl_1062 dl_1063 dl_1064 dl_1065 dl_1066 ?_
  refine sc_ld C hl hS (k := 2) (by decide) hi rfl dl_1067 dl_1068 dl_1069 dl_1070 dl_1071 ?_
  refine law_call C (y := 225) (o := 86) (as := [.int (xs (6 * i + 1)), .int (xs (6 * i + 2))]) (rest := [.long rv]) (Q1 := fun r m2 => r = some (.long rv) ∧ REL m2) hl.1 hP hS (q4 := 1371) (by decide +kernel) (by decide +kernel) ⟨8, _, rfl, rfl, by decide +kernel⟩ ((rfl : _ = 2).trans (by decide +kernel : (2 : Nat) = (xe 225).2.2.2.2.2.2.1)) (by decide +kernel) (by show wt [.long rv] ≤ 8; exact Nat.le_of_ble_eq_true rfl) dl_1072 (hm _ (fun m2 h => ⟨rfl, h⟩)) (fun r m2 H2 locs2 hq hP hS => ?_)
  obtain ⟨hrv, hR2⟩ := hq
  subst hrv
  refine W.lcmp hx hb dl_1075 ?_
  refine lv_if_eq (tgt := 1175) hx hb dl_1076 (by decide) (fun _ => kk m2 H2 locs2 hR2 hP hS) (fun z => absurd (lg_cmp_self rv) z)
theorem law_26 {G : xG} {p : Program} {e : Env} {s : State} {m : MethodId} {below : List Frame} {meth : Method} {c : Code} {b L : Nat} {xs : Nat → Int32} {H : Heap} {locs : List Loc} {ls : Array Slot} {i : Nat} {mm : xM} (C : LX G p s m meth c b L xs) (hl : lv_has ls 4 (lawL G b i)) (hi : 6 * i + 6 ≤ L) (hR : REL mm) (hP : va_P G.2.1 xcl (wl G mm) H) (hS : va_S (xA G) s.heap H locs) (kk : ∀ m' H1 locs1, REL m' → va_P G.2.1 xcl (wl G m') H1 → va_S (xA G) s.heap H1 locs1 → LW G p e s m below meth c b H1 locs1 1175 ls []) : LW G p e s m below meth c b H locs 1081 ls [] := by
  have hx := C.1.1
  have hb := C.1.2.1
  have hown := C.1.2.2.2.2.1
  have hts0 := C.1.2.2.2.2.2.1
  refine lv_aload_n hx hb dl_1081 rfl (lv_at hl 1 rfl) ?_
  refine sc_ld C hl hS (k := 1) (by decide) hi rfl dl_1082 dl_1083 dl_1084 dl_1085 dl_1086 ?_
  refine sc_ld C hl hS (k := 2) (by decide) hi rfl dl_1087 dl_1088 dl_1089 dl_1090 dl_1091 ?_
  refine law_call C (y := 134) (o := 0) (as := [.int (xs (6 * i + 1)), .int (xs (6 * i + 2))]) (rest := []) (Q1 := (fun r m1 => ∃ rv, r = some (.long rv) ∧ MID G 227 (.ref 86 :: [.int (xs (6 * i + 1)), .int (xs (6 * i + 2))]) (.long rv) m1)) hl.1 hP hS (q4 := 881) (by decide +kernel) (by decide +kernel) ⟨7, _, rfl, rfl, by decide +kernel⟩ ((rfl : _ = 2).trans (by decide +kernel : (2 : Nat) = (xe 134).2.2.2.2.2.2.1)) (by decide +kernel) (by show wt [] ≤ 8; decide) dl_1092 (p134 hR (xs (6 * i + 1)) (xs (6 * i + 2)) (fun rv m1 hm => ⟨rv, rfl, hm⟩)) (fun r m1 H1 locs1 hq hP hS => ?_)
  obtain ⟨rv, hrv, hm⟩ := hq
  subst hrv
  refine lv_aload_n hx hb dl_1095 rfl (lv_at hl 2 rfl) ?_
  refine sc_ld C hl hS (k := 1) (by decide) hi rfl dl_1096 dl_1097 dl_1098 dl_1099 dl_1100 ?_
  refine sc_ld C hl hS (k := 2) (by decide) hi rfl dl_1101 dl_1102 dl_1103 dl_1104 dl_1105 ?_
  refine law_call C (y := 227) (o := 86) (as := [.int (xs (6 * i + 1)), .int (xs (6 * i + 2))]) (rest := [.long rv]) (Q1 := fun r m2 => r = some (.long rv) ∧ REL m2) hl.1 hP hS (q4 := 1379) (by decide +kernel) (by decide +kernel) ⟨8, _, rfl, rfl, by decide +kernel⟩ ((rfl : _ = 2).trans (by decide +kernel : (2 : Nat) = (xe 227).2.2.2.2.2.2.1)) (by decide +kernel) (by show wt [.long rv] ≤ 8; exact Nat.le_of_ble_eq_true rfl) dl_1106 (hm _ (fun m2 h => ⟨rfl, h⟩)) (fun r m2 H2 locs2 hq hP hS => ?_)
  obtain ⟨hrv, hR2⟩ := hq
  subst hrv
  refine W.lcmp hx hb dl_1109 ?_
  refine lv_if_eq (tgt := 1175) hx hb dl_1110 (by decide) (fun _ => kk m2 H2 locs2 hR2 hP hS) (fun z => absurd (lg_cmp_self rv) z)
theorem law_27 {G : xG} {p : Program} {e : Env} {s : State} {m : MethodId} {below : List Frame} {meth : Method} {c : Code} {b L : Nat} {xs : Nat → Int32} {H : Heap} {locs : List Loc} {ls : Array Slot} {i : Nat} {mm : xM} (C : LX G p s m meth c b L xs) (hl : lv_has ls 4 (lawL G b i)) (hi : 6 * i + 6 ≤ L) (hR : REL mm) (hP : va_P G.2.1 xcl (wl G mm) H) (hS : va_S (xA G) s.heap H locs) (kk : ∀ m' H1 locs1, REL m' → va_P G.2.1 xcl (wl G m') H1 → va_S (xA G) s.heap H1 locs1 → LW G p e s m below meth c b H1 locs1 1175 ls []) : LW G p e s m below meth c b H locs 1115 ls [] := by
  have hx := C.1.1
  have hb := C.1.2.1
  have hown := C.1.2.2.2.2.1
  have hts0 := C.1.2.2.2.2.2.1
  refine lv_aload_n hx hb dl_1115 rfl (lv_at hl 1 rfl) ?_
  refine sc_ld C hl hS (k := 1) (by decide) hi rfl dl_1116 dl_1117 dl_1118 dl_1119 dl_1120 ?_
  refine law_call C (y := 139) (o := 0) (as := [.int (xs (6 * i + 1))]) (rest := []) (Q1 := (fun r m1 => ∃ rv, r = some (.int rv) ∧ MID G 234 (.ref 86 :: [.int (xs (6 * i + 1))]) (.int rv) m1)) hl.1 hP hS (q4 := 907) (by decide +kernel) (by decide +kernel) ⟨7, _, rfl, rfl, by decide +kernel⟩ ((rfl : _ = 1).trans (by decide +kernel : (1 : Nat) = (xe 139).2.2.2.2.2.2.1)) (by decide +kernel) (by show wt [] ≤ 8; decide) dl_1121 (p139 hR (xs (6 * i + 1)) (fun rv m1 hm => ⟨rv, rfl, hm⟩)) (fun r m1 H1 locs1 hq hP hS => ?_)
  obtain ⟨rv, hrv, hm⟩ := hq
  subst hrv
  refine lv_aload_n hx hb dl_1124 rfl (lv_at hl 2 rfl) ?_
  refine sc_ld C hl hS (k := 1) (by decide) hi rfl dl_1125 dl_1126 dl_1127 dl_1128 dl_1129 ?_
  refine law_call C (y := 234) (o := 86) (as := [.int (xs (6 * i + 1))]) (rest := [.int rv]) (Q1 := fun r m2 => r = some (.int rv) ∧ REL m2) hl.1 hP hS (q4 := 1407) (by decide +kernel) (by decide +kernel) ⟨8, _, rfl, rfl, by decide +kernel⟩ ((rfl : _ = 1).trans (by decide +kernel : (1 : Nat) = (xe 234).2.2.2.2.2.2.1)) (by decide +kernel) (by show wt [.int rv] ≤ 8; exact Nat.le_of_ble_eq_true rfl) dl_1130 (hm _ (fun m2 h => ⟨rfl, h⟩)) (fun r m2 H2 locs2 hq hP hS => ?_)
  obtain ⟨hrv, hR2⟩ := hq
  subst hrv
  refine lv_icmp_eq (tgt := 1175) hx hb dl_1133 (by decide) (fun _ => kk m2 H2 locs2 hR2 hP hS) (fun z => absurd rfl z)
theorem law_28 {G : xG} {p : Program} {e : Env} {s : State} {m : MethodId} {below : List Frame} {meth : Method} {c : Code} {b L : Nat} {xs : Nat → Int32} {H : Heap} {locs : List Loc} {ls : Array Slot} {i : Nat} {mm : xM} (C : LX G p s m meth c b L xs) (hl : lv_has ls 4 (lawL G b i)) (hi : 6 * i + 6 ≤ L) (hR : REL mm) (hP : va_P G.2.1 xcl (wl G mm) H) (hS : va_S (xA G) s.heap H locs) (kk : ∀ m' H1 locs1, REL m' → va_P G.2.1 xcl (wl G m') H1 → va_S (xA G) s.heap H1 locs1 → LW G p e s m below meth c b H1 locs1 1175 ls []) : LW G p e s m below meth c b H locs 1138 ls [] := by
  have hx := C.1.1
  have hb := C.1.2.1
  have hown := C.1.2.2.2.2.1
  have hts0 := C.1.2.2.2.2.2.1
  refine lv_aload_n hx hb dl_1138 rfl (lv_at hl 1 rfl) ?_
  refine sc_ld C hl hS (k := 1) (by decide) hi rfl dl_1139 dl_1140 dl_1141 dl_1142 dl_1143 ?_
  refine law_call C (y := 140) (o := 0) (as := [.int (xs (6 * i + 1))]) (rest := []) (Q1 := (fun r m1 => ∃ rv, r = some (.long rv) ∧ MID G 235 (.ref 86 :: [.int (xs (6 * i + 1))]) (.long rv) m1)) hl.1 hP hS (q4 := 912) (by decide +kernel) (by decide +kernel) ⟨7, _, rfl, rfl, by decide +kernel⟩ ((rfl : _ = 1).trans (by decide +kernel : (1 : Nat) = (xe 140).2.2.2.2.2.2.1)) (by decide +kernel) (by show wt [] ≤ 8; decide) dl_1144 (p140 hR (xs (6 * i + 1)) (fun rv m1 hm => ⟨rv, rfl, hm⟩)) (fun r m1 H1 locs1 hq hP hS => ?_)
  obtain ⟨rv, hrv, hm⟩ := hq
  subst hrv
  refine lv_aload_n hx hb dl_1147 rfl (lv_at hl 2 rfl) ?_
  refine sc_ld C hl hS (k := 1) (by decide) hi rfl dl_1148 dl_1149 dl_1150 dl_1151 dl_1152 ?_
  refine law_call C (y := 235) (o := 86) (as := [.int (xs (6 * i + 1))]) (rest := [.long rv]) (Q1 := fun r m2 => r = some (.long rv) ∧ REL m2) hl.1 hP hS (q4 := 1411) (by decide +kernel) (by decide +kernel) ⟨8, _, rfl, rfl, by decide +kernel⟩ ((rfl : _ = 1).trans (by decide +kernel : (1 : Nat) = (xe 235).2.2.2.2.2.2.1)) (by decide +kernel) (by show wt [.long rv] ≤ 8; exact Nat.le_of_ble_eq_true rfl) dl_1153 (hm _ (fun m2 h => ⟨rfl, h⟩)) (fun r m2 H2 locs2 hq hP hS => ?_)
  obtain ⟨hrv, hR2⟩ := hq
  subst hrv
  refine W.lcmp hx hb dl_1156 ?_
  refine lv_if_eq (tgt := 1175) hx hb dl_1157 (by decide) (fun _ => kk m2 H2 locs2 hR2 hP hS) (fun z => absurd (lg_cmp_self rv) z)
theorem law_29 {G : xG} {p : Program} {e : Env} {s : State} {m : MethodId} {below : List Frame} {meth : Method} {c : Code} {b L : Nat} {xs : Nat → Int32} {H : Heap} {locs : List Loc} {ls : Array Slot} {i : Nat} {mm : xM} (C : LX G p s m meth c b L xs) (hl : lv_has ls 4 (lawL G b i)) (hi : 6 * i + 6 ≤ L) (hR : REL mm) (hP : va_P G.2.1 xcl (wl G mm) H) (hS : va_S (xA G) s.heap H locs) (kk : ∀ m' H1 locs1, REL m' → va_P G.2.1 xcl (wl G m') H1 → va_S (xA G) s.heap H1 locs1 → LW G p e s m below meth c b H1 locs1 1175 ls []) : LW G p e s m below meth c b H locs 1162 ls [] := by
  have hx := C.1.1
  have hb := C.1.2.1
  have hown := C.1.2.2.2.2.1
  have hts0 := C.1.2.2.2.2.2.1
  refine lv_aload_n hx hb dl_1162 rfl (lv_at hl 1 rfl) ?_
  refine law_call C (y := 144) (o := 0) (as := []) (rest := []) (Q1 := (fun r m1 => ∃ rv, r = some (.int rv) ∧ MID G 236 (.ref 86 :: []) (.int rv) m1)) hl.1 hP hS (q4 := 931) (by decide +kernel) (by decide +kernel) ⟨7, _, rfl, rfl, by decide +kernel⟩ ((rfl : _ = 0).trans (by decide +kernel : (0 : Nat) = (xe 144).2.2.2.2.2.2.1)) (by decide +kernel) (by show wt [] ≤ 8; decide) dl_1163 (p144 hR (fun rv m1 hm => ⟨rv, rfl, hm⟩)) (fun r m1 H1 locs1 hq hP hS => ?_)
  obtain ⟨rv, hrv, hm⟩ := hq
  subst hrv
  refine lv_aload_n hx hb dl_1166 rfl (lv_at hl 2 rfl) ?_
  refine law_call C (y := 236) (o := 86) (as := []) (rest := [.int rv]) (Q1 := fun r m2 => r = some (.int rv) ∧ REL m2) hl.1 hP hS (q4 := 1415) (by decide +kernel) (by decide +kernel) ⟨8, _, rfl, rfl, by decide +kernel⟩ ((rfl : _ = 0).trans (by decide +kernel : (0 : Nat) = (xe 236).2.2.2.2.2.2.1)) (by decide +kernel) (by show wt [.int rv] ≤ 8; exact Nat.le_of_ble_eq_true rfl) dl_1167 (hm _ (fun m2 h => ⟨rfl, h⟩)) (fun r m2 H2 locs2 hq hP hS => ?_)
  obtain ⟨hrv, hR2⟩ := hq
  subst hrv
  refine lv_icmp_eq (tgt := 1175) hx hb dl_1170 (by decide) (fun _ => kk m2 H2 locs2 hR2 hP hS) (fun z => absurd rfl z)
