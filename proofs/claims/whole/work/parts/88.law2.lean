/-! the law's cases, by wip/whole/mklaw.py -/
section LAW2
variable {p : Program} {e : Env} {s : State} {m : MethodId} {below : List Frame} {meth : Method} {c : Code} {G : GT} {b L : Nat} {xs : Nat → Int32} {i : Nat} {σ : Sto}
theorem lc_0 (C0 : lw_At p s m meth c b L xs) (hK : gKK G s) (hL : L ≤ 2048) (hi : i + 4 ≤ L) (hR : RR G σ) (k : ∀ σ', RR G σ' → LpS p e s m below meth c G b 1156 i [] σ') : LpS p e s m below meth c G b 188 i [] σ := by
  obtain ⟨fs, h0⟩ := hR.o0
  refine q_aload_n (pc' := 189) C0 dL_law_188 rfl ?_
  refine q_arg (pc' := 194) (a := 1) C0 hL dL_law_189 dL_law_190 dL_law_191 dL_law_192 dL_law_193 rfl (by omega) ?_
  refine q_call (pc' := 197) (ν := mX9_points) (q := 0) (As := [.int (xs (i + 1))]) (rest := []) C0 hK dL_law_194 (TT_of (List.mem_of_getElem? (i := 357) (by decide +kernel)) rfl) mo_X9_points mv_X9_points clX9 (Nat.le_of_ble_eq_true rfl) rfl rfl (Nat.le_of_ble_eq_true rfl) (Nat.le_of_ble_eq_true rfl) h0 (by decide) (pr_points σ hR) (fun v σ1 h => ?_)
  obtain ⟨r, rfl, ⟨fs2, h84⟩, hC⟩ := h
  refine q_aload_n (pc' := 198) C0 dL_law_197 rfl ?_
  refine q_arg (pc' := 203) (a := 1) C0 hL dL_law_198 dL_law_199 dL_law_200 dL_law_201 dL_law_202 rfl (by omega) ?_
  refine q_call (pc' := 206) (ν := mX10_points) (q := 84) (As := [.int (xs (i + 1))]) (rest := [.int r]) C0 hK dL_law_203 (TT_of (List.mem_of_getElem? (i := 919) (by decide +kernel)) rfl) mo_X10_points mv_X10_points clX10 (Nat.le_of_ble_eq_true rfl) rfl rfl (Nat.le_of_ble_eq_true rfl) (Nat.le_of_ble_eq_true rfl) h84 (by decide) hC (fun v2 σ2 h2 => ?_)
  obtain ⟨rfl, hR2⟩ := h2
  exact q_same C0 dL_law_206 rfl (k σ2 hR2)
theorem lc_1 (C0 : lw_At p s m meth c b L xs) (hK : gKK G s) (hL : L ≤ 2048) (hi : i + 4 ≤ L) (hR : RR G σ) (k : ∀ σ', RR G σ' → LpS p e s m below meth c G b 1156 i [] σ') : LpS p e s m below meth c G b 211 i [] σ := by
  obtain ⟨fs, h0⟩ := hR.o0
  refine q_aload_n (pc' := 212) C0 dL_law_211 rfl ?_
  refine q_arg (pc' := 217) (a := 1) C0 hL dL_law_212 dL_law_213 dL_law_214 dL_law_215 dL_law_216 rfl (by omega) ?_
  refine q_arg (pc' := 222) (a := 2) C0 hL dL_law_217 dL_law_218 dL_law_219 dL_law_220 dL_law_221 rfl (by omega) ?_
  refine q_arg (pc' := 227) (a := 3) C0 hL dL_law_222 dL_law_223 dL_law_224 dL_law_225 dL_law_226 rfl (by omega) ?_
  refine q_call (pc' := 230) (ν := mX9_put) (q := 0) (As := [.int (xs (i + 1)), .int (xs (i + 2)), .int (xs (i + 3))]) (rest := []) C0 hK dL_law_227 (TT_of (List.mem_of_getElem? (i := 373) (by decide +kernel)) rfl) mo_X9_put mv_X9_put clX9 (Nat.le_of_ble_eq_true rfl) rfl rfl (Nat.le_of_ble_eq_true rfl) (Nat.le_of_ble_eq_true rfl) h0 (by decide) (pr_put σ hR) (fun v σ1 h => ?_)
  obtain ⟨r, rfl, ⟨fs2, h84⟩, hC⟩ := h
  refine q_aload_n (pc' := 231) C0 dL_law_230 rfl ?_
  refine q_arg (pc' := 236) (a := 1) C0 hL dL_law_231 dL_law_232 dL_law_233 dL_law_234 dL_law_235 rfl (by omega) ?_
  refine q_arg (pc' := 241) (a := 2) C0 hL dL_law_236 dL_law_237 dL_law_238 dL_law_239 dL_law_240 rfl (by omega) ?_
  refine q_arg (pc' := 246) (a := 3) C0 hL dL_law_241 dL_law_242 dL_law_243 dL_law_244 dL_law_245 rfl (by omega) ?_
  refine q_call (pc' := 249) (ν := mX10_put) (q := 84) (As := [.int (xs (i + 1)), .int (xs (i + 2)), .int (xs (i + 3))]) (rest := [.int r]) C0 hK dL_law_246 (TT_of (List.mem_of_getElem? (i := 928) (by decide +kernel)) rfl) mo_X10_put mv_X10_put clX10 (Nat.le_of_ble_eq_true rfl) rfl rfl (Nat.le_of_ble_eq_true rfl) (Nat.le_of_ble_eq_true rfl) h84 (by decide) hC (fun v2 σ2 h2 => ?_)
  obtain ⟨rfl, hR2⟩ := h2
  exact q_same C0 dL_law_249 rfl (k σ2 hR2)
theorem lc_2 (C0 : lw_At p s m meth c b L xs) (hK : gKK G s) (hL : L ≤ 2048) (hi : i + 4 ≤ L) (hR : RR G σ) (k : ∀ σ', RR G σ' → LpS p e s m below meth c G b 1156 i [] σ') : LpS p e s m below meth c G b 254 i [] σ := by
  obtain ⟨fs, h0⟩ := hR.o0
  refine q_aload_n (pc' := 255) C0 dL_law_254 rfl ?_
  refine q_arg (pc' := 260) (a := 1) C0 hL dL_law_255 dL_law_256 dL_law_257 dL_law_258 dL_law_259 rfl (by omega) ?_
  refine q_arg (pc' := 265) (a := 2) C0 hL dL_law_260 dL_law_261 dL_law_262 dL_law_263 dL_law_264 rfl (by omega) ?_
  refine q_call (pc' := 268) (ν := mX9_at) (q := 0) (As := [.int (xs (i + 1)), .int (xs (i + 2))]) (rest := []) C0 hK dL_law_265 (TT_of (List.mem_of_getElem? (i := 418) (by decide +kernel)) rfl) mo_X9_at mv_X9_at clX9 (Nat.le_of_ble_eq_true rfl) rfl rfl (Nat.le_of_ble_eq_true rfl) (Nat.le_of_ble_eq_true rfl) h0 (by decide) (pr_at σ hR) (fun v σ1 h => ?_)
  obtain ⟨r, rfl, ⟨fs2, h84⟩, hC⟩ := h
  refine q_aload_n (pc' := 269) C0 dL_law_268 rfl ?_
  refine q_arg (pc' := 274) (a := 1) C0 hL dL_law_269 dL_law_270 dL_law_271 dL_law_272 dL_law_273 rfl (by omega) ?_
  refine q_arg (pc' := 279) (a := 2) C0 hL dL_law_274 dL_law_275 dL_law_276 dL_law_277 dL_law_278 rfl (by omega) ?_
  refine q_call (pc' := 282) (ν := mX10_at) (q := 84) (As := [.int (xs (i + 1)), .int (xs (i + 2))]) (rest := [.int r]) C0 hK dL_law_279 (TT_of (List.mem_of_getElem? (i := 956) (by decide +kernel)) rfl) mo_X10_at mv_X10_at clX10 (Nat.le_of_ble_eq_true rfl) rfl rfl (Nat.le_of_ble_eq_true rfl) (Nat.le_of_ble_eq_true rfl) h84 (by decide) hC (fun v2 σ2 h2 => ?_)
  obtain ⟨rfl, hR2⟩ := h2
  exact q_same C0 dL_law_282 rfl (k σ2 hR2)
theorem lc_3 (C0 : lw_At p s m meth c b L xs) (hK : gKK G s) (hL : L ≤ 2048) (hi : i + 4 ≤ L) (hR : RR G σ) (k : ∀ σ', RR G σ' → LpS p e s m below meth c G b 1156 i [] σ') : LpS p e s m below meth c G b 287 i [] σ := by
  obtain ⟨fs, h0⟩ := hR.o0
  refine q_aload_n (pc' := 288) C0 dL_law_287 rfl ?_
  refine q_arg (pc' := 293) (a := 1) C0 hL dL_law_288 dL_law_289 dL_law_290 dL_law_291 dL_law_292 rfl (by omega) ?_
  refine q_arg (pc' := 298) (a := 2) C0 hL dL_law_293 dL_law_294 dL_law_295 dL_law_296 dL_law_297 rfl (by omega) ?_
  refine q_call (pc' := 301) (ν := mX9_cut) (q := 0) (As := [.int (xs (i + 1)), .int (xs (i + 2))]) (rest := []) C0 hK dL_law_298 (TT_of (List.mem_of_getElem? (i := 422) (by decide +kernel)) rfl) mo_X9_cut mv_X9_cut clX9 (Nat.le_of_ble_eq_true rfl) rfl rfl (Nat.le_of_ble_eq_true rfl) (Nat.le_of_ble_eq_true rfl) h0 (by decide) (pr_cut σ hR) (fun v σ1 h => ?_)
  obtain ⟨r, rfl, ⟨fs2, h84⟩, hC⟩ := h
  refine q_aload_n (pc' := 302) C0 dL_law_301 rfl ?_
  refine q_arg (pc' := 307) (a := 1) C0 hL dL_law_302 dL_law_303 dL_law_304 dL_law_305 dL_law_306 rfl (by omega) ?_
  refine q_arg (pc' := 312) (a := 2) C0 hL dL_law_307 dL_law_308 dL_law_309 dL_law_310 dL_law_311 rfl (by omega) ?_
  refine q_call (pc' := 315) (ν := mX10_cut) (q := 84) (As := [.int (xs (i + 1)), .int (xs (i + 2))]) (rest := [.int r]) C0 hK dL_law_312 (TT_of (List.mem_of_getElem? (i := 960) (by decide +kernel)) rfl) mo_X10_cut mv_X10_cut clX10 (Nat.le_of_ble_eq_true rfl) rfl rfl (Nat.le_of_ble_eq_true rfl) (Nat.le_of_ble_eq_true rfl) h84 (by decide) hC (fun v2 σ2 h2 => ?_)
  obtain ⟨rfl, hR2⟩ := h2
  exact q_same C0 dL_law_315 rfl (k σ2 hR2)
theorem lc_4 (C0 : lw_At p s m meth c b L xs) (hK : gKK G s) (hL : L ≤ 2048) (hi : i + 4 ≤ L) (hR : RR G σ) (k : ∀ σ', RR G σ' → LpS p e s m below meth c G b 1156 i [] σ') : LpS p e s m below meth c G b 320 i [] σ := by
  obtain ⟨fs, h0⟩ := hR.o0
  refine q_aload_n (pc' := 321) C0 dL_law_320 rfl ?_
  refine q_call (pc' := 324) (ν := mX9_paths) (q := 0) (As := []) (rest := []) C0 hK dL_law_321 (TT_of (List.mem_of_getElem? (i := 451) (by decide +kernel)) rfl) mo_X9_paths mv_X9_paths clX9 (Nat.le_of_ble_eq_true rfl) rfl rfl (Nat.le_of_ble_eq_true rfl) (Nat.le_of_ble_eq_true rfl) h0 (by decide) (pr_paths σ hR) (fun v σ1 h => ?_)
  obtain ⟨r, rfl, ⟨fs2, h84⟩, hC⟩ := h
  refine q_aload_n (pc' := 325) C0 dL_law_324 rfl ?_
  refine q_call (pc' := 328) (ν := mX10_paths) (q := 84) (As := []) (rest := [.int r]) C0 hK dL_law_325 (TT_of (List.mem_of_getElem? (i := 984) (by decide +kernel)) rfl) mo_X10_paths mv_X10_paths clX10 (Nat.le_of_ble_eq_true rfl) rfl rfl (Nat.le_of_ble_eq_true rfl) (Nat.le_of_ble_eq_true rfl) h84 (by decide) hC (fun v2 σ2 h2 => ?_)
  obtain ⟨rfl, hR2⟩ := h2
  exact q_same C0 dL_law_328 rfl (k σ2 hR2)
theorem lc_5 (C0 : lw_At p s m meth c b L xs) (hK : gKK G s) (hL : L ≤ 2048) (hi : i + 4 ≤ L) (hR : RR G σ) (k : ∀ σ', RR G σ' → LpS p e s m below meth c G b 1156 i [] σ') : LpS p e s m below meth c G b 333 i [] σ := by
  obtain ⟨fs, h0⟩ := hR.o0
  refine q_aload_n (pc' := 334) C0 dL_law_333 rfl ?_
  refine q_arg (pc' := 339) (a := 1) C0 hL dL_law_334 dL_law_335 dL_law_336 dL_law_337 dL_law_338 rfl (by omega) ?_
  refine q_arg (pc' := 344) (a := 2) C0 hL dL_law_339 dL_law_340 dL_law_341 dL_law_342 dL_law_343 rfl (by omega) ?_
  refine q_arg (pc' := 349) (a := 3) C0 hL dL_law_344 dL_law_345 dL_law_346 dL_law_347 dL_law_348 rfl (by omega) ?_
  refine q_call (pc' := 352) (ν := mX9_place) (q := 0) (As := [.int (xs (i + 1)), .int (xs (i + 2)), .int (xs (i + 3))]) (rest := []) C0 hK dL_law_349 (TT_of (List.mem_of_getElem? (i := 461) (by decide +kernel)) rfl) mo_X9_place mv_X9_place clX9 (Nat.le_of_ble_eq_true rfl) rfl rfl (Nat.le_of_ble_eq_true rfl) (Nat.le_of_ble_eq_true rfl) h0 (by decide) (pr_place σ hR) (fun v σ1 h => ?_)
  obtain ⟨r, rfl, ⟨fs2, h84⟩, hC⟩ := h
  refine q_aload_n (pc' := 353) C0 dL_law_352 rfl ?_
  refine q_arg (pc' := 358) (a := 1) C0 hL dL_law_353 dL_law_354 dL_law_355 dL_law_356 dL_law_357 rfl (by omega) ?_
  refine q_arg (pc' := 363) (a := 2) C0 hL dL_law_358 dL_law_359 dL_law_360 dL_law_361 dL_law_362 rfl (by omega) ?_
  refine q_arg (pc' := 368) (a := 3) C0 hL dL_law_363 dL_law_364 dL_law_365 dL_law_366 dL_law_367 rfl (by omega) ?_
  refine q_call (pc' := 371) (ν := mX10_place) (q := 84) (As := [.int (xs (i + 1)), .int (xs (i + 2)), .int (xs (i + 3))]) (rest := [.int r]) C0 hK dL_law_368 (TT_of (List.mem_of_getElem? (i := 988) (by decide +kernel)) rfl) mo_X10_place mv_X10_place clX10 (Nat.le_of_ble_eq_true rfl) rfl rfl (Nat.le_of_ble_eq_true rfl) (Nat.le_of_ble_eq_true rfl) h84 (by decide) hC (fun v2 σ2 h2 => ?_)
  obtain ⟨rfl, hR2⟩ := h2
  exact q_same C0 dL_law_371 rfl (k σ2 hR2)
theorem lc_6 (C0 : lw_At p s m meth c b L xs) (hK : gKK G s) (hL : L ≤ 2048) (hi : i + 4 ≤ L) (hR : RR G σ) (k : ∀ σ', RR G σ' → LpS p e s m below meth c G b 1156 i [] σ') : LpS p e s m below meth c G b 376 i [] σ := by
  obtain ⟨fs, h0⟩ := hR.o0
  refine q_aload_n (pc' := 377) C0 dL_law_376 rfl ?_
  refine q_call (pc' := 380) (ν := mX9_town) (q := 0) (As := []) (rest := []) C0 hK dL_law_377 (TT_of (List.mem_of_getElem? (i := 469) (by decide +kernel)) rfl) mo_X9_town mv_X9_town clX9 (Nat.le_of_ble_eq_true rfl) rfl rfl (Nat.le_of_ble_eq_true rfl) (Nat.le_of_ble_eq_true rfl) h0 (by decide) (pr_town σ hR) (fun v σ1 h => ?_)
  obtain ⟨r, rfl, ⟨fs2, h84⟩, hC⟩ := h
  refine q_aload_n (pc' := 381) C0 dL_law_380 rfl ?_
  refine q_call (pc' := 384) (ν := mX10_town) (q := 84) (As := []) (rest := [.int r]) C0 hK dL_law_381 (TT_of (List.mem_of_getElem? (i := 992) (by decide +kernel)) rfl) mo_X10_town mv_X10_town clX10 (Nat.le_of_ble_eq_true rfl) rfl rfl (Nat.le_of_ble_eq_true rfl) (Nat.le_of_ble_eq_true rfl) h84 (by decide) hC (fun v2 σ2 h2 => ?_)
  obtain ⟨rfl, hR2⟩ := h2
  exact q_same C0 dL_law_384 rfl (k σ2 hR2)
theorem lc_7 (C0 : lw_At p s m meth c b L xs) (hK : gKK G s) (hL : L ≤ 2048) (hi : i + 4 ≤ L) (hR : RR G σ) (k : ∀ σ', RR G σ' → LpS p e s m below meth c G b 1156 i [] σ') : LpS p e s m below meth c G b 389 i [] σ := by
  obtain ⟨fs, h0⟩ := hR.o0
  refine q_aload_n (pc' := 390) C0 dL_law_389 rfl ?_
  refine q_arg (pc' := 395) (a := 1) C0 hL dL_law_390 dL_law_391 dL_law_392 dL_law_393 dL_law_394 rfl (by omega) ?_
  refine q_call (pc' := 398) (ν := mX9_stretch) (q := 0) (As := [.int (xs (i + 1))]) (rest := []) C0 hK dL_law_395 (TT_of (List.mem_of_getElem? (i := 480) (by decide +kernel)) rfl) mo_X9_stretch mv_X9_stretch clX9 (Nat.le_of_ble_eq_true rfl) rfl rfl (Nat.le_of_ble_eq_true rfl) (Nat.le_of_ble_eq_true rfl) h0 (by decide) (pr_stretch σ hR) (fun v σ1 h => ?_)
  obtain ⟨r, rfl, ⟨fs2, h84⟩, hC⟩ := h
  refine q_aload_n (pc' := 399) C0 dL_law_398 rfl ?_
  refine q_arg (pc' := 404) (a := 1) C0 hL dL_law_399 dL_law_400 dL_law_401 dL_law_402 dL_law_403 rfl (by omega) ?_
  refine q_call (pc' := 407) (ν := mX10_stretch) (q := 84) (As := [.int (xs (i + 1))]) (rest := [.int r]) C0 hK dL_law_404 (TT_of (List.mem_of_getElem? (i := 999) (by decide +kernel)) rfl) mo_X10_stretch mv_X10_stretch clX10 (Nat.le_of_ble_eq_true rfl) rfl rfl (Nat.le_of_ble_eq_true rfl) (Nat.le_of_ble_eq_true rfl) h84 (by decide) hC (fun v2 σ2 h2 => ?_)
  obtain ⟨rfl, hR2⟩ := h2
  exact q_same C0 dL_law_407 rfl (k σ2 hR2)
theorem lc_8 (C0 : lw_At p s m meth c b L xs) (hK : gKK G s) (hL : L ≤ 2048) (hi : i + 4 ≤ L) (hR : RR G σ) (k : ∀ σ', RR G σ' → LpS p e s m below meth c G b 1156 i [] σ') : LpS p e s m below meth c G b 412 i [] σ := by
  obtain ⟨fs, h0⟩ := hR.o0
  refine q_aload_n (pc' := 413) C0 dL_law_412 rfl ?_
  refine q_call (pc' := 416) (ν := mX9_back) (q := 0) (As := []) (rest := []) C0 hK dL_law_413 (TT_of (List.mem_of_getElem? (i := 484) (by decide +kernel)) rfl) mo_X9_back mv_X9_back clX9 (Nat.le_of_ble_eq_true rfl) rfl rfl (Nat.le_of_ble_eq_true rfl) (Nat.le_of_ble_eq_true rfl) h0 (by decide) (pr_back σ hR) (fun v σ1 h => ?_)
  obtain ⟨r, rfl, ⟨fs2, h84⟩, hC⟩ := h
  refine q_aload_n (pc' := 417) C0 dL_law_416 rfl ?_
  refine q_call (pc' := 420) (ν := mX10_back) (q := 84) (As := []) (rest := [.int r]) C0 hK dL_law_417 (TT_of (List.mem_of_getElem? (i := 1003) (by decide +kernel)) rfl) mo_X10_back mv_X10_back clX10 (Nat.le_of_ble_eq_true rfl) rfl rfl (Nat.le_of_ble_eq_true rfl) (Nat.le_of_ble_eq_true rfl) h84 (by decide) hC (fun v2 σ2 h2 => ?_)
  obtain ⟨rfl, hR2⟩ := h2
  exact q_same C0 dL_law_420 rfl (k σ2 hR2)
theorem lc_9 (C0 : lw_At p s m meth c b L xs) (hK : gKK G s) (hL : L ≤ 2048) (hi : i + 4 ≤ L) (hR : RR G σ) (k : ∀ σ', RR G σ' → LpS p e s m below meth c G b 1156 i [] σ') : LpS p e s m below meth c G b 425 i [] σ := by
  obtain ⟨fs, h0⟩ := hR.o0
  refine q_aload_n (pc' := 426) C0 dL_law_425 rfl ?_
  refine q_arg (pc' := 431) (a := 1) C0 hL dL_law_426 dL_law_427 dL_law_428 dL_law_429 dL_law_430 rfl (by omega) ?_
  refine q_call (pc' := 434) (ν := mX9_triangles) (q := 0) (As := [.int (xs (i + 1))]) (rest := []) C0 hK dL_law_431 (TT_of (List.mem_of_getElem? (i := 492) (by decide +kernel)) rfl) mo_X9_triangles mv_X9_triangles clX9 (Nat.le_of_ble_eq_true rfl) rfl rfl (Nat.le_of_ble_eq_true rfl) (Nat.le_of_ble_eq_true rfl) h0 (by decide) (pr_triangles σ hR) (fun v σ1 h => ?_)
  obtain ⟨r, rfl, ⟨fs2, h84⟩, hC⟩ := h
  refine q_aload_n (pc' := 435) C0 dL_law_434 rfl ?_
  refine q_arg (pc' := 440) (a := 1) C0 hL dL_law_435 dL_law_436 dL_law_437 dL_law_438 dL_law_439 rfl (by omega) ?_
  refine q_call (pc' := 443) (ν := mX10_triangles) (q := 84) (As := [.int (xs (i + 1))]) (rest := [.int r]) C0 hK dL_law_440 (TT_of (List.mem_of_getElem? (i := 1011) (by decide +kernel)) rfl) mo_X10_triangles mv_X10_triangles clX10 (Nat.le_of_ble_eq_true rfl) rfl rfl (Nat.le_of_ble_eq_true rfl) (Nat.le_of_ble_eq_true rfl) h84 (by decide) hC (fun v2 σ2 h2 => ?_)
  obtain ⟨rfl, hR2⟩ := h2
  exact q_same C0 dL_law_443 rfl (k σ2 hR2)
theorem lc_10 (C0 : lw_At p s m meth c b L xs) (hK : gKK G s) (hL : L ≤ 2048) (hi : i + 4 ≤ L) (hR : RR G σ) (k : ∀ σ', RR G σ' → LpS p e s m below meth c G b 1156 i [] σ') : LpS p e s m below meth c G b 448 i [] σ := by
  obtain ⟨fs, h0⟩ := hR.o0
  refine q_aload_n (pc' := 449) C0 dL_law_448 rfl ?_
  refine q_arg (pc' := 454) (a := 1) C0 hL dL_law_449 dL_law_450 dL_law_451 dL_law_452 dL_law_453 rfl (by omega) ?_
  refine q_call (pc' := 457) (ν := mX9_rounds) (q := 0) (As := [.int (xs (i + 1))]) (rest := []) C0 hK dL_law_454 (TT_of (List.mem_of_getElem? (i := 503) (by decide +kernel)) rfl) mo_X9_rounds mv_X9_rounds clX9 (Nat.le_of_ble_eq_true rfl) rfl rfl (Nat.le_of_ble_eq_true rfl) (Nat.le_of_ble_eq_true rfl) h0 (by decide) (pr_rounds σ hR) (fun v σ1 h => ?_)
  obtain ⟨r, rfl, ⟨fs2, h84⟩, hC⟩ := h
  refine q_aload_n (pc' := 458) C0 dL_law_457 rfl ?_
  refine q_arg (pc' := 463) (a := 1) C0 hL dL_law_458 dL_law_459 dL_law_460 dL_law_461 dL_law_462 rfl (by omega) ?_
  refine q_call (pc' := 466) (ν := mX10_rounds) (q := 84) (As := [.int (xs (i + 1))]) (rest := [.int r]) C0 hK dL_law_463 (TT_of (List.mem_of_getElem? (i := 1015) (by decide +kernel)) rfl) mo_X10_rounds mv_X10_rounds clX10 (Nat.le_of_ble_eq_true rfl) rfl rfl (Nat.le_of_ble_eq_true rfl) (Nat.le_of_ble_eq_true rfl) h84 (by decide) hC (fun v2 σ2 h2 => ?_)
  obtain ⟨rfl, hR2⟩ := h2
  exact q_same C0 dL_law_466 rfl (k σ2 hR2)
theorem lc_11 (C0 : lw_At p s m meth c b L xs) (hK : gKK G s) (hL : L ≤ 2048) (hi : i + 4 ≤ L) (hR : RR G σ) (k : ∀ σ', RR G σ' → LpS p e s m below meth c G b 1156 i [] σ') : LpS p e s m below meth c G b 471 i [] σ := by
  obtain ⟨fs, h0⟩ := hR.o0
  refine q_aload_n (pc' := 472) C0 dL_law_471 rfl ?_
  refine q_arg (pc' := 477) (a := 1) C0 hL dL_law_472 dL_law_473 dL_law_474 dL_law_475 dL_law_476 rfl (by omega) ?_
  refine q_arg (pc' := 482) (a := 2) C0 hL dL_law_477 dL_law_478 dL_law_479 dL_law_480 dL_law_481 rfl (by omega) ?_
  refine q_call (pc' := 485) (ν := mX9_walls) (q := 0) (As := [.int (xs (i + 1)), .int (xs (i + 2))]) (rest := []) C0 hK dL_law_482 (TT_of (List.mem_of_getElem? (i := 511) (by decide +kernel)) rfl) mo_X9_walls mv_X9_walls clX9 (Nat.le_of_ble_eq_true rfl) rfl rfl (Nat.le_of_ble_eq_true rfl) (Nat.le_of_ble_eq_true rfl) h0 (by decide) (pr_walls σ hR) (fun v σ1 h => ?_)
  obtain ⟨r, rfl, ⟨fs2, h84⟩, hC⟩ := h
  refine q_aload_n (pc' := 486) C0 dL_law_485 rfl ?_
  refine q_arg (pc' := 491) (a := 1) C0 hL dL_law_486 dL_law_487 dL_law_488 dL_law_489 dL_law_490 rfl (by omega) ?_
  refine q_arg (pc' := 496) (a := 2) C0 hL dL_law_491 dL_law_492 dL_law_493 dL_law_494 dL_law_495 rfl (by omega) ?_
  refine q_call (pc' := 499) (ν := mX10_walls) (q := 84) (As := [.int (xs (i + 1)), .int (xs (i + 2))]) (rest := [.int r]) C0 hK dL_law_496 (TT_of (List.mem_of_getElem? (i := 1019) (by decide +kernel)) rfl) mo_X10_walls mv_X10_walls clX10 (Nat.le_of_ble_eq_true rfl) rfl rfl (Nat.le_of_ble_eq_true rfl) (Nat.le_of_ble_eq_true rfl) h84 (by decide) hC (fun v2 σ2 h2 => ?_)
  obtain ⟨rfl, hR2⟩ := h2
  exact q_same C0 dL_law_499 rfl (k σ2 hR2)
theorem lc_12 (C0 : lw_At p s m meth c b L xs) (hK : gKK G s) (hL : L ≤ 2048) (hi : i + 4 ≤ L) (hR : RR G σ) (k : ∀ σ', RR G σ' → LpS p e s m below meth c G b 1156 i [] σ') : LpS p e s m below meth c G b 504 i [] σ := by
  obtain ⟨fs, h0⟩ := hR.o0
  refine q_aload_n (pc' := 505) C0 dL_law_504 rfl ?_
  refine q_arg (pc' := 510) (a := 1) C0 hL dL_law_505 dL_law_506 dL_law_507 dL_law_508 dL_law_509 rfl (by omega) ?_
  refine q_arg (pc' := 515) (a := 2) C0 hL dL_law_510 dL_law_511 dL_law_512 dL_law_513 dL_law_514 rfl (by omega) ?_
  refine q_arg (pc' := 520) (a := 3) C0 hL dL_law_515 dL_law_516 dL_law_517 dL_law_518 dL_law_519 rfl (by omega) ?_
  refine q_call (pc' := 523) (ν := mX9_wall) (q := 0) (As := [.int (xs (i + 1)), .int (xs (i + 2)), .int (xs (i + 3))]) (rest := []) C0 hK dL_law_520 (TT_of (List.mem_of_getElem? (i := 552) (by decide +kernel)) rfl) mo_X9_wall mv_X9_wall clX9 (Nat.le_of_ble_eq_true rfl) rfl rfl (Nat.le_of_ble_eq_true rfl) (Nat.le_of_ble_eq_true rfl) h0 (by decide) (pr_wall σ hR) (fun v σ1 h => ?_)
  obtain ⟨r, rfl, ⟨fs2, h84⟩, hC⟩ := h
  refine q_aload_n (pc' := 524) C0 dL_law_523 rfl ?_
  refine q_arg (pc' := 529) (a := 1) C0 hL dL_law_524 dL_law_525 dL_law_526 dL_law_527 dL_law_528 rfl (by omega) ?_
  refine q_arg (pc' := 534) (a := 2) C0 hL dL_law_529 dL_law_530 dL_law_531 dL_law_532 dL_law_533 rfl (by omega) ?_
  refine q_arg (pc' := 539) (a := 3) C0 hL dL_law_534 dL_law_535 dL_law_536 dL_law_537 dL_law_538 rfl (by omega) ?_
  refine q_call (pc' := 542) (ν := mX10_wall) (q := 84) (As := [.int (xs (i + 1)), .int (xs (i + 2)), .int (xs (i + 3))]) (rest := [.int r]) C0 hK dL_law_539 (TT_of (List.mem_of_getElem? (i := 1042) (by decide +kernel)) rfl) mo_X10_wall mv_X10_wall clX10 (Nat.le_of_ble_eq_true rfl) rfl rfl (Nat.le_of_ble_eq_true rfl) (Nat.le_of_ble_eq_true rfl) h84 (by decide) hC (fun v2 σ2 h2 => ?_)
  obtain ⟨rfl, hR2⟩ := h2
  exact q_same C0 dL_law_542 rfl (k σ2 hR2)
theorem lc_13 (C0 : lw_At p s m meth c b L xs) (hK : gKK G s) (hL : L ≤ 2048) (hi : i + 4 ≤ L) (hR : RR G σ) (k : ∀ σ', RR G σ' → LpS p e s m below meth c G b 1156 i [] σ') : LpS p e s m below meth c G b 547 i [] σ := by
  obtain ⟨fs, h0⟩ := hR.o0
  refine q_aload_n (pc' := 548) C0 dL_law_547 rfl ?_
  refine q_arg (pc' := 553) (a := 1) C0 hL dL_law_548 dL_law_549 dL_law_550 dL_law_551 dL_law_552 rfl (by omega) ?_
  refine q_arg (pc' := 558) (a := 2) C0 hL dL_law_553 dL_law_554 dL_law_555 dL_law_556 dL_law_557 rfl (by omega) ?_
  refine q_arg (pc' := 563) (a := 3) C0 hL dL_law_558 dL_law_559 dL_law_560 dL_law_561 dL_law_562 rfl (by omega) ?_
  refine q_call (pc' := 566) (ν := mX9_holdWall) (q := 0) (As := [.int (xs (i + 1)), .int (xs (i + 2)), .int (xs (i + 3))]) (rest := []) C0 hK dL_law_563 (TT_of (List.mem_of_getElem? (i := 561) (by decide +kernel)) rfl) mo_X9_holdWall mv_X9_holdWall clX9 (Nat.le_of_ble_eq_true rfl) rfl rfl (Nat.le_of_ble_eq_true rfl) (Nat.le_of_ble_eq_true rfl) h0 (by decide) (pr_holdWall σ hR) (fun v σ1 h => ?_)
  obtain ⟨r, rfl, ⟨fs2, h84⟩, hC⟩ := h
  refine q_aload_n (pc' := 567) C0 dL_law_566 rfl ?_
  refine q_arg (pc' := 572) (a := 1) C0 hL dL_law_567 dL_law_568 dL_law_569 dL_law_570 dL_law_571 rfl (by omega) ?_
  refine q_arg (pc' := 577) (a := 2) C0 hL dL_law_572 dL_law_573 dL_law_574 dL_law_575 dL_law_576 rfl (by omega) ?_
  refine q_arg (pc' := 582) (a := 3) C0 hL dL_law_577 dL_law_578 dL_law_579 dL_law_580 dL_law_581 rfl (by omega) ?_
  refine q_call (pc' := 585) (ν := mX10_holdWall) (q := 84) (As := [.int (xs (i + 1)), .int (xs (i + 2)), .int (xs (i + 3))]) (rest := [.int r]) C0 hK dL_law_582 (TT_of (List.mem_of_getElem? (i := 1050) (by decide +kernel)) rfl) mo_X10_holdWall mv_X10_holdWall clX10 (Nat.le_of_ble_eq_true rfl) rfl rfl (Nat.le_of_ble_eq_true rfl) (Nat.le_of_ble_eq_true rfl) h84 (by decide) hC (fun v2 σ2 h2 => ?_)
  obtain ⟨rfl, hR2⟩ := h2
  exact q_same C0 dL_law_585 rfl (k σ2 hR2)
theorem lc_14 (C0 : lw_At p s m meth c b L xs) (hK : gKK G s) (hL : L ≤ 2048) (hi : i + 4 ≤ L) (hR : RR G σ) (k : ∀ σ', RR G σ' → LpS p e s m below meth c G b 1156 i [] σ') : LpS p e s m below meth c G b 590 i [] σ := by
  obtain ⟨fs, h0⟩ := hR.o0
  refine q_aload_n (pc' := 591) C0 dL_law_590 rfl ?_
  refine q_arg (pc' := 596) (a := 1) C0 hL dL_law_591 dL_law_592 dL_law_593 dL_law_594 dL_law_595 rfl (by omega) ?_
  refine q_arg (pc' := 601) (a := 2) C0 hL dL_law_596 dL_law_597 dL_law_598 dL_law_599 dL_law_600 rfl (by omega) ?_
  refine q_call (pc' := 604) (ν := mX9_wallOf) (q := 0) (As := [.int (xs (i + 1)), .int (xs (i + 2))]) (rest := []) C0 hK dL_law_601 (TT_of (List.mem_of_getElem? (i := 580) (by decide +kernel)) rfl) mo_X9_wallOf mv_X9_wallOf clX9 (Nat.le_of_ble_eq_true rfl) rfl rfl (Nat.le_of_ble_eq_true rfl) (Nat.le_of_ble_eq_true rfl) h0 (by decide) (pr_wallOf σ hR) (fun v σ1 h => ?_)
  obtain ⟨r, rfl, ⟨fs2, h84⟩, hC⟩ := h
  refine q_aload_n (pc' := 605) C0 dL_law_604 rfl ?_
  refine q_arg (pc' := 610) (a := 1) C0 hL dL_law_605 dL_law_606 dL_law_607 dL_law_608 dL_law_609 rfl (by omega) ?_
  refine q_arg (pc' := 615) (a := 2) C0 hL dL_law_610 dL_law_611 dL_law_612 dL_law_613 dL_law_614 rfl (by omega) ?_
  refine q_call (pc' := 618) (ν := mX10_wallOf) (q := 84) (As := [.int (xs (i + 1)), .int (xs (i + 2))]) (rest := [.int r]) C0 hK dL_law_615 (TT_of (List.mem_of_getElem? (i := 1067) (by decide +kernel)) rfl) mo_X10_wallOf mv_X10_wallOf clX10 (Nat.le_of_ble_eq_true rfl) rfl rfl (Nat.le_of_ble_eq_true rfl) (Nat.le_of_ble_eq_true rfl) h84 (by decide) hC (fun v2 σ2 h2 => ?_)
  obtain ⟨rfl, hR2⟩ := h2
  exact q_same C0 dL_law_618 rfl (k σ2 hR2)
theorem lc_15 (C0 : lw_At p s m meth c b L xs) (hK : gKK G s) (hL : L ≤ 2048) (hi : i + 4 ≤ L) (hR : RR G σ) (k : ∀ σ', RR G σ' → LpS p e s m below meth c G b 1156 i [] σ') : LpS p e s m below meth c G b 623 i [] σ := by
  obtain ⟨fs, h0⟩ := hR.o0
  refine q_aload_n (pc' := 624) C0 dL_law_623 rfl ?_
  refine q_arg (pc' := 629) (a := 1) C0 hL dL_law_624 dL_law_625 dL_law_626 dL_law_627 dL_law_628 rfl (by omega) ?_
  refine q_call (pc' := 632) (ν := mX9_value) (q := 0) (As := [.int (xs (i + 1))]) (rest := []) C0 hK dL_law_629 (TT_of (List.mem_of_getElem? (i := 592) (by decide +kernel)) rfl) mo_X9_value mv_X9_value clX9 (Nat.le_of_ble_eq_true rfl) rfl rfl (Nat.le_of_ble_eq_true rfl) (Nat.le_of_ble_eq_true rfl) h0 (by decide) (pr_value σ hR) (fun v σ1 h => ?_)
  obtain ⟨r, rfl, ⟨fs2, h84⟩, hC⟩ := h
  refine q_aload_n (pc' := 633) C0 dL_law_632 rfl ?_
  refine q_arg (pc' := 638) (a := 1) C0 hL dL_law_633 dL_law_634 dL_law_635 dL_law_636 dL_law_637 rfl (by omega) ?_
  refine q_call (pc' := 641) (ν := mX10_value) (q := 84) (As := [.int (xs (i + 1))]) (rest := [.long r]) C0 hK dL_law_638 (TT_of (List.mem_of_getElem? (i := 1071) (by decide +kernel)) rfl) mo_X10_value mv_X10_value clX10 (Nat.le_of_ble_eq_true rfl) rfl rfl (Nat.le_of_ble_eq_true rfl) (Nat.le_of_ble_eq_true rfl) h84 (by decide) hC (fun v2 σ2 h2 => ?_)
  obtain ⟨rfl, hR2⟩ := h2
  exact q_sameL C0 dL_law_641 dL_law_642 rfl (k σ2 hR2)
theorem lc_16 (C0 : lw_At p s m meth c b L xs) (hK : gKK G s) (hL : L ≤ 2048) (hi : i + 4 ≤ L) (hR : RR G σ) (k : ∀ σ', RR G σ' → LpS p e s m below meth c G b 1156 i [] σ') : LpS p e s m below meth c G b 647 i [] σ := by
  obtain ⟨fs, h0⟩ := hR.o0
  refine q_aload_n (pc' := 648) C0 dL_law_647 rfl ?_
  refine q_arg (pc' := 653) (a := 1) C0 hL dL_law_648 dL_law_649 dL_law_650 dL_law_651 dL_law_652 rfl (by omega) ?_
  refine q_arg (pc' := 658) (a := 2) C0 hL dL_law_653 dL_law_654 dL_law_655 dL_law_656 dL_law_657 rfl (by omega) ?_
  refine q_call (pc' := 661) (ν := mX9_roots) (q := 0) (As := [.int (xs (i + 1)), .int (xs (i + 2))]) (rest := []) C0 hK dL_law_658 (TT_of (List.mem_of_getElem? (i := 601) (by decide +kernel)) rfl) mo_X9_roots mv_X9_roots clX9 (Nat.le_of_ble_eq_true rfl) rfl rfl (Nat.le_of_ble_eq_true rfl) (Nat.le_of_ble_eq_true rfl) h0 (by decide) (pr_roots σ hR) (fun v σ1 h => ?_)
  obtain ⟨r, rfl, ⟨fs2, h84⟩, hC⟩ := h
  refine q_aload_n (pc' := 662) C0 dL_law_661 rfl ?_
  refine q_arg (pc' := 667) (a := 1) C0 hL dL_law_662 dL_law_663 dL_law_664 dL_law_665 dL_law_666 rfl (by omega) ?_
  refine q_arg (pc' := 672) (a := 2) C0 hL dL_law_667 dL_law_668 dL_law_669 dL_law_670 dL_law_671 rfl (by omega) ?_
  refine q_call (pc' := 675) (ν := mX10_roots) (q := 84) (As := [.int (xs (i + 1)), .int (xs (i + 2))]) (rest := [.int r]) C0 hK dL_law_672 (TT_of (List.mem_of_getElem? (i := 1080) (by decide +kernel)) rfl) mo_X10_roots mv_X10_roots clX10 (Nat.le_of_ble_eq_true rfl) rfl rfl (Nat.le_of_ble_eq_true rfl) (Nat.le_of_ble_eq_true rfl) h84 (by decide) hC (fun v2 σ2 h2 => ?_)
  obtain ⟨rfl, hR2⟩ := h2
  exact q_same C0 dL_law_675 rfl (k σ2 hR2)
theorem lc_17 (C0 : lw_At p s m meth c b L xs) (hK : gKK G s) (hL : L ≤ 2048) (hi : i + 4 ≤ L) (hR : RR G σ) (k : ∀ σ', RR G σ' → LpS p e s m below meth c G b 1156 i [] σ') : LpS p e s m below meth c G b 680 i [] σ := by
  obtain ⟨fs, h0⟩ := hR.o0
  refine q_aload_n (pc' := 681) C0 dL_law_680 rfl ?_
  refine q_arg (pc' := 686) (a := 1) C0 hL dL_law_681 dL_law_682 dL_law_683 dL_law_684 dL_law_685 rfl (by omega) ?_
  refine q_arg (pc' := 691) (a := 2) C0 hL dL_law_686 dL_law_687 dL_law_688 dL_law_689 dL_law_690 rfl (by omega) ?_
  refine q_call (pc' := 694) (ν := mX9_root) (q := 0) (As := [.int (xs (i + 1)), .int (xs (i + 2))]) (rest := []) C0 hK dL_law_691 (TT_of (List.mem_of_getElem? (i := 638) (by decide +kernel)) rfl) mo_X9_root mv_X9_root clX9 (Nat.le_of_ble_eq_true rfl) rfl rfl (Nat.le_of_ble_eq_true rfl) (Nat.le_of_ble_eq_true rfl) h0 (by decide) (pr_root σ hR) (fun v σ1 h => ?_)
  obtain ⟨r, rfl, ⟨fs2, h84⟩, hC⟩ := h
  refine q_aload_n (pc' := 695) C0 dL_law_694 rfl ?_
  refine q_arg (pc' := 700) (a := 1) C0 hL dL_law_695 dL_law_696 dL_law_697 dL_law_698 dL_law_699 rfl (by omega) ?_
  refine q_arg (pc' := 705) (a := 2) C0 hL dL_law_700 dL_law_701 dL_law_702 dL_law_703 dL_law_704 rfl (by omega) ?_
  refine q_call (pc' := 708) (ν := mX10_root) (q := 84) (As := [.int (xs (i + 1)), .int (xs (i + 2))]) (rest := [.int r]) C0 hK dL_law_705 (TT_of (List.mem_of_getElem? (i := 1103) (by decide +kernel)) rfl) mo_X10_root mv_X10_root clX10 (Nat.le_of_ble_eq_true rfl) rfl rfl (Nat.le_of_ble_eq_true rfl) (Nat.le_of_ble_eq_true rfl) h84 (by decide) hC (fun v2 σ2 h2 => ?_)
  obtain ⟨rfl, hR2⟩ := h2
  exact q_same C0 dL_law_708 rfl (k σ2 hR2)
theorem lc_18 (C0 : lw_At p s m meth c b L xs) (hK : gKK G s) (hL : L ≤ 2048) (hi : i + 4 ≤ L) (hR : RR G σ) (k : ∀ σ', RR G σ' → LpS p e s m below meth c G b 1156 i [] σ') : LpS p e s m below meth c G b 713 i [] σ := by
  obtain ⟨fs, h0⟩ := hR.o0
  refine q_aload_n (pc' := 714) C0 dL_law_713 rfl ?_
  refine q_arg (pc' := 719) (a := 1) C0 hL dL_law_714 dL_law_715 dL_law_716 dL_law_717 dL_law_718 rfl (by omega) ?_
  refine q_arg (pc' := 724) (a := 2) C0 hL dL_law_719 dL_law_720 dL_law_721 dL_law_722 dL_law_723 rfl (by omega) ?_
  refine q_call (pc' := 727) (ν := mX9_switched) (q := 0) (As := [.int (xs (i + 1)), .int (xs (i + 2))]) (rest := []) C0 hK dL_law_724 (TT_of (List.mem_of_getElem? (i := 642) (by decide +kernel)) rfl) mo_X9_switched mv_X9_switched clX9 (Nat.le_of_ble_eq_true rfl) rfl rfl (Nat.le_of_ble_eq_true rfl) (Nat.le_of_ble_eq_true rfl) h0 (by decide) (pr_switched σ hR) (fun v σ1 h => ?_)
  obtain ⟨r, rfl, ⟨fs2, h84⟩, hC⟩ := h
  refine q_aload_n (pc' := 728) C0 dL_law_727 rfl ?_
  refine q_arg (pc' := 733) (a := 1) C0 hL dL_law_728 dL_law_729 dL_law_730 dL_law_731 dL_law_732 rfl (by omega) ?_
  refine q_arg (pc' := 738) (a := 2) C0 hL dL_law_733 dL_law_734 dL_law_735 dL_law_736 dL_law_737 rfl (by omega) ?_
  refine q_call (pc' := 741) (ν := mX10_switched) (q := 84) (As := [.int (xs (i + 1)), .int (xs (i + 2))]) (rest := [.int r]) C0 hK dL_law_738 (TT_of (List.mem_of_getElem? (i := 1107) (by decide +kernel)) rfl) mo_X10_switched mv_X10_switched clX10 (Nat.le_of_ble_eq_true rfl) rfl rfl (Nat.le_of_ble_eq_true rfl) (Nat.le_of_ble_eq_true rfl) h84 (by decide) hC (fun v2 σ2 h2 => ?_)
  obtain ⟨rfl, hR2⟩ := h2
  exact q_same C0 dL_law_741 rfl (k σ2 hR2)
theorem lc_19 (C0 : lw_At p s m meth c b L xs) (hK : gKK G s) (hL : L ≤ 2048) (hi : i + 4 ≤ L) (hR : RR G σ) (k : ∀ σ', RR G σ' → LpS p e s m below meth c G b 1156 i [] σ') : LpS p e s m below meth c G b 746 i [] σ := by
  obtain ⟨fs, h0⟩ := hR.o0
  refine q_aload_n (pc' := 747) C0 dL_law_746 rfl ?_
  refine q_arg (pc' := 752) (a := 1) C0 hL dL_law_747 dL_law_748 dL_law_749 dL_law_750 dL_law_751 rfl (by omega) ?_
  refine q_arg (pc' := 757) (a := 2) C0 hL dL_law_752 dL_law_753 dL_law_754 dL_law_755 dL_law_756 rfl (by omega) ?_
  refine q_call (pc' := 760) (ν := mX9_sum) (q := 0) (As := [.int (xs (i + 1)), .int (xs (i + 2))]) (rest := []) C0 hK dL_law_757 (TT_of (List.mem_of_getElem? (i := 650) (by decide +kernel)) rfl) mo_X9_sum mv_X9_sum clX9 (Nat.le_of_ble_eq_true rfl) rfl rfl (Nat.le_of_ble_eq_true rfl) (Nat.le_of_ble_eq_true rfl) h0 (by decide) (pr_sum σ hR) (fun v σ1 h => ?_)
  obtain ⟨r, rfl, ⟨fs2, h84⟩, hC⟩ := h
  refine q_aload_n (pc' := 761) C0 dL_law_760 rfl ?_
  refine q_arg (pc' := 766) (a := 1) C0 hL dL_law_761 dL_law_762 dL_law_763 dL_law_764 dL_law_765 rfl (by omega) ?_
  refine q_arg (pc' := 771) (a := 2) C0 hL dL_law_766 dL_law_767 dL_law_768 dL_law_769 dL_law_770 rfl (by omega) ?_
  refine q_call (pc' := 774) (ν := mX10_sum) (q := 84) (As := [.int (xs (i + 1)), .int (xs (i + 2))]) (rest := [.int r]) C0 hK dL_law_771 (TT_of (List.mem_of_getElem? (i := 1111) (by decide +kernel)) rfl) mo_X10_sum mv_X10_sum clX10 (Nat.le_of_ble_eq_true rfl) rfl rfl (Nat.le_of_ble_eq_true rfl) (Nat.le_of_ble_eq_true rfl) h84 (by decide) hC (fun v2 σ2 h2 => ?_)
  obtain ⟨rfl, hR2⟩ := h2
  exact q_same C0 dL_law_774 rfl (k σ2 hR2)
theorem lc_20 (C0 : lw_At p s m meth c b L xs) (hK : gKK G s) (hL : L ≤ 2048) (hi : i + 4 ≤ L) (hR : RR G σ) (k : ∀ σ', RR G σ' → LpS p e s m below meth c G b 1156 i [] σ') : LpS p e s m below meth c G b 779 i [] σ := by
  obtain ⟨fs, h0⟩ := hR.o0
  refine q_aload_n (pc' := 780) C0 dL_law_779 rfl ?_
  refine q_arg (pc' := 785) (a := 1) C0 hL dL_law_780 dL_law_781 dL_law_782 dL_law_783 dL_law_784 rfl (by omega) ?_
  refine q_arg (pc' := 790) (a := 2) C0 hL dL_law_785 dL_law_786 dL_law_787 dL_law_788 dL_law_789 rfl (by omega) ?_
  refine q_call (pc' := 793) (ν := mX9_gauge) (q := 0) (As := [.int (xs (i + 1)), .int (xs (i + 2))]) (rest := []) C0 hK dL_law_790 (TT_of (List.mem_of_getElem? (i := 687) (by decide +kernel)) rfl) mo_X9_gauge mv_X9_gauge clX9 (Nat.le_of_ble_eq_true rfl) rfl rfl (Nat.le_of_ble_eq_true rfl) (Nat.le_of_ble_eq_true rfl) h0 (by decide) (pr_gauge σ hR) (fun v σ1 h => ?_)
  obtain ⟨r, rfl, ⟨fs2, h84⟩, hC⟩ := h
  refine q_aload_n (pc' := 794) C0 dL_law_793 rfl ?_
  refine q_arg (pc' := 799) (a := 1) C0 hL dL_law_794 dL_law_795 dL_law_796 dL_law_797 dL_law_798 rfl (by omega) ?_
  refine q_arg (pc' := 804) (a := 2) C0 hL dL_law_799 dL_law_800 dL_law_801 dL_law_802 dL_law_803 rfl (by omega) ?_
  refine q_call (pc' := 807) (ν := mX10_gauge) (q := 84) (As := [.int (xs (i + 1)), .int (xs (i + 2))]) (rest := [.long r]) C0 hK dL_law_804 (TT_of (List.mem_of_getElem? (i := 1134) (by decide +kernel)) rfl) mo_X10_gauge mv_X10_gauge clX10 (Nat.le_of_ble_eq_true rfl) rfl rfl (Nat.le_of_ble_eq_true rfl) (Nat.le_of_ble_eq_true rfl) h84 (by decide) hC (fun v2 σ2 h2 => ?_)
  obtain ⟨rfl, hR2⟩ := h2
  exact q_sameL C0 dL_law_807 dL_law_808 rfl (k σ2 hR2)
theorem lc_21 (C0 : lw_At p s m meth c b L xs) (hK : gKK G s) (hL : L ≤ 2048) (hi : i + 4 ≤ L) (hR : RR G σ) (k : ∀ σ', RR G σ' → LpS p e s m below meth c G b 1156 i [] σ') : LpS p e s m below meth c G b 813 i [] σ := by
  obtain ⟨fs, h0⟩ := hR.o0
  refine q_aload_n (pc' := 814) C0 dL_law_813 rfl ?_
  refine q_arg (pc' := 819) (a := 1) C0 hL dL_law_814 dL_law_815 dL_law_816 dL_law_817 dL_law_818 rfl (by omega) ?_
  refine q_arg (pc' := 824) (a := 2) C0 hL dL_law_819 dL_law_820 dL_law_821 dL_law_822 dL_law_823 rfl (by omega) ?_
  refine q_call (pc' := 827) (ν := mX9_feed) (q := 0) (As := [.int (xs (i + 1)), .int (xs (i + 2))]) (rest := []) C0 hK dL_law_824 (TT_of (List.mem_of_getElem? (i := 708) (by decide +kernel)) rfl) mo_X9_feed mv_X9_feed clX9 (Nat.le_of_ble_eq_true rfl) rfl rfl (Nat.le_of_ble_eq_true rfl) (Nat.le_of_ble_eq_true rfl) h0 (by decide) (pr_feed σ hR) (fun v σ1 h => ?_)
  obtain ⟨r, rfl, ⟨fs2, h84⟩, hC⟩ := h
  refine q_aload_n (pc' := 828) C0 dL_law_827 rfl ?_
  refine q_arg (pc' := 833) (a := 1) C0 hL dL_law_828 dL_law_829 dL_law_830 dL_law_831 dL_law_832 rfl (by omega) ?_
  refine q_arg (pc' := 838) (a := 2) C0 hL dL_law_833 dL_law_834 dL_law_835 dL_law_836 dL_law_837 rfl (by omega) ?_
  refine q_call (pc' := 841) (ν := mX10_feed) (q := 84) (As := [.int (xs (i + 1)), .int (xs (i + 2))]) (rest := [.int r]) C0 hK dL_law_838 (TT_of (List.mem_of_getElem? (i := 1141) (by decide +kernel)) rfl) mo_X10_feed mv_X10_feed clX10 (Nat.le_of_ble_eq_true rfl) rfl rfl (Nat.le_of_ble_eq_true rfl) (Nat.le_of_ble_eq_true rfl) h84 (by decide) hC (fun v2 σ2 h2 => ?_)
  obtain ⟨rfl, hR2⟩ := h2
  exact q_same C0 dL_law_841 rfl (k σ2 hR2)
theorem lc_22 (C0 : lw_At p s m meth c b L xs) (hK : gKK G s) (hL : L ≤ 2048) (hi : i + 4 ≤ L) (hR : RR G σ) (k : ∀ σ', RR G σ' → LpS p e s m below meth c G b 1156 i [] σ') : LpS p e s m below meth c G b 846 i [] σ := by
  obtain ⟨fs, h0⟩ := hR.o0
  refine q_aload_n (pc' := 847) C0 dL_law_846 rfl ?_
  refine q_call (pc' := 850) (ν := mX9_wipe) (q := 0) (As := []) (rest := []) C0 hK dL_law_847 (TT_of (List.mem_of_getElem? (i := 716) (by decide +kernel)) rfl) mo_X9_wipe mv_X9_wipe clX9 (Nat.le_of_ble_eq_true rfl) rfl rfl (Nat.le_of_ble_eq_true rfl) (Nat.le_of_ble_eq_true rfl) h0 (by decide) (pr_wipe σ hR) (fun v σ1 h => ?_)
  obtain ⟨r, rfl, ⟨fs2, h84⟩, hC⟩ := h
  refine q_aload_n (pc' := 851) C0 dL_law_850 rfl ?_
  refine q_call (pc' := 854) (ν := mX10_wipe) (q := 84) (As := []) (rest := [.int r]) C0 hK dL_law_851 (TT_of (List.mem_of_getElem? (i := 1145) (by decide +kernel)) rfl) mo_X10_wipe mv_X10_wipe clX10 (Nat.le_of_ble_eq_true rfl) rfl rfl (Nat.le_of_ble_eq_true rfl) (Nat.le_of_ble_eq_true rfl) h84 (by decide) hC (fun v2 σ2 h2 => ?_)
  obtain ⟨rfl, hR2⟩ := h2
  exact q_same C0 dL_law_854 rfl (k σ2 hR2)
theorem lc_23 (C0 : lw_At p s m meth c b L xs) (hK : gKK G s) (hL : L ≤ 2048) (hi : i + 4 ≤ L) (hR : RR G σ) (k : ∀ σ', RR G σ' → LpS p e s m below meth c G b 1156 i [] σ') : LpS p e s m below meth c G b 859 i [] σ := by
  obtain ⟨fs, h0⟩ := hR.o0
  refine q_aload_n (pc' := 860) C0 dL_law_859 rfl ?_
  refine q_call (pc' := 863) (ν := mX9_read) (q := 0) (As := []) (rest := []) C0 hK dL_law_860 (TT_of (List.mem_of_getElem? (i := 720) (by decide +kernel)) rfl) mo_X9_read mv_X9_read clX9 (Nat.le_of_ble_eq_true rfl) rfl rfl (Nat.le_of_ble_eq_true rfl) (Nat.le_of_ble_eq_true rfl) h0 (by decide) (pr_read σ hR) (fun v σ1 h => ?_)
  obtain ⟨r, rfl, ⟨fs2, h84⟩, hC⟩ := h
  refine q_aload_n (pc' := 864) C0 dL_law_863 rfl ?_
  refine q_call (pc' := 867) (ν := mX10_read) (q := 84) (As := []) (rest := [.int r]) C0 hK dL_law_864 (TT_of (List.mem_of_getElem? (i := 1149) (by decide +kernel)) rfl) mo_X10_read mv_X10_read clX10 (Nat.le_of_ble_eq_true rfl) rfl rfl (Nat.le_of_ble_eq_true rfl) (Nat.le_of_ble_eq_true rfl) h84 (by decide) hC (fun v2 σ2 h2 => ?_)
  obtain ⟨rfl, hR2⟩ := h2
  exact q_same C0 dL_law_867 rfl (k σ2 hR2)
theorem lc_24 (C0 : lw_At p s m meth c b L xs) (hK : gKK G s) (hL : L ≤ 2048) (hi : i + 4 ≤ L) (hR : RR G σ) (k : ∀ σ', RR G σ' → LpS p e s m below meth c G b 1156 i [] σ') : LpS p e s m below meth c G b 872 i [] σ := by
  obtain ⟨fs, h0⟩ := hR.o0
  refine q_aload_n (pc' := 873) C0 dL_law_872 rfl ?_
  refine q_arg (pc' := 878) (a := 1) C0 hL dL_law_873 dL_law_874 dL_law_875 dL_law_876 dL_law_877 rfl (by omega) ?_
  refine q_call (pc' := 881) (ν := mX9_spell) (q := 0) (As := [.int (xs (i + 1))]) (rest := []) C0 hK dL_law_878 (TT_of (List.mem_of_getElem? (i := 742) (by decide +kernel)) rfl) mo_X9_spell mv_X9_spell clX9 (Nat.le_of_ble_eq_true rfl) rfl rfl (Nat.le_of_ble_eq_true rfl) (Nat.le_of_ble_eq_true rfl) h0 (by decide) (pr_spell σ hR) (fun v σ1 h => ?_)
  obtain ⟨r, rfl, ⟨fs2, h84⟩, hC⟩ := h
  refine q_aload_n (pc' := 882) C0 dL_law_881 rfl ?_
  refine q_arg (pc' := 887) (a := 1) C0 hL dL_law_882 dL_law_883 dL_law_884 dL_law_885 dL_law_886 rfl (by omega) ?_
  refine q_call (pc' := 890) (ν := mX10_spell) (q := 84) (As := [.int (xs (i + 1))]) (rest := [.int r]) C0 hK dL_law_887 (TT_of (List.mem_of_getElem? (i := 1169) (by decide +kernel)) rfl) mo_X10_spell mv_X10_spell clX10 (Nat.le_of_ble_eq_true rfl) rfl rfl (Nat.le_of_ble_eq_true rfl) (Nat.le_of_ble_eq_true rfl) h84 (by decide) hC (fun v2 σ2 h2 => ?_)
  obtain ⟨rfl, hR2⟩ := h2
  exact q_same C0 dL_law_890 rfl (k σ2 hR2)
theorem lc_25 (C0 : lw_At p s m meth c b L xs) (hK : gKK G s) (hL : L ≤ 2048) (hi : i + 4 ≤ L) (hR : RR G σ) (k : ∀ σ', RR G σ' → LpS p e s m below meth c G b 1156 i [] σ') : LpS p e s m below meth c G b 895 i [] σ := by
  obtain ⟨fs, h0⟩ := hR.o0
  refine q_aload_n (pc' := 896) C0 dL_law_895 rfl ?_
  refine q_arg (pc' := 901) (a := 1) C0 hL dL_law_896 dL_law_897 dL_law_898 dL_law_899 dL_law_900 rfl (by omega) ?_
  refine q_call (pc' := 904) (ν := mX9_hold) (q := 0) (As := [.int (xs (i + 1))]) (rest := []) C0 hK dL_law_901 (TT_of (List.mem_of_getElem? (i := 759) (by decide +kernel)) rfl) mo_X9_hold mv_X9_hold clX9 (Nat.le_of_ble_eq_true rfl) rfl rfl (Nat.le_of_ble_eq_true rfl) (Nat.le_of_ble_eq_true rfl) h0 (by decide) (pr_hold σ hR) (fun v σ1 h => ?_)
  obtain ⟨r, rfl, ⟨fs2, h84⟩, hC⟩ := h
  refine q_aload_n (pc' := 905) C0 dL_law_904 rfl ?_
  refine q_arg (pc' := 910) (a := 1) C0 hL dL_law_905 dL_law_906 dL_law_907 dL_law_908 dL_law_909 rfl (by omega) ?_
  refine q_call (pc' := 913) (ν := mX10_hold) (q := 84) (As := [.int (xs (i + 1))]) (rest := [.int r]) C0 hK dL_law_910 (TT_of (List.mem_of_getElem? (i := 1181) (by decide +kernel)) rfl) mo_X10_hold mv_X10_hold clX10 (Nat.le_of_ble_eq_true rfl) rfl rfl (Nat.le_of_ble_eq_true rfl) (Nat.le_of_ble_eq_true rfl) h84 (by decide) hC (fun v2 σ2 h2 => ?_)
  obtain ⟨rfl, hR2⟩ := h2
  exact q_same C0 dL_law_913 rfl (k σ2 hR2)
theorem lc_26 (C0 : lw_At p s m meth c b L xs) (hK : gKK G s) (hL : L ≤ 2048) (hi : i + 4 ≤ L) (hR : RR G σ) (k : ∀ σ', RR G σ' → LpS p e s m below meth c G b 1156 i [] σ') : LpS p e s m below meth c G b 918 i [] σ := by
  obtain ⟨fs, h0⟩ := hR.o0
  refine q_aload_n (pc' := 919) C0 dL_law_918 rfl ?_
  refine q_arg (pc' := 924) (a := 1) C0 hL dL_law_919 dL_law_920 dL_law_921 dL_law_922 dL_law_923 rfl (by omega) ?_
  refine q_call (pc' := 927) (ν := mX9_lose) (q := 0) (As := [.int (xs (i + 1))]) (rest := []) C0 hK dL_law_924 (TT_of (List.mem_of_getElem? (i := 763) (by decide +kernel)) rfl) mo_X9_lose mv_X9_lose clX9 (Nat.le_of_ble_eq_true rfl) rfl rfl (Nat.le_of_ble_eq_true rfl) (Nat.le_of_ble_eq_true rfl) h0 (by decide) (pr_lose σ hR) (fun v σ1 h => ?_)
  obtain ⟨r, rfl, ⟨fs2, h84⟩, hC⟩ := h
  refine q_aload_n (pc' := 928) C0 dL_law_927 rfl ?_
  refine q_arg (pc' := 933) (a := 1) C0 hL dL_law_928 dL_law_929 dL_law_930 dL_law_931 dL_law_932 rfl (by omega) ?_
  refine q_call (pc' := 936) (ν := mX10_lose) (q := 84) (As := [.int (xs (i + 1))]) (rest := [.int r]) C0 hK dL_law_933 (TT_of (List.mem_of_getElem? (i := 1185) (by decide +kernel)) rfl) mo_X10_lose mv_X10_lose clX10 (Nat.le_of_ble_eq_true rfl) rfl rfl (Nat.le_of_ble_eq_true rfl) (Nat.le_of_ble_eq_true rfl) h84 (by decide) hC (fun v2 σ2 h2 => ?_)
  obtain ⟨rfl, hR2⟩ := h2
  exact q_same C0 dL_law_936 rfl (k σ2 hR2)
theorem lc_27 (C0 : lw_At p s m meth c b L xs) (hK : gKK G s) (hL : L ≤ 2048) (hi : i + 4 ≤ L) (hR : RR G σ) (k : ∀ σ', RR G σ' → LpS p e s m below meth c G b 1156 i [] σ') : LpS p e s m below meth c G b 941 i [] σ := by
  obtain ⟨fs, h0⟩ := hR.o0
  refine q_aload_n (pc' := 942) C0 dL_law_941 rfl ?_
  refine q_arg (pc' := 947) (a := 1) C0 hL dL_law_942 dL_law_943 dL_law_944 dL_law_945 dL_law_946 rfl (by omega) ?_
  refine q_arg (pc' := 952) (a := 2) C0 hL dL_law_947 dL_law_948 dL_law_949 dL_law_950 dL_law_951 rfl (by omega) ?_
  refine q_call (pc' := 955) (ν := mX9_taken) (q := 0) (As := [.int (xs (i + 1)), .int (xs (i + 2))]) (rest := []) C0 hK dL_law_952 (TT_of (List.mem_of_getElem? (i := 767) (by decide +kernel)) rfl) mo_X9_taken mv_X9_taken clX9 (Nat.le_of_ble_eq_true rfl) rfl rfl (Nat.le_of_ble_eq_true rfl) (Nat.le_of_ble_eq_true rfl) h0 (by decide) (pr_taken σ hR) (fun v σ1 h => ?_)
  obtain ⟨r, rfl, ⟨fs2, h84⟩, hC⟩ := h
  refine q_aload_n (pc' := 956) C0 dL_law_955 rfl ?_
  refine q_arg (pc' := 961) (a := 1) C0 hL dL_law_956 dL_law_957 dL_law_958 dL_law_959 dL_law_960 rfl (by omega) ?_
  refine q_arg (pc' := 966) (a := 2) C0 hL dL_law_961 dL_law_962 dL_law_963 dL_law_964 dL_law_965 rfl (by omega) ?_
  refine q_call (pc' := 969) (ν := mX10_taken) (q := 84) (As := [.int (xs (i + 1)), .int (xs (i + 2))]) (rest := [.int r]) C0 hK dL_law_966 (TT_of (List.mem_of_getElem? (i := 1189) (by decide +kernel)) rfl) mo_X10_taken mv_X10_taken clX10 (Nat.le_of_ble_eq_true rfl) rfl rfl (Nat.le_of_ble_eq_true rfl) (Nat.le_of_ble_eq_true rfl) h84 (by decide) hC (fun v2 σ2 h2 => ?_)
  obtain ⟨rfl, hR2⟩ := h2
  exact q_same C0 dL_law_969 rfl (k σ2 hR2)
theorem lc_28 (C0 : lw_At p s m meth c b L xs) (hK : gKK G s) (hL : L ≤ 2048) (hi : i + 4 ≤ L) (hR : RR G σ) (k : ∀ σ', RR G σ' → LpS p e s m below meth c G b 1156 i [] σ') : LpS p e s m below meth c G b 974 i [] σ := by
  obtain ⟨fs, h0⟩ := hR.o0
  refine q_aload_n (pc' := 975) C0 dL_law_974 rfl ?_
  refine q_arg (pc' := 980) (a := 1) C0 hL dL_law_975 dL_law_976 dL_law_977 dL_law_978 dL_law_979 rfl (by omega) ?_
  refine q_arg (pc' := 985) (a := 2) C0 hL dL_law_980 dL_law_981 dL_law_982 dL_law_983 dL_law_984 rfl (by omega) ?_
  refine q_call (pc' := 988) (ν := mX9_number) (q := 0) (As := [.int (xs (i + 1)), .int (xs (i + 2))]) (rest := []) C0 hK dL_law_985 (TT_of (List.mem_of_getElem? (i := 775) (by decide +kernel)) rfl) mo_X9_number mv_X9_number clX9 (Nat.le_of_ble_eq_true rfl) rfl rfl (Nat.le_of_ble_eq_true rfl) (Nat.le_of_ble_eq_true rfl) h0 (by decide) (pr_number σ hR) (fun v σ1 h => ?_)
  obtain ⟨r, rfl, ⟨fs2, h84⟩, hC⟩ := h
  refine q_aload_n (pc' := 989) C0 dL_law_988 rfl ?_
  refine q_arg (pc' := 994) (a := 1) C0 hL dL_law_989 dL_law_990 dL_law_991 dL_law_992 dL_law_993 rfl (by omega) ?_
  refine q_arg (pc' := 999) (a := 2) C0 hL dL_law_994 dL_law_995 dL_law_996 dL_law_997 dL_law_998 rfl (by omega) ?_
  refine q_call (pc' := 1002) (ν := mX10_number) (q := 84) (As := [.int (xs (i + 1)), .int (xs (i + 2))]) (rest := [.long r]) C0 hK dL_law_999 (TT_of (List.mem_of_getElem? (i := 1193) (by decide +kernel)) rfl) mo_X10_number mv_X10_number clX10 (Nat.le_of_ble_eq_true rfl) rfl rfl (Nat.le_of_ble_eq_true rfl) (Nat.le_of_ble_eq_true rfl) h84 (by decide) hC (fun v2 σ2 h2 => ?_)
  obtain ⟨rfl, hR2⟩ := h2
  exact q_sameL C0 dL_law_1002 dL_law_1003 rfl (k σ2 hR2)
theorem lc_29 (C0 : lw_At p s m meth c b L xs) (hK : gKK G s) (hL : L ≤ 2048) (hi : i + 4 ≤ L) (hR : RR G σ) (k : ∀ σ', RR G σ' → LpS p e s m below meth c G b 1156 i [] σ') : LpS p e s m below meth c G b 1008 i [] σ := by
  obtain ⟨fs, h0⟩ := hR.o0
  refine q_aload_n (pc' := 1009) C0 dL_law_1008 rfl ?_
  refine q_arg (pc' := 1014) (a := 1) C0 hL dL_law_1009 dL_law_1010 dL_law_1011 dL_law_1012 dL_law_1013 rfl (by omega) ?_
  refine q_arg (pc' := 1019) (a := 2) C0 hL dL_law_1014 dL_law_1015 dL_law_1016 dL_law_1017 dL_law_1018 rfl (by omega) ?_
  refine q_call (pc' := 1022) (ν := mX9_row) (q := 0) (As := [.int (xs (i + 1)), .int (xs (i + 2))]) (rest := []) C0 hK dL_law_1019 (TT_of (List.mem_of_getElem? (i := 783) (by decide +kernel)) rfl) mo_X9_row mv_X9_row clX9 (Nat.le_of_ble_eq_true rfl) rfl rfl (Nat.le_of_ble_eq_true rfl) (Nat.le_of_ble_eq_true rfl) h0 (by decide) (pr_row σ hR) (fun v σ1 h => ?_)
  obtain ⟨r, rfl, ⟨fs2, h84⟩, hC⟩ := h
  refine q_aload_n (pc' := 1023) C0 dL_law_1022 rfl ?_
  refine q_arg (pc' := 1028) (a := 1) C0 hL dL_law_1023 dL_law_1024 dL_law_1025 dL_law_1026 dL_law_1027 rfl (by omega) ?_
  refine q_arg (pc' := 1033) (a := 2) C0 hL dL_law_1028 dL_law_1029 dL_law_1030 dL_law_1031 dL_law_1032 rfl (by omega) ?_
  refine q_call (pc' := 1036) (ν := mX10_row) (q := 84) (As := [.int (xs (i + 1)), .int (xs (i + 2))]) (rest := [.int r]) C0 hK dL_law_1033 (TT_of (List.mem_of_getElem? (i := 1197) (by decide +kernel)) rfl) mo_X10_row mv_X10_row clX10 (Nat.le_of_ble_eq_true rfl) rfl rfl (Nat.le_of_ble_eq_true rfl) (Nat.le_of_ble_eq_true rfl) h84 (by decide) hC (fun v2 σ2 h2 => ?_)
  obtain ⟨rfl, hR2⟩ := h2
  exact q_same C0 dL_law_1036 rfl (k σ2 hR2)
theorem lc_30 (C0 : lw_At p s m meth c b L xs) (hK : gKK G s) (hL : L ≤ 2048) (hi : i + 4 ≤ L) (hR : RR G σ) (k : ∀ σ', RR G σ' → LpS p e s m below meth c G b 1156 i [] σ') : LpS p e s m below meth c G b 1041 i [] σ := by
  obtain ⟨fs, h0⟩ := hR.o0
  refine q_aload_n (pc' := 1042) C0 dL_law_1041 rfl ?_
  refine q_arg (pc' := 1047) (a := 1) C0 hL dL_law_1042 dL_law_1043 dL_law_1044 dL_law_1045 dL_law_1046 rfl (by omega) ?_
  refine q_arg (pc' := 1052) (a := 2) C0 hL dL_law_1047 dL_law_1048 dL_law_1049 dL_law_1050 dL_law_1051 rfl (by omega) ?_
  refine q_arg (pc' := 1057) (a := 3) C0 hL dL_law_1052 dL_law_1053 dL_law_1054 dL_law_1055 dL_law_1056 rfl (by omega) ?_
  refine q_call (pc' := 1060) (ν := mX9_set) (q := 0) (As := [.int (xs (i + 1)), .int (xs (i + 2)), .int (xs (i + 3))]) (rest := []) C0 hK dL_law_1057 (TT_of (List.mem_of_getElem? (i := 791) (by decide +kernel)) rfl) mo_X9_set mv_X9_set clX9 (Nat.le_of_ble_eq_true rfl) rfl rfl (Nat.le_of_ble_eq_true rfl) (Nat.le_of_ble_eq_true rfl) h0 (by decide) (pr_set σ hR) (fun v σ1 h => ?_)
  obtain ⟨r, rfl, ⟨fs2, h84⟩, hC⟩ := h
  refine q_aload_n (pc' := 1061) C0 dL_law_1060 rfl ?_
  refine q_arg (pc' := 1066) (a := 1) C0 hL dL_law_1061 dL_law_1062 dL_law_1063 dL_law_1064 dL_law_1065 rfl (by omega) ?_
  refine q_arg (pc' := 1071) (a := 2) C0 hL dL_law_1066 dL_law_1067 dL_law_1068 dL_law_1069 dL_law_1070 rfl (by omega) ?_
  refine q_arg (pc' := 1076) (a := 3) C0 hL dL_law_1071 dL_law_1072 dL_law_1073 dL_law_1074 dL_law_1075 rfl (by omega) ?_
  refine q_call (pc' := 1079) (ν := mX10_set) (q := 84) (As := [.int (xs (i + 1)), .int (xs (i + 2)), .int (xs (i + 3))]) (rest := [.int r]) C0 hK dL_law_1076 (TT_of (List.mem_of_getElem? (i := 1201) (by decide +kernel)) rfl) mo_X10_set mv_X10_set clX10 (Nat.le_of_ble_eq_true rfl) rfl rfl (Nat.le_of_ble_eq_true rfl) (Nat.le_of_ble_eq_true rfl) h84 (by decide) hC (fun v2 σ2 h2 => ?_)
  obtain ⟨rfl, hR2⟩ := h2
  exact q_same C0 dL_law_1079 rfl (k σ2 hR2)
theorem lc_31 (C0 : lw_At p s m meth c b L xs) (hK : gKK G s) (hL : L ≤ 2048) (hi : i + 4 ≤ L) (hR : RR G σ) (k : ∀ σ', RR G σ' → LpS p e s m below meth c G b 1156 i [] σ') : LpS p e s m below meth c G b 1084 i [] σ := by
  obtain ⟨fs, h0⟩ := hR.o0
  refine q_aload_n (pc' := 1085) C0 dL_law_1084 rfl ?_
  refine q_arg (pc' := 1090) (a := 1) C0 hL dL_law_1085 dL_law_1086 dL_law_1087 dL_law_1088 dL_law_1089 rfl (by omega) ?_
  refine q_call (pc' := 1093) (ν := mX9_judge) (q := 0) (As := [.int (xs (i + 1))]) (rest := []) C0 hK dL_law_1090 (TT_of (List.mem_of_getElem? (i := 795) (by decide +kernel)) rfl) mo_X9_judge mv_X9_judge clX9 (Nat.le_of_ble_eq_true rfl) rfl rfl (Nat.le_of_ble_eq_true rfl) (Nat.le_of_ble_eq_true rfl) h0 (by decide) (pr_judge σ hR) (fun v σ1 h => ?_)
  obtain ⟨r, rfl, ⟨fs2, h84⟩, hC⟩ := h
  refine q_aload_n (pc' := 1094) C0 dL_law_1093 rfl ?_
  refine q_arg (pc' := 1099) (a := 1) C0 hL dL_law_1094 dL_law_1095 dL_law_1096 dL_law_1097 dL_law_1098 rfl (by omega) ?_
  refine q_call (pc' := 1102) (ν := mX10_judge) (q := 84) (As := [.int (xs (i + 1))]) (rest := [.int r]) C0 hK dL_law_1099 (TT_of (List.mem_of_getElem? (i := 1209) (by decide +kernel)) rfl) mo_X10_judge mv_X10_judge clX10 (Nat.le_of_ble_eq_true rfl) rfl rfl (Nat.le_of_ble_eq_true rfl) (Nat.le_of_ble_eq_true rfl) h84 (by decide) hC (fun v2 σ2 h2 => ?_)
  obtain ⟨rfl, hR2⟩ := h2
  exact q_same C0 dL_law_1102 rfl (k σ2 hR2)
theorem lc_32 (C0 : lw_At p s m meth c b L xs) (hK : gKK G s) (hL : L ≤ 2048) (hi : i + 4 ≤ L) (hR : RR G σ) (k : ∀ σ', RR G σ' → LpS p e s m below meth c G b 1156 i [] σ') : LpS p e s m below meth c G b 1107 i [] σ := by
  obtain ⟨fs, h0⟩ := hR.o0
  refine q_aload_n (pc' := 1108) C0 dL_law_1107 rfl ?_
  refine q_call (pc' := 1111) (ν := mX9_image) (q := 0) (As := []) (rest := []) C0 hK dL_law_1108 (TT_of (List.mem_of_getElem? (i := 799) (by decide +kernel)) rfl) mo_X9_image mv_X9_image clX9 (Nat.le_of_ble_eq_true rfl) rfl rfl (Nat.le_of_ble_eq_true rfl) (Nat.le_of_ble_eq_true rfl) h0 (by decide) (pr_image σ hR) (fun v σ1 h => ?_)
  obtain ⟨r, rfl, ⟨fs2, h84⟩, hC⟩ := h
  refine q_aload_n (pc' := 1112) C0 dL_law_1111 rfl ?_
  refine q_call (pc' := 1115) (ν := mX10_image) (q := 84) (As := []) (rest := [.int r]) C0 hK dL_law_1112 (TT_of (List.mem_of_getElem? (i := 1213) (by decide +kernel)) rfl) mo_X10_image mv_X10_image clX10 (Nat.le_of_ble_eq_true rfl) rfl rfl (Nat.le_of_ble_eq_true rfl) (Nat.le_of_ble_eq_true rfl) h84 (by decide) hC (fun v2 σ2 h2 => ?_)
  obtain ⟨rfl, hR2⟩ := h2
  exact q_same C0 dL_law_1115 rfl (k σ2 hR2)
theorem lc_33 (C0 : lw_At p s m meth c b L xs) (hK : gKK G s) (hL : L ≤ 2048) (hi : i + 4 ≤ L) (hR : RR G σ) (k : ∀ σ', RR G σ' → LpS p e s m below meth c G b 1156 i [] σ') : LpS p e s m below meth c G b 1120 i [] σ := by
  obtain ⟨fs, h0⟩ := hR.o0
  refine q_aload_n (pc' := 1121) C0 dL_law_1120 rfl ?_
  refine q_call (pc' := 1124) (ν := mX9_undo) (q := 0) (As := []) (rest := []) C0 hK dL_law_1121 (TT_of (List.mem_of_getElem? (i := 808) (by decide +kernel)) rfl) mo_X9_undo mv_X9_undo clX9 (Nat.le_of_ble_eq_true rfl) rfl rfl (Nat.le_of_ble_eq_true rfl) (Nat.le_of_ble_eq_true rfl) h0 (by decide) (pr_undo σ hR) (fun v σ1 h => ?_)
  obtain ⟨r, rfl, ⟨fs2, h84⟩, hC⟩ := h
  refine q_aload_n (pc' := 1125) C0 dL_law_1124 rfl ?_
  refine q_call (pc' := 1128) (ν := mX10_undo) (q := 84) (As := []) (rest := [.int r]) C0 hK dL_law_1125 (TT_of (List.mem_of_getElem? (i := 1217) (by decide +kernel)) rfl) mo_X10_undo mv_X10_undo clX10 (Nat.le_of_ble_eq_true rfl) rfl rfl (Nat.le_of_ble_eq_true rfl) (Nat.le_of_ble_eq_true rfl) h84 (by decide) hC (fun v2 σ2 h2 => ?_)
  obtain ⟨rfl, hR2⟩ := h2
  exact q_same C0 dL_law_1128 rfl (k σ2 hR2)
theorem lc_34 (C0 : lw_At p s m meth c b L xs) (hK : gKK G s) (hL : L ≤ 2048) (hi : i + 4 ≤ L) (hR : RR G σ) (k : ∀ σ', RR G σ' → LpS p e s m below meth c G b 1156 i [] σ') : LpS p e s m below meth c G b 1133 i [] σ := by
  obtain ⟨fs, h0⟩ := hR.o0
  refine q_aload_n (pc' := 1134) C0 dL_law_1133 rfl ?_
  refine q_arg (pc' := 1139) (a := 1) C0 hL dL_law_1134 dL_law_1135 dL_law_1136 dL_law_1137 dL_law_1138 rfl (by omega) ?_
  refine q_call (pc' := 1142) (ν := mX9_count) (q := 0) (As := [.int (xs (i + 1))]) (rest := []) C0 hK dL_law_1139 (TT_of (List.mem_of_getElem? (i := 812) (by decide +kernel)) rfl) mo_X9_count mv_X9_count clX9 (Nat.le_of_ble_eq_true rfl) rfl rfl (Nat.le_of_ble_eq_true rfl) (Nat.le_of_ble_eq_true rfl) h0 (by decide) (pr_count σ hR) (fun v σ1 h => ?_)
  obtain ⟨r, rfl, ⟨fs2, h84⟩, hC⟩ := h
  refine q_aload_n (pc' := 1143) C0 dL_law_1142 rfl ?_
  refine q_arg (pc' := 1148) (a := 1) C0 hL dL_law_1143 dL_law_1144 dL_law_1145 dL_law_1146 dL_law_1147 rfl (by omega) ?_
  refine q_call (pc' := 1151) (ν := mX10_count) (q := 84) (As := [.int (xs (i + 1))]) (rest := [.int r]) C0 hK dL_law_1148 (TT_of (List.mem_of_getElem? (i := 1221) (by decide +kernel)) rfl) mo_X10_count mv_X10_count clX10 (Nat.le_of_ble_eq_true rfl) rfl rfl (Nat.le_of_ble_eq_true rfl) (Nat.le_of_ble_eq_true rfl) h84 (by decide) hC (fun v2 σ2 h2 => ?_)
  obtain ⟨rfl, hR2⟩ := h2
  exact q_same C0 dL_law_1151 rfl (k σ2 hR2)
end LAW2
