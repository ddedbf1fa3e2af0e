/-! THE LAW's 35 calls. -/
abbrev LL (i : Int) : List (Nat × PV) := [(0, (6, 0)), (1, (2, 0)), (2, (2, 141)), (3, (0, i))]
theorem lc_picture {ρ : Rh} {L : Nat} {xs : Nat → Int32} {i : Int} {w : Wd} (hX : XF ρ L xs) (hL : L ≤ 3072) (h0 : 0 ≤ i) (h1 : i + 5 < L) (h : GAl w) (kk : ∀ w1, GAl w1 → AtN mL 42 ρ 1496 (LL i) [] w1) : AtN mL 42 ρ 188 (LL i) [] w := by
  obtain ⟨J, hx, hm⟩ := op_picture (sv xs (i + 1)) (sv xs (i + 2)) (sv xs (i + 3)) (sv xs (i + 4)) (sv xs (i + 5)) h
  refine s_aload_n dL_law_188 1 rfl rfl (s_aload_n dL_law_189 0 rfl rfl (s_iload_n dL_law_190 3 rfl (s_iconst dL_law_191 (by decide) (n_add (z := i + 1) dL_law_192 (wr_id (by omega) (by omega)) (s_sld dL_law_193 hX hL ⟨by omega, by omega⟩ ?_)))))
  refine s_aload_n dL_law_194 0 rfl rfl (s_iload_n dL_law_195 3 rfl (s_iconst dL_law_196 (by decide) (n_add (z := i + 2) dL_law_197 (wr_id (by omega) (by omega)) (s_sld dL_law_198 hX hL ⟨by omega, by omega⟩ (s_aload_n dL_law_199 0 rfl rfl ?_)))))
  refine s_iload_n dL_law_200 3 rfl (s_iconst dL_law_201 (by decide) (n_add (z := i + 3) dL_law_202 (wr_id (by omega) (by omega)) (s_sld dL_law_203 hX hL ⟨by omega, by omega⟩ (s_aload_n dL_law_204 0 rfl rfl (s_iload_n dL_law_205 3 rfl ?_)))))
  refine s_iconst dL_law_206 (by decide) (n_add (z := i + 4) dL_law_207 (wr_id (by omega) (by omega)) (s_sld dL_law_208 hX hL ⟨by omega, by omega⟩ (s_aload_n dL_law_209 0 rfl rfl (s_iload_n dL_law_210 3 rfl (s_iconst dL_law_211 (by decide) ?_)))))
  refine n_add (z := i + 5) dL_law_212 (wr_id (by omega) (by omega)) (s_sld dL_law_213 hX hL ⟨by omega, by omega⟩ ?_)
  refine n_invV' (as := [(0, sv xs (i + 1)), (0, sv xs (i + 2)), (0, sv xs (i + 3)), (0, sv xs (i + 4)), (0, sv xs (i + 5))]) dL_law_214 kv_X11_picture ml_L_13 hx (by decide) 0 cf_X11 rfl sh_0 rfl rfl rfl (Nat.le_of_ble_eq_true rfl) ?_
  rintro _ w1 ⟨z, rfl, hJ⟩
  show AtN mL 42 ρ 217 (LL i) [(0, z)] w1
  refine s_aload_n dL_law_217 2 rfl rfl (s_aload_n dL_law_218 0 rfl rfl (s_iload_n dL_law_219 3 rfl (s_iconst dL_law_220 (by decide) (n_add (z := i + 1) dL_law_221 (wr_id (by omega) (by omega)) (s_sld dL_law_222 hX hL ⟨by omega, by omega⟩ ?_)))))
  refine s_aload_n dL_law_223 0 rfl rfl (s_iload_n dL_law_224 3 rfl (s_iconst dL_law_225 (by decide) (n_add (z := i + 2) dL_law_226 (wr_id (by omega) (by omega)) (s_sld dL_law_227 hX hL ⟨by omega, by omega⟩ (s_aload_n dL_law_228 0 rfl rfl ?_)))))
  refine s_iload_n dL_law_229 3 rfl (s_iconst dL_law_230 (by decide) (n_add (z := i + 3) dL_law_231 (wr_id (by omega) (by omega)) (s_sld dL_law_232 hX hL ⟨by omega, by omega⟩ (s_aload_n dL_law_233 0 rfl rfl (s_iload_n dL_law_234 3 rfl ?_)))))
  refine s_iconst dL_law_235 (by decide) (n_add (z := i + 4) dL_law_236 (wr_id (by omega) (by omega)) (s_sld dL_law_237 hX hL ⟨by omega, by omega⟩ (s_aload_n dL_law_238 0 rfl rfl (s_iload_n dL_law_239 3 rfl (s_iconst dL_law_240 (by decide) ?_)))))
  refine n_add (z := i + 5) dL_law_241 (wr_id (by omega) (by omega)) (s_sld dL_law_242 hX hL ⟨by omega, by omega⟩ ?_)
  refine n_invV' (as := [(0, sv xs (i + 1)), (0, sv xs (i + 2)), (0, sv xs (i + 3)), (0, sv xs (i + 4)), (0, sv xs (i + 5))]) dL_law_243 kv_X12_picture ml_L_17 (hm z w1 hJ) (by decide) 141 cf_X12 rfl sh_141 rfl rfl rfl (Nat.le_of_ble_eq_true rfl) ?_
  rintro _ w2 ⟨z2, rfl, e, hG⟩
  show AtN mL 42 ρ 246 (LL i) [(0, z2), (0, z)] w2
  exact s_icmp_eq 1496 dL_law_246 (by decide) (fun _ => kk w2 hG) (fun c => absurd e.symm c)
theorem lc_print {ρ : Rh} {L : Nat} {xs : Nat → Int32} {i : Int} {w : Wd} (hX : XF ρ L xs) (hL : L ≤ 3072) (h0 : 0 ≤ i) (h1 : i + 5 < L) (h : GAl w) (kk : ∀ w1, GAl w1 → AtN mL 42 ρ 1496 (LL i) [] w1) : AtN mL 42 ρ 251 (LL i) [] w := by
  obtain ⟨J, hx, hm⟩ := op_print (sv xs (i + 1)) h
  refine s_aload_n dL_law_251 1 rfl rfl (s_aload_n dL_law_252 0 rfl rfl (s_iload_n dL_law_253 3 rfl (s_iconst dL_law_254 (by decide) (n_add (z := i + 1) dL_law_255 (wr_id (by omega) (by omega)) (s_sld dL_law_256 hX hL ⟨by omega, by omega⟩ ?_)))))
  refine n_invV' (as := [(0, sv xs (i + 1))]) dL_law_257 kv_X11_print ml_L_18 hx (by decide) 0 cf_X11 rfl sh_0 rfl rfl rfl (Nat.le_of_ble_eq_true rfl) ?_
  rintro _ w1 ⟨z, rfl, hJ⟩
  show AtN mL 42 ρ 260 (LL i) [(0, z)] w1
  refine s_aload_n dL_law_260 2 rfl rfl (s_aload_n dL_law_261 0 rfl rfl (s_iload_n dL_law_262 3 rfl (s_iconst dL_law_263 (by decide) (n_add (z := i + 1) dL_law_264 (wr_id (by omega) (by omega)) (s_sld dL_law_265 hX hL ⟨by omega, by omega⟩ ?_)))))
  refine n_invV' (as := [(0, sv xs (i + 1))]) dL_law_266 kv_X12_print ml_L_22 (hm z w1 hJ) (by decide) 141 cf_X12 rfl sh_141 rfl rfl rfl (Nat.le_of_ble_eq_true rfl) ?_
  rintro _ w2 ⟨z2, rfl, e, hG⟩
  show AtN mL 42 ρ 269 (LL i) [(0, z2), (0, z)] w2
  exact s_icmp_eq 1496 dL_law_269 (by decide) (fun _ => kk w2 hG) (fun c => absurd e.symm c)
theorem lc_event {ρ : Rh} {L : Nat} {xs : Nat → Int32} {i : Int} {w : Wd} (hX : XF ρ L xs) (hL : L ≤ 3072) (h0 : 0 ≤ i) (h1 : i + 5 < L) (h : GAl w) (kk : ∀ w1, GAl w1 → AtN mL 42 ρ 1496 (LL i) [] w1) : AtN mL 42 ρ 274 (LL i) [] w := by
  obtain ⟨J, hx, hm⟩ := op_event (sv xs (i + 1)) (sv xs (i + 2)) (sv xs (i + 3)) (sv xs (i + 4)) h
  refine s_aload_n dL_law_274 1 rfl rfl (s_aload_n dL_law_275 0 rfl rfl (s_iload_n dL_law_276 3 rfl (s_iconst dL_law_277 (by decide) (n_add (z := i + 1) dL_law_278 (wr_id (by omega) (by omega)) (s_sld dL_law_279 hX hL ⟨by omega, by omega⟩ ?_)))))
  refine s_aload_n dL_law_280 0 rfl rfl (s_iload_n dL_law_281 3 rfl (s_iconst dL_law_282 (by decide) (n_add (z := i + 2) dL_law_283 (wr_id (by omega) (by omega)) (s_sld dL_law_284 hX hL ⟨by omega, by omega⟩ (s_aload_n dL_law_285 0 rfl rfl ?_)))))
  refine s_iload_n dL_law_286 3 rfl (s_iconst dL_law_287 (by decide) (n_add (z := i + 3) dL_law_288 (wr_id (by omega) (by omega)) (s_sld dL_law_289 hX hL ⟨by omega, by omega⟩ (s_aload_n dL_law_290 0 rfl rfl (s_iload_n dL_law_291 3 rfl ?_)))))
  refine s_iconst dL_law_292 (by decide) (n_add (z := i + 4) dL_law_293 (wr_id (by omega) (by omega)) (s_sld dL_law_294 hX hL ⟨by omega, by omega⟩ ?_))
  refine n_invV' (as := [(0, sv xs (i + 1)), (0, sv xs (i + 2)), (0, sv xs (i + 3)), (0, sv xs (i + 4))]) dL_law_295 kv_X11_event ml_L_23 hx (by decide) 0 cf_X11 rfl sh_0 rfl rfl rfl (Nat.le_of_ble_eq_true rfl) ?_
  rintro _ w1 ⟨z, rfl, hJ⟩
  show AtN mL 42 ρ 298 (LL i) [(0, z)] w1
  refine s_aload_n dL_law_298 2 rfl rfl (s_aload_n dL_law_299 0 rfl rfl (s_iload_n dL_law_300 3 rfl (s_iconst dL_law_301 (by decide) (n_add (z := i + 1) dL_law_302 (wr_id (by omega) (by omega)) (s_sld dL_law_303 hX hL ⟨by omega, by omega⟩ ?_)))))
  refine s_aload_n dL_law_304 0 rfl rfl (s_iload_n dL_law_305 3 rfl (s_iconst dL_law_306 (by decide) (n_add (z := i + 2) dL_law_307 (wr_id (by omega) (by omega)) (s_sld dL_law_308 hX hL ⟨by omega, by omega⟩ (s_aload_n dL_law_309 0 rfl rfl ?_)))))
  refine s_iload_n dL_law_310 3 rfl (s_iconst dL_law_311 (by decide) (n_add (z := i + 3) dL_law_312 (wr_id (by omega) (by omega)) (s_sld dL_law_313 hX hL ⟨by omega, by omega⟩ (s_aload_n dL_law_314 0 rfl rfl (s_iload_n dL_law_315 3 rfl ?_)))))
  refine s_iconst dL_law_316 (by decide) (n_add (z := i + 4) dL_law_317 (wr_id (by omega) (by omega)) (s_sld dL_law_318 hX hL ⟨by omega, by omega⟩ ?_))
  refine n_invV' (as := [(0, sv xs (i + 1)), (0, sv xs (i + 2)), (0, sv xs (i + 3)), (0, sv xs (i + 4))]) dL_law_319 kv_X12_event ml_L_27 (hm z w1 hJ) (by decide) 141 cf_X12 rfl sh_141 rfl rfl rfl (Nat.le_of_ble_eq_true rfl) ?_
  rintro _ w2 ⟨z2, rfl, e, hG⟩
  show AtN mL 42 ρ 322 (LL i) [(0, z2), (0, z)] w2
  exact s_icmp_eq 1496 dL_law_322 (by decide) (fun _ => kk w2 hG) (fun c => absurd e.symm c)
theorem lc_lead {ρ : Rh} {L : Nat} {xs : Nat → Int32} {i : Int} {w : Wd} (hX : XF ρ L xs) (hL : L ≤ 3072) (h0 : 0 ≤ i) (h1 : i + 5 < L) (h : GAl w) (kk : ∀ w1, GAl w1 → AtN mL 42 ρ 1496 (LL i) [] w1) : AtN mL 42 ρ 327 (LL i) [] w := by
  obtain ⟨J, hx, hm⟩ := op_lead (sv xs (i + 1)) (sv xs (i + 2)) (sv xs (i + 3)) h
  refine s_aload_n dL_law_327 1 rfl rfl (s_aload_n dL_law_328 0 rfl rfl (s_iload_n dL_law_329 3 rfl (s_iconst dL_law_330 (by decide) (n_add (z := i + 1) dL_law_331 (wr_id (by omega) (by omega)) (s_sld dL_law_332 hX hL ⟨by omega, by omega⟩ ?_)))))
  refine s_aload_n dL_law_333 0 rfl rfl (s_iload_n dL_law_334 3 rfl (s_iconst dL_law_335 (by decide) (n_add (z := i + 2) dL_law_336 (wr_id (by omega) (by omega)) (s_sld dL_law_337 hX hL ⟨by omega, by omega⟩ (s_aload_n dL_law_338 0 rfl rfl ?_)))))
  refine s_iload_n dL_law_339 3 rfl (s_iconst dL_law_340 (by decide) (n_add (z := i + 3) dL_law_341 (wr_id (by omega) (by omega)) (s_sld dL_law_342 hX hL ⟨by omega, by omega⟩ ?_)))
  refine n_invV' (as := [(0, sv xs (i + 1)), (0, sv xs (i + 2)), (0, sv xs (i + 3))]) dL_law_343 kv_X11_lead ml_L_28 hx (by decide) 0 cf_X11 rfl sh_0 rfl rfl rfl (Nat.le_of_ble_eq_true rfl) ?_
  rintro _ w1 ⟨z, rfl, hJ⟩
  show AtN mL 42 ρ 346 (LL i) [(0, z)] w1
  refine s_aload_n dL_law_346 2 rfl rfl (s_aload_n dL_law_347 0 rfl rfl (s_iload_n dL_law_348 3 rfl (s_iconst dL_law_349 (by decide) (n_add (z := i + 1) dL_law_350 (wr_id (by omega) (by omega)) (s_sld dL_law_351 hX hL ⟨by omega, by omega⟩ ?_)))))
  refine s_aload_n dL_law_352 0 rfl rfl (s_iload_n dL_law_353 3 rfl (s_iconst dL_law_354 (by decide) (n_add (z := i + 2) dL_law_355 (wr_id (by omega) (by omega)) (s_sld dL_law_356 hX hL ⟨by omega, by omega⟩ (s_aload_n dL_law_357 0 rfl rfl ?_)))))
  refine s_iload_n dL_law_358 3 rfl (s_iconst dL_law_359 (by decide) (n_add (z := i + 3) dL_law_360 (wr_id (by omega) (by omega)) (s_sld dL_law_361 hX hL ⟨by omega, by omega⟩ ?_)))
  refine n_invV' (as := [(0, sv xs (i + 1)), (0, sv xs (i + 2)), (0, sv xs (i + 3))]) dL_law_362 kv_X12_lead ml_L_32 (hm z w1 hJ) (by decide) 141 cf_X12 rfl sh_141 rfl rfl rfl (Nat.le_of_ble_eq_true rfl) ?_
  rintro _ w2 ⟨z2, rfl, e, hG⟩
  show AtN mL 42 ρ 365 (LL i) [(0, z2), (0, z)] w2
  exact s_icmp_eq 1496 dL_law_365 (by decide) (fun _ => kk w2 hG) (fun c => absurd e.symm c)
theorem lc_off {ρ : Rh} {L : Nat} {xs : Nat → Int32} {i : Int} {w : Wd} (hX : XF ρ L xs) (hL : L ≤ 3072) (h0 : 0 ≤ i) (h1 : i + 5 < L) (h : GAl w) (kk : ∀ w1, GAl w1 → AtN mL 42 ρ 1496 (LL i) [] w1) : AtN mL 42 ρ 370 (LL i) [] w := by
  obtain ⟨J, hx, hm⟩ := op_off (sv xs (i + 1)) (sv xs (i + 2)) h
  refine s_aload_n dL_law_370 1 rfl rfl (s_aload_n dL_law_371 0 rfl rfl (s_iload_n dL_law_372 3 rfl (s_iconst dL_law_373 (by decide) (n_add (z := i + 1) dL_law_374 (wr_id (by omega) (by omega)) (s_sld dL_law_375 hX hL ⟨by omega, by omega⟩ ?_)))))
  refine s_aload_n dL_law_376 0 rfl rfl (s_iload_n dL_law_377 3 rfl (s_iconst dL_law_378 (by decide) (n_add (z := i + 2) dL_law_379 (wr_id (by omega) (by omega)) (s_sld dL_law_380 hX hL ⟨by omega, by omega⟩ ?_))))
  refine n_invV' (as := [(0, sv xs (i + 1)), (0, sv xs (i + 2))]) dL_law_381 kv_X11_off ml_L_33 hx (by decide) 0 cf_X11 rfl sh_0 rfl rfl rfl (Nat.le_of_ble_eq_true rfl) ?_
  rintro _ w1 ⟨z, rfl, hJ⟩
  show AtN mL 42 ρ 384 (LL i) [(0, z)] w1
  refine s_aload_n dL_law_384 2 rfl rfl (s_aload_n dL_law_385 0 rfl rfl (s_iload_n dL_law_386 3 rfl (s_iconst dL_law_387 (by decide) (n_add (z := i + 1) dL_law_388 (wr_id (by omega) (by omega)) (s_sld dL_law_389 hX hL ⟨by omega, by omega⟩ ?_)))))
  refine s_aload_n dL_law_390 0 rfl rfl (s_iload_n dL_law_391 3 rfl (s_iconst dL_law_392 (by decide) (n_add (z := i + 2) dL_law_393 (wr_id (by omega) (by omega)) (s_sld dL_law_394 hX hL ⟨by omega, by omega⟩ ?_))))
  refine n_invV' (as := [(0, sv xs (i + 1)), (0, sv xs (i + 2))]) dL_law_395 kv_X12_off ml_L_37 (hm z w1 hJ) (by decide) 141 cf_X12 rfl sh_141 rfl rfl rfl (Nat.le_of_ble_eq_true rfl) ?_
  rintro _ w2 ⟨z2, rfl, e, hG⟩
  show AtN mL 42 ρ 398 (LL i) [(0, z2), (0, z)] w2
  exact s_icmp_eq 1496 dL_law_398 (by decide) (fun _ => kk w2 hG) (fun c => absurd e.symm c)
theorem lc_hall {ρ : Rh} {L : Nat} {xs : Nat → Int32} {i : Int} {w : Wd} (hX : XF ρ L xs) (hL : L ≤ 3072) (h0 : 0 ≤ i) (h1 : i + 5 < L) (h : GAl w) (kk : ∀ w1, GAl w1 → AtN mL 42 ρ 1496 (LL i) [] w1) : AtN mL 42 ρ 403 (LL i) [] w := by
  obtain ⟨J, hx, hm⟩ := op_hall (sv xs (i + 1)) (sv xs (i + 2)) (sv xs (i + 3)) (sv xs (i + 4)) h
  refine s_aload_n dL_law_403 1 rfl rfl (s_aload_n dL_law_404 0 rfl rfl (s_iload_n dL_law_405 3 rfl (s_iconst dL_law_406 (by decide) (n_add (z := i + 1) dL_law_407 (wr_id (by omega) (by omega)) (s_sld dL_law_408 hX hL ⟨by omega, by omega⟩ ?_)))))
  refine s_aload_n dL_law_409 0 rfl rfl (s_iload_n dL_law_410 3 rfl (s_iconst dL_law_411 (by decide) (n_add (z := i + 2) dL_law_412 (wr_id (by omega) (by omega)) (s_sld dL_law_413 hX hL ⟨by omega, by omega⟩ (s_aload_n dL_law_414 0 rfl rfl ?_)))))
  refine s_iload_n dL_law_415 3 rfl (s_iconst dL_law_416 (by decide) (n_add (z := i + 3) dL_law_417 (wr_id (by omega) (by omega)) (s_sld dL_law_418 hX hL ⟨by omega, by omega⟩ (s_aload_n dL_law_419 0 rfl rfl (s_iload_n dL_law_420 3 rfl ?_)))))
  refine s_iconst dL_law_421 (by decide) (n_add (z := i + 4) dL_law_422 (wr_id (by omega) (by omega)) (s_sld dL_law_423 hX hL ⟨by omega, by omega⟩ ?_))
  refine n_invV' (as := [(0, sv xs (i + 1)), (0, sv xs (i + 2)), (0, sv xs (i + 3)), (0, sv xs (i + 4))]) dL_law_424 kv_X11_hall ml_L_38 hx (by decide) 0 cf_X11 rfl sh_0 rfl rfl rfl (Nat.le_of_ble_eq_true rfl) ?_
  rintro _ w1 ⟨z, rfl, hJ⟩
  show AtN mL 42 ρ 427 (LL i) [(0, z)] w1
  refine s_aload_n dL_law_427 2 rfl rfl (s_aload_n dL_law_428 0 rfl rfl (s_iload_n dL_law_429 3 rfl (s_iconst dL_law_430 (by decide) (n_add (z := i + 1) dL_law_431 (wr_id (by omega) (by omega)) (s_sld dL_law_432 hX hL ⟨by omega, by omega⟩ ?_)))))
  refine s_aload_n dL_law_433 0 rfl rfl (s_iload_n dL_law_434 3 rfl (s_iconst dL_law_435 (by decide) (n_add (z := i + 2) dL_law_436 (wr_id (by omega) (by omega)) (s_sld dL_law_437 hX hL ⟨by omega, by omega⟩ (s_aload_n dL_law_438 0 rfl rfl ?_)))))
  refine s_iload_n dL_law_439 3 rfl (s_iconst dL_law_440 (by decide) (n_add (z := i + 3) dL_law_441 (wr_id (by omega) (by omega)) (s_sld dL_law_442 hX hL ⟨by omega, by omega⟩ (s_aload_n dL_law_443 0 rfl rfl (s_iload_n dL_law_444 3 rfl ?_)))))
  refine s_iconst dL_law_445 (by decide) (n_add (z := i + 4) dL_law_446 (wr_id (by omega) (by omega)) (s_sld dL_law_447 hX hL ⟨by omega, by omega⟩ ?_))
  refine n_invV' (as := [(0, sv xs (i + 1)), (0, sv xs (i + 2)), (0, sv xs (i + 3)), (0, sv xs (i + 4))]) dL_law_448 kv_X12_hall ml_L_41 (hm z w1 hJ) (by decide) 141 cf_X12 rfl sh_141 rfl rfl rfl (Nat.le_of_ble_eq_true rfl) ?_
  rintro _ w2 ⟨z2, rfl, e, hG⟩
  show AtN mL 42 ρ 451 (LL i) [(0, z2), (0, z)] w2
  exact s_icmp_eq 1496 dL_law_451 (by decide) (fun _ => kk w2 hG) (fun c => absurd e.symm c)
theorem lc_asks {ρ : Rh} {L : Nat} {xs : Nat → Int32} {i : Int} {w : Wd} (hX : XF ρ L xs) (hL : L ≤ 3072) (h0 : 0 ≤ i) (h1 : i + 5 < L) (h : GAl w) (kk : ∀ w1, GAl w1 → AtN mL 42 ρ 1496 (LL i) [] w1) : AtN mL 42 ρ 456 (LL i) [] w := by
  obtain ⟨J, hx, hm⟩ := op_asks (sv xs (i + 1)) (sv xs (i + 2)) (sv xs (i + 3)) h
  refine s_aload_n dL_law_456 1 rfl rfl (s_aload_n dL_law_457 0 rfl rfl (s_iload_n dL_law_458 3 rfl (s_iconst dL_law_459 (by decide) (n_add (z := i + 1) dL_law_460 (wr_id (by omega) (by omega)) (s_sld dL_law_461 hX hL ⟨by omega, by omega⟩ ?_)))))
  refine s_aload_n dL_law_462 0 rfl rfl (s_iload_n dL_law_463 3 rfl (s_iconst dL_law_464 (by decide) (n_add (z := i + 2) dL_law_465 (wr_id (by omega) (by omega)) (s_sld dL_law_466 hX hL ⟨by omega, by omega⟩ (s_aload_n dL_law_467 0 rfl rfl ?_)))))
  refine s_iload_n dL_law_468 3 rfl (s_iconst dL_law_469 (by decide) (n_add (z := i + 3) dL_law_470 (wr_id (by omega) (by omega)) (s_sld dL_law_471 hX hL ⟨by omega, by omega⟩ ?_)))
  refine n_invV' (as := [(0, sv xs (i + 1)), (0, sv xs (i + 2)), (0, sv xs (i + 3))]) dL_law_472 kv_X11_asks ml_L_42 hx (by decide) 0 cf_X11 rfl sh_0 rfl rfl rfl (Nat.le_of_ble_eq_true rfl) ?_
  rintro _ w1 ⟨z, rfl, hJ⟩
  show AtN mL 42 ρ 475 (LL i) [(0, z)] w1
  refine s_aload_n dL_law_475 2 rfl rfl (s_aload_n dL_law_476 0 rfl rfl (s_iload_n dL_law_477 3 rfl (s_iconst dL_law_478 (by decide) (n_add (z := i + 1) dL_law_479 (wr_id (by omega) (by omega)) (s_sld dL_law_480 hX hL ⟨by omega, by omega⟩ ?_)))))
  refine s_aload_n dL_law_481 0 rfl rfl (s_iload_n dL_law_482 3 rfl (s_iconst dL_law_483 (by decide) (n_add (z := i + 2) dL_law_484 (wr_id (by omega) (by omega)) (s_sld dL_law_485 hX hL ⟨by omega, by omega⟩ (s_aload_n dL_law_486 0 rfl rfl ?_)))))
  refine s_iload_n dL_law_487 3 rfl (s_iconst dL_law_488 (by decide) (n_add (z := i + 3) dL_law_489 (wr_id (by omega) (by omega)) (s_sld dL_law_490 hX hL ⟨by omega, by omega⟩ ?_)))
  refine n_invV' (as := [(0, sv xs (i + 1)), (0, sv xs (i + 2)), (0, sv xs (i + 3))]) dL_law_491 kv_X12_asks ml_L_46 (hm z w1 hJ) (by decide) 141 cf_X12 rfl sh_141 rfl rfl rfl (Nat.le_of_ble_eq_true rfl) ?_
  rintro _ w2 ⟨z2, rfl, e, hG⟩
  show AtN mL 42 ρ 494 (LL i) [(0, z2), (0, z)] w2
  exact s_icmp_eq 1496 dL_law_494 (by decide) (fun _ => kk w2 hG) (fun c => absurd e.symm c)
theorem lc_set {ρ : Rh} {L : Nat} {xs : Nat → Int32} {i : Int} {w : Wd} (hX : XF ρ L xs) (hL : L ≤ 3072) (h0 : 0 ≤ i) (h1 : i + 5 < L) (h : GAl w) (kk : ∀ w1, GAl w1 → AtN mL 42 ρ 1496 (LL i) [] w1) : AtN mL 42 ρ 499 (LL i) [] w := by
  obtain ⟨J, hx, hm⟩ := op_set (sv xs (i + 1)) (sv xs (i + 2)) (sv xs (i + 3)) h
  refine s_aload_n dL_law_499 1 rfl rfl (s_aload_n dL_law_500 0 rfl rfl (s_iload_n dL_law_501 3 rfl (s_iconst dL_law_502 (by decide) (n_add (z := i + 1) dL_law_503 (wr_id (by omega) (by omega)) (s_sld dL_law_504 hX hL ⟨by omega, by omega⟩ ?_)))))
  refine s_aload_n dL_law_505 0 rfl rfl (s_iload_n dL_law_506 3 rfl (s_iconst dL_law_507 (by decide) (n_add (z := i + 2) dL_law_508 (wr_id (by omega) (by omega)) (s_sld dL_law_509 hX hL ⟨by omega, by omega⟩ (s_aload_n dL_law_510 0 rfl rfl ?_)))))
  refine s_iload_n dL_law_511 3 rfl (s_iconst dL_law_512 (by decide) (n_add (z := i + 3) dL_law_513 (wr_id (by omega) (by omega)) (s_sld dL_law_514 hX hL ⟨by omega, by omega⟩ ?_)))
  refine n_invV' (as := [(0, sv xs (i + 1)), (0, sv xs (i + 2)), (0, sv xs (i + 3))]) dL_law_515 kv_X11_set ml_L_47 hx (by decide) 0 cf_X11 rfl sh_0 rfl rfl rfl (Nat.le_of_ble_eq_true rfl) ?_
  rintro _ w1 ⟨z, rfl, hJ⟩
  show AtN mL 42 ρ 518 (LL i) [(0, z)] w1
  refine s_aload_n dL_law_518 2 rfl rfl (s_aload_n dL_law_519 0 rfl rfl (s_iload_n dL_law_520 3 rfl (s_iconst dL_law_521 (by decide) (n_add (z := i + 1) dL_law_522 (wr_id (by omega) (by omega)) (s_sld dL_law_523 hX hL ⟨by omega, by omega⟩ ?_)))))
  refine s_aload_n dL_law_524 0 rfl rfl (s_iload_n dL_law_525 3 rfl (s_iconst dL_law_526 (by decide) (n_add (z := i + 2) dL_law_527 (wr_id (by omega) (by omega)) (s_sld dL_law_528 hX hL ⟨by omega, by omega⟩ (s_aload_n dL_law_529 0 rfl rfl ?_)))))
  refine s_iload_n dL_law_530 3 rfl (s_iconst dL_law_531 (by decide) (n_add (z := i + 3) dL_law_532 (wr_id (by omega) (by omega)) (s_sld dL_law_533 hX hL ⟨by omega, by omega⟩ ?_)))
  refine n_invV' (as := [(0, sv xs (i + 1)), (0, sv xs (i + 2)), (0, sv xs (i + 3))]) dL_law_534 kv_X12_set ml_L_50 (hm z w1 hJ) (by decide) 141 cf_X12 rfl sh_141 rfl rfl rfl (Nat.le_of_ble_eq_true rfl) ?_
  rintro _ w2 ⟨z2, rfl, e, hG⟩
  show AtN mL 42 ρ 537 (LL i) [(0, z2), (0, z)] w2
  exact s_icmp_eq 1496 dL_law_537 (by decide) (fun _ => kk w2 hG) (fun c => absurd e.symm c)
theorem lc_hire {ρ : Rh} {L : Nat} {xs : Nat → Int32} {i : Int} {w : Wd} (hX : XF ρ L xs) (hL : L ≤ 3072) (h0 : 0 ≤ i) (h1 : i + 5 < L) (h : GAl w) (kk : ∀ w1, GAl w1 → AtN mL 42 ρ 1496 (LL i) [] w1) : AtN mL 42 ρ 542 (LL i) [] w := by
  obtain ⟨J, hx, hm⟩ := op_hire (sv xs (i + 1)) (sv xs (i + 2)) h
  refine s_aload_n dL_law_542 1 rfl rfl (s_aload_n dL_law_543 0 rfl rfl (s_iload_n dL_law_544 3 rfl (s_iconst dL_law_545 (by decide) (n_add (z := i + 1) dL_law_546 (wr_id (by omega) (by omega)) (s_sld dL_law_547 hX hL ⟨by omega, by omega⟩ ?_)))))
  refine s_aload_n dL_law_548 0 rfl rfl (s_iload_n dL_law_549 3 rfl (s_iconst dL_law_550 (by decide) (n_add (z := i + 2) dL_law_551 (wr_id (by omega) (by omega)) (s_sld dL_law_552 hX hL ⟨by omega, by omega⟩ ?_))))
  refine n_invV' (as := [(0, sv xs (i + 1)), (0, sv xs (i + 2))]) dL_law_553 kv_X11_hire ml_L_51 hx (by decide) 0 cf_X11 rfl sh_0 rfl rfl rfl (Nat.le_of_ble_eq_true rfl) ?_
  rintro _ w1 ⟨z, rfl, hJ⟩
  show AtN mL 42 ρ 556 (LL i) [(0, z)] w1
  refine s_aload_n dL_law_556 2 rfl rfl (s_aload_n dL_law_557 0 rfl rfl (s_iload_n dL_law_558 3 rfl (s_iconst dL_law_559 (by decide) (n_add (z := i + 1) dL_law_560 (wr_id (by omega) (by omega)) (s_sld dL_law_561 hX hL ⟨by omega, by omega⟩ ?_)))))
  refine s_aload_n dL_law_562 0 rfl rfl (s_iload_n dL_law_563 3 rfl (s_iconst dL_law_564 (by decide) (n_add (z := i + 2) dL_law_565 (wr_id (by omega) (by omega)) (s_sld dL_law_566 hX hL ⟨by omega, by omega⟩ ?_))))
  refine n_invV' (as := [(0, sv xs (i + 1)), (0, sv xs (i + 2))]) dL_law_567 kv_X12_hire ml_L_55 (hm z w1 hJ) (by decide) 141 cf_X12 rfl sh_141 rfl rfl rfl (Nat.le_of_ble_eq_true rfl) ?_
  rintro _ w2 ⟨z2, rfl, e, hG⟩
  show AtN mL 42 ρ 570 (LL i) [(0, z2), (0, z)] w2
  exact s_icmp_eq 1496 dL_law_570 (by decide) (fun _ => kk w2 hG) (fun c => absurd e.symm c)
theorem lc_book {ρ : Rh} {L : Nat} {xs : Nat → Int32} {i : Int} {w : Wd} (hX : XF ρ L xs) (hL : L ≤ 3072) (h0 : 0 ≤ i) (h1 : i + 5 < L) (h : GAl w) (kk : ∀ w1, GAl w1 → AtN mL 42 ρ 1496 (LL i) [] w1) : AtN mL 42 ρ 575 (LL i) [] w := by
  obtain ⟨J, hx, hm⟩ := op_book (sv xs (i + 1)) (sv xs (i + 2)) h
  refine s_aload_n dL_law_575 1 rfl rfl (s_aload_n dL_law_576 0 rfl rfl (s_iload_n dL_law_577 3 rfl (s_iconst dL_law_578 (by decide) (n_add (z := i + 1) dL_law_579 (wr_id (by omega) (by omega)) (s_sld dL_law_580 hX hL ⟨by omega, by omega⟩ ?_)))))
  refine s_aload_n dL_law_581 0 rfl rfl (s_iload_n dL_law_582 3 rfl (s_iconst dL_law_583 (by decide) (n_add (z := i + 2) dL_law_584 (wr_id (by omega) (by omega)) (s_sld dL_law_585 hX hL ⟨by omega, by omega⟩ ?_))))
  refine n_invV' (as := [(0, sv xs (i + 1)), (0, sv xs (i + 2))]) dL_law_586 kv_X11_book ml_L_56 hx (by decide) 0 cf_X11 rfl sh_0 rfl rfl rfl (Nat.le_of_ble_eq_true rfl) ?_
  rintro _ w1 ⟨z, rfl, hJ⟩
  show AtN mL 42 ρ 589 (LL i) [(0, z)] w1
  refine s_aload_n dL_law_589 2 rfl rfl (s_aload_n dL_law_590 0 rfl rfl (s_iload_n dL_law_591 3 rfl (s_iconst dL_law_592 (by decide) (n_add (z := i + 1) dL_law_593 (wr_id (by omega) (by omega)) (s_sld dL_law_594 hX hL ⟨by omega, by omega⟩ ?_)))))
  refine s_aload_n dL_law_595 0 rfl rfl (s_iload_n dL_law_596 3 rfl (s_iconst dL_law_597 (by decide) (n_add (z := i + 2) dL_law_598 (wr_id (by omega) (by omega)) (s_sld dL_law_599 hX hL ⟨by omega, by omega⟩ ?_))))
  refine n_invV' (as := [(0, sv xs (i + 1)), (0, sv xs (i + 2))]) dL_law_600 kv_X12_book ml_L_59 (hm z w1 hJ) (by decide) 141 cf_X12 rfl sh_141 rfl rfl rfl (Nat.le_of_ble_eq_true rfl) ?_
  rintro _ w2 ⟨z2, rfl, e, hG⟩
  show AtN mL 42 ρ 603 (LL i) [(0, z2), (0, z)] w2
  exact s_icmp_eq 1496 dL_law_603 (by decide) (fun _ => kk w2 hG) (fun c => absurd e.symm c)
theorem lc_feed {ρ : Rh} {L : Nat} {xs : Nat → Int32} {i : Int} {w : Wd} (hX : XF ρ L xs) (hL : L ≤ 3072) (h0 : 0 ≤ i) (h1 : i + 5 < L) (h : GAl w) (kk : ∀ w1, GAl w1 → AtN mL 42 ρ 1496 (LL i) [] w1) : AtN mL 42 ρ 608 (LL i) [] w := by
  obtain ⟨J, hx, hm⟩ := op_feed (sv xs (i + 1)) (sv xs (i + 2)) (sv xs (i + 3)) (sv xs (i + 4)) (sv xs (i + 5)) h
  refine s_aload_n dL_law_608 1 rfl rfl (s_aload_n dL_law_609 0 rfl rfl (s_iload_n dL_law_610 3 rfl (s_iconst dL_law_611 (by decide) (n_add (z := i + 1) dL_law_612 (wr_id (by omega) (by omega)) (s_sld dL_law_613 hX hL ⟨by omega, by omega⟩ ?_)))))
  refine s_aload_n dL_law_614 0 rfl rfl (s_iload_n dL_law_615 3 rfl (s_iconst dL_law_616 (by decide) (n_add (z := i + 2) dL_law_617 (wr_id (by omega) (by omega)) (s_sld dL_law_618 hX hL ⟨by omega, by omega⟩ (s_aload_n dL_law_619 0 rfl rfl ?_)))))
  refine s_iload_n dL_law_620 3 rfl (s_iconst dL_law_621 (by decide) (n_add (z := i + 3) dL_law_622 (wr_id (by omega) (by omega)) (s_sld dL_law_623 hX hL ⟨by omega, by omega⟩ (s_aload_n dL_law_624 0 rfl rfl (s_iload_n dL_law_625 3 rfl ?_)))))
  refine s_iconst dL_law_626 (by decide) (n_add (z := i + 4) dL_law_627 (wr_id (by omega) (by omega)) (s_sld dL_law_628 hX hL ⟨by omega, by omega⟩ (s_aload_n dL_law_629 0 rfl rfl (s_iload_n dL_law_630 3 rfl (s_iconst dL_law_631 (by decide) ?_)))))
  refine n_add (z := i + 5) dL_law_632 (wr_id (by omega) (by omega)) (s_sld dL_law_633 hX hL ⟨by omega, by omega⟩ ?_)
  refine n_invV' (as := [(0, sv xs (i + 1)), (0, sv xs (i + 2)), (0, sv xs (i + 3)), (0, sv xs (i + 4)), (0, sv xs (i + 5))]) dL_law_634 kv_X11_feed ml_L_60 hx (by decide) 0 cf_X11 rfl sh_0 rfl rfl rfl (Nat.le_of_ble_eq_true rfl) ?_
  rintro _ w1 ⟨z, rfl, hJ⟩
  show AtN mL 42 ρ 637 (LL i) [(0, z)] w1
  refine s_aload_n dL_law_637 2 rfl rfl (s_aload_n dL_law_638 0 rfl rfl (s_iload_n dL_law_639 3 rfl (s_iconst dL_law_640 (by decide) (n_add (z := i + 1) dL_law_641 (wr_id (by omega) (by omega)) (s_sld dL_law_642 hX hL ⟨by omega, by omega⟩ ?_)))))
  refine s_aload_n dL_law_643 0 rfl rfl (s_iload_n dL_law_644 3 rfl (s_iconst dL_law_645 (by decide) (n_add (z := i + 2) dL_law_646 (wr_id (by omega) (by omega)) (s_sld dL_law_647 hX hL ⟨by omega, by omega⟩ (s_aload_n dL_law_648 0 rfl rfl ?_)))))
  refine s_iload_n dL_law_649 3 rfl (s_iconst dL_law_650 (by decide) (n_add (z := i + 3) dL_law_651 (wr_id (by omega) (by omega)) (s_sld dL_law_652 hX hL ⟨by omega, by omega⟩ (s_aload_n dL_law_653 0 rfl rfl (s_iload_n dL_law_654 3 rfl ?_)))))
  refine s_iconst dL_law_655 (by decide) (n_add (z := i + 4) dL_law_656 (wr_id (by omega) (by omega)) (s_sld dL_law_657 hX hL ⟨by omega, by omega⟩ (s_aload_n dL_law_658 0 rfl rfl (s_iload_n dL_law_659 3 rfl (s_iconst dL_law_660 (by decide) ?_)))))
  refine n_add (z := i + 5) dL_law_661 (wr_id (by omega) (by omega)) (s_sld dL_law_662 hX hL ⟨by omega, by omega⟩ ?_)
  refine n_invV' (as := [(0, sv xs (i + 1)), (0, sv xs (i + 2)), (0, sv xs (i + 3)), (0, sv xs (i + 4)), (0, sv xs (i + 5))]) dL_law_663 kv_X12_feed ml_L_63 (hm z w1 hJ) (by decide) 141 cf_X12 rfl sh_141 rfl rfl rfl (Nat.le_of_ble_eq_true rfl) ?_
  rintro _ w2 ⟨z2, rfl, e, hG⟩
  show AtN mL 42 ρ 666 (LL i) [(0, z2), (0, z)] w2
  exact s_icmp_eq 1496 dL_law_666 (by decide) (fun _ => kk w2 hG) (fun c => absurd e.symm c)
theorem lc_end {ρ : Rh} {L : Nat} {xs : Nat → Int32} {i : Int} {w : Wd} (hX : XF ρ L xs) (hL : L ≤ 3072) (h0 : 0 ≤ i) (h1 : i + 5 < L) (h : GAl w) (kk : ∀ w1, GAl w1 → AtN mL 42 ρ 1496 (LL i) [] w1) : AtN mL 42 ρ 671 (LL i) [] w := by
  obtain ⟨J, hx, hm⟩ := op_end (sv xs (i + 1)) h
  refine s_aload_n dL_law_671 1 rfl rfl (s_aload_n dL_law_672 0 rfl rfl (s_iload_n dL_law_673 3 rfl (s_iconst dL_law_674 (by decide) (n_add (z := i + 1) dL_law_675 (wr_id (by omega) (by omega)) (s_sld dL_law_676 hX hL ⟨by omega, by omega⟩ ?_)))))
  refine n_invV' (as := [(0, sv xs (i + 1))]) dL_law_677 kv_X11_end ml_L_64 hx (by decide) 0 cf_X11 rfl sh_0 rfl rfl rfl (Nat.le_of_ble_eq_true rfl) ?_
  rintro _ w1 ⟨z, rfl, hJ⟩
  show AtN mL 42 ρ 680 (LL i) [(0, z)] w1
  refine s_aload_n dL_law_680 2 rfl rfl (s_aload_n dL_law_681 0 rfl rfl (s_iload_n dL_law_682 3 rfl (s_iconst dL_law_683 (by decide) (n_add (z := i + 1) dL_law_684 (wr_id (by omega) (by omega)) (s_sld dL_law_685 hX hL ⟨by omega, by omega⟩ ?_)))))
  refine n_invV' (as := [(0, sv xs (i + 1))]) dL_law_686 kv_X12_end ml_L_68 (hm z w1 hJ) (by decide) 141 cf_X12 rfl sh_141 rfl rfl rfl (Nat.le_of_ble_eq_true rfl) ?_
  rintro _ w2 ⟨z2, rfl, e, hG⟩
  show AtN mL 42 ρ 689 (LL i) [(0, z2), (0, z)] w2
  exact s_icmp_eq 1496 dL_law_689 (by decide) (fun _ => kk w2 hG) (fun c => absurd e.symm c)
theorem lc_rules {ρ : Rh} {L : Nat} {xs : Nat → Int32} {i : Int} {w : Wd} (hX : XF ρ L xs) (hL : L ≤ 3072) (h0 : 0 ≤ i) (h1 : i + 5 < L) (h : GAl w) (kk : ∀ w1, GAl w1 → AtN mL 42 ρ 1496 (LL i) [] w1) : AtN mL 42 ρ 694 (LL i) [] w := by
  obtain ⟨J, hx, hm⟩ := op_rules (sv xs (i + 1)) h
  refine s_aload_n dL_law_694 1 rfl rfl (s_aload_n dL_law_695 0 rfl rfl (s_iload_n dL_law_696 3 rfl (s_iconst dL_law_697 (by decide) (n_add (z := i + 1) dL_law_698 (wr_id (by omega) (by omega)) (s_sld dL_law_699 hX hL ⟨by omega, by omega⟩ ?_)))))
  refine n_invV' (as := [(0, sv xs (i + 1))]) dL_law_700 kv_X11_rules ml_L_69 hx (by decide) 0 cf_X11 rfl sh_0 rfl rfl rfl (Nat.le_of_ble_eq_true rfl) ?_
  rintro _ w1 ⟨z, rfl, hJ⟩
  show AtN mL 42 ρ 703 (LL i) [(0, z)] w1
  refine s_aload_n dL_law_703 2 rfl rfl (s_aload_n dL_law_704 0 rfl rfl (s_iload_n dL_law_705 3 rfl (s_iconst dL_law_706 (by decide) (n_add (z := i + 1) dL_law_707 (wr_id (by omega) (by omega)) (s_sld dL_law_708 hX hL ⟨by omega, by omega⟩ ?_)))))
  refine n_invV' (as := [(0, sv xs (i + 1))]) dL_law_709 kv_X12_rules ml_L_72 (hm z w1 hJ) (by decide) 141 cf_X12 rfl sh_141 rfl rfl rfl (Nat.le_of_ble_eq_true rfl) ?_
  rintro _ w2 ⟨z2, rfl, e, hG⟩
  show AtN mL 42 ρ 712 (LL i) [(0, z2), (0, z)] w2
  exact s_icmp_eq 1496 dL_law_712 (by decide) (fun _ => kk w2 hG) (fun c => absurd e.symm c)
theorem lc_fault {ρ : Rh} {L : Nat} {xs : Nat → Int32} {i : Int} {w : Wd} (hX : XF ρ L xs) (hL : L ≤ 3072) (h0 : 0 ≤ i) (h1 : i + 5 < L) (h : GAl w) (kk : ∀ w1, GAl w1 → AtN mL 42 ρ 1496 (LL i) [] w1) : AtN mL 42 ρ 717 (LL i) [] w := by
  obtain ⟨J, hx, hm⟩ := op_fault (sv xs (i + 1)) h
  refine s_aload_n dL_law_717 1 rfl rfl (s_aload_n dL_law_718 0 rfl rfl (s_iload_n dL_law_719 3 rfl (s_iconst dL_law_720 (by decide) (n_add (z := i + 1) dL_law_721 (wr_id (by omega) (by omega)) (s_sld dL_law_722 hX hL ⟨by omega, by omega⟩ ?_)))))
  refine n_invV' (as := [(0, sv xs (i + 1))]) dL_law_723 kv_X11_fault ml_L_73 hx (by decide) 0 cf_X11 rfl sh_0 rfl rfl rfl (Nat.le_of_ble_eq_true rfl) ?_
  rintro _ w1 ⟨z, rfl, hJ⟩
  show AtN mL 42 ρ 726 (LL i) [(0, z)] w1
  refine s_aload_n dL_law_726 2 rfl rfl (s_aload_n dL_law_727 0 rfl rfl (s_iload_n dL_law_728 3 rfl (s_iconst dL_law_729 (by decide) (n_add (z := i + 1) dL_law_730 (wr_id (by omega) (by omega)) (s_sld dL_law_731 hX hL ⟨by omega, by omega⟩ ?_)))))
  refine n_invV' (as := [(0, sv xs (i + 1))]) dL_law_732 kv_X12_fault ml_L_76 (hm z w1 hJ) (by decide) 141 cf_X12 rfl sh_141 rfl rfl rfl (Nat.le_of_ble_eq_true rfl) ?_
  rintro _ w2 ⟨z2, rfl, e, hG⟩
  show AtN mL 42 ρ 735 (LL i) [(0, z2), (0, z)] w2
  exact s_icmp_eq 1496 dL_law_735 (by decide) (fun _ => kk w2 hG) (fun c => absurd e.symm c)
theorem lc_runs {ρ : Rh} {L : Nat} {xs : Nat → Int32} {i : Int} {w : Wd} (hX : XF ρ L xs) (hL : L ≤ 3072) (h0 : 0 ≤ i) (h1 : i + 5 < L) (h : GAl w) (kk : ∀ w1, GAl w1 → AtN mL 42 ρ 1496 (LL i) [] w1) : AtN mL 42 ρ 740 (LL i) [] w := by
  obtain ⟨J, hx, hm⟩ := op_runs (sv xs (i + 1)) (sv xs (i + 2)) (sv xs (i + 3)) h
  refine s_aload_n dL_law_740 1 rfl rfl (s_aload_n dL_law_741 0 rfl rfl (s_iload_n dL_law_742 3 rfl (s_iconst dL_law_743 (by decide) (n_add (z := i + 1) dL_law_744 (wr_id (by omega) (by omega)) (s_sld dL_law_745 hX hL ⟨by omega, by omega⟩ ?_)))))
  refine s_aload_n dL_law_746 0 rfl rfl (s_iload_n dL_law_747 3 rfl (s_iconst dL_law_748 (by decide) (n_add (z := i + 2) dL_law_749 (wr_id (by omega) (by omega)) (s_sld dL_law_750 hX hL ⟨by omega, by omega⟩ (s_aload_n dL_law_751 0 rfl rfl ?_)))))
  refine s_iload_n dL_law_752 3 rfl (s_iconst dL_law_753 (by decide) (n_add (z := i + 3) dL_law_754 (wr_id (by omega) (by omega)) (s_sld dL_law_755 hX hL ⟨by omega, by omega⟩ ?_)))
  refine n_invV' (as := [(0, sv xs (i + 1)), (0, sv xs (i + 2)), (0, sv xs (i + 3))]) dL_law_756 kv_X11_runs ml_L_77 hx (by decide) 0 cf_X11 rfl sh_0 rfl rfl rfl (Nat.le_of_ble_eq_true rfl) ?_
  rintro _ w1 ⟨z, rfl, hJ⟩
  show AtN mL 42 ρ 759 (LL i) [(0, z)] w1
  refine s_aload_n dL_law_759 2 rfl rfl (s_aload_n dL_law_760 0 rfl rfl (s_iload_n dL_law_761 3 rfl (s_iconst dL_law_762 (by decide) (n_add (z := i + 1) dL_law_763 (wr_id (by omega) (by omega)) (s_sld dL_law_764 hX hL ⟨by omega, by omega⟩ ?_)))))
  refine s_aload_n dL_law_765 0 rfl rfl (s_iload_n dL_law_766 3 rfl (s_iconst dL_law_767 (by decide) (n_add (z := i + 2) dL_law_768 (wr_id (by omega) (by omega)) (s_sld dL_law_769 hX hL ⟨by omega, by omega⟩ (s_aload_n dL_law_770 0 rfl rfl ?_)))))
  refine s_iload_n dL_law_771 3 rfl (s_iconst dL_law_772 (by decide) (n_add (z := i + 3) dL_law_773 (wr_id (by omega) (by omega)) (s_sld dL_law_774 hX hL ⟨by omega, by omega⟩ ?_)))
  refine n_invV' (as := [(0, sv xs (i + 1)), (0, sv xs (i + 2)), (0, sv xs (i + 3))]) dL_law_775 kv_X12_runs ml_L_80 (hm z w1 hJ) (by decide) 141 cf_X12 rfl sh_141 rfl rfl rfl (Nat.le_of_ble_eq_true rfl) ?_
  rintro _ w2 ⟨z2, rfl, e, hG⟩
  show AtN mL 42 ρ 778 (LL i) [(0, z2), (0, z)] w2
  exact s_icmp_eq 1496 dL_law_778 (by decide) (fun _ => kk w2 hG) (fun c => absurd e.symm c)
theorem lc_crowd {ρ : Rh} {L : Nat} {xs : Nat → Int32} {i : Int} {w : Wd} (hX : XF ρ L xs) (hL : L ≤ 3072) (h0 : 0 ≤ i) (h1 : i + 5 < L) (h : GAl w) (kk : ∀ w1, GAl w1 → AtN mL 42 ρ 1496 (LL i) [] w1) : AtN mL 42 ρ 783 (LL i) [] w := by
  obtain ⟨J, hx, hm⟩ := op_crowd (sv xs (i + 1)) (sv xs (i + 2)) (sv xs (i + 3)) (sv xs (i + 4)) (sv xs (i + 5)) h
  refine s_aload_n dL_law_783 1 rfl rfl (s_aload_n dL_law_784 0 rfl rfl (s_iload_n dL_law_785 3 rfl (s_iconst dL_law_786 (by decide) (n_add (z := i + 1) dL_law_787 (wr_id (by omega) (by omega)) (s_sld dL_law_788 hX hL ⟨by omega, by omega⟩ ?_)))))
  refine s_aload_n dL_law_789 0 rfl rfl (s_iload_n dL_law_790 3 rfl (s_iconst dL_law_791 (by decide) (n_add (z := i + 2) dL_law_792 (wr_id (by omega) (by omega)) (s_sld dL_law_793 hX hL ⟨by omega, by omega⟩ (s_aload_n dL_law_794 0 rfl rfl ?_)))))
  refine s_iload_n dL_law_795 3 rfl (s_iconst dL_law_796 (by decide) (n_add (z := i + 3) dL_law_797 (wr_id (by omega) (by omega)) (s_sld dL_law_798 hX hL ⟨by omega, by omega⟩ (s_aload_n dL_law_799 0 rfl rfl (s_iload_n dL_law_800 3 rfl ?_)))))
  refine s_iconst dL_law_801 (by decide) (n_add (z := i + 4) dL_law_802 (wr_id (by omega) (by omega)) (s_sld dL_law_803 hX hL ⟨by omega, by omega⟩ (s_aload_n dL_law_804 0 rfl rfl (s_iload_n dL_law_805 3 rfl (s_iconst dL_law_806 (by decide) ?_)))))
  refine n_add (z := i + 5) dL_law_807 (wr_id (by omega) (by omega)) (s_sld dL_law_808 hX hL ⟨by omega, by omega⟩ ?_)
  refine n_invV' (as := [(0, sv xs (i + 1)), (0, sv xs (i + 2)), (0, sv xs (i + 3)), (0, sv xs (i + 4)), (0, sv xs (i + 5))]) dL_law_809 kv_X11_crowd ml_L_81 hx (by decide) 0 cf_X11 rfl sh_0 rfl rfl rfl (Nat.le_of_ble_eq_true rfl) ?_
  rintro _ w1 ⟨z, rfl, hJ⟩
  show AtN mL 42 ρ 812 (LL i) [(0, z)] w1
  refine s_aload_n dL_law_812 2 rfl rfl (s_aload_n dL_law_813 0 rfl rfl (s_iload_n dL_law_814 3 rfl (s_iconst dL_law_815 (by decide) (n_add (z := i + 1) dL_law_816 (wr_id (by omega) (by omega)) (s_sld dL_law_817 hX hL ⟨by omega, by omega⟩ ?_)))))
  refine s_aload_n dL_law_818 0 rfl rfl (s_iload_n dL_law_819 3 rfl (s_iconst dL_law_820 (by decide) (n_add (z := i + 2) dL_law_821 (wr_id (by omega) (by omega)) (s_sld dL_law_822 hX hL ⟨by omega, by omega⟩ (s_aload_n dL_law_823 0 rfl rfl ?_)))))
  refine s_iload_n dL_law_824 3 rfl (s_iconst dL_law_825 (by decide) (n_add (z := i + 3) dL_law_826 (wr_id (by omega) (by omega)) (s_sld dL_law_827 hX hL ⟨by omega, by omega⟩ (s_aload_n dL_law_828 0 rfl rfl (s_iload_n dL_law_829 3 rfl ?_)))))
  refine s_iconst dL_law_830 (by decide) (n_add (z := i + 4) dL_law_831 (wr_id (by omega) (by omega)) (s_sld dL_law_832 hX hL ⟨by omega, by omega⟩ (s_aload_n dL_law_833 0 rfl rfl (s_iload_n dL_law_834 3 rfl (s_iconst dL_law_835 (by decide) ?_)))))
  refine n_add (z := i + 5) dL_law_836 (wr_id (by omega) (by omega)) (s_sld dL_law_837 hX hL ⟨by omega, by omega⟩ ?_)
  refine n_invV' (as := [(0, sv xs (i + 1)), (0, sv xs (i + 2)), (0, sv xs (i + 3)), (0, sv xs (i + 4)), (0, sv xs (i + 5))]) dL_law_838 kv_X12_crowd ml_L_84 (hm z w1 hJ) (by decide) 141 cf_X12 rfl sh_141 rfl rfl rfl (Nat.le_of_ble_eq_true rfl) ?_
  rintro _ w2 ⟨z2, rfl, e, hG⟩
  show AtN mL 42 ρ 841 (LL i) [(0, z2), (0, z)] w2
  exact s_icmp_eq 1496 dL_law_841 (by decide) (fun _ => kk w2 hG) (fun c => absurd e.symm c)
theorem lc_worth {ρ : Rh} {L : Nat} {xs : Nat → Int32} {i : Int} {w : Wd} (hX : XF ρ L xs) (hL : L ≤ 3072) (h0 : 0 ≤ i) (h1 : i + 5 < L) (h : GAl w) (kk : ∀ w1, GAl w1 → AtN mL 42 ρ 1496 (LL i) [] w1) : AtN mL 42 ρ 846 (LL i) [] w := by
  obtain ⟨J, hx, hm⟩ := op_worth (sv xs (i + 1)) (sv xs (i + 2)) h
  refine s_aload_n dL_law_846 1 rfl rfl (s_aload_n dL_law_847 0 rfl rfl (s_iload_n dL_law_848 3 rfl (s_iconst dL_law_849 (by decide) (n_add (z := i + 1) dL_law_850 (wr_id (by omega) (by omega)) (s_sld dL_law_851 hX hL ⟨by omega, by omega⟩ ?_)))))
  refine s_aload_n dL_law_852 0 rfl rfl (s_iload_n dL_law_853 3 rfl (s_iconst dL_law_854 (by decide) (n_add (z := i + 2) dL_law_855 (wr_id (by omega) (by omega)) (s_sld dL_law_856 hX hL ⟨by omega, by omega⟩ ?_))))
  refine n_invV' (as := [(0, sv xs (i + 1)), (0, sv xs (i + 2))]) dL_law_857 kv_X11_worth ml_L_85 hx (by decide) 0 cf_X11 rfl sh_0 rfl rfl rfl (Nat.le_of_ble_eq_true rfl) ?_
  rintro _ w1 ⟨z, rfl, hJ⟩
  show AtN mL 42 ρ 860 (LL i) [(0, z)] w1
  refine s_aload_n dL_law_860 2 rfl rfl (s_aload_n dL_law_861 0 rfl rfl (s_iload_n dL_law_862 3 rfl (s_iconst dL_law_863 (by decide) (n_add (z := i + 1) dL_law_864 (wr_id (by omega) (by omega)) (s_sld dL_law_865 hX hL ⟨by omega, by omega⟩ ?_)))))
  refine s_aload_n dL_law_866 0 rfl rfl (s_iload_n dL_law_867 3 rfl (s_iconst dL_law_868 (by decide) (n_add (z := i + 2) dL_law_869 (wr_id (by omega) (by omega)) (s_sld dL_law_870 hX hL ⟨by omega, by omega⟩ ?_))))
  refine n_invV' (as := [(0, sv xs (i + 1)), (0, sv xs (i + 2))]) dL_law_871 kv_X12_worth ml_L_88 (hm z w1 hJ) (by decide) 141 cf_X12 rfl sh_141 rfl rfl rfl (Nat.le_of_ble_eq_true rfl) ?_
  rintro _ w2 ⟨z2, rfl, e, hG⟩
  show AtN mL 42 ρ 874 (LL i) [(0, z2), (0, z)] w2
  exact s_icmp_eq 1496 dL_law_874 (by decide) (fun _ => kk w2 hG) (fun c => absurd e.symm c)
theorem lc_heard {ρ : Rh} {L : Nat} {xs : Nat → Int32} {i : Int} {w : Wd} (hX : XF ρ L xs) (hL : L ≤ 3072) (h0 : 0 ≤ i) (h1 : i + 5 < L) (h : GAl w) (kk : ∀ w1, GAl w1 → AtN mL 42 ρ 1496 (LL i) [] w1) : AtN mL 42 ρ 879 (LL i) [] w := by
  obtain ⟨J, hx, hm⟩ := op_heard (sv xs (i + 1)) (sv xs (i + 2)) h
  refine s_aload_n dL_law_879 1 rfl rfl (s_aload_n dL_law_880 0 rfl rfl (s_iload_n dL_law_881 3 rfl (s_iconst dL_law_882 (by decide) (n_add (z := i + 1) dL_law_883 (wr_id (by omega) (by omega)) (s_sld dL_law_884 hX hL ⟨by omega, by omega⟩ ?_)))))
  refine s_aload_n dL_law_885 0 rfl rfl (s_iload_n dL_law_886 3 rfl (s_iconst dL_law_887 (by decide) (n_add (z := i + 2) dL_law_888 (wr_id (by omega) (by omega)) (s_sld dL_law_889 hX hL ⟨by omega, by omega⟩ ?_))))
  refine n_invV' (as := [(0, sv xs (i + 1)), (0, sv xs (i + 2))]) dL_law_890 kv_X11_heard ml_L_89 hx (by decide) 0 cf_X11 rfl sh_0 rfl rfl rfl (Nat.le_of_ble_eq_true rfl) ?_
  rintro _ w1 ⟨z, rfl, hJ⟩
  show AtN mL 42 ρ 893 (LL i) [(0, z)] w1
  refine s_aload_n dL_law_893 2 rfl rfl (s_aload_n dL_law_894 0 rfl rfl (s_iload_n dL_law_895 3 rfl (s_iconst dL_law_896 (by decide) (n_add (z := i + 1) dL_law_897 (wr_id (by omega) (by omega)) (s_sld dL_law_898 hX hL ⟨by omega, by omega⟩ ?_)))))
  refine s_aload_n dL_law_899 0 rfl rfl (s_iload_n dL_law_900 3 rfl (s_iconst dL_law_901 (by decide) (n_add (z := i + 2) dL_law_902 (wr_id (by omega) (by omega)) (s_sld dL_law_903 hX hL ⟨by omega, by omega⟩ ?_))))
  refine n_invV' (as := [(0, sv xs (i + 1)), (0, sv xs (i + 2))]) dL_law_904 kv_X12_heard ml_L_92 (hm z w1 hJ) (by decide) 141 cf_X12 rfl sh_141 rfl rfl rfl (Nat.le_of_ble_eq_true rfl) ?_
  rintro _ w2 ⟨z2, rfl, e, hG⟩
  show AtN mL 42 ρ 907 (LL i) [(0, z2), (0, z)] w2
  exact s_icmp_eq 1496 dL_law_907 (by decide) (fun _ => kk w2 hG) (fun c => absurd e.symm c)
theorem lc_weeks {ρ : Rh} {L : Nat} {xs : Nat → Int32} {i : Int} {w : Wd} (hX : XF ρ L xs) (hL : L ≤ 3072) (h0 : 0 ≤ i) (h1 : i + 5 < L) (h : GAl w) (kk : ∀ w1, GAl w1 → AtN mL 42 ρ 1496 (LL i) [] w1) : AtN mL 42 ρ 912 (LL i) [] w := by
  obtain ⟨J, hx, hm⟩ := op_weeks (sv xs (i + 1)) h
  refine s_aload_n dL_law_912 1 rfl rfl (s_aload_n dL_law_913 0 rfl rfl (s_iload_n dL_law_914 3 rfl (s_iconst dL_law_915 (by decide) (n_add (z := i + 1) dL_law_916 (wr_id (by omega) (by omega)) (s_sld dL_law_917 hX hL ⟨by omega, by omega⟩ ?_)))))
  refine n_invV' (as := [(0, sv xs (i + 1))]) dL_law_918 kv_X11_weeks ml_L_93 hx (by decide) 0 cf_X11 rfl sh_0 rfl rfl rfl (Nat.le_of_ble_eq_true rfl) ?_
  rintro _ w1 ⟨z, rfl, hJ⟩
  show AtN mL 42 ρ 921 (LL i) [(0, z)] w1
  refine s_aload_n dL_law_921 2 rfl rfl (s_aload_n dL_law_922 0 rfl rfl (s_iload_n dL_law_923 3 rfl (s_iconst dL_law_924 (by decide) (n_add (z := i + 1) dL_law_925 (wr_id (by omega) (by omega)) (s_sld dL_law_926 hX hL ⟨by omega, by omega⟩ ?_)))))
  refine n_invV' (as := [(0, sv xs (i + 1))]) dL_law_927 kv_X12_weeks ml_L_96 (hm z w1 hJ) (by decide) 141 cf_X12 rfl sh_141 rfl rfl rfl (Nat.le_of_ble_eq_true rfl) ?_
  rintro _ w2 ⟨z2, rfl, e, hG⟩
  show AtN mL 42 ρ 930 (LL i) [(0, z2), (0, z)] w2
  exact s_icmp_eq 1496 dL_law_930 (by decide) (fun _ => kk w2 hG) (fun c => absurd e.symm c)
theorem lc_of {ρ : Rh} {L : Nat} {xs : Nat → Int32} {i : Int} {w : Wd} (hX : XF ρ L xs) (hL : L ≤ 3072) (h0 : 0 ≤ i) (h1 : i + 5 < L) (h : GAl w) (kk : ∀ w1, GAl w1 → AtN mL 42 ρ 1496 (LL i) [] w1) : AtN mL 42 ρ 935 (LL i) [] w := by
  obtain ⟨J, hx, hm⟩ := op_of (sv xs (i + 1)) (sv xs (i + 2)) h
  refine s_aload_n dL_law_935 1 rfl rfl (s_aload_n dL_law_936 0 rfl rfl (s_iload_n dL_law_937 3 rfl (s_iconst dL_law_938 (by decide) (n_add (z := i + 1) dL_law_939 (wr_id (by omega) (by omega)) (s_sld dL_law_940 hX hL ⟨by omega, by omega⟩ ?_)))))
  refine s_aload_n dL_law_941 0 rfl rfl (s_iload_n dL_law_942 3 rfl (s_iconst dL_law_943 (by decide) (n_add (z := i + 2) dL_law_944 (wr_id (by omega) (by omega)) (s_sld dL_law_945 hX hL ⟨by omega, by omega⟩ ?_))))
  refine n_invV' (as := [(0, sv xs (i + 1)), (0, sv xs (i + 2))]) dL_law_946 kv_X11_of ml_L_97 hx (by decide) 0 cf_X11 rfl sh_0 rfl rfl rfl (Nat.le_of_ble_eq_true rfl) ?_
  rintro _ w1 ⟨z, rfl, hJ⟩
  show AtN mL 42 ρ 949 (LL i) [(1, z)] w1
  refine s_aload_n dL_law_949 2 rfl rfl (s_aload_n dL_law_950 0 rfl rfl (s_iload_n dL_law_951 3 rfl (s_iconst dL_law_952 (by decide) (n_add (z := i + 1) dL_law_953 (wr_id (by omega) (by omega)) (s_sld dL_law_954 hX hL ⟨by omega, by omega⟩ ?_)))))
  refine s_aload_n dL_law_955 0 rfl rfl (s_iload_n dL_law_956 3 rfl (s_iconst dL_law_957 (by decide) (n_add (z := i + 2) dL_law_958 (wr_id (by omega) (by omega)) (s_sld dL_law_959 hX hL ⟨by omega, by omega⟩ ?_))))
  refine n_invV' (as := [(0, sv xs (i + 1)), (0, sv xs (i + 2))]) dL_law_960 kv_X12_of ml_L_101 (hm z w1 hJ) (by decide) 141 cf_X12 rfl sh_141 rfl rfl rfl (Nat.le_of_ble_eq_true rfl) ?_
  rintro _ w2 ⟨z2, rfl, e, hG⟩
  show AtN mL 42 ρ 963 (LL i) [(1, z2), (1, z)] w2
  refine s_lcmp dL_law_963 (n_top (y := 0) (by rw [e, if_neg (Int.lt_irrefl _), if_pos rfl]) ?_)
  exact s_if_eq 1496 dL_law_964 (by decide) (fun _ => kk w2 hG) (fun c => absurd rfl c)
theorem lc_at {ρ : Rh} {L : Nat} {xs : Nat → Int32} {i : Int} {w : Wd} (hX : XF ρ L xs) (hL : L ≤ 3072) (h0 : 0 ≤ i) (h1 : i + 5 < L) (h : GAl w) (kk : ∀ w1, GAl w1 → AtN mL 42 ρ 1496 (LL i) [] w1) : AtN mL 42 ρ 969 (LL i) [] w := by
  obtain ⟨J, hx, hm⟩ := op_at (sv xs (i + 1)) (sv xs (i + 2)) h
  refine s_aload_n dL_law_969 1 rfl rfl (s_aload_n dL_law_970 0 rfl rfl (s_iload_n dL_law_971 3 rfl (s_iconst dL_law_972 (by decide) (n_add (z := i + 1) dL_law_973 (wr_id (by omega) (by omega)) (s_sld dL_law_974 hX hL ⟨by omega, by omega⟩ ?_)))))
  refine s_aload_n dL_law_975 0 rfl rfl (s_iload_n dL_law_976 3 rfl (s_iconst dL_law_977 (by decide) (n_add (z := i + 2) dL_law_978 (wr_id (by omega) (by omega)) (s_sld dL_law_979 hX hL ⟨by omega, by omega⟩ ?_))))
  refine n_invV' (as := [(0, sv xs (i + 1)), (0, sv xs (i + 2))]) dL_law_980 kv_X11_at ml_L_102 hx (by decide) 0 cf_X11 rfl sh_0 rfl rfl rfl (Nat.le_of_ble_eq_true rfl) ?_
  rintro _ w1 ⟨z, rfl, hJ⟩
  show AtN mL 42 ρ 983 (LL i) [(0, z)] w1
  refine s_aload_n dL_law_983 2 rfl rfl (s_aload_n dL_law_984 0 rfl rfl (s_iload_n dL_law_985 3 rfl (s_iconst dL_law_986 (by decide) (n_add (z := i + 1) dL_law_987 (wr_id (by omega) (by omega)) (s_sld dL_law_988 hX hL ⟨by omega, by omega⟩ ?_)))))
  refine s_aload_n dL_law_989 0 rfl rfl (s_iload_n dL_law_990 3 rfl (s_iconst dL_law_991 (by decide) (n_add (z := i + 2) dL_law_992 (wr_id (by omega) (by omega)) (s_sld dL_law_993 hX hL ⟨by omega, by omega⟩ ?_))))
  refine n_invV' (as := [(0, sv xs (i + 1)), (0, sv xs (i + 2))]) dL_law_994 kv_X12_at ml_L_105 (hm z w1 hJ) (by decide) 141 cf_X12 rfl sh_141 rfl rfl rfl (Nat.le_of_ble_eq_true rfl) ?_
  rintro _ w2 ⟨z2, rfl, e, hG⟩
  show AtN mL 42 ρ 997 (LL i) [(0, z2), (0, z)] w2
  exact s_icmp_eq 1496 dL_law_997 (by decide) (fun _ => kk w2 hG) (fun c => absurd e.symm c)
theorem lc_version {ρ : Rh} {L : Nat} {xs : Nat → Int32} {i : Int} {w : Wd} (hX : XF ρ L xs) (hL : L ≤ 3072) (h0 : 0 ≤ i) (h1 : i + 5 < L) (h : GAl w) (kk : ∀ w1, GAl w1 → AtN mL 42 ρ 1496 (LL i) [] w1) : AtN mL 42 ρ 1002 (LL i) [] w := by
  obtain ⟨J, hx, hm⟩ := op_version (sv xs (i + 1)) h
  refine s_aload_n dL_law_1002 1 rfl rfl (s_aload_n dL_law_1003 0 rfl rfl (s_iload_n dL_law_1004 3 rfl (s_iconst dL_law_1005 (by decide) (n_add (z := i + 1) dL_law_1006 (wr_id (by omega) (by omega)) (s_sld dL_law_1007 hX hL ⟨by omega, by omega⟩ ?_)))))
  refine n_invV' (as := [(0, sv xs (i + 1))]) dL_law_1008 kv_X11_version ml_L_106 hx (by decide) 0 cf_X11 rfl sh_0 rfl rfl rfl (Nat.le_of_ble_eq_true rfl) ?_
  rintro _ w1 ⟨z, rfl, hJ⟩
  show AtN mL 42 ρ 1011 (LL i) [(0, z)] w1
  refine s_aload_n dL_law_1011 2 rfl rfl (s_aload_n dL_law_1012 0 rfl rfl (s_iload_n dL_law_1013 3 rfl (s_iconst dL_law_1014 (by decide) (n_add (z := i + 1) dL_law_1015 (wr_id (by omega) (by omega)) (s_sld dL_law_1016 hX hL ⟨by omega, by omega⟩ ?_)))))
  refine n_invV' (as := [(0, sv xs (i + 1))]) dL_law_1017 kv_X12_version ml_L_109 (hm z w1 hJ) (by decide) 141 cf_X12 rfl sh_141 rfl rfl rfl (Nat.le_of_ble_eq_true rfl) ?_
  rintro _ w2 ⟨z2, rfl, e, hG⟩
  show AtN mL 42 ρ 1020 (LL i) [(0, z2), (0, z)] w2
  exact s_icmp_eq 1496 dL_law_1020 (by decide) (fun _ => kk w2 hG) (fun c => absurd e.symm c)
theorem lc_change {ρ : Rh} {L : Nat} {xs : Nat → Int32} {i : Int} {w : Wd} (hX : XF ρ L xs) (hL : L ≤ 3072) (h0 : 0 ≤ i) (h1 : i + 5 < L) (h : GAl w) (kk : ∀ w1, GAl w1 → AtN mL 42 ρ 1496 (LL i) [] w1) : AtN mL 42 ρ 1025 (LL i) [] w := by
  obtain ⟨J, hx, hm⟩ := op_change (sv xs (i + 1)) (sv xs (i + 2)) (sv xs (i + 3)) h
  refine s_aload_n dL_law_1025 1 rfl rfl (s_aload_n dL_law_1026 0 rfl rfl (s_iload_n dL_law_1027 3 rfl (s_iconst dL_law_1028 (by decide) (n_add (z := i + 1) dL_law_1029 (wr_id (by omega) (by omega)) (s_sld dL_law_1030 hX hL ⟨by omega, by omega⟩ ?_)))))
  refine s_aload_n dL_law_1031 0 rfl rfl (s_iload_n dL_law_1032 3 rfl (s_iconst dL_law_1033 (by decide) (n_add (z := i + 2) dL_law_1034 (wr_id (by omega) (by omega)) (s_sld dL_law_1035 hX hL ⟨by omega, by omega⟩ (s_aload_n dL_law_1036 0 rfl rfl ?_)))))
  refine s_iload_n dL_law_1037 3 rfl (s_iconst dL_law_1038 (by decide) (n_add (z := i + 3) dL_law_1039 (wr_id (by omega) (by omega)) (s_sld dL_law_1040 hX hL ⟨by omega, by omega⟩ ?_)))
  refine n_invV' (as := [(0, sv xs (i + 1)), (0, sv xs (i + 2)), (0, sv xs (i + 3))]) dL_law_1041 kv_X11_change ml_L_110 hx (by decide) 0 cf_X11 rfl sh_0 rfl rfl rfl (Nat.le_of_ble_eq_true rfl) ?_
  rintro _ w1 ⟨z, rfl, hJ⟩
  show AtN mL 42 ρ 1044 (LL i) [(0, z)] w1
  refine s_aload_n dL_law_1044 2 rfl rfl (s_aload_n dL_law_1045 0 rfl rfl (s_iload_n dL_law_1046 3 rfl (s_iconst dL_law_1047 (by decide) (n_add (z := i + 1) dL_law_1048 (wr_id (by omega) (by omega)) (s_sld dL_law_1049 hX hL ⟨by omega, by omega⟩ ?_)))))
  refine s_aload_n dL_law_1050 0 rfl rfl (s_iload_n dL_law_1051 3 rfl (s_iconst dL_law_1052 (by decide) (n_add (z := i + 2) dL_law_1053 (wr_id (by omega) (by omega)) (s_sld dL_law_1054 hX hL ⟨by omega, by omega⟩ (s_aload_n dL_law_1055 0 rfl rfl ?_)))))
  refine s_iload_n dL_law_1056 3 rfl (s_iconst dL_law_1057 (by decide) (n_add (z := i + 3) dL_law_1058 (wr_id (by omega) (by omega)) (s_sld dL_law_1059 hX hL ⟨by omega, by omega⟩ ?_)))
  refine n_invV' (as := [(0, sv xs (i + 1)), (0, sv xs (i + 2)), (0, sv xs (i + 3))]) dL_law_1060 kv_X12_change ml_L_113 (hm z w1 hJ) (by decide) 141 cf_X12 rfl sh_141 rfl rfl rfl (Nat.le_of_ble_eq_true rfl) ?_
  rintro _ w2 ⟨z2, rfl, e, hG⟩
  show AtN mL 42 ρ 1063 (LL i) [(0, z2), (0, z)] w2
  exact s_icmp_eq 1496 dL_law_1063 (by decide) (fun _ => kk w2 hG) (fun c => absurd e.symm c)
theorem lc_stage {ρ : Rh} {L : Nat} {xs : Nat → Int32} {i : Int} {w : Wd} (hX : XF ρ L xs) (hL : L ≤ 3072) (h0 : 0 ≤ i) (h1 : i + 5 < L) (h : GAl w) (kk : ∀ w1, GAl w1 → AtN mL 42 ρ 1496 (LL i) [] w1) : AtN mL 42 ρ 1068 (LL i) [] w := by
  obtain ⟨J, hx, hm⟩ := op_stage (sv xs (i + 1)) (sv xs (i + 2)) h
  refine s_aload_n dL_law_1068 1 rfl rfl (s_aload_n dL_law_1069 0 rfl rfl (s_iload_n dL_law_1070 3 rfl (s_iconst dL_law_1071 (by decide) (n_add (z := i + 1) dL_law_1072 (wr_id (by omega) (by omega)) (s_sld dL_law_1073 hX hL ⟨by omega, by omega⟩ ?_)))))
  refine s_aload_n dL_law_1074 0 rfl rfl (s_iload_n dL_law_1075 3 rfl (s_iconst dL_law_1076 (by decide) (n_add (z := i + 2) dL_law_1077 (wr_id (by omega) (by omega)) (s_sld dL_law_1078 hX hL ⟨by omega, by omega⟩ ?_))))
  refine n_invV' (as := [(0, sv xs (i + 1)), (0, sv xs (i + 2))]) dL_law_1079 kv_X11_stage ml_L_114 hx (by decide) 0 cf_X11 rfl sh_0 rfl rfl rfl (Nat.le_of_ble_eq_true rfl) ?_
  rintro _ w1 ⟨z, rfl, hJ⟩
  show AtN mL 42 ρ 1082 (LL i) [(0, z)] w1
  refine s_aload_n dL_law_1082 2 rfl rfl (s_aload_n dL_law_1083 0 rfl rfl (s_iload_n dL_law_1084 3 rfl (s_iconst dL_law_1085 (by decide) (n_add (z := i + 1) dL_law_1086 (wr_id (by omega) (by omega)) (s_sld dL_law_1087 hX hL ⟨by omega, by omega⟩ ?_)))))
  refine s_aload_n dL_law_1088 0 rfl rfl (s_iload_n dL_law_1089 3 rfl (s_iconst dL_law_1090 (by decide) (n_add (z := i + 2) dL_law_1091 (wr_id (by omega) (by omega)) (s_sld dL_law_1092 hX hL ⟨by omega, by omega⟩ ?_))))
  refine n_invV' (as := [(0, sv xs (i + 1)), (0, sv xs (i + 2))]) dL_law_1093 kv_X12_stage ml_L_117 (hm z w1 hJ) (by decide) 141 cf_X12 rfl sh_141 rfl rfl rfl (Nat.le_of_ble_eq_true rfl) ?_
  rintro _ w2 ⟨z2, rfl, e, hG⟩
  show AtN mL 42 ρ 1096 (LL i) [(0, z2), (0, z)] w2
  exact s_icmp_eq 1496 dL_law_1096 (by decide) (fun _ => kk w2 hG) (fun c => absurd e.symm c)
theorem lc_person {ρ : Rh} {L : Nat} {xs : Nat → Int32} {i : Int} {w : Wd} (hX : XF ρ L xs) (hL : L ≤ 3072) (h0 : 0 ≤ i) (h1 : i + 5 < L) (h : GAl w) (kk : ∀ w1, GAl w1 → AtN mL 42 ρ 1496 (LL i) [] w1) : AtN mL 42 ρ 1101 (LL i) [] w := by
  obtain ⟨J, hx, hm⟩ := op_person (sv xs (i + 1)) (sv xs (i + 2)) h
  refine s_aload_n dL_law_1101 1 rfl rfl (s_aload_n dL_law_1102 0 rfl rfl (s_iload_n dL_law_1103 3 rfl (s_iconst dL_law_1104 (by decide) (n_add (z := i + 1) dL_law_1105 (wr_id (by omega) (by omega)) (s_sld dL_law_1106 hX hL ⟨by omega, by omega⟩ ?_)))))
  refine s_aload_n dL_law_1107 0 rfl rfl (s_iload_n dL_law_1108 3 rfl (s_iconst dL_law_1109 (by decide) (n_add (z := i + 2) dL_law_1110 (wr_id (by omega) (by omega)) (s_sld dL_law_1111 hX hL ⟨by omega, by omega⟩ ?_))))
  refine n_invV' (as := [(0, sv xs (i + 1)), (0, sv xs (i + 2))]) dL_law_1112 kv_X11_person ml_L_118 hx (by decide) 0 cf_X11 rfl sh_0 rfl rfl rfl (Nat.le_of_ble_eq_true rfl) ?_
  rintro _ w1 ⟨z, rfl, hJ⟩
  show AtN mL 42 ρ 1115 (LL i) [(0, z)] w1
  refine s_aload_n dL_law_1115 2 rfl rfl (s_aload_n dL_law_1116 0 rfl rfl (s_iload_n dL_law_1117 3 rfl (s_iconst dL_law_1118 (by decide) (n_add (z := i + 1) dL_law_1119 (wr_id (by omega) (by omega)) (s_sld dL_law_1120 hX hL ⟨by omega, by omega⟩ ?_)))))
  refine s_aload_n dL_law_1121 0 rfl rfl (s_iload_n dL_law_1122 3 rfl (s_iconst dL_law_1123 (by decide) (n_add (z := i + 2) dL_law_1124 (wr_id (by omega) (by omega)) (s_sld dL_law_1125 hX hL ⟨by omega, by omega⟩ ?_))))
  refine n_invV' (as := [(0, sv xs (i + 1)), (0, sv xs (i + 2))]) dL_law_1126 kv_X12_person ml_L_121 (hm z w1 hJ) (by decide) 141 cf_X12 rfl sh_141 rfl rfl rfl (Nat.le_of_ble_eq_true rfl) ?_
  rintro _ w2 ⟨z2, rfl, e, hG⟩
  show AtN mL 42 ρ 1129 (LL i) [(0, z2), (0, z)] w2
  exact s_icmp_eq 1496 dL_law_1129 (by decide) (fun _ => kk w2 hG) (fun c => absurd e.symm c)
theorem lc_faces {ρ : Rh} {L : Nat} {xs : Nat → Int32} {i : Int} {w : Wd} (hX : XF ρ L xs) (hL : L ≤ 3072) (h0 : 0 ≤ i) (h1 : i + 5 < L) (h : GAl w) (kk : ∀ w1, GAl w1 → AtN mL 42 ρ 1496 (LL i) [] w1) : AtN mL 42 ρ 1134 (LL i) [] w := by
  obtain ⟨J, hx, hm⟩ := op_faces (sv xs (i + 1)) (sv xs (i + 2)) (sv xs (i + 3)) h
  refine s_aload_n dL_law_1134 1 rfl rfl (s_aload_n dL_law_1135 0 rfl rfl (s_iload_n dL_law_1136 3 rfl (s_iconst dL_law_1137 (by decide) (n_add (z := i + 1) dL_law_1138 (wr_id (by omega) (by omega)) (s_sld dL_law_1139 hX hL ⟨by omega, by omega⟩ ?_)))))
  refine s_aload_n dL_law_1140 0 rfl rfl (s_iload_n dL_law_1141 3 rfl (s_iconst dL_law_1142 (by decide) (n_add (z := i + 2) dL_law_1143 (wr_id (by omega) (by omega)) (s_sld dL_law_1144 hX hL ⟨by omega, by omega⟩ (s_aload_n dL_law_1145 0 rfl rfl ?_)))))
  refine s_iload_n dL_law_1146 3 rfl (s_iconst dL_law_1147 (by decide) (n_add (z := i + 3) dL_law_1148 (wr_id (by omega) (by omega)) (s_sld dL_law_1149 hX hL ⟨by omega, by omega⟩ ?_)))
  refine n_invV' (as := [(0, sv xs (i + 1)), (0, sv xs (i + 2)), (0, sv xs (i + 3))]) dL_law_1150 kv_X11_faces ml_L_122 hx (by decide) 0 cf_X11 rfl sh_0 rfl rfl rfl (Nat.le_of_ble_eq_true rfl) ?_
  rintro _ w1 ⟨z, rfl, hJ⟩
  show AtN mL 42 ρ 1153 (LL i) [(0, z)] w1
  refine s_aload_n dL_law_1153 2 rfl rfl (s_aload_n dL_law_1154 0 rfl rfl (s_iload_n dL_law_1155 3 rfl (s_iconst dL_law_1156 (by decide) (n_add (z := i + 1) dL_law_1157 (wr_id (by omega) (by omega)) (s_sld dL_law_1158 hX hL ⟨by omega, by omega⟩ ?_)))))
  refine s_aload_n dL_law_1159 0 rfl rfl (s_iload_n dL_law_1160 3 rfl (s_iconst dL_law_1161 (by decide) (n_add (z := i + 2) dL_law_1162 (wr_id (by omega) (by omega)) (s_sld dL_law_1163 hX hL ⟨by omega, by omega⟩ (s_aload_n dL_law_1164 0 rfl rfl ?_)))))
  refine s_iload_n dL_law_1165 3 rfl (s_iconst dL_law_1166 (by decide) (n_add (z := i + 3) dL_law_1167 (wr_id (by omega) (by omega)) (s_sld dL_law_1168 hX hL ⟨by omega, by omega⟩ ?_)))
  refine n_invV' (as := [(0, sv xs (i + 1)), (0, sv xs (i + 2)), (0, sv xs (i + 3))]) dL_law_1169 kv_X12_faces ml_L_125 (hm z w1 hJ) (by decide) 141 cf_X12 rfl sh_141 rfl rfl rfl (Nat.le_of_ble_eq_true rfl) ?_
  rintro _ w2 ⟨z2, rfl, e, hG⟩
  show AtN mL 42 ρ 1172 (LL i) [(0, z2), (0, z)] w2
  exact s_icmp_eq 1496 dL_law_1172 (by decide) (fun _ => kk w2 hG) (fun c => absurd e.symm c)
theorem lc_needs {ρ : Rh} {L : Nat} {xs : Nat → Int32} {i : Int} {w : Wd} (hX : XF ρ L xs) (hL : L ≤ 3072) (h0 : 0 ≤ i) (h1 : i + 5 < L) (h : GAl w) (kk : ∀ w1, GAl w1 → AtN mL 42 ρ 1496 (LL i) [] w1) : AtN mL 42 ρ 1177 (LL i) [] w := by
  obtain ⟨J, hx, hm⟩ := op_needs (sv xs (i + 1)) (sv xs (i + 2)) (sv xs (i + 3)) h
  refine s_aload_n dL_law_1177 1 rfl rfl (s_aload_n dL_law_1178 0 rfl rfl (s_iload_n dL_law_1179 3 rfl (s_iconst dL_law_1180 (by decide) (n_add (z := i + 1) dL_law_1181 (wr_id (by omega) (by omega)) (s_sld dL_law_1182 hX hL ⟨by omega, by omega⟩ ?_)))))
  refine s_aload_n dL_law_1183 0 rfl rfl (s_iload_n dL_law_1184 3 rfl (s_iconst dL_law_1185 (by decide) (n_add (z := i + 2) dL_law_1186 (wr_id (by omega) (by omega)) (s_sld dL_law_1187 hX hL ⟨by omega, by omega⟩ (s_aload_n dL_law_1188 0 rfl rfl ?_)))))
  refine s_iload_n dL_law_1189 3 rfl (s_iconst dL_law_1190 (by decide) (n_add (z := i + 3) dL_law_1191 (wr_id (by omega) (by omega)) (s_sld dL_law_1192 hX hL ⟨by omega, by omega⟩ ?_)))
  refine n_invV' (as := [(0, sv xs (i + 1)), (0, sv xs (i + 2)), (0, sv xs (i + 3))]) dL_law_1193 kv_X11_needs ml_L_126 hx (by decide) 0 cf_X11 rfl sh_0 rfl rfl rfl (Nat.le_of_ble_eq_true rfl) ?_
  rintro _ w1 ⟨z, rfl, hJ⟩
  show AtN mL 42 ρ 1196 (LL i) [(0, z)] w1
  refine s_aload_n dL_law_1196 2 rfl rfl (s_aload_n dL_law_1197 0 rfl rfl (s_iload_n dL_law_1198 3 rfl (s_iconst dL_law_1199 (by decide) (n_add (z := i + 1) dL_law_1200 (wr_id (by omega) (by omega)) (s_sld dL_law_1201 hX hL ⟨by omega, by omega⟩ ?_)))))
  refine s_aload_n dL_law_1202 0 rfl rfl (s_iload_n dL_law_1203 3 rfl (s_iconst dL_law_1204 (by decide) (n_add (z := i + 2) dL_law_1205 (wr_id (by omega) (by omega)) (s_sld dL_law_1206 hX hL ⟨by omega, by omega⟩ (s_aload_n dL_law_1207 0 rfl rfl ?_)))))
  refine s_iload_n dL_law_1208 3 rfl (s_iconst dL_law_1209 (by decide) (n_add (z := i + 3) dL_law_1210 (wr_id (by omega) (by omega)) (s_sld dL_law_1211 hX hL ⟨by omega, by omega⟩ ?_)))
  refine n_invV' (as := [(0, sv xs (i + 1)), (0, sv xs (i + 2)), (0, sv xs (i + 3))]) dL_law_1212 kv_X12_needs ml_L_129 (hm z w1 hJ) (by decide) 141 cf_X12 rfl sh_141 rfl rfl rfl (Nat.le_of_ble_eq_true rfl) ?_
  rintro _ w2 ⟨z2, rfl, e, hG⟩
  show AtN mL 42 ρ 1215 (LL i) [(0, z2), (0, z)] w2
  exact s_icmp_eq 1496 dL_law_1215 (by decide) (fun _ => kk w2 hG) (fun c => absurd e.symm c)
theorem lc_wire {ρ : Rh} {L : Nat} {xs : Nat → Int32} {i : Int} {w : Wd} (hX : XF ρ L xs) (hL : L ≤ 3072) (h0 : 0 ≤ i) (h1 : i + 5 < L) (h : GAl w) (kk : ∀ w1, GAl w1 → AtN mL 42 ρ 1496 (LL i) [] w1) : AtN mL 42 ρ 1220 (LL i) [] w := by
  obtain ⟨J, hx, hm⟩ := op_wire (sv xs (i + 1)) (sv xs (i + 2)) h
  refine s_aload_n dL_law_1220 1 rfl rfl (s_aload_n dL_law_1221 0 rfl rfl (s_iload_n dL_law_1222 3 rfl (s_iconst dL_law_1223 (by decide) (n_add (z := i + 1) dL_law_1224 (wr_id (by omega) (by omega)) (s_sld dL_law_1225 hX hL ⟨by omega, by omega⟩ ?_)))))
  refine s_aload_n dL_law_1226 0 rfl rfl (s_iload_n dL_law_1227 3 rfl (s_iconst dL_law_1228 (by decide) (n_add (z := i + 2) dL_law_1229 (wr_id (by omega) (by omega)) (s_sld dL_law_1230 hX hL ⟨by omega, by omega⟩ ?_))))
  refine n_invV' (as := [(0, sv xs (i + 1)), (0, sv xs (i + 2))]) dL_law_1231 kv_X11_wire ml_L_130 hx (by decide) 0 cf_X11 rfl sh_0 rfl rfl rfl (Nat.le_of_ble_eq_true rfl) ?_
  rintro _ w1 ⟨z, rfl, hJ⟩
  show AtN mL 42 ρ 1234 (LL i) [(0, z)] w1
  refine s_aload_n dL_law_1234 2 rfl rfl (s_aload_n dL_law_1235 0 rfl rfl (s_iload_n dL_law_1236 3 rfl (s_iconst dL_law_1237 (by decide) (n_add (z := i + 1) dL_law_1238 (wr_id (by omega) (by omega)) (s_sld dL_law_1239 hX hL ⟨by omega, by omega⟩ ?_)))))
  refine s_aload_n dL_law_1240 0 rfl rfl (s_iload_n dL_law_1241 3 rfl (s_iconst dL_law_1242 (by decide) (n_add (z := i + 2) dL_law_1243 (wr_id (by omega) (by omega)) (s_sld dL_law_1244 hX hL ⟨by omega, by omega⟩ ?_))))
  refine n_invV' (as := [(0, sv xs (i + 1)), (0, sv xs (i + 2))]) dL_law_1245 kv_X12_wire ml_L_133 (hm z w1 hJ) (by decide) 141 cf_X12 rfl sh_141 rfl rfl rfl (Nat.le_of_ble_eq_true rfl) ?_
  rintro _ w2 ⟨z2, rfl, e, hG⟩
  show AtN mL 42 ρ 1248 (LL i) [(0, z2), (0, z)] w2
  exact s_icmp_eq 1496 dL_law_1248 (by decide) (fun _ => kk w2 hG) (fun c => absurd e.symm c)
theorem lc_owe {ρ : Rh} {L : Nat} {xs : Nat → Int32} {i : Int} {w : Wd} (hX : XF ρ L xs) (hL : L ≤ 3072) (h0 : 0 ≤ i) (h1 : i + 5 < L) (h : GAl w) (kk : ∀ w1, GAl w1 → AtN mL 42 ρ 1496 (LL i) [] w1) : AtN mL 42 ρ 1253 (LL i) [] w := by
  obtain ⟨J, hx, hm⟩ := op_owe (sv xs (i + 1)) (sv xs (i + 2)) (sv xs (i + 3)) h
  refine s_aload_n dL_law_1253 1 rfl rfl (s_aload_n dL_law_1254 0 rfl rfl (s_iload_n dL_law_1255 3 rfl (s_iconst dL_law_1256 (by decide) (n_add (z := i + 1) dL_law_1257 (wr_id (by omega) (by omega)) (s_sld dL_law_1258 hX hL ⟨by omega, by omega⟩ ?_)))))
  refine s_aload_n dL_law_1259 0 rfl rfl (s_iload_n dL_law_1260 3 rfl (s_iconst dL_law_1261 (by decide) (n_add (z := i + 2) dL_law_1262 (wr_id (by omega) (by omega)) (s_sld dL_law_1263 hX hL ⟨by omega, by omega⟩ (s_aload_n dL_law_1264 0 rfl rfl ?_)))))
  refine s_iload_n dL_law_1265 3 rfl (s_iconst dL_law_1266 (by decide) (n_add (z := i + 3) dL_law_1267 (wr_id (by omega) (by omega)) (s_sld dL_law_1268 hX hL ⟨by omega, by omega⟩ ?_)))
  refine n_invV' (as := [(0, sv xs (i + 1)), (0, sv xs (i + 2)), (0, sv xs (i + 3))]) dL_law_1269 kv_X11_owe ml_L_134 hx (by decide) 0 cf_X11 rfl sh_0 rfl rfl rfl (Nat.le_of_ble_eq_true rfl) ?_
  rintro _ w1 ⟨z, rfl, hJ⟩
  show AtN mL 42 ρ 1272 (LL i) [(0, z)] w1
  refine s_aload_n dL_law_1272 2 rfl rfl (s_aload_n dL_law_1273 0 rfl rfl (s_iload_n dL_law_1274 3 rfl (s_iconst dL_law_1275 (by decide) (n_add (z := i + 1) dL_law_1276 (wr_id (by omega) (by omega)) (s_sld dL_law_1277 hX hL ⟨by omega, by omega⟩ ?_)))))
  refine s_aload_n dL_law_1278 0 rfl rfl (s_iload_n dL_law_1279 3 rfl (s_iconst dL_law_1280 (by decide) (n_add (z := i + 2) dL_law_1281 (wr_id (by omega) (by omega)) (s_sld dL_law_1282 hX hL ⟨by omega, by omega⟩ (s_aload_n dL_law_1283 0 rfl rfl ?_)))))
  refine s_iload_n dL_law_1284 3 rfl (s_iconst dL_law_1285 (by decide) (n_add (z := i + 3) dL_law_1286 (wr_id (by omega) (by omega)) (s_sld dL_law_1287 hX hL ⟨by omega, by omega⟩ ?_)))
  refine n_invV' (as := [(0, sv xs (i + 1)), (0, sv xs (i + 2)), (0, sv xs (i + 3))]) dL_law_1288 kv_X12_owe ml_L_137 (hm z w1 hJ) (by decide) 141 cf_X12 rfl sh_141 rfl rfl rfl (Nat.le_of_ble_eq_true rfl) ?_
  rintro _ w2 ⟨z2, rfl, e, hG⟩
  show AtN mL 42 ρ 1291 (LL i) [(0, z2), (0, z)] w2
  exact s_icmp_eq 1496 dL_law_1291 (by decide) (fun _ => kk w2 hG) (fun c => absurd e.symm c)
theorem lc_purse {ρ : Rh} {L : Nat} {xs : Nat → Int32} {i : Int} {w : Wd} (hX : XF ρ L xs) (hL : L ≤ 3072) (h0 : 0 ≤ i) (h1 : i + 5 < L) (h : GAl w) (kk : ∀ w1, GAl w1 → AtN mL 42 ρ 1496 (LL i) [] w1) : AtN mL 42 ρ 1296 (LL i) [] w := by
  obtain ⟨J, hx, hm⟩ := op_purse (sv xs (i + 1)) (sv xs (i + 2)) h
  refine s_aload_n dL_law_1296 1 rfl rfl (s_aload_n dL_law_1297 0 rfl rfl (s_iload_n dL_law_1298 3 rfl (s_iconst dL_law_1299 (by decide) (n_add (z := i + 1) dL_law_1300 (wr_id (by omega) (by omega)) (s_sld dL_law_1301 hX hL ⟨by omega, by omega⟩ ?_)))))
  refine s_aload_n dL_law_1302 0 rfl rfl (s_iload_n dL_law_1303 3 rfl (s_iconst dL_law_1304 (by decide) (n_add (z := i + 2) dL_law_1305 (wr_id (by omega) (by omega)) (s_sld dL_law_1306 hX hL ⟨by omega, by omega⟩ ?_))))
  refine n_invV' (as := [(0, sv xs (i + 1)), (0, sv xs (i + 2))]) dL_law_1307 kv_X11_purse ml_L_138 hx (by decide) 0 cf_X11 rfl sh_0 rfl rfl rfl (Nat.le_of_ble_eq_true rfl) ?_
  rintro _ w1 ⟨z, rfl, hJ⟩
  show AtN mL 42 ρ 1310 (LL i) [(0, z)] w1
  refine s_aload_n dL_law_1310 2 rfl rfl (s_aload_n dL_law_1311 0 rfl rfl (s_iload_n dL_law_1312 3 rfl (s_iconst dL_law_1313 (by decide) (n_add (z := i + 1) dL_law_1314 (wr_id (by omega) (by omega)) (s_sld dL_law_1315 hX hL ⟨by omega, by omega⟩ ?_)))))
  refine s_aload_n dL_law_1316 0 rfl rfl (s_iload_n dL_law_1317 3 rfl (s_iconst dL_law_1318 (by decide) (n_add (z := i + 2) dL_law_1319 (wr_id (by omega) (by omega)) (s_sld dL_law_1320 hX hL ⟨by omega, by omega⟩ ?_))))
  refine n_invV' (as := [(0, sv xs (i + 1)), (0, sv xs (i + 2))]) dL_law_1321 kv_X12_purse ml_L_141 (hm z w1 hJ) (by decide) 141 cf_X12 rfl sh_141 rfl rfl rfl (Nat.le_of_ble_eq_true rfl) ?_
  rintro _ w2 ⟨z2, rfl, e, hG⟩
  show AtN mL 42 ρ 1324 (LL i) [(0, z2), (0, z)] w2
  exact s_icmp_eq 1496 dL_law_1324 (by decide) (fun _ => kk w2 hG) (fun c => absurd e.symm c)
theorem lc_clear {ρ : Rh} {L : Nat} {xs : Nat → Int32} {i : Int} {w : Wd} (hX : XF ρ L xs) (hL : L ≤ 3072) (h0 : 0 ≤ i) (h1 : i + 5 < L) (h : GAl w) (kk : ∀ w1, GAl w1 → AtN mL 42 ρ 1496 (LL i) [] w1) : AtN mL 42 ρ 1329 (LL i) [] w := by
  obtain ⟨J, hx, hm⟩ := op_clear (sv xs (i + 1)) (sv xs (i + 2)) (sv xs (i + 3)) h
  refine s_aload_n dL_law_1329 1 rfl rfl (s_aload_n dL_law_1330 0 rfl rfl (s_iload_n dL_law_1331 3 rfl (s_iconst dL_law_1332 (by decide) (n_add (z := i + 1) dL_law_1333 (wr_id (by omega) (by omega)) (s_sld dL_law_1334 hX hL ⟨by omega, by omega⟩ ?_)))))
  refine s_aload_n dL_law_1335 0 rfl rfl (s_iload_n dL_law_1336 3 rfl (s_iconst dL_law_1337 (by decide) (n_add (z := i + 2) dL_law_1338 (wr_id (by omega) (by omega)) (s_sld dL_law_1339 hX hL ⟨by omega, by omega⟩ (s_aload_n dL_law_1340 0 rfl rfl ?_)))))
  refine s_iload_n dL_law_1341 3 rfl (s_iconst dL_law_1342 (by decide) (n_add (z := i + 3) dL_law_1343 (wr_id (by omega) (by omega)) (s_sld dL_law_1344 hX hL ⟨by omega, by omega⟩ ?_)))
  refine n_invV' (as := [(0, sv xs (i + 1)), (0, sv xs (i + 2)), (0, sv xs (i + 3))]) dL_law_1345 kv_X11_clear ml_L_142 hx (by decide) 0 cf_X11 rfl sh_0 rfl rfl rfl (Nat.le_of_ble_eq_true rfl) ?_
  rintro _ w1 ⟨z, rfl, hJ⟩
  show AtN mL 42 ρ 1348 (LL i) [(1, z)] w1
  refine s_aload_n dL_law_1348 2 rfl rfl (s_aload_n dL_law_1349 0 rfl rfl (s_iload_n dL_law_1350 3 rfl (s_iconst dL_law_1351 (by decide) (n_add (z := i + 1) dL_law_1352 (wr_id (by omega) (by omega)) (s_sld dL_law_1353 hX hL ⟨by omega, by omega⟩ ?_)))))
  refine s_aload_n dL_law_1354 0 rfl rfl (s_iload_n dL_law_1355 3 rfl (s_iconst dL_law_1356 (by decide) (n_add (z := i + 2) dL_law_1357 (wr_id (by omega) (by omega)) (s_sld dL_law_1358 hX hL ⟨by omega, by omega⟩ (s_aload_n dL_law_1359 0 rfl rfl ?_)))))
  refine s_iload_n dL_law_1360 3 rfl (s_iconst dL_law_1361 (by decide) (n_add (z := i + 3) dL_law_1362 (wr_id (by omega) (by omega)) (s_sld dL_law_1363 hX hL ⟨by omega, by omega⟩ ?_)))
  refine n_invV' (as := [(0, sv xs (i + 1)), (0, sv xs (i + 2)), (0, sv xs (i + 3))]) dL_law_1364 kv_X12_clear ml_L_146 (hm z w1 hJ) (by decide) 141 cf_X12 rfl sh_141 rfl rfl rfl (Nat.le_of_ble_eq_true rfl) ?_
  rintro _ w2 ⟨z2, rfl, e, hG⟩
  show AtN mL 42 ρ 1367 (LL i) [(1, z2), (1, z)] w2
  refine s_lcmp dL_law_1367 (n_top (y := 0) (by rw [e, if_neg (Int.lt_irrefl _), if_pos rfl]) ?_)
  exact s_if_eq 1496 dL_law_1368 (by decide) (fun _ => kk w2 hG) (fun c => absurd rfl c)
theorem lc_clause {ρ : Rh} {L : Nat} {xs : Nat → Int32} {i : Int} {w : Wd} (hX : XF ρ L xs) (hL : L ≤ 3072) (h0 : 0 ≤ i) (h1 : i + 5 < L) (h : GAl w) (kk : ∀ w1, GAl w1 → AtN mL 42 ρ 1496 (LL i) [] w1) : AtN mL 42 ρ 1373 (LL i) [] w := by
  obtain ⟨J, hx, hm⟩ := op_clause (sv xs (i + 1)) (sv xs (i + 2)) (sv xs (i + 3)) h
  refine s_aload_n dL_law_1373 1 rfl rfl (s_aload_n dL_law_1374 0 rfl rfl (s_iload_n dL_law_1375 3 rfl (s_iconst dL_law_1376 (by decide) (n_add (z := i + 1) dL_law_1377 (wr_id (by omega) (by omega)) (s_sld dL_law_1378 hX hL ⟨by omega, by omega⟩ ?_)))))
  refine s_aload_n dL_law_1379 0 rfl rfl (s_iload_n dL_law_1380 3 rfl (s_iconst dL_law_1381 (by decide) (n_add (z := i + 2) dL_law_1382 (wr_id (by omega) (by omega)) (s_sld dL_law_1383 hX hL ⟨by omega, by omega⟩ (s_aload_n dL_law_1384 0 rfl rfl ?_)))))
  refine s_iload_n dL_law_1385 3 rfl (s_iconst dL_law_1386 (by decide) (n_add (z := i + 3) dL_law_1387 (wr_id (by omega) (by omega)) (s_sld dL_law_1388 hX hL ⟨by omega, by omega⟩ ?_)))
  refine n_invV' (as := [(0, sv xs (i + 1)), (0, sv xs (i + 2)), (0, sv xs (i + 3))]) dL_law_1389 kv_X11_clause ml_L_147 hx (by decide) 0 cf_X11 rfl sh_0 rfl rfl rfl (Nat.le_of_ble_eq_true rfl) ?_
  rintro _ w1 ⟨z, rfl, hJ⟩
  show AtN mL 42 ρ 1392 (LL i) [(0, z)] w1
  refine s_aload_n dL_law_1392 2 rfl rfl (s_aload_n dL_law_1393 0 rfl rfl (s_iload_n dL_law_1394 3 rfl (s_iconst dL_law_1395 (by decide) (n_add (z := i + 1) dL_law_1396 (wr_id (by omega) (by omega)) (s_sld dL_law_1397 hX hL ⟨by omega, by omega⟩ ?_)))))
  refine s_aload_n dL_law_1398 0 rfl rfl (s_iload_n dL_law_1399 3 rfl (s_iconst dL_law_1400 (by decide) (n_add (z := i + 2) dL_law_1401 (wr_id (by omega) (by omega)) (s_sld dL_law_1402 hX hL ⟨by omega, by omega⟩ (s_aload_n dL_law_1403 0 rfl rfl ?_)))))
  refine s_iload_n dL_law_1404 3 rfl (s_iconst dL_law_1405 (by decide) (n_add (z := i + 3) dL_law_1406 (wr_id (by omega) (by omega)) (s_sld dL_law_1407 hX hL ⟨by omega, by omega⟩ ?_)))
  refine n_invV' (as := [(0, sv xs (i + 1)), (0, sv xs (i + 2)), (0, sv xs (i + 3))]) dL_law_1408 kv_X12_clause ml_L_150 (hm z w1 hJ) (by decide) 141 cf_X12 rfl sh_141 rfl rfl rfl (Nat.le_of_ble_eq_true rfl) ?_
  rintro _ w2 ⟨z2, rfl, e, hG⟩
  show AtN mL 42 ρ 1411 (LL i) [(0, z2), (0, z)] w2
  exact s_icmp_eq 1496 dL_law_1411 (by decide) (fun _ => kk w2 hG) (fun c => absurd e.symm c)
theorem lc_stand {ρ : Rh} {L : Nat} {xs : Nat → Int32} {i : Int} {w : Wd} (hX : XF ρ L xs) (hL : L ≤ 3072) (h0 : 0 ≤ i) (h1 : i + 5 < L) (h : GAl w) (kk : ∀ w1, GAl w1 → AtN mL 42 ρ 1496 (LL i) [] w1) : AtN mL 42 ρ 1416 (LL i) [] w := by
  obtain ⟨J, hx, hm⟩ := op_stand (sv xs (i + 1)) (sv xs (i + 2)) h
  refine s_aload_n dL_law_1416 1 rfl rfl (s_aload_n dL_law_1417 0 rfl rfl (s_iload_n dL_law_1418 3 rfl (s_iconst dL_law_1419 (by decide) (n_add (z := i + 1) dL_law_1420 (wr_id (by omega) (by omega)) (s_sld dL_law_1421 hX hL ⟨by omega, by omega⟩ ?_)))))
  refine s_aload_n dL_law_1422 0 rfl rfl (s_iload_n dL_law_1423 3 rfl (s_iconst dL_law_1424 (by decide) (n_add (z := i + 2) dL_law_1425 (wr_id (by omega) (by omega)) (s_sld dL_law_1426 hX hL ⟨by omega, by omega⟩ ?_))))
  refine n_invV' (as := [(0, sv xs (i + 1)), (0, sv xs (i + 2))]) dL_law_1427 kv_X11_stand ml_L_151 hx (by decide) 0 cf_X11 rfl sh_0 rfl rfl rfl (Nat.le_of_ble_eq_true rfl) ?_
  rintro _ w1 ⟨z, rfl, hJ⟩
  show AtN mL 42 ρ 1430 (LL i) [(0, z)] w1
  refine s_aload_n dL_law_1430 2 rfl rfl (s_aload_n dL_law_1431 0 rfl rfl (s_iload_n dL_law_1432 3 rfl (s_iconst dL_law_1433 (by decide) (n_add (z := i + 1) dL_law_1434 (wr_id (by omega) (by omega)) (s_sld dL_law_1435 hX hL ⟨by omega, by omega⟩ ?_)))))
  refine s_aload_n dL_law_1436 0 rfl rfl (s_iload_n dL_law_1437 3 rfl (s_iconst dL_law_1438 (by decide) (n_add (z := i + 2) dL_law_1439 (wr_id (by omega) (by omega)) (s_sld dL_law_1440 hX hL ⟨by omega, by omega⟩ ?_))))
  refine n_invV' (as := [(0, sv xs (i + 1)), (0, sv xs (i + 2))]) dL_law_1441 kv_X12_stand ml_L_154 (hm z w1 hJ) (by decide) 141 cf_X12 rfl sh_141 rfl rfl rfl (Nat.le_of_ble_eq_true rfl) ?_
  rintro _ w2 ⟨z2, rfl, e, hG⟩
  show AtN mL 42 ρ 1444 (LL i) [(0, z2), (0, z)] w2
  exact s_icmp_eq 1496 dL_law_1444 (by decide) (fun _ => kk w2 hG) (fun c => absurd e.symm c)
theorem lc_pool {ρ : Rh} {L : Nat} {xs : Nat → Int32} {i : Int} {w : Wd} (hX : XF ρ L xs) (hL : L ≤ 3072) (h0 : 0 ≤ i) (h1 : i + 5 < L) (h : GAl w) (kk : ∀ w1, GAl w1 → AtN mL 42 ρ 1496 (LL i) [] w1) : AtN mL 42 ρ 1449 (LL i) [] w := by
  obtain ⟨J, hx, hm⟩ := op_pool (sv xs (i + 1)) h
  refine s_aload_n dL_law_1449 1 rfl rfl (s_aload_n dL_law_1450 0 rfl rfl (s_iload_n dL_law_1451 3 rfl (s_iconst dL_law_1452 (by decide) (n_add (z := i + 1) dL_law_1453 (wr_id (by omega) (by omega)) (s_sld dL_law_1454 hX hL ⟨by omega, by omega⟩ ?_)))))
  refine n_invV' (as := [(0, sv xs (i + 1))]) dL_law_1455 kv_X11_pool ml_L_155 hx (by decide) 0 cf_X11 rfl sh_0 rfl rfl rfl (Nat.le_of_ble_eq_true rfl) ?_
  rintro _ w1 ⟨z, rfl, hJ⟩
  show AtN mL 42 ρ 1458 (LL i) [(0, z)] w1
  refine s_aload_n dL_law_1458 2 rfl rfl (s_aload_n dL_law_1459 0 rfl rfl (s_iload_n dL_law_1460 3 rfl (s_iconst dL_law_1461 (by decide) (n_add (z := i + 1) dL_law_1462 (wr_id (by omega) (by omega)) (s_sld dL_law_1463 hX hL ⟨by omega, by omega⟩ ?_)))))
  refine n_invV' (as := [(0, sv xs (i + 1))]) dL_law_1464 kv_X12_pool ml_L_158 (hm z w1 hJ) (by decide) 141 cf_X12 rfl sh_141 rfl rfl rfl (Nat.le_of_ble_eq_true rfl) ?_
  rintro _ w2 ⟨z2, rfl, e, hG⟩
  show AtN mL 42 ρ 1467 (LL i) [(0, z2), (0, z)] w2
  exact s_icmp_eq 1496 dL_law_1467 (by decide) (fun _ => kk w2 hG) (fun c => absurd e.symm c)
theorem lc_look {ρ : Rh} {L : Nat} {xs : Nat → Int32} {i : Int} {w : Wd} (hX : XF ρ L xs) (hL : L ≤ 3072) (h0 : 0 ≤ i) (h1 : i + 5 < L) (h : GAl w) (kk : ∀ w1, GAl w1 → AtN mL 42 ρ 1496 (LL i) [] w1) : AtN mL 42 ρ 1472 (LL i) [] w := by
  obtain ⟨J, hx, hm⟩ := op_look (sv xs (i + 1)) h
  refine s_aload_n dL_law_1472 1 rfl rfl (s_aload_n dL_law_1473 0 rfl rfl (s_iload_n dL_law_1474 3 rfl (s_iconst dL_law_1475 (by decide) (n_add (z := i + 1) dL_law_1476 (wr_id (by omega) (by omega)) (s_sld dL_law_1477 hX hL ⟨by omega, by omega⟩ ?_)))))
  refine n_invV' (as := [(0, sv xs (i + 1))]) dL_law_1478 kv_X11_look ml_L_159 hx (by decide) 0 cf_X11 rfl sh_0 rfl rfl rfl (Nat.le_of_ble_eq_true rfl) ?_
  rintro _ w1 ⟨z, rfl, hJ⟩
  show AtN mL 42 ρ 1481 (LL i) [(1, z)] w1
  refine s_aload_n dL_law_1481 2 rfl rfl (s_aload_n dL_law_1482 0 rfl rfl (s_iload_n dL_law_1483 3 rfl (s_iconst dL_law_1484 (by decide) (n_add (z := i + 1) dL_law_1485 (wr_id (by omega) (by omega)) (s_sld dL_law_1486 hX hL ⟨by omega, by omega⟩ ?_)))))
  refine n_invV' (as := [(0, sv xs (i + 1))]) dL_law_1487 kv_X12_look ml_L_163 (hm z w1 hJ) (by decide) 141 cf_X12 rfl sh_141 rfl rfl rfl (Nat.le_of_ble_eq_true rfl) ?_
  rintro _ w2 ⟨z2, rfl, e, hG⟩
  show AtN mL 42 ρ 1490 (LL i) [(1, z2), (1, z)] w2
  refine s_lcmp dL_law_1490 (n_top (y := 0) (by rw [e, if_neg (Int.lt_irrefl _), if_pos rfl]) ?_)
  exact s_if_eq 1496 dL_law_1491 (by decide) (fun _ => kk w2 hG) (fun c => absurd rfl c)
