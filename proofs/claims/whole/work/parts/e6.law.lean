/-! the law: its cases -/
section LW1
variable {G : zG} {w : zW} {n i : Nat}
def R_law : String := "TinFenLaw"
def lw_Q (_ : Array Value) (s : State) (o : Outcome) (t : State) : Prop := o = .returned (some (.int 1)) ∧ Framed s o t [] 600000 7302250
def lw_Z (below : List Frame) (a : Array Value) (s : State) : State → Prop := fun t => ∃ o, t.status = .running ∧ Ended t below o ∧ lw_Q a s o t
def lw_Y (G : zG) (below : List Frame) (a : Array Value) (s t : State) : Prop := s.heap.size = G.2.2.1 → lw_Z below a s t
theorem zInv_0 (h : zInv n w) : w.2.2.2[0]? = some (11, 20) := by
  obtain ⟨f, d, nt, np, nl, nn, fed, mk, I, J, P, S, rfl, Z, X⟩ := h
  exact Z.1.1
theorem zInv_up (h : zInv n w) : zInv (n + 1) w := by
  obtain ⟨f, d, nt, np, nl, nn, fed, mk, I, J, P, S, rfl, Z, X⟩ := h
  exact ⟨f, d, nt, np, nl, nn, fed, mk, I, J, P, S, rfl, Z, stR_q X (clOk_f Z) kL_r (fun _ _ _ => rfl) (fun _ _ => rfl) jL_r X.1⟩
theorem zInv_m (h : zInv n w) : w.2.2.2[145]? = some (12, 47) := by
  obtain ⟨f, d, nt, np, nl, nn, fed, mk, I, J, P, S, rfl, Z, X⟩ := h
  exact (clOk_M Z).1
theorem law_0 (h : zInv n w) (hn : n ≤ 600) (hi : i + 6 ≤ G.2.2.2.2.1) (hL : G.2.2.2.2.1 ≤ 3072) (K : ∀ w2, zInv (n + 1) w2 → zA G x code 4 ret room_1 (lw_Y G) 1780 [some (.ref 1000000), some (.ref 0), some (.ref 145), some (.int (nI i))] [] w2 160 8334) : zA G x code 4 ret room_1 (lw_Y G) 252 [some (.ref 1000000), some (.ref 0), some (.ref 145), some (.int (nI i))] [] w 160 8334 := by
  refine z_aload_1 d_Law_252 ?_
  refine z_Vi0 d_Law_253 k_Law_13 (zInv_0 h) (L_status h) ⟨Nat.le_of_ble_eq_true rfl, Nat.le_of_ble_eq_true rfl, Nat.le_of_ble_eq_true rfl, Nat.le_of_ble_eq_true rfl⟩ (Nat.le_of_ble_eq_true rfl) ?_
  rintro r w1 ⟨e1, hq⟩
  have s1 : w1.2.2.2[145]? = some (12, 47) := by rw [e1]; exact zInv_m h
  refine z_aload_2 d_Law_256 ?_
  refine z_Vi0 d_Law_257 k_Law_17 s1 hq ⟨Nat.le_of_ble_eq_true rfl, Nat.le_of_ble_eq_true rfl, Nat.le_of_ble_eq_true rfl, Nat.le_of_ble_eq_true rfl⟩ (Nat.le_of_ble_eq_true rfl) ?_
  rintro r' w2 ⟨rfl, h2⟩
  refine z_icmp_eq (tgt := 1780) d_Law_260 (by decide) (fun _ => ?_) (fun h => absurd rfl h)
  exact K _ h2
theorem law_1 (h : zInv n w) (hn : n ≤ 600) (hi : i + 6 ≤ G.2.2.2.2.1) (hL : G.2.2.2.2.1 ≤ 3072) (K : ∀ w2, zInv (n + 1) w2 → zA G x code 4 ret room_1 (lw_Y G) 1780 [some (.ref 1000000), some (.ref 0), some (.ref 145), some (.int (nI i))] [] w2 160 8334) : zA G x code 4 ret room_1 (lw_Y G) 265 [some (.ref 1000000), some (.ref 0), some (.ref 145), some (.int (nI i))] [] w 160 8334 := by
  refine z_aload_1 d_Law_265 ?_
  refine z_Vl0 d_Law_266 k_Law_18 (zInv_0 h) (L_top h) ⟨Nat.le_of_ble_eq_true rfl, Nat.le_of_ble_eq_true rfl, Nat.le_of_ble_eq_true rfl, Nat.le_of_ble_eq_true rfl⟩ (Nat.le_of_ble_eq_true rfl) ?_
  rintro r w1 ⟨e1, hq⟩
  have s1 : w1.2.2.2[145]? = some (12, 47) := by rw [e1]; exact zInv_m h
  refine z_aload_2 d_Law_269 ?_
  refine z_Vl0 d_Law_270 k_Law_22 s1 hq ⟨Nat.le_of_ble_eq_true rfl, Nat.le_of_ble_eq_true rfl, Nat.le_of_ble_eq_true rfl, Nat.le_of_ble_eq_true rfl⟩ (Nat.le_of_ble_eq_true rfl) ?_
  rintro r' w2 ⟨rfl, h2⟩
  refine z_lcmp d_Law_273 ?_
  refine z_if_eq (tgt := 1780) d_Law_274 (by decide) (fun _ => ?_) (fun h => absurd ((lg_cmp_eq _ _).mpr rfl) h)
  exact K _ h2
theorem law_2 (h : zInv n w) (hn : n ≤ 600) (hi : i + 6 ≤ G.2.2.2.2.1) (hL : G.2.2.2.2.1 ≤ 3072) (K : ∀ w2, zInv (n + 1) w2 → zA G x code 4 ret room_1 (lw_Y G) 1780 [some (.ref 1000000), some (.ref 0), some (.ref 145), some (.int (nI i))] [] w2 160 8334) : zA G x code 4 ret room_1 (lw_Y G) 279 [some (.ref 1000000), some (.ref 0), some (.ref 145), some (.int (nI i))] [] w 160 8334 := by
  refine z_aload_1 d_Law_279 ?_
  refine z_Vl0 d_Law_280 k_Law_23 (zInv_0 h) (L_bottom h) ⟨Nat.le_of_ble_eq_true rfl, Nat.le_of_ble_eq_true rfl, Nat.le_of_ble_eq_true rfl, Nat.le_of_ble_eq_true rfl⟩ (Nat.le_of_ble_eq_true rfl) ?_
  rintro r w1 ⟨e1, hq⟩
  have s1 : w1.2.2.2[145]? = some (12, 47) := by rw [e1]; exact zInv_m h
  refine z_aload_2 d_Law_283 ?_
  refine z_Vl0 d_Law_284 k_Law_26 s1 hq ⟨Nat.le_of_ble_eq_true rfl, Nat.le_of_ble_eq_true rfl, Nat.le_of_ble_eq_true rfl, Nat.le_of_ble_eq_true rfl⟩ (Nat.le_of_ble_eq_true rfl) ?_
  rintro r' w2 ⟨rfl, h2⟩
  refine z_lcmp d_Law_287 ?_
  refine z_if_eq (tgt := 1780) d_Law_288 (by decide) (fun _ => ?_) (fun h => absurd ((lg_cmp_eq _ _).mpr rfl) h)
  exact K _ h2
theorem law_3 (h : zInv n w) (hn : n ≤ 600) (hi : i + 6 ≤ G.2.2.2.2.1) (hL : G.2.2.2.2.1 ≤ 3072) (K : ∀ w2, zInv (n + 1) w2 → zA G x code 4 ret room_1 (lw_Y G) 1780 [some (.ref 1000000), some (.ref 0), some (.ref 145), some (.int (nI i))] [] w2 160 8334) : zA G x code 4 ret room_1 (lw_Y G) 293 [some (.ref 1000000), some (.ref 0), some (.ref 145), some (.int (nI i))] [] w 160 8334 := by
  refine z_aload_1 d_Law_293 ?_
  refine z_aload_0 d_Law_294 ?_
  refine z_iload_3 d_Law_295 ?_
  refine z_iconst (a := nI 1) d_Law_296 (by decide) ?_
  refine z_iaddN d_Law_297 ?_
  refine z_sld d_Law_298 (vp_in_nI (by omega) (by omega)) ?_
  refine z_aload_0 d_Law_299 ?_
  refine z_iload_3 d_Law_300 ?_
  refine z_iconst (a := nI 2) d_Law_301 (by decide) ?_
  refine z_iaddN d_Law_302 ?_
  refine z_sld d_Law_303 (vp_in_nI (by omega) (by omega)) ?_
  refine z_aload_0 d_Law_304 ?_
  refine z_iload_3 d_Law_305 ?_
  refine z_iconst (a := nI 3) d_Law_306 (by decide) ?_
  refine z_iaddN d_Law_307 ?_
  refine z_sld d_Law_308 (vp_in_nI (by omega) (by omega)) ?_
  refine z_Vi3 d_Law_309 k_Law_27 (zInv_0 h) (L_tray h) ⟨Nat.le_of_ble_eq_true rfl, Nat.le_of_ble_eq_true rfl, Nat.le_of_ble_eq_true rfl, Nat.le_of_ble_eq_true rfl⟩ (Nat.le_of_ble_eq_true rfl) ?_
  rintro r w1 ⟨e1, hq⟩
  have s1 : w1.2.2.2[145]? = some (12, 47) := by rw [e1]; exact zInv_m h
  refine z_aload_2 d_Law_312 ?_
  refine z_aload_0 d_Law_313 ?_
  refine z_iload_3 d_Law_314 ?_
  refine z_iconst (a := nI 1) d_Law_315 (by decide) ?_
  refine z_iaddN d_Law_316 ?_
  refine z_sld d_Law_317 (vp_in_nI (by omega) (by omega)) ?_
  refine z_aload_0 d_Law_318 ?_
  refine z_iload_3 d_Law_319 ?_
  refine z_iconst (a := nI 2) d_Law_320 (by decide) ?_
  refine z_iaddN d_Law_321 ?_
  refine z_sld d_Law_322 (vp_in_nI (by omega) (by omega)) ?_
  refine z_aload_0 d_Law_323 ?_
  refine z_iload_3 d_Law_324 ?_
  refine z_iconst (a := nI 3) d_Law_325 (by decide) ?_
  refine z_iaddN d_Law_326 ?_
  refine z_sld d_Law_327 (vp_in_nI (by omega) (by omega)) ?_
  refine z_Vi3 d_Law_328 k_Law_31 s1 hq ⟨Nat.le_of_ble_eq_true rfl, Nat.le_of_ble_eq_true rfl, Nat.le_of_ble_eq_true rfl, Nat.le_of_ble_eq_true rfl⟩ (Nat.le_of_ble_eq_true rfl) ?_
  rintro r' w2 ⟨rfl, h2⟩
  refine z_icmp_eq (tgt := 1780) d_Law_331 (by decide) (fun _ => ?_) (fun h => absurd rfl h)
  exact K _ h2
theorem law_4 (h : zInv n w) (hn : n ≤ 600) (hi : i + 6 ≤ G.2.2.2.2.1) (hL : G.2.2.2.2.1 ≤ 3072) (K : ∀ w2, zInv (n + 1) w2 → zA G x code 4 ret room_1 (lw_Y G) 1780 [some (.ref 1000000), some (.ref 0), some (.ref 145), some (.int (nI i))] [] w2 160 8334) : zA G x code 4 ret room_1 (lw_Y G) 336 [some (.ref 1000000), some (.ref 0), some (.ref 145), some (.int (nI i))] [] w 160 8334 := by
  refine z_aload_1 d_Law_336 ?_
  refine z_aload_0 d_Law_337 ?_
  refine z_iload_3 d_Law_338 ?_
  refine z_iconst (a := nI 1) d_Law_339 (by decide) ?_
  refine z_iaddN d_Law_340 ?_
  refine z_sld d_Law_341 (vp_in_nI (by omega) (by omega)) ?_
  refine z_aload_0 d_Law_342 ?_
  refine z_iload_3 d_Law_343 ?_
  refine z_iconst (a := nI 2) d_Law_344 (by decide) ?_
  refine z_iaddN d_Law_345 ?_
  refine z_sld d_Law_346 (vp_in_nI (by omega) (by omega)) ?_
  refine z_aload_0 d_Law_347 ?_
  refine z_iload_3 d_Law_348 ?_
  refine z_iconst (a := nI 3) d_Law_349 (by decide) ?_
  refine z_iaddN d_Law_350 ?_
  refine z_sld d_Law_351 (vp_in_nI (by omega) (by omega)) ?_
  refine z_i2l d_Law_352 ?_
  refine z_bipush (a := nI 32) d_Law_353 (by decide) ?_
  refine z_lshl d_Law_355 ?_
  refine z_aload_0 d_Law_356 ?_
  refine z_iload_3 d_Law_357 ?_
  refine z_iconst (a := nI 4) d_Law_358 (by decide) ?_
  refine z_iaddN d_Law_359 ?_
  refine z_sld d_Law_360 (vp_in_nI (by omega) (by omega)) ?_
  refine z_i2l d_Law_361 ?_
  refine z_ldc2 d_Law_362 c_Law_32 ?_
  refine z_land d_Law_365 ?_
  refine z_lor d_Law_366 ?_
  refine z_Vi3 d_Law_367 k_Law_34 (zInv_0 h) (L_write h) ⟨Nat.le_of_ble_eq_true rfl, Nat.le_of_ble_eq_true rfl, Nat.le_of_ble_eq_true rfl, Nat.le_of_ble_eq_true rfl⟩ (Nat.le_of_ble_eq_true rfl) ?_
  rintro r w1 ⟨e1, hq⟩
  have s1 : w1.2.2.2[145]? = some (12, 47) := by rw [e1]; exact zInv_m h
  refine z_aload_2 d_Law_370 ?_
  refine z_aload_0 d_Law_371 ?_
  refine z_iload_3 d_Law_372 ?_
  refine z_iconst (a := nI 1) d_Law_373 (by decide) ?_
  refine z_iaddN d_Law_374 ?_
  refine z_sld d_Law_375 (vp_in_nI (by omega) (by omega)) ?_
  refine z_aload_0 d_Law_376 ?_
  refine z_iload_3 d_Law_377 ?_
  refine z_iconst (a := nI 2) d_Law_378 (by decide) ?_
  refine z_iaddN d_Law_379 ?_
  refine z_sld d_Law_380 (vp_in_nI (by omega) (by omega)) ?_
  refine z_aload_0 d_Law_381 ?_
  refine z_iload_3 d_Law_382 ?_
  refine z_iconst (a := nI 3) d_Law_383 (by decide) ?_
  refine z_iaddN d_Law_384 ?_
  refine z_sld d_Law_385 (vp_in_nI (by omega) (by omega)) ?_
  refine z_i2l d_Law_386 ?_
  refine z_bipush (a := nI 32) d_Law_387 (by decide) ?_
  refine z_lshl d_Law_389 ?_
  refine z_aload_0 d_Law_390 ?_
  refine z_iload_3 d_Law_391 ?_
  refine z_iconst (a := nI 4) d_Law_392 (by decide) ?_
  refine z_iaddN d_Law_393 ?_
  refine z_sld d_Law_394 (vp_in_nI (by omega) (by omega)) ?_
  refine z_i2l d_Law_395 ?_
  refine z_ldc2 d_Law_396 c_Law_32 ?_
  refine z_land d_Law_399 ?_
  refine z_lor d_Law_400 ?_
  refine z_Vi3 d_Law_401 k_Law_38 s1 hq ⟨Nat.le_of_ble_eq_true rfl, Nat.le_of_ble_eq_true rfl, Nat.le_of_ble_eq_true rfl, Nat.le_of_ble_eq_true rfl⟩ (Nat.le_of_ble_eq_true rfl) ?_
  rintro r' w2 ⟨rfl, h2⟩
  refine z_icmp_eq (tgt := 1780) d_Law_404 (by decide) (fun _ => ?_) (fun h => absurd rfl h)
  exact K _ h2
theorem law_5 (h : zInv n w) (hn : n ≤ 600) (hi : i + 6 ≤ G.2.2.2.2.1) (hL : G.2.2.2.2.1 ≤ 3072) (K : ∀ w2, zInv (n + 1) w2 → zA G x code 4 ret room_1 (lw_Y G) 1780 [some (.ref 1000000), some (.ref 0), some (.ref 145), some (.int (nI i))] [] w2 160 8334) : zA G x code 4 ret room_1 (lw_Y G) 409 [some (.ref 1000000), some (.ref 0), some (.ref 145), some (.int (nI i))] [] w 160 8334 := by
  refine z_aload_1 d_Law_409 ?_
  refine z_aload_0 d_Law_410 ?_
  refine z_iload_3 d_Law_411 ?_
  refine z_iconst (a := nI 1) d_Law_412 (by decide) ?_
  refine z_iaddN d_Law_413 ?_
  refine z_sld d_Law_414 (vp_in_nI (by omega) (by omega)) ?_
  refine z_aload_0 d_Law_415 ?_
  refine z_iload_3 d_Law_416 ?_
  refine z_iconst (a := nI 2) d_Law_417 (by decide) ?_
  refine z_iaddN d_Law_418 ?_
  refine z_sld d_Law_419 (vp_in_nI (by omega) (by omega)) ?_
  refine z_Vl2 d_Law_420 k_Law_39 (zInv_0 h) (L_read h) ⟨Nat.le_of_ble_eq_true rfl, Nat.le_of_ble_eq_true rfl, Nat.le_of_ble_eq_true rfl, Nat.le_of_ble_eq_true rfl⟩ (Nat.le_of_ble_eq_true rfl) ?_
  rintro r w1 ⟨e1, hq⟩
  have s1 : w1.2.2.2[145]? = some (12, 47) := by rw [e1]; exact zInv_m h
  refine z_aload_2 d_Law_423 ?_
  refine z_aload_0 d_Law_424 ?_
  refine z_iload_3 d_Law_425 ?_
  refine z_iconst (a := nI 1) d_Law_426 (by decide) ?_
  refine z_iaddN d_Law_427 ?_
  refine z_sld d_Law_428 (vp_in_nI (by omega) (by omega)) ?_
  refine z_aload_0 d_Law_429 ?_
  refine z_iload_3 d_Law_430 ?_
  refine z_iconst (a := nI 2) d_Law_431 (by decide) ?_
  refine z_iaddN d_Law_432 ?_
  refine z_sld d_Law_433 (vp_in_nI (by omega) (by omega)) ?_
  refine z_Vl2 d_Law_434 k_Law_43 s1 hq ⟨Nat.le_of_ble_eq_true rfl, Nat.le_of_ble_eq_true rfl, Nat.le_of_ble_eq_true rfl, Nat.le_of_ble_eq_true rfl⟩ (Nat.le_of_ble_eq_true rfl) ?_
  rintro r' w2 ⟨rfl, h2⟩
  refine z_lcmp d_Law_437 ?_
  refine z_if_eq (tgt := 1780) d_Law_438 (by decide) (fun _ => ?_) (fun h => absurd ((lg_cmp_eq _ _).mpr rfl) h)
  exact K _ h2
theorem law_6 (h : zInv n w) (hn : n ≤ 600) (hi : i + 6 ≤ G.2.2.2.2.1) (hL : G.2.2.2.2.1 ≤ 3072) (K : ∀ w2, zInv (n + 1) w2 → zA G x code 4 ret room_1 (lw_Y G) 1780 [some (.ref 1000000), some (.ref 0), some (.ref 145), some (.int (nI i))] [] w2 160 8334) : zA G x code 4 ret room_1 (lw_Y G) 443 [some (.ref 1000000), some (.ref 0), some (.ref 145), some (.int (nI i))] [] w 160 8334 := by
  refine z_aload_1 d_Law_443 ?_
  refine z_aload_0 d_Law_444 ?_
  refine z_iload_3 d_Law_445 ?_
  refine z_iconst (a := nI 1) d_Law_446 (by decide) ?_
  refine z_iaddN d_Law_447 ?_
  refine z_sld d_Law_448 (vp_in_nI (by omega) (by omega)) ?_
  refine z_aload_0 d_Law_449 ?_
  refine z_iload_3 d_Law_450 ?_
  refine z_iconst (a := nI 2) d_Law_451 (by decide) ?_
  refine z_iaddN d_Law_452 ?_
  refine z_sld d_Law_453 (vp_in_nI (by omega) (by omega)) ?_
  refine z_aload_0 d_Law_454 ?_
  refine z_iload_3 d_Law_455 ?_
  refine z_iconst (a := nI 3) d_Law_456 (by decide) ?_
  refine z_iaddN d_Law_457 ?_
  refine z_sld d_Law_458 (vp_in_nI (by omega) (by omega)) ?_
  refine z_aload_0 d_Law_459 ?_
  refine z_iload_3 d_Law_460 ?_
  refine z_iconst (a := nI 4) d_Law_461 (by decide) ?_
  refine z_iaddN d_Law_462 ?_
  refine z_sld d_Law_463 (vp_in_nI (by omega) (by omega)) ?_
  refine z_aload_0 d_Law_464 ?_
  refine z_iload_3 d_Law_465 ?_
  refine z_iconst (a := nI 5) d_Law_466 (by decide) ?_
  refine z_iaddN d_Law_467 ?_
  refine z_sld d_Law_468 (vp_in_nI (by omega) (by omega)) ?_
  refine z_Vi5 d_Law_469 k_Law_44 (zInv_0 h) (L_pour h) ⟨Nat.le_of_ble_eq_true rfl, Nat.le_of_ble_eq_true rfl, Nat.le_of_ble_eq_true rfl, Nat.le_of_ble_eq_true rfl⟩ (Nat.le_of_ble_eq_true rfl) ?_
  rintro r w1 ⟨e1, hq⟩
  have s1 : w1.2.2.2[145]? = some (12, 47) := by rw [e1]; exact zInv_m h
  refine z_aload_2 d_Law_472 ?_
  refine z_aload_0 d_Law_473 ?_
  refine z_iload_3 d_Law_474 ?_
  refine z_iconst (a := nI 1) d_Law_475 (by decide) ?_
  refine z_iaddN d_Law_476 ?_
  refine z_sld d_Law_477 (vp_in_nI (by omega) (by omega)) ?_
  refine z_aload_0 d_Law_478 ?_
  refine z_iload_3 d_Law_479 ?_
  refine z_iconst (a := nI 2) d_Law_480 (by decide) ?_
  refine z_iaddN d_Law_481 ?_
  refine z_sld d_Law_482 (vp_in_nI (by omega) (by omega)) ?_
  refine z_aload_0 d_Law_483 ?_
  refine z_iload_3 d_Law_484 ?_
  refine z_iconst (a := nI 3) d_Law_485 (by decide) ?_
  refine z_iaddN d_Law_486 ?_
  refine z_sld d_Law_487 (vp_in_nI (by omega) (by omega)) ?_
  refine z_aload_0 d_Law_488 ?_
  refine z_iload_3 d_Law_489 ?_
  refine z_iconst (a := nI 4) d_Law_490 (by decide) ?_
  refine z_iaddN d_Law_491 ?_
  refine z_sld d_Law_492 (vp_in_nI (by omega) (by omega)) ?_
  refine z_aload_0 d_Law_493 ?_
  refine z_iload_3 d_Law_494 ?_
  refine z_iconst (a := nI 5) d_Law_495 (by decide) ?_
  refine z_iaddN d_Law_496 ?_
  refine z_sld d_Law_497 (vp_in_nI (by omega) (by omega)) ?_
  refine z_Vi5 d_Law_498 k_Law_48 s1 hq ⟨Nat.le_of_ble_eq_true rfl, Nat.le_of_ble_eq_true rfl, Nat.le_of_ble_eq_true rfl, Nat.le_of_ble_eq_true rfl⟩ (Nat.le_of_ble_eq_true rfl) ?_
  rintro r' w2 ⟨rfl, h2⟩
  refine z_icmp_eq (tgt := 1780) d_Law_501 (by decide) (fun _ => ?_) (fun h => absurd rfl h)
  exact K _ h2
theorem law_7 (h : zInv n w) (hn : n ≤ 600) (hi : i + 6 ≤ G.2.2.2.2.1) (hL : G.2.2.2.2.1 ≤ 3072) (K : ∀ w2, zInv (n + 1) w2 → zA G x code 4 ret room_1 (lw_Y G) 1780 [some (.ref 1000000), some (.ref 0), some (.ref 145), some (.int (nI i))] [] w2 160 8334) : zA G x code 4 ret room_1 (lw_Y G) 506 [some (.ref 1000000), some (.ref 0), some (.ref 145), some (.int (nI i))] [] w 160 8334 := by
  refine z_aload_1 d_Law_506 ?_
  refine z_aload_0 d_Law_507 ?_
  refine z_iload_3 d_Law_508 ?_
  refine z_iconst (a := nI 1) d_Law_509 (by decide) ?_
  refine z_iaddN d_Law_510 ?_
  refine z_sld d_Law_511 (vp_in_nI (by omega) (by omega)) ?_
  refine z_aload_0 d_Law_512 ?_
  refine z_iload_3 d_Law_513 ?_
  refine z_iconst (a := nI 2) d_Law_514 (by decide) ?_
  refine z_iaddN d_Law_515 ?_
  refine z_sld d_Law_516 (vp_in_nI (by omega) (by omega)) ?_
  refine z_aload_0 d_Law_517 ?_
  refine z_iload_3 d_Law_518 ?_
  refine z_iconst (a := nI 3) d_Law_519 (by decide) ?_
  refine z_iaddN d_Law_520 ?_
  refine z_sld d_Law_521 (vp_in_nI (by omega) (by omega)) ?_
  refine z_aload_0 d_Law_522 ?_
  refine z_iload_3 d_Law_523 ?_
  refine z_iconst (a := nI 4) d_Law_524 (by decide) ?_
  refine z_iaddN d_Law_525 ?_
  refine z_sld d_Law_526 (vp_in_nI (by omega) (by omega)) ?_
  refine z_aload_0 d_Law_527 ?_
  refine z_iload_3 d_Law_528 ?_
  refine z_iconst (a := nI 5) d_Law_529 (by decide) ?_
  refine z_iaddN d_Law_530 ?_
  refine z_sld d_Law_531 (vp_in_nI (by omega) (by omega)) ?_
  refine z_Vi5 d_Law_532 k_Law_49 (zInv_0 h) (L_feed h) ⟨Nat.le_of_ble_eq_true rfl, Nat.le_of_ble_eq_true rfl, Nat.le_of_ble_eq_true rfl, Nat.le_of_ble_eq_true rfl⟩ (Nat.le_of_ble_eq_true rfl) ?_
  rintro r w1 ⟨e1, hq⟩
  have s1 : w1.2.2.2[145]? = some (12, 47) := by rw [e1]; exact zInv_m h
  refine z_aload_2 d_Law_535 ?_
  refine z_aload_0 d_Law_536 ?_
  refine z_iload_3 d_Law_537 ?_
  refine z_iconst (a := nI 1) d_Law_538 (by decide) ?_
  refine z_iaddN d_Law_539 ?_
  refine z_sld d_Law_540 (vp_in_nI (by omega) (by omega)) ?_
  refine z_aload_0 d_Law_541 ?_
  refine z_iload_3 d_Law_542 ?_
  refine z_iconst (a := nI 2) d_Law_543 (by decide) ?_
  refine z_iaddN d_Law_544 ?_
  refine z_sld d_Law_545 (vp_in_nI (by omega) (by omega)) ?_
  refine z_aload_0 d_Law_546 ?_
  refine z_iload_3 d_Law_547 ?_
  refine z_iconst (a := nI 3) d_Law_548 (by decide) ?_
  refine z_iaddN d_Law_549 ?_
  refine z_sld d_Law_550 (vp_in_nI (by omega) (by omega)) ?_
  refine z_aload_0 d_Law_551 ?_
  refine z_iload_3 d_Law_552 ?_
  refine z_iconst (a := nI 4) d_Law_553 (by decide) ?_
  refine z_iaddN d_Law_554 ?_
  refine z_sld d_Law_555 (vp_in_nI (by omega) (by omega)) ?_
  refine z_aload_0 d_Law_556 ?_
  refine z_iload_3 d_Law_557 ?_
  refine z_iconst (a := nI 5) d_Law_558 (by decide) ?_
  refine z_iaddN d_Law_559 ?_
  refine z_sld d_Law_560 (vp_in_nI (by omega) (by omega)) ?_
  refine z_Vi5 d_Law_561 k_Law_53 s1 hq ⟨Nat.le_of_ble_eq_true rfl, Nat.le_of_ble_eq_true rfl, Nat.le_of_ble_eq_true rfl, Nat.le_of_ble_eq_true rfl⟩ (Nat.le_of_ble_eq_true rfl) ?_
  rintro r' w2 ⟨rfl, h2⟩
  refine z_icmp_eq (tgt := 1780) d_Law_564 (by decide) (fun _ => ?_) (fun h => absurd rfl h)
  exact K _ h2
theorem law_8 (h : zInv n w) (hn : n ≤ 600) (hi : i + 6 ≤ G.2.2.2.2.1) (hL : G.2.2.2.2.1 ≤ 3072) (K : ∀ w2, zInv (n + 1) w2 → zA G x code 4 ret room_1 (lw_Y G) 1780 [some (.ref 1000000), some (.ref 0), some (.ref 145), some (.int (nI i))] [] w2 160 8334) : zA G x code 4 ret room_1 (lw_Y G) 569 [some (.ref 1000000), some (.ref 0), some (.ref 145), some (.int (nI i))] [] w 160 8334 := by
  refine z_aload_1 d_Law_569 ?_
  refine z_aload_0 d_Law_570 ?_
  refine z_iload_3 d_Law_571 ?_
  refine z_iconst (a := nI 1) d_Law_572 (by decide) ?_
  refine z_iaddN d_Law_573 ?_
  refine z_sld d_Law_574 (vp_in_nI (by omega) (by omega)) ?_
  refine z_Vi1 d_Law_575 k_Law_54 (zInv_0 h) (L_fen h) ⟨Nat.le_of_ble_eq_true rfl, Nat.le_of_ble_eq_true rfl, Nat.le_of_ble_eq_true rfl, Nat.le_of_ble_eq_true rfl⟩ (Nat.le_of_ble_eq_true rfl) ?_
  rintro r w1 ⟨e1, hq⟩
  have s1 : w1.2.2.2[145]? = some (12, 47) := by rw [e1]; exact zInv_m h
  refine z_aload_2 d_Law_578 ?_
  refine z_aload_0 d_Law_579 ?_
  refine z_iload_3 d_Law_580 ?_
  refine z_iconst (a := nI 1) d_Law_581 (by decide) ?_
  refine z_iaddN d_Law_582 ?_
  refine z_sld d_Law_583 (vp_in_nI (by omega) (by omega)) ?_
  refine z_Vi1 d_Law_584 k_Law_58 s1 hq ⟨Nat.le_of_ble_eq_true rfl, Nat.le_of_ble_eq_true rfl, Nat.le_of_ble_eq_true rfl, Nat.le_of_ble_eq_true rfl⟩ (Nat.le_of_ble_eq_true rfl) ?_
  rintro r' w2 ⟨rfl, h2⟩
  refine z_icmp_eq (tgt := 1780) d_Law_587 (by decide) (fun _ => ?_) (fun h => absurd rfl h)
  exact K _ h2
theorem law_9 (h : zInv n w) (hn : n ≤ 600) (hi : i + 6 ≤ G.2.2.2.2.1) (hL : G.2.2.2.2.1 ≤ 3072) (K : ∀ w2, zInv (n + 1) w2 → zA G x code 4 ret room_1 (lw_Y G) 1780 [some (.ref 1000000), some (.ref 0), some (.ref 145), some (.int (nI i))] [] w2 160 8334) : zA G x code 4 ret room_1 (lw_Y G) 592 [some (.ref 1000000), some (.ref 0), some (.ref 145), some (.int (nI i))] [] w 160 8334 := by
  refine z_aload_1 d_Law_592 ?_
  refine z_aload_0 d_Law_593 ?_
  refine z_iload_3 d_Law_594 ?_
  refine z_iconst (a := nI 1) d_Law_595 (by decide) ?_
  refine z_iaddN d_Law_596 ?_
  refine z_sld d_Law_597 (vp_in_nI (by omega) (by omega)) ?_
  refine z_Vi1 d_Law_598 k_Law_59 (zInv_0 h) (L_years h) ⟨Nat.le_of_ble_eq_true rfl, Nat.le_of_ble_eq_true rfl, Nat.le_of_ble_eq_true rfl, Nat.le_of_ble_eq_true rfl⟩ (Nat.le_of_ble_eq_true rfl) ?_
  rintro r w1 ⟨e1, hq⟩
  have s1 : w1.2.2.2[145]? = some (12, 47) := by rw [e1]; exact zInv_m h
  refine z_aload_2 d_Law_601 ?_
  refine z_aload_0 d_Law_602 ?_
  refine z_iload_3 d_Law_603 ?_
  refine z_iconst (a := nI 1) d_Law_604 (by decide) ?_
  refine z_iaddN d_Law_605 ?_
  refine z_sld d_Law_606 (vp_in_nI (by omega) (by omega)) ?_
  refine z_Vi1 d_Law_607 k_Law_62 s1 hq ⟨Nat.le_of_ble_eq_true rfl, Nat.le_of_ble_eq_true rfl, Nat.le_of_ble_eq_true rfl, Nat.le_of_ble_eq_true rfl⟩ (Nat.le_of_ble_eq_true rfl) ?_
  rintro r' w2 ⟨rfl, h2⟩
  refine z_icmp_eq (tgt := 1780) d_Law_610 (by decide) (fun _ => ?_) (fun h => absurd rfl h)
  exact K _ h2
theorem law_10 (h : zInv n w) (hn : n ≤ 600) (hi : i + 6 ≤ G.2.2.2.2.1) (hL : G.2.2.2.2.1 ≤ 3072) (K : ∀ w2, zInv (n + 1) w2 → zA G x code 4 ret room_1 (lw_Y G) 1780 [some (.ref 1000000), some (.ref 0), some (.ref 145), some (.int (nI i))] [] w2 160 8334) : zA G x code 4 ret room_1 (lw_Y G) 615 [some (.ref 1000000), some (.ref 0), some (.ref 145), some (.int (nI i))] [] w 160 8334 := by
  refine z_aload_1 d_Law_615 ?_
  refine z_aload_0 d_Law_616 ?_
  refine z_iload_3 d_Law_617 ?_
  refine z_iconst (a := nI 1) d_Law_618 (by decide) ?_
  refine z_iaddN d_Law_619 ?_
  refine z_sld d_Law_620 (vp_in_nI (by omega) (by omega)) ?_
  refine z_Vi1 d_Law_621 k_Law_63 (zInv_0 h) (L_fault h) ⟨Nat.le_of_ble_eq_true rfl, Nat.le_of_ble_eq_true rfl, Nat.le_of_ble_eq_true rfl, Nat.le_of_ble_eq_true rfl⟩ (Nat.le_of_ble_eq_true rfl) ?_
  rintro r w1 ⟨e1, hq⟩
  have s1 : w1.2.2.2[145]? = some (12, 47) := by rw [e1]; exact zInv_m h
  refine z_aload_2 d_Law_624 ?_
  refine z_aload_0 d_Law_625 ?_
  refine z_iload_3 d_Law_626 ?_
  refine z_iconst (a := nI 1) d_Law_627 (by decide) ?_
  refine z_iaddN d_Law_628 ?_
  refine z_sld d_Law_629 (vp_in_nI (by omega) (by omega)) ?_
  refine z_Vi1 d_Law_630 k_Law_66 s1 hq ⟨Nat.le_of_ble_eq_true rfl, Nat.le_of_ble_eq_true rfl, Nat.le_of_ble_eq_true rfl, Nat.le_of_ble_eq_true rfl⟩ (Nat.le_of_ble_eq_true rfl) ?_
  rintro r' w2 ⟨rfl, h2⟩
  refine z_icmp_eq (tgt := 1780) d_Law_633 (by decide) (fun _ => ?_) (fun h => absurd rfl h)
  exact K _ h2
theorem law_11 (h : zInv n w) (hn : n ≤ 600) (hi : i + 6 ≤ G.2.2.2.2.1) (hL : G.2.2.2.2.1 ≤ 3072) (K : ∀ w2, zInv (n + 1) w2 → zA G x code 4 ret room_1 (lw_Y G) 1780 [some (.ref 1000000), some (.ref 0), some (.ref 145), some (.int (nI i))] [] w2 160 8334) : zA G x code 4 ret room_1 (lw_Y G) 638 [some (.ref 1000000), some (.ref 0), some (.ref 145), some (.int (nI i))] [] w 160 8334 := by
  refine z_aload_1 d_Law_638 ?_
  refine z_aload_0 d_Law_639 ?_
  refine z_iload_3 d_Law_640 ?_
  refine z_iconst (a := nI 1) d_Law_641 (by decide) ?_
  refine z_iaddN d_Law_642 ?_
  refine z_sld d_Law_643 (vp_in_nI (by omega) (by omega)) ?_
  refine z_Vi1 d_Law_644 k_Law_67 (zInv_0 h) (L_many h) ⟨Nat.le_of_ble_eq_true rfl, Nat.le_of_ble_eq_true rfl, Nat.le_of_ble_eq_true rfl, Nat.le_of_ble_eq_true rfl⟩ (Nat.le_of_ble_eq_true rfl) ?_
  rintro r w1 ⟨e1, hq⟩
  have s1 : w1.2.2.2[145]? = some (12, 47) := by rw [e1]; exact zInv_m h
  refine z_aload_2 d_Law_647 ?_
  refine z_aload_0 d_Law_648 ?_
  refine z_iload_3 d_Law_649 ?_
  refine z_iconst (a := nI 1) d_Law_650 (by decide) ?_
  refine z_iaddN d_Law_651 ?_
  refine z_sld d_Law_652 (vp_in_nI (by omega) (by omega)) ?_
  refine z_Vi1 d_Law_653 k_Law_70 s1 hq ⟨Nat.le_of_ble_eq_true rfl, Nat.le_of_ble_eq_true rfl, Nat.le_of_ble_eq_true rfl, Nat.le_of_ble_eq_true rfl⟩ (Nat.le_of_ble_eq_true rfl) ?_
  rintro r' w2 ⟨rfl, h2⟩
  refine z_icmp_eq (tgt := 1780) d_Law_656 (by decide) (fun _ => ?_) (fun h => absurd rfl h)
  exact K _ h2
theorem law_12 (h : zInv n w) (hn : n ≤ 600) (hi : i + 6 ≤ G.2.2.2.2.1) (hL : G.2.2.2.2.1 ≤ 3072) (K : ∀ w2, zInv (n + 1) w2 → zA G x code 4 ret room_1 (lw_Y G) 1780 [some (.ref 1000000), some (.ref 0), some (.ref 145), some (.int (nI i))] [] w2 160 8334) : zA G x code 4 ret room_1 (lw_Y G) 661 [some (.ref 1000000), some (.ref 0), some (.ref 145), some (.int (nI i))] [] w 160 8334 := by
  refine z_aload_1 d_Law_661 ?_
  refine z_aload_0 d_Law_662 ?_
  refine z_iload_3 d_Law_663 ?_
  refine z_iconst (a := nI 1) d_Law_664 (by decide) ?_
  refine z_iaddN d_Law_665 ?_
  refine z_sld d_Law_666 (vp_in_nI (by omega) (by omega)) ?_
  refine z_Vi1 d_Law_667 k_Law_71 (zInv_0 h) (L_worth h) ⟨Nat.le_of_ble_eq_true rfl, Nat.le_of_ble_eq_true rfl, Nat.le_of_ble_eq_true rfl, Nat.le_of_ble_eq_true rfl⟩ (Nat.le_of_ble_eq_true rfl) ?_
  rintro r w1 ⟨e1, hq⟩
  have s1 : w1.2.2.2[145]? = some (12, 47) := by rw [e1]; exact zInv_m h
  refine z_aload_2 d_Law_670 ?_
  refine z_aload_0 d_Law_671 ?_
  refine z_iload_3 d_Law_672 ?_
  refine z_iconst (a := nI 1) d_Law_673 (by decide) ?_
  refine z_iaddN d_Law_674 ?_
  refine z_sld d_Law_675 (vp_in_nI (by omega) (by omega)) ?_
  refine z_Vi1 d_Law_676 k_Law_74 s1 hq ⟨Nat.le_of_ble_eq_true rfl, Nat.le_of_ble_eq_true rfl, Nat.le_of_ble_eq_true rfl, Nat.le_of_ble_eq_true rfl⟩ (Nat.le_of_ble_eq_true rfl) ?_
  rintro r' w2 ⟨rfl, h2⟩
  refine z_icmp_eq (tgt := 1780) d_Law_679 (by decide) (fun _ => ?_) (fun h => absurd rfl h)
  exact K _ h2
theorem law_13 (h : zInv n w) (hn : n ≤ 600) (hi : i + 6 ≤ G.2.2.2.2.1) (hL : G.2.2.2.2.1 ≤ 3072) (K : ∀ w2, zInv (n + 1) w2 → zA G x code 4 ret room_1 (lw_Y G) 1780 [some (.ref 1000000), some (.ref 0), some (.ref 145), some (.int (nI i))] [] w2 160 8334) : zA G x code 4 ret room_1 (lw_Y G) 684 [some (.ref 1000000), some (.ref 0), some (.ref 145), some (.int (nI i))] [] w 160 8334 := by
  refine z_aload_1 d_Law_684 ?_
  refine z_aload_0 d_Law_685 ?_
  refine z_iload_3 d_Law_686 ?_
  refine z_iconst (a := nI 1) d_Law_687 (by decide) ?_
  refine z_iaddN d_Law_688 ?_
  refine z_sld d_Law_689 (vp_in_nI (by omega) (by omega)) ?_
  refine z_aload_0 d_Law_690 ?_
  refine z_iload_3 d_Law_691 ?_
  refine z_iconst (a := nI 2) d_Law_692 (by decide) ?_
  refine z_iaddN d_Law_693 ?_
  refine z_sld d_Law_694 (vp_in_nI (by omega) (by omega)) ?_
  refine z_Vi2 d_Law_695 k_Law_75 (zInv_0 h) (L_person h) ⟨Nat.le_of_ble_eq_true rfl, Nat.le_of_ble_eq_true rfl, Nat.le_of_ble_eq_true rfl, Nat.le_of_ble_eq_true rfl⟩ (Nat.le_of_ble_eq_true rfl) ?_
  rintro r w1 ⟨e1, hq⟩
  have s1 : w1.2.2.2[145]? = some (12, 47) := by rw [e1]; exact zInv_m h
  refine z_aload_2 d_Law_698 ?_
  refine z_aload_0 d_Law_699 ?_
  refine z_iload_3 d_Law_700 ?_
  refine z_iconst (a := nI 1) d_Law_701 (by decide) ?_
  refine z_iaddN d_Law_702 ?_
  refine z_sld d_Law_703 (vp_in_nI (by omega) (by omega)) ?_
  refine z_aload_0 d_Law_704 ?_
  refine z_iload_3 d_Law_705 ?_
  refine z_iconst (a := nI 2) d_Law_706 (by decide) ?_
  refine z_iaddN d_Law_707 ?_
  refine z_sld d_Law_708 (vp_in_nI (by omega) (by omega)) ?_
  refine z_Vi2 d_Law_709 k_Law_79 s1 hq ⟨Nat.le_of_ble_eq_true rfl, Nat.le_of_ble_eq_true rfl, Nat.le_of_ble_eq_true rfl, Nat.le_of_ble_eq_true rfl⟩ (Nat.le_of_ble_eq_true rfl) ?_
  rintro r' w2 ⟨rfl, h2⟩
  refine z_icmp_eq (tgt := 1780) d_Law_712 (by decide) (fun _ => ?_) (fun h => absurd rfl h)
  exact K _ h2
theorem law_14 (h : zInv n w) (hn : n ≤ 600) (hi : i + 6 ≤ G.2.2.2.2.1) (hL : G.2.2.2.2.1 ≤ 3072) (K : ∀ w2, zInv (n + 1) w2 → zA G x code 4 ret room_1 (lw_Y G) 1780 [some (.ref 1000000), some (.ref 0), some (.ref 145), some (.int (nI i))] [] w2 160 8334) : zA G x code 4 ret room_1 (lw_Y G) 717 [some (.ref 1000000), some (.ref 0), some (.ref 145), some (.int (nI i))] [] w 160 8334 := by
  refine z_aload_1 d_Law_717 ?_
  refine z_aload_0 d_Law_718 ?_
  refine z_iload_3 d_Law_719 ?_
  refine z_iconst (a := nI 1) d_Law_720 (by decide) ?_
  refine z_iaddN d_Law_721 ?_
  refine z_sld d_Law_722 (vp_in_nI (by omega) (by omega)) ?_
  refine z_aload_0 d_Law_723 ?_
  refine z_iload_3 d_Law_724 ?_
  refine z_iconst (a := nI 2) d_Law_725 (by decide) ?_
  refine z_iaddN d_Law_726 ?_
  refine z_sld d_Law_727 (vp_in_nI (by omega) (by omega)) ?_
  refine z_Vi2 d_Law_728 k_Law_80 (zInv_0 h) (L_tin h) ⟨Nat.le_of_ble_eq_true rfl, Nat.le_of_ble_eq_true rfl, Nat.le_of_ble_eq_true rfl, Nat.le_of_ble_eq_true rfl⟩ (Nat.le_of_ble_eq_true rfl) ?_
  rintro r w1 ⟨e1, hq⟩
  have s1 : w1.2.2.2[145]? = some (12, 47) := by rw [e1]; exact zInv_m h
  refine z_aload_2 d_Law_731 ?_
  refine z_aload_0 d_Law_732 ?_
  refine z_iload_3 d_Law_733 ?_
  refine z_iconst (a := nI 1) d_Law_734 (by decide) ?_
  refine z_iaddN d_Law_735 ?_
  refine z_sld d_Law_736 (vp_in_nI (by omega) (by omega)) ?_
  refine z_aload_0 d_Law_737 ?_
  refine z_iload_3 d_Law_738 ?_
  refine z_iconst (a := nI 2) d_Law_739 (by decide) ?_
  refine z_iaddN d_Law_740 ?_
  refine z_sld d_Law_741 (vp_in_nI (by omega) (by omega)) ?_
  refine z_Vi2 d_Law_742 k_Law_83 s1 hq ⟨Nat.le_of_ble_eq_true rfl, Nat.le_of_ble_eq_true rfl, Nat.le_of_ble_eq_true rfl, Nat.le_of_ble_eq_true rfl⟩ (Nat.le_of_ble_eq_true rfl) ?_
  rintro r' w2 ⟨rfl, h2⟩
  refine z_icmp_eq (tgt := 1780) d_Law_745 (by decide) (fun _ => ?_) (fun h => absurd rfl h)
  exact K _ h2
theorem law_15 (h : zInv n w) (hn : n ≤ 600) (hi : i + 6 ≤ G.2.2.2.2.1) (hL : G.2.2.2.2.1 ≤ 3072) (K : ∀ w2, zInv (n + 1) w2 → zA G x code 4 ret room_1 (lw_Y G) 1780 [some (.ref 1000000), some (.ref 0), some (.ref 145), some (.int (nI i))] [] w2 160 8334) : zA G x code 4 ret room_1 (lw_Y G) 750 [some (.ref 1000000), some (.ref 0), some (.ref 145), some (.int (nI i))] [] w 160 8334 := by
  refine z_aload_1 d_Law_750 ?_
  refine z_aload_0 d_Law_751 ?_
  refine z_iload_3 d_Law_752 ?_
  refine z_iconst (a := nI 1) d_Law_753 (by decide) ?_
  refine z_iaddN d_Law_754 ?_
  refine z_sld d_Law_755 (vp_in_nI (by omega) (by omega)) ?_
  refine z_Vi1 d_Law_756 k_Law_84 (zInv_0 h) (L_copyGot h) ⟨Nat.le_of_ble_eq_true rfl, Nat.le_of_ble_eq_true rfl, Nat.le_of_ble_eq_true rfl, Nat.le_of_ble_eq_true rfl⟩ (Nat.le_of_ble_eq_true rfl) ?_
  rintro r w1 ⟨e1, hq⟩
  have s1 : w1.2.2.2[145]? = some (12, 47) := by rw [e1]; exact zInv_m h
  refine z_aload_2 d_Law_759 ?_
  refine z_aload_0 d_Law_760 ?_
  refine z_iload_3 d_Law_761 ?_
  refine z_iconst (a := nI 1) d_Law_762 (by decide) ?_
  refine z_iaddN d_Law_763 ?_
  refine z_sld d_Law_764 (vp_in_nI (by omega) (by omega)) ?_
  refine z_Vi1 d_Law_765 k_Law_87 s1 hq ⟨Nat.le_of_ble_eq_true rfl, Nat.le_of_ble_eq_true rfl, Nat.le_of_ble_eq_true rfl, Nat.le_of_ble_eq_true rfl⟩ (Nat.le_of_ble_eq_true rfl) ?_
  rintro r' w2 ⟨rfl, h2⟩
  refine z_icmp_eq (tgt := 1780) d_Law_768 (by decide) (fun _ => ?_) (fun h => absurd rfl h)
  exact K _ h2
theorem law_16 (h : zInv n w) (hn : n ≤ 600) (hi : i + 6 ≤ G.2.2.2.2.1) (hL : G.2.2.2.2.1 ≤ 3072) (K : ∀ w2, zInv (n + 1) w2 → zA G x code 4 ret room_1 (lw_Y G) 1780 [some (.ref 1000000), some (.ref 0), some (.ref 145), some (.int (nI i))] [] w2 160 8334) : zA G x code 4 ret room_1 (lw_Y G) 773 [some (.ref 1000000), some (.ref 0), some (.ref 145), some (.int (nI i))] [] w 160 8334 := by
  refine z_aload_1 d_Law_773 ?_
  refine z_aload_0 d_Law_774 ?_
  refine z_iload_3 d_Law_775 ?_
  refine z_iconst (a := nI 1) d_Law_776 (by decide) ?_
  refine z_iaddN d_Law_777 ?_
  refine z_sld d_Law_778 (vp_in_nI (by omega) (by omega)) ?_
  refine z_aload_0 d_Law_779 ?_
  refine z_iload_3 d_Law_780 ?_
  refine z_iconst (a := nI 2) d_Law_781 (by decide) ?_
  refine z_iaddN d_Law_782 ?_
  refine z_sld d_Law_783 (vp_in_nI (by omega) (by omega)) ?_
  refine z_Vi2 d_Law_784 k_Law_88 (zInv_0 h) (L_pass h) ⟨Nat.le_of_ble_eq_true rfl, Nat.le_of_ble_eq_true rfl, Nat.le_of_ble_eq_true rfl, Nat.le_of_ble_eq_true rfl⟩ (Nat.le_of_ble_eq_true rfl) ?_
  rintro r w1 ⟨e1, hq⟩
  have s1 : w1.2.2.2[145]? = some (12, 47) := by rw [e1]; exact zInv_m h
  refine z_aload_2 d_Law_787 ?_
  refine z_aload_0 d_Law_788 ?_
  refine z_iload_3 d_Law_789 ?_
  refine z_iconst (a := nI 1) d_Law_790 (by decide) ?_
  refine z_iaddN d_Law_791 ?_
  refine z_sld d_Law_792 (vp_in_nI (by omega) (by omega)) ?_
  refine z_aload_0 d_Law_793 ?_
  refine z_iload_3 d_Law_794 ?_
  refine z_iconst (a := nI 2) d_Law_795 (by decide) ?_
  refine z_iaddN d_Law_796 ?_
  refine z_sld d_Law_797 (vp_in_nI (by omega) (by omega)) ?_
  refine z_Vi2 d_Law_798 k_Law_91 s1 hq ⟨Nat.le_of_ble_eq_true rfl, Nat.le_of_ble_eq_true rfl, Nat.le_of_ble_eq_true rfl, Nat.le_of_ble_eq_true rfl⟩ (Nat.le_of_ble_eq_true rfl) ?_
  rintro r' w2 ⟨rfl, h2⟩
  refine z_icmp_eq (tgt := 1780) d_Law_801 (by decide) (fun _ => ?_) (fun h => absurd rfl h)
  exact K _ h2
theorem law_17 (h : zInv n w) (hn : n ≤ 600) (hi : i + 6 ≤ G.2.2.2.2.1) (hL : G.2.2.2.2.1 ≤ 3072) (K : ∀ w2, zInv (n + 1) w2 → zA G x code 4 ret room_1 (lw_Y G) 1780 [some (.ref 1000000), some (.ref 0), some (.ref 145), some (.int (nI i))] [] w2 160 8334) : zA G x code 4 ret room_1 (lw_Y G) 806 [some (.ref 1000000), some (.ref 0), some (.ref 145), some (.int (nI i))] [] w 160 8334 := by
  refine z_aload_1 d_Law_806 ?_
  refine z_aload_0 d_Law_807 ?_
  refine z_iload_3 d_Law_808 ?_
  refine z_iconst (a := nI 1) d_Law_809 (by decide) ?_
  refine z_iaddN d_Law_810 ?_
  refine z_sld d_Law_811 (vp_in_nI (by omega) (by omega)) ?_
  refine z_Vi1 d_Law_812 k_Law_92 (zInv_0 h) (L_bite h) ⟨Nat.le_of_ble_eq_true rfl, Nat.le_of_ble_eq_true rfl, Nat.le_of_ble_eq_true rfl, Nat.le_of_ble_eq_true rfl⟩ (Nat.le_of_ble_eq_true rfl) ?_
  rintro r w1 ⟨e1, hq⟩
  have s1 : w1.2.2.2[145]? = some (12, 47) := by rw [e1]; exact zInv_m h
  refine z_aload_2 d_Law_815 ?_
  refine z_aload_0 d_Law_816 ?_
  refine z_iload_3 d_Law_817 ?_
  refine z_iconst (a := nI 1) d_Law_818 (by decide) ?_
  refine z_iaddN d_Law_819 ?_
  refine z_sld d_Law_820 (vp_in_nI (by omega) (by omega)) ?_
  refine z_Vi1 d_Law_821 k_Law_95 s1 hq ⟨Nat.le_of_ble_eq_true rfl, Nat.le_of_ble_eq_true rfl, Nat.le_of_ble_eq_true rfl, Nat.le_of_ble_eq_true rfl⟩ (Nat.le_of_ble_eq_true rfl) ?_
  rintro r' w2 ⟨rfl, h2⟩
  refine z_icmp_eq (tgt := 1780) d_Law_824 (by decide) (fun _ => ?_) (fun h => absurd rfl h)
  exact K _ h2
theorem law_18 (h : zInv n w) (hn : n ≤ 600) (hi : i + 6 ≤ G.2.2.2.2.1) (hL : G.2.2.2.2.1 ≤ 3072) (K : ∀ w2, zInv (n + 1) w2 → zA G x code 4 ret room_1 (lw_Y G) 1780 [some (.ref 1000000), some (.ref 0), some (.ref 145), some (.int (nI i))] [] w2 160 8334) : zA G x code 4 ret room_1 (lw_Y G) 829 [some (.ref 1000000), some (.ref 0), some (.ref 145), some (.int (nI i))] [] w 160 8334 := by
  refine z_aload_1 d_Law_829 ?_
  refine z_aload_0 d_Law_830 ?_
  refine z_iload_3 d_Law_831 ?_
  refine z_iconst (a := nI 1) d_Law_832 (by decide) ?_
  refine z_iaddN d_Law_833 ?_
  refine z_sld d_Law_834 (vp_in_nI (by omega) (by omega)) ?_
  refine z_aload_0 d_Law_835 ?_
  refine z_iload_3 d_Law_836 ?_
  refine z_iconst (a := nI 2) d_Law_837 (by decide) ?_
  refine z_iaddN d_Law_838 ?_
  refine z_sld d_Law_839 (vp_in_nI (by omega) (by omega)) ?_
  refine z_Vi2 d_Law_840 k_Law_96 (zInv_0 h) (L_recite h) ⟨Nat.le_of_ble_eq_true rfl, Nat.le_of_ble_eq_true rfl, Nat.le_of_ble_eq_true rfl, Nat.le_of_ble_eq_true rfl⟩ (Nat.le_of_ble_eq_true rfl) ?_
  rintro r w1 ⟨e1, hq⟩
  have s1 : w1.2.2.2[145]? = some (12, 47) := by rw [e1]; exact zInv_m h
  refine z_aload_2 d_Law_843 ?_
  refine z_aload_0 d_Law_844 ?_
  refine z_iload_3 d_Law_845 ?_
  refine z_iconst (a := nI 1) d_Law_846 (by decide) ?_
  refine z_iaddN d_Law_847 ?_
  refine z_sld d_Law_848 (vp_in_nI (by omega) (by omega)) ?_
  refine z_aload_0 d_Law_849 ?_
  refine z_iload_3 d_Law_850 ?_
  refine z_iconst (a := nI 2) d_Law_851 (by decide) ?_
  refine z_iaddN d_Law_852 ?_
  refine z_sld d_Law_853 (vp_in_nI (by omega) (by omega)) ?_
  refine z_Vi2 d_Law_854 k_Law_100 s1 hq ⟨Nat.le_of_ble_eq_true rfl, Nat.le_of_ble_eq_true rfl, Nat.le_of_ble_eq_true rfl, Nat.le_of_ble_eq_true rfl⟩ (Nat.le_of_ble_eq_true rfl) ?_
  rintro r' w2 ⟨rfl, h2⟩
  refine z_icmp_eq (tgt := 1780) d_Law_857 (by decide) (fun _ => ?_) (fun h => absurd rfl h)
  exact K _ h2
theorem law_19 (h : zInv n w) (hn : n ≤ 600) (hi : i + 6 ≤ G.2.2.2.2.1) (hL : G.2.2.2.2.1 ≤ 3072) (K : ∀ w2, zInv (n + 1) w2 → zA G x code 4 ret room_1 (lw_Y G) 1780 [some (.ref 1000000), some (.ref 0), some (.ref 145), some (.int (nI i))] [] w2 160 8334) : zA G x code 4 ret room_1 (lw_Y G) 862 [some (.ref 1000000), some (.ref 0), some (.ref 145), some (.int (nI i))] [] w 160 8334 := by
  refine z_aload_1 d_Law_862 ?_
  refine z_aload_0 d_Law_863 ?_
  refine z_iload_3 d_Law_864 ?_
  refine z_iconst (a := nI 1) d_Law_865 (by decide) ?_
  refine z_iaddN d_Law_866 ?_
  refine z_sld d_Law_867 (vp_in_nI (by omega) (by omega)) ?_
  refine z_Vi1 d_Law_868 k_Law_101 (zInv_0 h) (L_drop h) ⟨Nat.le_of_ble_eq_true rfl, Nat.le_of_ble_eq_true rfl, Nat.le_of_ble_eq_true rfl, Nat.le_of_ble_eq_true rfl⟩ (Nat.le_of_ble_eq_true rfl) ?_
  rintro r w1 ⟨e1, hq⟩
  have s1 : w1.2.2.2[145]? = some (12, 47) := by rw [e1]; exact zInv_m h
  refine z_aload_2 d_Law_871 ?_
  refine z_aload_0 d_Law_872 ?_
  refine z_iload_3 d_Law_873 ?_
  refine z_iconst (a := nI 1) d_Law_874 (by decide) ?_
  refine z_iaddN d_Law_875 ?_
  refine z_sld d_Law_876 (vp_in_nI (by omega) (by omega)) ?_
  refine z_Vi1 d_Law_877 k_Law_104 s1 hq ⟨Nat.le_of_ble_eq_true rfl, Nat.le_of_ble_eq_true rfl, Nat.le_of_ble_eq_true rfl, Nat.le_of_ble_eq_true rfl⟩ (Nat.le_of_ble_eq_true rfl) ?_
  rintro r' w2 ⟨rfl, h2⟩
  refine z_icmp_eq (tgt := 1780) d_Law_880 (by decide) (fun _ => ?_) (fun h => absurd rfl h)
  exact K _ h2
theorem law_20 (h : zInv n w) (hn : n ≤ 600) (hi : i + 6 ≤ G.2.2.2.2.1) (hL : G.2.2.2.2.1 ≤ 3072) (K : ∀ w2, zInv (n + 1) w2 → zA G x code 4 ret room_1 (lw_Y G) 1780 [some (.ref 1000000), some (.ref 0), some (.ref 145), some (.int (nI i))] [] w2 160 8334) : zA G x code 4 ret room_1 (lw_Y G) 885 [some (.ref 1000000), some (.ref 0), some (.ref 145), some (.int (nI i))] [] w 160 8334 := by
  by_cases hv : G.2.2.2.2.2.1 (nI (i + 3)).toNatClampNeg = 0
  · refine z_aload_1 d_Law_885 ?_
    refine z_aload_0 d_Law_886 ?_
    refine z_iload_3 d_Law_887 ?_
    refine z_iconst (a := nI 1) d_Law_888 (by decide) ?_
    refine z_iaddN d_Law_889 ?_
    refine z_sld d_Law_890 (vp_in_nI (by omega) (by omega)) ?_
    refine z_aload_0 d_Law_891 ?_
    refine z_iload_3 d_Law_892 ?_
    refine z_iconst (a := nI 2) d_Law_893 (by decide) ?_
    refine z_iaddN d_Law_894 ?_
    refine z_sld d_Law_895 (vp_in_nI (by omega) (by omega)) ?_
    refine z_aload_0 d_Law_896 ?_
    refine z_iload_3 d_Law_897 ?_
    refine z_iconst (a := nI 3) d_Law_898 (by decide) ?_
    refine z_iaddN d_Law_899 ?_
    refine z_sld d_Law_900 (vp_in_nI (by omega) (by omega)) ?_
    refine z_if_eq (tgt := 908) d_Law_901 (by decide) (fun _ => ?_) (fun h => absurd hv h)
    refine z_iconst (a := nI 0) d_Law_908 (by decide) ?_
    refine z_Vi3 d_Law_909 k_Law_105 (zInv_0 h) (L_strike (j := 0) h (Or.inl rfl)) ⟨Nat.le_of_ble_eq_true rfl, Nat.le_of_ble_eq_true rfl, Nat.le_of_ble_eq_true rfl, Nat.le_of_ble_eq_true rfl⟩ (Nat.le_of_ble_eq_true rfl) ?_
    rintro r w1 ⟨e1, hq⟩
    have s1 : w1.2.2.2[145]? = some (12, 47) := by rw [e1]; exact zInv_m h
    refine z_aload_2 d_Law_912 ?_
    refine z_aload_0 d_Law_913 ?_
    refine z_iload_3 d_Law_914 ?_
    refine z_iconst (a := nI 1) d_Law_915 (by decide) ?_
    refine z_iaddN d_Law_916 ?_
    refine z_sld d_Law_917 (vp_in_nI (by omega) (by omega)) ?_
    refine z_aload_0 d_Law_918 ?_
    refine z_iload_3 d_Law_919 ?_
    refine z_iconst (a := nI 2) d_Law_920 (by decide) ?_
    refine z_iaddN d_Law_921 ?_
    refine z_sld d_Law_922 (vp_in_nI (by omega) (by omega)) ?_
    refine z_aload_0 d_Law_923 ?_
    refine z_iload_3 d_Law_924 ?_
    refine z_iconst (a := nI 3) d_Law_925 (by decide) ?_
    refine z_iaddN d_Law_926 ?_
    refine z_sld d_Law_927 (vp_in_nI (by omega) (by omega)) ?_
    refine z_if_eq (tgt := 935) d_Law_928 (by decide) (fun _ => ?_) (fun h => absurd hv h)
    refine z_iconst (a := nI 0) d_Law_935 (by decide) ?_
    refine z_Vi3 d_Law_936 k_Law_109 s1 hq ⟨Nat.le_of_ble_eq_true rfl, Nat.le_of_ble_eq_true rfl, Nat.le_of_ble_eq_true rfl, Nat.le_of_ble_eq_true rfl⟩ (Nat.le_of_ble_eq_true rfl) ?_
    rintro r' w2 ⟨rfl, h2⟩
    refine z_icmp_eq (tgt := 1780) d_Law_939 (by decide) (fun _ => ?_) (fun h => absurd rfl h)
    exact K _ h2
  · refine z_aload_1 d_Law_885 ?_
    refine z_aload_0 d_Law_886 ?_
    refine z_iload_3 d_Law_887 ?_
    refine z_iconst (a := nI 1) d_Law_888 (by decide) ?_
    refine z_iaddN d_Law_889 ?_
    refine z_sld d_Law_890 (vp_in_nI (by omega) (by omega)) ?_
    refine z_aload_0 d_Law_891 ?_
    refine z_iload_3 d_Law_892 ?_
    refine z_iconst (a := nI 2) d_Law_893 (by decide) ?_
    refine z_iaddN d_Law_894 ?_
    refine z_sld d_Law_895 (vp_in_nI (by omega) (by omega)) ?_
    refine z_aload_0 d_Law_896 ?_
    refine z_iload_3 d_Law_897 ?_
    refine z_iconst (a := nI 3) d_Law_898 (by decide) ?_
    refine z_iaddN d_Law_899 ?_
    refine z_sld d_Law_900 (vp_in_nI (by omega) (by omega)) ?_
    refine z_if_eq (tgt := 908) d_Law_901 (by decide) (fun h => absurd h hv) (fun _ => ?_)
    refine z_iconst (a := nI 1) d_Law_904 (by decide) ?_
    refine z_goto (tgt := 909) d_Law_905 (by decide) ?_
    refine z_Vi3 d_Law_909 k_Law_105 (zInv_0 h) (L_strike (j := 1) h (Or.inr rfl)) ⟨Nat.le_of_ble_eq_true rfl, Nat.le_of_ble_eq_true rfl, Nat.le_of_ble_eq_true rfl, Nat.le_of_ble_eq_true rfl⟩ (Nat.le_of_ble_eq_true rfl) ?_
    rintro r w1 ⟨e1, hq⟩
    have s1 : w1.2.2.2[145]? = some (12, 47) := by rw [e1]; exact zInv_m h
    refine z_aload_2 d_Law_912 ?_
    refine z_aload_0 d_Law_913 ?_
    refine z_iload_3 d_Law_914 ?_
    refine z_iconst (a := nI 1) d_Law_915 (by decide) ?_
    refine z_iaddN d_Law_916 ?_
    refine z_sld d_Law_917 (vp_in_nI (by omega) (by omega)) ?_
    refine z_aload_0 d_Law_918 ?_
    refine z_iload_3 d_Law_919 ?_
    refine z_iconst (a := nI 2) d_Law_920 (by decide) ?_
    refine z_iaddN d_Law_921 ?_
    refine z_sld d_Law_922 (vp_in_nI (by omega) (by omega)) ?_
    refine z_aload_0 d_Law_923 ?_
    refine z_iload_3 d_Law_924 ?_
    refine z_iconst (a := nI 3) d_Law_925 (by decide) ?_
    refine z_iaddN d_Law_926 ?_
    refine z_sld d_Law_927 (vp_in_nI (by omega) (by omega)) ?_
    refine z_if_eq (tgt := 935) d_Law_928 (by decide) (fun h => absurd h hv) (fun _ => ?_)
    refine z_iconst (a := nI 1) d_Law_931 (by decide) ?_
    refine z_goto (tgt := 936) d_Law_932 (by decide) ?_
    refine z_Vi3 d_Law_936 k_Law_109 s1 hq ⟨Nat.le_of_ble_eq_true rfl, Nat.le_of_ble_eq_true rfl, Nat.le_of_ble_eq_true rfl, Nat.le_of_ble_eq_true rfl⟩ (Nat.le_of_ble_eq_true rfl) ?_
    rintro r' w2 ⟨rfl, h2⟩
    refine z_icmp_eq (tgt := 1780) d_Law_939 (by decide) (fun _ => ?_) (fun h => absurd rfl h)
    exact K _ h2
theorem law_21 (h : zInv n w) (hn : n ≤ 600) (hi : i + 6 ≤ G.2.2.2.2.1) (hL : G.2.2.2.2.1 ≤ 3072) (K : ∀ w2, zInv (n + 1) w2 → zA G x code 4 ret room_1 (lw_Y G) 1780 [some (.ref 1000000), some (.ref 0), some (.ref 145), some (.int (nI i))] [] w2 160 8334) : zA G x code 4 ret room_1 (lw_Y G) 944 [some (.ref 1000000), some (.ref 0), some (.ref 145), some (.int (nI i))] [] w 160 8334 := by
  by_cases hv : G.2.2.2.2.2.1 (nI (i + 3)).toNatClampNeg = 0
  · refine z_aload_1 d_Law_944 ?_
    refine z_aload_0 d_Law_945 ?_
    refine z_iload_3 d_Law_946 ?_
    refine z_iconst (a := nI 1) d_Law_947 (by decide) ?_
    refine z_iaddN d_Law_948 ?_
    refine z_sld d_Law_949 (vp_in_nI (by omega) (by omega)) ?_
    refine z_aload_0 d_Law_950 ?_
    refine z_iload_3 d_Law_951 ?_
    refine z_iconst (a := nI 2) d_Law_952 (by decide) ?_
    refine z_iaddN d_Law_953 ?_
    refine z_sld d_Law_954 (vp_in_nI (by omega) (by omega)) ?_
    refine z_aload_0 d_Law_955 ?_
    refine z_iload_3 d_Law_956 ?_
    refine z_iconst (a := nI 3) d_Law_957 (by decide) ?_
    refine z_iaddN d_Law_958 ?_
    refine z_sld d_Law_959 (vp_in_nI (by omega) (by omega)) ?_
    refine z_if_eq (tgt := 967) d_Law_960 (by decide) (fun _ => ?_) (fun h => absurd hv h)
    refine z_iconst (a := nI 0) d_Law_967 (by decide) ?_
    refine z_Vi3 d_Law_968 k_Law_110 (zInv_0 h) (L_teach (j := 0) h (Or.inl rfl)) ⟨Nat.le_of_ble_eq_true rfl, Nat.le_of_ble_eq_true rfl, Nat.le_of_ble_eq_true rfl, Nat.le_of_ble_eq_true rfl⟩ (Nat.le_of_ble_eq_true rfl) ?_
    rintro r w1 ⟨e1, hq⟩
    have s1 : w1.2.2.2[145]? = some (12, 47) := by rw [e1]; exact zInv_m h
    refine z_aload_2 d_Law_971 ?_
    refine z_aload_0 d_Law_972 ?_
    refine z_iload_3 d_Law_973 ?_
    refine z_iconst (a := nI 1) d_Law_974 (by decide) ?_
    refine z_iaddN d_Law_975 ?_
    refine z_sld d_Law_976 (vp_in_nI (by omega) (by omega)) ?_
    refine z_aload_0 d_Law_977 ?_
    refine z_iload_3 d_Law_978 ?_
    refine z_iconst (a := nI 2) d_Law_979 (by decide) ?_
    refine z_iaddN d_Law_980 ?_
    refine z_sld d_Law_981 (vp_in_nI (by omega) (by omega)) ?_
    refine z_aload_0 d_Law_982 ?_
    refine z_iload_3 d_Law_983 ?_
    refine z_iconst (a := nI 3) d_Law_984 (by decide) ?_
    refine z_iaddN d_Law_985 ?_
    refine z_sld d_Law_986 (vp_in_nI (by omega) (by omega)) ?_
    refine z_if_eq (tgt := 994) d_Law_987 (by decide) (fun _ => ?_) (fun h => absurd hv h)
    refine z_iconst (a := nI 0) d_Law_994 (by decide) ?_
    refine z_Vi3 d_Law_995 k_Law_114 s1 hq ⟨Nat.le_of_ble_eq_true rfl, Nat.le_of_ble_eq_true rfl, Nat.le_of_ble_eq_true rfl, Nat.le_of_ble_eq_true rfl⟩ (Nat.le_of_ble_eq_true rfl) ?_
    rintro r' w2 ⟨rfl, h2⟩
    refine z_icmp_eq (tgt := 1780) d_Law_998 (by decide) (fun _ => ?_) (fun h => absurd rfl h)
    exact K _ h2
  · refine z_aload_1 d_Law_944 ?_
    refine z_aload_0 d_Law_945 ?_
    refine z_iload_3 d_Law_946 ?_
    refine z_iconst (a := nI 1) d_Law_947 (by decide) ?_
    refine z_iaddN d_Law_948 ?_
    refine z_sld d_Law_949 (vp_in_nI (by omega) (by omega)) ?_
    refine z_aload_0 d_Law_950 ?_
    refine z_iload_3 d_Law_951 ?_
    refine z_iconst (a := nI 2) d_Law_952 (by decide) ?_
    refine z_iaddN d_Law_953 ?_
    refine z_sld d_Law_954 (vp_in_nI (by omega) (by omega)) ?_
    refine z_aload_0 d_Law_955 ?_
    refine z_iload_3 d_Law_956 ?_
    refine z_iconst (a := nI 3) d_Law_957 (by decide) ?_
    refine z_iaddN d_Law_958 ?_
    refine z_sld d_Law_959 (vp_in_nI (by omega) (by omega)) ?_
    refine z_if_eq (tgt := 967) d_Law_960 (by decide) (fun h => absurd h hv) (fun _ => ?_)
    refine z_iconst (a := nI 1) d_Law_963 (by decide) ?_
    refine z_goto (tgt := 968) d_Law_964 (by decide) ?_
    refine z_Vi3 d_Law_968 k_Law_110 (zInv_0 h) (L_teach (j := 1) h (Or.inr rfl)) ⟨Nat.le_of_ble_eq_true rfl, Nat.le_of_ble_eq_true rfl, Nat.le_of_ble_eq_true rfl, Nat.le_of_ble_eq_true rfl⟩ (Nat.le_of_ble_eq_true rfl) ?_
    rintro r w1 ⟨e1, hq⟩
    have s1 : w1.2.2.2[145]? = some (12, 47) := by rw [e1]; exact zInv_m h
    refine z_aload_2 d_Law_971 ?_
    refine z_aload_0 d_Law_972 ?_
    refine z_iload_3 d_Law_973 ?_
    refine z_iconst (a := nI 1) d_Law_974 (by decide) ?_
    refine z_iaddN d_Law_975 ?_
    refine z_sld d_Law_976 (vp_in_nI (by omega) (by omega)) ?_
    refine z_aload_0 d_Law_977 ?_
    refine z_iload_3 d_Law_978 ?_
    refine z_iconst (a := nI 2) d_Law_979 (by decide) ?_
    refine z_iaddN d_Law_980 ?_
    refine z_sld d_Law_981 (vp_in_nI (by omega) (by omega)) ?_
    refine z_aload_0 d_Law_982 ?_
    refine z_iload_3 d_Law_983 ?_
    refine z_iconst (a := nI 3) d_Law_984 (by decide) ?_
    refine z_iaddN d_Law_985 ?_
    refine z_sld d_Law_986 (vp_in_nI (by omega) (by omega)) ?_
    refine z_if_eq (tgt := 994) d_Law_987 (by decide) (fun h => absurd h hv) (fun _ => ?_)
    refine z_iconst (a := nI 1) d_Law_990 (by decide) ?_
    refine z_goto (tgt := 995) d_Law_991 (by decide) ?_
    refine z_Vi3 d_Law_995 k_Law_114 s1 hq ⟨Nat.le_of_ble_eq_true rfl, Nat.le_of_ble_eq_true rfl, Nat.le_of_ble_eq_true rfl, Nat.le_of_ble_eq_true rfl⟩ (Nat.le_of_ble_eq_true rfl) ?_
    rintro r' w2 ⟨rfl, h2⟩
    refine z_icmp_eq (tgt := 1780) d_Law_998 (by decide) (fun _ => ?_) (fun h => absurd rfl h)
    exact K _ h2
theorem law_22 (h : zInv n w) (hn : n ≤ 600) (hi : i + 6 ≤ G.2.2.2.2.1) (hL : G.2.2.2.2.1 ≤ 3072) (K : ∀ w2, zInv (n + 1) w2 → zA G x code 4 ret room_1 (lw_Y G) 1780 [some (.ref 1000000), some (.ref 0), some (.ref 145), some (.int (nI i))] [] w2 160 8334) : zA G x code 4 ret room_1 (lw_Y G) 1003 [some (.ref 1000000), some (.ref 0), some (.ref 145), some (.int (nI i))] [] w 160 8334 := by
  refine z_aload_1 d_Law_1003 ?_
  refine z_aload_0 d_Law_1004 ?_
  refine z_iload_3 d_Law_1005 ?_
  refine z_iconst (a := nI 1) d_Law_1006 (by decide) ?_
  refine z_iaddN d_Law_1007 ?_
  refine z_sld d_Law_1008 (vp_in_nI (by omega) (by omega)) ?_
  refine z_aload_0 d_Law_1009 ?_
  refine z_iload_3 d_Law_1010 ?_
  refine z_iconst (a := nI 2) d_Law_1011 (by decide) ?_
  refine z_iaddN d_Law_1012 ?_
  refine z_sld d_Law_1013 (vp_in_nI (by omega) (by omega)) ?_
  refine z_Vi2 d_Law_1014 k_Law_115 (zInv_0 h) (L_lane h) ⟨Nat.le_of_ble_eq_true rfl, Nat.le_of_ble_eq_true rfl, Nat.le_of_ble_eq_true rfl, Nat.le_of_ble_eq_true rfl⟩ (Nat.le_of_ble_eq_true rfl) ?_
  rintro r w1 ⟨e1, hq⟩
  have s1 : w1.2.2.2[145]? = some (12, 47) := by rw [e1]; exact zInv_m h
  refine z_aload_2 d_Law_1017 ?_
  refine z_aload_0 d_Law_1018 ?_
  refine z_iload_3 d_Law_1019 ?_
  refine z_iconst (a := nI 1) d_Law_1020 (by decide) ?_
  refine z_iaddN d_Law_1021 ?_
  refine z_sld d_Law_1022 (vp_in_nI (by omega) (by omega)) ?_
  refine z_aload_0 d_Law_1023 ?_
  refine z_iload_3 d_Law_1024 ?_
  refine z_iconst (a := nI 2) d_Law_1025 (by decide) ?_
  refine z_iaddN d_Law_1026 ?_
  refine z_sld d_Law_1027 (vp_in_nI (by omega) (by omega)) ?_
  refine z_Vi2 d_Law_1028 k_Law_118 s1 hq ⟨Nat.le_of_ble_eq_true rfl, Nat.le_of_ble_eq_true rfl, Nat.le_of_ble_eq_true rfl, Nat.le_of_ble_eq_true rfl⟩ (Nat.le_of_ble_eq_true rfl) ?_
  rintro r' w2 ⟨rfl, h2⟩
  refine z_icmp_eq (tgt := 1780) d_Law_1031 (by decide) (fun _ => ?_) (fun h => absurd rfl h)
  exact K _ h2
theorem law_23 (h : zInv n w) (hn : n ≤ 600) (hi : i + 6 ≤ G.2.2.2.2.1) (hL : G.2.2.2.2.1 ≤ 3072) (K : ∀ w2, zInv (n + 1) w2 → zA G x code 4 ret room_1 (lw_Y G) 1780 [some (.ref 1000000), some (.ref 0), some (.ref 145), some (.int (nI i))] [] w2 160 8334) : zA G x code 4 ret room_1 (lw_Y G) 1036 [some (.ref 1000000), some (.ref 0), some (.ref 145), some (.int (nI i))] [] w 160 8334 := by
  refine z_aload_1 d_Law_1036 ?_
  refine z_aload_0 d_Law_1037 ?_
  refine z_iload_3 d_Law_1038 ?_
  refine z_iconst (a := nI 1) d_Law_1039 (by decide) ?_
  refine z_iaddN d_Law_1040 ?_
  refine z_sld d_Law_1041 (vp_in_nI (by omega) (by omega)) ?_
  refine z_aload_0 d_Law_1042 ?_
  refine z_iload_3 d_Law_1043 ?_
  refine z_iconst (a := nI 2) d_Law_1044 (by decide) ?_
  refine z_iaddN d_Law_1045 ?_
  refine z_sld d_Law_1046 (vp_in_nI (by omega) (by omega)) ?_
  refine z_Vi2 d_Law_1047 k_Law_119 (zInv_0 h) (L_price h) ⟨Nat.le_of_ble_eq_true rfl, Nat.le_of_ble_eq_true rfl, Nat.le_of_ble_eq_true rfl, Nat.le_of_ble_eq_true rfl⟩ (Nat.le_of_ble_eq_true rfl) ?_
  rintro r w1 ⟨e1, hq⟩
  have s1 : w1.2.2.2[145]? = some (12, 47) := by rw [e1]; exact zInv_m h
  refine z_aload_2 d_Law_1050 ?_
  refine z_aload_0 d_Law_1051 ?_
  refine z_iload_3 d_Law_1052 ?_
  refine z_iconst (a := nI 1) d_Law_1053 (by decide) ?_
  refine z_iaddN d_Law_1054 ?_
  refine z_sld d_Law_1055 (vp_in_nI (by omega) (by omega)) ?_
  refine z_aload_0 d_Law_1056 ?_
  refine z_iload_3 d_Law_1057 ?_
  refine z_iconst (a := nI 2) d_Law_1058 (by decide) ?_
  refine z_iaddN d_Law_1059 ?_
  refine z_sld d_Law_1060 (vp_in_nI (by omega) (by omega)) ?_
  refine z_Vi2 d_Law_1061 k_Law_122 s1 hq ⟨Nat.le_of_ble_eq_true rfl, Nat.le_of_ble_eq_true rfl, Nat.le_of_ble_eq_true rfl, Nat.le_of_ble_eq_true rfl⟩ (Nat.le_of_ble_eq_true rfl) ?_
  rintro r' w2 ⟨rfl, h2⟩
  refine z_icmp_eq (tgt := 1780) d_Law_1064 (by decide) (fun _ => ?_) (fun h => absurd rfl h)
  exact K _ h2
theorem law_24 (h : zInv n w) (hn : n ≤ 600) (hi : i + 6 ≤ G.2.2.2.2.1) (hL : G.2.2.2.2.1 ≤ 3072) (K : ∀ w2, zInv (n + 1) w2 → zA G x code 4 ret room_1 (lw_Y G) 1780 [some (.ref 1000000), some (.ref 0), some (.ref 145), some (.int (nI i))] [] w2 160 8334) : zA G x code 4 ret room_1 (lw_Y G) 1069 [some (.ref 1000000), some (.ref 0), some (.ref 145), some (.int (nI i))] [] w 160 8334 := by
  refine z_aload_1 d_Law_1069 ?_
  refine z_aload_0 d_Law_1070 ?_
  refine z_iload_3 d_Law_1071 ?_
  refine z_iconst (a := nI 1) d_Law_1072 (by decide) ?_
  refine z_iaddN d_Law_1073 ?_
  refine z_sld d_Law_1074 (vp_in_nI (by omega) (by omega)) ?_
  refine z_Vi1 d_Law_1075 k_Law_123 (zInv_0 h) (L_rule h) ⟨Nat.le_of_ble_eq_true rfl, Nat.le_of_ble_eq_true rfl, Nat.le_of_ble_eq_true rfl, Nat.le_of_ble_eq_true rfl⟩ (Nat.le_of_ble_eq_true rfl) ?_
  rintro r w1 ⟨e1, hq⟩
  have s1 : w1.2.2.2[145]? = some (12, 47) := by rw [e1]; exact zInv_m h
  refine z_aload_2 d_Law_1078 ?_
  refine z_aload_0 d_Law_1079 ?_
  refine z_iload_3 d_Law_1080 ?_
  refine z_iconst (a := nI 1) d_Law_1081 (by decide) ?_
  refine z_iaddN d_Law_1082 ?_
  refine z_sld d_Law_1083 (vp_in_nI (by omega) (by omega)) ?_
  refine z_Vi1 d_Law_1084 k_Law_127 s1 hq ⟨Nat.le_of_ble_eq_true rfl, Nat.le_of_ble_eq_true rfl, Nat.le_of_ble_eq_true rfl, Nat.le_of_ble_eq_true rfl⟩ (Nat.le_of_ble_eq_true rfl) ?_
  rintro r' w2 ⟨rfl, h2⟩
  refine z_icmp_eq (tgt := 1780) d_Law_1087 (by decide) (fun _ => ?_) (fun h => absurd rfl h)
  exact K _ h2
theorem law_25 (h : zInv n w) (hn : n ≤ 600) (hi : i + 6 ≤ G.2.2.2.2.1) (hL : G.2.2.2.2.1 ≤ 3072) (K : ∀ w2, zInv (n + 1) w2 → zA G x code 4 ret room_1 (lw_Y G) 1780 [some (.ref 1000000), some (.ref 0), some (.ref 145), some (.int (nI i))] [] w2 160 8334) : zA G x code 4 ret room_1 (lw_Y G) 1092 [some (.ref 1000000), some (.ref 0), some (.ref 145), some (.int (nI i))] [] w 160 8334 := by
  refine z_aload_1 d_Law_1092 ?_
  refine z_aload_0 d_Law_1093 ?_
  refine z_iload_3 d_Law_1094 ?_
  refine z_iconst (a := nI 1) d_Law_1095 (by decide) ?_
  refine z_iaddN d_Law_1096 ?_
  refine z_sld d_Law_1097 (vp_in_nI (by omega) (by omega)) ?_
  refine z_aload_0 d_Law_1098 ?_
  refine z_iload_3 d_Law_1099 ?_
  refine z_iconst (a := nI 2) d_Law_1100 (by decide) ?_
  refine z_iaddN d_Law_1101 ?_
  refine z_sld d_Law_1102 (vp_in_nI (by omega) (by omega)) ?_
  refine z_Vi2 d_Law_1103 k_Law_128 (zInv_0 h) (L_way h) ⟨Nat.le_of_ble_eq_true rfl, Nat.le_of_ble_eq_true rfl, Nat.le_of_ble_eq_true rfl, Nat.le_of_ble_eq_true rfl⟩ (Nat.le_of_ble_eq_true rfl) ?_
  rintro r w1 ⟨e1, hq⟩
  have s1 : w1.2.2.2[145]? = some (12, 47) := by rw [e1]; exact zInv_m h
  refine z_aload_2 d_Law_1106 ?_
  refine z_aload_0 d_Law_1107 ?_
  refine z_iload_3 d_Law_1108 ?_
  refine z_iconst (a := nI 1) d_Law_1109 (by decide) ?_
  refine z_iaddN d_Law_1110 ?_
  refine z_sld d_Law_1111 (vp_in_nI (by omega) (by omega)) ?_
  refine z_aload_0 d_Law_1112 ?_
  refine z_iload_3 d_Law_1113 ?_
  refine z_iconst (a := nI 2) d_Law_1114 (by decide) ?_
  refine z_iaddN d_Law_1115 ?_
  refine z_sld d_Law_1116 (vp_in_nI (by omega) (by omega)) ?_
  refine z_Vi2 d_Law_1117 k_Law_131 s1 hq ⟨Nat.le_of_ble_eq_true rfl, Nat.le_of_ble_eq_true rfl, Nat.le_of_ble_eq_true rfl, Nat.le_of_ble_eq_true rfl⟩ (Nat.le_of_ble_eq_true rfl) ?_
  rintro r' w2 ⟨rfl, h2⟩
  refine z_icmp_eq (tgt := 1780) d_Law_1120 (by decide) (fun _ => ?_) (fun h => absurd rfl h)
  exact K _ h2
theorem law_26 (h : zInv n w) (hn : n ≤ 600) (hi : i + 6 ≤ G.2.2.2.2.1) (hL : G.2.2.2.2.1 ≤ 3072) (K : ∀ w2, zInv (n + 1) w2 → zA G x code 4 ret room_1 (lw_Y G) 1780 [some (.ref 1000000), some (.ref 0), some (.ref 145), some (.int (nI i))] [] w2 160 8334) : zA G x code 4 ret room_1 (lw_Y G) 1125 [some (.ref 1000000), some (.ref 0), some (.ref 145), some (.int (nI i))] [] w 160 8334 := by
  refine z_aload_1 d_Law_1125 ?_
  refine z_aload_0 d_Law_1126 ?_
  refine z_iload_3 d_Law_1127 ?_
  refine z_iconst (a := nI 1) d_Law_1128 (by decide) ?_
  refine z_iaddN d_Law_1129 ?_
  refine z_sld d_Law_1130 (vp_in_nI (by omega) (by omega)) ?_
  refine z_aload_0 d_Law_1131 ?_
  refine z_iload_3 d_Law_1132 ?_
  refine z_iconst (a := nI 2) d_Law_1133 (by decide) ?_
  refine z_iaddN d_Law_1134 ?_
  refine z_sld d_Law_1135 (vp_in_nI (by omega) (by omega)) ?_
  refine z_aload_0 d_Law_1136 ?_
  refine z_iload_3 d_Law_1137 ?_
  refine z_iconst (a := nI 3) d_Law_1138 (by decide) ?_
  refine z_iaddN d_Law_1139 ?_
  refine z_sld d_Law_1140 (vp_in_nI (by omega) (by omega)) ?_
  refine z_Vi3 d_Law_1141 k_Law_132 (zInv_0 h) (L_wayAt h) ⟨Nat.le_of_ble_eq_true rfl, Nat.le_of_ble_eq_true rfl, Nat.le_of_ble_eq_true rfl, Nat.le_of_ble_eq_true rfl⟩ (Nat.le_of_ble_eq_true rfl) ?_
  rintro r w1 ⟨e1, hq⟩
  have s1 : w1.2.2.2[145]? = some (12, 47) := by rw [e1]; exact zInv_m h
  refine z_aload_2 d_Law_1144 ?_
  refine z_aload_0 d_Law_1145 ?_
  refine z_iload_3 d_Law_1146 ?_
  refine z_iconst (a := nI 1) d_Law_1147 (by decide) ?_
  refine z_iaddN d_Law_1148 ?_
  refine z_sld d_Law_1149 (vp_in_nI (by omega) (by omega)) ?_
  refine z_aload_0 d_Law_1150 ?_
  refine z_iload_3 d_Law_1151 ?_
  refine z_iconst (a := nI 2) d_Law_1152 (by decide) ?_
  refine z_iaddN d_Law_1153 ?_
  refine z_sld d_Law_1154 (vp_in_nI (by omega) (by omega)) ?_
  refine z_aload_0 d_Law_1155 ?_
  refine z_iload_3 d_Law_1156 ?_
  refine z_iconst (a := nI 3) d_Law_1157 (by decide) ?_
  refine z_iaddN d_Law_1158 ?_
  refine z_sld d_Law_1159 (vp_in_nI (by omega) (by omega)) ?_
  refine z_Vi3 d_Law_1160 k_Law_136 s1 hq ⟨Nat.le_of_ble_eq_true rfl, Nat.le_of_ble_eq_true rfl, Nat.le_of_ble_eq_true rfl, Nat.le_of_ble_eq_true rfl⟩ (Nat.le_of_ble_eq_true rfl) ?_
  rintro r' w2 ⟨rfl, h2⟩
  refine z_icmp_eq (tgt := 1780) d_Law_1163 (by decide) (fun _ => ?_) (fun h => absurd rfl h)
  exact K _ h2
theorem law_27 (h : zInv n w) (hn : n ≤ 600) (hi : i + 6 ≤ G.2.2.2.2.1) (hL : G.2.2.2.2.1 ≤ 3072) (K : ∀ w2, zInv (n + 1) w2 → zA G x code 4 ret room_1 (lw_Y G) 1780 [some (.ref 1000000), some (.ref 0), some (.ref 145), some (.int (nI i))] [] w2 160 8334) : zA G x code 4 ret room_1 (lw_Y G) 1168 [some (.ref 1000000), some (.ref 0), some (.ref 145), some (.int (nI i))] [] w 160 8334 := by
  refine z_aload_1 d_Law_1168 ?_
  refine z_aload_0 d_Law_1169 ?_
  refine z_iload_3 d_Law_1170 ?_
  refine z_iconst (a := nI 1) d_Law_1171 (by decide) ?_
  refine z_iaddN d_Law_1172 ?_
  refine z_sld d_Law_1173 (vp_in_nI (by omega) (by omega)) ?_
  refine z_Vi1 d_Law_1174 k_Law_137 (zInv_0 h) (L_reach h) ⟨Nat.le_of_ble_eq_true rfl, Nat.le_of_ble_eq_true rfl, Nat.le_of_ble_eq_true rfl, Nat.le_of_ble_eq_true rfl⟩ (Nat.le_of_ble_eq_true rfl) ?_
  rintro r w1 ⟨e1, hq⟩
  have s1 : w1.2.2.2[145]? = some (12, 47) := by rw [e1]; exact zInv_m h
  refine z_aload_2 d_Law_1177 ?_
  refine z_aload_0 d_Law_1178 ?_
  refine z_iload_3 d_Law_1179 ?_
  refine z_iconst (a := nI 1) d_Law_1180 (by decide) ?_
  refine z_iaddN d_Law_1181 ?_
  refine z_sld d_Law_1182 (vp_in_nI (by omega) (by omega)) ?_
  refine z_Vi1 d_Law_1183 k_Law_140 s1 hq ⟨Nat.le_of_ble_eq_true rfl, Nat.le_of_ble_eq_true rfl, Nat.le_of_ble_eq_true rfl, Nat.le_of_ble_eq_true rfl⟩ (Nat.le_of_ble_eq_true rfl) ?_
  rintro r' w2 ⟨rfl, h2⟩
  refine z_icmp_eq (tgt := 1780) d_Law_1186 (by decide) (fun _ => ?_) (fun h => absurd rfl h)
  exact K _ h2
theorem law_28 (h : zInv n w) (hn : n ≤ 600) (hi : i + 6 ≤ G.2.2.2.2.1) (hL : G.2.2.2.2.1 ≤ 3072) (K : ∀ w2, zInv (n + 1) w2 → zA G x code 4 ret room_1 (lw_Y G) 1780 [some (.ref 1000000), some (.ref 0), some (.ref 145), some (.int (nI i))] [] w2 160 8334) : zA G x code 4 ret room_1 (lw_Y G) 1191 [some (.ref 1000000), some (.ref 0), some (.ref 145), some (.int (nI i))] [] w 160 8334 := by
  refine z_aload_1 d_Law_1191 ?_
  refine z_aload_0 d_Law_1192 ?_
  refine z_iload_3 d_Law_1193 ?_
  refine z_iconst (a := nI 1) d_Law_1194 (by decide) ?_
  refine z_iaddN d_Law_1195 ?_
  refine z_sld d_Law_1196 (vp_in_nI (by omega) (by omega)) ?_
  refine z_Vi1 d_Law_1197 k_Law_141 (zInv_0 h) (L_next h) ⟨Nat.le_of_ble_eq_true rfl, Nat.le_of_ble_eq_true rfl, Nat.le_of_ble_eq_true rfl, Nat.le_of_ble_eq_true rfl⟩ (Nat.le_of_ble_eq_true rfl) ?_
  rintro r w1 ⟨e1, hq⟩
  have s1 : w1.2.2.2[145]? = some (12, 47) := by rw [e1]; exact zInv_m h
  refine z_aload_2 d_Law_1200 ?_
  refine z_aload_0 d_Law_1201 ?_
  refine z_iload_3 d_Law_1202 ?_
  refine z_iconst (a := nI 1) d_Law_1203 (by decide) ?_
  refine z_iaddN d_Law_1204 ?_
  refine z_sld d_Law_1205 (vp_in_nI (by omega) (by omega)) ?_
  refine z_Vi1 d_Law_1206 k_Law_144 s1 hq ⟨Nat.le_of_ble_eq_true rfl, Nat.le_of_ble_eq_true rfl, Nat.le_of_ble_eq_true rfl, Nat.le_of_ble_eq_true rfl⟩ (Nat.le_of_ble_eq_true rfl) ?_
  rintro r' w2 ⟨rfl, h2⟩
  refine z_icmp_eq (tgt := 1780) d_Law_1209 (by decide) (fun _ => ?_) (fun h => absurd rfl h)
  exact K _ h2
theorem law_29 (h : zInv n w) (hn : n ≤ 600) (hi : i + 6 ≤ G.2.2.2.2.1) (hL : G.2.2.2.2.1 ≤ 3072) (K : ∀ w2, zInv (n + 1) w2 → zA G x code 4 ret room_1 (lw_Y G) 1780 [some (.ref 1000000), some (.ref 0), some (.ref 145), some (.int (nI i))] [] w2 160 8334) : zA G x code 4 ret room_1 (lw_Y G) 1214 [some (.ref 1000000), some (.ref 0), some (.ref 145), some (.int (nI i))] [] w 160 8334 := by
  refine z_aload_1 d_Law_1214 ?_
  refine z_aload_0 d_Law_1215 ?_
  refine z_iload_3 d_Law_1216 ?_
  refine z_iconst (a := nI 1) d_Law_1217 (by decide) ?_
  refine z_iaddN d_Law_1218 ?_
  refine z_sld d_Law_1219 (vp_in_nI (by omega) (by omega)) ?_
  refine z_Vi1 d_Law_1220 k_Law_145 (zInv_0 h) (L_round h) ⟨Nat.le_of_ble_eq_true rfl, Nat.le_of_ble_eq_true rfl, Nat.le_of_ble_eq_true rfl, Nat.le_of_ble_eq_true rfl⟩ (Nat.le_of_ble_eq_true rfl) ?_
  rintro r w1 ⟨e1, hq⟩
  have s1 : w1.2.2.2[145]? = some (12, 47) := by rw [e1]; exact zInv_m h
  refine z_aload_2 d_Law_1223 ?_
  refine z_aload_0 d_Law_1224 ?_
  refine z_iload_3 d_Law_1225 ?_
  refine z_iconst (a := nI 1) d_Law_1226 (by decide) ?_
  refine z_iaddN d_Law_1227 ?_
  refine z_sld d_Law_1228 (vp_in_nI (by omega) (by omega)) ?_
  refine z_Vi1 d_Law_1229 k_Law_148 s1 hq ⟨Nat.le_of_ble_eq_true rfl, Nat.le_of_ble_eq_true rfl, Nat.le_of_ble_eq_true rfl, Nat.le_of_ble_eq_true rfl⟩ (Nat.le_of_ble_eq_true rfl) ?_
  rintro r' w2 ⟨rfl, h2⟩
  refine z_icmp_eq (tgt := 1780) d_Law_1232 (by decide) (fun _ => ?_) (fun h => absurd rfl h)
  exact K _ h2
theorem law_30 (h : zInv n w) (hn : n ≤ 600) (hi : i + 6 ≤ G.2.2.2.2.1) (hL : G.2.2.2.2.1 ≤ 3072) (K : ∀ w2, zInv (n + 1) w2 → zA G x code 4 ret room_1 (lw_Y G) 1780 [some (.ref 1000000), some (.ref 0), some (.ref 145), some (.int (nI i))] [] w2 160 8334) : zA G x code 4 ret room_1 (lw_Y G) 1237 [some (.ref 1000000), some (.ref 0), some (.ref 145), some (.int (nI i))] [] w 160 8334 := by
  refine z_aload_1 d_Law_1237 ?_
  refine z_aload_0 d_Law_1238 ?_
  refine z_iload_3 d_Law_1239 ?_
  refine z_iconst (a := nI 1) d_Law_1240 (by decide) ?_
  refine z_iaddN d_Law_1241 ?_
  refine z_sld d_Law_1242 (vp_in_nI (by omega) (by omega)) ?_
  refine z_aload_0 d_Law_1243 ?_
  refine z_iload_3 d_Law_1244 ?_
  refine z_iconst (a := nI 2) d_Law_1245 (by decide) ?_
  refine z_iaddN d_Law_1246 ?_
  refine z_sld d_Law_1247 (vp_in_nI (by omega) (by omega)) ?_
  refine z_Vi2 d_Law_1248 k_Law_149 (zInv_0 h) (L_roundAt h) ⟨Nat.le_of_ble_eq_true rfl, Nat.le_of_ble_eq_true rfl, Nat.le_of_ble_eq_true rfl, Nat.le_of_ble_eq_true rfl⟩ (Nat.le_of_ble_eq_true rfl) ?_
  rintro r w1 ⟨e1, hq⟩
  have s1 : w1.2.2.2[145]? = some (12, 47) := by rw [e1]; exact zInv_m h
  refine z_aload_2 d_Law_1251 ?_
  refine z_aload_0 d_Law_1252 ?_
  refine z_iload_3 d_Law_1253 ?_
  refine z_iconst (a := nI 1) d_Law_1254 (by decide) ?_
  refine z_iaddN d_Law_1255 ?_
  refine z_sld d_Law_1256 (vp_in_nI (by omega) (by omega)) ?_
  refine z_aload_0 d_Law_1257 ?_
  refine z_iload_3 d_Law_1258 ?_
  refine z_iconst (a := nI 2) d_Law_1259 (by decide) ?_
  refine z_iaddN d_Law_1260 ?_
  refine z_sld d_Law_1261 (vp_in_nI (by omega) (by omega)) ?_
  refine z_Vi2 d_Law_1262 k_Law_152 s1 hq ⟨Nat.le_of_ble_eq_true rfl, Nat.le_of_ble_eq_true rfl, Nat.le_of_ble_eq_true rfl, Nat.le_of_ble_eq_true rfl⟩ (Nat.le_of_ble_eq_true rfl) ?_
  rintro r' w2 ⟨rfl, h2⟩
  refine z_icmp_eq (tgt := 1780) d_Law_1265 (by decide) (fun _ => ?_) (fun h => absurd rfl h)
  exact K _ h2
theorem law_31 (h : zInv n w) (hn : n ≤ 600) (hi : i + 6 ≤ G.2.2.2.2.1) (hL : G.2.2.2.2.1 ≤ 3072) (K : ∀ w2, zInv (n + 1) w2 → zA G x code 4 ret room_1 (lw_Y G) 1780 [some (.ref 1000000), some (.ref 0), some (.ref 145), some (.int (nI i))] [] w2 160 8334) : zA G x code 4 ret room_1 (lw_Y G) 1270 [some (.ref 1000000), some (.ref 0), some (.ref 145), some (.int (nI i))] [] w 160 8334 := by
  refine z_aload_1 d_Law_1270 ?_
  refine z_aload_0 d_Law_1271 ?_
  refine z_iload_3 d_Law_1272 ?_
  refine z_iconst (a := nI 1) d_Law_1273 (by decide) ?_
  refine z_iaddN d_Law_1274 ?_
  refine z_sld d_Law_1275 (vp_in_nI (by omega) (by omega)) ?_
  refine z_Vi1 d_Law_1276 k_Law_153 (zInv_0 h) (L_most h) ⟨Nat.le_of_ble_eq_true rfl, Nat.le_of_ble_eq_true rfl, Nat.le_of_ble_eq_true rfl, Nat.le_of_ble_eq_true rfl⟩ (Nat.le_of_ble_eq_true rfl) ?_
  rintro r w1 ⟨e1, hq⟩
  have s1 : w1.2.2.2[145]? = some (12, 47) := by rw [e1]; exact zInv_m h
  refine z_aload_2 d_Law_1279 ?_
  refine z_aload_0 d_Law_1280 ?_
  refine z_iload_3 d_Law_1281 ?_
  refine z_iconst (a := nI 1) d_Law_1282 (by decide) ?_
  refine z_iaddN d_Law_1283 ?_
  refine z_sld d_Law_1284 (vp_in_nI (by omega) (by omega)) ?_
  refine z_Vi1 d_Law_1285 k_Law_156 s1 hq ⟨Nat.le_of_ble_eq_true rfl, Nat.le_of_ble_eq_true rfl, Nat.le_of_ble_eq_true rfl, Nat.le_of_ble_eq_true rfl⟩ (Nat.le_of_ble_eq_true rfl) ?_
  rintro r' w2 ⟨rfl, h2⟩
  refine z_icmp_eq (tgt := 1780) d_Law_1288 (by decide) (fun _ => ?_) (fun h => absurd rfl h)
  exact K _ h2
theorem law_32 (h : zInv n w) (hn : n ≤ 600) (hi : i + 6 ≤ G.2.2.2.2.1) (hL : G.2.2.2.2.1 ≤ 3072) (K : ∀ w2, zInv (n + 1) w2 → zA G x code 4 ret room_1 (lw_Y G) 1780 [some (.ref 1000000), some (.ref 0), some (.ref 145), some (.int (nI i))] [] w2 160 8334) : zA G x code 4 ret room_1 (lw_Y G) 1293 [some (.ref 1000000), some (.ref 0), some (.ref 145), some (.int (nI i))] [] w 160 8334 := by
  refine z_aload_1 d_Law_1293 ?_
  refine z_aload_0 d_Law_1294 ?_
  refine z_iload_3 d_Law_1295 ?_
  refine z_iconst (a := nI 1) d_Law_1296 (by decide) ?_
  refine z_iaddN d_Law_1297 ?_
  refine z_sld d_Law_1298 (vp_in_nI (by omega) (by omega)) ?_
  refine z_Vi1 d_Law_1299 k_Law_157 (zInv_0 h) (L_givings h) ⟨Nat.le_of_ble_eq_true rfl, Nat.le_of_ble_eq_true rfl, Nat.le_of_ble_eq_true rfl, Nat.le_of_ble_eq_true rfl⟩ (Nat.le_of_ble_eq_true rfl) ?_
  rintro r w1 ⟨e1, hq⟩
  have s1 : w1.2.2.2[145]? = some (12, 47) := by rw [e1]; exact zInv_m h
  refine z_aload_2 d_Law_1302 ?_
  refine z_aload_0 d_Law_1303 ?_
  refine z_iload_3 d_Law_1304 ?_
  refine z_iconst (a := nI 1) d_Law_1305 (by decide) ?_
  refine z_iaddN d_Law_1306 ?_
  refine z_sld d_Law_1307 (vp_in_nI (by omega) (by omega)) ?_
  refine z_Vi1 d_Law_1308 k_Law_160 s1 hq ⟨Nat.le_of_ble_eq_true rfl, Nat.le_of_ble_eq_true rfl, Nat.le_of_ble_eq_true rfl, Nat.le_of_ble_eq_true rfl⟩ (Nat.le_of_ble_eq_true rfl) ?_
  rintro r' w2 ⟨rfl, h2⟩
  refine z_icmp_eq (tgt := 1780) d_Law_1311 (by decide) (fun _ => ?_) (fun h => absurd rfl h)
  exact K _ h2
theorem law_33 (h : zInv n w) (hn : n ≤ 600) (hi : i + 6 ≤ G.2.2.2.2.1) (hL : G.2.2.2.2.1 ≤ 3072) (K : ∀ w2, zInv (n + 1) w2 → zA G x code 4 ret room_1 (lw_Y G) 1780 [some (.ref 1000000), some (.ref 0), some (.ref 145), some (.int (nI i))] [] w2 160 8334) : zA G x code 4 ret room_1 (lw_Y G) 1316 [some (.ref 1000000), some (.ref 0), some (.ref 145), some (.int (nI i))] [] w 160 8334 := by
  refine z_aload_1 d_Law_1316 ?_
  refine z_aload_0 d_Law_1317 ?_
  refine z_iload_3 d_Law_1318 ?_
  refine z_iconst (a := nI 1) d_Law_1319 (by decide) ?_
  refine z_iaddN d_Law_1320 ?_
  refine z_sld d_Law_1321 (vp_in_nI (by omega) (by omega)) ?_
  refine z_aload_0 d_Law_1322 ?_
  refine z_iload_3 d_Law_1323 ?_
  refine z_iconst (a := nI 2) d_Law_1324 (by decide) ?_
  refine z_iaddN d_Law_1325 ?_
  refine z_sld d_Law_1326 (vp_in_nI (by omega) (by omega)) ?_
  refine z_Vi2 d_Law_1327 k_Law_161 (zInv_0 h) (L_given h) ⟨Nat.le_of_ble_eq_true rfl, Nat.le_of_ble_eq_true rfl, Nat.le_of_ble_eq_true rfl, Nat.le_of_ble_eq_true rfl⟩ (Nat.le_of_ble_eq_true rfl) ?_
  rintro r w1 ⟨e1, hq⟩
  have s1 : w1.2.2.2[145]? = some (12, 47) := by rw [e1]; exact zInv_m h
  refine z_aload_2 d_Law_1330 ?_
  refine z_aload_0 d_Law_1331 ?_
  refine z_iload_3 d_Law_1332 ?_
  refine z_iconst (a := nI 1) d_Law_1333 (by decide) ?_
  refine z_iaddN d_Law_1334 ?_
  refine z_sld d_Law_1335 (vp_in_nI (by omega) (by omega)) ?_
  refine z_aload_0 d_Law_1336 ?_
  refine z_iload_3 d_Law_1337 ?_
  refine z_iconst (a := nI 2) d_Law_1338 (by decide) ?_
  refine z_iaddN d_Law_1339 ?_
  refine z_sld d_Law_1340 (vp_in_nI (by omega) (by omega)) ?_
  refine z_Vi2 d_Law_1341 k_Law_164 s1 hq ⟨Nat.le_of_ble_eq_true rfl, Nat.le_of_ble_eq_true rfl, Nat.le_of_ble_eq_true rfl, Nat.le_of_ble_eq_true rfl⟩ (Nat.le_of_ble_eq_true rfl) ?_
  rintro r' w2 ⟨rfl, h2⟩
  refine z_icmp_eq (tgt := 1780) d_Law_1344 (by decide) (fun _ => ?_) (fun h => absurd rfl h)
  exact K _ h2
theorem law_34 (h : zInv n w) (hn : n ≤ 600) (hi : i + 6 ≤ G.2.2.2.2.1) (hL : G.2.2.2.2.1 ≤ 3072) (K : ∀ w2, zInv (n + 1) w2 → zA G x code 4 ret room_1 (lw_Y G) 1780 [some (.ref 1000000), some (.ref 0), some (.ref 145), some (.int (nI i))] [] w2 160 8334) : zA G x code 4 ret room_1 (lw_Y G) 1349 [some (.ref 1000000), some (.ref 0), some (.ref 145), some (.int (nI i))] [] w 160 8334 := by
  refine z_aload_1 d_Law_1349 ?_
  refine z_Vi0 d_Law_1350 k_Law_165 (zInv_0 h) (L_cover h) ⟨Nat.le_of_ble_eq_true rfl, Nat.le_of_ble_eq_true rfl, Nat.le_of_ble_eq_true rfl, Nat.le_of_ble_eq_true rfl⟩ (Nat.le_of_ble_eq_true rfl) ?_
  rintro r w1 ⟨e1, hq⟩
  have s1 : w1.2.2.2[145]? = some (12, 47) := by rw [e1]; exact zInv_m h
  refine z_aload_2 d_Law_1353 ?_
  refine z_Vi0 d_Law_1354 k_Law_168 s1 hq ⟨Nat.le_of_ble_eq_true rfl, Nat.le_of_ble_eq_true rfl, Nat.le_of_ble_eq_true rfl, Nat.le_of_ble_eq_true rfl⟩ (Nat.le_of_ble_eq_true rfl) ?_
  rintro r' w2 ⟨rfl, h2⟩
  refine z_icmp_eq (tgt := 1780) d_Law_1357 (by decide) (fun _ => ?_) (fun h => absurd rfl h)
  exact K _ h2
theorem law_35 (h : zInv n w) (hn : n ≤ 600) (hi : i + 6 ≤ G.2.2.2.2.1) (hL : G.2.2.2.2.1 ≤ 3072) (K : ∀ w2, zInv (n + 1) w2 → zA G x code 4 ret room_1 (lw_Y G) 1780 [some (.ref 1000000), some (.ref 0), some (.ref 145), some (.int (nI i))] [] w2 160 8334) : zA G x code 4 ret room_1 (lw_Y G) 1362 [some (.ref 1000000), some (.ref 0), some (.ref 145), some (.int (nI i))] [] w 160 8334 := by
  refine z_aload_1 d_Law_1362 ?_
  refine z_Vi0 d_Law_1363 k_Law_169 (zInv_0 h) (L_coverSet h) ⟨Nat.le_of_ble_eq_true rfl, Nat.le_of_ble_eq_true rfl, Nat.le_of_ble_eq_true rfl, Nat.le_of_ble_eq_true rfl⟩ (Nat.le_of_ble_eq_true rfl) ?_
  rintro r w1 ⟨e1, hq⟩
  have s1 : w1.2.2.2[145]? = some (12, 47) := by rw [e1]; exact zInv_m h
  refine z_aload_2 d_Law_1366 ?_
  refine z_Vi0 d_Law_1367 k_Law_172 s1 hq ⟨Nat.le_of_ble_eq_true rfl, Nat.le_of_ble_eq_true rfl, Nat.le_of_ble_eq_true rfl, Nat.le_of_ble_eq_true rfl⟩ (Nat.le_of_ble_eq_true rfl) ?_
  rintro r' w2 ⟨rfl, h2⟩
  refine z_icmp_eq (tgt := 1780) d_Law_1370 (by decide) (fun _ => ?_) (fun h => absurd rfl h)
  exact K _ h2
theorem law_36 (h : zInv n w) (hn : n ≤ 600) (hi : i + 6 ≤ G.2.2.2.2.1) (hL : G.2.2.2.2.1 ≤ 3072) (K : ∀ w2, zInv (n + 1) w2 → zA G x code 4 ret room_1 (lw_Y G) 1780 [some (.ref 1000000), some (.ref 0), some (.ref 145), some (.int (nI i))] [] w2 160 8334) : zA G x code 4 ret room_1 (lw_Y G) 1375 [some (.ref 1000000), some (.ref 0), some (.ref 145), some (.int (nI i))] [] w 160 8334 := by
  refine z_aload_1 d_Law_1375 ?_
  refine z_Vi0 d_Law_1376 k_Law_173 (zInv_0 h) (L_blamed h) ⟨Nat.le_of_ble_eq_true rfl, Nat.le_of_ble_eq_true rfl, Nat.le_of_ble_eq_true rfl, Nat.le_of_ble_eq_true rfl⟩ (Nat.le_of_ble_eq_true rfl) ?_
  rintro r w1 ⟨e1, hq⟩
  have s1 : w1.2.2.2[145]? = some (12, 47) := by rw [e1]; exact zInv_m h
  refine z_aload_2 d_Law_1379 ?_
  refine z_Vi0 d_Law_1380 k_Law_176 s1 hq ⟨Nat.le_of_ble_eq_true rfl, Nat.le_of_ble_eq_true rfl, Nat.le_of_ble_eq_true rfl, Nat.le_of_ble_eq_true rfl⟩ (Nat.le_of_ble_eq_true rfl) ?_
  rintro r' w2 ⟨rfl, h2⟩
  refine z_icmp_eq (tgt := 1780) d_Law_1383 (by decide) (fun _ => ?_) (fun h => absurd rfl h)
  exact K _ h2
theorem law_37 (h : zInv n w) (hn : n ≤ 600) (hi : i + 6 ≤ G.2.2.2.2.1) (hL : G.2.2.2.2.1 ≤ 3072) (K : ∀ w2, zInv (n + 1) w2 → zA G x code 4 ret room_1 (lw_Y G) 1780 [some (.ref 1000000), some (.ref 0), some (.ref 145), some (.int (nI i))] [] w2 160 8334) : zA G x code 4 ret room_1 (lw_Y G) 1388 [some (.ref 1000000), some (.ref 0), some (.ref 145), some (.int (nI i))] [] w 160 8334 := by
  refine z_aload_1 d_Law_1388 ?_
  refine z_Vi0 d_Law_1389 k_Law_177 (zInv_0 h) (L_blamedSet h) ⟨Nat.le_of_ble_eq_true rfl, Nat.le_of_ble_eq_true rfl, Nat.le_of_ble_eq_true rfl, Nat.le_of_ble_eq_true rfl⟩ (Nat.le_of_ble_eq_true rfl) ?_
  rintro r w1 ⟨e1, hq⟩
  have s1 : w1.2.2.2[145]? = some (12, 47) := by rw [e1]; exact zInv_m h
  refine z_aload_2 d_Law_1392 ?_
  refine z_Vi0 d_Law_1393 k_Law_180 s1 hq ⟨Nat.le_of_ble_eq_true rfl, Nat.le_of_ble_eq_true rfl, Nat.le_of_ble_eq_true rfl, Nat.le_of_ble_eq_true rfl⟩ (Nat.le_of_ble_eq_true rfl) ?_
  rintro r' w2 ⟨rfl, h2⟩
  refine z_icmp_eq (tgt := 1780) d_Law_1396 (by decide) (fun _ => ?_) (fun h => absurd rfl h)
  exact K _ h2
theorem law_38 (h : zInv n w) (hn : n ≤ 600) (hi : i + 6 ≤ G.2.2.2.2.1) (hL : G.2.2.2.2.1 ≤ 3072) (K : ∀ w2, zInv (n + 1) w2 → zA G x code 4 ret room_1 (lw_Y G) 1780 [some (.ref 1000000), some (.ref 0), some (.ref 145), some (.int (nI i))] [] w2 160 8334) : zA G x code 4 ret room_1 (lw_Y G) 1401 [some (.ref 1000000), some (.ref 0), some (.ref 145), some (.int (nI i))] [] w 160 8334 := by
  refine z_aload_1 d_Law_1401 ?_
  refine z_aload_0 d_Law_1402 ?_
  refine z_iload_3 d_Law_1403 ?_
  refine z_iconst (a := nI 1) d_Law_1404 (by decide) ?_
  refine z_iaddN d_Law_1405 ?_
  refine z_sld d_Law_1406 (vp_in_nI (by omega) (by omega)) ?_
  refine z_Vi1 d_Law_1407 k_Law_181 (zInv_0 h) (L_wheels h) ⟨Nat.le_of_ble_eq_true rfl, Nat.le_of_ble_eq_true rfl, Nat.le_of_ble_eq_true rfl, Nat.le_of_ble_eq_true rfl⟩ (Nat.le_of_ble_eq_true rfl) ?_
  rintro r w1 ⟨e1, hq⟩
  have s1 : w1.2.2.2[145]? = some (12, 47) := by rw [e1]; exact zInv_m h
  refine z_aload_2 d_Law_1410 ?_
  refine z_aload_0 d_Law_1411 ?_
  refine z_iload_3 d_Law_1412 ?_
  refine z_iconst (a := nI 1) d_Law_1413 (by decide) ?_
  refine z_iaddN d_Law_1414 ?_
  refine z_sld d_Law_1415 (vp_in_nI (by omega) (by omega)) ?_
  refine z_Vi1 d_Law_1416 k_Law_184 s1 hq ⟨Nat.le_of_ble_eq_true rfl, Nat.le_of_ble_eq_true rfl, Nat.le_of_ble_eq_true rfl, Nat.le_of_ble_eq_true rfl⟩ (Nat.le_of_ble_eq_true rfl) ?_
  rintro r' w2 ⟨rfl, h2⟩
  refine z_icmp_eq (tgt := 1780) d_Law_1419 (by decide) (fun _ => ?_) (fun h => absurd rfl h)
  exact K _ h2
theorem law_39 (h : zInv n w) (hn : n ≤ 600) (hi : i + 6 ≤ G.2.2.2.2.1) (hL : G.2.2.2.2.1 ≤ 3072) (K : ∀ w2, zInv (n + 1) w2 → zA G x code 4 ret room_1 (lw_Y G) 1780 [some (.ref 1000000), some (.ref 0), some (.ref 145), some (.int (nI i))] [] w2 160 8334) : zA G x code 4 ret room_1 (lw_Y G) 1424 [some (.ref 1000000), some (.ref 0), some (.ref 145), some (.int (nI i))] [] w 160 8334 := by
  refine z_aload_1 d_Law_1424 ?_
  refine z_aload_0 d_Law_1425 ?_
  refine z_iload_3 d_Law_1426 ?_
  refine z_iconst (a := nI 1) d_Law_1427 (by decide) ?_
  refine z_iaddN d_Law_1428 ?_
  refine z_sld d_Law_1429 (vp_in_nI (by omega) (by omega)) ?_
  refine z_aload_0 d_Law_1430 ?_
  refine z_iload_3 d_Law_1431 ?_
  refine z_iconst (a := nI 2) d_Law_1432 (by decide) ?_
  refine z_iaddN d_Law_1433 ?_
  refine z_sld d_Law_1434 (vp_in_nI (by omega) (by omega)) ?_
  refine z_Vi2 d_Law_1435 k_Law_185 (zInv_0 h) (L_whose h) ⟨Nat.le_of_ble_eq_true rfl, Nat.le_of_ble_eq_true rfl, Nat.le_of_ble_eq_true rfl, Nat.le_of_ble_eq_true rfl⟩ (Nat.le_of_ble_eq_true rfl) ?_
  rintro r w1 ⟨e1, hq⟩
  have s1 : w1.2.2.2[145]? = some (12, 47) := by rw [e1]; exact zInv_m h
  refine z_aload_2 d_Law_1438 ?_
  refine z_aload_0 d_Law_1439 ?_
  refine z_iload_3 d_Law_1440 ?_
  refine z_iconst (a := nI 1) d_Law_1441 (by decide) ?_
  refine z_iaddN d_Law_1442 ?_
  refine z_sld d_Law_1443 (vp_in_nI (by omega) (by omega)) ?_
  refine z_aload_0 d_Law_1444 ?_
  refine z_iload_3 d_Law_1445 ?_
  refine z_iconst (a := nI 2) d_Law_1446 (by decide) ?_
  refine z_iaddN d_Law_1447 ?_
  refine z_sld d_Law_1448 (vp_in_nI (by omega) (by omega)) ?_
  refine z_Vi2 d_Law_1449 k_Law_188 s1 hq ⟨Nat.le_of_ble_eq_true rfl, Nat.le_of_ble_eq_true rfl, Nat.le_of_ble_eq_true rfl, Nat.le_of_ble_eq_true rfl⟩ (Nat.le_of_ble_eq_true rfl) ?_
  rintro r' w2 ⟨rfl, h2⟩
  refine z_icmp_eq (tgt := 1780) d_Law_1452 (by decide) (fun _ => ?_) (fun h => absurd rfl h)
  exact K _ h2
theorem law_40 (h : zInv n w) (hn : n ≤ 600) (hi : i + 6 ≤ G.2.2.2.2.1) (hL : G.2.2.2.2.1 ≤ 3072) (K : ∀ w2, zInv (n + 1) w2 → zA G x code 4 ret room_1 (lw_Y G) 1780 [some (.ref 1000000), some (.ref 0), some (.ref 145), some (.int (nI i))] [] w2 160 8334) : zA G x code 4 ret room_1 (lw_Y G) 1457 [some (.ref 1000000), some (.ref 0), some (.ref 145), some (.int (nI i))] [] w 160 8334 := by
  refine z_aload_1 d_Law_1457 ?_
  refine z_aload_0 d_Law_1458 ?_
  refine z_iload_3 d_Law_1459 ?_
  refine z_iconst (a := nI 1) d_Law_1460 (by decide) ?_
  refine z_iaddN d_Law_1461 ?_
  refine z_sld d_Law_1462 (vp_in_nI (by omega) (by omega)) ?_
  refine z_aload_0 d_Law_1463 ?_
  refine z_iload_3 d_Law_1464 ?_
  refine z_iconst (a := nI 2) d_Law_1465 (by decide) ?_
  refine z_iaddN d_Law_1466 ?_
  refine z_sld d_Law_1467 (vp_in_nI (by omega) (by omega)) ?_
  refine z_Vi2 d_Law_1468 k_Law_189 (zInv_0 h) (L_sure h) ⟨Nat.le_of_ble_eq_true rfl, Nat.le_of_ble_eq_true rfl, Nat.le_of_ble_eq_true rfl, Nat.le_of_ble_eq_true rfl⟩ (Nat.le_of_ble_eq_true rfl) ?_
  rintro r w1 ⟨e1, hq⟩
  have s1 : w1.2.2.2[145]? = some (12, 47) := by rw [e1]; exact zInv_m h
  refine z_aload_2 d_Law_1471 ?_
  refine z_aload_0 d_Law_1472 ?_
  refine z_iload_3 d_Law_1473 ?_
  refine z_iconst (a := nI 1) d_Law_1474 (by decide) ?_
  refine z_iaddN d_Law_1475 ?_
  refine z_sld d_Law_1476 (vp_in_nI (by omega) (by omega)) ?_
  refine z_aload_0 d_Law_1477 ?_
  refine z_iload_3 d_Law_1478 ?_
  refine z_iconst (a := nI 2) d_Law_1479 (by decide) ?_
  refine z_iaddN d_Law_1480 ?_
  refine z_sld d_Law_1481 (vp_in_nI (by omega) (by omega)) ?_
  refine z_Vi2 d_Law_1482 k_Law_192 s1 hq ⟨Nat.le_of_ble_eq_true rfl, Nat.le_of_ble_eq_true rfl, Nat.le_of_ble_eq_true rfl, Nat.le_of_ble_eq_true rfl⟩ (Nat.le_of_ble_eq_true rfl) ?_
  rintro r' w2 ⟨rfl, h2⟩
  refine z_icmp_eq (tgt := 1780) d_Law_1485 (by decide) (fun _ => ?_) (fun h => absurd rfl h)
  exact K _ h2
theorem law_41 (h : zInv n w) (hn : n ≤ 600) (hi : i + 6 ≤ G.2.2.2.2.1) (hL : G.2.2.2.2.1 ≤ 3072) (K : ∀ w2, zInv (n + 1) w2 → zA G x code 4 ret room_1 (lw_Y G) 1780 [some (.ref 1000000), some (.ref 0), some (.ref 145), some (.int (nI i))] [] w2 160 8334) : zA G x code 4 ret room_1 (lw_Y G) 1490 [some (.ref 1000000), some (.ref 0), some (.ref 145), some (.int (nI i))] [] w 160 8334 := by
  refine z_aload_1 d_Law_1490 ?_
  refine z_aload_0 d_Law_1491 ?_
  refine z_iload_3 d_Law_1492 ?_
  refine z_iconst (a := nI 1) d_Law_1493 (by decide) ?_
  refine z_iaddN d_Law_1494 ?_
  refine z_sld d_Law_1495 (vp_in_nI (by omega) (by omega)) ?_
  refine z_aload_0 d_Law_1496 ?_
  refine z_iload_3 d_Law_1497 ?_
  refine z_iconst (a := nI 2) d_Law_1498 (by decide) ?_
  refine z_iaddN d_Law_1499 ?_
  refine z_sld d_Law_1500 (vp_in_nI (by omega) (by omega)) ?_
  refine z_Vi2 d_Law_1501 k_Law_193 (zInv_0 h) (L_ask h) ⟨Nat.le_of_ble_eq_true rfl, Nat.le_of_ble_eq_true rfl, Nat.le_of_ble_eq_true rfl, Nat.le_of_ble_eq_true rfl⟩ (Nat.le_of_ble_eq_true rfl) ?_
  rintro r w1 ⟨e1, hq⟩
  have s1 : w1.2.2.2[145]? = some (12, 47) := by rw [e1]; exact zInv_m h
  refine z_aload_2 d_Law_1504 ?_
  refine z_aload_0 d_Law_1505 ?_
  refine z_iload_3 d_Law_1506 ?_
  refine z_iconst (a := nI 1) d_Law_1507 (by decide) ?_
  refine z_iaddN d_Law_1508 ?_
  refine z_sld d_Law_1509 (vp_in_nI (by omega) (by omega)) ?_
  refine z_aload_0 d_Law_1510 ?_
  refine z_iload_3 d_Law_1511 ?_
  refine z_iconst (a := nI 2) d_Law_1512 (by decide) ?_
  refine z_iaddN d_Law_1513 ?_
  refine z_sld d_Law_1514 (vp_in_nI (by omega) (by omega)) ?_
  refine z_Vi2 d_Law_1515 k_Law_196 s1 hq ⟨Nat.le_of_ble_eq_true rfl, Nat.le_of_ble_eq_true rfl, Nat.le_of_ble_eq_true rfl, Nat.le_of_ble_eq_true rfl⟩ (Nat.le_of_ble_eq_true rfl) ?_
  rintro r' w2 ⟨rfl, h2⟩
  refine z_icmp_eq (tgt := 1780) d_Law_1518 (by decide) (fun _ => ?_) (fun h => absurd rfl h)
  exact K _ h2
theorem law_42 (h : zInv n w) (hn : n ≤ 600) (hi : i + 6 ≤ G.2.2.2.2.1) (hL : G.2.2.2.2.1 ≤ 3072) (K : ∀ w2, zInv (n + 1) w2 → zA G x code 4 ret room_1 (lw_Y G) 1780 [some (.ref 1000000), some (.ref 0), some (.ref 145), some (.int (nI i))] [] w2 160 8334) : zA G x code 4 ret room_1 (lw_Y G) 1523 [some (.ref 1000000), some (.ref 0), some (.ref 145), some (.int (nI i))] [] w 160 8334 := by
  refine z_aload_1 d_Law_1523 ?_
  refine z_aload_0 d_Law_1524 ?_
  refine z_iload_3 d_Law_1525 ?_
  refine z_iconst (a := nI 1) d_Law_1526 (by decide) ?_
  refine z_iaddN d_Law_1527 ?_
  refine z_sld d_Law_1528 (vp_in_nI (by omega) (by omega)) ?_
  refine z_aload_0 d_Law_1529 ?_
  refine z_iload_3 d_Law_1530 ?_
  refine z_iconst (a := nI 2) d_Law_1531 (by decide) ?_
  refine z_iaddN d_Law_1532 ?_
  refine z_sld d_Law_1533 (vp_in_nI (by omega) (by omega)) ?_
  refine z_aload_0 d_Law_1534 ?_
  refine z_iload_3 d_Law_1535 ?_
  refine z_iconst (a := nI 3) d_Law_1536 (by decide) ?_
  refine z_iaddN d_Law_1537 ?_
  refine z_sld d_Law_1538 (vp_in_nI (by omega) (by omega)) ?_
  refine z_Vi3 d_Law_1539 k_Law_197 (zInv_0 h) (L_game h) ⟨Nat.le_of_ble_eq_true rfl, Nat.le_of_ble_eq_true rfl, Nat.le_of_ble_eq_true rfl, Nat.le_of_ble_eq_true rfl⟩ (Nat.le_of_ble_eq_true rfl) ?_
  rintro r w1 ⟨e1, hq⟩
  have s1 : w1.2.2.2[145]? = some (12, 47) := by rw [e1]; exact zInv_m h
  refine z_aload_2 d_Law_1542 ?_
  refine z_aload_0 d_Law_1543 ?_
  refine z_iload_3 d_Law_1544 ?_
  refine z_iconst (a := nI 1) d_Law_1545 (by decide) ?_
  refine z_iaddN d_Law_1546 ?_
  refine z_sld d_Law_1547 (vp_in_nI (by omega) (by omega)) ?_
  refine z_aload_0 d_Law_1548 ?_
  refine z_iload_3 d_Law_1549 ?_
  refine z_iconst (a := nI 2) d_Law_1550 (by decide) ?_
  refine z_iaddN d_Law_1551 ?_
  refine z_sld d_Law_1552 (vp_in_nI (by omega) (by omega)) ?_
  refine z_aload_0 d_Law_1553 ?_
  refine z_iload_3 d_Law_1554 ?_
  refine z_iconst (a := nI 3) d_Law_1555 (by decide) ?_
  refine z_iaddN d_Law_1556 ?_
  refine z_sld d_Law_1557 (vp_in_nI (by omega) (by omega)) ?_
  refine z_Vi3 d_Law_1558 k_Law_200 s1 hq ⟨Nat.le_of_ble_eq_true rfl, Nat.le_of_ble_eq_true rfl, Nat.le_of_ble_eq_true rfl, Nat.le_of_ble_eq_true rfl⟩ (Nat.le_of_ble_eq_true rfl) ?_
  rintro r' w2 ⟨rfl, h2⟩
  refine z_icmp_eq (tgt := 1780) d_Law_1561 (by decide) (fun _ => ?_) (fun h => absurd rfl h)
  exact K _ h2
theorem law_43 (h : zInv n w) (hn : n ≤ 600) (hi : i + 6 ≤ G.2.2.2.2.1) (hL : G.2.2.2.2.1 ≤ 3072) (K : ∀ w2, zInv (n + 1) w2 → zA G x code 4 ret room_1 (lw_Y G) 1780 [some (.ref 1000000), some (.ref 0), some (.ref 145), some (.int (nI i))] [] w2 160 8334) : zA G x code 4 ret room_1 (lw_Y G) 1566 [some (.ref 1000000), some (.ref 0), some (.ref 145), some (.int (nI i))] [] w 160 8334 := by
  refine z_aload_1 d_Law_1566 ?_
  refine z_aload_0 d_Law_1567 ?_
  refine z_iload_3 d_Law_1568 ?_
  refine z_iconst (a := nI 1) d_Law_1569 (by decide) ?_
  refine z_iaddN d_Law_1570 ?_
  refine z_sld d_Law_1571 (vp_in_nI (by omega) (by omega)) ?_
  refine z_aload_0 d_Law_1572 ?_
  refine z_iload_3 d_Law_1573 ?_
  refine z_iconst (a := nI 2) d_Law_1574 (by decide) ?_
  refine z_iaddN d_Law_1575 ?_
  refine z_sld d_Law_1576 (vp_in_nI (by omega) (by omega)) ?_
  refine z_aload_0 d_Law_1577 ?_
  refine z_iload_3 d_Law_1578 ?_
  refine z_iconst (a := nI 3) d_Law_1579 (by decide) ?_
  refine z_iaddN d_Law_1580 ?_
  refine z_sld d_Law_1581 (vp_in_nI (by omega) (by omega)) ?_
  refine z_aload_0 d_Law_1582 ?_
  refine z_iload_3 d_Law_1583 ?_
  refine z_iconst (a := nI 4) d_Law_1584 (by decide) ?_
  refine z_iaddN d_Law_1585 ?_
  refine z_sld d_Law_1586 (vp_in_nI (by omega) (by omega)) ?_
  refine z_Vi4 d_Law_1587 k_Law_201 (zInv_0 h) (L_moveOf h) ⟨Nat.le_of_ble_eq_true rfl, Nat.le_of_ble_eq_true rfl, Nat.le_of_ble_eq_true rfl, Nat.le_of_ble_eq_true rfl⟩ (Nat.le_of_ble_eq_true rfl) ?_
  rintro r w1 ⟨e1, hq⟩
  have s1 : w1.2.2.2[145]? = some (12, 47) := by rw [e1]; exact zInv_m h
  refine z_aload_2 d_Law_1590 ?_
  refine z_aload_0 d_Law_1591 ?_
  refine z_iload_3 d_Law_1592 ?_
  refine z_iconst (a := nI 1) d_Law_1593 (by decide) ?_
  refine z_iaddN d_Law_1594 ?_
  refine z_sld d_Law_1595 (vp_in_nI (by omega) (by omega)) ?_
  refine z_aload_0 d_Law_1596 ?_
  refine z_iload_3 d_Law_1597 ?_
  refine z_iconst (a := nI 2) d_Law_1598 (by decide) ?_
  refine z_iaddN d_Law_1599 ?_
  refine z_sld d_Law_1600 (vp_in_nI (by omega) (by omega)) ?_
  refine z_aload_0 d_Law_1601 ?_
  refine z_iload_3 d_Law_1602 ?_
  refine z_iconst (a := nI 3) d_Law_1603 (by decide) ?_
  refine z_iaddN d_Law_1604 ?_
  refine z_sld d_Law_1605 (vp_in_nI (by omega) (by omega)) ?_
  refine z_aload_0 d_Law_1606 ?_
  refine z_iload_3 d_Law_1607 ?_
  refine z_iconst (a := nI 4) d_Law_1608 (by decide) ?_
  refine z_iaddN d_Law_1609 ?_
  refine z_sld d_Law_1610 (vp_in_nI (by omega) (by omega)) ?_
  refine z_Vi4 d_Law_1611 k_Law_205 s1 hq ⟨Nat.le_of_ble_eq_true rfl, Nat.le_of_ble_eq_true rfl, Nat.le_of_ble_eq_true rfl, Nat.le_of_ble_eq_true rfl⟩ (Nat.le_of_ble_eq_true rfl) ?_
  rintro r' w2 ⟨rfl, h2⟩
  refine z_icmp_eq (tgt := 1780) d_Law_1614 (by decide) (fun _ => ?_) (fun h => absurd rfl h)
  exact K _ h2
theorem law_44 (h : zInv n w) (hn : n ≤ 600) (hi : i + 6 ≤ G.2.2.2.2.1) (hL : G.2.2.2.2.1 ≤ 3072) (K : ∀ w2, zInv (n + 1) w2 → zA G x code 4 ret room_1 (lw_Y G) 1780 [some (.ref 1000000), some (.ref 0), some (.ref 145), some (.int (nI i))] [] w2 160 8334) : zA G x code 4 ret room_1 (lw_Y G) 1619 [some (.ref 1000000), some (.ref 0), some (.ref 145), some (.int (nI i))] [] w 160 8334 := by
  refine z_aload_1 d_Law_1619 ?_
  refine z_aload_0 d_Law_1620 ?_
  refine z_iload_3 d_Law_1621 ?_
  refine z_iconst (a := nI 1) d_Law_1622 (by decide) ?_
  refine z_iaddN d_Law_1623 ?_
  refine z_sld d_Law_1624 (vp_in_nI (by omega) (by omega)) ?_
  refine z_aload_0 d_Law_1625 ?_
  refine z_iload_3 d_Law_1626 ?_
  refine z_iconst (a := nI 2) d_Law_1627 (by decide) ?_
  refine z_iaddN d_Law_1628 ?_
  refine z_sld d_Law_1629 (vp_in_nI (by omega) (by omega)) ?_
  refine z_Vi2 d_Law_1630 k_Law_206 (zInv_0 h) (L_bites h) ⟨Nat.le_of_ble_eq_true rfl, Nat.le_of_ble_eq_true rfl, Nat.le_of_ble_eq_true rfl, Nat.le_of_ble_eq_true rfl⟩ (Nat.le_of_ble_eq_true rfl) ?_
  rintro r w1 ⟨e1, hq⟩
  have s1 : w1.2.2.2[145]? = some (12, 47) := by rw [e1]; exact zInv_m h
  refine z_aload_2 d_Law_1633 ?_
  refine z_aload_0 d_Law_1634 ?_
  refine z_iload_3 d_Law_1635 ?_
  refine z_iconst (a := nI 1) d_Law_1636 (by decide) ?_
  refine z_iaddN d_Law_1637 ?_
  refine z_sld d_Law_1638 (vp_in_nI (by omega) (by omega)) ?_
  refine z_aload_0 d_Law_1639 ?_
  refine z_iload_3 d_Law_1640 ?_
  refine z_iconst (a := nI 2) d_Law_1641 (by decide) ?_
  refine z_iaddN d_Law_1642 ?_
  refine z_sld d_Law_1643 (vp_in_nI (by omega) (by omega)) ?_
  refine z_Vi2 d_Law_1644 k_Law_209 s1 hq ⟨Nat.le_of_ble_eq_true rfl, Nat.le_of_ble_eq_true rfl, Nat.le_of_ble_eq_true rfl, Nat.le_of_ble_eq_true rfl⟩ (Nat.le_of_ble_eq_true rfl) ?_
  rintro r' w2 ⟨rfl, h2⟩
  refine z_icmp_eq (tgt := 1780) d_Law_1647 (by decide) (fun _ => ?_) (fun h => absurd rfl h)
  exact K _ h2
theorem law_45 (h : zInv n w) (hn : n ≤ 600) (hi : i + 6 ≤ G.2.2.2.2.1) (hL : G.2.2.2.2.1 ≤ 3072) (K : ∀ w2, zInv (n + 1) w2 → zA G x code 4 ret room_1 (lw_Y G) 1780 [some (.ref 1000000), some (.ref 0), some (.ref 145), some (.int (nI i))] [] w2 160 8334) : zA G x code 4 ret room_1 (lw_Y G) 1652 [some (.ref 1000000), some (.ref 0), some (.ref 145), some (.int (nI i))] [] w 160 8334 := by
  refine z_aload_1 d_Law_1652 ?_
  refine z_aload_0 d_Law_1653 ?_
  refine z_iload_3 d_Law_1654 ?_
  refine z_iconst (a := nI 1) d_Law_1655 (by decide) ?_
  refine z_iaddN d_Law_1656 ?_
  refine z_sld d_Law_1657 (vp_in_nI (by omega) (by omega)) ?_
  refine z_Vi1 d_Law_1658 k_Law_210 (zInv_0 h) (L_share h) ⟨Nat.le_of_ble_eq_true rfl, Nat.le_of_ble_eq_true rfl, Nat.le_of_ble_eq_true rfl, Nat.le_of_ble_eq_true rfl⟩ (Nat.le_of_ble_eq_true rfl) ?_
  rintro r w1 ⟨e1, hq⟩
  have s1 : w1.2.2.2[145]? = some (12, 47) := by rw [e1]; exact zInv_m h
  refine z_aload_2 d_Law_1661 ?_
  refine z_aload_0 d_Law_1662 ?_
  refine z_iload_3 d_Law_1663 ?_
  refine z_iconst (a := nI 1) d_Law_1664 (by decide) ?_
  refine z_iaddN d_Law_1665 ?_
  refine z_sld d_Law_1666 (vp_in_nI (by omega) (by omega)) ?_
  refine z_Vi1 d_Law_1667 k_Law_213 s1 hq ⟨Nat.le_of_ble_eq_true rfl, Nat.le_of_ble_eq_true rfl, Nat.le_of_ble_eq_true rfl, Nat.le_of_ble_eq_true rfl⟩ (Nat.le_of_ble_eq_true rfl) ?_
  rintro r' w2 ⟨rfl, h2⟩
  refine z_icmp_eq (tgt := 1780) d_Law_1670 (by decide) (fun _ => ?_) (fun h => absurd rfl h)
  exact K _ h2
theorem law_46 (h : zInv n w) (hn : n ≤ 600) (hi : i + 6 ≤ G.2.2.2.2.1) (hL : G.2.2.2.2.1 ≤ 3072) (K : ∀ w2, zInv (n + 1) w2 → zA G x code 4 ret room_1 (lw_Y G) 1780 [some (.ref 1000000), some (.ref 0), some (.ref 145), some (.int (nI i))] [] w2 160 8334) : zA G x code 4 ret room_1 (lw_Y G) 1675 [some (.ref 1000000), some (.ref 0), some (.ref 145), some (.int (nI i))] [] w 160 8334 := by
  refine z_aload_1 d_Law_1675 ?_
  refine z_aload_0 d_Law_1676 ?_
  refine z_iload_3 d_Law_1677 ?_
  refine z_iconst (a := nI 1) d_Law_1678 (by decide) ?_
  refine z_iaddN d_Law_1679 ?_
  refine z_sld d_Law_1680 (vp_in_nI (by omega) (by omega)) ?_
  refine z_Vi1 d_Law_1681 k_Law_214 (zInv_0 h) (L_live h) ⟨Nat.le_of_ble_eq_true rfl, Nat.le_of_ble_eq_true rfl, Nat.le_of_ble_eq_true rfl, Nat.le_of_ble_eq_true rfl⟩ (Nat.le_of_ble_eq_true rfl) ?_
  rintro r w1 ⟨e1, hq⟩
  have s1 : w1.2.2.2[145]? = some (12, 47) := by rw [e1]; exact zInv_m h
  refine z_aload_2 d_Law_1684 ?_
  refine z_aload_0 d_Law_1685 ?_
  refine z_iload_3 d_Law_1686 ?_
  refine z_iconst (a := nI 1) d_Law_1687 (by decide) ?_
  refine z_iaddN d_Law_1688 ?_
  refine z_sld d_Law_1689 (vp_in_nI (by omega) (by omega)) ?_
  refine z_Vi1 d_Law_1690 k_Law_217 s1 hq ⟨Nat.le_of_ble_eq_true rfl, Nat.le_of_ble_eq_true rfl, Nat.le_of_ble_eq_true rfl, Nat.le_of_ble_eq_true rfl⟩ (Nat.le_of_ble_eq_true rfl) ?_
  rintro r' w2 ⟨rfl, h2⟩
  refine z_icmp_eq (tgt := 1780) d_Law_1693 (by decide) (fun _ => ?_) (fun h => absurd rfl h)
  exact K _ h2
theorem law_47 (h : zInv n w) (hn : n ≤ 600) (hi : i + 6 ≤ G.2.2.2.2.1) (hL : G.2.2.2.2.1 ≤ 3072) (K : ∀ w2, zInv (n + 1) w2 → zA G x code 4 ret room_1 (lw_Y G) 1780 [some (.ref 1000000), some (.ref 0), some (.ref 145), some (.int (nI i))] [] w2 160 8334) : zA G x code 4 ret room_1 (lw_Y G) 1698 [some (.ref 1000000), some (.ref 0), some (.ref 145), some (.int (nI i))] [] w 160 8334 := by
  refine z_aload_1 d_Law_1698 ?_
  refine z_aload_0 d_Law_1699 ?_
  refine z_iload_3 d_Law_1700 ?_
  refine z_iconst (a := nI 1) d_Law_1701 (by decide) ?_
  refine z_iaddN d_Law_1702 ?_
  refine z_sld d_Law_1703 (vp_in_nI (by omega) (by omega)) ?_
  refine z_Vi1 d_Law_1704 k_Law_218 (zInv_0 h) (L_lived h) ⟨Nat.le_of_ble_eq_true rfl, Nat.le_of_ble_eq_true rfl, Nat.le_of_ble_eq_true rfl, Nat.le_of_ble_eq_true rfl⟩ (Nat.le_of_ble_eq_true rfl) ?_
  rintro r w1 ⟨e1, hq⟩
  have s1 : w1.2.2.2[145]? = some (12, 47) := by rw [e1]; exact zInv_m h
  refine z_aload_2 d_Law_1707 ?_
  refine z_aload_0 d_Law_1708 ?_
  refine z_iload_3 d_Law_1709 ?_
  refine z_iconst (a := nI 1) d_Law_1710 (by decide) ?_
  refine z_iaddN d_Law_1711 ?_
  refine z_sld d_Law_1712 (vp_in_nI (by omega) (by omega)) ?_
  refine z_Vi1 d_Law_1713 k_Law_221 s1 hq ⟨Nat.le_of_ble_eq_true rfl, Nat.le_of_ble_eq_true rfl, Nat.le_of_ble_eq_true rfl, Nat.le_of_ble_eq_true rfl⟩ (Nat.le_of_ble_eq_true rfl) ?_
  rintro r' w2 ⟨rfl, h2⟩
  refine z_icmp_eq (tgt := 1780) d_Law_1716 (by decide) (fun _ => ?_) (fun h => absurd rfl h)
  exact K _ h2
theorem law_48 (h : zInv n w) (hn : n ≤ 600) (hi : i + 6 ≤ G.2.2.2.2.1) (hL : G.2.2.2.2.1 ≤ 3072) (K : ∀ w2, zInv (n + 1) w2 → zA G x code 4 ret room_1 (lw_Y G) 1780 [some (.ref 1000000), some (.ref 0), some (.ref 145), some (.int (nI i))] [] w2 160 8334) : zA G x code 4 ret room_1 (lw_Y G) 1721 [some (.ref 1000000), some (.ref 0), some (.ref 145), some (.int (nI i))] [] w 160 8334 := by
  refine z_aload_1 d_Law_1721 ?_
  refine z_aload_0 d_Law_1722 ?_
  refine z_iload_3 d_Law_1723 ?_
  refine z_iconst (a := nI 1) d_Law_1724 (by decide) ?_
  refine z_iaddN d_Law_1725 ?_
  refine z_sld d_Law_1726 (vp_in_nI (by omega) (by omega)) ?_
  refine z_aload_0 d_Law_1727 ?_
  refine z_iload_3 d_Law_1728 ?_
  refine z_iconst (a := nI 2) d_Law_1729 (by decide) ?_
  refine z_iaddN d_Law_1730 ?_
  refine z_sld d_Law_1731 (vp_in_nI (by omega) (by omega)) ?_
  refine z_Vi2 d_Law_1732 k_Law_222 (zInv_0 h) (L_mean h hn) ⟨Nat.le_of_ble_eq_true rfl, Nat.le_of_ble_eq_true rfl, Nat.le_of_ble_eq_true rfl, Nat.le_of_ble_eq_true rfl⟩ (Nat.le_of_ble_eq_true rfl) ?_
  rintro r w1 ⟨e1, hq⟩
  have s1 : w1.2.2.2[145]? = some (12, 47) := by rw [e1]; exact zInv_m h
  refine z_aload_2 d_Law_1735 ?_
  refine z_aload_0 d_Law_1736 ?_
  refine z_iload_3 d_Law_1737 ?_
  refine z_iconst (a := nI 1) d_Law_1738 (by decide) ?_
  refine z_iaddN d_Law_1739 ?_
  refine z_sld d_Law_1740 (vp_in_nI (by omega) (by omega)) ?_
  refine z_aload_0 d_Law_1741 ?_
  refine z_iload_3 d_Law_1742 ?_
  refine z_iconst (a := nI 2) d_Law_1743 (by decide) ?_
  refine z_iaddN d_Law_1744 ?_
  refine z_sld d_Law_1745 (vp_in_nI (by omega) (by omega)) ?_
  refine z_Vi2 d_Law_1746 k_Law_225 s1 hq ⟨Nat.le_of_ble_eq_true rfl, Nat.le_of_ble_eq_true rfl, Nat.le_of_ble_eq_true rfl, Nat.le_of_ble_eq_true rfl⟩ (Nat.le_of_ble_eq_true rfl) ?_
  rintro r' w2 ⟨rfl, h2⟩
  refine z_icmp_eq (tgt := 1780) d_Law_1749 (by decide) (fun _ => ?_) (fun h => absurd rfl h)
  exact K _ h2
theorem law_49 (h : zInv n w) (hn : n ≤ 600) (hi : i + 6 ≤ G.2.2.2.2.1) (hL : G.2.2.2.2.1 ≤ 3072) (K : ∀ w2, zInv (n + 1) w2 → zA G x code 4 ret room_1 (lw_Y G) 1780 [some (.ref 1000000), some (.ref 0), some (.ref 145), some (.int (nI i))] [] w2 160 8334) : zA G x code 4 ret room_1 (lw_Y G) 1754 [some (.ref 1000000), some (.ref 0), some (.ref 145), some (.int (nI i))] [] w 160 8334 := by
  refine z_aload_1 d_Law_1754 ?_
  refine z_Vi0 d_Law_1755 k_Law_226 (zInv_0 h) (L_mark h) ⟨Nat.le_of_ble_eq_true rfl, Nat.le_of_ble_eq_true rfl, Nat.le_of_ble_eq_true rfl, Nat.le_of_ble_eq_true rfl⟩ (Nat.le_of_ble_eq_true rfl) ?_
  rintro r w1 ⟨e1, hq⟩
  have s1 : w1.2.2.2[145]? = some (12, 47) := by rw [e1]; exact zInv_m h
  refine z_aload_2 d_Law_1758 ?_
  refine z_Vi0 d_Law_1759 k_Law_229 s1 hq ⟨Nat.le_of_ble_eq_true rfl, Nat.le_of_ble_eq_true rfl, Nat.le_of_ble_eq_true rfl, Nat.le_of_ble_eq_true rfl⟩ (Nat.le_of_ble_eq_true rfl) ?_
  rintro r' w2 ⟨rfl, h2⟩
  refine z_icmp_eq (tgt := 1780) d_Law_1762 (by decide) (fun _ => ?_) (fun h => absurd rfl h)
  exact K _ h2
theorem law_50 (h : zInv n w) (hn : n ≤ 600) (hi : i + 6 ≤ G.2.2.2.2.1) (hL : G.2.2.2.2.1 ≤ 3072) (K : ∀ w2, zInv (n + 1) w2 → zA G x code 4 ret room_1 (lw_Y G) 1780 [some (.ref 1000000), some (.ref 0), some (.ref 145), some (.int (nI i))] [] w2 160 8334) : zA G x code 4 ret room_1 (lw_Y G) 1767 [some (.ref 1000000), some (.ref 0), some (.ref 145), some (.int (nI i))] [] w 160 8334 := by
  refine z_aload_1 d_Law_1767 ?_
  refine z_Vi0 d_Law_1768 k_Law_230 (zInv_0 h) (L_back h) ⟨Nat.le_of_ble_eq_true rfl, Nat.le_of_ble_eq_true rfl, Nat.le_of_ble_eq_true rfl, Nat.le_of_ble_eq_true rfl⟩ (Nat.le_of_ble_eq_true rfl) ?_
  rintro r w1 ⟨e1, hq⟩
  have s1 : w1.2.2.2[145]? = some (12, 47) := by rw [e1]; exact zInv_m h
  refine z_aload_2 d_Law_1771 ?_
  refine z_Vi0 d_Law_1772 k_Law_233 s1 hq ⟨Nat.le_of_ble_eq_true rfl, Nat.le_of_ble_eq_true rfl, Nat.le_of_ble_eq_true rfl, Nat.le_of_ble_eq_true rfl⟩ (Nat.le_of_ble_eq_true rfl) ?_
  rintro r' w2 ⟨rfl, h2⟩
  refine z_icmp_eq (tgt := 1780) d_Law_1775 (by decide) (fun _ => ?_) (fun h => absurd rfl h)
  exact K _ h2
end LW1
section LW2
variable {G : zG} {w : zW} {n i : Nat}
theorem law_lp (hL : G.2.2.2.2.1 ≤ 3072) (hE : ∀ lv w, zA G x code 4 ret room_1 (lw_Y G) 1787 lv [.int (nI 1)] w 160 8334) : ∀ m n w, G.2.2.2.2.1 + 6 - 6 * n < m → 6 * n ≤ G.2.2.2.2.1 + 6 → zInv n w → zA G x code 4 ret room_1 (lw_Y G) 18 [some (.ref 1000000), some (.ref 0), some (.ref 145), some (.int (nI (6 * n)))] [] w 160 8334 := by
  intro m
  induction m with
  | zero => intro n w h; exact absurd h (Nat.not_lt_zero _)
  | succ m ih =>
    intro n w hm hn h
    refine z_iload_3 d_Law_18 ?_
    refine z_aload_0 d_Law_19 ?_
    refine z_slen d_Law_20 ?_
    refine z_bipush (a := nI 6) d_Law_21 (by decide) ?_
    refine z_isub d_Law_23 ?_
    have key : nI G.2.2.2.2.1 - nI 6 < nI (6 * n) ↔ G.2.2.2.2.1 < 6 * n + 6 := by
      rw [Int32.lt_iff_toInt_lt, pk_sub_toInt (by omega) (by decide), nI_int (by omega)]
      omega
    refine z_icmp_gt (tgt := 1786) d_Law_24 (by decide) (fun hb => ?_) (fun hb => ?_)
    · refine z_iconst (a := nI 1) d_Law_1786 (by decide) ?_
      exact hE _ _
    rw [key] at hb
    have K : ∀ w2, zInv (n + 1) w2 → zA G x code 4 ret room_1 (lw_Y G) 1780 [some (.ref 1000000), some (.ref 0), some (.ref 145), some (.int (nI (6 * n)))] [] w2 160 8334 := by
      intro w2 h2
      refine z_iinc_3 d_Law_1780 rfl (show nI (6 * n) + Int32.ofInt 6 = nI (6 * (n + 1)) from nI_add (6 * n) 6) ?_
      refine z_goto (tgt := 18) d_Law_1783 (by decide) ?_
      exact ih (n + 1) w2 (by omega) (by omega) h2
    refine z_aload_0 d_Law_27 ?_
    refine z_iload_3 d_Law_28 ?_
    refine z_sld d_Law_29 (vp_in_nI (by omega) (by omega)) ?_
    refine z_bipush (a := nI 63) d_Law_30 (by decide) ?_
    refine z_iand d_Law_32 ?_
    obtain ⟨k, hk, ek⟩ := pk_andE (G.2.2.2.2.2.1 (nI (6 * n)).toNatClampNeg) (m := nI 63) 6 (by decide)
    rw [ek]
    have hn6 : n ≤ 600 := by omega
    have hi6 : 6 * n + 6 ≤ G.2.2.2.2.1 := by omega
    rcases (show k = 0 ∨ k = 1 ∨ k = 2 ∨ k = 3 ∨ k = 4 ∨ k = 5 ∨ k = 6 ∨ k = 7 ∨ k = 8 ∨ k = 9 ∨ k = 10 ∨ k = 11 ∨ k = 12 ∨ k = 13 ∨ k = 14 ∨ k = 15 ∨ k = 16 ∨ k = 17 ∨ k = 18 ∨ k = 19 ∨ k = 20 ∨ k = 21 ∨ k = 22 ∨ k = 23 ∨ k = 24 ∨ k = 25 ∨ k = 26 ∨ k = 27 ∨ k = 28 ∨ k = 29 ∨ k = 30 ∨ k = 31 ∨ k = 32 ∨ k = 33 ∨ k = 34 ∨ k = 35 ∨ k = 36 ∨ k = 37 ∨ k = 38 ∨ k = 39 ∨ k = 40 ∨ k = 41 ∨ k = 42 ∨ k = 43 ∨ k = 44 ∨ k = 45 ∨ k = 46 ∨ k = 47 ∨ k = 48 ∨ k = 49 ∨ k = 50 ∨ 50 < k by omega) with rfl | rfl | rfl | rfl | rfl | rfl | rfl | rfl | rfl | rfl | rfl | rfl | rfl | rfl | rfl | rfl | rfl | rfl | rfl | rfl | rfl | rfl | rfl | rfl | rfl | rfl | rfl | rfl | rfl | rfl | rfl | rfl | rfl | rfl | rfl | rfl | rfl | rfl | rfl | rfl | rfl | rfl | rfl | rfl | rfl | rfl | rfl | rfl | rfl | rfl | rfl | hk5
    · refine z_tableIn (off := 219) (tgt := 252) d_Law_33 (by decide) (by decide) (by decide) (by decide) ?_
      exact law_0 h hn6 hi6 hL K
    · refine z_tableIn (off := 232) (tgt := 265) d_Law_33 (by decide) (by decide) (by decide) (by decide) ?_
      exact law_1 h hn6 hi6 hL K
    · refine z_tableIn (off := 246) (tgt := 279) d_Law_33 (by decide) (by decide) (by decide) (by decide) ?_
      exact law_2 h hn6 hi6 hL K
    · refine z_tableIn (off := 260) (tgt := 293) d_Law_33 (by decide) (by decide) (by decide) (by decide) ?_
      exact law_3 h hn6 hi6 hL K
    · refine z_tableIn (off := 303) (tgt := 336) d_Law_33 (by decide) (by decide) (by decide) (by decide) ?_
      exact law_4 h hn6 hi6 hL K
    · refine z_tableIn (off := 376) (tgt := 409) d_Law_33 (by decide) (by decide) (by decide) (by decide) ?_
      exact law_5 h hn6 hi6 hL K
    · refine z_tableIn (off := 410) (tgt := 443) d_Law_33 (by decide) (by decide) (by decide) (by decide) ?_
      exact law_6 h hn6 hi6 hL K
    · refine z_tableIn (off := 473) (tgt := 506) d_Law_33 (by decide) (by decide) (by decide) (by decide) ?_
      exact law_7 h hn6 hi6 hL K
    · refine z_tableIn (off := 536) (tgt := 569) d_Law_33 (by decide) (by decide) (by decide) (by decide) ?_
      exact law_8 h hn6 hi6 hL K
    · refine z_tableIn (off := 559) (tgt := 592) d_Law_33 (by decide) (by decide) (by decide) (by decide) ?_
      exact law_9 h hn6 hi6 hL K
    · refine z_tableIn (off := 582) (tgt := 615) d_Law_33 (by decide) (by decide) (by decide) (by decide) ?_
      exact law_10 h hn6 hi6 hL K
    · refine z_tableIn (off := 605) (tgt := 638) d_Law_33 (by decide) (by decide) (by decide) (by decide) ?_
      exact law_11 h hn6 hi6 hL K
    · refine z_tableIn (off := 628) (tgt := 661) d_Law_33 (by decide) (by decide) (by decide) (by decide) ?_
      exact law_12 h hn6 hi6 hL K
    · refine z_tableIn (off := 651) (tgt := 684) d_Law_33 (by decide) (by decide) (by decide) (by decide) ?_
      exact law_13 h hn6 hi6 hL K
    · refine z_tableIn (off := 684) (tgt := 717) d_Law_33 (by decide) (by decide) (by decide) (by decide) ?_
      exact law_14 h hn6 hi6 hL K
    · refine z_tableIn (off := 717) (tgt := 750) d_Law_33 (by decide) (by decide) (by decide) (by decide) ?_
      exact law_15 h hn6 hi6 hL K
    · refine z_tableIn (off := 740) (tgt := 773) d_Law_33 (by decide) (by decide) (by decide) (by decide) ?_
      exact law_16 h hn6 hi6 hL K
    · refine z_tableIn (off := 773) (tgt := 806) d_Law_33 (by decide) (by decide) (by decide) (by decide) ?_
      exact law_17 h hn6 hi6 hL K
    · refine z_tableIn (off := 796) (tgt := 829) d_Law_33 (by decide) (by decide) (by decide) (by decide) ?_
      exact law_18 h hn6 hi6 hL K
    · refine z_tableIn (off := 829) (tgt := 862) d_Law_33 (by decide) (by decide) (by decide) (by decide) ?_
      exact law_19 h hn6 hi6 hL K
    · refine z_tableIn (off := 852) (tgt := 885) d_Law_33 (by decide) (by decide) (by decide) (by decide) ?_
      exact law_20 h hn6 hi6 hL K
    · refine z_tableIn (off := 911) (tgt := 944) d_Law_33 (by decide) (by decide) (by decide) (by decide) ?_
      exact law_21 h hn6 hi6 hL K
    · refine z_tableIn (off := 970) (tgt := 1003) d_Law_33 (by decide) (by decide) (by decide) (by decide) ?_
      exact law_22 h hn6 hi6 hL K
    · refine z_tableIn (off := 1003) (tgt := 1036) d_Law_33 (by decide) (by decide) (by decide) (by decide) ?_
      exact law_23 h hn6 hi6 hL K
    · refine z_tableIn (off := 1036) (tgt := 1069) d_Law_33 (by decide) (by decide) (by decide) (by decide) ?_
      exact law_24 h hn6 hi6 hL K
    · refine z_tableIn (off := 1059) (tgt := 1092) d_Law_33 (by decide) (by decide) (by decide) (by decide) ?_
      exact law_25 h hn6 hi6 hL K
    · refine z_tableIn (off := 1092) (tgt := 1125) d_Law_33 (by decide) (by decide) (by decide) (by decide) ?_
      exact law_26 h hn6 hi6 hL K
    · refine z_tableIn (off := 1135) (tgt := 1168) d_Law_33 (by decide) (by decide) (by decide) (by decide) ?_
      exact law_27 h hn6 hi6 hL K
    · refine z_tableIn (off := 1158) (tgt := 1191) d_Law_33 (by decide) (by decide) (by decide) (by decide) ?_
      exact law_28 h hn6 hi6 hL K
    · refine z_tableIn (off := 1181) (tgt := 1214) d_Law_33 (by decide) (by decide) (by decide) (by decide) ?_
      exact law_29 h hn6 hi6 hL K
    · refine z_tableIn (off := 1204) (tgt := 1237) d_Law_33 (by decide) (by decide) (by decide) (by decide) ?_
      exact law_30 h hn6 hi6 hL K
    · refine z_tableIn (off := 1237) (tgt := 1270) d_Law_33 (by decide) (by decide) (by decide) (by decide) ?_
      exact law_31 h hn6 hi6 hL K
    · refine z_tableIn (off := 1260) (tgt := 1293) d_Law_33 (by decide) (by decide) (by decide) (by decide) ?_
      exact law_32 h hn6 hi6 hL K
    · refine z_tableIn (off := 1283) (tgt := 1316) d_Law_33 (by decide) (by decide) (by decide) (by decide) ?_
      exact law_33 h hn6 hi6 hL K
    · refine z_tableIn (off := 1316) (tgt := 1349) d_Law_33 (by decide) (by decide) (by decide) (by decide) ?_
      exact law_34 h hn6 hi6 hL K
    · refine z_tableIn (off := 1329) (tgt := 1362) d_Law_33 (by decide) (by decide) (by decide) (by decide) ?_
      exact law_35 h hn6 hi6 hL K
    · refine z_tableIn (off := 1342) (tgt := 1375) d_Law_33 (by decide) (by decide) (by decide) (by decide) ?_
      exact law_36 h hn6 hi6 hL K
    · refine z_tableIn (off := 1355) (tgt := 1388) d_Law_33 (by decide) (by decide) (by decide) (by decide) ?_
      exact law_37 h hn6 hi6 hL K
    · refine z_tableIn (off := 1368) (tgt := 1401) d_Law_33 (by decide) (by decide) (by decide) (by decide) ?_
      exact law_38 h hn6 hi6 hL K
    · refine z_tableIn (off := 1391) (tgt := 1424) d_Law_33 (by decide) (by decide) (by decide) (by decide) ?_
      exact law_39 h hn6 hi6 hL K
    · refine z_tableIn (off := 1424) (tgt := 1457) d_Law_33 (by decide) (by decide) (by decide) (by decide) ?_
      exact law_40 h hn6 hi6 hL K
    · refine z_tableIn (off := 1457) (tgt := 1490) d_Law_33 (by decide) (by decide) (by decide) (by decide) ?_
      exact law_41 h hn6 hi6 hL K
    · refine z_tableIn (off := 1490) (tgt := 1523) d_Law_33 (by decide) (by decide) (by decide) (by decide) ?_
      exact law_42 h hn6 hi6 hL K
    · refine z_tableIn (off := 1533) (tgt := 1566) d_Law_33 (by decide) (by decide) (by decide) (by decide) ?_
      exact law_43 h hn6 hi6 hL K
    · refine z_tableIn (off := 1586) (tgt := 1619) d_Law_33 (by decide) (by decide) (by decide) (by decide) ?_
      exact law_44 h hn6 hi6 hL K
    · refine z_tableIn (off := 1619) (tgt := 1652) d_Law_33 (by decide) (by decide) (by decide) (by decide) ?_
      exact law_45 h hn6 hi6 hL K
    · refine z_tableIn (off := 1642) (tgt := 1675) d_Law_33 (by decide) (by decide) (by decide) (by decide) ?_
      exact law_46 h hn6 hi6 hL K
    · refine z_tableIn (off := 1665) (tgt := 1698) d_Law_33 (by decide) (by decide) (by decide) (by decide) ?_
      exact law_47 h hn6 hi6 hL K
    · refine z_tableIn (off := 1688) (tgt := 1721) d_Law_33 (by decide) (by decide) (by decide) (by decide) ?_
      exact law_48 h hn6 hi6 hL K
    · refine z_tableIn (off := 1721) (tgt := 1754) d_Law_33 (by decide) (by decide) (by decide) (by decide) ?_
      exact law_49 h hn6 hi6 hL K
    · refine z_tableIn (off := 1734) (tgt := 1767) d_Law_33 (by decide) (by decide) (by decide) (by decide) ?_
      exact law_50 h hn6 hi6 hL K
    · refine z_tableOut (tgt := 1780) d_Law_33 (Or.inr (by rw [nI_int (by omega)]; omega)) (by decide) ?_
      refine z_iinc_3 d_Law_1780 rfl (show nI (6 * n) + Int32.ofInt 6 = nI (6 * (n + 1)) from nI_add (6 * n) 6) ?_
      refine z_goto (tgt := 18) d_Law_1783 (by decide) ?_
      exact ih (n + 1) w (by omega) (by omega) (zInv_up h)
end LW2
