/-! the law's cases -/
theorem ds_7 {a0 a1 a2 a3 a4 a5 a6 : Option Value} {x : UInt64} : ∀ (j : Nat) (v : Value), [a0, a1, a2, a3, a4, a5, a6, some (.double x), none, none][j]? = some (some v) → (j = 7 ∧ v = .double x) ∨ (j ≠ 7 ∧ j ≠ 7 + 1 ∧ [a0, a1, a2, a3, a4, a5, a6, none, none, none][j]? = some (some v)) := fun j v hj => by
  match j, hj with
  | 0, h => exact Or.inr ⟨by decide, by decide, h⟩
  | 1, h => exact Or.inr ⟨by decide, by decide, h⟩
  | 2, h => exact Or.inr ⟨by decide, by decide, h⟩
  | 3, h => exact Or.inr ⟨by decide, by decide, h⟩
  | 4, h => exact Or.inr ⟨by decide, by decide, h⟩
  | 5, h => exact Or.inr ⟨by decide, by decide, h⟩
  | 6, h => exact Or.inr ⟨by decide, by decide, h⟩
  | 7, h => cases h; exact Or.inl ⟨rfl, rfl⟩
  | 8, h => cases h
  | 9, h => cases h
  | k + 10, h => cases h
theorem ds_6 {a0 a1 a2 a3 a4 a5 : Option Value} {x : UInt64} : ∀ (j : Nat) (v : Value), [a0, a1, a2, a3, a4, a5, some (.double x), none, none, none][j]? = some (some v) → (j = 6 ∧ v = .double x) ∨ (j ≠ 6 ∧ j ≠ 6 + 1 ∧ [a0, a1, a2, a3, a4, a5, none, none, none, none][j]? = some (some v)) := fun j v hj => by
  match j, hj with
  | 0, h => exact Or.inr ⟨by decide, by decide, h⟩
  | 1, h => exact Or.inr ⟨by decide, by decide, h⟩
  | 2, h => exact Or.inr ⟨by decide, by decide, h⟩
  | 3, h => exact Or.inr ⟨by decide, by decide, h⟩
  | 4, h => exact Or.inr ⟨by decide, by decide, h⟩
  | 5, h => exact Or.inr ⟨by decide, by decide, h⟩
  | 6, h => cases h; exact Or.inl ⟨rfl, rfl⟩
  | 7, h => cases h
  | 8, h => cases h
  | 9, h => cases h
  | k + 10, h => cases h
theorem ds_8 {a0 a1 a2 a3 a4 a5 a6 a7 : Option Value} {x : UInt64} : ∀ (j : Nat) (v : Value), [a0, a1, a2, a3, a4, a5, a6, a7, some (.double x), none][j]? = some (some v) → (j = 8 ∧ v = .double x) ∨ (j ≠ 8 ∧ j ≠ 8 + 1 ∧ [a0, a1, a2, a3, a4, a5, a6, a7, none, none][j]? = some (some v)) := fun j v hj => by
  match j, hj with
  | 0, h => exact Or.inr ⟨by decide, by decide, h⟩
  | 1, h => exact Or.inr ⟨by decide, by decide, h⟩
  | 2, h => exact Or.inr ⟨by decide, by decide, h⟩
  | 3, h => exact Or.inr ⟨by decide, by decide, h⟩
  | 4, h => exact Or.inr ⟨by decide, by decide, h⟩
  | 5, h => exact Or.inr ⟨by decide, by decide, h⟩
  | 6, h => exact Or.inr ⟨by decide, by decide, h⟩
  | 7, h => exact Or.inr ⟨by decide, by decide, h⟩
  | 8, h => cases h; exact Or.inl ⟨rfl, rfl⟩
  | 9, h => cases h
  | k + 10, h => cases h
theorem ev_le {G : GX} {d b b2 : Nat} {M : MT} {pc : Nat} {ls : List (Option Value)} {st : List Value} {w : WS} {Z : ZT} (hb : b ≤ b2) (K : Ev G d b M pc ls st w Z) : Ev G d b2 M pc ls st w Z := by
  intro p e R s m args below meth c H locs cells slots lsA C r hP hS hL
  exact K p e R s m args below meth c H locs cells slots lsA C ⟨r.1, r.2.1, by have := r.2.2.1; omega, by have := r.2.2.2; omega⟩ hP hS hL
theorem i2c_c (x : Int32) : ∃ c : Nat, c < 65536 ∧ (x.toUInt32 % 65536).toInt32 = nI c := ⟨_, Nat.mod_lt _ (by decide), pk_char x⟩
set_option maxRecDepth 4000 in
theorem lc_0 {G : GX} {w : WS} {A : AS} {b i : Nat} (h : LI A w) (hi : i + 2 < gN G) (hN : gN G ≤ 1536) {Z : ZT} (K : ∀ A2 w2, LI A2 w2 → Ev G 70 b mL_law 2585 (lq_ i) [] w2 Z) : Ev G 70 (b + 1) mL_law 228 (lq_ i) [] w Z := by
  refine ev_aload_n dL_law_228 rfl ?_
  refine ev_aload_n dL_law_229 rfl ?_
  refine ev_iload dL_law_230 rfl ?_
  refine ev_iconst dL_law_232 ic1 ?_
  refine ev_iadd dL_law_233 ?_
  first | refine ev_top (nI_add _ _) ?_ | skip
  refine ev_sload dL_law_234 rfl (by omega) hN ?_
  refine ev_aload_n dL_law_235 rfl ?_
  refine ev_iload dL_law_236 rfl ?_
  refine ev_iconst dL_law_238 ic2 ?_
  refine ev_iadd dL_law_239 ?_
  first | refine ev_top (nI_add _ _) ?_ | skip
  refine ev_sload dL_law_240 rfl (by omega) hN ?_
  refine ev_aload_n dL_law_241 rfl ?_
  obtain ⟨_, w1, ⟨rfl, hA1, hc1, hv1⟩, hB1⟩ := hL_paint (G := G) h.1 (gX G (i + 1)) (gX G (i + 2))
  refine ev_callSW kL_145 hB1 dL_law_242 rfl (by decide) (Nat.le_add_left 1 b) rfl ?_
  refine ev_ist6 dL_law_245 (by decide) rfl ?_
  refine ev_aload_n dL_law_247 rfl ?_
  refine ev_aload_n dL_law_248 rfl ?_
  refine ev_iload dL_law_249 rfl ?_
  refine ev_iconst dL_law_251 ic1 ?_
  refine ev_iadd dL_law_252 ?_
  first | refine ev_top (nI_add _ _) ?_ | skip
  refine ev_sload dL_law_253 rfl (by omega) hN ?_
  refine ev_aload_n dL_law_254 rfl ?_
  refine ev_iload dL_law_255 rfl ?_
  refine ev_iconst dL_law_257 ic2 ?_
  refine ev_iadd dL_law_258 ?_
  first | refine ev_top (nI_add _ _) ?_ | skip
  refine ev_sload dL_law_259 rfl (by omega) hN ?_
  obtain ⟨_, w2, ⟨v, rfl, hv2, h6, hm2, hf2⟩, hB2⟩ := gX12_paint (G := G) (mX_k h.2.1 hc1) (gX G (i + 1)) (gX G (i + 2))
  refine ev_callV kL_150 co115 hB2 dL_law_260 rfl (by decide) (Nat.zero_le _) rfl ?_
  refine ev_ist7 dL_law_263 (by decide) rfl ?_
  refine ev_aload_n dL_law_265 rfl ?_
  refine ev_callV kL_151 co115 (qX12_thrown h6) dL_law_266 rfl (by decide) (Nat.zero_le _) rfl ?_
  refine ev_iload dL_law_269 rfl ?_
  refine ev_icmp_eq_t (tgt := 276) dL_law_271 (by decide) rfl ?_
  refine ev_iload dL_law_276 rfl ?_
  refine ev_if_ne (tgt := 293) dL_law_278 (by decide) (fun hc278 => ?_) (fun hc278 => ?_)
  · refine ev_goto (tgt := 2585) dL_law_293 (by decide) ?_
    exact lq_fg (K _ w2 (li_of hA1 hf2 hm2 (ca_paint h.2.2 h.1.1.2)))
  · refine ev_aload_n dL_law_281 rfl ?_
    refine ev_iconst dL_law_282 ic0 ?_
    have hk0 : (spPaint A (gX G (i + 1)) (gX G (i + 2))).1.1 = 0 := nI_inj (Nat.lt_of_le_of_lt le_paint (by decide)) (by decide) hc278
    refine ev_laload dL_law_283 rfl ?_
    refine ev_iload dL_law_284 rfl ?_
    refine ev_i2l dL_law_286 ?_
    refine ev_lcmp dL_law_287 ?_
    refine ev_if_eq_t (tgt := 293) dL_law_288 (by decide) (lc_v hv1 hv2 hf2.2 hk0) ?_
    refine ev_goto (tgt := 2585) dL_law_293 (by decide) ?_
    exact lq_fg (K _ w2 (li_of hA1 hf2 hm2 (ca_paint h.2.2 h.1.1.2)))
set_option maxRecDepth 4000 in
theorem lc_1 {G : GX} {w : WS} {A : AS} {b i : Nat} (h : LI A w) (hi : i + 2 < gN G) (hN : gN G ≤ 1536) {Z : ZT} (K : ∀ A2 w2, LI A2 w2 → Ev G 70 b mL_law 2585 (lq_ i) [] w2 Z) : Ev G 70 (b + 1) mL_law 296 (lq_ i) [] w Z := by
  refine ev_aload_n dL_law_296 rfl ?_
  refine ev_aload_n dL_law_297 rfl ?_
  refine ev_iload dL_law_298 rfl ?_
  refine ev_iconst dL_law_300 ic1 ?_
  refine ev_iadd dL_law_301 ?_
  first | refine ev_top (nI_add _ _) ?_ | skip
  refine ev_sload dL_law_302 rfl (by omega) hN ?_
  refine ev_aload_n dL_law_303 rfl ?_
  refine ev_iload dL_law_304 rfl ?_
  refine ev_iconst dL_law_306 ic2 ?_
  refine ev_iadd dL_law_307 ?_
  first | refine ev_top (nI_add _ _) ?_ | skip
  refine ev_sload dL_law_308 rfl (by omega) hN ?_
  refine ev_aload_n dL_law_309 rfl ?_
  obtain ⟨_, w1, ⟨rfl, hA1, hc1, hv1⟩, hB1⟩ := hL_shave (G := G) h.1 (gX G (i + 1)) (gX G (i + 2))
  refine ev_callSW kL_154 hB1 dL_law_310 rfl (by decide) (Nat.le_add_left 1 b) rfl ?_
  refine ev_ist6 dL_law_313 (by decide) rfl ?_
  refine ev_aload_n dL_law_315 rfl ?_
  refine ev_aload_n dL_law_316 rfl ?_
  refine ev_iload dL_law_317 rfl ?_
  refine ev_iconst dL_law_319 ic1 ?_
  refine ev_iadd dL_law_320 ?_
  first | refine ev_top (nI_add _ _) ?_ | skip
  refine ev_sload dL_law_321 rfl (by omega) hN ?_
  refine ev_aload_n dL_law_322 rfl ?_
  refine ev_iload dL_law_323 rfl ?_
  refine ev_iconst dL_law_325 ic2 ?_
  refine ev_iadd dL_law_326 ?_
  first | refine ev_top (nI_add _ _) ?_ | skip
  refine ev_sload dL_law_327 rfl (by omega) hN ?_
  obtain ⟨_, w2, ⟨v, rfl, hv2, h6, hm2, hf2⟩, hB2⟩ := gX12_shave (G := G) (mX_k h.2.1 hc1) (gX G (i + 1)) (gX G (i + 2))
  refine ev_callV kL_156 co115 hB2 dL_law_328 rfl (by decide) (Nat.zero_le _) rfl ?_
  refine ev_ist7 dL_law_331 (by decide) rfl ?_
  refine ev_aload_n dL_law_333 rfl ?_
  refine ev_callV kL_151 co115 (qX12_thrown h6) dL_law_334 rfl (by decide) (Nat.zero_le _) rfl ?_
  refine ev_iload dL_law_337 rfl ?_
  refine ev_icmp_eq_t (tgt := 344) dL_law_339 (by decide) rfl ?_
  refine ev_iload dL_law_344 rfl ?_
  refine ev_if_ne (tgt := 361) dL_law_346 (by decide) (fun hc346 => ?_) (fun hc346 => ?_)
  · refine ev_goto (tgt := 2585) dL_law_361 (by decide) ?_
    exact lq_fg (K _ w2 (li_of hA1 hf2 hm2 (ca_shave h.2.2 h.1.1.2)))
  · refine ev_aload_n dL_law_349 rfl ?_
    refine ev_iconst dL_law_350 ic0 ?_
    have hk0 : (spShave A (gX G (i + 1)) (gX G (i + 2))).1.1 = 0 := nI_inj (Nat.lt_of_le_of_lt le_shave (by decide)) (by decide) hc346
    refine ev_laload dL_law_351 rfl ?_
    refine ev_iload dL_law_352 rfl ?_
    refine ev_i2l dL_law_354 ?_
    refine ev_lcmp dL_law_355 ?_
    refine ev_if_eq_t (tgt := 361) dL_law_356 (by decide) (lc_v hv1 hv2 hf2.2 hk0) ?_
    refine ev_goto (tgt := 2585) dL_law_361 (by decide) ?_
    exact lq_fg (K _ w2 (li_of hA1 hf2 hm2 (ca_shave h.2.2 h.1.1.2)))
set_option maxRecDepth 4000 in
theorem lc_2 {G : GX} {w : WS} {A : AS} {b i : Nat} (h : LI A w) (hi : i + 2 < gN G) (hN : gN G ≤ 1536) {Z : ZT} (K : ∀ A2 w2, LI A2 w2 → Ev G 70 b mL_law 2585 (lq_ i) [] w2 Z) : Ev G 70 (b + 1) mL_law 364 (lq_ i) [] w Z := by
  refine ev_aload_n dL_law_364 rfl ?_
  refine ev_aload_n dL_law_365 rfl ?_
  refine ev_iload dL_law_366 rfl ?_
  refine ev_iconst dL_law_368 ic1 ?_
  refine ev_iadd dL_law_369 ?_
  first | refine ev_top (nI_add _ _) ?_ | skip
  refine ev_sload dL_law_370 rfl (by omega) hN ?_
  refine ev_aload_n dL_law_371 rfl ?_
  obtain ⟨_, w1, ⟨rfl, hA1, hc1, hv1⟩, hB1⟩ := hL_scale (G := G) h.1 (gX G (i + 1))
  refine ev_callSW kL_157 hB1 dL_law_372 rfl (by decide) (Nat.le_add_left 1 b) rfl ?_
  refine ev_ist6 dL_law_375 (by decide) rfl ?_
  refine ev_aload_n dL_law_377 rfl ?_
  refine ev_aload_n dL_law_378 rfl ?_
  refine ev_iload dL_law_379 rfl ?_
  refine ev_iconst dL_law_381 ic1 ?_
  refine ev_iadd dL_law_382 ?_
  first | refine ev_top (nI_add _ _) ?_ | skip
  refine ev_sload dL_law_383 rfl (by omega) hN ?_
  obtain ⟨_, w2, ⟨v, rfl, hv2, h6, hm2, hf2⟩, hB2⟩ := gX12_scale (G := G) (mX_k h.2.1 hc1) (gX G (i + 1))
  refine ev_callV kL_160 co115 hB2 dL_law_384 rfl (by decide) (Nat.zero_le _) rfl ?_
  refine ev_ist7 dL_law_387 (by decide) rfl ?_
  refine ev_aload_n dL_law_389 rfl ?_
  refine ev_callV kL_151 co115 (qX12_thrown h6) dL_law_390 rfl (by decide) (Nat.zero_le _) rfl ?_
  refine ev_iload dL_law_393 rfl ?_
  refine ev_icmp_eq_t (tgt := 400) dL_law_395 (by decide) rfl ?_
  refine ev_iload dL_law_400 rfl ?_
  refine ev_if_ne (tgt := 417) dL_law_402 (by decide) (fun hc402 => ?_) (fun hc402 => ?_)
  · refine ev_goto (tgt := 2585) dL_law_417 (by decide) ?_
    exact lq_fg (K _ w2 (li_of hA1 hf2 hm2 (ca_scale h.2.2 h.1.1.2)))
  · refine ev_aload_n dL_law_405 rfl ?_
    refine ev_iconst dL_law_406 ic0 ?_
    have hk0 : (spScale A (gX G (i + 1))).1.1 = 0 := nI_inj (Nat.lt_of_le_of_lt le_scale (by decide)) (by decide) hc402
    refine ev_laload dL_law_407 rfl ?_
    refine ev_iload dL_law_408 rfl ?_
    refine ev_i2l dL_law_410 ?_
    refine ev_lcmp dL_law_411 ?_
    refine ev_if_eq_t (tgt := 417) dL_law_412 (by decide) (lc_v hv1 hv2 hf2.2 hk0) ?_
    refine ev_goto (tgt := 2585) dL_law_417 (by decide) ?_
    exact lq_fg (K _ w2 (li_of hA1 hf2 hm2 (ca_scale h.2.2 h.1.1.2)))
set_option maxRecDepth 4000 in
theorem lc_3 {G : GX} {w : WS} {A : AS} {b i : Nat} (h : LI A w) (hi : i + 2 < gN G) (hN : gN G ≤ 1536) {Z : ZT} (K : ∀ A2 w2, LI A2 w2 → Ev G 70 b mL_law 2585 (lq_ i) [] w2 Z) : Ev G 70 (b + 1) mL_law 420 (lq_ i) [] w Z := by
  refine ev_aload_n dL_law_420 rfl ?_
  refine ev_aload_n dL_law_421 rfl ?_
  refine ev_iload dL_law_422 rfl ?_
  refine ev_iconst dL_law_424 ic1 ?_
  refine ev_iadd dL_law_425 ?_
  first | refine ev_top (nI_add _ _) ?_ | skip
  refine ev_sload dL_law_426 rfl (by omega) hN ?_
  refine ev_aload_n dL_law_427 rfl ?_
  refine ev_iload dL_law_428 rfl ?_
  refine ev_iconst dL_law_430 ic2 ?_
  refine ev_iadd dL_law_431 ?_
  first | refine ev_top (nI_add _ _) ?_ | skip
  refine ev_sload dL_law_432 rfl (by omega) hN ?_
  refine ev_aload_n dL_law_433 rfl ?_
  obtain ⟨_, w1, ⟨rfl, hA1, hc1, hv1⟩, hB1⟩ := hL_river (G := G) h.1 (gX G (i + 1)) (gX G (i + 2))
  refine ev_callSW kL_161 hB1 dL_law_434 rfl (by decide) (Nat.le_add_left 1 b) rfl ?_
  refine ev_ist6 dL_law_437 (by decide) rfl ?_
  refine ev_aload_n dL_law_439 rfl ?_
  refine ev_aload_n dL_law_440 rfl ?_
  refine ev_iload dL_law_441 rfl ?_
  refine ev_iconst dL_law_443 ic1 ?_
  refine ev_iadd dL_law_444 ?_
  first | refine ev_top (nI_add _ _) ?_ | skip
  refine ev_sload dL_law_445 rfl (by omega) hN ?_
  refine ev_aload_n dL_law_446 rfl ?_
  refine ev_iload dL_law_447 rfl ?_
  refine ev_iconst dL_law_449 ic2 ?_
  refine ev_iadd dL_law_450 ?_
  first | refine ev_top (nI_add _ _) ?_ | skip
  refine ev_sload dL_law_451 rfl (by omega) hN ?_
  obtain ⟨_, w2, ⟨v, rfl, hv2, h6, hm2, hf2⟩, hB2⟩ := gX12_river (G := G) (mX_k h.2.1 hc1) (gX G (i + 1)) (gX G (i + 2))
  refine ev_callV kL_163 co115 hB2 dL_law_452 rfl (by decide) (Nat.zero_le _) rfl ?_
  refine ev_ist7 dL_law_455 (by decide) rfl ?_
  refine ev_aload_n dL_law_457 rfl ?_
  refine ev_callV kL_151 co115 (qX12_thrown h6) dL_law_458 rfl (by decide) (Nat.zero_le _) rfl ?_
  refine ev_iload dL_law_461 rfl ?_
  refine ev_icmp_eq_t (tgt := 468) dL_law_463 (by decide) rfl ?_
  refine ev_iload dL_law_468 rfl ?_
  refine ev_if_ne (tgt := 485) dL_law_470 (by decide) (fun hc470 => ?_) (fun hc470 => ?_)
  · refine ev_goto (tgt := 2585) dL_law_485 (by decide) ?_
    exact lq_fg (K _ w2 (li_of hA1 hf2 hm2 (ca_river h.2.2 h.1.1.2)))
  · refine ev_aload_n dL_law_473 rfl ?_
    refine ev_iconst dL_law_474 ic0 ?_
    have hk0 : (spRiver A (gX G (i + 1)) (gX G (i + 2))).1.1 = 0 := nI_inj (Nat.lt_of_le_of_lt le_river (by decide)) (by decide) hc470
    refine ev_laload dL_law_475 rfl ?_
    refine ev_iload dL_law_476 rfl ?_
    refine ev_i2l dL_law_478 ?_
    refine ev_lcmp dL_law_479 ?_
    refine ev_if_eq_t (tgt := 485) dL_law_480 (by decide) (lc_v hv1 hv2 hf2.2 hk0) ?_
    refine ev_goto (tgt := 2585) dL_law_485 (by decide) ?_
    exact lq_fg (K _ w2 (li_of hA1 hf2 hm2 (ca_river h.2.2 h.1.1.2)))
set_option maxRecDepth 4000 in
theorem lc_4 {G : GX} {w : WS} {A : AS} {b i : Nat} (h : LI A w) (hi : i + 2 < gN G) (hN : gN G ≤ 1536) {Z : ZT} (K : ∀ A2 w2, LI A2 w2 → Ev G 70 b mL_law 2585 (lq_ i) [] w2 Z) : Ev G 70 (b + 1) mL_law 488 (lq_ i) [] w Z := by
  refine ev_aload_n dL_law_488 rfl ?_
  refine ev_aload_n dL_law_489 rfl ?_
  refine ev_iload dL_law_490 rfl ?_
  refine ev_iconst dL_law_492 ic1 ?_
  refine ev_iadd dL_law_493 ?_
  first | refine ev_top (nI_add _ _) ?_ | skip
  refine ev_sload dL_law_494 rfl (by omega) hN ?_
  refine ev_aload_n dL_law_495 rfl ?_
  obtain ⟨_, w1, ⟨rfl, hA1, hc1, hv1⟩, hB1⟩ := hL_drop (G := G) h.1 (gX G (i + 1))
  refine ev_callSW kL_164 hB1 dL_law_496 rfl (by decide) (Nat.le_add_left 1 b) rfl ?_
  refine ev_ist6 dL_law_499 (by decide) rfl ?_
  refine ev_aload_n dL_law_501 rfl ?_
  refine ev_aload_n dL_law_502 rfl ?_
  refine ev_iload dL_law_503 rfl ?_
  refine ev_iconst dL_law_505 ic1 ?_
  refine ev_iadd dL_law_506 ?_
  first | refine ev_top (nI_add _ _) ?_ | skip
  refine ev_sload dL_law_507 rfl (by omega) hN ?_
  obtain ⟨_, w2, ⟨v, rfl, hv2, h6, hm2, hf2⟩, hB2⟩ := gX12_drop (G := G) (mX_k h.2.1 hc1) (gX G (i + 1))
  refine ev_callV kL_166 co115 hB2 dL_law_508 rfl (by decide) (Nat.zero_le _) rfl ?_
  refine ev_ist7 dL_law_511 (by decide) rfl ?_
  refine ev_aload_n dL_law_513 rfl ?_
  refine ev_callV kL_151 co115 (qX12_thrown h6) dL_law_514 rfl (by decide) (Nat.zero_le _) rfl ?_
  refine ev_iload dL_law_517 rfl ?_
  refine ev_icmp_eq_t (tgt := 524) dL_law_519 (by decide) rfl ?_
  refine ev_iload dL_law_524 rfl ?_
  refine ev_if_ne (tgt := 541) dL_law_526 (by decide) (fun hc526 => ?_) (fun hc526 => ?_)
  · refine ev_goto (tgt := 2585) dL_law_541 (by decide) ?_
    exact lq_fg (K _ w2 (li_of hA1 hf2 hm2 (ca_drop h.2.2 h.1.1.2)))
  · refine ev_aload_n dL_law_529 rfl ?_
    refine ev_iconst dL_law_530 ic0 ?_
    have hk0 : (spDrop A (gX G (i + 1))).1.1 = 0 := nI_inj (Nat.lt_of_le_of_lt le_drop (by decide)) (by decide) hc526
    refine ev_laload dL_law_531 rfl ?_
    refine ev_iload dL_law_532 rfl ?_
    refine ev_i2l dL_law_534 ?_
    refine ev_lcmp dL_law_535 ?_
    refine ev_if_eq_t (tgt := 541) dL_law_536 (by decide) (lc_v hv1 hv2 hf2.2 hk0) ?_
    refine ev_goto (tgt := 2585) dL_law_541 (by decide) ?_
    exact lq_fg (K _ w2 (li_of hA1 hf2 hm2 (ca_drop h.2.2 h.1.1.2)))
set_option maxRecDepth 4000 in
theorem lc_5 {G : GX} {w : WS} {A : AS} {b i : Nat} (h : LI A w) (hi : i + 2 < gN G) (hN : gN G ≤ 1536) {Z : ZT} (K : ∀ A2 w2, LI A2 w2 → Ev G 70 b mL_law 2585 (lq_ i) [] w2 Z) : Ev G 70 (b + 1) mL_law 544 (lq_ i) [] w Z := by
  refine ev_aload_n dL_law_544 rfl ?_
  refine ev_aload_n dL_law_545 rfl ?_
  refine ev_iload dL_law_546 rfl ?_
  refine ev_iconst dL_law_548 ic1 ?_
  refine ev_iadd dL_law_549 ?_
  first | refine ev_top (nI_add _ _) ?_ | skip
  refine ev_sload dL_law_550 rfl (by omega) hN ?_
  refine ev_aload_n dL_law_551 rfl ?_
  refine ev_iload dL_law_552 rfl ?_
  refine ev_iconst dL_law_554 ic2 ?_
  refine ev_iadd dL_law_555 ?_
  first | refine ev_top (nI_add _ _) ?_ | skip
  refine ev_sload dL_law_556 rfl (by omega) hN ?_
  refine ev_aload_n dL_law_557 rfl ?_
  obtain ⟨_, w1, ⟨rfl, hA1, hc1, hv1⟩, hB1⟩ := hL_dragon (G := G) h.1 (gX G (i + 1)) (gX G (i + 2))
  refine ev_callSW kL_167 hB1 dL_law_558 rfl (by decide) (Nat.le_add_left 1 b) rfl ?_
  refine ev_ist6 dL_law_561 (by decide) rfl ?_
  refine ev_aload_n dL_law_563 rfl ?_
  refine ev_aload_n dL_law_564 rfl ?_
  refine ev_iload dL_law_565 rfl ?_
  refine ev_iconst dL_law_567 ic1 ?_
  refine ev_iadd dL_law_568 ?_
  first | refine ev_top (nI_add _ _) ?_ | skip
  refine ev_sload dL_law_569 rfl (by omega) hN ?_
  refine ev_aload_n dL_law_570 rfl ?_
  refine ev_iload dL_law_571 rfl ?_
  refine ev_iconst dL_law_573 ic2 ?_
  refine ev_iadd dL_law_574 ?_
  first | refine ev_top (nI_add _ _) ?_ | skip
  refine ev_sload dL_law_575 rfl (by omega) hN ?_
  obtain ⟨_, w2, ⟨v, rfl, hv2, h6, hm2, hf2⟩, hB2⟩ := gX12_dragon (G := G) (mX_k h.2.1 hc1) (gX G (i + 1)) (gX G (i + 2))
  refine ev_callV kL_169 co115 hB2 dL_law_576 rfl (by decide) (Nat.zero_le _) rfl ?_
  refine ev_ist7 dL_law_579 (by decide) rfl ?_
  refine ev_aload_n dL_law_581 rfl ?_
  refine ev_callV kL_151 co115 (qX12_thrown h6) dL_law_582 rfl (by decide) (Nat.zero_le _) rfl ?_
  refine ev_iload dL_law_585 rfl ?_
  refine ev_icmp_eq_t (tgt := 592) dL_law_587 (by decide) rfl ?_
  refine ev_iload dL_law_592 rfl ?_
  refine ev_if_ne (tgt := 609) dL_law_594 (by decide) (fun hc594 => ?_) (fun hc594 => ?_)
  · refine ev_goto (tgt := 2585) dL_law_609 (by decide) ?_
    exact lq_fg (K _ w2 (li_of hA1 hf2 hm2 (ca_dragon h.2.2 h.1.1.2)))
  · refine ev_aload_n dL_law_597 rfl ?_
    refine ev_iconst dL_law_598 ic0 ?_
    have hk0 : (spDragon A (gX G (i + 1)) (gX G (i + 2))).1.1 = 0 := nI_inj (Nat.lt_of_le_of_lt le_dragon (by decide)) (by decide) hc594
    refine ev_laload dL_law_599 rfl ?_
    refine ev_iload dL_law_600 rfl ?_
    refine ev_i2l dL_law_602 ?_
    refine ev_lcmp dL_law_603 ?_
    refine ev_if_eq_t (tgt := 609) dL_law_604 (by decide) (lc_v hv1 hv2 hf2.2 hk0) ?_
    refine ev_goto (tgt := 2585) dL_law_609 (by decide) ?_
    exact lq_fg (K _ w2 (li_of hA1 hf2 hm2 (ca_dragon h.2.2 h.1.1.2)))
set_option maxRecDepth 4000 in
theorem lc_6 {G : GX} {w : WS} {A : AS} {b i : Nat} (h : LI A w) (hi : i + 2 < gN G) (hN : gN G ≤ 1536) {Z : ZT} (K : ∀ A2 w2, LI A2 w2 → Ev G 70 b mL_law 2585 (lq_ i) [] w2 Z) : Ev G 70 (b + 1) mL_law 612 (lq_ i) [] w Z := by
  refine ev_aload_n dL_law_612 rfl ?_
  refine ev_aload_n dL_law_613 rfl ?_
  refine ev_iload dL_law_614 rfl ?_
  refine ev_iconst dL_law_616 ic1 ?_
  refine ev_iadd dL_law_617 ?_
  first | refine ev_top (nI_add _ _) ?_ | skip
  refine ev_sload dL_law_618 rfl (by omega) hN ?_
  refine ev_aload_n dL_law_619 rfl ?_
  obtain ⟨_, w1, ⟨rfl, hA1, hc1, hv1⟩, hB1⟩ := hL_scare (G := G) h.1 (gX G (i + 1))
  refine ev_callSW kL_170 hB1 dL_law_620 rfl (by decide) (Nat.le_add_left 1 b) rfl ?_
  refine ev_ist6 dL_law_623 (by decide) rfl ?_
  refine ev_aload_n dL_law_625 rfl ?_
  refine ev_aload_n dL_law_626 rfl ?_
  refine ev_iload dL_law_627 rfl ?_
  refine ev_iconst dL_law_629 ic1 ?_
  refine ev_iadd dL_law_630 ?_
  first | refine ev_top (nI_add _ _) ?_ | skip
  refine ev_sload dL_law_631 rfl (by omega) hN ?_
  obtain ⟨_, w2, ⟨v, rfl, hv2, h6, hm2, hf2⟩, hB2⟩ := gX12_scare (G := G) (mX_k h.2.1 hc1) (gX G (i + 1))
  refine ev_callV kL_172 co115 hB2 dL_law_632 rfl (by decide) (Nat.zero_le _) rfl ?_
  refine ev_ist7 dL_law_635 (by decide) rfl ?_
  refine ev_aload_n dL_law_637 rfl ?_
  refine ev_callV kL_151 co115 (qX12_thrown h6) dL_law_638 rfl (by decide) (Nat.zero_le _) rfl ?_
  refine ev_iload dL_law_641 rfl ?_
  refine ev_icmp_eq_t (tgt := 648) dL_law_643 (by decide) rfl ?_
  refine ev_iload dL_law_648 rfl ?_
  refine ev_if_ne (tgt := 665) dL_law_650 (by decide) (fun hc650 => ?_) (fun hc650 => ?_)
  · refine ev_goto (tgt := 2585) dL_law_665 (by decide) ?_
    exact lq_fg (K _ w2 (li_of hA1 hf2 hm2 (ca_scare h.2.2 h.1.1.2)))
  · refine ev_aload_n dL_law_653 rfl ?_
    refine ev_iconst dL_law_654 ic0 ?_
    have hk0 : (spScare A (gX G (i + 1))).1.1 = 0 := nI_inj (Nat.lt_of_le_of_lt le_scare (by decide)) (by decide) hc650
    refine ev_laload dL_law_655 rfl ?_
    refine ev_iload dL_law_656 rfl ?_
    refine ev_i2l dL_law_658 ?_
    refine ev_lcmp dL_law_659 ?_
    refine ev_if_eq_t (tgt := 665) dL_law_660 (by decide) (lc_v hv1 hv2 hf2.2 hk0) ?_
    refine ev_goto (tgt := 2585) dL_law_665 (by decide) ?_
    exact lq_fg (K _ w2 (li_of hA1 hf2 hm2 (ca_scare h.2.2 h.1.1.2)))
set_option maxRecDepth 4000 in
theorem lc_7 {G : GX} {w : WS} {A : AS} {b i : Nat} (h : LI A w) (hi : i + 2 < gN G) (hN : gN G ≤ 1536) {Z : ZT} (K : ∀ A2 w2, LI A2 w2 → Ev G 70 b mL_law 2585 (lq_ i) [] w2 Z) : Ev G 70 (b + 1) mL_law 668 (lq_ i) [] w Z := by
  refine ev_aload_n dL_law_668 rfl ?_
  refine ev_aload_n dL_law_669 rfl ?_
  refine ev_iload dL_law_670 rfl ?_
  refine ev_iconst dL_law_672 ic1 ?_
  refine ev_iadd dL_law_673 ?_
  first | refine ev_top (nI_add _ _) ?_ | skip
  refine ev_sload dL_law_674 rfl (by omega) hN ?_
  refine ev_aload_n dL_law_675 rfl ?_
  obtain ⟨_, w1, ⟨rfl, hA1, hc1, hv1⟩, hB1⟩ := hL_realmAt (G := G) h.1 (gX G (i + 1))
  refine ev_callSW kL_173 hB1 dL_law_676 rfl (by decide) (Nat.le_add_left 1 b) rfl ?_
  refine ev_ist6 dL_law_679 (by decide) rfl ?_
  refine ev_aload_n dL_law_681 rfl ?_
  refine ev_aload_n dL_law_682 rfl ?_
  refine ev_iload dL_law_683 rfl ?_
  refine ev_iconst dL_law_685 ic1 ?_
  refine ev_iadd dL_law_686 ?_
  first | refine ev_top (nI_add _ _) ?_ | skip
  refine ev_sload dL_law_687 rfl (by omega) hN ?_
  obtain ⟨_, w2, ⟨v, rfl, hv2, h6, hm2, hf2⟩, hB2⟩ := mo_q (mX_k h.2.1 hc1) (gX12_realmAt (G := G) (mX_k h.2.1 hc1).1 (gX G (i + 1)))
  refine ev_callV kL_175 co115 hB2 dL_law_688 rfl (by decide) (Nat.zero_le _) rfl ?_
  refine ev_ist7 dL_law_691 (by decide) rfl ?_
  refine ev_aload_n dL_law_693 rfl ?_
  refine ev_callV kL_151 co115 (qX12_thrown h6) dL_law_694 rfl (by decide) (Nat.zero_le _) rfl ?_
  refine ev_iload dL_law_697 rfl ?_
  refine ev_icmp_eq_t (tgt := 704) dL_law_699 (by decide) rfl ?_
  refine ev_iload dL_law_704 rfl ?_
  refine ev_if_ne (tgt := 721) dL_law_706 (by decide) (fun hc706 => ?_) (fun hc706 => ?_)
  · refine ev_goto (tgt := 2585) dL_law_721 (by decide) ?_
    exact lq_fg (K _ w2 (li_of hA1 hf2 hm2 h.2.2))
  · refine ev_aload_n dL_law_709 rfl ?_
    refine ev_iconst dL_law_710 ic0 ?_
    have hk0 : ((qAt (aS A) (gX G (i + 1)), A)).1.1 = 0 := nI_inj (Nat.lt_of_le_of_lt le_realmAt (by decide)) (by decide) hc706
    refine ev_laload dL_law_711 rfl ?_
    refine ev_iload dL_law_712 rfl ?_
    refine ev_i2l dL_law_714 ?_
    refine ev_lcmp dL_law_715 ?_
    refine ev_if_eq_t (tgt := 721) dL_law_716 (by decide) (lc_v hv1 hv2 hf2.2 hk0) ?_
    refine ev_goto (tgt := 2585) dL_law_721 (by decide) ?_
    exact lq_fg (K _ w2 (li_of hA1 hf2 hm2 h.2.2))
set_option maxRecDepth 4000 in
theorem lc_8 {G : GX} {w : WS} {A : AS} {b i : Nat} (h : LI A w) (hi : i + 2 < gN G) (hN : gN G ≤ 1536) {Z : ZT} (K : ∀ A2 w2, LI A2 w2 → Ev G 70 b mL_law 2585 (lq_ i) [] w2 Z) : Ev G 70 (b + 1) mL_law 724 (lq_ i) [] w Z := by
  refine ev_aload_n dL_law_724 rfl ?_
  refine ev_aload_n dL_law_725 rfl ?_
  refine ev_iload dL_law_726 rfl ?_
  refine ev_iconst dL_law_728 ic1 ?_
  refine ev_iadd dL_law_729 ?_
  first | refine ev_top (nI_add _ _) ?_ | skip
  refine ev_sload dL_law_730 rfl (by omega) hN ?_
  refine ev_aload_n dL_law_731 rfl ?_
  refine ev_iload dL_law_732 rfl ?_
  refine ev_iconst dL_law_734 ic2 ?_
  refine ev_iadd dL_law_735 ?_
  first | refine ev_top (nI_add _ _) ?_ | skip
  refine ev_sload dL_law_736 rfl (by omega) hN ?_
  refine ev_aload_n dL_law_737 rfl ?_
  obtain ⟨_, w1, ⟨rfl, hA1, hc1, hv1⟩, hB1⟩ := hL_realmOf (G := G) h.1 (gX G (i + 1)) (gX G (i + 2))
  refine ev_callSW kL_176 hB1 dL_law_738 rfl (by decide) (Nat.le_add_left 1 b) rfl ?_
  refine ev_ist6 dL_law_741 (by decide) rfl ?_
  refine ev_aload_n dL_law_743 rfl ?_
  refine ev_aload_n dL_law_744 rfl ?_
  refine ev_iload dL_law_745 rfl ?_
  refine ev_iconst dL_law_747 ic1 ?_
  refine ev_iadd dL_law_748 ?_
  first | refine ev_top (nI_add _ _) ?_ | skip
  refine ev_sload dL_law_749 rfl (by omega) hN ?_
  refine ev_aload_n dL_law_750 rfl ?_
  refine ev_iload dL_law_751 rfl ?_
  refine ev_iconst dL_law_753 ic2 ?_
  refine ev_iadd dL_law_754 ?_
  first | refine ev_top (nI_add _ _) ?_ | skip
  refine ev_sload dL_law_755 rfl (by omega) hN ?_
  obtain ⟨_, w2, ⟨v, rfl, hv2, h6, hm2, hf2⟩, hB2⟩ := mo_q (mX_k h.2.1 hc1) (gX12_realmOf (G := G) (mX_k h.2.1 hc1).1 (gX G (i + 1)) (gX G (i + 2)))
  refine ev_callV kL_178 co115 hB2 dL_law_756 rfl (by decide) (Nat.zero_le _) rfl ?_
  refine ev_ist7 dL_law_759 (by decide) rfl ?_
  refine ev_aload_n dL_law_761 rfl ?_
  refine ev_callV kL_151 co115 (qX12_thrown h6) dL_law_762 rfl (by decide) (Nat.zero_le _) rfl ?_
  refine ev_iload dL_law_765 rfl ?_
  refine ev_icmp_eq_t (tgt := 772) dL_law_767 (by decide) rfl ?_
  refine ev_iload dL_law_772 rfl ?_
  refine ev_if_ne (tgt := 789) dL_law_774 (by decide) (fun hc774 => ?_) (fun hc774 => ?_)
  · refine ev_goto (tgt := 2585) dL_law_789 (by decide) ?_
    exact lq_fg (K _ w2 (li_of hA1 hf2 hm2 h.2.2))
  · refine ev_aload_n dL_law_777 rfl ?_
    refine ev_iconst dL_law_778 ic0 ?_
    have hk0 : ((qRo (aS A) (gX G (i + 1)) (gX G (i + 2)), A)).1.1 = 0 := nI_inj (Nat.lt_of_le_of_lt le_realmOf (by decide)) (by decide) hc774
    refine ev_laload dL_law_779 rfl ?_
    refine ev_iload dL_law_780 rfl ?_
    refine ev_i2l dL_law_782 ?_
    refine ev_lcmp dL_law_783 ?_
    refine ev_if_eq_t (tgt := 789) dL_law_784 (by decide) (lc_v hv1 hv2 hf2.2 hk0) ?_
    refine ev_goto (tgt := 2585) dL_law_789 (by decide) ?_
    exact lq_fg (K _ w2 (li_of hA1 hf2 hm2 h.2.2))
set_option maxRecDepth 4000 in
theorem lc_9 {G : GX} {w : WS} {A : AS} {b i : Nat} (h : LI A w) (hi : i + 2 < gN G) (hN : gN G ≤ 1536) {Z : ZT} (K : ∀ A2 w2, LI A2 w2 → Ev G 70 b mL_law 2585 (lq_ i) [] w2 Z) : Ev G 70 (b + 1) mL_law 792 (lq_ i) [] w Z := by
  refine ev_aload_n dL_law_792 rfl ?_
  refine ev_aload_n dL_law_793 rfl ?_
  refine ev_iload dL_law_794 rfl ?_
  refine ev_iconst dL_law_796 ic1 ?_
  refine ev_iadd dL_law_797 ?_
  first | refine ev_top (nI_add _ _) ?_ | skip
  refine ev_sload dL_law_798 rfl (by omega) hN ?_
  refine ev_aload_n dL_law_799 rfl ?_
  refine ev_iload dL_law_800 rfl ?_
  refine ev_iconst dL_law_802 ic2 ?_
  refine ev_iadd dL_law_803 ?_
  first | refine ev_top (nI_add _ _) ?_ | skip
  refine ev_sload dL_law_804 rfl (by omega) hN ?_
  refine ev_aload_n dL_law_805 rfl ?_
  obtain ⟨_, w1, ⟨rfl, hA1, hc1, hv1⟩, hB1⟩ := hL_riverOf (G := G) h.1 (gX G (i + 1)) (gX G (i + 2))
  refine ev_callSW kL_179 hB1 dL_law_806 rfl (by decide) (Nat.le_add_left 1 b) rfl ?_
  refine ev_ist6 dL_law_809 (by decide) rfl ?_
  refine ev_aload_n dL_law_811 rfl ?_
  refine ev_aload_n dL_law_812 rfl ?_
  refine ev_iload dL_law_813 rfl ?_
  refine ev_iconst dL_law_815 ic1 ?_
  refine ev_iadd dL_law_816 ?_
  first | refine ev_top (nI_add _ _) ?_ | skip
  refine ev_sload dL_law_817 rfl (by omega) hN ?_
  refine ev_aload_n dL_law_818 rfl ?_
  refine ev_iload dL_law_819 rfl ?_
  refine ev_iconst dL_law_821 ic2 ?_
  refine ev_iadd dL_law_822 ?_
  first | refine ev_top (nI_add _ _) ?_ | skip
  refine ev_sload dL_law_823 rfl (by omega) hN ?_
  obtain ⟨_, w2, ⟨v, rfl, hv2, h6, hm2, hf2⟩, hB2⟩ := mo_q (mX_k h.2.1 hc1) (gX12_riverOf (G := G) (mX_k h.2.1 hc1).1 (gX G (i + 1)) (gX G (i + 2)))
  refine ev_callV kL_181 co115 hB2 dL_law_824 rfl (by decide) (Nat.zero_le _) rfl ?_
  refine ev_ist7 dL_law_827 (by decide) rfl ?_
  refine ev_aload_n dL_law_829 rfl ?_
  refine ev_callV kL_151 co115 (qX12_thrown h6) dL_law_830 rfl (by decide) (Nat.zero_le _) rfl ?_
  refine ev_iload dL_law_833 rfl ?_
  refine ev_icmp_eq_t (tgt := 840) dL_law_835 (by decide) rfl ?_
  refine ev_iload dL_law_840 rfl ?_
  refine ev_if_ne (tgt := 857) dL_law_842 (by decide) (fun hc842 => ?_) (fun hc842 => ?_)
  · refine ev_goto (tgt := 2585) dL_law_857 (by decide) ?_
    exact lq_fg (K _ w2 (li_of hA1 hf2 hm2 h.2.2))
  · refine ev_aload_n dL_law_845 rfl ?_
    refine ev_iconst dL_law_846 ic0 ?_
    have hk0 : ((qRv (aS A) (gX G (i + 1)) (gX G (i + 2)), A)).1.1 = 0 := nI_inj (Nat.lt_of_le_of_lt le_riverOf (by decide)) (by decide) hc842
    refine ev_laload dL_law_847 rfl ?_
    refine ev_iload dL_law_848 rfl ?_
    refine ev_i2l dL_law_850 ?_
    refine ev_lcmp dL_law_851 ?_
    refine ev_if_eq_t (tgt := 857) dL_law_852 (by decide) (lc_v hv1 hv2 hf2.2 hk0) ?_
    refine ev_goto (tgt := 2585) dL_law_857 (by decide) ?_
    exact lq_fg (K _ w2 (li_of hA1 hf2 hm2 h.2.2))
set_option maxRecDepth 4000 in
theorem lc_10 {G : GX} {w : WS} {A : AS} {b i : Nat} (h : LI A w) (hi : i + 2 < gN G) (hN : gN G ≤ 1536) {Z : ZT} (K : ∀ A2 w2, LI A2 w2 → Ev G 70 b mL_law 2585 (lq_ i) [] w2 Z) : Ev G 70 (b + 1) mL_law 860 (lq_ i) [] w Z := by
  refine ev_aload_n dL_law_860 rfl ?_
  refine ev_aload_n dL_law_861 rfl ?_
  refine ev_iload dL_law_862 rfl ?_
  refine ev_iconst dL_law_864 ic1 ?_
  refine ev_iadd dL_law_865 ?_
  first | refine ev_top (nI_add _ _) ?_ | skip
  refine ev_sload dL_law_866 rfl (by omega) hN ?_
  refine ev_aload_n dL_law_867 rfl ?_
  refine ev_iload dL_law_868 rfl ?_
  refine ev_iconst dL_law_870 ic2 ?_
  refine ev_iadd dL_law_871 ?_
  first | refine ev_top (nI_add _ _) ?_ | skip
  refine ev_sload dL_law_872 rfl (by omega) hN ?_
  refine ev_aload_n dL_law_873 rfl ?_
  obtain ⟨_, w1, ⟨rfl, hA1, hc1, hv1⟩, hB1⟩ := hL_riverAt (G := G) h.1 (gX G (i + 1)) (gX G (i + 2))
  refine ev_callSW kL_182 hB1 dL_law_874 rfl (by decide) (Nat.le_add_left 1 b) rfl ?_
  refine ev_ist6 dL_law_877 (by decide) rfl ?_
  refine ev_aload_n dL_law_879 rfl ?_
  refine ev_aload_n dL_law_880 rfl ?_
  refine ev_iload dL_law_881 rfl ?_
  refine ev_iconst dL_law_883 ic1 ?_
  refine ev_iadd dL_law_884 ?_
  first | refine ev_top (nI_add _ _) ?_ | skip
  refine ev_sload dL_law_885 rfl (by omega) hN ?_
  refine ev_aload_n dL_law_886 rfl ?_
  refine ev_iload dL_law_887 rfl ?_
  refine ev_iconst dL_law_889 ic2 ?_
  refine ev_iadd dL_law_890 ?_
  first | refine ev_top (nI_add _ _) ?_ | skip
  refine ev_sload dL_law_891 rfl (by omega) hN ?_
  obtain ⟨_, w2, ⟨v, rfl, hv2, h6, hm2, hf2⟩, hB2⟩ := mo_q (mX_k h.2.1 hc1) (gX12_riverAt (G := G) (mX_k h.2.1 hc1).1 (gX G (i + 1)) (gX G (i + 2)))
  refine ev_callV kL_184 co115 hB2 dL_law_892 rfl (by decide) (Nat.zero_le _) rfl ?_
  refine ev_ist7 dL_law_895 (by decide) rfl ?_
  refine ev_aload_n dL_law_897 rfl ?_
  refine ev_callV kL_151 co115 (qX12_thrown h6) dL_law_898 rfl (by decide) (Nat.zero_le _) rfl ?_
  refine ev_iload dL_law_901 rfl ?_
  refine ev_icmp_eq_t (tgt := 908) dL_law_903 (by decide) rfl ?_
  refine ev_iload dL_law_908 rfl ?_
  refine ev_if_ne (tgt := 925) dL_law_910 (by decide) (fun hc910 => ?_) (fun hc910 => ?_)
  · refine ev_goto (tgt := 2585) dL_law_925 (by decide) ?_
    exact lq_fg (K _ w2 (li_of hA1 hf2 hm2 h.2.2))
  · refine ev_aload_n dL_law_913 rfl ?_
    refine ev_iconst dL_law_914 ic0 ?_
    have hk0 : ((qRa (aS A) (gX G (i + 1)) (gX G (i + 2)), A)).1.1 = 0 := nI_inj (Nat.lt_of_le_of_lt le_riverAt (by decide)) (by decide) hc910
    refine ev_laload dL_law_915 rfl ?_
    refine ev_iload dL_law_916 rfl ?_
    refine ev_i2l dL_law_918 ?_
    refine ev_lcmp dL_law_919 ?_
    refine ev_if_eq_t (tgt := 925) dL_law_920 (by decide) (lc_v hv1 hv2 hf2.2 hk0) ?_
    refine ev_goto (tgt := 2585) dL_law_925 (by decide) ?_
    exact lq_fg (K _ w2 (li_of hA1 hf2 hm2 h.2.2))
set_option maxRecDepth 4000 in
theorem lc_11 {G : GX} {w : WS} {A : AS} {b i : Nat} (h : LI A w) (hi : i + 2 < gN G) (hN : gN G ≤ 1536) {Z : ZT} (K : ∀ A2 w2, LI A2 w2 → Ev G 70 b mL_law 2585 (lq_ i) [] w2 Z) : Ev G 70 (b + 1) mL_law 928 (lq_ i) [] w Z := by
  refine ev_aload_n dL_law_928 rfl ?_
  refine ev_aload_n dL_law_929 rfl ?_
  refine ev_iload dL_law_930 rfl ?_
  refine ev_iconst dL_law_932 ic1 ?_
  refine ev_iadd dL_law_933 ?_
  first | refine ev_top (nI_add _ _) ?_ | skip
  refine ev_sload dL_law_934 rfl (by omega) hN ?_
  refine ev_aload_n dL_law_935 rfl ?_
  refine ev_iload dL_law_936 rfl ?_
  refine ev_iconst dL_law_938 ic2 ?_
  refine ev_iadd dL_law_939 ?_
  first | refine ev_top (nI_add _ _) ?_ | skip
  refine ev_sload dL_law_940 rfl (by omega) hN ?_
  refine ev_aload_n dL_law_941 rfl ?_
  obtain ⟨_, w1, ⟨rfl, hA1, hc1, hv1⟩, hB1⟩ := hL_dragonOf (G := G) h.1 (gX G (i + 1)) (gX G (i + 2))
  refine ev_callSW kL_185 hB1 dL_law_942 rfl (by decide) (Nat.le_add_left 1 b) rfl ?_
  refine ev_ist6 dL_law_945 (by decide) rfl ?_
  refine ev_aload_n dL_law_947 rfl ?_
  refine ev_aload_n dL_law_948 rfl ?_
  refine ev_iload dL_law_949 rfl ?_
  refine ev_iconst dL_law_951 ic1 ?_
  refine ev_iadd dL_law_952 ?_
  first | refine ev_top (nI_add _ _) ?_ | skip
  refine ev_sload dL_law_953 rfl (by omega) hN ?_
  refine ev_aload_n dL_law_954 rfl ?_
  refine ev_iload dL_law_955 rfl ?_
  refine ev_iconst dL_law_957 ic2 ?_
  refine ev_iadd dL_law_958 ?_
  first | refine ev_top (nI_add _ _) ?_ | skip
  refine ev_sload dL_law_959 rfl (by omega) hN ?_
  obtain ⟨_, w2, ⟨v, rfl, hv2, h6, hm2, hf2⟩, hB2⟩ := mo_q (mX_k h.2.1 hc1) (gX12_dragonOf (G := G) (mX_k h.2.1 hc1).1 (gX G (i + 1)) (gX G (i + 2)))
  refine ev_callV kL_187 co115 hB2 dL_law_960 rfl (by decide) (Nat.zero_le _) rfl ?_
  refine ev_ist7 dL_law_963 (by decide) rfl ?_
  refine ev_aload_n dL_law_965 rfl ?_
  refine ev_callV kL_151 co115 (qX12_thrown h6) dL_law_966 rfl (by decide) (Nat.zero_le _) rfl ?_
  refine ev_iload dL_law_969 rfl ?_
  refine ev_icmp_eq_t (tgt := 976) dL_law_971 (by decide) rfl ?_
  refine ev_iload dL_law_976 rfl ?_
  refine ev_if_ne (tgt := 993) dL_law_978 (by decide) (fun hc978 => ?_) (fun hc978 => ?_)
  · refine ev_goto (tgt := 2585) dL_law_993 (by decide) ?_
    exact lq_fg (K _ w2 (li_of hA1 hf2 hm2 h.2.2))
  · refine ev_aload_n dL_law_981 rfl ?_
    refine ev_iconst dL_law_982 ic0 ?_
    have hk0 : ((qDr (aS A) (gX G (i + 1)) (gX G (i + 2)), A)).1.1 = 0 := nI_inj (Nat.lt_of_le_of_lt le_dragonOf (by decide)) (by decide) hc978
    refine ev_laload dL_law_983 rfl ?_
    refine ev_iload dL_law_984 rfl ?_
    refine ev_i2l dL_law_986 ?_
    refine ev_lcmp dL_law_987 ?_
    refine ev_if_eq_t (tgt := 993) dL_law_988 (by decide) (lc_v hv1 hv2 hf2.2 hk0) ?_
    refine ev_goto (tgt := 2585) dL_law_993 (by decide) ?_
    exact lq_fg (K _ w2 (li_of hA1 hf2 hm2 h.2.2))
set_option maxRecDepth 4000 in
theorem lc_12 {G : GX} {w : WS} {A : AS} {b i : Nat} (h : LI A w) (hi : i + 2 < gN G) (hN : gN G ≤ 1536) {Z : ZT} (K : ∀ A2 w2, LI A2 w2 → Ev G 70 b mL_law 2585 (lq_ i) [] w2 Z) : Ev G 70 (b + 1) mL_law 996 (lq_ i) [] w Z := by
  refine ev_aload_n dL_law_996 rfl ?_
  refine ev_aload_n dL_law_997 rfl ?_
  refine ev_iload dL_law_998 rfl ?_
  refine ev_iconst dL_law_1000 ic1 ?_
  refine ev_iadd dL_law_1001 ?_
  first | refine ev_top (nI_add _ _) ?_ | skip
  refine ev_sload dL_law_1002 rfl (by omega) hN ?_
  refine ev_aload_n dL_law_1003 rfl ?_
  obtain ⟨_, w1, ⟨rfl, hA1, hc1, hv1⟩, hB1⟩ := hL_weight (G := G) h.1 (gX G (i + 1))
  refine ev_callSW kL_188 hB1 dL_law_1004 rfl (by decide) (Nat.le_add_left 1 b) rfl ?_
  refine ev_ist6 dL_law_1007 (by decide) rfl ?_
  refine ev_aload_n dL_law_1009 rfl ?_
  refine ev_aload_n dL_law_1010 rfl ?_
  refine ev_iload dL_law_1011 rfl ?_
  refine ev_iconst dL_law_1013 ic1 ?_
  refine ev_iadd dL_law_1014 ?_
  first | refine ev_top (nI_add _ _) ?_ | skip
  refine ev_sload dL_law_1015 rfl (by omega) hN ?_
  obtain ⟨_, w2, ⟨v, rfl, hv2, h6, hm2, hf2⟩, hB2⟩ := mo_q (mX_k h.2.1 hc1) (gX12_weight (G := G) (mX_k h.2.1 hc1).1 (gX G (i + 1)))
  refine ev_callV kL_190 co115 hB2 dL_law_1016 rfl (by decide) (Nat.zero_le _) rfl ?_
  refine ev_ist7 dL_law_1019 (by decide) rfl ?_
  refine ev_aload_n dL_law_1021 rfl ?_
  refine ev_callV kL_151 co115 (qX12_thrown h6) dL_law_1022 rfl (by decide) (Nat.zero_le _) rfl ?_
  refine ev_iload dL_law_1025 rfl ?_
  refine ev_icmp_eq_t (tgt := 1032) dL_law_1027 (by decide) rfl ?_
  refine ev_iload dL_law_1032 rfl ?_
  refine ev_if_ne (tgt := 1049) dL_law_1034 (by decide) (fun hc1034 => ?_) (fun hc1034 => ?_)
  · refine ev_goto (tgt := 2585) dL_law_1049 (by decide) ?_
    exact lq_fg (K _ w2 (li_of hA1 hf2 hm2 h.2.2))
  · refine ev_aload_n dL_law_1037 rfl ?_
    refine ev_iconst dL_law_1038 ic0 ?_
    have hk0 : ((qWe (aS A) (gX G (i + 1)), A)).1.1 = 0 := nI_inj (Nat.lt_of_le_of_lt le_weight (by decide)) (by decide) hc1034
    refine ev_laload dL_law_1039 rfl ?_
    refine ev_iload dL_law_1040 rfl ?_
    refine ev_i2l dL_law_1042 ?_
    refine ev_lcmp dL_law_1043 ?_
    refine ev_if_eq_t (tgt := 1049) dL_law_1044 (by decide) (lc_v hv1 hv2 hf2.2 hk0) ?_
    refine ev_goto (tgt := 2585) dL_law_1049 (by decide) ?_
    exact lq_fg (K _ w2 (li_of hA1 hf2 hm2 h.2.2))
set_option maxRecDepth 4000 in
theorem lc_13 {G : GX} {w : WS} {A : AS} {b i : Nat} (h : LI A w) (hi : i + 2 < gN G) (hN : gN G ≤ 1536) {Z : ZT} (K : ∀ A2 w2, LI A2 w2 → Ev G 70 b mL_law 2585 (lq_ i) [] w2 Z) : Ev G 70 (b + 1) mL_law 1052 (lq_ i) [] w Z := by
  refine ev_aload_n dL_law_1052 rfl ?_
  refine ev_aload_n dL_law_1053 rfl ?_
  refine ev_iload dL_law_1054 rfl ?_
  refine ev_iconst dL_law_1056 ic1 ?_
  refine ev_iadd dL_law_1057 ?_
  first | refine ev_top (nI_add _ _) ?_ | skip
  refine ev_sload dL_law_1058 rfl (by omega) hN ?_
  refine ev_aload_n dL_law_1059 rfl ?_
  obtain ⟨_, w1, ⟨rfl, hA1, hc1, hv1⟩, hB1⟩ := hL_weightAgain (G := G) h.1 (gX G (i + 1))
  refine ev_callSW kL_191 hB1 dL_law_1060 rfl (by decide) (Nat.le_add_left 1 b) rfl ?_
  refine ev_ist6 dL_law_1063 (by decide) rfl ?_
  refine ev_aload_n dL_law_1065 rfl ?_
  refine ev_aload_n dL_law_1066 rfl ?_
  refine ev_iload dL_law_1067 rfl ?_
  refine ev_iconst dL_law_1069 ic1 ?_
  refine ev_iadd dL_law_1070 ?_
  first | refine ev_top (nI_add _ _) ?_ | skip
  refine ev_sload dL_law_1071 rfl (by omega) hN ?_
  obtain ⟨_, w2, ⟨v, rfl, hv2, h6, hm2, hf2⟩, hB2⟩ := mo_q (mX_k h.2.1 hc1) (gX12_weightAgain (G := G) (mX_k h.2.1 hc1).1 (gX G (i + 1)))
  refine ev_callV kL_193 co115 hB2 dL_law_1072 rfl (by decide) (Nat.zero_le _) rfl ?_
  refine ev_ist7 dL_law_1075 (by decide) rfl ?_
  refine ev_aload_n dL_law_1077 rfl ?_
  refine ev_callV kL_151 co115 (qX12_thrown h6) dL_law_1078 rfl (by decide) (Nat.zero_le _) rfl ?_
  refine ev_iload dL_law_1081 rfl ?_
  refine ev_icmp_eq_t (tgt := 1088) dL_law_1083 (by decide) rfl ?_
  refine ev_iload dL_law_1088 rfl ?_
  refine ev_if_ne (tgt := 1105) dL_law_1090 (by decide) (fun hc1090 => ?_) (fun hc1090 => ?_)
  · refine ev_goto (tgt := 2585) dL_law_1105 (by decide) ?_
    exact lq_fg (K _ w2 (li_of hA1 hf2 hm2 h.2.2))
  · refine ev_aload_n dL_law_1093 rfl ?_
    refine ev_iconst dL_law_1094 ic0 ?_
    have hk0 : ((qWe (aS A) (gX G (i + 1)), A)).1.1 = 0 := nI_inj (Nat.lt_of_le_of_lt le_weightAgain (by decide)) (by decide) hc1090
    refine ev_laload dL_law_1095 rfl ?_
    refine ev_iload dL_law_1096 rfl ?_
    refine ev_i2l dL_law_1098 ?_
    refine ev_lcmp dL_law_1099 ?_
    refine ev_if_eq_t (tgt := 1105) dL_law_1100 (by decide) (lc_v hv1 hv2 hf2.2 hk0) ?_
    refine ev_goto (tgt := 2585) dL_law_1105 (by decide) ?_
    exact lq_fg (K _ w2 (li_of hA1 hf2 hm2 h.2.2))
set_option maxRecDepth 4000 in
theorem lc_14 {G : GX} {w : WS} {A : AS} {b i : Nat} (h : LI A w) (hi : i + 2 < gN G) (hN : gN G ≤ 1536) {Z : ZT} (K : ∀ A2 w2, LI A2 w2 → Ev G 70 b mL_law 2585 (lq_ i) [] w2 Z) : Ev G 70 (b + 1) mL_law 1108 (lq_ i) [] w Z := by
  refine ev_aload_n dL_law_1108 rfl ?_
  refine ev_aload_n dL_law_1109 rfl ?_
  refine ev_iload dL_law_1110 rfl ?_
  refine ev_iconst dL_law_1112 ic1 ?_
  refine ev_iadd dL_law_1113 ?_
  first | refine ev_top (nI_add _ _) ?_ | skip
  refine ev_sload dL_law_1114 rfl (by omega) hN ?_
  refine ev_aload_n dL_law_1115 rfl ?_
  refine ev_iload dL_law_1116 rfl ?_
  refine ev_iconst dL_law_1118 ic2 ?_
  refine ev_iadd dL_law_1119 ?_
  first | refine ev_top (nI_add _ _) ?_ | skip
  refine ev_sload dL_law_1120 rfl (by omega) hN ?_
  refine ev_aload_n dL_law_1121 rfl ?_
  obtain ⟨_, w1, ⟨rfl, hA1, hc1, hv1⟩, hB1⟩ := hL_border (G := G) h.1 (gX G (i + 1)) (gX G (i + 2))
  refine ev_callSW kL_194 hB1 dL_law_1122 rfl (by decide) (Nat.le_add_left 1 b) rfl ?_
  refine ev_ist6 dL_law_1125 (by decide) rfl ?_
  refine ev_aload_n dL_law_1127 rfl ?_
  refine ev_aload_n dL_law_1128 rfl ?_
  refine ev_iload dL_law_1129 rfl ?_
  refine ev_iconst dL_law_1131 ic1 ?_
  refine ev_iadd dL_law_1132 ?_
  first | refine ev_top (nI_add _ _) ?_ | skip
  refine ev_sload dL_law_1133 rfl (by omega) hN ?_
  refine ev_aload_n dL_law_1134 rfl ?_
  refine ev_iload dL_law_1135 rfl ?_
  refine ev_iconst dL_law_1137 ic2 ?_
  refine ev_iadd dL_law_1138 ?_
  first | refine ev_top (nI_add _ _) ?_ | skip
  refine ev_sload dL_law_1139 rfl (by omega) hN ?_
  obtain ⟨_, w2, ⟨v, rfl, hv2, h6, hm2, hf2⟩, hB2⟩ := mo_q (mX_k h.2.1 hc1) (gX12_border (G := G) (mX_k h.2.1 hc1).1 (gX G (i + 1)) (gX G (i + 2)))
  refine ev_callV kL_196 co115 hB2 dL_law_1140 rfl (by decide) (Nat.zero_le _) rfl ?_
  refine ev_ist7 dL_law_1143 (by decide) rfl ?_
  refine ev_aload_n dL_law_1145 rfl ?_
  refine ev_callV kL_151 co115 (qX12_thrown h6) dL_law_1146 rfl (by decide) (Nat.zero_le _) rfl ?_
  refine ev_iload dL_law_1149 rfl ?_
  refine ev_icmp_eq_t (tgt := 1156) dL_law_1151 (by decide) rfl ?_
  refine ev_iload dL_law_1156 rfl ?_
  refine ev_if_ne (tgt := 1173) dL_law_1158 (by decide) (fun hc1158 => ?_) (fun hc1158 => ?_)
  · refine ev_goto (tgt := 2585) dL_law_1173 (by decide) ?_
    exact lq_fg (K _ w2 (li_of hA1 hf2 hm2 h.2.2))
  · refine ev_aload_n dL_law_1161 rfl ?_
    refine ev_iconst dL_law_1162 ic0 ?_
    have hk0 : ((qBo (aS A) (gX G (i + 1)) (gX G (i + 2)), A)).1.1 = 0 := nI_inj (Nat.lt_of_le_of_lt le_border (by decide)) (by decide) hc1158
    refine ev_laload dL_law_1163 rfl ?_
    refine ev_iload dL_law_1164 rfl ?_
    refine ev_i2l dL_law_1166 ?_
    refine ev_lcmp dL_law_1167 ?_
    refine ev_if_eq_t (tgt := 1173) dL_law_1168 (by decide) (lc_v hv1 hv2 hf2.2 hk0) ?_
    refine ev_goto (tgt := 2585) dL_law_1173 (by decide) ?_
    exact lq_fg (K _ w2 (li_of hA1 hf2 hm2 h.2.2))
set_option maxRecDepth 4000 in
theorem lc_15 {G : GX} {w : WS} {A : AS} {b i : Nat} (h : LI A w) (hi : i + 2 < gN G) (hN : gN G ≤ 1536) {Z : ZT} (K : ∀ A2 w2, LI A2 w2 → Ev G 70 b mL_law 2585 (lq_ i) [] w2 Z) : Ev G 70 (b + 1) mL_law 1176 (lq_ i) [] w Z := by
  refine ev_aload_n dL_law_1176 rfl ?_
  refine ev_aload_n dL_law_1177 rfl ?_
  refine ev_iload dL_law_1178 rfl ?_
  refine ev_iconst dL_law_1180 ic1 ?_
  refine ev_iadd dL_law_1181 ?_
  first | refine ev_top (nI_add _ _) ?_ | skip
  refine ev_sload dL_law_1182 rfl (by omega) hN ?_
  refine ev_aload_n dL_law_1183 rfl ?_
  obtain ⟨_, w1, ⟨rfl, hA1, hc1, hv1⟩, hB1⟩ := hL_around (G := G) h.1 (gX G (i + 1))
  refine ev_callSW kL_197 hB1 dL_law_1184 rfl (by decide) (Nat.le_add_left 1 b) rfl ?_
  refine ev_ist6 dL_law_1187 (by decide) rfl ?_
  refine ev_aload_n dL_law_1189 rfl ?_
  refine ev_aload_n dL_law_1190 rfl ?_
  refine ev_iload dL_law_1191 rfl ?_
  refine ev_iconst dL_law_1193 ic1 ?_
  refine ev_iadd dL_law_1194 ?_
  first | refine ev_top (nI_add _ _) ?_ | skip
  refine ev_sload dL_law_1195 rfl (by omega) hN ?_
  obtain ⟨_, w2, ⟨v, rfl, hv2, h6, hm2, hf2⟩, hB2⟩ := mo_q (mX_k h.2.1 hc1) (gX12_around (G := G) (mX_k h.2.1 hc1).1 (gX G (i + 1)))
  refine ev_callV kL_199 co115 hB2 dL_law_1196 rfl (by decide) (Nat.zero_le _) rfl ?_
  refine ev_ist7 dL_law_1199 (by decide) rfl ?_
  refine ev_aload_n dL_law_1201 rfl ?_
  refine ev_callV kL_151 co115 (qX12_thrown h6) dL_law_1202 rfl (by decide) (Nat.zero_le _) rfl ?_
  refine ev_iload dL_law_1205 rfl ?_
  refine ev_icmp_eq_t (tgt := 1212) dL_law_1207 (by decide) rfl ?_
  refine ev_iload dL_law_1212 rfl ?_
  refine ev_if_ne (tgt := 1229) dL_law_1214 (by decide) (fun hc1214 => ?_) (fun hc1214 => ?_)
  · refine ev_goto (tgt := 2585) dL_law_1229 (by decide) ?_
    exact lq_fg (K _ w2 (li_of hA1 hf2 hm2 h.2.2))
  · refine ev_aload_n dL_law_1217 rfl ?_
    refine ev_iconst dL_law_1218 ic0 ?_
    have hk0 : ((qAr (aS A) (gX G (i + 1)), A)).1.1 = 0 := nI_inj (Nat.lt_of_le_of_lt le_around (by decide)) (by decide) hc1214
    refine ev_laload dL_law_1219 rfl ?_
    refine ev_iload dL_law_1220 rfl ?_
    refine ev_i2l dL_law_1222 ?_
    refine ev_lcmp dL_law_1223 ?_
    refine ev_if_eq_t (tgt := 1229) dL_law_1224 (by decide) (lc_v hv1 hv2 hf2.2 hk0) ?_
    refine ev_goto (tgt := 2585) dL_law_1229 (by decide) ?_
    exact lq_fg (K _ w2 (li_of hA1 hf2 hm2 h.2.2))
set_option maxRecDepth 4000 in
theorem lc_16 {G : GX} {w : WS} {A : AS} {b i : Nat} (h : LI A w) (hi : i + 2 < gN G) (hN : gN G ≤ 1536) {Z : ZT} (K : ∀ A2 w2, LI A2 w2 → Ev G 70 b mL_law 2585 (lq_ i) [] w2 Z) : Ev G 70 (b + 1) mL_law 1232 (lq_ i) [] w Z := by
  refine ev_aload_n dL_law_1232 rfl ?_
  refine ev_aload_n dL_law_1233 rfl ?_
  refine ev_iload dL_law_1234 rfl ?_
  refine ev_iconst dL_law_1236 ic1 ?_
  refine ev_iadd dL_law_1237 ?_
  first | refine ev_top (nI_add _ _) ?_ | skip
  refine ev_sload dL_law_1238 rfl (by omega) hN ?_
  refine ev_aload_n dL_law_1239 rfl ?_
  obtain ⟨_, w1, ⟨rfl, hA1, hc1, hv1⟩, hB1⟩ := hL_aroundAgain (G := G) h.1 (gX G (i + 1))
  refine ev_callSW kL_200 hB1 dL_law_1240 rfl (by decide) (Nat.le_add_left 1 b) rfl ?_
  refine ev_ist6 dL_law_1243 (by decide) rfl ?_
  refine ev_aload_n dL_law_1245 rfl ?_
  refine ev_aload_n dL_law_1246 rfl ?_
  refine ev_iload dL_law_1247 rfl ?_
  refine ev_iconst dL_law_1249 ic1 ?_
  refine ev_iadd dL_law_1250 ?_
  first | refine ev_top (nI_add _ _) ?_ | skip
  refine ev_sload dL_law_1251 rfl (by omega) hN ?_
  obtain ⟨_, w2, ⟨v, rfl, hv2, h6, hm2, hf2⟩, hB2⟩ := mo_q (mX_k h.2.1 hc1) (gX12_aroundAgain (G := G) (mX_k h.2.1 hc1).1 (gX G (i + 1)))
  refine ev_callV kL_202 co115 hB2 dL_law_1252 rfl (by decide) (Nat.zero_le _) rfl ?_
  refine ev_ist7 dL_law_1255 (by decide) rfl ?_
  refine ev_aload_n dL_law_1257 rfl ?_
  refine ev_callV kL_151 co115 (qX12_thrown h6) dL_law_1258 rfl (by decide) (Nat.zero_le _) rfl ?_
  refine ev_iload dL_law_1261 rfl ?_
  refine ev_icmp_eq_t (tgt := 1268) dL_law_1263 (by decide) rfl ?_
  refine ev_iload dL_law_1268 rfl ?_
  refine ev_if_ne (tgt := 1285) dL_law_1270 (by decide) (fun hc1270 => ?_) (fun hc1270 => ?_)
  · refine ev_goto (tgt := 2585) dL_law_1285 (by decide) ?_
    exact lq_fg (K _ w2 (li_of hA1 hf2 hm2 h.2.2))
  · refine ev_aload_n dL_law_1273 rfl ?_
    refine ev_iconst dL_law_1274 ic0 ?_
    have hk0 : ((qAr (aS A) (gX G (i + 1)), A)).1.1 = 0 := nI_inj (Nat.lt_of_le_of_lt le_aroundAgain (by decide)) (by decide) hc1270
    refine ev_laload dL_law_1275 rfl ?_
    refine ev_iload dL_law_1276 rfl ?_
    refine ev_i2l dL_law_1278 ?_
    refine ev_lcmp dL_law_1279 ?_
    refine ev_if_eq_t (tgt := 1285) dL_law_1280 (by decide) (lc_v hv1 hv2 hf2.2 hk0) ?_
    refine ev_goto (tgt := 2585) dL_law_1285 (by decide) ?_
    exact lq_fg (K _ w2 (li_of hA1 hf2 hm2 h.2.2))
set_option maxRecDepth 4000 in
theorem lc_17 {G : GX} {w : WS} {A : AS} {b i : Nat} (h : LI A w) (hi : i + 2 < gN G) (hN : gN G ≤ 1536) {Z : ZT} (K : ∀ A2 w2, LI A2 w2 → Ev G 70 b mL_law 2585 (lq_ i) [] w2 Z) : Ev G 70 (b + 1) mL_law 1288 (lq_ i) [] w Z := by
  refine ev_aload_n dL_law_1288 rfl ?_
  refine ev_aload_n dL_law_1289 rfl ?_
  refine ev_iload dL_law_1290 rfl ?_
  refine ev_iconst dL_law_1292 ic1 ?_
  refine ev_iadd dL_law_1293 ?_
  first | refine ev_top (nI_add _ _) ?_ | skip
  refine ev_sload dL_law_1294 rfl (by omega) hN ?_
  refine ev_aload_n dL_law_1295 rfl ?_
  obtain ⟨_, w1, ⟨rfl, hA1, hc1, hv1⟩, hB1⟩ := hL_parts (G := G) h.1 (gX G (i + 1))
  refine ev_callSW kL_203 hB1 dL_law_1296 rfl (by decide) (Nat.le_add_left 1 b) rfl ?_
  refine ev_ist6 dL_law_1299 (by decide) rfl ?_
  refine ev_aload_n dL_law_1301 rfl ?_
  refine ev_aload_n dL_law_1302 rfl ?_
  refine ev_iload dL_law_1303 rfl ?_
  refine ev_iconst dL_law_1305 ic1 ?_
  refine ev_iadd dL_law_1306 ?_
  first | refine ev_top (nI_add _ _) ?_ | skip
  refine ev_sload dL_law_1307 rfl (by omega) hN ?_
  obtain ⟨_, w2, ⟨v, rfl, hv2, h6, hm2, hf2⟩, hB2⟩ := mo_p (mX_k h.2.1 hc1) (gX12_parts (G := G) (mX_k h.2.1 hc1).1 (gX G (i + 1)))
  refine ev_callV kL_205 co115 hB2 dL_law_1308 rfl (by decide) (Nat.zero_le _) rfl ?_
  refine ev_ist7 dL_law_1311 (by decide) rfl ?_
  refine ev_aload_n dL_law_1313 rfl ?_
  refine ev_callV kL_151 co115 (qX12_thrown h6) dL_law_1314 rfl (by decide) (Nat.zero_le _) rfl ?_
  refine ev_iload dL_law_1317 rfl ?_
  refine ev_icmp_eq_t (tgt := 1324) dL_law_1319 (by decide) rfl ?_
  refine ev_iload dL_law_1324 rfl ?_
  refine ev_if_ne (tgt := 1341) dL_law_1326 (by decide) (fun hc1326 => ?_) (fun hc1326 => ?_)
  · refine ev_goto (tgt := 2585) dL_law_1341 (by decide) ?_
    exact lq_fg (K _ w2 (li_of hA1 hf2 hm2 h.2.2))
  · refine ev_aload_n dL_law_1329 rfl ?_
    refine ev_iconst dL_law_1330 ic0 ?_
    have hk0 : ((qPa (aS A) (gX G (i + 1)), A)).1.1 = 0 := nI_inj (Nat.lt_of_le_of_lt le_parts (by decide)) (by decide) hc1326
    refine ev_laload dL_law_1331 rfl ?_
    refine ev_iload dL_law_1332 rfl ?_
    refine ev_i2l dL_law_1334 ?_
    refine ev_lcmp dL_law_1335 ?_
    refine ev_if_eq_t (tgt := 1341) dL_law_1336 (by decide) (lc_v hv1 hv2 hf2.2 hk0) ?_
    refine ev_goto (tgt := 2585) dL_law_1341 (by decide) ?_
    exact lq_fg (K _ w2 (li_of hA1 hf2 hm2 h.2.2))
set_option maxRecDepth 4000 in
theorem lc_18 {G : GX} {w : WS} {A : AS} {b i : Nat} (h : LI A w) (hi : i + 2 < gN G) (hN : gN G ≤ 1536) {Z : ZT} (K : ∀ A2 w2, LI A2 w2 → Ev G 70 b mL_law 2585 (lq_ i) [] w2 Z) : Ev G 70 (b + 1) mL_law 1344 (lq_ i) [] w Z := by
  refine ev_aload_n dL_law_1344 rfl ?_
  refine ev_aload_n dL_law_1345 rfl ?_
  refine ev_iload dL_law_1346 rfl ?_
  refine ev_iconst dL_law_1348 ic1 ?_
  refine ev_iadd dL_law_1349 ?_
  first | refine ev_top (nI_add _ _) ?_ | skip
  refine ev_sload dL_law_1350 rfl (by omega) hN ?_
  refine ev_aload_n dL_law_1351 rfl ?_
  obtain ⟨_, w1, ⟨rfl, hA1, hc1, hv1⟩, hB1⟩ := hL_partsAgain (G := G) h.1 (gX G (i + 1))
  refine ev_callSW kL_206 hB1 dL_law_1352 rfl (by decide) (Nat.le_add_left 1 b) rfl ?_
  refine ev_ist6 dL_law_1355 (by decide) rfl ?_
  refine ev_aload_n dL_law_1357 rfl ?_
  refine ev_aload_n dL_law_1358 rfl ?_
  refine ev_iload dL_law_1359 rfl ?_
  refine ev_iconst dL_law_1361 ic1 ?_
  refine ev_iadd dL_law_1362 ?_
  first | refine ev_top (nI_add _ _) ?_ | skip
  refine ev_sload dL_law_1363 rfl (by omega) hN ?_
  obtain ⟨_, w2, ⟨v, rfl, hv2, h6, hm2, hf2⟩, hB2⟩ := mo_p (mX_k h.2.1 hc1) (gX12_partsAgain (G := G) (mX_k h.2.1 hc1).1 (gX G (i + 1)))
  refine ev_callV kL_208 co115 hB2 dL_law_1364 rfl (by decide) (Nat.zero_le _) rfl ?_
  refine ev_ist7 dL_law_1367 (by decide) rfl ?_
  refine ev_aload_n dL_law_1369 rfl ?_
  refine ev_callV kL_151 co115 (qX12_thrown h6) dL_law_1370 rfl (by decide) (Nat.zero_le _) rfl ?_
  refine ev_iload dL_law_1373 rfl ?_
  refine ev_icmp_eq_t (tgt := 1380) dL_law_1375 (by decide) rfl ?_
  refine ev_iload dL_law_1380 rfl ?_
  refine ev_if_ne (tgt := 1397) dL_law_1382 (by decide) (fun hc1382 => ?_) (fun hc1382 => ?_)
  · refine ev_goto (tgt := 2585) dL_law_1397 (by decide) ?_
    exact lq_fg (K _ w2 (li_of hA1 hf2 hm2 h.2.2))
  · refine ev_aload_n dL_law_1385 rfl ?_
    refine ev_iconst dL_law_1386 ic0 ?_
    have hk0 : ((qPa (aS A) (gX G (i + 1)), A)).1.1 = 0 := nI_inj (Nat.lt_of_le_of_lt le_partsAgain (by decide)) (by decide) hc1382
    refine ev_laload dL_law_1387 rfl ?_
    refine ev_iload dL_law_1388 rfl ?_
    refine ev_i2l dL_law_1390 ?_
    refine ev_lcmp dL_law_1391 ?_
    refine ev_if_eq_t (tgt := 1397) dL_law_1392 (by decide) (lc_v hv1 hv2 hf2.2 hk0) ?_
    refine ev_goto (tgt := 2585) dL_law_1397 (by decide) ?_
    exact lq_fg (K _ w2 (li_of hA1 hf2 hm2 h.2.2))
set_option maxRecDepth 4000 in
theorem lc_19 {G : GX} {w : WS} {A : AS} {b i : Nat} (h : LI A w) (hi : i + 2 < gN G) (hN : gN G ≤ 1536) {Z : ZT} (K : ∀ A2 w2, LI A2 w2 → Ev G 70 b mL_law 2585 (lq_ i) [] w2 Z) : Ev G 70 (b + 1) mL_law 1400 (lq_ i) [] w Z := by
  refine ev_aload_n dL_law_1400 rfl ?_
  refine ev_aload_n dL_law_1401 rfl ?_
  refine ev_iload dL_law_1402 rfl ?_
  refine ev_iconst dL_law_1404 ic1 ?_
  refine ev_iadd dL_law_1405 ?_
  first | refine ev_top (nI_add _ _) ?_ | skip
  refine ev_sload dL_law_1406 rfl (by omega) hN ?_
  refine ev_aload_n dL_law_1407 rfl ?_
  refine ev_iload dL_law_1408 rfl ?_
  refine ev_iconst dL_law_1410 ic2 ?_
  refine ev_iadd dL_law_1411 ?_
  first | refine ev_top (nI_add _ _) ?_ | skip
  refine ev_sload dL_law_1412 rfl (by omega) hN ?_
  refine ev_aload_n dL_law_1413 rfl ?_
  obtain ⟨_, w1, ⟨rfl, hA1, hc1, hv1⟩, hB1⟩ := hL_couldShave (G := G) h.1 (gX G (i + 1)) (gX G (i + 2))
  refine ev_callSW kL_209 hB1 dL_law_1414 rfl (by decide) (Nat.le_add_left 1 b) rfl ?_
  refine ev_ist6 dL_law_1417 (by decide) rfl ?_
  refine ev_aload_n dL_law_1419 rfl ?_
  refine ev_aload_n dL_law_1420 rfl ?_
  refine ev_iload dL_law_1421 rfl ?_
  refine ev_iconst dL_law_1423 ic1 ?_
  refine ev_iadd dL_law_1424 ?_
  first | refine ev_top (nI_add _ _) ?_ | skip
  refine ev_sload dL_law_1425 rfl (by omega) hN ?_
  refine ev_aload_n dL_law_1426 rfl ?_
  refine ev_iload dL_law_1427 rfl ?_
  refine ev_iconst dL_law_1429 ic2 ?_
  refine ev_iadd dL_law_1430 ?_
  first | refine ev_top (nI_add _ _) ?_ | skip
  refine ev_sload dL_law_1431 rfl (by omega) hN ?_
  obtain ⟨_, w2, ⟨v, rfl, hv2, h6, hm2, hf2⟩, hB2⟩ := mo_q (mX_k h.2.1 hc1) (gX12_couldShave (G := G) (mX_k h.2.1 hc1).1 (gX G (i + 1)) (gX G (i + 2)))
  refine ev_callV kL_211 co115 hB2 dL_law_1432 rfl (by decide) (Nat.zero_le _) rfl ?_
  refine ev_ist7 dL_law_1435 (by decide) rfl ?_
  refine ev_aload_n dL_law_1437 rfl ?_
  refine ev_callV kL_151 co115 (qX12_thrown h6) dL_law_1438 rfl (by decide) (Nat.zero_le _) rfl ?_
  refine ev_iload dL_law_1441 rfl ?_
  refine ev_icmp_eq_t (tgt := 1448) dL_law_1443 (by decide) rfl ?_
  refine ev_iload dL_law_1448 rfl ?_
  refine ev_if_ne (tgt := 1472) dL_law_1450 (by decide) (fun hc1450 => ?_) (fun hc1450 => ?_)
  · refine ev_goto (tgt := 2585) dL_law_1472 (by decide) ?_
    exact lq_fg (K _ w2 (li_of hA1 hf2 hm2 h.2.2))
  · refine ev_aload_n dL_law_1453 rfl ?_
    refine ev_iconst dL_law_1454 ic0 ?_
    have hk0 : ((qCs (aS A) (gX G (i + 1)) (gX G (i + 2)), A)).1.1 = 0 := nI_inj (Nat.lt_of_le_of_lt le_couldShave (by decide)) (by decide) hc1450
    refine ev_laload dL_law_1455 rfl ?_
    refine ev_iload dL_law_1456 rfl ?_
    refine ev_if_eq (tgt := 1465) dL_law_1458 (by decide) (fun hc1458 => ?_) (fun hc1458 => ?_)
    · have lc9 : lg_cmp w2.2.1 (0 : Int64) = 0 := by rw [hf2.2, hv1 hk0, ← hv2 hk0, if_pos hc1458]; exact lg_rf _
      refine ev_lconst dL_law_1465 rfl ?_
      refine ev_lcmp dL_law_1466 ?_
      refine ev_if_eq_t (tgt := 1472) dL_law_1467 (by decide) lc9 ?_
      refine ev_goto (tgt := 2585) dL_law_1472 (by decide) ?_
      exact lq_fg (K _ w2 (li_of hA1 hf2 hm2 h.2.2))
    · have lc9 : lg_cmp w2.2.1 (1 : Int64) = 0 := by rw [hf2.2, hv1 hk0, ← hv2 hk0, if_neg hc1458]; exact lg_rf _
      refine ev_lconst dL_law_1461 rfl ?_
      refine ev_goto (tgt := 1466) dL_law_1462 (by decide) ?_
      refine ev_lcmp dL_law_1466 ?_
      refine ev_if_eq_t (tgt := 1472) dL_law_1467 (by decide) lc9 ?_
      refine ev_goto (tgt := 2585) dL_law_1472 (by decide) ?_
      exact lq_fg (K _ w2 (li_of hA1 hf2 hm2 h.2.2))
set_option maxRecDepth 4000 in
theorem lc_20 {G : GX} {w : WS} {A : AS} {b i : Nat} (h : LI A w) (hi : i + 2 < gN G) (hN : gN G ≤ 1536) {Z : ZT} (K : ∀ A2 w2, LI A2 w2 → Ev G 70 b mL_law 2585 (lq_ i) [] w2 Z) : Ev G 70 (b + 1) mL_law 1475 (lq_ i) [] w Z := by
  refine ev_aload_n dL_law_1475 rfl ?_
  refine ev_aload_n dL_law_1476 rfl ?_
  refine ev_iload dL_law_1477 rfl ?_
  refine ev_iconst dL_law_1479 ic1 ?_
  refine ev_iadd dL_law_1480 ?_
  first | refine ev_top (nI_add _ _) ?_ | skip
  refine ev_sload dL_law_1481 rfl (by omega) hN ?_
  refine ev_aload_n dL_law_1482 rfl ?_
  obtain ⟨_, w1, ⟨rfl, hA1, hc1, hv1⟩, hB1⟩ := hL_shavable (G := G) h.1 (gX G (i + 1))
  refine ev_callSW kL_212 hB1 dL_law_1483 rfl (by decide) (Nat.le_add_left 1 b) rfl ?_
  refine ev_ist6 dL_law_1486 (by decide) rfl ?_
  refine ev_aload_n dL_law_1488 rfl ?_
  refine ev_aload_n dL_law_1489 rfl ?_
  refine ev_iload dL_law_1490 rfl ?_
  refine ev_iconst dL_law_1492 ic1 ?_
  refine ev_iadd dL_law_1493 ?_
  first | refine ev_top (nI_add _ _) ?_ | skip
  refine ev_sload dL_law_1494 rfl (by omega) hN ?_
  obtain ⟨_, w2, ⟨v, rfl, hv2, h6, hm2, hf2⟩, hB2⟩ := mo_q (mX_k h.2.1 hc1) (gX12_shavable (G := G) (mX_k h.2.1 hc1).1 (gX G (i + 1)))
  refine ev_callV kL_214 co115 hB2 dL_law_1495 rfl (by decide) (Nat.zero_le _) rfl ?_
  refine ev_ist7 dL_law_1498 (by decide) rfl ?_
  refine ev_aload_n dL_law_1500 rfl ?_
  refine ev_callV kL_151 co115 (qX12_thrown h6) dL_law_1501 rfl (by decide) (Nat.zero_le _) rfl ?_
  refine ev_iload dL_law_1504 rfl ?_
  refine ev_icmp_eq_t (tgt := 1511) dL_law_1506 (by decide) rfl ?_
  refine ev_iload dL_law_1511 rfl ?_
  refine ev_if_ne (tgt := 1528) dL_law_1513 (by decide) (fun hc1513 => ?_) (fun hc1513 => ?_)
  · refine ev_goto (tgt := 2585) dL_law_1528 (by decide) ?_
    exact lq_fg (K _ w2 (li_of hA1 hf2 hm2 h.2.2))
  · refine ev_aload_n dL_law_1516 rfl ?_
    refine ev_iconst dL_law_1517 ic0 ?_
    have hk0 : ((qSh (aS A) (gX G (i + 1)), A)).1.1 = 0 := nI_inj (Nat.lt_of_le_of_lt le_shavable (by decide)) (by decide) hc1513
    refine ev_laload dL_law_1518 rfl ?_
    refine ev_iload dL_law_1519 rfl ?_
    refine ev_i2l dL_law_1521 ?_
    refine ev_lcmp dL_law_1522 ?_
    refine ev_if_eq_t (tgt := 1528) dL_law_1523 (by decide) (lc_v hv1 hv2 hf2.2 hk0) ?_
    refine ev_goto (tgt := 2585) dL_law_1528 (by decide) ?_
    exact lq_fg (K _ w2 (li_of hA1 hf2 hm2 h.2.2))
set_option maxRecDepth 4000 in
theorem lc_21 {G : GX} {w : WS} {A : AS} {b i : Nat} (h : LI A w) (hi : i + 2 < gN G) (hN : gN G ≤ 1536) {Z : ZT} (K : ∀ A2 w2, LI A2 w2 → Ev G 70 b mL_law 2585 (lq_ i) [] w2 Z) : Ev G 70 (b + 1) mL_law 1531 (lq_ i) [] w Z := by
  rcases Decidable.em ((gX G (i + 1)) = 0) with e | e
  · skip
    refine ev_aload_n dL_law_1531 rfl ?_
    refine ev_aload_n dL_law_1532 rfl ?_
    refine ev_iload dL_law_1533 rfl ?_
    refine ev_iconst dL_law_1535 ic1 ?_
    refine ev_iadd dL_law_1536 ?_
    first | refine ev_top (nI_add _ _) ?_ | skip
    refine ev_sload dL_law_1537 rfl (by omega) hN ?_
    refine ev_if_eq_t (tgt := 1545) dL_law_1538 (by decide) e ?_
    refine ev_iconst dL_law_1545 ic0 ?_
    refine ev_aload_n dL_law_1546 rfl ?_
    refine ev_iload dL_law_1547 rfl ?_
    refine ev_iconst dL_law_1549 ic2 ?_
    refine ev_iadd dL_law_1550 ?_
    first | refine ev_top (nI_add _ _) ?_ | skip
    refine ev_sload dL_law_1551 rfl (by omega) hN ?_
    refine ev_aload_n dL_law_1552 rfl ?_
    obtain ⟨_, w1, ⟨rfl, hA1, hc1, hv1⟩, hB1⟩ := hL_lies (G := G) h.1 false (gX G (i + 2))
    refine ev_callSW kL_215 hB1 dL_law_1553 rfl (by decide) (Nat.le_add_left 1 b) rfl ?_
    refine ev_ist6 dL_law_1556 (by decide) rfl ?_
    refine ev_aload_n dL_law_1558 rfl ?_
    refine ev_aload_n dL_law_1559 rfl ?_
    refine ev_iload dL_law_1560 rfl ?_
    refine ev_iconst dL_law_1562 ic1 ?_
    refine ev_iadd dL_law_1563 ?_
    first | refine ev_top (nI_add _ _) ?_ | skip
    refine ev_sload dL_law_1564 rfl (by omega) hN ?_
    refine ev_if_eq_t (tgt := 1572) dL_law_1565 (by decide) e ?_
    refine ev_iconst dL_law_1572 ic0 ?_
    refine ev_aload_n dL_law_1573 rfl ?_
    refine ev_iload dL_law_1574 rfl ?_
    refine ev_iconst dL_law_1576 ic2 ?_
    refine ev_iadd dL_law_1577 ?_
    first | refine ev_top (nI_add _ _) ?_ | skip
    refine ev_sload dL_law_1578 rfl (by omega) hN ?_
    obtain ⟨_, w2, ⟨v, rfl, hv2, h6, hm2, hf2⟩, hB2⟩ := mo_q (mX_k h.2.1 hc1) (gX12_lies (G := G) (mX_k h.2.1 hc1).1 false (gX G (i + 2)))
    refine ev_callV kL_218 co115 hB2 dL_law_1579 rfl (by decide) (Nat.zero_le _) rfl ?_
    refine ev_ist7 dL_law_1582 (by decide) rfl ?_
    refine ev_aload_n dL_law_1584 rfl ?_
    refine ev_callV kL_151 co115 (qX12_thrown h6) dL_law_1585 rfl (by decide) (Nat.zero_le _) rfl ?_
    refine ev_iload dL_law_1588 rfl ?_
    refine ev_icmp_eq_t (tgt := 1595) dL_law_1590 (by decide) rfl ?_
    refine ev_iload dL_law_1595 rfl ?_
    refine ev_if_ne (tgt := 1612) dL_law_1597 (by decide) (fun hc1597 => ?_) (fun hc1597 => ?_)
    · refine ev_goto (tgt := 2585) dL_law_1612 (by decide) ?_
      exact lq_fg (K _ w2 (li_of hA1 hf2 hm2 h.2.2))
    · refine ev_aload_n dL_law_1600 rfl ?_
      refine ev_iconst dL_law_1601 ic0 ?_
      have hk0 : ((qLi (aS A) false (gX G (i + 2)), A)).1.1 = 0 := nI_inj (Nat.lt_of_le_of_lt le_lies (by decide)) (by decide) hc1597
      refine ev_laload dL_law_1602 rfl ?_
      refine ev_iload dL_law_1603 rfl ?_
      refine ev_i2l dL_law_1605 ?_
      refine ev_lcmp dL_law_1606 ?_
      refine ev_if_eq_t (tgt := 1612) dL_law_1607 (by decide) (lc_v hv1 hv2 hf2.2 hk0) ?_
      refine ev_goto (tgt := 2585) dL_law_1612 (by decide) ?_
      exact lq_fg (K _ w2 (li_of hA1 hf2 hm2 h.2.2))
  · skip
    refine ev_aload_n dL_law_1531 rfl ?_
    refine ev_aload_n dL_law_1532 rfl ?_
    refine ev_iload dL_law_1533 rfl ?_
    refine ev_iconst dL_law_1535 ic1 ?_
    refine ev_iadd dL_law_1536 ?_
    first | refine ev_top (nI_add _ _) ?_ | skip
    refine ev_sload dL_law_1537 rfl (by omega) hN ?_
    refine ev_if_eq_f (tgt := 1545) dL_law_1538 (by decide) e ?_
    refine ev_iconst dL_law_1541 ic1 ?_
    refine ev_goto (tgt := 1546) dL_law_1542 (by decide) ?_
    refine ev_aload_n dL_law_1546 rfl ?_
    refine ev_iload dL_law_1547 rfl ?_
    refine ev_iconst dL_law_1549 ic2 ?_
    refine ev_iadd dL_law_1550 ?_
    first | refine ev_top (nI_add _ _) ?_ | skip
    refine ev_sload dL_law_1551 rfl (by omega) hN ?_
    refine ev_aload_n dL_law_1552 rfl ?_
    obtain ⟨_, w1, ⟨rfl, hA1, hc1, hv1⟩, hB1⟩ := hL_lies (G := G) h.1 true (gX G (i + 2))
    refine ev_callSW kL_215 hB1 dL_law_1553 rfl (by decide) (Nat.le_add_left 1 b) rfl ?_
    refine ev_ist6 dL_law_1556 (by decide) rfl ?_
    refine ev_aload_n dL_law_1558 rfl ?_
    refine ev_aload_n dL_law_1559 rfl ?_
    refine ev_iload dL_law_1560 rfl ?_
    refine ev_iconst dL_law_1562 ic1 ?_
    refine ev_iadd dL_law_1563 ?_
    first | refine ev_top (nI_add _ _) ?_ | skip
    refine ev_sload dL_law_1564 rfl (by omega) hN ?_
    refine ev_if_eq_f (tgt := 1572) dL_law_1565 (by decide) e ?_
    refine ev_iconst dL_law_1568 ic1 ?_
    refine ev_goto (tgt := 1573) dL_law_1569 (by decide) ?_
    refine ev_aload_n dL_law_1573 rfl ?_
    refine ev_iload dL_law_1574 rfl ?_
    refine ev_iconst dL_law_1576 ic2 ?_
    refine ev_iadd dL_law_1577 ?_
    first | refine ev_top (nI_add _ _) ?_ | skip
    refine ev_sload dL_law_1578 rfl (by omega) hN ?_
    obtain ⟨_, w2, ⟨v, rfl, hv2, h6, hm2, hf2⟩, hB2⟩ := mo_q (mX_k h.2.1 hc1) (gX12_lies (G := G) (mX_k h.2.1 hc1).1 true (gX G (i + 2)))
    refine ev_callV kL_218 co115 hB2 dL_law_1579 rfl (by decide) (Nat.zero_le _) rfl ?_
    refine ev_ist7 dL_law_1582 (by decide) rfl ?_
    refine ev_aload_n dL_law_1584 rfl ?_
    refine ev_callV kL_151 co115 (qX12_thrown h6) dL_law_1585 rfl (by decide) (Nat.zero_le _) rfl ?_
    refine ev_iload dL_law_1588 rfl ?_
    refine ev_icmp_eq_t (tgt := 1595) dL_law_1590 (by decide) rfl ?_
    refine ev_iload dL_law_1595 rfl ?_
    refine ev_if_ne (tgt := 1612) dL_law_1597 (by decide) (fun hc1597 => ?_) (fun hc1597 => ?_)
    · refine ev_goto (tgt := 2585) dL_law_1612 (by decide) ?_
      exact lq_fg (K _ w2 (li_of hA1 hf2 hm2 h.2.2))
    · refine ev_aload_n dL_law_1600 rfl ?_
      refine ev_iconst dL_law_1601 ic0 ?_
      have hk0 : ((qLi (aS A) true (gX G (i + 2)), A)).1.1 = 0 := nI_inj (Nat.lt_of_le_of_lt le_lies (by decide)) (by decide) hc1597
      refine ev_laload dL_law_1602 rfl ?_
      refine ev_iload dL_law_1603 rfl ?_
      refine ev_i2l dL_law_1605 ?_
      refine ev_lcmp dL_law_1606 ?_
      refine ev_if_eq_t (tgt := 1612) dL_law_1607 (by decide) (lc_v hv1 hv2 hf2.2 hk0) ?_
      refine ev_goto (tgt := 2585) dL_law_1612 (by decide) ?_
      exact lq_fg (K _ w2 (li_of hA1 hf2 hm2 h.2.2))
set_option maxRecDepth 4000 in
theorem lc_22 {G : GX} {w : WS} {A : AS} {b i : Nat} (h : LI A w) (hi : i + 2 < gN G) (hN : gN G ≤ 1536) {Z : ZT} (K : ∀ A2 w2, LI A2 w2 → Ev G 70 b mL_law 2585 (lq_ i) [] w2 Z) : Ev G 70 (b + 1) mL_law 1615 (lq_ i) [] w Z := by
  rcases Decidable.em ((gX G (i + 1)) = 0) with e | e
  · skip
    refine ev_aload_n dL_law_1615 rfl ?_
    refine ev_aload_n dL_law_1616 rfl ?_
    refine ev_iload dL_law_1617 rfl ?_
    refine ev_iconst dL_law_1619 ic1 ?_
    refine ev_iadd dL_law_1620 ?_
    first | refine ev_top (nI_add _ _) ?_ | skip
    refine ev_sload dL_law_1621 rfl (by omega) hN ?_
    refine ev_if_eq_t (tgt := 1629) dL_law_1622 (by decide) e ?_
    refine ev_iconst dL_law_1629 ic0 ?_
    refine ev_aload_n dL_law_1630 rfl ?_
    refine ev_iload dL_law_1631 rfl ?_
    refine ev_iconst dL_law_1633 ic2 ?_
    refine ev_iadd dL_law_1634 ?_
    first | refine ev_top (nI_add _ _) ?_ | skip
    refine ev_sload dL_law_1635 rfl (by omega) hN ?_
    refine ev_aload_n dL_law_1636 rfl ?_
    obtain ⟨_, w1, ⟨rfl, hA1, hc1, hv1⟩, hB1⟩ := hL_liesAgain (G := G) h.1 false (gX G (i + 2))
    refine ev_callSW kL_219 hB1 dL_law_1637 rfl (by decide) (Nat.le_add_left 1 b) rfl ?_
    refine ev_ist6 dL_law_1640 (by decide) rfl ?_
    refine ev_aload_n dL_law_1642 rfl ?_
    refine ev_aload_n dL_law_1643 rfl ?_
    refine ev_iload dL_law_1644 rfl ?_
    refine ev_iconst dL_law_1646 ic1 ?_
    refine ev_iadd dL_law_1647 ?_
    first | refine ev_top (nI_add _ _) ?_ | skip
    refine ev_sload dL_law_1648 rfl (by omega) hN ?_
    refine ev_if_eq_t (tgt := 1656) dL_law_1649 (by decide) e ?_
    refine ev_iconst dL_law_1656 ic0 ?_
    refine ev_aload_n dL_law_1657 rfl ?_
    refine ev_iload dL_law_1658 rfl ?_
    refine ev_iconst dL_law_1660 ic2 ?_
    refine ev_iadd dL_law_1661 ?_
    first | refine ev_top (nI_add _ _) ?_ | skip
    refine ev_sload dL_law_1662 rfl (by omega) hN ?_
    obtain ⟨_, w2, ⟨v, rfl, hv2, h6, hm2, hf2⟩, hB2⟩ := mo_q (mX_k h.2.1 hc1) (gX12_liesAgain (G := G) (mX_k h.2.1 hc1).1 false (gX G (i + 2)))
    refine ev_callV kL_221 co115 hB2 dL_law_1663 rfl (by decide) (Nat.zero_le _) rfl ?_
    refine ev_ist7 dL_law_1666 (by decide) rfl ?_
    refine ev_aload_n dL_law_1668 rfl ?_
    refine ev_callV kL_151 co115 (qX12_thrown h6) dL_law_1669 rfl (by decide) (Nat.zero_le _) rfl ?_
    refine ev_iload dL_law_1672 rfl ?_
    refine ev_icmp_eq_t (tgt := 1679) dL_law_1674 (by decide) rfl ?_
    refine ev_iload dL_law_1679 rfl ?_
    refine ev_if_ne (tgt := 1696) dL_law_1681 (by decide) (fun hc1681 => ?_) (fun hc1681 => ?_)
    · refine ev_goto (tgt := 2585) dL_law_1696 (by decide) ?_
      exact lq_fg (K _ w2 (li_of hA1 hf2 hm2 h.2.2))
    · refine ev_aload_n dL_law_1684 rfl ?_
      refine ev_iconst dL_law_1685 ic0 ?_
      have hk0 : ((qLi (aS A) false (gX G (i + 2)), A)).1.1 = 0 := nI_inj (Nat.lt_of_le_of_lt le_liesAgain (by decide)) (by decide) hc1681
      refine ev_laload dL_law_1686 rfl ?_
      refine ev_iload dL_law_1687 rfl ?_
      refine ev_i2l dL_law_1689 ?_
      refine ev_lcmp dL_law_1690 ?_
      refine ev_if_eq_t (tgt := 1696) dL_law_1691 (by decide) (lc_v hv1 hv2 hf2.2 hk0) ?_
      refine ev_goto (tgt := 2585) dL_law_1696 (by decide) ?_
      exact lq_fg (K _ w2 (li_of hA1 hf2 hm2 h.2.2))
  · skip
    refine ev_aload_n dL_law_1615 rfl ?_
    refine ev_aload_n dL_law_1616 rfl ?_
    refine ev_iload dL_law_1617 rfl ?_
    refine ev_iconst dL_law_1619 ic1 ?_
    refine ev_iadd dL_law_1620 ?_
    first | refine ev_top (nI_add _ _) ?_ | skip
    refine ev_sload dL_law_1621 rfl (by omega) hN ?_
    refine ev_if_eq_f (tgt := 1629) dL_law_1622 (by decide) e ?_
    refine ev_iconst dL_law_1625 ic1 ?_
    refine ev_goto (tgt := 1630) dL_law_1626 (by decide) ?_
    refine ev_aload_n dL_law_1630 rfl ?_
    refine ev_iload dL_law_1631 rfl ?_
    refine ev_iconst dL_law_1633 ic2 ?_
    refine ev_iadd dL_law_1634 ?_
    first | refine ev_top (nI_add _ _) ?_ | skip
    refine ev_sload dL_law_1635 rfl (by omega) hN ?_
    refine ev_aload_n dL_law_1636 rfl ?_
    obtain ⟨_, w1, ⟨rfl, hA1, hc1, hv1⟩, hB1⟩ := hL_liesAgain (G := G) h.1 true (gX G (i + 2))
    refine ev_callSW kL_219 hB1 dL_law_1637 rfl (by decide) (Nat.le_add_left 1 b) rfl ?_
    refine ev_ist6 dL_law_1640 (by decide) rfl ?_
    refine ev_aload_n dL_law_1642 rfl ?_
    refine ev_aload_n dL_law_1643 rfl ?_
    refine ev_iload dL_law_1644 rfl ?_
    refine ev_iconst dL_law_1646 ic1 ?_
    refine ev_iadd dL_law_1647 ?_
    first | refine ev_top (nI_add _ _) ?_ | skip
    refine ev_sload dL_law_1648 rfl (by omega) hN ?_
    refine ev_if_eq_f (tgt := 1656) dL_law_1649 (by decide) e ?_
    refine ev_iconst dL_law_1652 ic1 ?_
    refine ev_goto (tgt := 1657) dL_law_1653 (by decide) ?_
    refine ev_aload_n dL_law_1657 rfl ?_
    refine ev_iload dL_law_1658 rfl ?_
    refine ev_iconst dL_law_1660 ic2 ?_
    refine ev_iadd dL_law_1661 ?_
    first | refine ev_top (nI_add _ _) ?_ | skip
    refine ev_sload dL_law_1662 rfl (by omega) hN ?_
    obtain ⟨_, w2, ⟨v, rfl, hv2, h6, hm2, hf2⟩, hB2⟩ := mo_q (mX_k h.2.1 hc1) (gX12_liesAgain (G := G) (mX_k h.2.1 hc1).1 true (gX G (i + 2)))
    refine ev_callV kL_221 co115 hB2 dL_law_1663 rfl (by decide) (Nat.zero_le _) rfl ?_
    refine ev_ist7 dL_law_1666 (by decide) rfl ?_
    refine ev_aload_n dL_law_1668 rfl ?_
    refine ev_callV kL_151 co115 (qX12_thrown h6) dL_law_1669 rfl (by decide) (Nat.zero_le _) rfl ?_
    refine ev_iload dL_law_1672 rfl ?_
    refine ev_icmp_eq_t (tgt := 1679) dL_law_1674 (by decide) rfl ?_
    refine ev_iload dL_law_1679 rfl ?_
    refine ev_if_ne (tgt := 1696) dL_law_1681 (by decide) (fun hc1681 => ?_) (fun hc1681 => ?_)
    · refine ev_goto (tgt := 2585) dL_law_1696 (by decide) ?_
      exact lq_fg (K _ w2 (li_of hA1 hf2 hm2 h.2.2))
    · refine ev_aload_n dL_law_1684 rfl ?_
      refine ev_iconst dL_law_1685 ic0 ?_
      have hk0 : ((qLi (aS A) true (gX G (i + 2)), A)).1.1 = 0 := nI_inj (Nat.lt_of_le_of_lt le_liesAgain (by decide)) (by decide) hc1681
      refine ev_laload dL_law_1686 rfl ?_
      refine ev_iload dL_law_1687 rfl ?_
      refine ev_i2l dL_law_1689 ?_
      refine ev_lcmp dL_law_1690 ?_
      refine ev_if_eq_t (tgt := 1696) dL_law_1691 (by decide) (lc_v hv1 hv2 hf2.2 hk0) ?_
      refine ev_goto (tgt := 2585) dL_law_1696 (by decide) ?_
      exact lq_fg (K _ w2 (li_of hA1 hf2 hm2 h.2.2))
set_option maxRecDepth 4000 in
theorem lc_25 {G : GX} {w : WS} {A : AS} {b i : Nat} (h : LI A w) (hi : i + 2 < gN G) (hN : gN G ≤ 1536) {Z : ZT} (K : ∀ A2 w2, LI A2 w2 → Ev G 70 b mL_law 2585 (lq_ i) [] w2 Z) : Ev G 70 (b + 1) mL_law 1753 (lq_ i) [] w Z := by
  refine ev_aload_n dL_law_1753 rfl ?_
  refine ev_aload_n dL_law_1754 rfl ?_
  obtain ⟨_, w1, ⟨rfl, hA1, hc1, hv1⟩, hB1⟩ := hL_bestScale (G := G) h.1
  refine ev_callSW kL_231 hB1 dL_law_1755 rfl (by decide) (Nat.le_add_left 1 b) rfl ?_
  refine ev_ist6 dL_law_1758 (by decide) rfl ?_
  refine ev_aload_n dL_law_1760 rfl ?_
  obtain ⟨_, w2, ⟨v, rfl, hv2, h6, hm2, hf2⟩, hB2⟩ := mo_q (mX_k h.2.1 hc1) (gX12_bestScale (G := G) (mX_k h.2.1 hc1).1)
  refine ev_callV kL_234 co115 hB2 dL_law_1761 rfl (by decide) (Nat.zero_le _) rfl ?_
  refine ev_ist7 dL_law_1764 (by decide) rfl ?_
  refine ev_aload_n dL_law_1766 rfl ?_
  refine ev_callV kL_151 co115 (qX12_thrown h6) dL_law_1767 rfl (by decide) (Nat.zero_le _) rfl ?_
  refine ev_iload dL_law_1770 rfl ?_
  refine ev_icmp_eq_t (tgt := 1777) dL_law_1772 (by decide) rfl ?_
  refine ev_iload dL_law_1777 rfl ?_
  refine ev_if_ne (tgt := 1794) dL_law_1779 (by decide) (fun hc1779 => ?_) (fun hc1779 => ?_)
  · refine ev_goto (tgt := 2585) dL_law_1794 (by decide) ?_
    exact lq_fg (K _ w2 (li_of hA1 hf2 hm2 h.2.2))
  · refine ev_aload_n dL_law_1782 rfl ?_
    refine ev_iconst dL_law_1783 ic0 ?_
    have hk0 : ((qBs (aS A), A)).1.1 = 0 := nI_inj (Nat.lt_of_le_of_lt le_bestScale (by decide)) (by decide) hc1779
    refine ev_laload dL_law_1784 rfl ?_
    refine ev_iload dL_law_1785 rfl ?_
    refine ev_i2l dL_law_1787 ?_
    refine ev_lcmp dL_law_1788 ?_
    refine ev_if_eq_t (tgt := 1794) dL_law_1789 (by decide) (lc_v hv1 hv2 hf2.2 hk0) ?_
    refine ev_goto (tgt := 2585) dL_law_1794 (by decide) ?_
    exact lq_fg (K _ w2 (li_of hA1 hf2 hm2 h.2.2))
set_option maxRecDepth 4000 in
theorem lc_26 {G : GX} {w : WS} {A : AS} {b i : Nat} (h : LI A w) (hi : i + 2 < gN G) (hN : gN G ≤ 1536) {Z : ZT} (K : ∀ A2 w2, LI A2 w2 → Ev G 70 b mL_law 2585 (lq_ i) [] w2 Z) : Ev G 70 (b + 1) mL_law 1797 (lq_ i) [] w Z := by
  refine ev_aload_n dL_law_1797 rfl ?_
  refine ev_aload_n dL_law_1798 rfl ?_
  refine ev_iload dL_law_1799 rfl ?_
  refine ev_iconst dL_law_1801 ic1 ?_
  refine ev_iadd dL_law_1802 ?_
  first | refine ev_top (nI_add _ _) ?_ | skip
  refine ev_sload dL_law_1803 rfl (by omega) hN ?_
  refine ev_aload_n dL_law_1804 rfl ?_
  obtain ⟨_, w1, ⟨rfl, hA1, hc1, hv1⟩, hB1⟩ := hL_ranked (G := G) h.1 (gX G (i + 1))
  refine ev_callSW kL_235 hB1 dL_law_1805 rfl (by decide) (Nat.le_add_left 1 b) rfl ?_
  refine ev_ist6 dL_law_1808 (by decide) rfl ?_
  refine ev_aload_n dL_law_1810 rfl ?_
  refine ev_aload_n dL_law_1811 rfl ?_
  refine ev_iload dL_law_1812 rfl ?_
  refine ev_iconst dL_law_1814 ic1 ?_
  refine ev_iadd dL_law_1815 ?_
  first | refine ev_top (nI_add _ _) ?_ | skip
  refine ev_sload dL_law_1816 rfl (by omega) hN ?_
  obtain ⟨_, w2, ⟨v, rfl, hv2, h6, hm2, hf2⟩, hB2⟩ := mo_q (mX_k h.2.1 hc1) (gX12_ranked (G := G) (mX_k h.2.1 hc1).1 h.2.2.1 (gX G (i + 1)))
  refine ev_callV kL_237 co115 hB2 dL_law_1817 rfl (by decide) (Nat.zero_le _) rfl ?_
  refine ev_ist7 dL_law_1820 (by decide) rfl ?_
  refine ev_aload_n dL_law_1822 rfl ?_
  refine ev_callV kL_151 co115 (qX12_thrown h6) dL_law_1823 rfl (by decide) (Nat.zero_le _) rfl ?_
  refine ev_iload dL_law_1826 rfl ?_
  refine ev_icmp_eq_t (tgt := 1833) dL_law_1828 (by decide) rfl ?_
  refine ev_iload dL_law_1833 rfl ?_
  refine ev_if_ne (tgt := 1850) dL_law_1835 (by decide) (fun hc1835 => ?_) (fun hc1835 => ?_)
  · refine ev_goto (tgt := 2585) dL_law_1850 (by decide) ?_
    exact lq_fg (K _ w2 (li_of hA1 hf2 hm2 h.2.2))
  · refine ev_aload_n dL_law_1838 rfl ?_
    refine ev_iconst dL_law_1839 ic0 ?_
    have hk0 : ((qRk (aS A) (gX G (i + 1)), A)).1.1 = 0 := nI_inj (Nat.lt_of_le_of_lt le_ranked (by decide)) (by decide) hc1835
    refine ev_laload dL_law_1840 rfl ?_
    refine ev_iload dL_law_1841 rfl ?_
    refine ev_i2l dL_law_1843 ?_
    refine ev_lcmp dL_law_1844 ?_
    refine ev_if_eq_t (tgt := 1850) dL_law_1845 (by decide) (lc_v hv1 hv2 hf2.2 hk0) ?_
    refine ev_goto (tgt := 2585) dL_law_1850 (by decide) ?_
    exact lq_fg (K _ w2 (li_of hA1 hf2 hm2 h.2.2))
set_option maxRecDepth 4000 in
theorem lc_27 {G : GX} {w : WS} {A : AS} {b i : Nat} (h : LI A w) (hi : i + 2 < gN G) (hN : gN G ≤ 1536) {Z : ZT} (K : ∀ A2 w2, LI A2 w2 → Ev G 70 b mL_law 2585 (lq_ i) [] w2 Z) : Ev G 70 (b + 1) mL_law 1853 (lq_ i) [] w Z := by
  refine ev_aload_n dL_law_1853 rfl ?_
  refine ev_aload_n dL_law_1854 rfl ?_
  refine ev_iload dL_law_1855 rfl ?_
  refine ev_iconst dL_law_1857 ic1 ?_
  refine ev_iadd dL_law_1858 ?_
  first | refine ev_top (nI_add _ _) ?_ | skip
  refine ev_sload dL_law_1859 rfl (by omega) hN ?_
  refine ev_aload_n dL_law_1860 rfl ?_
  obtain ⟨_, w1, ⟨rfl, hA1, hc1, hv1⟩, hB1⟩ := hL_heaviest (G := G) h.1 (gX G (i + 1))
  refine ev_callSW kL_238 hB1 dL_law_1861 rfl (by decide) (Nat.le_add_left 1 b) rfl ?_
  refine ev_ist6 dL_law_1864 (by decide) rfl ?_
  refine ev_aload_n dL_law_1866 rfl ?_
  refine ev_aload_n dL_law_1867 rfl ?_
  refine ev_iload dL_law_1868 rfl ?_
  refine ev_iconst dL_law_1870 ic1 ?_
  refine ev_iadd dL_law_1871 ?_
  first | refine ev_top (nI_add _ _) ?_ | skip
  refine ev_sload dL_law_1872 rfl (by omega) hN ?_
  obtain ⟨_, w2, ⟨v, rfl, hv2, h6, hm2, hf2⟩, hB2⟩ := mo_q (mX_k h.2.1 hc1) (gX12_heaviest (G := G) (mX_k h.2.1 hc1).1 (gX G (i + 1)))
  refine ev_callV kL_240 co115 hB2 dL_law_1873 rfl (by decide) (Nat.zero_le _) rfl ?_
  refine ev_ist7 dL_law_1876 (by decide) rfl ?_
  refine ev_aload_n dL_law_1878 rfl ?_
  refine ev_callV kL_151 co115 (qX12_thrown h6) dL_law_1879 rfl (by decide) (Nat.zero_le _) rfl ?_
  refine ev_iload dL_law_1882 rfl ?_
  refine ev_icmp_eq_t (tgt := 1889) dL_law_1884 (by decide) rfl ?_
  refine ev_iload dL_law_1889 rfl ?_
  refine ev_if_ne (tgt := 1906) dL_law_1891 (by decide) (fun hc1891 => ?_) (fun hc1891 => ?_)
  · refine ev_goto (tgt := 2585) dL_law_1906 (by decide) ?_
    exact lq_fg (K _ w2 (li_of hA1 hf2 hm2 h.2.2))
  · refine ev_aload_n dL_law_1894 rfl ?_
    refine ev_iconst dL_law_1895 ic0 ?_
    have hk0 : ((qHv (aS A) (gX G (i + 1)), A)).1.1 = 0 := nI_inj (Nat.lt_of_le_of_lt le_heaviest (by decide)) (by decide) hc1891
    refine ev_laload dL_law_1896 rfl ?_
    refine ev_iload dL_law_1897 rfl ?_
    refine ev_i2l dL_law_1899 ?_
    refine ev_lcmp dL_law_1900 ?_
    refine ev_if_eq_t (tgt := 1906) dL_law_1901 (by decide) (lc_v hv1 hv2 hf2.2 hk0) ?_
    refine ev_goto (tgt := 2585) dL_law_1906 (by decide) ?_
    exact lq_fg (K _ w2 (li_of hA1 hf2 hm2 h.2.2))
set_option maxRecDepth 4000 in
theorem lc_29 {G : GX} {w : WS} {A : AS} {b i : Nat} (h : LI A w) (hi : i + 2 < gN G) (hN : gN G ≤ 1536) {Z : ZT} (K : ∀ A2 w2, LI A2 w2 → Ev G 70 b mL_law 2585 (lq_ i) [] w2 Z) : Ev G 70 (b + 1) mL_law 1922 (lq_ i) [] w Z := by
  refine ev_aload_n dL_law_1922 rfl ?_
  refine ev_aload_n dL_law_1923 rfl ?_
  refine ev_iload dL_law_1924 rfl ?_
  refine ev_iconst dL_law_1926 ic1 ?_
  refine ev_iadd dL_law_1927 ?_
  first | refine ev_top (nI_add _ _) ?_ | skip
  refine ev_sload dL_law_1928 rfl (by omega) hN ?_
  refine ev_aload_n dL_law_1929 rfl ?_
  obtain ⟨_, w1, ⟨rfl, hA1, hc1, hv1⟩, hB1⟩ := hL_row (G := G) h.1 (gX G (i + 1))
  refine ev_callSW kL_246 hB1 dL_law_1930 rfl (by decide) (Nat.le_add_left 1 b) rfl ?_
  refine ev_ist6 dL_law_1933 (by decide) rfl ?_
  refine ev_aload_n dL_law_1935 rfl ?_
  refine ev_aload_n dL_law_1936 rfl ?_
  refine ev_iload dL_law_1937 rfl ?_
  refine ev_iconst dL_law_1939 ic1 ?_
  refine ev_iadd dL_law_1940 ?_
  first | refine ev_top (nI_add _ _) ?_ | skip
  refine ev_sload dL_law_1941 rfl (by omega) hN ?_
  obtain ⟨_, w2, ⟨v, rfl, hv2, h6, hm2, hf2⟩, hB2⟩ := gX12_row (G := G) (mX_k h.2.1 hc1) (gX G (i + 1))
  refine ev_callV kL_248 co115 hB2 dL_law_1942 rfl (by decide) (Nat.zero_le _) rfl ?_
  refine ev_ist7 dL_law_1945 (by decide) rfl ?_
  refine ev_aload_n dL_law_1947 rfl ?_
  refine ev_callV kL_151 co115 (qX12_thrown h6) dL_law_1948 rfl (by decide) (Nat.zero_le _) rfl ?_
  refine ev_iload dL_law_1951 rfl ?_
  refine ev_icmp_eq_t (tgt := 1958) dL_law_1953 (by decide) rfl ?_
  refine ev_iload dL_law_1958 rfl ?_
  refine ev_if_ne (tgt := 1975) dL_law_1960 (by decide) (fun hc1960 => ?_) (fun hc1960 => ?_)
  · refine ev_goto (tgt := 2585) dL_law_1975 (by decide) ?_
    exact lq_fg (K _ w2 (li_of hA1 hf2 hm2 (ca_row h.2.2 h.1.1.2)))
  · refine ev_aload_n dL_law_1963 rfl ?_
    refine ev_iconst dL_law_1964 ic0 ?_
    have hk0 : (spRow A (gX G (i + 1))).1.1 = 0 := nI_inj (Nat.lt_of_le_of_lt le_row (by decide)) (by decide) hc1960
    refine ev_laload dL_law_1965 rfl ?_
    refine ev_iload dL_law_1966 rfl ?_
    refine ev_i2l dL_law_1968 ?_
    refine ev_lcmp dL_law_1969 ?_
    refine ev_if_eq_t (tgt := 1975) dL_law_1970 (by decide) (lc_v hv1 hv2 hf2.2 hk0) ?_
    refine ev_goto (tgt := 2585) dL_law_1975 (by decide) ?_
    exact lq_fg (K _ w2 (li_of hA1 hf2 hm2 (ca_row h.2.2 h.1.1.2)))
set_option maxRecDepth 4000 in
theorem lc_30 {G : GX} {w : WS} {A : AS} {b i : Nat} (h : LI A w) (hi : i + 2 < gN G) (hN : gN G ≤ 1536) {Z : ZT} (K : ∀ A2 w2, LI A2 w2 → Ev G 70 b mL_law 2585 (lq_ i) [] w2 Z) : Ev G 70 (b + 1) mL_law 1978 (lq_ i) [] w Z := by
  refine ev_aload_n dL_law_1978 rfl ?_
  refine ev_aload_n dL_law_1979 rfl ?_
  refine ev_iload dL_law_1980 rfl ?_
  refine ev_iconst dL_law_1982 ic1 ?_
  refine ev_iadd dL_law_1983 ?_
  first | refine ev_top (nI_add _ _) ?_ | skip
  refine ev_sload dL_law_1984 rfl (by omega) hN ?_
  refine ev_aload_n dL_law_1985 rfl ?_
  obtain ⟨_, w1, ⟨rfl, hA1, hc1, hv1⟩, hB1⟩ := hL_tell (G := G) h.1 (gX G (i + 1))
  refine ev_callSW kL_249 hB1 dL_law_1986 rfl (by decide) (Nat.le_add_left 1 b) rfl ?_
  refine ev_ist6 dL_law_1989 (by decide) rfl ?_
  refine ev_aload_n dL_law_1991 rfl ?_
  refine ev_aload_n dL_law_1992 rfl ?_
  refine ev_iload dL_law_1993 rfl ?_
  refine ev_iconst dL_law_1995 ic1 ?_
  refine ev_iadd dL_law_1996 ?_
  first | refine ev_top (nI_add _ _) ?_ | skip
  refine ev_sload dL_law_1997 rfl (by omega) hN ?_
  obtain ⟨_, w2, ⟨v, rfl, hv2, h6, hm2, hf2⟩, hB2⟩ := gX12_tell (G := G) (mX_k h.2.1 hc1) (gX G (i + 1))
  refine ev_callV kL_251 co115 hB2 dL_law_1998 rfl (by decide) (Nat.zero_le _) rfl ?_
  refine ev_ist7 dL_law_2001 (by decide) rfl ?_
  refine ev_aload_n dL_law_2003 rfl ?_
  refine ev_callV kL_151 co115 (qX12_thrown h6) dL_law_2004 rfl (by decide) (Nat.zero_le _) rfl ?_
  refine ev_iload dL_law_2007 rfl ?_
  refine ev_icmp_eq_t (tgt := 2014) dL_law_2009 (by decide) rfl ?_
  refine ev_iload dL_law_2014 rfl ?_
  refine ev_if_ne (tgt := 2031) dL_law_2016 (by decide) (fun hc2016 => ?_) (fun hc2016 => ?_)
  · refine ev_goto (tgt := 2585) dL_law_2031 (by decide) ?_
    exact lq_fg (K _ w2 (li_of hA1 hf2 hm2 (ca_tell h.2.2 h.1.1.2)))
  · refine ev_aload_n dL_law_2019 rfl ?_
    refine ev_iconst dL_law_2020 ic0 ?_
    have hk0 : (spTell A (gX G (i + 1))).1.1 = 0 := nI_inj (Nat.lt_of_le_of_lt le_tell (by decide)) (by decide) hc2016
    refine ev_laload dL_law_2021 rfl ?_
    refine ev_iload dL_law_2022 rfl ?_
    refine ev_i2l dL_law_2024 ?_
    refine ev_lcmp dL_law_2025 ?_
    refine ev_if_eq_t (tgt := 2031) dL_law_2026 (by decide) (lc_v hv1 hv2 hf2.2 hk0) ?_
    refine ev_goto (tgt := 2585) dL_law_2031 (by decide) ?_
    exact lq_fg (K _ w2 (li_of hA1 hf2 hm2 (ca_tell h.2.2 h.1.1.2)))
set_option maxRecDepth 4000 in
theorem lc_31 {G : GX} {w : WS} {A : AS} {b i : Nat} (h : LI A w) (hi : i + 2 < gN G) (hN : gN G ≤ 1536) {Z : ZT} (K : ∀ A2 w2, LI A2 w2 → Ev G 70 b mL_law 2585 (lq_ i) [] w2 Z) : Ev G 70 (b + 1) mL_law 2034 (lq_ i) [] w Z := by
  refine ev_aload_n dL_law_2034 rfl ?_
  refine ev_aload_n dL_law_2035 rfl ?_
  refine ev_iload dL_law_2036 rfl ?_
  refine ev_iconst dL_law_2038 ic1 ?_
  refine ev_iadd dL_law_2039 ?_
  first | refine ev_top (nI_add _ _) ?_ | skip
  refine ev_sload dL_law_2040 rfl (by omega) hN ?_
  refine ev_aload_n dL_law_2041 rfl ?_
  obtain ⟨_, w1, ⟨rfl, hA1, hc1, hv1⟩, hB1⟩ := hL_character (G := G) h.1 (gX G (i + 1))
  refine ev_callSW kL_252 hB1 dL_law_2042 rfl (by decide) (Nat.le_add_left 1 b) rfl ?_
  refine ev_ist6 dL_law_2045 (by decide) rfl ?_
  refine ev_aload_n dL_law_2047 rfl ?_
  refine ev_aload_n dL_law_2048 rfl ?_
  refine ev_iload dL_law_2049 rfl ?_
  refine ev_iconst dL_law_2051 ic1 ?_
  refine ev_iadd dL_law_2052 ?_
  first | refine ev_top (nI_add _ _) ?_ | skip
  refine ev_sload dL_law_2053 rfl (by omega) hN ?_
  obtain ⟨_, w2, ⟨v, rfl, hv2, h6, hm2, hf2⟩, hB2⟩ := gX12_character (G := G) (mX_k h.2.1 hc1) (gX G (i + 1))
  refine ev_callV kL_254 co115 hB2 dL_law_2054 rfl (by decide) (Nat.zero_le _) rfl ?_
  refine ev_ist7 dL_law_2057 (by decide) rfl ?_
  refine ev_aload_n dL_law_2059 rfl ?_
  refine ev_callV kL_151 co115 (qX12_thrown h6) dL_law_2060 rfl (by decide) (Nat.zero_le _) rfl ?_
  refine ev_iload dL_law_2063 rfl ?_
  refine ev_icmp_eq_t (tgt := 2070) dL_law_2065 (by decide) rfl ?_
  refine ev_iload dL_law_2070 rfl ?_
  refine ev_if_ne (tgt := 2087) dL_law_2072 (by decide) (fun hc2072 => ?_) (fun hc2072 => ?_)
  · refine ev_goto (tgt := 2585) dL_law_2087 (by decide) ?_
    exact lq_fg (K _ w2 (li_of hA1 hf2 hm2 (ca_character h.2.2 h.1.1.2)))
  · refine ev_aload_n dL_law_2075 rfl ?_
    refine ev_iconst dL_law_2076 ic0 ?_
    have hk0 : (spChar A (gX G (i + 1))).1.1 = 0 := nI_inj (Nat.lt_of_le_of_lt le_character (by decide)) (by decide) hc2072
    refine ev_laload dL_law_2077 rfl ?_
    refine ev_iload dL_law_2078 rfl ?_
    refine ev_i2l dL_law_2080 ?_
    refine ev_lcmp dL_law_2081 ?_
    refine ev_if_eq_t (tgt := 2087) dL_law_2082 (by decide) (lc_v hv1 hv2 hf2.2 hk0) ?_
    refine ev_goto (tgt := 2585) dL_law_2087 (by decide) ?_
    exact lq_fg (K _ w2 (li_of hA1 hf2 hm2 (ca_character h.2.2 h.1.1.2)))
set_option maxRecDepth 4000 in
theorem lc_34 {G : GX} {w : WS} {A : AS} {b i : Nat} (h : LI A w) (hi : i + 2 < gN G) (hN : gN G ≤ 1536) {Z : ZT} (K : ∀ A2 w2, LI A2 w2 → Ev G 70 b mL_law 2585 (lq_ i) [] w2 Z) : Ev G 70 (b + 1) mL_law 2198 (lq_ i) [] w Z := by
  refine ev_aload_n dL_law_2198 rfl ?_
  refine ev_aload_n dL_law_2199 rfl ?_
  refine ev_iload dL_law_2200 rfl ?_
  refine ev_iconst dL_law_2202 ic1 ?_
  refine ev_iadd dL_law_2203 ?_
  first | refine ev_top (nI_add _ _) ?_ | skip
  refine ev_sload dL_law_2204 rfl (by omega) hN ?_
  refine ev_aload_n dL_law_2205 rfl ?_
  obtain ⟨_, w1, ⟨rfl, hA1, hc1, hv1⟩, hB1⟩ := hL_account (G := G) h.1 (gX G (i + 1))
  refine ev_callSW kL_264 hB1 dL_law_2206 rfl (by decide) (Nat.le_add_left 1 b) rfl ?_
  refine ev_ist6 dL_law_2209 (by decide) rfl ?_
  refine ev_aload_n dL_law_2211 rfl ?_
  refine ev_aload_n dL_law_2212 rfl ?_
  refine ev_iload dL_law_2213 rfl ?_
  refine ev_iconst dL_law_2215 ic1 ?_
  refine ev_iadd dL_law_2216 ?_
  first | refine ev_top (nI_add _ _) ?_ | skip
  refine ev_sload dL_law_2217 rfl (by omega) hN ?_
  obtain ⟨_, w2, ⟨v, rfl, hv2, h6, hm2, hf2⟩, hB2⟩ := gX12_account (G := G) (mX_k h.2.1 hc1) (gX G (i + 1))
  refine ev_callV kL_266 co115 hB2 dL_law_2218 rfl (by decide) (Nat.zero_le _) rfl ?_
  refine ev_ist7 dL_law_2221 (by decide) rfl ?_
  refine ev_aload_n dL_law_2223 rfl ?_
  refine ev_callV kL_151 co115 (qX12_thrown h6) dL_law_2224 rfl (by decide) (Nat.zero_le _) rfl ?_
  refine ev_iload dL_law_2227 rfl ?_
  refine ev_icmp_eq_t (tgt := 2234) dL_law_2229 (by decide) rfl ?_
  refine ev_iload dL_law_2234 rfl ?_
  refine ev_if_ne (tgt := 2251) dL_law_2236 (by decide) (fun hc2236 => ?_) (fun hc2236 => ?_)
  · refine ev_goto (tgt := 2585) dL_law_2251 (by decide) ?_
    exact lq_fg (K _ w2 (li_of hA1 hf2 hm2 (ca_account h.2.2 h.1.1.2)))
  · refine ev_aload_n dL_law_2239 rfl ?_
    refine ev_iconst dL_law_2240 ic0 ?_
    have hk0 : (spAcc A (gX G (i + 1))).1.1 = 0 := nI_inj (Nat.lt_of_le_of_lt le_account (by decide)) (by decide) hc2236
    refine ev_laload dL_law_2241 rfl ?_
    refine ev_iload dL_law_2242 rfl ?_
    refine ev_i2l dL_law_2244 ?_
    refine ev_lcmp dL_law_2245 ?_
    refine ev_if_eq_t (tgt := 2251) dL_law_2246 (by decide) (lc_v hv1 hv2 hf2.2 hk0) ?_
    refine ev_goto (tgt := 2585) dL_law_2251 (by decide) ?_
    exact lq_fg (K _ w2 (li_of hA1 hf2 hm2 (ca_account h.2.2 h.1.1.2)))
set_option maxRecDepth 4000 in
theorem lc_35 {G : GX} {w : WS} {A : AS} {b i : Nat} (h : LI A w) (hi : i + 2 < gN G) (hN : gN G ≤ 1536) {Z : ZT} (K : ∀ A2 w2, LI A2 w2 → Ev G 70 b mL_law 2585 (lq_ i) [] w2 Z) : Ev G 70 (b + 1) mL_law 2254 (lq_ i) [] w Z := by
  obtain ⟨c, hc, hce⟩ := i2c_c (gX G (i + 1))
  refine ev_aload_n dL_law_2254 rfl ?_
  refine ev_aload_n dL_law_2255 rfl ?_
  refine ev_iload dL_law_2256 rfl ?_
  refine ev_iconst dL_law_2258 ic1 ?_
  refine ev_iadd dL_law_2259 ?_
  first | refine ev_top (nI_add _ _) ?_ | skip
  refine ev_sload dL_law_2260 rfl (by omega) hN ?_
  refine ev_i2c dL_law_2261 hce ?_
  refine ev_aload_n dL_law_2262 rfl ?_
  obtain ⟨_, w1, ⟨rfl, hA1, hc1, hv1⟩, hB1⟩ := hL_append (G := G) h.1 hc
  refine ev_callSW kL_267 hB1 dL_law_2263 rfl (by decide) (Nat.le_add_left 1 b) rfl ?_
  refine ev_ist6 dL_law_2266 (by decide) rfl ?_
  refine ev_aload_n dL_law_2268 rfl ?_
  refine ev_aload_n dL_law_2269 rfl ?_
  refine ev_iload dL_law_2270 rfl ?_
  refine ev_iconst dL_law_2272 ic1 ?_
  refine ev_iadd dL_law_2273 ?_
  first | refine ev_top (nI_add _ _) ?_ | skip
  refine ev_sload dL_law_2274 rfl (by omega) hN ?_
  refine ev_i2c dL_law_2275 hce ?_
  obtain ⟨_, w2, ⟨v, rfl, hv2, h6, hm2, hf2⟩, hB2⟩ := gX12_append (G := G) (mX_k h.2.1 hc1) hc
  refine ev_callV kL_270 co115 hB2 dL_law_2276 rfl (by decide) (Nat.zero_le _) rfl ?_
  refine ev_ist7 dL_law_2279 (by decide) rfl ?_
  refine ev_aload_n dL_law_2281 rfl ?_
  refine ev_callV kL_151 co115 (qX12_thrown h6) dL_law_2282 rfl (by decide) (Nat.zero_le _) rfl ?_
  refine ev_iload dL_law_2285 rfl ?_
  refine ev_icmp_eq_t (tgt := 2292) dL_law_2287 (by decide) rfl ?_
  refine ev_iload dL_law_2292 rfl ?_
  refine ev_if_ne (tgt := 2309) dL_law_2294 (by decide) (fun hc2294 => ?_) (fun hc2294 => ?_)
  · refine ev_goto (tgt := 2585) dL_law_2309 (by decide) ?_
    exact lq_fg (K _ w2 (li_of hA1 hf2 hm2 (ca_append h.2.2 h.1.1.2)))
  · refine ev_aload_n dL_law_2297 rfl ?_
    refine ev_iconst dL_law_2298 ic0 ?_
    have hk0 : (spApp A c).1.1 = 0 := nI_inj (Nat.lt_of_le_of_lt le_append (by decide)) (by decide) hc2294
    refine ev_laload dL_law_2299 rfl ?_
    refine ev_iload dL_law_2300 rfl ?_
    refine ev_i2l dL_law_2302 ?_
    refine ev_lcmp dL_law_2303 ?_
    refine ev_if_eq_t (tgt := 2309) dL_law_2304 (by decide) (lc_v hv1 hv2 hf2.2 hk0) ?_
    refine ev_goto (tgt := 2585) dL_law_2309 (by decide) ?_
    exact lq_fg (K _ w2 (li_of hA1 hf2 hm2 (ca_append h.2.2 h.1.1.2)))
set_option maxRecDepth 4000 in
theorem lc_36 {G : GX} {w : WS} {A : AS} {b i : Nat} (h : LI A w) (hi : i + 2 < gN G) (hN : gN G ≤ 1536) {Z : ZT} (K : ∀ A2 w2, LI A2 w2 → Ev G 70 b mL_law 2585 (lq_ i) [] w2 Z) : Ev G 70 (b + 1) mL_law 2312 (lq_ i) [] w Z := by
  refine ev_aload_n dL_law_2312 rfl ?_
  refine ev_aload_n dL_law_2313 rfl ?_
  obtain ⟨_, w1, ⟨rfl, hA1, hc1, hv1⟩, hB1⟩ := hL_read (G := G) h.1
  refine ev_callSW kL_271 hB1 dL_law_2314 rfl (by decide) (Nat.le_add_left 1 b) rfl ?_
  refine ev_ist6 dL_law_2317 (by decide) rfl ?_
  refine ev_aload_n dL_law_2319 rfl ?_
  obtain ⟨_, w2, ⟨v, rfl, hv2, h6, hm2, hf2⟩, hB2⟩ := gX12_read (G := G) (mX_k h.2.1 hc1)
  refine ev_callV kL_273 co115 hB2 dL_law_2320 rfl (by decide) (Nat.zero_le _) rfl ?_
  refine ev_ist7 dL_law_2323 (by decide) rfl ?_
  refine ev_aload_n dL_law_2325 rfl ?_
  refine ev_callV kL_151 co115 (qX12_thrown h6) dL_law_2326 rfl (by decide) (Nat.zero_le _) rfl ?_
  refine ev_iload dL_law_2329 rfl ?_
  refine ev_icmp_eq_t (tgt := 2336) dL_law_2331 (by decide) rfl ?_
  refine ev_iload dL_law_2336 rfl ?_
  refine ev_if_ne (tgt := 2353) dL_law_2338 (by decide) (fun hc2338 => ?_) (fun hc2338 => ?_)
  · refine ev_goto (tgt := 2585) dL_law_2353 (by decide) ?_
    exact lq_fg (K _ w2 (li_of hA1 hf2 hm2 (ca_read h.2.2 h.1.1.2)))
  · refine ev_aload_n dL_law_2341 rfl ?_
    refine ev_iconst dL_law_2342 ic0 ?_
    have hk0 : (spRead A).1.1 = 0 := nI_inj (Nat.lt_of_le_of_lt le_read (by decide)) (by decide) hc2338
    refine ev_laload dL_law_2343 rfl ?_
    refine ev_iload dL_law_2344 rfl ?_
    refine ev_i2l dL_law_2346 ?_
    refine ev_lcmp dL_law_2347 ?_
    refine ev_if_eq_t (tgt := 2353) dL_law_2348 (by decide) (lc_v hv1 hv2 hf2.2 hk0) ?_
    refine ev_goto (tgt := 2585) dL_law_2353 (by decide) ?_
    exact lq_fg (K _ w2 (li_of hA1 hf2 hm2 (ca_read h.2.2 h.1.1.2)))
set_option maxRecDepth 4000 in
theorem lc_37 {G : GX} {w : WS} {A : AS} {b i : Nat} (h : LI A w) (hi : i + 2 < gN G) (hN : gN G ≤ 1536) {Z : ZT} (K : ∀ A2 w2, LI A2 w2 → Ev G 70 b mL_law 2585 (lq_ i) [] w2 Z) : Ev G 70 (b + 1) mL_law 2356 (lq_ i) [] w Z := by
  refine ev_aload_n dL_law_2356 rfl ?_
  refine ev_aload_n dL_law_2357 rfl ?_
  obtain ⟨_, w1, ⟨rfl, hA1, hc1, hv1⟩, hB1⟩ := hL_errorPosition (G := G) h.1
  refine ev_callSW kL_274 hB1 dL_law_2358 rfl (by decide) (Nat.le_add_left 1 b) rfl ?_
  refine ev_ist6 dL_law_2361 (by decide) rfl ?_
  refine ev_aload_n dL_law_2363 rfl ?_
  obtain ⟨_, w2, ⟨v, rfl, hv2, h6, hm2, hf2⟩, hB2⟩ := gX12_errorPosition (G := G) (mX_k h.2.1 hc1)
  refine ev_callV kL_276 co115 hB2 dL_law_2364 rfl (by decide) (Nat.zero_le _) rfl ?_
  refine ev_ist7 dL_law_2367 (by decide) rfl ?_
  refine ev_aload_n dL_law_2369 rfl ?_
  refine ev_callV kL_151 co115 (qX12_thrown h6) dL_law_2370 rfl (by decide) (Nat.zero_le _) rfl ?_
  refine ev_iload dL_law_2373 rfl ?_
  refine ev_icmp_eq_t (tgt := 2380) dL_law_2375 (by decide) rfl ?_
  refine ev_iload dL_law_2380 rfl ?_
  refine ev_if_ne (tgt := 2397) dL_law_2382 (by decide) (fun hc2382 => ?_) (fun hc2382 => ?_)
  · refine ev_goto (tgt := 2585) dL_law_2397 (by decide) ?_
    exact lq_fg (K _ w2 (li_of hA1 hf2 hm2 (ca_errorPosition h.2.2 h.1.1.2)))
  · refine ev_aload_n dL_law_2385 rfl ?_
    refine ev_iconst dL_law_2386 ic0 ?_
    have hk0 : (spErr A).1.1 = 0 := nI_inj (Nat.lt_of_le_of_lt le_errorPosition (by decide)) (by decide) hc2382
    refine ev_laload dL_law_2387 rfl ?_
    refine ev_iload dL_law_2388 rfl ?_
    refine ev_i2l dL_law_2390 ?_
    refine ev_lcmp dL_law_2391 ?_
    refine ev_if_eq_t (tgt := 2397) dL_law_2392 (by decide) (lc_v hv1 hv2 hf2.2 hk0) ?_
    refine ev_goto (tgt := 2585) dL_law_2397 (by decide) ?_
    exact lq_fg (K _ w2 (li_of hA1 hf2 hm2 (ca_errorPosition h.2.2 h.1.1.2)))
set_option maxRecDepth 4000 in
theorem lc_38 {G : GX} {w : WS} {A : AS} {b i : Nat} (h : LI A w) (hi : i + 2 < gN G) (hN : gN G ≤ 1536) {Z : ZT} (K : ∀ A2 w2, LI A2 w2 → Ev G 70 b mL_law 2585 (lq_ i) [] w2 Z) : Ev G 70 (b + 1) mL_law 2400 (lq_ i) [] w Z := by
  rcases Decidable.em ((gX G (i + 2)) = 0) with e | e
  · skip
    refine ev_aload_n dL_law_2400 rfl ?_
    refine ev_aload_n dL_law_2401 rfl ?_
    refine ev_iload dL_law_2402 rfl ?_
    refine ev_iconst dL_law_2404 ic1 ?_
    refine ev_iadd dL_law_2405 ?_
    first | refine ev_top (nI_add _ _) ?_ | skip
    refine ev_sload dL_law_2406 rfl (by omega) hN ?_
    refine ev_aload_n dL_law_2407 rfl ?_
    refine ev_iload dL_law_2408 rfl ?_
    refine ev_iconst dL_law_2410 ic2 ?_
    refine ev_iadd dL_law_2411 ?_
    first | refine ev_top (nI_add _ _) ?_ | skip
    refine ev_sload dL_law_2412 rfl (by omega) hN ?_
    refine ev_if_eq_t (tgt := 2420) dL_law_2413 (by decide) e ?_
    refine ev_iconst dL_law_2420 ic0 ?_
    refine ev_aload_n dL_law_2421 rfl ?_
    obtain ⟨_, w1, ⟨rfl, hA1, hc1, hv1⟩, hB1⟩ := hL_reason (G := G) h.1 (gX G (i + 1)) false
    refine ev_callSW kL_277 hB1 dL_law_2422 rfl (by decide) (Nat.le_add_left 1 b) rfl ?_
    refine ev_ist6 dL_law_2425 (by decide) rfl ?_
    refine ev_aload_n dL_law_2427 rfl ?_
    refine ev_aload_n dL_law_2428 rfl ?_
    refine ev_iload dL_law_2429 rfl ?_
    refine ev_iconst dL_law_2431 ic1 ?_
    refine ev_iadd dL_law_2432 ?_
    first | refine ev_top (nI_add _ _) ?_ | skip
    refine ev_sload dL_law_2433 rfl (by omega) hN ?_
    refine ev_aload_n dL_law_2434 rfl ?_
    refine ev_iload dL_law_2435 rfl ?_
    refine ev_iconst dL_law_2437 ic2 ?_
    refine ev_iadd dL_law_2438 ?_
    first | refine ev_top (nI_add _ _) ?_ | skip
    refine ev_sload dL_law_2439 rfl (by omega) hN ?_
    refine ev_if_eq_t (tgt := 2447) dL_law_2440 (by decide) e ?_
    refine ev_iconst dL_law_2447 ic0 ?_
    obtain ⟨_, w2, ⟨v, rfl, hv2, h6, hm2, hf2⟩, hB2⟩ := gX12_reason (G := G) (mX_k h.2.1 hc1) (gX G (i + 1)) false
    refine ev_callV kL_280 co115 hB2 dL_law_2448 rfl (by decide) (Nat.zero_le _) rfl ?_
    refine ev_ist7 dL_law_2451 (by decide) rfl ?_
    refine ev_aload_n dL_law_2453 rfl ?_
    refine ev_callV kL_151 co115 (qX12_thrown h6) dL_law_2454 rfl (by decide) (Nat.zero_le _) rfl ?_
    refine ev_iload dL_law_2457 rfl ?_
    refine ev_icmp_eq_t (tgt := 2464) dL_law_2459 (by decide) rfl ?_
    refine ev_iload dL_law_2464 rfl ?_
    refine ev_if_ne (tgt := 2481) dL_law_2466 (by decide) (fun hc2466 => ?_) (fun hc2466 => ?_)
    · refine ev_goto (tgt := 2585) dL_law_2481 (by decide) ?_
      exact lq_fg (K _ w2 (li_of hA1 hf2 hm2 (ca_reason h.2.2 h.1.1.2)))
    · refine ev_aload_n dL_law_2469 rfl ?_
      refine ev_iconst dL_law_2470 ic0 ?_
      have hk0 : (spRea A (gX G (i + 1)) false).1.1 = 0 := nI_inj (Nat.lt_of_le_of_lt le_reason (by decide)) (by decide) hc2466
      refine ev_laload dL_law_2471 rfl ?_
      refine ev_iload dL_law_2472 rfl ?_
      refine ev_i2l dL_law_2474 ?_
      refine ev_lcmp dL_law_2475 ?_
      refine ev_if_eq_t (tgt := 2481) dL_law_2476 (by decide) (lc_v hv1 hv2 hf2.2 hk0) ?_
      refine ev_goto (tgt := 2585) dL_law_2481 (by decide) ?_
      exact lq_fg (K _ w2 (li_of hA1 hf2 hm2 (ca_reason h.2.2 h.1.1.2)))
  · skip
    refine ev_aload_n dL_law_2400 rfl ?_
    refine ev_aload_n dL_law_2401 rfl ?_
    refine ev_iload dL_law_2402 rfl ?_
    refine ev_iconst dL_law_2404 ic1 ?_
    refine ev_iadd dL_law_2405 ?_
    first | refine ev_top (nI_add _ _) ?_ | skip
    refine ev_sload dL_law_2406 rfl (by omega) hN ?_
    refine ev_aload_n dL_law_2407 rfl ?_
    refine ev_iload dL_law_2408 rfl ?_
    refine ev_iconst dL_law_2410 ic2 ?_
    refine ev_iadd dL_law_2411 ?_
    first | refine ev_top (nI_add _ _) ?_ | skip
    refine ev_sload dL_law_2412 rfl (by omega) hN ?_
    refine ev_if_eq_f (tgt := 2420) dL_law_2413 (by decide) e ?_
    refine ev_iconst dL_law_2416 ic1 ?_
    refine ev_goto (tgt := 2421) dL_law_2417 (by decide) ?_
    refine ev_aload_n dL_law_2421 rfl ?_
    obtain ⟨_, w1, ⟨rfl, hA1, hc1, hv1⟩, hB1⟩ := hL_reason (G := G) h.1 (gX G (i + 1)) true
    refine ev_callSW kL_277 hB1 dL_law_2422 rfl (by decide) (Nat.le_add_left 1 b) rfl ?_
    refine ev_ist6 dL_law_2425 (by decide) rfl ?_
    refine ev_aload_n dL_law_2427 rfl ?_
    refine ev_aload_n dL_law_2428 rfl ?_
    refine ev_iload dL_law_2429 rfl ?_
    refine ev_iconst dL_law_2431 ic1 ?_
    refine ev_iadd dL_law_2432 ?_
    first | refine ev_top (nI_add _ _) ?_ | skip
    refine ev_sload dL_law_2433 rfl (by omega) hN ?_
    refine ev_aload_n dL_law_2434 rfl ?_
    refine ev_iload dL_law_2435 rfl ?_
    refine ev_iconst dL_law_2437 ic2 ?_
    refine ev_iadd dL_law_2438 ?_
    first | refine ev_top (nI_add _ _) ?_ | skip
    refine ev_sload dL_law_2439 rfl (by omega) hN ?_
    refine ev_if_eq_f (tgt := 2447) dL_law_2440 (by decide) e ?_
    refine ev_iconst dL_law_2443 ic1 ?_
    refine ev_goto (tgt := 2448) dL_law_2444 (by decide) ?_
    obtain ⟨_, w2, ⟨v, rfl, hv2, h6, hm2, hf2⟩, hB2⟩ := gX12_reason (G := G) (mX_k h.2.1 hc1) (gX G (i + 1)) true
    refine ev_callV kL_280 co115 hB2 dL_law_2448 rfl (by decide) (Nat.zero_le _) rfl ?_
    refine ev_ist7 dL_law_2451 (by decide) rfl ?_
    refine ev_aload_n dL_law_2453 rfl ?_
    refine ev_callV kL_151 co115 (qX12_thrown h6) dL_law_2454 rfl (by decide) (Nat.zero_le _) rfl ?_
    refine ev_iload dL_law_2457 rfl ?_
    refine ev_icmp_eq_t (tgt := 2464) dL_law_2459 (by decide) rfl ?_
    refine ev_iload dL_law_2464 rfl ?_
    refine ev_if_ne (tgt := 2481) dL_law_2466 (by decide) (fun hc2466 => ?_) (fun hc2466 => ?_)
    · refine ev_goto (tgt := 2585) dL_law_2481 (by decide) ?_
      exact lq_fg (K _ w2 (li_of hA1 hf2 hm2 (ca_reason h.2.2 h.1.1.2)))
    · refine ev_aload_n dL_law_2469 rfl ?_
      refine ev_iconst dL_law_2470 ic0 ?_
      have hk0 : (spRea A (gX G (i + 1)) true).1.1 = 0 := nI_inj (Nat.lt_of_le_of_lt le_reason (by decide)) (by decide) hc2466
      refine ev_laload dL_law_2471 rfl ?_
      refine ev_iload dL_law_2472 rfl ?_
      refine ev_i2l dL_law_2474 ?_
      refine ev_lcmp dL_law_2475 ?_
      refine ev_if_eq_t (tgt := 2481) dL_law_2476 (by decide) (lc_v hv1 hv2 hf2.2 hk0) ?_
      refine ev_goto (tgt := 2585) dL_law_2481 (by decide) ?_
      exact lq_fg (K _ w2 (li_of hA1 hf2 hm2 (ca_reason h.2.2 h.1.1.2)))
set_option maxRecDepth 4000 in
theorem lc_39 {G : GX} {w : WS} {A : AS} {b i : Nat} (h : LI A w) (hi : i + 2 < gN G) (hN : gN G ≤ 1536) {Z : ZT} (K : ∀ A2 w2, LI A2 w2 → Ev G 70 b mL_law 2585 (lq_ i) [] w2 Z) : Ev G 70 (b + 1) mL_law 2484 (lq_ i) [] w Z := by
  refine ev_aload_n dL_law_2484 rfl ?_
  refine ev_aload_n dL_law_2485 rfl ?_
  obtain ⟨_, w1, ⟨rfl, hA1, hc1, hv1⟩, hB1⟩ := hL_undo (G := G) h.1
  refine ev_callSW kL_281 hB1 dL_law_2486 rfl (by decide) (Nat.le_add_left 1 b) rfl ?_
  refine ev_ist6 dL_law_2489 (by decide) rfl ?_
  refine ev_aload_n dL_law_2491 rfl ?_
  obtain ⟨_, w2, ⟨v, rfl, hv2, h6, hm2, hf2⟩, hB2⟩ := gX12_undo (G := G) (mX_k h.2.1 hc1)
  refine ev_callV kL_283 co115 hB2 dL_law_2492 rfl (by decide) (Nat.zero_le _) rfl ?_
  refine ev_ist7 dL_law_2495 (by decide) rfl ?_
  refine ev_aload_n dL_law_2497 rfl ?_
  refine ev_callV kL_151 co115 (qX12_thrown h6) dL_law_2498 rfl (by decide) (Nat.zero_le _) rfl ?_
  refine ev_iload dL_law_2501 rfl ?_
  refine ev_icmp_eq_t (tgt := 2508) dL_law_2503 (by decide) rfl ?_
  refine ev_iload dL_law_2508 rfl ?_
  refine ev_if_ne (tgt := 2525) dL_law_2510 (by decide) (fun hc2510 => ?_) (fun hc2510 => ?_)
  · refine ev_goto (tgt := 2585) dL_law_2525 (by decide) ?_
    exact lq_fg (K _ w2 (li_of hA1 hf2 hm2 (ca_undo h.2.2 h.1.1.2)))
  · refine ev_aload_n dL_law_2513 rfl ?_
    refine ev_iconst dL_law_2514 ic0 ?_
    have hk0 : (spUndo A).1.1 = 0 := nI_inj (Nat.lt_of_le_of_lt le_undo (by decide)) (by decide) hc2510
    refine ev_laload dL_law_2515 rfl ?_
    refine ev_iload dL_law_2516 rfl ?_
    refine ev_i2l dL_law_2518 ?_
    refine ev_lcmp dL_law_2519 ?_
    refine ev_if_eq_t (tgt := 2525) dL_law_2520 (by decide) (lc_v hv1 hv2 hf2.2 hk0) ?_
    refine ev_goto (tgt := 2585) dL_law_2525 (by decide) ?_
    exact lq_fg (K _ w2 (li_of hA1 hf2 hm2 (ca_undo h.2.2 h.1.1.2)))
set_option maxRecDepth 4000 in
theorem lc_41 {G : GX} {w : WS} {A : AS} {b i : Nat} (h : LI A w) (hi : i + 2 < gN G) (hN : gN G ≤ 1536) {Z : ZT} (K : ∀ A2 w2, LI A2 w2 → Ev G 70 b mL_law 2585 (lq_ i) [] w2 Z) : Ev G 70 (b + 1) mL_law 2541 (lq_ i) [] w Z := by
  refine ev_aload_n dL_law_2541 rfl ?_
  refine ev_aload_n dL_law_2542 rfl ?_
  obtain ⟨_, w1, ⟨rfl, hA1, hc1, hv1⟩, hB1⟩ := hL_restore (G := G) h.1
  refine ev_callSW kL_288 hB1 dL_law_2543 rfl (by decide) (Nat.le_add_left 1 b) rfl ?_
  refine ev_ist6 dL_law_2546 (by decide) rfl ?_
  refine ev_aload_n dL_law_2548 rfl ?_
  obtain ⟨_, w2, ⟨v, rfl, hv2, h6, hm2, hf2⟩, hB2⟩ := gX12_restore (G := G) (mX_k h.2.1 hc1)
  refine ev_callV kL_290 co115 hB2 dL_law_2549 rfl (by decide) (Nat.zero_le _) rfl ?_
  refine ev_ist7 dL_law_2552 (by decide) rfl ?_
  refine ev_aload_n dL_law_2554 rfl ?_
  refine ev_callV kL_151 co115 (qX12_thrown h6) dL_law_2555 rfl (by decide) (Nat.zero_le _) rfl ?_
  refine ev_iload dL_law_2558 rfl ?_
  refine ev_icmp_eq_t (tgt := 2565) dL_law_2560 (by decide) rfl ?_
  refine ev_iload dL_law_2565 rfl ?_
  refine ev_if_ne (tgt := 2582) dL_law_2567 (by decide) (fun hc2567 => ?_) (fun hc2567 => ?_)
  · refine ev_goto (tgt := 2585) dL_law_2582 (by decide) ?_
    exact lq_fg (K _ w2 (li_of hA1 hf2 hm2 (ca_restore h.2.2 h.1.1.2)))
  · refine ev_aload_n dL_law_2570 rfl ?_
    refine ev_iconst dL_law_2571 ic0 ?_
    have hk0 : (spRest A).1.1 = 0 := nI_inj (Nat.lt_of_le_of_lt le_restore (by decide)) (by decide) hc2567
    refine ev_laload dL_law_2572 rfl ?_
    refine ev_iload dL_law_2573 rfl ?_
    refine ev_i2l dL_law_2575 ?_
    refine ev_lcmp dL_law_2576 ?_
    refine ev_if_eq_t (tgt := 2582) dL_law_2577 (by decide) (lc_v hv1 hv2 hf2.2 hk0) ?_
    refine ev_goto (tgt := 2585) dL_law_2582 (by decide) ?_
    exact lq_fg (K _ w2 (li_of hA1 hf2 hm2 (ca_restore h.2.2 h.1.1.2)))
set_option maxRecDepth 4000 in
theorem lc_23 {G : GX} {w : WS} {A : AS} {b i : Nat} (h : LI A w) (hi : i + 2 < gN G) (hN : gN G ≤ 1536) {Z : ZT} (K : ∀ A2 w2, LI A2 w2 → Ev G 70 b mL_law 2585 (lq_ i) [] w2 Z) : Ev G 70 (b + 1) mL_law 1699 (lq_ i) [] w Z := by
  rcases Decidable.em ((gX G (i + 1)) = 0) with e | e
  · skip
    refine ev_aload_n dL_law_1699 rfl ?_
    refine ev_aload_n dL_law_1700 rfl ?_
    refine ev_iload dL_law_1701 rfl ?_
    refine ev_iconst dL_law_1703 ic1 ?_
    refine ev_iadd dL_law_1704 ?_
    first | refine ev_top (nI_add _ _) ?_ | skip
    refine ev_sload dL_law_1705 rfl (by omega) hN ?_
    refine ev_if_eq_t (tgt := 1713) dL_law_1706 (by decide) e ?_
    refine ev_iconst dL_law_1713 ic0 ?_
    refine ev_callV kL_222 co0 (qX11_bestFold_y h.1.1 (b := false)) dL_law_1714 rfl (by decide) (Nat.le_add_left 1 b) rfl ?_
    refine ev_aload_n dL_law_1717 rfl ?_
    refine ev_aload_n dL_law_1718 rfl ?_
    refine ev_iload dL_law_1719 rfl ?_
    refine ev_iconst dL_law_1721 ic1 ?_
    refine ev_iadd dL_law_1722 ?_
    first | refine ev_top (nI_add _ _) ?_ | skip
    refine ev_sload dL_law_1723 rfl (by omega) hN ?_
    refine ev_if_eq_t (tgt := 1731) dL_law_1724 (by decide) e ?_
    refine ev_iconst dL_law_1731 ic0 ?_
    refine ev_callV kL_226 co115 (gX12_bestFold_y h.2.1.1 (b := false)) dL_law_1732 rfl (by decide) (Nat.zero_le _) rfl ?_
    refine ev_icmp_eq_t (tgt := 2585) dL_law_1735 (by decide) rfl ?_
    exact lq_fg (K A _ (li_of h.1 (frG_cs frG_rf (by decide) _) (mX_t h.2.1) h.2.2))
  · skip
    refine ev_aload_n dL_law_1699 rfl ?_
    refine ev_aload_n dL_law_1700 rfl ?_
    refine ev_iload dL_law_1701 rfl ?_
    refine ev_iconst dL_law_1703 ic1 ?_
    refine ev_iadd dL_law_1704 ?_
    first | refine ev_top (nI_add _ _) ?_ | skip
    refine ev_sload dL_law_1705 rfl (by omega) hN ?_
    refine ev_if_eq_f (tgt := 1713) dL_law_1706 (by decide) e ?_
    refine ev_iconst dL_law_1709 ic1 ?_
    refine ev_goto (tgt := 1714) dL_law_1710 (by decide) ?_
    refine ev_callV kL_222 co0 (qX11_bestFold_y h.1.1 (b := true)) dL_law_1714 rfl (by decide) (Nat.le_add_left 1 b) rfl ?_
    refine ev_aload_n dL_law_1717 rfl ?_
    refine ev_aload_n dL_law_1718 rfl ?_
    refine ev_iload dL_law_1719 rfl ?_
    refine ev_iconst dL_law_1721 ic1 ?_
    refine ev_iadd dL_law_1722 ?_
    first | refine ev_top (nI_add _ _) ?_ | skip
    refine ev_sload dL_law_1723 rfl (by omega) hN ?_
    refine ev_if_eq_f (tgt := 1731) dL_law_1724 (by decide) e ?_
    refine ev_iconst dL_law_1727 ic1 ?_
    refine ev_goto (tgt := 1732) dL_law_1728 (by decide) ?_
    refine ev_callV kL_226 co115 (gX12_bestFold_y h.2.1.1 (b := true)) dL_law_1732 rfl (by decide) (Nat.zero_le _) rfl ?_
    refine ev_icmp_eq_t (tgt := 2585) dL_law_1735 (by decide) rfl ?_
    exact lq_fg (K A _ (li_of h.1 (frG_cs frG_rf (by decide) _) (mX_t h.2.1) h.2.2))
set_option maxRecDepth 4000 in
theorem lc_24 {G : GX} {w : WS} {A : AS} {b i : Nat} (h : LI A w) (hi : i + 2 < gN G) (hN : gN G ≤ 1536) {Z : ZT} (K : ∀ A2 w2, LI A2 w2 → Ev G 70 b mL_law 2585 (lq_ i) [] w2 Z) : Ev G 70 (b + 1) mL_law 1740 (lq_ i) [] w Z := by
  refine ev_aload_n dL_law_1740 rfl ?_
  refine ev_callV kL_227 co0 (qX11_wrong_y h.1.1) dL_law_1741 rfl (by decide) (Nat.le_add_left 1 b) rfl ?_
  refine ev_aload_n dL_law_1744 rfl ?_
  refine ev_callV kL_230 co115 (gX12_wrong h.2.1.1) dL_law_1745 rfl (by decide) (Nat.zero_le _) rfl ?_
  refine ev_icmp_eq_t (tgt := 2585) dL_law_1748 (by decide) rfl ?_
  exact lq_fg (K A _ (li_of h.1 (frG_cs frG_rf (by decide) _) (mX_t h.2.1) h.2.2))
set_option maxRecDepth 4000 in
theorem lc_28 {G : GX} {w : WS} {A : AS} {b i : Nat} (h : LI A w) (hi : i + 2 < gN G) (hN : gN G ≤ 1536) {Z : ZT} (K : ∀ A2 w2, LI A2 w2 → Ev G 70 b mL_law 2585 (lq_ i) [] w2 Z) : Ev G 70 (b + 1) mL_law 1909 (lq_ i) [] w Z := by
  refine ev_aload_n dL_law_1909 rfl ?_
  obtain ⟨_, w1, ⟨rfl, hf1⟩, hB1⟩ := qX11_isTrue (G := G) h.1.1 h.2.2.1
  have hc1 : ∀ k, 114 < k → w1.1 k = w.1 k := fun k hk => hf1.1 k (by simp; omega)
  refine ev_callV kL_241 co0 hB1 dL_law_1910 rfl (by decide) (Nat.zero_le _) rfl ?_
  refine ev_aload_n dL_law_1913 rfl ?_
  skip
  refine ev_callV kL_245 co115 gX12_isTrue dL_law_1914 rfl (by decide) (Nat.zero_le _) rfl ?_
  refine ev_icmp_eq_t (tgt := 2585) dL_law_1917 (by decide) rfl ?_
  exact ev_le (Nat.le_succ b) (lq_fg (K A _ (li_of (aXG h.1 hf1 (by decide)) (frG_cs frG_rf (by decide) _) (mX_t (mX_k h.2.1 hc1)) h.2.2)))
set_option maxRecDepth 4000 in
theorem lc_40 {G : GX} {w : WS} {A : AS} {b i : Nat} (h : LI A w) (hi : i + 2 < gN G) (hN : gN G ≤ 1536) {Z : ZT} (K : ∀ A2 w2, LI A2 w2 → Ev G 70 b mL_law 2585 (lq_ i) [] w2 Z) : Ev G 70 (b + 1) mL_law 2528 (lq_ i) [] w Z := by
  refine ev_aload_n dL_law_2528 rfl ?_
  obtain ⟨_, w1, ⟨rfl, hA1, hf1⟩, hB1⟩ := fX11_save (G := G) h.1
  have hc1 : ∀ k, 114 < k → w1.1 k = w.1 k := fun k hk => fr_out hf1 hk
  refine ev_callV kL_284 co0 hB1 dL_law_2529 rfl (by decide) (Nat.le_add_left 1 b) rfl ?_
  refine ev_aload_n dL_law_2532 rfl ?_
  obtain ⟨_, w2, ⟨v, rfl, hv2, h6, hm2, hf2⟩, hB2⟩ := gX12_save (G := G) (mX_k h.2.1 hc1)
  refine ev_callV kL_287 co115 hB2 dL_law_2533 rfl (by decide) (Nat.zero_le _) rfl ?_
  refine ev_icmp_eq_t (tgt := 2585) dL_law_2536 (by decide) (show _ = v from (hv2 rfl).symm) ?_
  exact lq_fg (K _ w2 (li_of hA1 hf2 hm2 (ca_save h.2.2 h.1.1.2)))
set_option maxRecDepth 4000 in
theorem lc_32 {G : GX} {w : WS} {A : AS} {b i : Nat} (h : LI A w) (hi : i + 2 < gN G) (hN : gN G ≤ 1536) {Z : ZT} (K : ∀ A2 w2, LI A2 w2 → Ev G 70 b mL_law 2585 (lq_ i) [] w2 Z) : Ev G 70 (b + 1) mL_law 2090 (lq_ i) [] w Z := by
  obtain ⟨_, w1, ⟨rfl, hA1, hc1, hv1⟩, hB1⟩ := hL_meanWrong (G := G) h.1
  have hmx := mX_k h.2.1 hc1
  by_cases hn : nR (aS A) = 0
  · rw [if_pos hn] at hB1
    have hB2 := gX12_meanWrong_n (G := G) hmx.1 hn
    refine ev_aload_n dL_law_2090 rfl ?_
    refine ev_aload dL_law_2091 rfl ?_
    refine ev_callSW kL_255 hB1 dL_law_2093 rfl (by decide) (Nat.le_add_left 1 b) rfl ?_
    refine ev_ist6 dL_law_2096 (by decide) rfl ?_
    refine ev_aload_n dL_law_2098 rfl ?_
    refine ev_callV kL_258 co115 hB2 dL_law_2099 rfl (by decide) (Nat.zero_le _) rfl ?_
    refine ev_dstore (i := 7) dL_law_2102 (by decide) rfl ds_7 ?_
    refine ev_aload_n dL_law_2104 rfl ?_
    refine ev_callV kL_151 co115 (qX12_thrown (k := 1) rfl) dL_law_2105 rfl (by decide) (Nat.zero_le _) rfl ?_
    refine ev_iload dL_law_2108 rfl ?_
    refine ev_icmp_eq_t (tgt := 2115) dL_law_2110 (by decide) rfl ?_
    refine ev_iload dL_law_2115 rfl ?_
    refine ev_if_ne_t (tgt := 2152) dL_law_2117 (by decide) (by decide) ?_
    refine ev_goto (tgt := 2585) dL_law_2152 (by decide) ?_
    exact lq_fg (K A _ (li_of hA1 (frG_cs frG_rf (by decide) _) (mX_t hmx) h.2.2))
  · rw [if_neg hn] at hB1
    have hB2 := gX12_meanWrong_y (G := G) hmx.1 hn
    have hv1 := hv1 hn
    refine ev_aload_n dL_law_2090 rfl ?_
    refine ev_aload dL_law_2091 rfl ?_
    refine ev_callSW kL_255 hB1 dL_law_2093 rfl (by decide) (Nat.le_add_left 1 b) rfl ?_
    refine ev_ist6 dL_law_2096 (by decide) rfl ?_
    refine ev_aload_n dL_law_2098 rfl ?_
    refine ev_callV kL_258 co115 hB2 dL_law_2099 rfl (by decide) (Nat.zero_le _) rfl ?_
    refine ev_dstore (i := 7) dL_law_2102 (by decide) rfl ds_7 ?_
    refine ev_aload_n dL_law_2104 rfl ?_
    refine ev_callV kL_151 co115 (qX12_thrown (k := 0) rfl) dL_law_2105 rfl (by decide) (Nat.zero_le _) rfl ?_
    refine ev_iload dL_law_2108 rfl ?_
    refine ev_icmp_eq_t (tgt := 2115) dL_law_2110 (by decide) rfl ?_
    refine ev_iload dL_law_2115 rfl ?_
    refine ev_if_ne_f (tgt := 2152) dL_law_2117 (by decide) rfl ?_
    refine ev_aload dL_law_2120 rfl ?_
    refine ev_iconst dL_law_2122 ic0 ?_
    refine ev_daload dL_law_2123 rfl ?_
    refine ev_dload dL_law_2124 rfl ?_
    show Ev G 70 _ mL_law 2126 _ [.double (mwD (aS A)), .double w1.2.2] _ _
    rw [hv1]
    refine ev_dcmp dL_law_2126 ?_
    refine ev_if_eq (tgt := 2152) dL_law_2127 (by decide) (fun hc2127 => ?_) (fun hc2127 => ?_)
    · refine ev_goto (tgt := 2585) dL_law_2152 (by decide) ?_
      exact lq_fg (K A _ (li_of hA1 (frG_cs frG_rf (by decide) _) (mX_t hmx) h.2.2))
    · refine ev_aload dL_law_2130 rfl ?_
      refine ev_iconst dL_law_2132 ic0 ?_
      refine ev_daload dL_law_2133 rfl ?_
      refine ev_aload dL_law_2134 rfl ?_
      refine ev_iconst dL_law_2136 ic0 ?_
      refine ev_daload dL_law_2137 rfl ?_
      show Ev G 70 _ mL_law 2138 _ [.double w1.2.2, .double w1.2.2] _ _
      rw [hv1]
      refine ev_dcmp dL_law_2138 ?_
      refine ev_if_eq_f (tgt := 2150) dL_law_2139 (by decide) hc2127 ?_
      refine ev_dload dL_law_2142 rfl ?_
      refine ev_dload dL_law_2144 rfl ?_
      refine ev_dcmp dL_law_2146 ?_
      refine ev_if_ne_t (tgt := 2152) dL_law_2147 (by decide) hc2127 ?_
      refine ev_goto (tgt := 2585) dL_law_2152 (by decide) ?_
      exact lq_fg (K A _ (li_of hA1 (frG_cs frG_rf (by decide) _) (mX_t hmx) h.2.2))
set_option maxRecDepth 4000 in
theorem lc_33 {G : GX} {w : WS} {A : AS} {b i : Nat} (h : LI A w) (hi : i + 2 < gN G) (hN : gN G ≤ 1536) {Z : ZT} (K : ∀ A2 w2, LI A2 w2 → Ev G 70 b mL_law 2585 (lq_ i) [] w2 Z) : Ev G 70 (b + 1) mL_law 2155 (lq_ i) [] w Z := by
  have ho : vf_n64 (FP.f2d (osF (aS A))) := f2_ok ⟨64 - cO (aS A) (-1), by omega⟩
  refine ev_aload_n dL_law_2155 rfl ?_
  refine ev_callV kL_259 co0 (qX11_ownedShare h.1.1) dL_law_2156 rfl (by decide) (Nat.le_add_left 1 b) rfl ?_
  refine ev_f2d dL_law_2159 ho ?_
  refine ev_dstore (i := 6) dL_law_2160 (by decide) rfl ds_6 ?_
  refine ev_aload_n dL_law_2162 rfl ?_
  refine ev_callV kL_263 co115 (gX12_ownedShare h.2.1.1) dL_law_2163 rfl (by decide) (Nat.zero_le _) rfl ?_
  refine ev_f2d dL_law_2166 ho ?_
  refine ev_dstore (i := 8) dL_law_2167 (by decide) rfl ds_8 ?_
  refine ev_dload dL_law_2169 rfl ?_
  refine ev_dload dL_law_2171 rfl ?_
  refine ev_dcmp dL_law_2173 ?_
  refine ev_if_eq (tgt := 2195) dL_law_2174 (by decide) (fun hc2174 => ?_) (fun hc2174 => ?_)
  · refine ev_goto (tgt := 2585) dL_law_2195 (by decide) ?_
    exact lq_fg (K A _ (li_of h.1 (frG_cs frG_rf (by decide) _) (mX_t h.2.1) h.2.2))
  · refine ev_dload dL_law_2177 rfl ?_
    refine ev_dload dL_law_2179 rfl ?_
    refine ev_dcmp dL_law_2181 ?_
    refine ev_if_eq_f (tgt := 2193) dL_law_2182 (by decide) hc2174 ?_
    refine ev_dload dL_law_2185 rfl ?_
    refine ev_dload dL_law_2187 rfl ?_
    refine ev_dcmp dL_law_2189 ?_
    refine ev_if_ne_t (tgt := 2195) dL_law_2190 (by decide) hc2174 ?_
    refine ev_goto (tgt := 2585) dL_law_2195 (by decide) ?_
    exact lq_fg (K A _ (li_of h.1 (frG_cs frG_rf (by decide) _) (mX_t h.2.1) h.2.2))
