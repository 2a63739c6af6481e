/-! The law's cases. -/
abbrev Lj (j : Nat) : zL := [some (.ref 72), some (.ref 0), some (.ref 57), some (.ref 71), some (.int (nI (6 * j))), none, none, none]
theorem cmp_self (x : Int64) : lg_cmp x x = 0 := by simp [lg_cmp]
section LawCases
variable {len : Nat} {xs : Nat → Int32} {Gc : Nat → Nat → zG} {ce sl j : Nat} {w : ww}
set_option maxHeartbeats 1000000 in
theorem lc_heap (hW : yLW len xs Gc) (hc : ce + 1 ≤ 601024) (hs : sl + 6 ≤ 7293034) (hL : 6 * j + 6 ≤ len) (hL2 : len ≤ 3072) (hI : Inv w) (kb : ∀ w2, Inv w2 → Gc (ce + 1) (sl + 6) 1290 (Lj j) [] w2) : Gc ce sl 184 (Lj j) [] w := by
  have hE := hW.zE (ce := ce) (sl := sl) (by omega) (by omega)
  have hE1 := hW.zE (ce := ce + 1) (sl := sl + 6) (by omega) (by omega)
  refine zr_aload_n hE eL_law_184 rfl ?_
  refine hW.arg (a := 1) (by omega) (by omega) hL hL2 eL_law_185 eL_law_186 eL_law_188 eL_law_189 eL_law_190 (by decide) (by decide) rfl rfl ?_
  refine zr_callV1 hE eL_law_191 lL_21 zs0 rfl rfl (by decide) (Nat.le_of_ble_eq_true rfl) (o_heap hI (fun v w1 hP => ?_))
  refine zr_aload_n hE eL_law_194 rfl ?_
  refine hW.arg (a := 1) (by omega) (by omega) hL hL2 eL_law_195 eL_law_196 eL_law_198 eL_law_199 eL_law_200 (by decide) (by decide) rfl rfl ?_
  refine zr_callV1 hE eL_law_201 lL_25 zs57 rfl rfl (by decide) (Nat.le_of_ble_eq_true rfl) (hP _ (fun w2 hI2 => ?_))
  exact zr_icmp_eq hE eL_law_204 (tgt := 1290) (by decide) (fun _ => hW.widen (Nat.le_succ _) (Nat.le_add_right _ _) (kb w2 hI2)) (fun q => absurd rfl q)
set_option maxHeartbeats 1000000 in
theorem lc_bowl (hW : yLW len xs Gc) (hc : ce + 1 ≤ 601024) (hs : sl + 6 ≤ 7293034) (hL : 6 * j + 6 ≤ len) (hL2 : len ≤ 3072) (hI : Inv w) (kb : ∀ w2, Inv w2 → Gc (ce + 1) (sl + 6) 1290 (Lj j) [] w2) : Gc ce sl 209 (Lj j) [] w := by
  have hE := hW.zE (ce := ce) (sl := sl) (by omega) (by omega)
  have hE1 := hW.zE (ce := ce + 1) (sl := sl + 6) (by omega) (by omega)
  refine zr_aload_n hE eL_law_209 rfl ?_
  refine hW.arg (a := 1) (by omega) (by omega) hL hL2 eL_law_210 eL_law_211 eL_law_213 eL_law_214 eL_law_215 (by decide) (by decide) rfl rfl ?_
  refine hW.arg (a := 2) (by omega) (by omega) hL hL2 eL_law_216 eL_law_217 eL_law_219 eL_law_220 eL_law_221 (by decide) (by decide) rfl rfl ?_
  refine zr_callV2 hE eL_law_222 lL_26 zs0 rfl rfl (by decide) (Nat.le_of_ble_eq_true rfl) (o_bowl hI (fun v w1 hP => ?_))
  refine zr_aload_n hE eL_law_225 rfl ?_
  refine hW.arg (a := 1) (by omega) (by omega) hL hL2 eL_law_226 eL_law_227 eL_law_229 eL_law_230 eL_law_231 (by decide) (by decide) rfl rfl ?_
  refine hW.arg (a := 2) (by omega) (by omega) hL hL2 eL_law_232 eL_law_233 eL_law_235 eL_law_236 eL_law_237 (by decide) (by decide) rfl rfl ?_
  refine zr_callV2 hE eL_law_238 lL_30 zs57 rfl rfl (by decide) (Nat.le_of_ble_eq_true rfl) (hP _ (fun w2 hI2 => ?_))
  exact zr_icmp_eq hE eL_law_241 (tgt := 1290) (by decide) (fun _ => hW.widen (Nat.le_succ _) (Nat.le_add_right _ _) (kb w2 hI2)) (fun q => absurd rfl q)
set_option maxHeartbeats 1000000 in
theorem lc_comes (hW : yLW len xs Gc) (hc : ce + 1 ≤ 601024) (hs : sl + 6 ≤ 7293034) (hL : 6 * j + 6 ≤ len) (hL2 : len ≤ 3072) (hI : Inv w) (kb : ∀ w2, Inv w2 → Gc (ce + 1) (sl + 6) 1290 (Lj j) [] w2) : Gc ce sl 246 (Lj j) [] w := by
  have hE := hW.zE (ce := ce) (sl := sl) (by omega) (by omega)
  have hE1 := hW.zE (ce := ce + 1) (sl := sl + 6) (by omega) (by omega)
  refine zr_aload_n hE eL_law_246 rfl ?_
  refine hW.arg (a := 1) (by omega) (by omega) hL hL2 eL_law_247 eL_law_248 eL_law_250 eL_law_251 eL_law_252 (by decide) (by decide) rfl rfl ?_
  refine hW.arg (a := 2) (by omega) (by omega) hL hL2 eL_law_253 eL_law_254 eL_law_256 eL_law_257 eL_law_258 (by decide) (by decide) rfl rfl ?_
  refine hW.arg (a := 3) (by omega) (by omega) hL hL2 eL_law_259 eL_law_260 eL_law_262 eL_law_263 eL_law_264 (by decide) (by decide) rfl rfl ?_
  refine hW.arg (a := 4) (by omega) (by omega) hL hL2 eL_law_265 eL_law_266 eL_law_268 eL_law_269 eL_law_270 (by decide) (by decide) rfl rfl ?_
  refine zr_callV4 hE eL_law_271 lL_31 zs0 rfl rfl (by decide) (Nat.le_of_ble_eq_true rfl) (o_comes hI (fun v w1 hP => ?_))
  refine zr_aload_n hE eL_law_274 rfl ?_
  refine hW.arg (a := 1) (by omega) (by omega) hL hL2 eL_law_275 eL_law_276 eL_law_278 eL_law_279 eL_law_280 (by decide) (by decide) rfl rfl ?_
  refine hW.arg (a := 2) (by omega) (by omega) hL hL2 eL_law_281 eL_law_282 eL_law_284 eL_law_285 eL_law_286 (by decide) (by decide) rfl rfl ?_
  refine hW.arg (a := 3) (by omega) (by omega) hL hL2 eL_law_287 eL_law_288 eL_law_290 eL_law_291 eL_law_292 (by decide) (by decide) rfl rfl ?_
  refine hW.arg (a := 4) (by omega) (by omega) hL hL2 eL_law_293 eL_law_294 eL_law_296 eL_law_297 eL_law_298 (by decide) (by decide) rfl rfl ?_
  refine zr_callV4 hE eL_law_299 lL_35 zs57 rfl rfl (by decide) (Nat.le_of_ble_eq_true rfl) (hP _ (fun w2 hI2 => ?_))
  exact zr_icmp_eq hE eL_law_302 (tgt := 1290) (by decide) (fun _ => hW.widen (Nat.le_succ _) (Nat.le_add_right _ _) (kb w2 hI2)) (fun q => absurd rfl q)
set_option maxHeartbeats 1000000 in
theorem lc_warm (hW : yLW len xs Gc) (hc : ce + 1 ≤ 601024) (hs : sl + 6 ≤ 7293034) (hL : 6 * j + 6 ≤ len) (hL2 : len ≤ 3072) (hI : Inv w) (kb : ∀ w2, Inv w2 → Gc (ce + 1) (sl + 6) 1290 (Lj j) [] w2) : Gc ce sl 307 (Lj j) [] w := by
  have hE := hW.zE (ce := ce) (sl := sl) (by omega) (by omega)
  have hE1 := hW.zE (ce := ce + 1) (sl := sl + 6) (by omega) (by omega)
  refine zr_aload_n hE eL_law_307 rfl ?_
  refine hW.arg (a := 1) (by omega) (by omega) hL hL2 eL_law_308 eL_law_309 eL_law_311 eL_law_312 eL_law_313 (by decide) (by decide) rfl rfl ?_
  refine zr_callV1 hE eL_law_314 lL_36 zs0 rfl rfl (by decide) (Nat.le_of_ble_eq_true rfl) (o_warm hI (fun v w1 hP => ?_))
  refine zr_aload_n hE eL_law_317 rfl ?_
  refine hW.arg (a := 1) (by omega) (by omega) hL hL2 eL_law_318 eL_law_319 eL_law_321 eL_law_322 eL_law_323 (by decide) (by decide) rfl rfl ?_
  refine zr_callV1 hE eL_law_324 lL_39 zs57 rfl rfl (by decide) (Nat.le_of_ble_eq_true rfl) (hP _ (fun w2 hI2 => ?_))
  exact zr_icmp_eq hE eL_law_327 (tgt := 1290) (by decide) (fun _ => hW.widen (Nat.le_succ _) (Nat.le_add_right _ _) (kb w2 hI2)) (fun q => absurd rfl q)
set_option maxHeartbeats 1000000 in
theorem lc_turn (hW : yLW len xs Gc) (hc : ce + 1 ≤ 601024) (hs : sl + 6 ≤ 7293034) (hL : 6 * j + 6 ≤ len) (hL2 : len ≤ 3072) (hI : Inv w) (kb : ∀ w2, Inv w2 → Gc (ce + 1) (sl + 6) 1290 (Lj j) [] w2) : Gc ce sl 332 (Lj j) [] w := by
  have hE := hW.zE (ce := ce) (sl := sl) (by omega) (by omega)
  have hE1 := hW.zE (ce := ce + 1) (sl := sl + 6) (by omega) (by omega)
  refine zr_aload_n hE eL_law_332 rfl ?_
  refine hW.arg (a := 1) (by omega) (by omega) hL hL2 eL_law_333 eL_law_334 eL_law_336 eL_law_337 eL_law_338 (by decide) (by decide) rfl rfl ?_
  refine zr_callV1 hE eL_law_339 lL_40 zs0 rfl rfl (by decide) (Nat.le_of_ble_eq_true rfl) (o_turn hI (fun v w1 hP => ?_))
  refine zr_aload_n hE eL_law_342 rfl ?_
  refine hW.arg (a := 1) (by omega) (by omega) hL hL2 eL_law_343 eL_law_344 eL_law_346 eL_law_347 eL_law_348 (by decide) (by decide) rfl rfl ?_
  refine zr_callV1 hE eL_law_349 lL_43 zs57 rfl rfl (by decide) (Nat.le_of_ble_eq_true rfl) (hP _ (fun w2 hI2 => ?_))
  exact zr_icmp_eq hE eL_law_352 (tgt := 1290) (by decide) (fun _ => hW.widen (Nat.le_succ _) (Nat.le_add_right _ _) (kb w2 hI2)) (fun q => absurd rfl q)
set_option maxHeartbeats 1000000 in
theorem lc_lies (hW : yLW len xs Gc) (hc : ce + 1 ≤ 601024) (hs : sl + 6 ≤ 7293034) (hL : 6 * j + 6 ≤ len) (hL2 : len ≤ 3072) (hI : Inv w) (kb : ∀ w2, Inv w2 → Gc (ce + 1) (sl + 6) 1290 (Lj j) [] w2) : Gc ce sl 357 (Lj j) [] w := by
  have hE := hW.zE (ce := ce) (sl := sl) (by omega) (by omega)
  have hE1 := hW.zE (ce := ce + 1) (sl := sl + 6) (by omega) (by omega)
  refine zr_aload_n hE eL_law_357 rfl ?_
  refine hW.arg (a := 1) (by omega) (by omega) hL hL2 eL_law_358 eL_law_359 eL_law_361 eL_law_362 eL_law_363 (by decide) (by decide) rfl rfl ?_
  refine hW.arg (a := 2) (by omega) (by omega) hL hL2 eL_law_364 eL_law_365 eL_law_367 eL_law_368 eL_law_369 (by decide) (by decide) rfl rfl ?_
  refine zr_callV2 hE eL_law_370 lL_44 zs0 rfl rfl (by decide) (Nat.le_of_ble_eq_true rfl) (o_lies hI (fun v w1 hP => ?_))
  refine zr_aload_n hE eL_law_373 rfl ?_
  refine hW.arg (a := 1) (by omega) (by omega) hL hL2 eL_law_374 eL_law_375 eL_law_377 eL_law_378 eL_law_379 (by decide) (by decide) rfl rfl ?_
  refine hW.arg (a := 2) (by omega) (by omega) hL hL2 eL_law_380 eL_law_381 eL_law_383 eL_law_384 eL_law_385 (by decide) (by decide) rfl rfl ?_
  refine zr_callV2 hE eL_law_386 lL_47 zs57 rfl rfl (by decide) (Nat.le_of_ble_eq_true rfl) (hP _ (fun w2 hI2 => ?_))
  exact zr_icmp_eq hE eL_law_389 (tgt := 1290) (by decide) (fun _ => hW.widen (Nat.le_succ _) (Nat.le_add_right _ _) (kb w2 hI2)) (fun q => absurd rfl q)
set_option maxHeartbeats 1000000 in
theorem lc_nest (hW : yLW len xs Gc) (hc : ce + 1 ≤ 601024) (hs : sl + 6 ≤ 7293034) (hL : 6 * j + 6 ≤ len) (hL2 : len ≤ 3072) (hI : Inv w) (kb : ∀ w2, Inv w2 → Gc (ce + 1) (sl + 6) 1290 (Lj j) [] w2) : Gc ce sl 394 (Lj j) [] w := by
  have hE := hW.zE (ce := ce) (sl := sl) (by omega) (by omega)
  have hE1 := hW.zE (ce := ce + 1) (sl := sl + 6) (by omega) (by omega)
  refine zr_aload_n hE eL_law_394 rfl ?_
  refine hW.arg (a := 1) (by omega) (by omega) hL hL2 eL_law_395 eL_law_396 eL_law_398 eL_law_399 eL_law_400 (by decide) (by decide) rfl rfl ?_
  refine zr_callV1 hE eL_law_401 lL_48 zs0 rfl rfl (by decide) (Nat.le_of_ble_eq_true rfl) (o_nest hI (fun v w1 hP => ?_))
  refine zr_aload_n hE eL_law_404 rfl ?_
  refine hW.arg (a := 1) (by omega) (by omega) hL hL2 eL_law_405 eL_law_406 eL_law_408 eL_law_409 eL_law_410 (by decide) (by decide) rfl rfl ?_
  refine zr_callV1 hE eL_law_411 lL_51 zs57 rfl rfl (by decide) (Nat.le_of_ble_eq_true rfl) (hP _ (fun w2 hI2 => ?_))
  exact zr_icmp_eq hE eL_law_414 (tgt := 1290) (by decide) (fun _ => hW.widen (Nat.le_succ _) (Nat.le_add_right _ _) (kb w2 hI2)) (fun q => absurd rfl q)
set_option maxHeartbeats 1000000 in
theorem lc_height (hW : yLW len xs Gc) (hc : ce + 1 ≤ 601024) (hs : sl + 6 ≤ 7293034) (hL : 6 * j + 6 ≤ len) (hL2 : len ≤ 3072) (hI : Inv w) (kb : ∀ w2, Inv w2 → Gc (ce + 1) (sl + 6) 1290 (Lj j) [] w2) : Gc ce sl 419 (Lj j) [] w := by
  have hE := hW.zE (ce := ce) (sl := sl) (by omega) (by omega)
  have hE1 := hW.zE (ce := ce + 1) (sl := sl + 6) (by omega) (by omega)
  refine zr_aload_n hE eL_law_419 rfl ?_
  refine hW.arg (a := 1) (by omega) (by omega) hL hL2 eL_law_420 eL_law_421 eL_law_423 eL_law_424 eL_law_425 (by decide) (by decide) rfl rfl ?_
  refine zr_callV1 hE eL_law_426 lL_52 zs0 rfl rfl (by decide) (Nat.le_of_ble_eq_true rfl) (o_height hI (fun v w1 hP => ?_))
  refine zr_aload_n hE eL_law_429 rfl ?_
  refine hW.arg (a := 1) (by omega) (by omega) hL hL2 eL_law_430 eL_law_431 eL_law_433 eL_law_434 eL_law_435 (by decide) (by decide) rfl rfl ?_
  refine zr_callV1 hE eL_law_436 lL_55 zs57 rfl rfl (by decide) (Nat.le_of_ble_eq_true rfl) (hP _ (fun w2 hI2 => ?_))
  exact zr_icmp_eq hE eL_law_439 (tgt := 1290) (by decide) (fun _ => hW.widen (Nat.le_succ _) (Nat.le_add_right _ _) (kb w2 hI2)) (fun q => absurd rfl q)
set_option maxHeartbeats 1000000 in
theorem lc_longest (hW : yLW len xs Gc) (hc : ce + 1 ≤ 601024) (hs : sl + 6 ≤ 7293034) (hL : 6 * j + 6 ≤ len) (hL2 : len ≤ 3072) (hI : Inv w) (kb : ∀ w2, Inv w2 → Gc (ce + 1) (sl + 6) 1290 (Lj j) [] w2) : Gc ce sl 444 (Lj j) [] w := by
  have hE := hW.zE (ce := ce) (sl := sl) (by omega) (by omega)
  have hE1 := hW.zE (ce := ce + 1) (sl := sl + 6) (by omega) (by omega)
  refine zr_aload_n hE eL_law_444 rfl ?_
  refine hW.arg (a := 1) (by omega) (by omega) hL hL2 eL_law_445 eL_law_446 eL_law_448 eL_law_449 eL_law_450 (by decide) (by decide) rfl rfl ?_
  refine hW.arg (a := 2) (by omega) (by omega) hL hL2 eL_law_451 eL_law_452 eL_law_454 eL_law_455 eL_law_456 (by decide) (by decide) rfl rfl ?_
  refine zr_callV2 hE eL_law_457 lL_56 zs0 rfl rfl (by decide) (Nat.le_of_ble_eq_true rfl) (o_longest hI (fun v w1 hP => ?_))
  refine zr_aload_n hE eL_law_460 rfl ?_
  refine hW.arg (a := 1) (by omega) (by omega) hL hL2 eL_law_461 eL_law_462 eL_law_464 eL_law_465 eL_law_466 (by decide) (by decide) rfl rfl ?_
  refine hW.arg (a := 2) (by omega) (by omega) hL hL2 eL_law_467 eL_law_468 eL_law_470 eL_law_471 eL_law_472 (by decide) (by decide) rfl rfl ?_
  refine zr_callV2 hE eL_law_473 lL_59 zs57 rfl rfl (by decide) (Nat.le_of_ble_eq_true rfl) (hP _ (fun w2 hI2 => ?_))
  exact zr_icmp_eq hE eL_law_476 (tgt := 1290) (by decide) (fun _ => hW.widen (Nat.le_succ _) (Nat.le_add_right _ _) (kb w2 hI2)) (fun q => absurd rfl q)
set_option maxHeartbeats 1000000 in
theorem lc_fewest (hW : yLW len xs Gc) (hc : ce + 1 ≤ 601024) (hs : sl + 6 ≤ 7293034) (hL : 6 * j + 6 ≤ len) (hL2 : len ≤ 3072) (hI : Inv w) (kb : ∀ w2, Inv w2 → Gc (ce + 1) (sl + 6) 1290 (Lj j) [] w2) : Gc ce sl 481 (Lj j) [] w := by
  have hE := hW.zE (ce := ce) (sl := sl) (by omega) (by omega)
  have hE1 := hW.zE (ce := ce + 1) (sl := sl + 6) (by omega) (by omega)
  refine zr_aload_n hE eL_law_481 rfl ?_
  refine zr_callV0 hE eL_law_482 lL_60 zs0 rfl rfl (by decide) (Nat.le_of_ble_eq_true rfl) (o_fewest hI (fun v w1 hP => ?_))
  refine zr_aload_n hE eL_law_485 rfl ?_
  refine zr_callV0 hE eL_law_486 lL_64 zs57 rfl rfl (by decide) (Nat.le_of_ble_eq_true rfl) (hP _ (fun w2 hI2 => ?_))
  exact zr_icmp_eq hE eL_law_489 (tgt := 1290) (by decide) (fun _ => hW.widen (Nat.le_succ _) (Nat.le_add_right _ _) (kb w2 hI2)) (fun q => absurd rfl q)
set_option maxHeartbeats 1000000 in
theorem lc_apart (hW : yLW len xs Gc) (hc : ce + 1 ≤ 601024) (hs : sl + 6 ≤ 7293034) (hL : 6 * j + 6 ≤ len) (hL2 : len ≤ 3072) (hI : Inv w) (kb : ∀ w2, Inv w2 → Gc (ce + 1) (sl + 6) 1290 (Lj j) [] w2) : Gc ce sl 494 (Lj j) [] w := by
  have hE := hW.zE (ce := ce) (sl := sl) (by omega) (by omega)
  have hE1 := hW.zE (ce := ce + 1) (sl := sl + 6) (by omega) (by omega)
  refine zr_aload_n hE eL_law_494 rfl ?_
  refine hW.arg (a := 1) (by omega) (by omega) hL hL2 eL_law_495 eL_law_496 eL_law_498 eL_law_499 eL_law_500 (by decide) (by decide) rfl rfl ?_
  refine zr_callV1 hE eL_law_501 lL_65 zs0 rfl rfl (by decide) (Nat.le_of_ble_eq_true rfl) (o_apart hI (fun v w1 hP => ?_))
  refine zr_aload_n hE eL_law_504 rfl ?_
  refine hW.arg (a := 1) (by omega) (by omega) hL hL2 eL_law_505 eL_law_506 eL_law_508 eL_law_509 eL_law_510 (by decide) (by decide) rfl rfl ?_
  refine zr_callV1 hE eL_law_511 lL_68 zs57 rfl rfl (by decide) (Nat.le_of_ble_eq_true rfl) (hP _ (fun w2 hI2 => ?_))
  exact zr_icmp_eq hE eL_law_514 (tgt := 1290) (by decide) (fun _ => hW.widen (Nat.le_succ _) (Nat.le_add_right _ _) (kb w2 hI2)) (fun q => absurd rfl q)
set_option maxHeartbeats 1000000 in
theorem lc_carry (hW : yLW len xs Gc) (hc : ce + 1 ≤ 601024) (hs : sl + 6 ≤ 7293034) (hL : 6 * j + 6 ≤ len) (hL2 : len ≤ 3072) (hI : Inv w) (kb : ∀ w2, Inv w2 → Gc (ce + 1) (sl + 6) 1290 (Lj j) [] w2) : Gc ce sl 519 (Lj j) [] w := by
  have hE := hW.zE (ce := ce) (sl := sl) (by omega) (by omega)
  have hE1 := hW.zE (ce := ce + 1) (sl := sl + 6) (by omega) (by omega)
  refine zr_aload_n hE eL_law_519 rfl ?_
  refine zr_callV0 hE eL_law_520 lL_69 zs0 rfl rfl (by decide) (Nat.le_of_ble_eq_true rfl) (o_carry hI (fun v w1 hP => ?_))
  refine zr_aload_n hE eL_law_523 rfl ?_
  refine zr_callV0 hE eL_law_524 lL_72 zs57 rfl rfl (by decide) (Nat.le_of_ble_eq_true rfl) (hP _ (fun w2 hI2 => ?_))
  exact zr_icmp_eq hE eL_law_527 (tgt := 1290) (by decide) (fun _ => hW.widen (Nat.le_succ _) (Nat.le_add_right _ _) (kb w2 hI2)) (fun q => absurd rfl q)
set_option maxHeartbeats 1000000 in
theorem lc_load (hW : yLW len xs Gc) (hc : ce + 1 ≤ 601024) (hs : sl + 6 ≤ 7293034) (hL : 6 * j + 6 ≤ len) (hL2 : len ≤ 3072) (hI : Inv w) (kb : ∀ w2, Inv w2 → Gc (ce + 1) (sl + 6) 1290 (Lj j) [] w2) : Gc ce sl 532 (Lj j) [] w := by
  have hE := hW.zE (ce := ce) (sl := sl) (by omega) (by omega)
  have hE1 := hW.zE (ce := ce + 1) (sl := sl + 6) (by omega) (by omega)
  refine zr_aload_n hE eL_law_532 rfl ?_
  refine hW.arg (a := 1) (by omega) (by omega) hL hL2 eL_law_533 eL_law_534 eL_law_536 eL_law_537 eL_law_538 (by decide) (by decide) rfl rfl ?_
  refine zr_callV1 hE eL_law_539 lL_73 zs0 rfl rfl (by decide) (Nat.le_of_ble_eq_true rfl) (o_load hI (fun v w1 hP => ?_))
  refine zr_aload_n hE eL_law_542 rfl ?_
  refine hW.arg (a := 1) (by omega) (by omega) hL hL2 eL_law_543 eL_law_544 eL_law_546 eL_law_547 eL_law_548 (by decide) (by decide) rfl rfl ?_
  refine zr_callV1 hE eL_law_549 lL_76 zs57 rfl rfl (by decide) (Nat.le_of_ble_eq_true rfl) (hP _ (fun w2 hI2 => ?_))
  exact zr_icmp_eq hE eL_law_552 (tgt := 1290) (by decide) (fun _ => hW.widen (Nat.le_succ _) (Nat.le_add_right _ _) (kb w2 hI2)) (fun q => absurd rfl q)
set_option maxHeartbeats 1000000 in
theorem lc_whole (hW : yLW len xs Gc) (hc : ce + 1 ≤ 601024) (hs : sl + 6 ≤ 7293034) (hL : 6 * j + 6 ≤ len) (hL2 : len ≤ 3072) (hI : Inv w) (kb : ∀ w2, Inv w2 → Gc (ce + 1) (sl + 6) 1290 (Lj j) [] w2) : Gc ce sl 557 (Lj j) [] w := by
  have hE := hW.zE (ce := ce) (sl := sl) (by omega) (by omega)
  have hE1 := hW.zE (ce := ce + 1) (sl := sl + 6) (by omega) (by omega)
  refine zr_aload_n hE eL_law_557 rfl ?_
  refine hW.arg (a := 1) (by omega) (by omega) hL hL2 eL_law_558 eL_law_559 eL_law_561 eL_law_562 eL_law_563 (by decide) (by decide) rfl rfl ?_
  refine zr_callV1 hE eL_law_564 lL_77 zs0 rfl rfl (by decide) (Nat.le_of_ble_eq_true rfl) (o_whole hI (fun v w1 hP => ?_))
  refine zr_aload_n hE eL_law_567 rfl ?_
  refine hW.arg (a := 1) (by omega) (by omega) hL hL2 eL_law_568 eL_law_569 eL_law_571 eL_law_572 eL_law_573 (by decide) (by decide) rfl rfl ?_
  refine zr_callV1 hE eL_law_574 lL_80 zs57 rfl rfl (by decide) (Nat.le_of_ble_eq_true rfl) (hP _ (fun w2 hI2 => ?_))
  exact zr_icmp_eq hE eL_law_577 (tgt := 1290) (by decide) (fun _ => hW.widen (Nat.le_succ _) (Nat.le_add_right _ _) (kb w2 hI2)) (fun q => absurd rfl q)
set_option maxHeartbeats 1000000 in
theorem lc_throwsNew (hW : yLW len xs Gc) (hc : ce + 1 ≤ 601024) (hs : sl + 6 ≤ 7293034) (hL : 6 * j + 6 ≤ len) (hL2 : len ≤ 3072) (hI : Inv w) (kb : ∀ w2, Inv w2 → Gc (ce + 1) (sl + 6) 1290 (Lj j) [] w2) : Gc ce sl 582 (Lj j) [] w := by
  have hE := hW.zE (ce := ce) (sl := sl) (by omega) (by omega)
  have hE1 := hW.zE (ce := ce + 1) (sl := sl + 6) (by omega) (by omega)
  refine zr_aload_n hE eL_law_582 rfl ?_
  refine zr_callV0 hE eL_law_583 lL_81 zs0 rfl rfl (by decide) (Nat.le_of_ble_eq_true rfl) (o_throwsNew hI (fun v w1 hP => ?_))
  refine zr_aload_n hE eL_law_586 rfl ?_
  refine zr_callV0 hE eL_law_587 lL_84 zs57 rfl rfl (by decide) (Nat.le_of_ble_eq_true rfl) (hP _ (fun w2 hI2 => ?_))
  exact zr_icmp_eq hE eL_law_590 (tgt := 1290) (by decide) (fun _ => hW.widen (Nat.le_succ _) (Nat.le_add_right _ _) (kb w2 hI2)) (fun q => absurd rfl q)
set_option maxHeartbeats 1000000 in
theorem lc_helps (hW : yLW len xs Gc) (hc : ce + 1 ≤ 601024) (hs : sl + 6 ≤ 7293034) (hL : 6 * j + 6 ≤ len) (hL2 : len ≤ 3072) (hI : Inv w) (kb : ∀ w2, Inv w2 → Gc (ce + 1) (sl + 6) 1290 (Lj j) [] w2) : Gc ce sl 595 (Lj j) [] w := by
  have hE := hW.zE (ce := ce) (sl := sl) (by omega) (by omega)
  have hE1 := hW.zE (ce := ce + 1) (sl := sl + 6) (by omega) (by omega)
  refine zr_aload_n hE eL_law_595 rfl ?_
  refine hW.arg (a := 1) (by omega) (by omega) hL hL2 eL_law_596 eL_law_597 eL_law_599 eL_law_600 eL_law_601 (by decide) (by decide) rfl rfl ?_
  refine hW.arg (a := 2) (by omega) (by omega) hL hL2 eL_law_602 eL_law_603 eL_law_605 eL_law_606 eL_law_607 (by decide) (by decide) rfl rfl ?_
  refine zr_callV2 hE eL_law_608 lL_85 zs0 rfl rfl (by decide) (Nat.le_of_ble_eq_true rfl) (o_helps hI (fun v w1 hP => ?_))
  refine zr_aload_n hE eL_law_611 rfl ?_
  refine hW.arg (a := 1) (by omega) (by omega) hL hL2 eL_law_612 eL_law_613 eL_law_615 eL_law_616 eL_law_617 (by decide) (by decide) rfl rfl ?_
  refine hW.arg (a := 2) (by omega) (by omega) hL hL2 eL_law_618 eL_law_619 eL_law_621 eL_law_622 eL_law_623 (by decide) (by decide) rfl rfl ?_
  refine zr_callV2 hE eL_law_624 lL_88 zs57 rfl rfl (by decide) (Nat.le_of_ble_eq_true rfl) (hP _ (fun w2 hI2 => ?_))
  exact zr_icmp_eq hE eL_law_627 (tgt := 1290) (by decide) (fun _ => hW.widen (Nat.le_succ _) (Nat.le_add_right _ _) (kb w2 hI2)) (fun q => absurd rfl q)
set_option maxHeartbeats 1000000 in
theorem lc_out (hW : yLW len xs Gc) (hc : ce + 1 ≤ 601024) (hs : sl + 6 ≤ 7293034) (hL : 6 * j + 6 ≤ len) (hL2 : len ≤ 3072) (hI : Inv w) (kb : ∀ w2, Inv w2 → Gc (ce + 1) (sl + 6) 1290 (Lj j) [] w2) : Gc ce sl 632 (Lj j) [] w := by
  have hE := hW.zE (ce := ce) (sl := sl) (by omega) (by omega)
  have hE1 := hW.zE (ce := ce + 1) (sl := sl + 6) (by omega) (by omega)
  refine zr_aload_n hE eL_law_632 rfl ?_
  refine hW.arg (a := 1) (by omega) (by omega) hL hL2 eL_law_633 eL_law_634 eL_law_636 eL_law_637 eL_law_638 (by decide) (by decide) rfl rfl ?_
  refine hW.arg (a := 2) (by omega) (by omega) hL hL2 eL_law_639 eL_law_640 eL_law_642 eL_law_643 eL_law_644 (by decide) (by decide) rfl rfl ?_
  refine zr_callV2 hE eL_law_645 lL_89 zs0 rfl rfl (by decide) (Nat.le_of_ble_eq_true rfl) (o_out hI (fun v w1 hP => ?_))
  refine zr_aload_n hE eL_law_648 rfl ?_
  refine hW.arg (a := 1) (by omega) (by omega) hL hL2 eL_law_649 eL_law_650 eL_law_652 eL_law_653 eL_law_654 (by decide) (by decide) rfl rfl ?_
  refine hW.arg (a := 2) (by omega) (by omega) hL hL2 eL_law_655 eL_law_656 eL_law_658 eL_law_659 eL_law_660 (by decide) (by decide) rfl rfl ?_
  refine zr_callV2 hE eL_law_661 lL_92 zs57 rfl rfl (by decide) (Nat.le_of_ble_eq_true rfl) (hP _ (fun w2 hI2 => ?_))
  exact zr_icmp_eq hE eL_law_664 (tgt := 1290) (by decide) (fun _ => hW.widen (Nat.le_succ _) (Nat.le_add_right _ _) (kb w2 hI2)) (fun q => absurd rfl q)
set_option maxHeartbeats 1000000 in
theorem lc_judge (hW : yLW len xs Gc) (hc : ce + 1 ≤ 601024) (hs : sl + 6 ≤ 7293034) (hL : 6 * j + 6 ≤ len) (hL2 : len ≤ 3072) (hI : Inv w) (kb : ∀ w2, Inv w2 → Gc (ce + 1) (sl + 6) 1290 (Lj j) [] w2) : Gc ce sl 669 (Lj j) [] w := by
  have hE := hW.zE (ce := ce) (sl := sl) (by omega) (by omega)
  have hE1 := hW.zE (ce := ce + 1) (sl := sl + 6) (by omega) (by omega)
  refine zr_aload_n hE eL_law_669 rfl ?_
  refine hW.arg (a := 1) (by omega) (by omega) hL hL2 eL_law_670 eL_law_671 eL_law_673 eL_law_674 eL_law_675 (by decide) (by decide) rfl rfl ?_
  refine zr_callV1 hE eL_law_676 lL_93 zs0 rfl rfl (by decide) (Nat.le_of_ble_eq_true rfl) (o_judge hI (fun v w1 hP => ?_))
  refine zr_aload_n hE eL_law_679 rfl ?_
  refine hW.arg (a := 1) (by omega) (by omega) hL hL2 eL_law_680 eL_law_681 eL_law_683 eL_law_684 eL_law_685 (by decide) (by decide) rfl rfl ?_
  refine zr_callV1 hE eL_law_686 lL_96 zs57 rfl rfl (by decide) (Nat.le_of_ble_eq_true rfl) (hP _ (fun w2 hI2 => ?_))
  exact zr_icmp_eq hE eL_law_689 (tgt := 1290) (by decide) (fun _ => hW.widen (Nat.le_succ _) (Nat.le_add_right _ _) (kb w2 hI2)) (fun q => absurd rfl q)
set_option maxHeartbeats 1000000 in
theorem lc_spans (hW : yLW len xs Gc) (hc : ce + 1 ≤ 601024) (hs : sl + 6 ≤ 7293034) (hL : 6 * j + 6 ≤ len) (hL2 : len ≤ 3072) (hI : Inv w) (kb : ∀ w2, Inv w2 → Gc (ce + 1) (sl + 6) 1290 (Lj j) [] w2) : Gc ce sl 694 (Lj j) [] w := by
  have hE := hW.zE (ce := ce) (sl := sl) (by omega) (by omega)
  have hE1 := hW.zE (ce := ce + 1) (sl := sl + 6) (by omega) (by omega)
  refine zr_aload_n hE eL_law_694 rfl ?_
  refine hW.arg (a := 1) (by omega) (by omega) hL hL2 eL_law_695 eL_law_696 eL_law_698 eL_law_699 eL_law_700 (by decide) (by decide) rfl rfl ?_
  refine hW.arg (a := 2) (by omega) (by omega) hL hL2 eL_law_701 eL_law_702 eL_law_704 eL_law_705 eL_law_706 (by decide) (by decide) rfl rfl ?_
  refine hW.arg (a := 3) (by omega) (by omega) hL hL2 eL_law_707 eL_law_708 eL_law_710 eL_law_711 eL_law_712 (by decide) (by decide) rfl rfl ?_
  refine zr_callV3 hE eL_law_713 lL_97 zs0 rfl rfl (by decide) (Nat.le_of_ble_eq_true rfl) (o_spans hI (fun v w1 hP => ?_))
  refine zr_aload_n hE eL_law_716 rfl ?_
  refine hW.arg (a := 1) (by omega) (by omega) hL hL2 eL_law_717 eL_law_718 eL_law_720 eL_law_721 eL_law_722 (by decide) (by decide) rfl rfl ?_
  refine hW.arg (a := 2) (by omega) (by omega) hL hL2 eL_law_723 eL_law_724 eL_law_726 eL_law_727 eL_law_728 (by decide) (by decide) rfl rfl ?_
  refine hW.arg (a := 3) (by omega) (by omega) hL hL2 eL_law_729 eL_law_730 eL_law_732 eL_law_733 eL_law_734 (by decide) (by decide) rfl rfl ?_
  refine zr_callV3 hE eL_law_735 lL_101 zs57 rfl rfl (by decide) (Nat.le_of_ble_eq_true rfl) (hP _ (fun w2 hI2 => ?_))
  exact zr_icmp_eq hE eL_law_738 (tgt := 1290) (by decide) (fun _ => hW.widen (Nat.le_succ _) (Nat.le_add_right _ _) (kb w2 hI2)) (fun q => absurd rfl q)
set_option maxHeartbeats 1000000 in
theorem lc_next (hW : yLW len xs Gc) (hc : ce + 1 ≤ 601024) (hs : sl + 6 ≤ 7293034) (hL : 6 * j + 6 ≤ len) (hL2 : len ≤ 3072) (hI : Inv w) (kb : ∀ w2, Inv w2 → Gc (ce + 1) (sl + 6) 1290 (Lj j) [] w2) : Gc ce sl 743 (Lj j) [] w := by
  have hE := hW.zE (ce := ce) (sl := sl) (by omega) (by omega)
  have hE1 := hW.zE (ce := ce + 1) (sl := sl + 6) (by omega) (by omega)
  refine zr_aload_n hE eL_law_743 rfl ?_
  refine hW.arg (a := 1) (by omega) (by omega) hL hL2 eL_law_744 eL_law_745 eL_law_747 eL_law_748 eL_law_749 (by decide) (by decide) rfl rfl ?_
  refine hW.arg (a := 2) (by omega) (by omega) hL hL2 eL_law_750 eL_law_751 eL_law_753 eL_law_754 eL_law_755 (by decide) (by decide) rfl rfl ?_
  refine zr_callV2 hE eL_law_756 lL_102 zs0 rfl rfl (by decide) (Nat.le_of_ble_eq_true rfl) (o_next hI (fun v w1 hP => ?_))
  refine zr_aload_n hE eL_law_759 rfl ?_
  refine hW.arg (a := 1) (by omega) (by omega) hL hL2 eL_law_760 eL_law_761 eL_law_763 eL_law_764 eL_law_765 (by decide) (by decide) rfl rfl ?_
  refine hW.arg (a := 2) (by omega) (by omega) hL hL2 eL_law_766 eL_law_767 eL_law_769 eL_law_770 eL_law_771 (by decide) (by decide) rfl rfl ?_
  refine zr_callV2 hE eL_law_772 lL_105 zs57 rfl rfl (by decide) (Nat.le_of_ble_eq_true rfl) (hP _ (fun w2 hI2 => ?_))
  exact zr_icmp_eq hE eL_law_775 (tgt := 1290) (by decide) (fun _ => hW.widen (Nat.le_succ _) (Nat.le_add_right _ _) (kb w2 hI2)) (fun q => absurd rfl q)
set_option maxHeartbeats 1000000 in
theorem lc_from (hW : yLW len xs Gc) (hc : ce + 1 ≤ 601024) (hs : sl + 6 ≤ 7293034) (hL : 6 * j + 6 ≤ len) (hL2 : len ≤ 3072) (hI : Inv w) (kb : ∀ w2, Inv w2 → Gc (ce + 1) (sl + 6) 1290 (Lj j) [] w2) : Gc ce sl 780 (Lj j) [] w := by
  have hE := hW.zE (ce := ce) (sl := sl) (by omega) (by omega)
  have hE1 := hW.zE (ce := ce + 1) (sl := sl + 6) (by omega) (by omega)
  refine zr_aload_n hE eL_law_780 rfl ?_
  refine hW.arg (a := 1) (by omega) (by omega) hL hL2 eL_law_781 eL_law_782 eL_law_784 eL_law_785 eL_law_786 (by decide) (by decide) rfl rfl ?_
  refine hW.arg (a := 2) (by omega) (by omega) hL hL2 eL_law_787 eL_law_788 eL_law_790 eL_law_791 eL_law_792 (by decide) (by decide) rfl rfl ?_
  refine hW.arg (a := 3) (by omega) (by omega) hL hL2 eL_law_793 eL_law_794 eL_law_796 eL_law_797 eL_law_798 (by decide) (by decide) rfl rfl ?_
  refine hW.arg (a := 4) (by omega) (by omega) hL hL2 eL_law_799 eL_law_800 eL_law_802 eL_law_803 eL_law_804 (by decide) (by decide) rfl rfl ?_
  refine zr_callV4 hE eL_law_805 lL_106 zs0 rfl rfl (by decide) (Nat.le_of_ble_eq_true rfl) (o_from hI (fun v w1 hP => ?_))
  refine zr_aload_n hE eL_law_808 rfl ?_
  refine hW.arg (a := 1) (by omega) (by omega) hL hL2 eL_law_809 eL_law_810 eL_law_812 eL_law_813 eL_law_814 (by decide) (by decide) rfl rfl ?_
  refine hW.arg (a := 2) (by omega) (by omega) hL hL2 eL_law_815 eL_law_816 eL_law_818 eL_law_819 eL_law_820 (by decide) (by decide) rfl rfl ?_
  refine hW.arg (a := 3) (by omega) (by omega) hL hL2 eL_law_821 eL_law_822 eL_law_824 eL_law_825 eL_law_826 (by decide) (by decide) rfl rfl ?_
  refine hW.arg (a := 4) (by omega) (by omega) hL hL2 eL_law_827 eL_law_828 eL_law_830 eL_law_831 eL_law_832 (by decide) (by decide) rfl rfl ?_
  refine zr_callV4 hE eL_law_833 lL_109 zs57 rfl rfl (by decide) (Nat.le_of_ble_eq_true rfl) (hP _ (fun w2 hI2 => ?_))
  exact zr_icmp_eq hE eL_law_836 (tgt := 1290) (by decide) (fun _ => hW.widen (Nat.le_succ _) (Nat.le_add_right _ _) (kb w2 hI2)) (fun q => absurd rfl q)
set_option maxHeartbeats 1000000 in
theorem lc_breaks (hW : yLW len xs Gc) (hc : ce + 1 ≤ 601024) (hs : sl + 6 ≤ 7293034) (hL : 6 * j + 6 ≤ len) (hL2 : len ≤ 3072) (hI : Inv w) (kb : ∀ w2, Inv w2 → Gc (ce + 1) (sl + 6) 1290 (Lj j) [] w2) : Gc ce sl 841 (Lj j) [] w := by
  have hE := hW.zE (ce := ce) (sl := sl) (by omega) (by omega)
  have hE1 := hW.zE (ce := ce + 1) (sl := sl + 6) (by omega) (by omega)
  refine zr_aload_n hE eL_law_841 rfl ?_
  refine hW.arg (a := 1) (by omega) (by omega) hL hL2 eL_law_842 eL_law_843 eL_law_845 eL_law_846 eL_law_847 (by decide) (by decide) rfl rfl ?_
  refine hW.arg (a := 2) (by omega) (by omega) hL hL2 eL_law_848 eL_law_849 eL_law_851 eL_law_852 eL_law_853 (by decide) (by decide) rfl rfl ?_
  refine hW.arg (a := 3) (by omega) (by omega) hL hL2 eL_law_854 eL_law_855 eL_law_857 eL_law_858 eL_law_859 (by decide) (by decide) rfl rfl ?_
  refine zr_callV3 hE eL_law_860 lL_110 zs0 rfl rfl (by decide) (Nat.le_of_ble_eq_true rfl) (o_breaks hI (fun v w1 hP => ?_))
  refine zr_aload_n hE eL_law_863 rfl ?_
  refine hW.arg (a := 1) (by omega) (by omega) hL hL2 eL_law_864 eL_law_865 eL_law_867 eL_law_868 eL_law_869 (by decide) (by decide) rfl rfl ?_
  refine hW.arg (a := 2) (by omega) (by omega) hL hL2 eL_law_870 eL_law_871 eL_law_873 eL_law_874 eL_law_875 (by decide) (by decide) rfl rfl ?_
  refine hW.arg (a := 3) (by omega) (by omega) hL hL2 eL_law_876 eL_law_877 eL_law_879 eL_law_880 eL_law_881 (by decide) (by decide) rfl rfl ?_
  refine zr_callV3 hE eL_law_882 lL_113 zs57 rfl rfl (by decide) (Nat.le_of_ble_eq_true rfl) (hP _ (fun w2 hI2 => ?_))
  exact zr_icmp_eq hE eL_law_885 (tgt := 1290) (by decide) (fun _ => hW.widen (Nat.le_succ _) (Nat.le_add_right _ _) (kb w2 hI2)) (fun q => absurd rfl q)
set_option maxHeartbeats 1000000 in
theorem lc_image (hW : yLW len xs Gc) (hc : ce + 1 ≤ 601024) (hs : sl + 6 ≤ 7293034) (hL : 6 * j + 6 ≤ len) (hL2 : len ≤ 3072) (hI : Inv w) (kb : ∀ w2, Inv w2 → Gc (ce + 1) (sl + 6) 1290 (Lj j) [] w2) : Gc ce sl 890 (Lj j) [] w := by
  have hE := hW.zE (ce := ce) (sl := sl) (by omega) (by omega)
  have hE1 := hW.zE (ce := ce + 1) (sl := sl + 6) (by omega) (by omega)
  refine zr_aload_n hE eL_law_890 rfl ?_
  refine zr_callV0 hE eL_law_891 lL_114 zs0 rfl rfl (by decide) (Nat.le_of_ble_eq_true rfl) (o_image hI (fun v w1 hP => ?_))
  refine zr_aload_n hE eL_law_894 rfl ?_
  refine zr_callV0 hE eL_law_895 lL_117 zs57 rfl rfl (by decide) (Nat.le_of_ble_eq_true rfl) (hP _ (fun w2 hI2 => ?_))
  exact zr_icmp_eq hE eL_law_898 (tgt := 1290) (by decide) (fun _ => hW.widen (Nat.le_succ _) (Nat.le_add_right _ _) (kb w2 hI2)) (fun q => absurd rfl q)
set_option maxHeartbeats 1000000 in
theorem lc_restore (hW : yLW len xs Gc) (hc : ce + 1 ≤ 601024) (hs : sl + 6 ≤ 7293034) (hL : 6 * j + 6 ≤ len) (hL2 : len ≤ 3072) (hI : Inv w) (kb : ∀ w2, Inv w2 → Gc (ce + 1) (sl + 6) 1290 (Lj j) [] w2) : Gc ce sl 903 (Lj j) [] w := by
  have hE := hW.zE (ce := ce) (sl := sl) (by omega) (by omega)
  have hE1 := hW.zE (ce := ce + 1) (sl := sl + 6) (by omega) (by omega)
  refine zr_aload_n hE eL_law_903 rfl ?_
  refine zr_callV0 hE eL_law_904 lL_118 zs0 rfl rfl (by decide) (Nat.le_of_ble_eq_true rfl) (o_restore hI (fun v w1 hP => ?_))
  refine zr_aload_n hE eL_law_907 rfl ?_
  refine zr_callV0 hE eL_law_908 lL_121 zs57 rfl rfl (by decide) (Nat.le_of_ble_eq_true rfl) (hP _ (fun w2 hI2 => ?_))
  exact zr_icmp_eq hE eL_law_911 (tgt := 1290) (by decide) (fun _ => hW.widen (Nat.le_succ _) (Nat.le_add_right _ _) (kb w2 hI2)) (fun q => absurd rfl q)
set_option maxHeartbeats 1000000 in
theorem lc_count (hW : yLW len xs Gc) (hc : ce + 1 ≤ 601024) (hs : sl + 6 ≤ 7293034) (hL : 6 * j + 6 ≤ len) (hL2 : len ≤ 3072) (hI : Inv w) (kb : ∀ w2, Inv w2 → Gc (ce + 1) (sl + 6) 1290 (Lj j) [] w2) : Gc ce sl 916 (Lj j) [] w := by
  have hE := hW.zE (ce := ce) (sl := sl) (by omega) (by omega)
  have hE1 := hW.zE (ce := ce + 1) (sl := sl + 6) (by omega) (by omega)
  refine zr_aload_n hE eL_law_916 rfl ?_
  refine hW.arg (a := 1) (by omega) (by omega) hL hL2 eL_law_917 eL_law_918 eL_law_920 eL_law_921 eL_law_922 (by decide) (by decide) rfl rfl ?_
  refine zr_callV1 hE eL_law_923 lL_122 zs0 rfl rfl (by decide) (Nat.le_of_ble_eq_true rfl) (o_count hI (fun v w1 hP => ?_))
  refine zr_aload_n hE eL_law_926 rfl ?_
  refine hW.arg (a := 1) (by omega) (by omega) hL hL2 eL_law_927 eL_law_928 eL_law_930 eL_law_931 eL_law_932 (by decide) (by decide) rfl rfl ?_
  refine zr_callV1 hE eL_law_933 lL_125 zs57 rfl rfl (by decide) (Nat.le_of_ble_eq_true rfl) (hP _ (fun w2 hI2 => ?_))
  exact zr_icmp_eq hE eL_law_936 (tgt := 1290) (by decide) (fun _ => hW.widen (Nat.le_succ _) (Nat.le_add_right _ _) (kb w2 hI2)) (fun q => absurd rfl q)
set_option maxHeartbeats 1000000 in
theorem lc_keep (hW : yLW len xs Gc) (hc : ce + 1 ≤ 601024) (hs : sl + 6 ≤ 7293034) (hL : 6 * j + 6 ≤ len) (hL2 : len ≤ 3072) (hI : Inv w) (kb : ∀ w2, Inv w2 → Gc (ce + 1) (sl + 6) 1290 (Lj j) [] w2) : Gc ce sl 941 (Lj j) [] w := by
  have hE := hW.zE (ce := ce) (sl := sl) (by omega) (by omega)
  have hE1 := hW.zE (ce := ce + 1) (sl := sl + 6) (by omega) (by omega)
  refine zr_aload_n hE eL_law_941 rfl ?_
  refine hW.arg (a := 1) (by omega) (by omega) hL hL2 eL_law_942 eL_law_943 eL_law_945 eL_law_946 eL_law_947 (by decide) (by decide) rfl rfl ?_
  refine hW.arg (a := 2) (by omega) (by omega) hL hL2 eL_law_948 eL_law_949 eL_law_951 eL_law_952 eL_law_953 (by decide) (by decide) rfl rfl ?_
  refine hW.arg (a := 3) (by omega) (by omega) hL hL2 eL_law_954 eL_law_955 eL_law_957 eL_law_958 eL_law_959 (by decide) (by decide) rfl rfl ?_
  refine hW.arg (a := 4) (by omega) (by omega) hL hL2 eL_law_960 eL_law_961 eL_law_963 eL_law_964 eL_law_965 (by decide) (by decide) rfl rfl ?_
  refine zr_callV4 hE eL_law_966 lL_126 zs0 rfl rfl (by decide) (Nat.le_of_ble_eq_true rfl) (o_keep hI (fun v w1 hP => ?_))
  refine zr_aload_n hE eL_law_969 rfl ?_
  refine hW.arg (a := 1) (by omega) (by omega) hL hL2 eL_law_970 eL_law_971 eL_law_973 eL_law_974 eL_law_975 (by decide) (by decide) rfl rfl ?_
  refine hW.arg (a := 2) (by omega) (by omega) hL hL2 eL_law_976 eL_law_977 eL_law_979 eL_law_980 eL_law_981 (by decide) (by decide) rfl rfl ?_
  refine hW.arg (a := 3) (by omega) (by omega) hL hL2 eL_law_982 eL_law_983 eL_law_985 eL_law_986 eL_law_987 (by decide) (by decide) rfl rfl ?_
  refine hW.arg (a := 4) (by omega) (by omega) hL hL2 eL_law_988 eL_law_989 eL_law_991 eL_law_992 eL_law_993 (by decide) (by decide) rfl rfl ?_
  refine zr_callV4 hE eL_law_994 lL_129 zs57 rfl rfl (by decide) (Nat.le_of_ble_eq_true rfl) (hP _ (fun w2 hI2 => ?_))
  exact zr_icmp_eq hE eL_law_997 (tgt := 1290) (by decide) (fun _ => hW.widen (Nat.le_succ _) (Nat.le_add_right _ _) (kb w2 hI2)) (fun q => absurd rfl q)
set_option maxHeartbeats 1000000 in
theorem lc_row (hW : yLW len xs Gc) (hc : ce + 1 ≤ 601024) (hs : sl + 6 ≤ 7293034) (hL : 6 * j + 6 ≤ len) (hL2 : len ≤ 3072) (hI : Inv w) (kb : ∀ w2, Inv w2 → Gc (ce + 1) (sl + 6) 1290 (Lj j) [] w2) : Gc ce sl 1002 (Lj j) [] w := by
  have hE := hW.zE (ce := ce) (sl := sl) (by omega) (by omega)
  have hE1 := hW.zE (ce := ce + 1) (sl := sl + 6) (by omega) (by omega)
  refine zr_aload_n hE eL_law_1002 rfl ?_
  refine hW.arg (a := 1) (by omega) (by omega) hL hL2 eL_law_1003 eL_law_1004 eL_law_1006 eL_law_1007 eL_law_1008 (by decide) (by decide) rfl rfl ?_
  refine hW.arg (a := 2) (by omega) (by omega) hL hL2 eL_law_1009 eL_law_1010 eL_law_1012 eL_law_1013 eL_law_1014 (by decide) (by decide) rfl rfl ?_
  refine hW.arg (a := 3) (by omega) (by omega) hL hL2 eL_law_1015 eL_law_1016 eL_law_1018 eL_law_1019 eL_law_1020 (by decide) (by decide) rfl rfl ?_
  refine zr_callV3 hE eL_law_1021 lL_130 zs0 rfl rfl (by decide) (Nat.le_of_ble_eq_true rfl) (o_row hI (fun v w1 hP => ?_))
  refine zr_aload_n hE eL_law_1024 rfl ?_
  refine hW.arg (a := 1) (by omega) (by omega) hL hL2 eL_law_1025 eL_law_1026 eL_law_1028 eL_law_1029 eL_law_1030 (by decide) (by decide) rfl rfl ?_
  refine hW.arg (a := 2) (by omega) (by omega) hL hL2 eL_law_1031 eL_law_1032 eL_law_1034 eL_law_1035 eL_law_1036 (by decide) (by decide) rfl rfl ?_
  refine hW.arg (a := 3) (by omega) (by omega) hL hL2 eL_law_1037 eL_law_1038 eL_law_1040 eL_law_1041 eL_law_1042 (by decide) (by decide) rfl rfl ?_
  refine zr_callV3 hE eL_law_1043 lL_133 zs57 rfl rfl (by decide) (Nat.le_of_ble_eq_true rfl) (hP _ (fun w2 hI2 => ?_))
  exact zr_icmp_eq hE eL_law_1046 (tgt := 1290) (by decide) (fun _ => hW.widen (Nat.le_succ _) (Nat.le_add_right _ _) (kb w2 hI2)) (fun q => absurd rfl q)
set_option maxHeartbeats 1000000 in
theorem lc_put (hW : yLW len xs Gc) (hc : ce + 1 ≤ 601024) (hs : sl + 6 ≤ 7293034) (hL : 6 * j + 6 ≤ len) (hL2 : len ≤ 3072) (hI : Inv w) (kb : ∀ w2, Inv w2 → Gc (ce + 1) (sl + 6) 1290 (Lj j) [] w2) : Gc ce sl 1051 (Lj j) [] w := by
  have hE := hW.zE (ce := ce) (sl := sl) (by omega) (by omega)
  have hE1 := hW.zE (ce := ce + 1) (sl := sl + 6) (by omega) (by omega)
  refine zr_aload_n hE eL_law_1051 rfl ?_
  refine hW.arg (a := 1) (by omega) (by omega) hL hL2 eL_law_1052 eL_law_1053 eL_law_1055 eL_law_1056 eL_law_1057 (by decide) (by decide) rfl rfl ?_
  refine hW.arg (a := 2) (by omega) (by omega) hL hL2 eL_law_1058 eL_law_1059 eL_law_1061 eL_law_1062 eL_law_1063 (by decide) (by decide) rfl rfl ?_
  refine hW.arg (a := 3) (by omega) (by omega) hL hL2 eL_law_1064 eL_law_1065 eL_law_1067 eL_law_1068 eL_law_1069 (by decide) (by decide) rfl rfl ?_
  refine zr_callV3 hE eL_law_1070 lL_134 zs0 rfl rfl (by decide) (Nat.le_of_ble_eq_true rfl) (o_put hI (fun v w1 hP => ?_))
  refine zr_aload_n hE eL_law_1073 rfl ?_
  refine hW.arg (a := 1) (by omega) (by omega) hL hL2 eL_law_1074 eL_law_1075 eL_law_1077 eL_law_1078 eL_law_1079 (by decide) (by decide) rfl rfl ?_
  refine hW.arg (a := 2) (by omega) (by omega) hL hL2 eL_law_1080 eL_law_1081 eL_law_1083 eL_law_1084 eL_law_1085 (by decide) (by decide) rfl rfl ?_
  refine hW.arg (a := 3) (by omega) (by omega) hL hL2 eL_law_1086 eL_law_1087 eL_law_1089 eL_law_1090 eL_law_1091 (by decide) (by decide) rfl rfl ?_
  refine zr_callV3 hE eL_law_1092 lL_137 zs57 rfl rfl (by decide) (Nat.le_of_ble_eq_true rfl) (hP _ (fun w2 hI2 => ?_))
  exact zr_icmp_eq hE eL_law_1095 (tgt := 1290) (by decide) (fun _ => hW.widen (Nat.le_succ _) (Nat.le_add_right _ _) (kb w2 hI2)) (fun q => absurd rfl q)
set_option maxHeartbeats 1000000 in
theorem lc_element (hW : yLW len xs Gc) (hc : ce + 1 ≤ 601024) (hs : sl + 6 ≤ 7293034) (hL : 6 * j + 6 ≤ len) (hL2 : len ≤ 3072) (hI : Inv w) (kb : ∀ w2, Inv w2 → Gc (ce + 1) (sl + 6) 1290 (Lj j) [] w2) : Gc ce sl 1100 (Lj j) [] w := by
  have hE := hW.zE (ce := ce) (sl := sl) (by omega) (by omega)
  have hE1 := hW.zE (ce := ce + 1) (sl := sl + 6) (by omega) (by omega)
  refine zr_aload_n hE eL_law_1100 rfl ?_
  refine hW.arg (a := 1) (by omega) (by omega) hL hL2 eL_law_1101 eL_law_1102 eL_law_1104 eL_law_1105 eL_law_1106 (by decide) (by decide) rfl rfl ?_
  refine hW.arg (a := 2) (by omega) (by omega) hL hL2 eL_law_1107 eL_law_1108 eL_law_1110 eL_law_1111 eL_law_1112 (by decide) (by decide) rfl rfl ?_
  refine zr_aload_n hE eL_law_1113 rfl ?_
  refine hW.callS (j := 4) (M := mL_element) (hh := elT) (As := [.ref 0, .int (xs (6 * j + 1)), .int (xs (6 * j + 2)), .ref 71]) (S := []) hc hs eL_law_1114 (big_in (List.mem_of_getElem? (i := 889) (by decide +kernel)) rfl) (big_in (List.mem_of_getElem? (i := 891) (by decide +kernel)) rfl) (big_in (List.mem_of_getElem? (i := 0) (by decide +kernel)) rfl) (big_in (List.mem_of_getElem? (i := 890) (by decide +kernel)) rfl) (by decide) (by decide +kernel) (by decide) (by decide) rfl (by decide) (o_element hI (fun k w1 hP => ?_))
  refine zr_istore hE1 eL_law_1117 (by decide) rfl ?_
  refine zr_aload_n hE1 eL_law_1119 rfl ?_
  refine hW.arg (a := 1) (by omega) (by omega) hL hL2 eL_law_1120 eL_law_1121 eL_law_1123 eL_law_1124 eL_law_1125 (by decide) (by decide) rfl rfl ?_
  refine hW.arg (a := 2) (by omega) (by omega) hL hL2 eL_law_1126 eL_law_1127 eL_law_1129 eL_law_1130 eL_law_1131 (by decide) (by decide) rfl rfl ?_
  refine zr_callV2 hE1 eL_law_1132 lL_143 zs57 rfl rfl (by decide) (Nat.le_of_ble_eq_true rfl) (hP _ (fun b w2 hI2 h10 hb => ?_))
  refine zr_lstore hE1 eL_law_1135 (by decide) rfl (fun u h => by simp at h) ?_
  refine zr_aload_n hE1 eL_law_1137 rfl ?_
  refine zr_callV0 hE1 eL_law_1138 lL_144 zs57 rfl rfl (by decide) (Nat.le_of_ble_eq_true rfl) (c_X12_thrown ?_)
  refine zr_iload hE1 eL_law_1141 rfl ?_
  refine zr_icmp_eq hE1 eL_law_1143 (tgt := 1148) (by decide) (fun _ => ?_) (fun q => absurd h10 q)
  have fin : Gc (ce + 1) (sl + 6) 1164 [some (.ref 72), some (.ref 0), some (.ref 57), some (.ref 71), some (.int (nI (6 * j))), some (.int k), some (.long b.toInt64), none] [] w2 := by
    refine zr_goto hE1 eL_law_1164 (tgt := 1290) (by decide) ?_
    refine zr_mask hE1 [true, true, true, true, true, false, false, false] ?_
    exact kb w2 hI2
  refine zr_iload hE1 eL_law_1148 rfl ?_
  refine zr_if_ne hE1 eL_law_1150 (tgt := 1164) (by decide) (fun _ => fin) (fun q => ?_)
  refine zr_aload_n hE1 eL_law_1153 rfl ?_
  refine zr_iconst hE1 eL_law_1154 (v := 0) (by decide) ?_
  refine zr_lald hE1 (o := 71) (N := 1) eL_law_1155 rfl (by unfold vp_in; decide) ?_
  refine zr_lload hE1 eL_law_1156 rfl ?_
  refine zr_lcmp hE1 eL_law_1158 ?_
  refine zr_if_eq hE1 eL_law_1159 (tgt := 1164) (by decide) (fun _ => fin) (fun z => absurd ?_ z)
  rw [hb q]
  exact cmp_self _
set_option maxHeartbeats 1000000 in
theorem lc_copy (hW : yLW len xs Gc) (hc : ce + 1 ≤ 601024) (hs : sl + 6 ≤ 7293034) (hL : 6 * j + 6 ≤ len) (hL2 : len ≤ 3072) (hI : Inv w) (kb : ∀ w2, Inv w2 → Gc (ce + 1) (sl + 6) 1290 (Lj j) [] w2) : Gc ce sl 1167 (Lj j) [] w := by
  have hE := hW.zE (ce := ce) (sl := sl) (by omega) (by omega)
  have hE1 := hW.zE (ce := ce + 1) (sl := sl + 6) (by omega) (by omega)
  refine zr_aload_n hE eL_law_1167 rfl ?_
  refine hW.arg (a := 1) (by omega) (by omega) hL hL2 eL_law_1168 eL_law_1169 eL_law_1171 eL_law_1172 eL_law_1173 (by decide) (by decide) rfl rfl ?_
  refine hW.arg (a := 2) (by omega) (by omega) hL hL2 eL_law_1174 eL_law_1175 eL_law_1177 eL_law_1178 eL_law_1179 (by decide) (by decide) rfl rfl ?_
  refine hW.arg (a := 3) (by omega) (by omega) hL hL2 eL_law_1180 eL_law_1181 eL_law_1183 eL_law_1184 eL_law_1185 (by decide) (by decide) rfl rfl ?_
  refine hW.arg (a := 4) (by omega) (by omega) hL hL2 eL_law_1186 eL_law_1187 eL_law_1189 eL_law_1190 eL_law_1191 (by decide) (by decide) rfl rfl ?_
  refine hW.arg (a := 5) (by omega) (by omega) hL hL2 eL_law_1192 eL_law_1193 eL_law_1195 eL_law_1196 eL_law_1197 (by decide) (by decide) rfl rfl ?_
  refine zr_callV5 hE eL_law_1198 lL_147 zs0 rfl rfl (by decide) (Nat.le_of_ble_eq_true rfl) (o_copy hI (fun v w1 hP => ?_))
  refine zr_aload_n hE eL_law_1201 rfl ?_
  refine hW.arg (a := 1) (by omega) (by omega) hL hL2 eL_law_1202 eL_law_1203 eL_law_1205 eL_law_1206 eL_law_1207 (by decide) (by decide) rfl rfl ?_
  refine hW.arg (a := 2) (by omega) (by omega) hL hL2 eL_law_1208 eL_law_1209 eL_law_1211 eL_law_1212 eL_law_1213 (by decide) (by decide) rfl rfl ?_
  refine hW.arg (a := 3) (by omega) (by omega) hL hL2 eL_law_1214 eL_law_1215 eL_law_1217 eL_law_1218 eL_law_1219 (by decide) (by decide) rfl rfl ?_
  refine hW.arg (a := 4) (by omega) (by omega) hL hL2 eL_law_1220 eL_law_1221 eL_law_1223 eL_law_1224 eL_law_1225 (by decide) (by decide) rfl rfl ?_
  refine hW.arg (a := 5) (by omega) (by omega) hL hL2 eL_law_1226 eL_law_1227 eL_law_1229 eL_law_1230 eL_law_1231 (by decide) (by decide) rfl rfl ?_
  refine zr_callV5 hE eL_law_1232 lL_151 zs57 rfl rfl (by decide) (Nat.le_of_ble_eq_true rfl) (hP _ (fun w2 hI2 => ?_))
  exact zr_icmp_eq hE eL_law_1235 (tgt := 1290) (by decide) (fun _ => hW.widen (Nat.le_succ _) (Nat.le_add_right _ _) (kb w2 hI2)) (fun q => absurd rfl q)
set_option maxHeartbeats 1000000 in
theorem lc_price (hW : yLW len xs Gc) (hc : ce + 1 ≤ 601024) (hs : sl + 6 ≤ 7293034) (hL : 6 * j + 6 ≤ len) (hL2 : len ≤ 3072) (hI : Inv w) (kb : ∀ w2, Inv w2 → Gc (ce + 1) (sl + 6) 1290 (Lj j) [] w2) : Gc ce sl 1240 (Lj j) [] w := by
  have hE := hW.zE (ce := ce) (sl := sl) (by omega) (by omega)
  have hE1 := hW.zE (ce := ce + 1) (sl := sl + 6) (by omega) (by omega)
  refine zr_aload_n hE eL_law_1240 rfl ?_
  refine hW.arg (a := 1) (by omega) (by omega) hL hL2 eL_law_1241 eL_law_1242 eL_law_1244 eL_law_1245 eL_law_1246 (by decide) (by decide) rfl rfl ?_
  refine zr_callV1 hE eL_law_1247 lL_152 zs0 rfl rfl (by decide) (Nat.le_of_ble_eq_true rfl) (o_price hI (fun v w1 hP => ?_))
  refine zr_aload_n hE eL_law_1250 rfl ?_
  refine hW.arg (a := 1) (by omega) (by omega) hL hL2 eL_law_1251 eL_law_1252 eL_law_1254 eL_law_1255 eL_law_1256 (by decide) (by decide) rfl rfl ?_
  refine zr_callV1 hE eL_law_1257 lL_155 zs57 rfl rfl (by decide) (Nat.le_of_ble_eq_true rfl) (hP _ (fun w2 hI2 => ?_))
  exact zr_icmp_eq hE eL_law_1260 (tgt := 1290) (by decide) (fun _ => hW.widen (Nat.le_succ _) (Nat.le_add_right _ _) (kb w2 hI2)) (fun q => absurd rfl q)
set_option maxHeartbeats 1000000 in
theorem lc_toss (hW : yLW len xs Gc) (hc : ce + 1 ≤ 601024) (hs : sl + 6 ≤ 7293034) (hL : 6 * j + 6 ≤ len) (hL2 : len ≤ 3072) (hI : Inv w) (kb : ∀ w2, Inv w2 → Gc (ce + 1) (sl + 6) 1290 (Lj j) [] w2) : Gc ce sl 1265 (Lj j) [] w := by
  have hE := hW.zE (ce := ce) (sl := sl) (by omega) (by omega)
  have hE1 := hW.zE (ce := ce + 1) (sl := sl + 6) (by omega) (by omega)
  refine zr_aload_n hE eL_law_1265 rfl ?_
  refine hW.arg (a := 1) (by omega) (by omega) hL hL2 eL_law_1266 eL_law_1267 eL_law_1269 eL_law_1270 eL_law_1271 (by decide) (by decide) rfl rfl ?_
  refine hW.callV (j := 1) (M := mX11_toss) (hh := tossT) (o := 0) (q := vwCl[11]) (As := [.int (xs (6 * j + 1))]) (S := []) hc hs eL_law_1272 (big_in (List.mem_of_getElem? (i := 764) (by decide +kernel)) rfl) (big_in (List.mem_of_getElem? (i := 767) (by decide +kernel)) rfl) (ikRX11) (big_in (List.mem_of_getElem? (i := 765) (by decide +kernel)) rfl) (big_in (List.mem_of_getElem? (i := 766) (by decide +kernel)) rfl) (by decide) (by decide +kernel) (by decide) zs0 rfl rfl (by decide) rfl (by decide) (o_toss hI (fun v w1 hP => ?_))
  refine zr_aload_n hE1 eL_law_1275 rfl ?_
  refine hW.arg (a := 1) (by omega) (by omega) hL hL2 eL_law_1276 eL_law_1277 eL_law_1279 eL_law_1280 eL_law_1281 (by decide) (by decide) rfl rfl ?_
  refine zr_callV1 hE1 eL_law_1282 lL_159 zs57 rfl rfl (by decide) (Nat.le_of_ble_eq_true rfl) (hP _ (fun w2 hI2 => ?_))
  exact zr_icmp_eq hE1 eL_law_1285 (tgt := 1290) (by decide) (fun _ => kb w2 hI2) (fun q => absurd rfl q)
end LawCases
