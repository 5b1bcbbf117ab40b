/-! ===== the cases of the law ===== -/
section CASES
variable {l : Launch} {nm : String} {b Ls i : Nat} {xs : Nat → Int32} {I : MI} {L : ML} {R : MR}
theorem w_0 (h : RLx I L R) (hi : i + 4 ≤ Ls) (hL : Ls ≤ 2048) (kk : ∀ I' L' R', RLx I' L' R' → VL l nm b Ls xs 1173 (LV b i) [] I' L' R' 287 287 6775) : VL l nm b Ls xs 180 (LV b i) [] I L R 287 287 6775 := by
  obtain ⟨ta, I1, I2, L1, L2, R1, h7, h8, hr⟩ := s_setFilters (l := l) (a := xs (i + 1)) (b := xs (i + 2)) h
  refine v_aload_n (pc' := 181) dL_law_180 rfl rfl ?_
  refine v_scr (j := 1) (pc' := 186) dL_law_181 dL_law_182 dL_law_183 dL_law_184 dL_law_185 rfl (by decide) (by omega) (by omega) ?_
  refine v_scr (j := 2) (pc' := 191) dL_law_186 dL_law_187 dL_law_188 dL_law_189 dL_law_190 rfl (by decide) (by omega) (by omega) ?_
  refine v_callV (pc' := 194) dL_law_191 rfl cv_L_13 h7 kp_D rfl rfl (Nat.le_of_ble_eq_true rfl) rfl (Or.inl rfl) ?_
  refine v_aload_n (pc' := 195) dL_law_194 rfl rfl ?_
  refine v_scr (j := 1) (pc' := 200) dL_law_195 dL_law_196 dL_law_197 dL_law_198 dL_law_199 rfl (by decide) (by omega) (by omega) ?_
  refine v_scr (j := 2) (pc' := 205) dL_law_200 dL_law_201 dL_law_202 dL_law_203 dL_law_204 rfl (by decide) (by omega) (by omega) ?_
  refine v_callV (pc' := 208) dL_law_205 rfl cv_L_17 h8 kp_M rfl rfl (Nat.le_of_ble_eq_true rfl) rfl (Or.inl rfl) ?_
  exact v_icmp_eq (pc' := 211) (tgt := 1173) dL_law_208 rfl (by decide) (fun _ => kk _ _ _ hr) (fun hb => absurd rfl hb)
theorem w_1 (h : RLx I L R) (hi : i + 4 ≤ Ls) (hL : Ls ≤ 2048) (kk : ∀ I' L' R', RLx I' L' R' → VL l nm b Ls xs 1173 (LV b i) [] I' L' R' 287 287 6775) : VL l nm b Ls xs 213 (LV b i) [] I L R 287 287 6775 := by
  obtain ⟨ta, I1, I2, L1, L2, R1, h7, h8, hr⟩ := s_setCapacity (l := l) (a := xs (i + 1)) (b := xs (i + 2)) h
  refine v_aload_n (pc' := 214) dL_law_213 rfl rfl ?_
  refine v_scr (j := 1) (pc' := 219) dL_law_214 dL_law_215 dL_law_216 dL_law_217 dL_law_218 rfl (by decide) (by omega) (by omega) ?_
  refine v_scr (j := 2) (pc' := 224) dL_law_219 dL_law_220 dL_law_221 dL_law_222 dL_law_223 rfl (by decide) (by omega) (by omega) ?_
  refine v_callV (pc' := 227) dL_law_224 rfl cv_L_18 h7 kp_D rfl rfl (Nat.le_of_ble_eq_true rfl) rfl (Or.inl rfl) ?_
  refine v_aload_n (pc' := 228) dL_law_227 rfl rfl ?_
  refine v_scr (j := 1) (pc' := 233) dL_law_228 dL_law_229 dL_law_230 dL_law_231 dL_law_232 rfl (by decide) (by omega) (by omega) ?_
  refine v_scr (j := 2) (pc' := 238) dL_law_233 dL_law_234 dL_law_235 dL_law_236 dL_law_237 rfl (by decide) (by omega) (by omega) ?_
  refine v_callV (pc' := 241) dL_law_238 rfl cv_L_21 h8 kp_M rfl rfl (Nat.le_of_ble_eq_true rfl) rfl (Or.inl rfl) ?_
  exact v_icmp_eq (pc' := 244) (tgt := 1173) dL_law_241 rfl (by decide) (fun _ => kk _ _ _ hr) (fun hb => absurd rfl hb)
theorem w_2 (h : RLx I L R) (hi : i + 4 ≤ Ls) (hL : Ls ≤ 2048) (kk : ∀ I' L' R', RLx I' L' R' → VL l nm b Ls xs 1173 (LV b i) [] I' L' R' 287 287 6775) : VL l nm b Ls xs 246 (LV b i) [] I L R 287 287 6775 := by
  obtain ⟨ta, I1, I2, L1, L2, R1, h7, h8, hr⟩ := s_setLink (l := l) (a := xs (i + 1)) (b := xs (i + 2)) (u := bz (xs (i + 3))) h
  refine v_aload_n (pc' := 247) dL_law_246 rfl rfl ?_
  refine v_scr (j := 1) (pc' := 252) dL_law_247 dL_law_248 dL_law_249 dL_law_250 dL_law_251 rfl (by decide) (by omega) (by omega) ?_
  refine v_scr (j := 2) (pc' := 257) dL_law_252 dL_law_253 dL_law_254 dL_law_255 dL_law_256 rfl (by decide) (by omega) (by omega) ?_
  refine v_scr (j := 3) (pc' := 262) dL_law_257 dL_law_258 dL_law_259 dL_law_260 dL_law_261 rfl (by decide) (by omega) (by omega) ?_
  refine v_bz (pc' := 270) dL_law_262 dL_law_265 dL_law_266 dL_law_269 rfl ?_
  refine v_callV (pc' := 273) dL_law_270 rfl cv_L_22 h7 kp_D rfl rfl (Nat.le_of_ble_eq_true rfl) rfl (Or.inl rfl) ?_
  refine v_aload_n (pc' := 274) dL_law_273 rfl rfl ?_
  refine v_scr (j := 1) (pc' := 279) dL_law_274 dL_law_275 dL_law_276 dL_law_277 dL_law_278 rfl (by decide) (by omega) (by omega) ?_
  refine v_scr (j := 2) (pc' := 284) dL_law_279 dL_law_280 dL_law_281 dL_law_282 dL_law_283 rfl (by decide) (by omega) (by omega) ?_
  refine v_scr (j := 3) (pc' := 289) dL_law_284 dL_law_285 dL_law_286 dL_law_287 dL_law_288 rfl (by decide) (by omega) (by omega) ?_
  refine v_bz (pc' := 297) dL_law_289 dL_law_292 dL_law_293 dL_law_296 rfl ?_
  refine v_callV (pc' := 300) dL_law_297 rfl cv_L_26 h8 kp_M rfl rfl (Nat.le_of_ble_eq_true rfl) rfl (Or.inl rfl) ?_
  exact v_icmp_eq (pc' := 303) (tgt := 1173) dL_law_300 rfl (by decide) (fun _ => kk _ _ _ hr) (fun hb => absurd rfl hb)
theorem w_3 (h : RLx I L R) (hi : i + 4 ≤ Ls) (hL : Ls ≤ 2048) (kk : ∀ I' L' R', RLx I' L' R' → VL l nm b Ls xs 1173 (LV b i) [] I' L' R' 287 287 6775) : VL l nm b Ls xs 305 (LV b i) [] I L R 287 287 6775 := by
  obtain ⟨ta, I1, I2, L1, L2, R1, h7, h8, hr⟩ := s_setDistance (l := l) (a := xs (i + 1)) (b := xs (i + 2)) (u := xs (i + 3)) h
  refine v_aload_n (pc' := 306) dL_law_305 rfl rfl ?_
  refine v_scr (j := 1) (pc' := 311) dL_law_306 dL_law_307 dL_law_308 dL_law_309 dL_law_310 rfl (by decide) (by omega) (by omega) ?_
  refine v_scr (j := 2) (pc' := 316) dL_law_311 dL_law_312 dL_law_313 dL_law_314 dL_law_315 rfl (by decide) (by omega) (by omega) ?_
  refine v_scr (j := 3) (pc' := 321) dL_law_316 dL_law_317 dL_law_318 dL_law_319 dL_law_320 rfl (by decide) (by omega) (by omega) ?_
  refine v_callV (pc' := 324) dL_law_321 rfl cv_L_27 h7 kp_D rfl rfl (Nat.le_of_ble_eq_true rfl) rfl (Or.inl rfl) ?_
  refine v_aload_n (pc' := 325) dL_law_324 rfl rfl ?_
  refine v_scr (j := 1) (pc' := 330) dL_law_325 dL_law_326 dL_law_327 dL_law_328 dL_law_329 rfl (by decide) (by omega) (by omega) ?_
  refine v_scr (j := 2) (pc' := 335) dL_law_330 dL_law_331 dL_law_332 dL_law_333 dL_law_334 rfl (by decide) (by omega) (by omega) ?_
  refine v_scr (j := 3) (pc' := 340) dL_law_335 dL_law_336 dL_law_337 dL_law_338 dL_law_339 rfl (by decide) (by omega) (by omega) ?_
  refine v_callV (pc' := 343) dL_law_340 rfl cv_L_31 h8 kp_M rfl rfl (Nat.le_of_ble_eq_true rfl) rfl (Or.inl rfl) ?_
  exact v_icmp_eq (pc' := 346) (tgt := 1173) dL_law_343 rfl (by decide) (fun _ => kk _ _ _ hr) (fun hb => absurd rfl hb)
theorem w_4 (h : RLx I L R) (hi : i + 4 ≤ Ls) (hL : Ls ≤ 2048) (kk : ∀ I' L' R', RLx I' L' R' → VL l nm b Ls xs 1173 (LV b i) [] I' L' R' 287 287 6775) : VL l nm b Ls xs 348 (LV b i) [] I L R 287 287 6775 := by
  obtain ⟨ta, I1, I2, L1, L2, R1, h7, h8, hr⟩ := s_setRules (l := l) (a := xs (i + 1)) (b := bz (xs (i + 2))) (u := xs (i + 3)) h (bz_or _)
  refine v_aload_n (pc' := 349) dL_law_348 rfl rfl ?_
  refine v_scr (j := 1) (pc' := 354) dL_law_349 dL_law_350 dL_law_351 dL_law_352 dL_law_353 rfl (by decide) (by omega) (by omega) ?_
  refine v_scr (j := 2) (pc' := 359) dL_law_354 dL_law_355 dL_law_356 dL_law_357 dL_law_358 rfl (by decide) (by omega) (by omega) ?_
  refine v_bz (pc' := 367) dL_law_359 dL_law_362 dL_law_363 dL_law_366 rfl ?_
  refine v_scr (j := 3) (pc' := 372) dL_law_367 dL_law_368 dL_law_369 dL_law_370 dL_law_371 rfl (by decide) (by omega) (by omega) ?_
  refine v_callV (pc' := 375) dL_law_372 rfl cv_L_32 h7 kp_D rfl rfl (Nat.le_of_ble_eq_true rfl) rfl (Or.inl rfl) ?_
  refine v_aload_n (pc' := 376) dL_law_375 rfl rfl ?_
  refine v_scr (j := 1) (pc' := 381) dL_law_376 dL_law_377 dL_law_378 dL_law_379 dL_law_380 rfl (by decide) (by omega) (by omega) ?_
  refine v_scr (j := 2) (pc' := 386) dL_law_381 dL_law_382 dL_law_383 dL_law_384 dL_law_385 rfl (by decide) (by omega) (by omega) ?_
  refine v_bz (pc' := 394) dL_law_386 dL_law_389 dL_law_390 dL_law_393 rfl ?_
  refine v_scr (j := 3) (pc' := 399) dL_law_394 dL_law_395 dL_law_396 dL_law_397 dL_law_398 rfl (by decide) (by omega) (by omega) ?_
  refine v_callV (pc' := 402) dL_law_399 rfl cv_L_36 h8 kp_M rfl rfl (Nat.le_of_ble_eq_true rfl) rfl (Or.inl rfl) ?_
  exact v_icmp_eq (pc' := 405) (tgt := 1173) dL_law_402 rfl (by decide) (fun _ => kk _ _ _ hr) (fun hb => absurd rfl hb)
theorem w_5 (h : RLx I L R) (hi : i + 4 ≤ Ls) (hL : Ls ≤ 2048) (kk : ∀ I' L' R', RLx I' L' R' → VL l nm b Ls xs 1173 (LV b i) [] I' L' R' 287 287 6775) : VL l nm b Ls xs 407 (LV b i) [] I L R 287 287 6775 := by
  obtain ⟨ta, I1, I2, L1, L2, R1, h7, h8, hr⟩ := s_pass (l := l) (a := xs (i + 1)) h
  refine v_aload_n (pc' := 408) dL_law_407 rfl rfl ?_
  refine v_scr (j := 1) (pc' := 413) dL_law_408 dL_law_409 dL_law_410 dL_law_411 dL_law_412 rfl (by decide) (by omega) (by omega) ?_
  refine v_callV (pc' := 416) dL_law_413 rfl cv_L_37 h7 kp_D rfl rfl (Nat.le_of_ble_eq_true rfl) rfl (Or.inl rfl) ?_
  refine v_aload_n (pc' := 417) dL_law_416 rfl rfl ?_
  refine v_scr (j := 1) (pc' := 422) dL_law_417 dL_law_418 dL_law_419 dL_law_420 dL_law_421 rfl (by decide) (by omega) (by omega) ?_
  refine v_callV (pc' := 425) dL_law_422 rfl cv_L_41 h8 kp_M rfl rfl (Nat.le_of_ble_eq_true rfl) rfl (Or.inl rfl) ?_
  exact v_icmp_eq (pc' := 428) (tgt := 1173) dL_law_425 rfl (by decide) (fun _ => kk _ _ _ hr) (fun hb => absurd rfl hb)
theorem w_6 (h : RLx I L R) (hi : i + 4 ≤ Ls) (hL : Ls ≤ 2048) (kk : ∀ I' L' R', RLx I' L' R' → VL l nm b Ls xs 1173 (LV b i) [] I' L' R' 287 287 6775) : VL l nm b Ls xs 430 (LV b i) [] I L R 287 287 6775 := by
  obtain ⟨ta, I1, I2, L1, L2, R1, h7, h8, hr⟩ := s_store (l := l) (a := xs (i + 1)) (b := xs (i + 2)) h
  refine v_aload_n (pc' := 431) dL_law_430 rfl rfl ?_
  refine v_scr (j := 1) (pc' := 436) dL_law_431 dL_law_432 dL_law_433 dL_law_434 dL_law_435 rfl (by decide) (by omega) (by omega) ?_
  refine v_scr (j := 2) (pc' := 441) dL_law_436 dL_law_437 dL_law_438 dL_law_439 dL_law_440 rfl (by decide) (by omega) (by omega) ?_
  refine v_callV (pc' := 444) dL_law_441 rfl cv_L_42 h7 kp_D rfl rfl (Nat.le_of_ble_eq_true rfl) rfl (Or.inl rfl) ?_
  refine v_aload_n (pc' := 445) dL_law_444 rfl rfl ?_
  refine v_scr (j := 1) (pc' := 450) dL_law_445 dL_law_446 dL_law_447 dL_law_448 dL_law_449 rfl (by decide) (by omega) (by omega) ?_
  refine v_scr (j := 2) (pc' := 455) dL_law_450 dL_law_451 dL_law_452 dL_law_453 dL_law_454 rfl (by decide) (by omega) (by omega) ?_
  refine v_callV (pc' := 458) dL_law_455 rfl cv_L_45 h8 kp_M rfl rfl (Nat.le_of_ble_eq_true rfl) rfl (Or.inl rfl) ?_
  exact v_icmp_eq (pc' := 461) (tgt := 1173) dL_law_458 rfl (by decide) (fun _ => kk _ _ _ hr) (fun hb => absurd rfl hb)
theorem w_7 (h : RLx I L R) (hi : i + 4 ≤ Ls) (hL : Ls ≤ 2048) (kk : ∀ I' L' R', RLx I' L' R' → VL l nm b Ls xs 1173 (LV b i) [] I' L' R' 287 287 6775) : VL l nm b Ls xs 463 (LV b i) [] I L R 287 287 6775 := by
  obtain ⟨ta, I1, I2, L1, L2, R1, h7, h8, hr⟩ := s_drop (l := l) (a := xs (i + 1)) (b := xs (i + 2)) h
  refine v_aload_n (pc' := 464) dL_law_463 rfl rfl ?_
  refine v_scr (j := 1) (pc' := 469) dL_law_464 dL_law_465 dL_law_466 dL_law_467 dL_law_468 rfl (by decide) (by omega) (by omega) ?_
  refine v_scr (j := 2) (pc' := 474) dL_law_469 dL_law_470 dL_law_471 dL_law_472 dL_law_473 rfl (by decide) (by omega) (by omega) ?_
  refine v_callV (pc' := 477) dL_law_474 rfl cv_L_46 h7 kp_D rfl rfl (Nat.le_of_ble_eq_true rfl) rfl (Or.inl rfl) ?_
  refine v_aload_n (pc' := 478) dL_law_477 rfl rfl ?_
  refine v_scr (j := 1) (pc' := 483) dL_law_478 dL_law_479 dL_law_480 dL_law_481 dL_law_482 rfl (by decide) (by omega) (by omega) ?_
  refine v_scr (j := 2) (pc' := 488) dL_law_483 dL_law_484 dL_law_485 dL_law_486 dL_law_487 rfl (by decide) (by omega) (by omega) ?_
  refine v_callV (pc' := 491) dL_law_488 rfl cv_L_49 h8 kp_M rfl rfl (Nat.le_of_ble_eq_true rfl) rfl (Or.inl rfl) ?_
  exact v_icmp_eq (pc' := 494) (tgt := 1173) dL_law_491 rfl (by decide) (fun _ => kk _ _ _ hr) (fun hb => absurd rfl hb)
theorem w_8 (h : RLx I L R) (hi : i + 4 ≤ Ls) (hL : Ls ≤ 2048) (kk : ∀ I' L' R', RLx I' L' R' → VL l nm b Ls xs 1173 (LV b i) [] I' L' R' 287 287 6775) : VL l nm b Ls xs 496 (LV b i) [] I L R 287 287 6775 := by
  obtain ⟨ta, I1, I2, L1, L2, R1, h7, h8, hr⟩ := s_rebuild (l := l) (a := xs (i + 1)) h
  refine v_aload_n (pc' := 497) dL_law_496 rfl rfl ?_
  refine v_scr (j := 1) (pc' := 502) dL_law_497 dL_law_498 dL_law_499 dL_law_500 dL_law_501 rfl (by decide) (by omega) (by omega) ?_
  refine v_callV (pc' := 505) dL_law_502 rfl cv_L_50 h7 kp_D rfl rfl (Nat.le_of_ble_eq_true rfl) rfl (Or.inl rfl) ?_
  refine v_aload_n (pc' := 506) dL_law_505 rfl rfl ?_
  refine v_scr (j := 1) (pc' := 511) dL_law_506 dL_law_507 dL_law_508 dL_law_509 dL_law_510 rfl (by decide) (by omega) (by omega) ?_
  refine v_callV (pc' := 514) dL_law_511 rfl cv_L_53 h8 kp_M rfl rfl (Nat.le_of_ble_eq_true rfl) rfl (Or.inl rfl) ?_
  exact v_icmp_eq (pc' := 517) (tgt := 1173) dL_law_514 rfl (by decide) (fun _ => kk _ _ _ hr) (fun hb => absurd rfl hb)
theorem w_9 (h : RLx I L R) (hi : i + 4 ≤ Ls) (hL : Ls ≤ 2048) (kk : ∀ I' L' R', RLx I' L' R' → VL l nm b Ls xs 1173 (LV b i) [] I' L' R' 287 287 6775) : VL l nm b Ls xs 519 (LV b i) [] I L R 287 287 6775 := by
  obtain ⟨ta, I1, I2, L1, L2, R1, h7, h8, hr⟩ := s_size (l := l) (a := xs (i + 1)) h
  refine v_aload_n (pc' := 520) dL_law_519 rfl rfl ?_
  refine v_scr (j := 1) (pc' := 525) dL_law_520 dL_law_521 dL_law_522 dL_law_523 dL_law_524 rfl (by decide) (by omega) (by omega) ?_
  refine v_callV (pc' := 528) dL_law_525 rfl cv_L_54 h7 kp_D rfl rfl (Nat.le_of_ble_eq_true rfl) rfl (Or.inl rfl) ?_
  refine v_aload_n (pc' := 529) dL_law_528 rfl rfl ?_
  refine v_scr (j := 1) (pc' := 534) dL_law_529 dL_law_530 dL_law_531 dL_law_532 dL_law_533 rfl (by decide) (by omega) (by omega) ?_
  refine v_callV (pc' := 537) dL_law_534 rfl cv_L_57 h8 kp_M rfl rfl (Nat.le_of_ble_eq_true rfl) rfl (Or.inl rfl) ?_
  exact v_icmp_eq (pc' := 540) (tgt := 1173) dL_law_537 rfl (by decide) (fun _ => kk _ _ _ hr) (fun hb => absurd rfl hb)
theorem w_10 (h : RLx I L R) (hi : i + 4 ≤ Ls) (hL : Ls ≤ 2048) (kk : ∀ I' L' R', RLx I' L' R' → VL l nm b Ls xs 1173 (LV b i) [] I' L' R' 287 287 6775) : VL l nm b Ls xs 542 (LV b i) [] I L R 287 287 6775 := by
  obtain ⟨ta, I1, I2, L1, L2, R1, h7, h8, hr⟩ := s_held (l := l) (a := xs (i + 1)) (b := xs (i + 2)) h
  refine v_aload_n (pc' := 543) dL_law_542 rfl rfl ?_
  refine v_scr (j := 1) (pc' := 548) dL_law_543 dL_law_544 dL_law_545 dL_law_546 dL_law_547 rfl (by decide) (by omega) (by omega) ?_
  refine v_scr (j := 2) (pc' := 553) dL_law_548 dL_law_549 dL_law_550 dL_law_551 dL_law_552 rfl (by decide) (by omega) (by omega) ?_
  refine v_callV (pc' := 556) dL_law_553 rfl cv_L_58 h7 kp_D rfl rfl (Nat.le_of_ble_eq_true rfl) rfl (Or.inl rfl) ?_
  refine v_aload_n (pc' := 557) dL_law_556 rfl rfl ?_
  refine v_scr (j := 1) (pc' := 562) dL_law_557 dL_law_558 dL_law_559 dL_law_560 dL_law_561 rfl (by decide) (by omega) (by omega) ?_
  refine v_scr (j := 2) (pc' := 567) dL_law_562 dL_law_563 dL_law_564 dL_law_565 dL_law_566 rfl (by decide) (by omega) (by omega) ?_
  refine v_callV (pc' := 570) dL_law_567 rfl cv_L_61 h8 kp_M rfl rfl (Nat.le_of_ble_eq_true rfl) rfl (Or.inl rfl) ?_
  exact v_icmp_eq (pc' := 573) (tgt := 1173) dL_law_570 rfl (by decide) (fun _ => kk _ _ _ hr) (fun hb => absurd rfl hb)
theorem w_11 (h : RLx I L R) (hi : i + 4 ≤ Ls) (hL : Ls ≤ 2048) (kk : ∀ I' L' R', RLx I' L' R' → VL l nm b Ls xs 1173 (LV b i) [] I' L' R' 287 287 6775) : VL l nm b Ls xs 575 (LV b i) [] I L R 287 287 6775 := by
  obtain ⟨ta, I1, I2, L1, L2, R1, h7, h8, hr⟩ := s_holds (l := l) (a := xs (i + 1)) (b := xs (i + 2)) h
  refine v_aload_n (pc' := 576) dL_law_575 rfl rfl ?_
  refine v_scr (j := 1) (pc' := 581) dL_law_576 dL_law_577 dL_law_578 dL_law_579 dL_law_580 rfl (by decide) (by omega) (by omega) ?_
  refine v_scr (j := 2) (pc' := 586) dL_law_581 dL_law_582 dL_law_583 dL_law_584 dL_law_585 rfl (by decide) (by omega) (by omega) ?_
  refine v_callV (pc' := 589) dL_law_586 rfl cv_L_62 h7 kp_D rfl rfl (Nat.le_of_ble_eq_true rfl) rfl (Or.inl rfl) ?_
  refine v_aload_n (pc' := 590) dL_law_589 rfl rfl ?_
  refine v_scr (j := 1) (pc' := 595) dL_law_590 dL_law_591 dL_law_592 dL_law_593 dL_law_594 rfl (by decide) (by omega) (by omega) ?_
  refine v_scr (j := 2) (pc' := 600) dL_law_595 dL_law_596 dL_law_597 dL_law_598 dL_law_599 rfl (by decide) (by omega) (by omega) ?_
  refine v_callV (pc' := 603) dL_law_600 rfl cv_L_65 h8 kp_M rfl rfl (Nat.le_of_ble_eq_true rfl) rfl (Or.inl rfl) ?_
  exact v_icmp_eq (pc' := 606) (tgt := 1173) dL_law_603 rfl (by decide) (fun _ => kk _ _ _ hr) (fun hb => absurd rfl hb)
theorem w_12 (h : RLx I L R) (hi : i + 4 ≤ Ls) (hL : Ls ≤ 2048) (kk : ∀ I' L' R', RLx I' L' R' → VL l nm b Ls xs 1173 (LV b i) [] I' L' R' 287 287 6775) : VL l nm b Ls xs 608 (LV b i) [] I L R 287 287 6775 := by
  obtain ⟨ta, I1, I2, L1, L2, R1, h7, h8, hr⟩ := s_counter (l := l) (a := xs (i + 1)) (b := xs (i + 2)) h
  refine v_aload_n (pc' := 609) dL_law_608 rfl rfl ?_
  refine v_scr (j := 1) (pc' := 614) dL_law_609 dL_law_610 dL_law_611 dL_law_612 dL_law_613 rfl (by decide) (by omega) (by omega) ?_
  refine v_scr (j := 2) (pc' := 619) dL_law_614 dL_law_615 dL_law_616 dL_law_617 dL_law_618 rfl (by decide) (by omega) (by omega) ?_
  refine v_callV (pc' := 622) dL_law_619 rfl cv_L_66 h7 kp_D rfl rfl (Nat.le_of_ble_eq_true rfl) rfl (Or.inl rfl) ?_
  refine v_aload_n (pc' := 623) dL_law_622 rfl rfl ?_
  refine v_scr (j := 1) (pc' := 628) dL_law_623 dL_law_624 dL_law_625 dL_law_626 dL_law_627 rfl (by decide) (by omega) (by omega) ?_
  refine v_scr (j := 2) (pc' := 633) dL_law_628 dL_law_629 dL_law_630 dL_law_631 dL_law_632 rfl (by decide) (by omega) (by omega) ?_
  refine v_callV (pc' := 636) dL_law_633 rfl cv_L_69 h8 kp_M rfl rfl (Nat.le_of_ble_eq_true rfl) rfl (Or.inl rfl) ?_
  exact v_icmp_eq (pc' := 639) (tgt := 1173) dL_law_636 rfl (by decide) (fun _ => kk _ _ _ hr) (fun hb => absurd rfl hb)
theorem w_13 (h : RLx I L R) (hi : i + 4 ≤ Ls) (hL : Ls ≤ 2048) (kk : ∀ I' L' R', RLx I' L' R' → VL l nm b Ls xs 1173 (LV b i) [] I' L' R' 287 287 6775) : VL l nm b Ls xs 641 (LV b i) [] I L R 287 287 6775 := by
  obtain ⟨ta, I1, I2, L1, L2, R1, h7, h8, hr⟩ := s_value (l := l) (a := xs (i + 1)) (b := xs (i + 2)) h
  refine v_aload_n (pc' := 642) dL_law_641 rfl rfl ?_
  refine v_scr (j := 1) (pc' := 647) dL_law_642 dL_law_643 dL_law_644 dL_law_645 dL_law_646 rfl (by decide) (by omega) (by omega) ?_
  refine v_scr (j := 2) (pc' := 652) dL_law_647 dL_law_648 dL_law_649 dL_law_650 dL_law_651 rfl (by decide) (by omega) (by omega) ?_
  refine v_callV (pc' := 655) dL_law_652 rfl cv_L_70 h7 kp_D rfl rfl (Nat.le_of_ble_eq_true rfl) rfl (Or.inl rfl) ?_
  refine v_aload_n (pc' := 656) dL_law_655 rfl rfl ?_
  refine v_scr (j := 1) (pc' := 661) dL_law_656 dL_law_657 dL_law_658 dL_law_659 dL_law_660 rfl (by decide) (by omega) (by omega) ?_
  refine v_scr (j := 2) (pc' := 666) dL_law_661 dL_law_662 dL_law_663 dL_law_664 dL_law_665 rfl (by decide) (by omega) (by omega) ?_
  refine v_callV (pc' := 669) dL_law_666 rfl cv_L_73 h8 kp_M rfl rfl (Nat.le_of_ble_eq_true rfl) rfl (Or.inl rfl) ?_
  exact v_icmp_eq (pc' := 672) (tgt := 1173) dL_law_669 rfl (by decide) (fun _ => kk _ _ _ hr) (fun hb => absurd rfl hb)
theorem w_14 (h : RLx I L R) (hi : i + 4 ≤ Ls) (hL : Ls ≤ 2048) (kk : ∀ I' L' R', RLx I' L' R' → VL l nm b Ls xs 1173 (LV b i) [] I' L' R' 287 287 6775) : VL l nm b Ls xs 674 (LV b i) [] I L R 287 287 6775 := by
  obtain ⟨ta, I1, I2, L1, L2, R1, h7, h8, hr⟩ := s_mayHold (l := l) (a := xs (i + 1)) (b := xs (i + 2)) h
  refine v_aload_n (pc' := 675) dL_law_674 rfl rfl ?_
  refine v_scr (j := 1) (pc' := 680) dL_law_675 dL_law_676 dL_law_677 dL_law_678 dL_law_679 rfl (by decide) (by omega) (by omega) ?_
  refine v_scr (j := 2) (pc' := 685) dL_law_680 dL_law_681 dL_law_682 dL_law_683 dL_law_684 rfl (by decide) (by omega) (by omega) ?_
  refine v_callV (pc' := 688) dL_law_685 rfl cv_L_74 h7 kp_D rfl rfl (Nat.le_of_ble_eq_true rfl) rfl (Or.inl rfl) ?_
  refine v_aload_n (pc' := 689) dL_law_688 rfl rfl ?_
  refine v_scr (j := 1) (pc' := 694) dL_law_689 dL_law_690 dL_law_691 dL_law_692 dL_law_693 rfl (by decide) (by omega) (by omega) ?_
  refine v_scr (j := 2) (pc' := 699) dL_law_694 dL_law_695 dL_law_696 dL_law_697 dL_law_698 rfl (by decide) (by omega) (by omega) ?_
  refine v_callV (pc' := 702) dL_law_699 rfl cv_L_77 h8 kp_M rfl rfl (Nat.le_of_ble_eq_true rfl) rfl (Or.inl rfl) ?_
  exact v_icmp_eq (pc' := 705) (tgt := 1173) dL_law_702 rfl (by decide) (fun _ => kk _ _ _ hr) (fun hb => absurd rfl hb)
theorem w_15 (h : RLx I L R) (hi : i + 4 ≤ Ls) (hL : Ls ≤ 2048) (kk : ∀ I' L' R', RLx I' L' R' → VL l nm b Ls xs 1173 (LV b i) [] I' L' R' 287 287 6775) : VL l nm b Ls xs 707 (LV b i) [] I L R 287 287 6775 := by
  obtain ⟨ta, I1, I2, L1, L2, R1, h7, h8, hr⟩ := s_chance (l := l) (a := xs (i + 1)) h
  refine v_aload_n (pc' := 708) dL_law_707 rfl rfl ?_
  refine v_scr (j := 1) (pc' := 713) dL_law_708 dL_law_709 dL_law_710 dL_law_711 dL_law_712 rfl (by decide) (by omega) (by omega) ?_
  refine v_callV (pc' := 716) dL_law_713 rfl cv_L_78 h7 kp_D rfl rfl (Nat.le_of_ble_eq_true rfl) rfl (Or.inl rfl) ?_
  refine v_aload_n (pc' := 717) dL_law_716 rfl rfl ?_
  refine v_scr (j := 1) (pc' := 722) dL_law_717 dL_law_718 dL_law_719 dL_law_720 dL_law_721 rfl (by decide) (by omega) (by omega) ?_
  refine v_callV (pc' := 725) dL_law_722 rfl cv_L_81 h8 kp_M rfl rfl (Nat.le_of_ble_eq_true rfl) rfl (Or.inl rfl) ?_
  exact v_icmp_eq (pc' := 728) (tgt := 1173) dL_law_725 rfl (by decide) (fun _ => kk _ _ _ hr) (fun hb => absurd rfl hb)
theorem w_16 (h : RLx I L R) (hi : i + 4 ≤ Ls) (hL : Ls ≤ 2048) (kk : ∀ I' L' R', RLx I' L' R' → VL l nm b Ls xs 1173 (LV b i) [] I' L' R' 287 287 6775) : VL l nm b Ls xs 730 (LV b i) [] I L R 287 287 6775 := by
  obtain ⟨ta, I1, I2, L1, L2, R1, h7, h8, hr⟩ := s_wrong (l := l) (a := xs (i + 1)) h
  refine v_aload_n (pc' := 731) dL_law_730 rfl rfl ?_
  refine v_scr (j := 1) (pc' := 736) dL_law_731 dL_law_732 dL_law_733 dL_law_734 dL_law_735 rfl (by decide) (by omega) (by omega) ?_
  refine v_callV (pc' := 739) dL_law_736 rfl cv_L_82 h7 kp_D rfl rfl (Nat.le_of_ble_eq_true rfl) rfl (Or.inl rfl) ?_
  refine v_aload_n (pc' := 740) dL_law_739 rfl rfl ?_
  refine v_scr (j := 1) (pc' := 745) dL_law_740 dL_law_741 dL_law_742 dL_law_743 dL_law_744 rfl (by decide) (by omega) (by omega) ?_
  refine v_callV (pc' := 748) dL_law_745 rfl cv_L_85 h8 kp_M rfl rfl (Nat.le_of_ble_eq_true rfl) rfl (Or.inl rfl) ?_
  exact v_icmp_eq (pc' := 751) (tgt := 1173) dL_law_748 rfl (by decide) (fun _ => kk _ _ _ hr) (fun hb => absurd rfl hb)
theorem w_17 (h : RLx I L R) (hi : i + 4 ≤ Ls) (hL : Ls ≤ 2048) (kk : ∀ I' L' R', RLx I' L' R' → VL l nm b Ls xs 1173 (LV b i) [] I' L' R' 287 287 6775) : VL l nm b Ls xs 753 (LV b i) [] I L R 287 287 6775 := by
  obtain ⟨ta, I1, I2, L1, L2, R1, h7, h8, hr⟩ := s_sized (l := l) (a := xs (i + 1)) (b := xs (i + 2)) h
  refine v_aload_n (pc' := 754) dL_law_753 rfl rfl ?_
  refine v_scr (j := 1) (pc' := 759) dL_law_754 dL_law_755 dL_law_756 dL_law_757 dL_law_758 rfl (by decide) (by omega) (by omega) ?_
  refine v_scr (j := 2) (pc' := 764) dL_law_759 dL_law_760 dL_law_761 dL_law_762 dL_law_763 rfl (by decide) (by omega) (by omega) ?_
  refine v_callV (pc' := 767) dL_law_764 rfl cv_L_86 h7 kp_D rfl rfl (Nat.le_of_ble_eq_true rfl) rfl (Or.inl rfl) ?_
  refine v_aload_n (pc' := 768) dL_law_767 rfl rfl ?_
  refine v_scr (j := 1) (pc' := 773) dL_law_768 dL_law_769 dL_law_770 dL_law_771 dL_law_772 rfl (by decide) (by omega) (by omega) ?_
  refine v_scr (j := 2) (pc' := 778) dL_law_773 dL_law_774 dL_law_775 dL_law_776 dL_law_777 rfl (by decide) (by omega) (by omega) ?_
  refine v_callV (pc' := 781) dL_law_778 rfl cv_L_89 h8 kp_M rfl rfl (Nat.le_of_ble_eq_true rfl) rfl (Or.inl rfl) ?_
  exact v_icmp_eq (pc' := 784) (tgt := 1173) dL_law_781 rfl (by decide) (fun _ => kk _ _ _ hr) (fun hb => absurd rfl hb)
theorem w_18 (h : RLx I L R) (hi : i + 4 ≤ Ls) (hL : Ls ≤ 2048) (kk : ∀ I' L' R', RLx I' L' R' → VL l nm b Ls xs 1173 (LV b i) [] I' L' R' 287 287 6775) : VL l nm b Ls xs 786 (LV b i) [] I L R 287 287 6775 := by
  obtain ⟨ta, I1, I2, L1, L2, R1, h7, h8, hr⟩ := s_publish (l := l) (a := xs (i + 1)) h
  refine v_aload_n (pc' := 787) dL_law_786 rfl rfl ?_
  refine v_scr (j := 1) (pc' := 792) dL_law_787 dL_law_788 dL_law_789 dL_law_790 dL_law_791 rfl (by decide) (by omega) (by omega) ?_
  refine v_callV (pc' := 795) dL_law_792 rfl cv_L_90 h7 kp_D rfl rfl (Nat.le_of_ble_eq_true rfl) rfl (Or.inl rfl) ?_
  refine v_aload_n (pc' := 796) dL_law_795 rfl rfl ?_
  refine v_scr (j := 1) (pc' := 801) dL_law_796 dL_law_797 dL_law_798 dL_law_799 dL_law_800 rfl (by decide) (by omega) (by omega) ?_
  refine v_callV (pc' := 804) dL_law_801 rfl cv_L_93 h8 kp_M rfl rfl (Nat.le_of_ble_eq_true rfl) rfl (Or.inl rfl) ?_
  exact v_icmp_eq (pc' := 807) (tgt := 1173) dL_law_804 rfl (by decide) (fun _ => kk _ _ _ hr) (fun hb => absurd rfl hb)
theorem w_19 (h : RLx I L R) (hi : i + 4 ≤ Ls) (hL : Ls ≤ 2048) (kk : ∀ I' L' R', RLx I' L' R' → VL l nm b Ls xs 1173 (LV b i) [] I' L' R' 287 287 6775) : VL l nm b Ls xs 809 (LV b i) [] I L R 287 287 6775 := by
  obtain ⟨ta, I1, I2, L1, L2, R1, h7, h8, hr⟩ := s_version (l := l) (a := xs (i + 1)) h
  refine v_aload_n (pc' := 810) dL_law_809 rfl rfl ?_
  refine v_scr (j := 1) (pc' := 815) dL_law_810 dL_law_811 dL_law_812 dL_law_813 dL_law_814 rfl (by decide) (by omega) (by omega) ?_
  refine v_callV (pc' := 818) dL_law_815 rfl cv_L_94 h7 kp_D rfl rfl (Nat.le_of_ble_eq_true rfl) rfl (Or.inl rfl) ?_
  refine v_aload_n (pc' := 819) dL_law_818 rfl rfl ?_
  refine v_scr (j := 1) (pc' := 824) dL_law_819 dL_law_820 dL_law_821 dL_law_822 dL_law_823 rfl (by decide) (by omega) (by omega) ?_
  refine v_callV (pc' := 827) dL_law_824 rfl cv_L_97 h8 kp_M rfl rfl (Nat.le_of_ble_eq_true rfl) rfl (Or.inl rfl) ?_
  exact v_icmp_eq (pc' := 830) (tgt := 1173) dL_law_827 rfl (by decide) (fun _ => kk _ _ _ hr) (fun hb => absurd rfl hb)
theorem w_20 (h : RLx I L R) (hi : i + 4 ≤ Ls) (hL : Ls ≤ 2048) (kk : ∀ I' L' R', RLx I' L' R' → VL l nm b Ls xs 1173 (LV b i) [] I' L' R' 287 287 6775) : VL l nm b Ls xs 832 (LV b i) [] I L R 287 287 6775 := by
  obtain ⟨ta, I1, I2, L1, L2, R1, h7, h8, hr⟩ := s_copy (l := l) (a := xs (i + 1)) (b := xs (i + 2)) (w := xs (i + 3)) h
  refine v_aload_n (pc' := 833) dL_law_832 rfl rfl ?_
  refine v_scr (j := 1) (pc' := 838) dL_law_833 dL_law_834 dL_law_835 dL_law_836 dL_law_837 rfl (by decide) (by omega) (by omega) ?_
  refine v_scr (j := 2) (pc' := 843) dL_law_838 dL_law_839 dL_law_840 dL_law_841 dL_law_842 rfl (by decide) (by omega) (by omega) ?_
  refine v_scr (j := 3) (pc' := 848) dL_law_843 dL_law_844 dL_law_845 dL_law_846 dL_law_847 rfl (by decide) (by omega) (by omega) ?_
  refine v_callV (pc' := 851) dL_law_848 rfl cv_L_98 h7 kp_D rfl rfl (Nat.le_of_ble_eq_true rfl) rfl (Or.inl rfl) ?_
  refine v_aload_n (pc' := 852) dL_law_851 rfl rfl ?_
  refine v_scr (j := 1) (pc' := 857) dL_law_852 dL_law_853 dL_law_854 dL_law_855 dL_law_856 rfl (by decide) (by omega) (by omega) ?_
  refine v_scr (j := 2) (pc' := 862) dL_law_857 dL_law_858 dL_law_859 dL_law_860 dL_law_861 rfl (by decide) (by omega) (by omega) ?_
  refine v_scr (j := 3) (pc' := 867) dL_law_862 dL_law_863 dL_law_864 dL_law_865 dL_law_866 rfl (by decide) (by omega) (by omega) ?_
  refine v_callV (pc' := 870) dL_law_867 rfl cv_L_101 h8 kp_M rfl rfl (Nat.le_of_ble_eq_true rfl) rfl (Or.inl rfl) ?_
  exact v_icmp_eq (pc' := 873) (tgt := 1173) dL_law_870 rfl (by decide) (fun _ => kk _ _ _ hr) (fun hb => absurd rfl hb)
theorem w_21 (h : RLx I L R) (hi : i + 4 ≤ Ls) (hL : Ls ≤ 2048) (kk : ∀ I' L' R', RLx I' L' R' → VL l nm b Ls xs 1173 (LV b i) [] I' L' R' 287 287 6775) : VL l nm b Ls xs 875 (LV b i) [] I L R 287 287 6775 := by
  obtain ⟨ta, I1, I2, L1, L2, R1, h7, h8, hr⟩ := s_mask (l := l) (a := xs (i + 1)) (b := xs (i + 2)) h
  refine v_aload_n (pc' := 876) dL_law_875 rfl rfl ?_
  refine v_scr (j := 1) (pc' := 881) dL_law_876 dL_law_877 dL_law_878 dL_law_879 dL_law_880 rfl (by decide) (by omega) (by omega) ?_
  refine v_scr (j := 2) (pc' := 886) dL_law_881 dL_law_882 dL_law_883 dL_law_884 dL_law_885 rfl (by decide) (by omega) (by omega) ?_
  refine v_callV (pc' := 889) dL_law_886 rfl cv_L_102 h7 kp_D rfl rfl (Nat.le_of_ble_eq_true rfl) rfl (Or.inl rfl) ?_
  refine v_aload_n (pc' := 890) dL_law_889 rfl rfl ?_
  refine v_scr (j := 1) (pc' := 895) dL_law_890 dL_law_891 dL_law_892 dL_law_893 dL_law_894 rfl (by decide) (by omega) (by omega) ?_
  refine v_scr (j := 2) (pc' := 900) dL_law_895 dL_law_896 dL_law_897 dL_law_898 dL_law_899 rfl (by decide) (by omega) (by omega) ?_
  refine v_callV (pc' := 903) dL_law_900 rfl cv_L_106 h8 kp_M rfl rfl (Nat.le_of_ble_eq_true rfl) rfl (Or.inl rfl) ?_
  refine v_lcmp (pc' := 904) dL_law_903 rfl ?_
  exact v_if_eq (pc' := 907) (tgt := 1173) dL_law_904 rfl (by decide) (fun _ => kk _ _ _ hr) (fun hb => absurd (lcmp_same ta) hb)
theorem w_22 (h : RLx I L R) (hi : i + 4 ≤ Ls) (hL : Ls ≤ 2048) (kk : ∀ I' L' R', RLx I' L' R' → VL l nm b Ls xs 1173 (LV b i) [] I' L' R' 287 287 6775) : VL l nm b Ls xs 909 (LV b i) [] I L R 287 287 6775 := by
  obtain ⟨ta, I1, I2, L1, L2, R1, h7, h8, hr⟩ := s_expects (l := l) (a := xs (i + 1)) (b := xs (i + 2)) (x := xs (i + 3)) h
  refine v_aload_n (pc' := 910) dL_law_909 rfl rfl ?_
  refine v_scr (j := 1) (pc' := 915) dL_law_910 dL_law_911 dL_law_912 dL_law_913 dL_law_914 rfl (by decide) (by omega) (by omega) ?_
  refine v_scr (j := 2) (pc' := 920) dL_law_915 dL_law_916 dL_law_917 dL_law_918 dL_law_919 rfl (by decide) (by omega) (by omega) ?_
  refine v_scr (j := 3) (pc' := 925) dL_law_920 dL_law_921 dL_law_922 dL_law_923 dL_law_924 rfl (by decide) (by omega) (by omega) ?_
  refine v_callV (pc' := 928) dL_law_925 rfl cv_L_107 h7 kp_D rfl rfl (Nat.le_of_ble_eq_true rfl) rfl (Or.inl rfl) ?_
  refine v_aload_n (pc' := 929) dL_law_928 rfl rfl ?_
  refine v_scr (j := 1) (pc' := 934) dL_law_929 dL_law_930 dL_law_931 dL_law_932 dL_law_933 rfl (by decide) (by omega) (by omega) ?_
  refine v_scr (j := 2) (pc' := 939) dL_law_934 dL_law_935 dL_law_936 dL_law_937 dL_law_938 rfl (by decide) (by omega) (by omega) ?_
  refine v_scr (j := 3) (pc' := 944) dL_law_939 dL_law_940 dL_law_941 dL_law_942 dL_law_943 rfl (by decide) (by omega) (by omega) ?_
  refine v_callV (pc' := 947) dL_law_944 rfl cv_L_110 h8 kp_M rfl rfl (Nat.le_of_ble_eq_true rfl) rfl (Or.inl rfl) ?_
  exact v_icmp_eq (pc' := 950) (tgt := 1173) dL_law_947 rfl (by decide) (fun _ => kk _ _ _ hr) (fun hb => absurd rfl hb)
theorem w_23 (h : RLx I L R) (hi : i + 4 ≤ Ls) (hL : Ls ≤ 2048) (kk : ∀ I' L' R', RLx I' L' R' → VL l nm b Ls xs 1173 (LV b i) [] I' L' R' 287 287 6775) : VL l nm b Ls xs 952 (LV b i) [] I L R 287 287 6775 := by
  obtain ⟨ta, I1, I2, L1, L2, R1, h7, h8, hr⟩ := s_request (l := l) (a := xs (i + 1)) (b := xs (i + 2)) (w := xs (i + 3)) h
  refine v_aload_n (pc' := 953) dL_law_952 rfl rfl ?_
  refine v_scr (j := 1) (pc' := 958) dL_law_953 dL_law_954 dL_law_955 dL_law_956 dL_law_957 rfl (by decide) (by omega) (by omega) ?_
  refine v_scr (j := 2) (pc' := 963) dL_law_958 dL_law_959 dL_law_960 dL_law_961 dL_law_962 rfl (by decide) (by omega) (by omega) ?_
  refine v_scr (j := 3) (pc' := 968) dL_law_963 dL_law_964 dL_law_965 dL_law_966 dL_law_967 rfl (by decide) (by omega) (by omega) ?_
  refine v_callV (pc' := 971) dL_law_968 rfl cv_L_111 h7 kp_D rfl rfl (Nat.le_of_ble_eq_true rfl) rfl (Or.inl rfl) ?_
  refine v_aload_n (pc' := 972) dL_law_971 rfl rfl ?_
  refine v_scr (j := 1) (pc' := 977) dL_law_972 dL_law_973 dL_law_974 dL_law_975 dL_law_976 rfl (by decide) (by omega) (by omega) ?_
  refine v_scr (j := 2) (pc' := 982) dL_law_977 dL_law_978 dL_law_979 dL_law_980 dL_law_981 rfl (by decide) (by omega) (by omega) ?_
  refine v_scr (j := 3) (pc' := 987) dL_law_982 dL_law_983 dL_law_984 dL_law_985 dL_law_986 rfl (by decide) (by omega) (by omega) ?_
  refine v_callV (pc' := 990) dL_law_987 rfl cv_L_114 h8 kp_M rfl rfl (Nat.le_of_ble_eq_true rfl) rfl (Or.inl rfl) ?_
  exact v_icmp_eq (pc' := 993) (tgt := 1173) dL_law_990 rfl (by decide) (fun _ => kk _ _ _ hr) (fun hb => absurd rfl hb)
theorem w_24 (h : RLx I L R) (hi : i + 4 ≤ Ls) (hL : Ls ≤ 2048) (kk : ∀ I' L' R', RLx I' L' R' → VL l nm b Ls xs 1173 (LV b i) [] I' L' R' 287 287 6775) : VL l nm b Ls xs 995 (LV b i) [] I L R 287 287 6775 := by
  obtain ⟨ta, I1, I2, L1, L2, R1, h7, h8, hr⟩ := s_way (l := l) (a := xs (i + 1)) h
  refine v_aload_n (pc' := 996) dL_law_995 rfl rfl ?_
  refine v_scr (j := 1) (pc' := 1001) dL_law_996 dL_law_997 dL_law_998 dL_law_999 dL_law_1000 rfl (by decide) (by omega) (by omega) ?_
  refine v_callV (pc' := 1004) dL_law_1001 rfl cv_L_115 h7 kp_D rfl rfl (Nat.le_of_ble_eq_true rfl) rfl (Or.inl rfl) ?_
  refine v_aload_n (pc' := 1005) dL_law_1004 rfl rfl ?_
  refine v_scr (j := 1) (pc' := 1010) dL_law_1005 dL_law_1006 dL_law_1007 dL_law_1008 dL_law_1009 rfl (by decide) (by omega) (by omega) ?_
  refine v_callV (pc' := 1013) dL_law_1010 rfl cv_L_118 h8 kp_M rfl rfl (Nat.le_of_ble_eq_true rfl) rfl (Or.inl rfl) ?_
  exact v_icmp_eq (pc' := 1016) (tgt := 1173) dL_law_1013 rfl (by decide) (fun _ => kk _ _ _ hr) (fun hb => absurd rfl hb)
theorem w_25 (h : RLx I L R) (hi : i + 4 ≤ Ls) (hL : Ls ≤ 2048) (kk : ∀ I' L' R', RLx I' L' R' → VL l nm b Ls xs 1173 (LV b i) [] I' L' R' 287 287 6775) : VL l nm b Ls xs 1018 (LV b i) [] I L R 287 287 6775 := by
  obtain ⟨ta, I1, I2, L1, L2, R1, h7, h8, hr⟩ := s_count (l := l) (a := xs (i + 1)) (b := xs (i + 2)) h
  refine v_aload_n (pc' := 1019) dL_law_1018 rfl rfl ?_
  refine v_scr (j := 1) (pc' := 1024) dL_law_1019 dL_law_1020 dL_law_1021 dL_law_1022 dL_law_1023 rfl (by decide) (by omega) (by omega) ?_
  refine v_scr (j := 2) (pc' := 1029) dL_law_1024 dL_law_1025 dL_law_1026 dL_law_1027 dL_law_1028 rfl (by decide) (by omega) (by omega) ?_
  refine v_callV (pc' := 1032) dL_law_1029 rfl cv_L_119 h7 kp_D rfl rfl (Nat.le_of_ble_eq_true rfl) rfl (Or.inl rfl) ?_
  refine v_aload_n (pc' := 1033) dL_law_1032 rfl rfl ?_
  refine v_scr (j := 1) (pc' := 1038) dL_law_1033 dL_law_1034 dL_law_1035 dL_law_1036 dL_law_1037 rfl (by decide) (by omega) (by omega) ?_
  refine v_scr (j := 2) (pc' := 1043) dL_law_1038 dL_law_1039 dL_law_1040 dL_law_1041 dL_law_1042 rfl (by decide) (by omega) (by omega) ?_
  refine v_callV (pc' := 1046) dL_law_1043 rfl cv_L_122 h8 kp_M rfl rfl (Nat.le_of_ble_eq_true rfl) rfl (Or.inl rfl) ?_
  exact v_icmp_eq (pc' := 1049) (tgt := 1173) dL_law_1046 rfl (by decide) (fun _ => kk _ _ _ hr) (fun hb => absurd rfl hb)
theorem w_26 (h : RLx I L R) (hi : i + 4 ≤ Ls) (hL : Ls ≤ 2048) (kk : ∀ I' L' R', RLx I' L' R' → VL l nm b Ls xs 1173 (LV b i) [] I' L' R' 287 287 6775) : VL l nm b Ls xs 1051 (LV b i) [] I L R 287 287 6775 := by
  obtain ⟨ta, I1, I2, L1, L2, R1, h7, h8, hr⟩ := s_wouldServe (l := l) (a := xs (i + 1)) (b := xs (i + 2)) h
  refine v_aload_n (pc' := 1052) dL_law_1051 rfl rfl ?_
  refine v_scr (j := 1) (pc' := 1057) dL_law_1052 dL_law_1053 dL_law_1054 dL_law_1055 dL_law_1056 rfl (by decide) (by omega) (by omega) ?_
  refine v_scr (j := 2) (pc' := 1062) dL_law_1057 dL_law_1058 dL_law_1059 dL_law_1060 dL_law_1061 rfl (by decide) (by omega) (by omega) ?_
  refine v_callV (pc' := 1065) dL_law_1062 rfl cv_L_123 h7 kp_D rfl rfl (Nat.le_of_ble_eq_true rfl) rfl (Or.inl rfl) ?_
  refine v_aload_n (pc' := 1066) dL_law_1065 rfl rfl ?_
  refine v_scr (j := 1) (pc' := 1071) dL_law_1066 dL_law_1067 dL_law_1068 dL_law_1069 dL_law_1070 rfl (by decide) (by omega) (by omega) ?_
  refine v_scr (j := 2) (pc' := 1076) dL_law_1071 dL_law_1072 dL_law_1073 dL_law_1074 dL_law_1075 rfl (by decide) (by omega) (by omega) ?_
  refine v_callV (pc' := 1079) dL_law_1076 rfl cv_L_126 h8 kp_M rfl rfl (Nat.le_of_ble_eq_true rfl) rfl (Or.inl rfl) ?_
  exact v_icmp_eq (pc' := 1082) (tgt := 1173) dL_law_1079 rfl (by decide) (fun _ => kk _ _ _ hr) (fun hb => absurd rfl hb)
theorem w_27 (h : RLx I L R) (hi : i + 4 ≤ Ls) (hL : Ls ≤ 2048) (kk : ∀ I' L' R', RLx I' L' R' → VL l nm b Ls xs 1173 (LV b i) [] I' L' R' 287 287 6775) : VL l nm b Ls xs 1084 (LV b i) [] I L R 287 287 6775 := by
  obtain ⟨ta, I1, I2, L1, L2, R1, h7, h8, hr⟩ := s_undo (l := l)  h
  refine v_aload_n (pc' := 1085) dL_law_1084 rfl rfl ?_
  refine v_callV (pc' := 1088) dL_law_1085 rfl cv_L_127 h7 kp_D rfl rfl (Nat.le_of_ble_eq_true rfl) rfl (Or.inl rfl) ?_
  refine v_aload_n (pc' := 1089) dL_law_1088 rfl rfl ?_
  refine v_callV (pc' := 1092) dL_law_1089 rfl cv_L_131 h8 kp_M rfl rfl (Nat.le_of_ble_eq_true rfl) rfl (Or.inl rfl) ?_
  exact v_icmp_eq (pc' := 1095) (tgt := 1173) dL_law_1092 rfl (by decide) (fun _ => kk _ _ _ hr) (fun hb => absurd rfl hb)
theorem w_28 (h : RLx I L R) (hi : i + 4 ≤ Ls) (hL : Ls ≤ 2048) (kk : ∀ I' L' R', RLx I' L' R' → VL l nm b Ls xs 1173 (LV b i) [] I' L' R' 287 287 6775) : VL l nm b Ls xs 1097 (LV b i) [] I L R 287 287 6775 := by
  obtain ⟨ta, I1, I2, L1, L2, R1, h7, h8, hr⟩ := s_type (l := l) (a := xs (i + 1)) h
  refine v_aload_n (pc' := 1098) dL_law_1097 rfl rfl ?_
  refine v_scr (j := 1) (pc' := 1103) dL_law_1098 dL_law_1099 dL_law_1100 dL_law_1101 dL_law_1102 rfl (by decide) (by omega) (by omega) ?_
  refine v_callV (pc' := 1106) dL_law_1103 rfl cv_L_132 h7 kp_D rfl rfl (Nat.le_of_ble_eq_true rfl) rfl (Or.inl rfl) ?_
  refine v_aload_n (pc' := 1107) dL_law_1106 rfl rfl ?_
  refine v_scr (j := 1) (pc' := 1112) dL_law_1107 dL_law_1108 dL_law_1109 dL_law_1110 dL_law_1111 rfl (by decide) (by omega) (by omega) ?_
  refine v_callV (pc' := 1115) dL_law_1112 rfl cv_L_135 h8 kp_M rfl rfl (Nat.le_of_ble_eq_true rfl) rfl (Or.inl rfl) ?_
  exact v_icmp_eq (pc' := 1118) (tgt := 1173) dL_law_1115 rfl (by decide) (fun _ => kk _ _ _ hr) (fun hb => absurd rfl hb)
theorem w_29 (h : RLx I L R) (hi : i + 4 ≤ Ls) (hL : Ls ≤ 2048) (kk : ∀ I' L' R', RLx I' L' R' → VL l nm b Ls xs 1173 (LV b i) [] I' L' R' 287 287 6775) : VL l nm b Ls xs 1120 (LV b i) [] I L R 287 287 6775 := by
  obtain ⟨ta, I1, I2, L1, L2, R1, h7, h8, hr⟩ := s_clearText (l := l)  h
  refine v_aload_n (pc' := 1121) dL_law_1120 rfl rfl ?_
  refine v_callV (pc' := 1124) dL_law_1121 rfl cv_L_136 h7 kp_D rfl rfl (Nat.le_of_ble_eq_true rfl) rfl (Or.inl rfl) ?_
  refine v_aload_n (pc' := 1125) dL_law_1124 rfl rfl ?_
  refine v_callV (pc' := 1128) dL_law_1125 rfl cv_L_139 h8 kp_M rfl rfl (Nat.le_of_ble_eq_true rfl) rfl (Or.inl rfl) ?_
  exact v_icmp_eq (pc' := 1131) (tgt := 1173) dL_law_1128 rfl (by decide) (fun _ => kk _ _ _ hr) (fun hb => absurd rfl hb)
theorem w_30 (h : RLx I L R) (hi : i + 4 ≤ Ls) (hL : Ls ≤ 2048) (kk : ∀ I' L' R', RLx I' L' R' → VL l nm b Ls xs 1173 (LV b i) [] I' L' R' 287 287 6775) : VL l nm b Ls xs 1133 (LV b i) [] I L R 287 287 6775 := by
  obtain ⟨ta, I1, I2, L1, L2, R1, h7, h8, hr⟩ := s_textFault (l := l)  h
  refine v_aload_n (pc' := 1134) dL_law_1133 rfl rfl ?_
  refine v_callV (pc' := 1137) dL_law_1134 rfl cv_L_140 h7 kp_D rfl rfl (Nat.le_of_ble_eq_true rfl) rfl (Or.inl rfl) ?_
  refine v_aload_n (pc' := 1138) dL_law_1137 rfl rfl ?_
  refine v_callV (pc' := 1141) dL_law_1138 rfl cv_L_143 h8 kp_M rfl rfl (Nat.le_of_ble_eq_true rfl) rfl (Or.inl rfl) ?_
  exact v_icmp_eq (pc' := 1144) (tgt := 1173) dL_law_1141 rfl (by decide) (fun _ => kk _ _ _ hr) (fun hb => absurd rfl hb)
theorem w_31 (h : RLx I L R) (hi : i + 4 ≤ Ls) (hL : Ls ≤ 2048) (kk : ∀ I' L' R', RLx I' L' R' → VL l nm b Ls xs 1173 (LV b i) [] I' L' R' 287 287 6775) : VL l nm b Ls xs 1146 (LV b i) [] I L R 287 287 6775 := by
  obtain ⟨ta, I1, I2, L1, L2, R1, h7, h8, hr⟩ := s_run (l := l)  h
  refine v_aload_n (pc' := 1147) dL_law_1146 rfl rfl ?_
  refine v_callV (pc' := 1150) dL_law_1147 rfl cv_L_144 h7 kp_D rfl rfl (Nat.le_of_ble_eq_true rfl) rfl (Or.inl rfl) ?_
  refine v_aload_n (pc' := 1151) dL_law_1150 rfl rfl ?_
  refine v_callV (pc' := 1154) dL_law_1151 rfl cv_L_147 h8 kp_M rfl rfl (Nat.le_of_ble_eq_true rfl) rfl (Or.inl rfl) ?_
  exact v_icmp_eq (pc' := 1157) (tgt := 1173) dL_law_1154 rfl (by decide) (fun _ => kk _ _ _ hr) (fun hb => absurd rfl hb)
theorem w_32 (h : RLx I L R) (hi : i + 4 ≤ Ls) (hL : Ls ≤ 2048) (kk : ∀ I' L' R', RLx I' L' R' → VL l nm b Ls xs 1173 (LV b i) [] I' L' R' 287 287 6775) : VL l nm b Ls xs 1159 (LV b i) [] I L R 287 287 6775 := by
  obtain ⟨ta, I1, I2, L1, L2, R1, h7, h8, hr⟩ := s_digest (l := l)  h
  refine v_aload_n (pc' := 1160) dL_law_1159 rfl rfl ?_
  refine v_callV (pc' := 1163) dL_law_1160 rfl cv_L_148 h7 kp_D rfl rfl (Nat.le_of_ble_eq_true rfl) rfl (Or.inl rfl) ?_
  refine v_aload_n (pc' := 1164) dL_law_1163 rfl rfl ?_
  refine v_callV (pc' := 1167) dL_law_1164 rfl cv_L_152 h8 kp_M rfl rfl (Nat.le_of_ble_eq_true rfl) rfl (Or.inl rfl) ?_
  refine v_lcmp (pc' := 1168) dL_law_1167 rfl ?_
  exact v_if_eq (pc' := 1171) (tgt := 1173) dL_law_1168 rfl (by decide) (fun _ => kk _ _ _ hr) (fun hb => absurd (lcmp_same ta) hb)
end CASES
