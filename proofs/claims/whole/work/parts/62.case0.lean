section
variable {x : gm_Cx} {G : Gm} {b L i B : Nat} {xs : Nat → Int32}
theorem gl_c0 (C : gm_X x cL_law 4 RL (some .boolean) 10) (S : gl_S x b L xs) (hi : i + 4 ≤ L) (hB : B + 1000000 < 2147483647) (hW : WI B G) (K : ∀ G2, WI (B + 500000) G2 → gm_V x G2 1155 (gl_lv x b i) []) : gm_V x G 180 (gl_lv x b i) [] := by
  obtain ⟨v, G1, G2, e6, e7, hW2⟩ := w_0 hB hW (xs (i + 1)) (xs (i + 2))
  refine gv_aload_n C rfl 2 rfl dL_law_180 181 rfl ?_
  refine gl_arg C S 1 (by decide +kernel) (by omega) dL_law_181 dL_law_182 dL_law_183 dL_law_184 dL_law_185 186 rfl ?_
  refine gl_arg C S 2 (by decide +kernel) (by omega) dL_law_186 dL_law_187 dL_law_188 dL_law_189 dL_law_190 191 rfl ?_
  refine gv_callVi (v := v) C mc_yX6_setUp ⟨mi_yX6_setUp, me_yX6_setUp⟩ (by decide) mkL_13 gi_6 ⟨_, rfl⟩ rfl rfl (kX6_setUp (cx_w x) _ _  G (v, G1) e6) rfl rfl (Nat.le_of_ble_eq_true rfl) dL_law_191 194 rfl ?_
  refine gv_aload_n C rfl 1 rfl dL_law_194 195 rfl ?_
  refine gl_arg C S 1 (by decide +kernel) (by omega) dL_law_195 dL_law_196 dL_law_197 dL_law_198 dL_law_199 200 rfl ?_
  refine gl_arg C S 2 (by decide +kernel) (by omega) dL_law_200 dL_law_201 dL_law_202 dL_law_203 dL_law_204 205 rfl ?_
  refine gv_callVi (v := v) C mc_yX7_setUp ⟨mi_yX7_setUp, me_yX7_setUp⟩ (by decide) mkL_17 gi_7 ⟨_, rfl⟩ rfl rfl (kX7_setUp (cx_w x) _ _  G1 (v, G2) e7) rfl rfl (Nat.le_of_ble_eq_true rfl) dL_law_205 208 rfl ?_
  exact gv_icmp_eq C dL_law_208 1155 (by decide) 211 rfl (fun _ => K G2 hW2) (fun c => absurd rfl c)
theorem gl_c1 (C : gm_X x cL_law 4 RL (some .boolean) 10) (S : gl_S x b L xs) (hi : i + 4 ≤ L) (hB : B + 1000000 < 2147483647) (hW : WI B G) (K : ∀ G2, WI (B + 500000) G2 → gm_V x G2 1155 (gl_lv x b i) []) : gm_V x G 213 (gl_lv x b i) [] := by
  obtain ⟨v, G1, G2, e6, e7, hW2⟩ := w_1 hB hW (xs (i + 1)) (xs (i + 2))
  refine gv_aload_n C rfl 2 rfl dL_law_213 214 rfl ?_
  refine gl_arg C S 1 (by decide +kernel) (by omega) dL_law_214 dL_law_215 dL_law_216 dL_law_217 dL_law_218 219 rfl ?_
  refine gl_arg C S 2 (by decide +kernel) (by omega) dL_law_219 dL_law_220 dL_law_221 dL_law_222 dL_law_223 224 rfl ?_
  refine gv_callVi (v := v) C mc_yX6_setTime ⟨mi_yX6_setTime, me_yX6_setTime⟩ (by decide) mkL_18 gi_6 ⟨_, rfl⟩ rfl rfl (kX6_setTime (cx_w x) _ _  G (v, G1) e6) rfl rfl (Nat.le_of_ble_eq_true rfl) dL_law_224 227 rfl ?_
  refine gv_aload_n C rfl 1 rfl dL_law_227 228 rfl ?_
  refine gl_arg C S 1 (by decide +kernel) (by omega) dL_law_228 dL_law_229 dL_law_230 dL_law_231 dL_law_232 233 rfl ?_
  refine gl_arg C S 2 (by decide +kernel) (by omega) dL_law_233 dL_law_234 dL_law_235 dL_law_236 dL_law_237 238 rfl ?_
  refine gv_callVi (v := v) C mc_yX7_setTime ⟨mi_yX7_setTime, me_yX7_setTime⟩ (by decide) mkL_21 gi_7 ⟨_, rfl⟩ rfl rfl (kX7_setTime (cx_w x) _ _  G1 (v, G2) e7) rfl rfl (Nat.le_of_ble_eq_true rfl) dL_law_238 241 rfl ?_
  exact gv_icmp_eq C dL_law_241 1155 (by decide) 244 rfl (fun _ => K G2 hW2) (fun c => absurd rfl c)
theorem gl_c2 (C : gm_X x cL_law 4 RL (some .boolean) 10) (S : gl_S x b L xs) (hi : i + 4 ≤ L) (hB : B + 1000000 < 2147483647) (hW : WI B G) (K : ∀ G2, WI (B + 500000) G2 → gm_V x G2 1155 (gl_lv x b i) []) : gm_V x G 246 (gl_lv x b i) [] := by
  obtain ⟨v, G1, G2, e6, e7, hW2⟩ := w_2 hB hW (xs (i + 1)) (xs (i + 2)) (xs (i + 3))
  refine gv_aload_n C rfl 2 rfl dL_law_246 247 rfl ?_
  refine gl_arg C S 1 (by decide +kernel) (by omega) dL_law_247 dL_law_248 dL_law_249 dL_law_250 dL_law_251 252 rfl ?_
  refine gl_arg C S 2 (by decide +kernel) (by omega) dL_law_252 dL_law_253 dL_law_254 dL_law_255 dL_law_256 257 rfl ?_
  refine gl_arg C S 3 (by decide +kernel) (by omega) dL_law_257 dL_law_258 dL_law_259 dL_law_260 dL_law_261 262 rfl ?_
  refine gv_callVi (v := v) C mc_yX6_setLoops ⟨mi_yX6_setLoops, me_yX6_setLoops⟩ (by decide) mkL_22 gi_6 ⟨_, rfl⟩ rfl rfl (kX6_setLoops (cx_w x) _ _ _  G (v, G1) e6) rfl rfl (Nat.le_of_ble_eq_true rfl) dL_law_262 265 rfl ?_
  refine gv_aload_n C rfl 1 rfl dL_law_265 266 rfl ?_
  refine gl_arg C S 1 (by decide +kernel) (by omega) dL_law_266 dL_law_267 dL_law_268 dL_law_269 dL_law_270 271 rfl ?_
  refine gl_arg C S 2 (by decide +kernel) (by omega) dL_law_271 dL_law_272 dL_law_273 dL_law_274 dL_law_275 276 rfl ?_
  refine gl_arg C S 3 (by decide +kernel) (by omega) dL_law_276 dL_law_277 dL_law_278 dL_law_279 dL_law_280 281 rfl ?_
  refine gv_callVi (v := v) C mc_yX7_setLoops ⟨mi_yX7_setLoops, me_yX7_setLoops⟩ (by decide) mkL_26 gi_7 ⟨_, rfl⟩ rfl rfl (kX7_setLoops (cx_w x) _ _ _  G1 (v, G2) e7) rfl rfl (Nat.le_of_ble_eq_true rfl) dL_law_281 284 rfl ?_
  exact gv_icmp_eq C dL_law_284 1155 (by decide) 287 rfl (fun _ => K G2 hW2) (fun c => absurd rfl c)
theorem gl_c3 (C : gm_X x cL_law 4 RL (some .boolean) 10) (S : gl_S x b L xs) (hi : i + 4 ≤ L) (hB : B + 1000000 < 2147483647) (hW : WI B G) (K : ∀ G2, WI (B + 500000) G2 → gm_V x G2 1155 (gl_lv x b i) []) : gm_V x G 289 (gl_lv x b i) [] := by
  obtain ⟨v, G1, G2, e6, e7, hW2⟩ := w_3 hB hW (xs (i + 1)) (xs (i + 2))
  refine gv_aload_n C rfl 2 rfl dL_law_289 290 rfl ?_
  refine gl_arg C S 1 (by decide +kernel) (by omega) dL_law_290 dL_law_291 dL_law_292 dL_law_293 dL_law_294 295 rfl ?_
  refine gl_arg C S 2 (by decide +kernel) (by omega) dL_law_295 dL_law_296 dL_law_297 dL_law_298 dL_law_299 300 rfl ?_
  refine gv_callVi (v := v) C mc_yX6_moveTokens ⟨mi_yX6_moveTokens, me_yX6_moveTokens⟩ (by decide) mkL_27 gi_6 ⟨_, rfl⟩ rfl rfl (kX6_moveTokens (cx_w x) _ _  G (v, G1) e6) rfl rfl (Nat.le_of_ble_eq_true rfl) dL_law_300 303 rfl ?_
  refine gv_aload_n C rfl 1 rfl dL_law_303 304 rfl ?_
  refine gl_arg C S 1 (by decide +kernel) (by omega) dL_law_304 dL_law_305 dL_law_306 dL_law_307 dL_law_308 309 rfl ?_
  refine gl_arg C S 2 (by decide +kernel) (by omega) dL_law_309 dL_law_310 dL_law_311 dL_law_312 dL_law_313 314 rfl ?_
  refine gv_callVi (v := v) C mc_yX7_moveTokens ⟨mi_yX7_moveTokens, me_yX7_moveTokens⟩ (by decide) mkL_30 gi_7 ⟨_, rfl⟩ rfl rfl (kX7_moveTokens (cx_w x) _ _  G1 (v, G2) e7) rfl rfl (Nat.le_of_ble_eq_true rfl) dL_law_314 317 rfl ?_
  exact gv_icmp_eq C dL_law_317 1155 (by decide) 320 rfl (fun _ => K G2 hW2) (fun c => absurd rfl c)
theorem gl_c4 (C : gm_X x cL_law 4 RL (some .boolean) 10) (S : gl_S x b L xs) (hi : i + 4 ≤ L) (hB : B + 1000000 < 2147483647) (hW : WI B G) (K : ∀ G2, WI (B + 500000) G2 → gm_V x G2 1155 (gl_lv x b i) []) : gm_V x G 322 (gl_lv x b i) [] := by
  obtain ⟨v, e6, e7, hW2⟩ := w_4 hB hW (xs (i + 1)) (xs (i + 2))
  refine gv_aload_n C rfl 2 rfl dL_law_322 323 rfl ?_
  refine gl_arg C S 1 (by decide +kernel) (by omega) dL_law_323 dL_law_324 dL_law_325 dL_law_326 dL_law_327 328 rfl ?_
  refine gl_arg C S 2 (by decide +kernel) (by omega) dL_law_328 dL_law_329 dL_law_330 dL_law_331 dL_law_332 333 rfl ?_
  refine gv_callVi (v := v) C mc_yX6_section ⟨mi_yX6_section, me_yX6_section⟩ (by decide) mkL_31 gi_6 ⟨_, rfl⟩ rfl rfl (kX6_section (cx_w x) _ _  G v e6) rfl rfl (Nat.le_of_ble_eq_true rfl) dL_law_333 336 rfl ?_
  refine gv_aload_n C rfl 1 rfl dL_law_336 337 rfl ?_
  refine gl_arg C S 1 (by decide +kernel) (by omega) dL_law_337 dL_law_338 dL_law_339 dL_law_340 dL_law_341 342 rfl ?_
  refine gl_arg C S 2 (by decide +kernel) (by omega) dL_law_342 dL_law_343 dL_law_344 dL_law_345 dL_law_346 347 rfl ?_
  refine gv_callVi (v := v) C mc_yX7_section ⟨mi_yX7_section, me_yX7_section⟩ (by decide) mkL_34 gi_7 ⟨_, rfl⟩ rfl rfl (kX7_section (cx_w x) _ _  G v e7) rfl rfl (Nat.le_of_ble_eq_true rfl) dL_law_347 350 rfl ?_
  exact gv_icmp_eq C dL_law_350 1155 (by decide) 353 rfl (fun _ => K G hW2) (fun c => absurd rfl c)
theorem gl_c5 (C : gm_X x cL_law 4 RL (some .boolean) 10) (S : gl_S x b L xs) (hi : i + 4 ≤ L) (hB : B + 1000000 < 2147483647) (hW : WI B G) (K : ∀ G2, WI (B + 500000) G2 → gm_V x G2 1155 (gl_lv x b i) []) : gm_V x G 355 (gl_lv x b i) [] := by
  obtain ⟨v, e6, e7, hW2⟩ := w_5 hB hW (xs (i + 1)) (xs (i + 2)) (xs (i + 3))
  refine gv_aload_n C rfl 2 rfl dL_law_355 356 rfl ?_
  refine gl_arg C S 1 (by decide +kernel) (by omega) dL_law_356 dL_law_357 dL_law_358 dL_law_359 dL_law_360 361 rfl ?_
  refine gl_arg C S 2 (by decide +kernel) (by omega) dL_law_361 dL_law_362 dL_law_363 dL_law_364 dL_law_365 366 rfl ?_
  refine gl_arg C S 3 (by decide +kernel) (by omega) dL_law_366 dL_law_367 dL_law_368 dL_law_369 dL_law_370 371 rfl ?_
  refine gv_callVi (v := v) C mc_yX6_block ⟨mi_yX6_block, me_yX6_block⟩ (by decide) mkL_35 gi_6 ⟨_, rfl⟩ rfl rfl (kX6_block (cx_w x) _ _ _  G v e6) rfl rfl (Nat.le_of_ble_eq_true rfl) dL_law_371 374 rfl ?_
  refine gv_aload_n C rfl 1 rfl dL_law_374 375 rfl ?_
  refine gl_arg C S 1 (by decide +kernel) (by omega) dL_law_375 dL_law_376 dL_law_377 dL_law_378 dL_law_379 380 rfl ?_
  refine gl_arg C S 2 (by decide +kernel) (by omega) dL_law_380 dL_law_381 dL_law_382 dL_law_383 dL_law_384 385 rfl ?_
  refine gl_arg C S 3 (by decide +kernel) (by omega) dL_law_385 dL_law_386 dL_law_387 dL_law_388 dL_law_389 390 rfl ?_
  refine gv_callVi (v := v) C mc_yX7_block ⟨mi_yX7_block, me_yX7_block⟩ (by decide) mkL_38 gi_7 ⟨_, rfl⟩ rfl rfl (kX7_block (cx_w x) _ _ _  G v e7) rfl rfl (Nat.le_of_ble_eq_true rfl) dL_law_390 393 rfl ?_
  exact gv_icmp_eq C dL_law_393 1155 (by decide) 396 rfl (fun _ => K G hW2) (fun c => absurd rfl c)
theorem gl_c6 (C : gm_X x cL_law 4 RL (some .boolean) 10) (S : gl_S x b L xs) (hi : i + 4 ≤ L) (hB : B + 1000000 < 2147483647) (hW : WI B G) (K : ∀ G2, WI (B + 500000) G2 → gm_V x G2 1155 (gl_lv x b i) []) : gm_V x G 398 (gl_lv x b i) [] := by
  obtain ⟨v, G1, G2, e6, e7, hW2⟩ := w_6 hB hW (xs (i + 1)) (xs (i + 2))
  refine gv_aload_n C rfl 2 rfl dL_law_398 399 rfl ?_
  refine gl_arg C S 1 (by decide +kernel) (by omega) dL_law_399 dL_law_400 dL_law_401 dL_law_402 dL_law_403 404 rfl ?_
  refine gl_arg C S 2 (by decide +kernel) (by omega) dL_law_404 dL_law_405 dL_law_406 dL_law_407 dL_law_408 409 rfl ?_
  refine gv_callVi (v := v) C mc_yX6_appear ⟨mi_yX6_appear, me_yX6_appear⟩ (by decide) mkL_39 gi_6 ⟨_, rfl⟩ rfl rfl (kX6_appear (cx_w x) _ _  G (v, G1) e6) rfl rfl (Nat.le_of_ble_eq_true rfl) dL_law_409 412 rfl ?_
  refine gv_aload_n C rfl 1 rfl dL_law_412 413 rfl ?_
  refine gl_arg C S 1 (by decide +kernel) (by omega) dL_law_413 dL_law_414 dL_law_415 dL_law_416 dL_law_417 418 rfl ?_
  refine gl_arg C S 2 (by decide +kernel) (by omega) dL_law_418 dL_law_419 dL_law_420 dL_law_421 dL_law_422 423 rfl ?_
  refine gv_callVi (v := v) C mc_yX7_appear ⟨mi_yX7_appear, me_yX7_appear⟩ (by decide) mkL_42 gi_7 ⟨_, rfl⟩ rfl rfl (kX7_appear (cx_w x) _ _  G1 (v, G2) e7) rfl rfl (Nat.le_of_ble_eq_true rfl) dL_law_423 426 rfl ?_
  exact gv_icmp_eq C dL_law_426 1155 (by decide) 429 rfl (fun _ => K G2 hW2) (fun c => absurd rfl c)
theorem gl_c7 (C : gm_X x cL_law 4 RL (some .boolean) 10) (S : gl_S x b L xs) (hi : i + 4 ≤ L) (hB : B + 1000000 < 2147483647) (hW : WI B G) (K : ∀ G2, WI (B + 500000) G2 → gm_V x G2 1155 (gl_lv x b i) []) : gm_V x G 431 (gl_lv x b i) [] := by
  obtain ⟨v, e6, e7, hW2⟩ := w_7 hB hW (xs (i + 1)) (xs (i + 2))
  refine gv_aload_n C rfl 2 rfl dL_law_431 432 rfl ?_
  refine gl_arg C S 1 (by decide +kernel) (by omega) dL_law_432 dL_law_433 dL_law_434 dL_law_435 dL_law_436 437 rfl ?_
  refine gl_arg C S 2 (by decide +kernel) (by omega) dL_law_437 dL_law_438 dL_law_439 dL_law_440 dL_law_441 442 rfl ?_
  refine gv_callVi (v := v) C mc_yX6_train ⟨mi_yX6_train, me_yX6_train⟩ (by decide) mkL_43 gi_6 ⟨_, rfl⟩ rfl rfl (kX6_train (cx_w x) _ _  G v e6) rfl rfl (Nat.le_of_ble_eq_true rfl) dL_law_442 445 rfl ?_
  refine gv_aload_n C rfl 1 rfl dL_law_445 446 rfl ?_
  refine gl_arg C S 1 (by decide +kernel) (by omega) dL_law_446 dL_law_447 dL_law_448 dL_law_449 dL_law_450 451 rfl ?_
  refine gl_arg C S 2 (by decide +kernel) (by omega) dL_law_451 dL_law_452 dL_law_453 dL_law_454 dL_law_455 456 rfl ?_
  refine gv_callVi (v := v) C mc_yX7_train ⟨mi_yX7_train, me_yX7_train⟩ (by decide) mkL_46 gi_7 ⟨_, rfl⟩ rfl rfl (kX7_train (cx_w x) _ _  G v e7) rfl rfl (Nat.le_of_ble_eq_true rfl) dL_law_456 459 rfl ?_
  exact gv_icmp_eq C dL_law_459 1155 (by decide) 462 rfl (fun _ => K G hW2) (fun c => absurd rfl c)
theorem gl_c8 (C : gm_X x cL_law 4 RL (some .boolean) 10) (S : gl_S x b L xs) (hi : i + 4 ≤ L) (hB : B + 1000000 < 2147483647) (hW : WI B G) (K : ∀ G2, WI (B + 500000) G2 → gm_V x G2 1155 (gl_lv x b i) []) : gm_V x G 464 (gl_lv x b i) [] := by
  obtain ⟨v, G1, G2, e6, e7, hW2⟩ := w_8 hB hW (xs (i + 1))
  refine gv_aload_n C rfl 2 rfl dL_law_464 465 rfl ?_
  refine gl_arg C S 1 (by decide +kernel) (by omega) dL_law_465 dL_law_466 dL_law_467 dL_law_468 dL_law_469 470 rfl ?_
  refine gv_callVi (v := v) C mc_yX6_shunt ⟨mi_yX6_shunt, me_yX6_shunt⟩ (by decide) mkL_47 gi_6 ⟨_, rfl⟩ rfl rfl (kX6_shunt (cx_w x) _  G (v, G1) e6) rfl rfl (Nat.le_of_ble_eq_true rfl) dL_law_470 473 rfl ?_
  refine gv_aload_n C rfl 1 rfl dL_law_473 474 rfl ?_
  refine gl_arg C S 1 (by decide +kernel) (by omega) dL_law_474 dL_law_475 dL_law_476 dL_law_477 dL_law_478 479 rfl ?_
  refine gv_callVi (v := v) C mc_yX7_shunt ⟨mi_yX7_shunt, me_yX7_shunt⟩ (by decide) mkL_51 gi_7 ⟨_, rfl⟩ rfl rfl (kX7_shunt (cx_w x) _  G1 (v, G2) e7) rfl rfl (Nat.le_of_ble_eq_true rfl) dL_law_479 482 rfl ?_
  exact gv_icmp_eq C dL_law_482 1155 (by decide) 485 rfl (fun _ => K G2 hW2) (fun c => absurd rfl c)
theorem gl_c9 (C : gm_X x cL_law 4 RL (some .boolean) 10) (S : gl_S x b L xs) (hi : i + 4 ≤ L) (hB : B + 1000000 < 2147483647) (hW : WI B G) (K : ∀ G2, WI (B + 500000) G2 → gm_V x G2 1155 (gl_lv x b i) []) : gm_V x G 487 (gl_lv x b i) [] := by
  obtain ⟨v, G1, G2, e6, e7, hW2⟩ := w_9 hB hW (xs (i + 1))
  refine gv_aload_n C rfl 2 rfl dL_law_487 488 rfl ?_
  refine gl_arg C S 1 (by decide +kernel) (by omega) dL_law_488 dL_law_489 dL_law_490 dL_law_491 dL_law_492 493 rfl ?_
  refine gv_callVi (v := v) C mc_yX6_leave ⟨mi_yX6_leave, me_yX6_leave⟩ (by decide) mkL_52 gi_6 ⟨_, rfl⟩ rfl rfl (kX6_leave (cx_w x) _  G (v, G1) e6) rfl rfl (Nat.le_of_ble_eq_true rfl) dL_law_493 496 rfl ?_
  refine gv_aload_n C rfl 1 rfl dL_law_496 497 rfl ?_
  refine gl_arg C S 1 (by decide +kernel) (by omega) dL_law_497 dL_law_498 dL_law_499 dL_law_500 dL_law_501 502 rfl ?_
  refine gv_callVi (v := v) C mc_yX7_leave ⟨mi_yX7_leave, me_yX7_leave⟩ (by decide) mkL_55 gi_7 ⟨_, rfl⟩ rfl rfl (kX7_leave (cx_w x) _  G1 (v, G2) e7) rfl rfl (Nat.le_of_ble_eq_true rfl) dL_law_502 505 rfl ?_
  exact gv_icmp_eq C dL_law_505 1155 (by decide) 508 rfl (fun _ => K G2 hW2) (fun c => absurd rfl c)
theorem gl_c10 (C : gm_X x cL_law 4 RL (some .boolean) 10) (S : gl_S x b L xs) (hi : i + 4 ≤ L) (hB : B + 1000000 < 2147483647) (hW : WI B G) (K : ∀ G2, WI (B + 500000) G2 → gm_V x G2 1155 (gl_lv x b i) []) : gm_V x G 510 (gl_lv x b i) [] := by
  obtain ⟨v, G1, G2, e6, e7, hW2⟩ := w_10 hB hW (xs (i + 1))
  refine gv_aload_n C rfl 2 rfl dL_law_510 511 rfl ?_
  refine gl_arg C S 1 (by decide +kernel) (by omega) dL_law_511 dL_law_512 dL_law_513 dL_law_514 dL_law_515 516 rfl ?_
  refine gv_callVi (v := v) C mc_yX6_divide ⟨mi_yX6_divide, me_yX6_divide⟩ (by decide) mkL_56 gi_6 ⟨_, rfl⟩ rfl rfl (kX6_divide (cx_w x) _  G (v, G1) e6) rfl rfl (Nat.le_of_ble_eq_true rfl) dL_law_516 519 rfl ?_
  refine gv_aload_n C rfl 1 rfl dL_law_519 520 rfl ?_
  refine gl_arg C S 1 (by decide +kernel) (by omega) dL_law_520 dL_law_521 dL_law_522 dL_law_523 dL_law_524 525 rfl ?_
  refine gv_callVi (v := v) C mc_yX7_divide ⟨mi_yX7_divide, me_yX7_divide⟩ (by decide) mkL_59 gi_7 ⟨_, rfl⟩ rfl rfl (kX7_divide (cx_w x) _  G1 (v, G2) e7) rfl rfl (Nat.le_of_ble_eq_true rfl) dL_law_525 528 rfl ?_
  exact gv_icmp_eq C dL_law_528 1155 (by decide) 531 rfl (fun _ => K G2 hW2) (fun c => absurd rfl c)
end
