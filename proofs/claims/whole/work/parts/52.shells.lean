/-! ===== the law: one call of both sides, compared ===== -/
theorem w_scroll {X : gM} {E : gE} {D n cells slots b L9 i : Nat} {xs : Nat → Int32} {σ σ1 σ2 : gS} (K : gK X E mL_law D n) (S : hSc X E b L9 xs) (hi5 : i + 5 ≤ L9) (hD : 20 ≤ D) (hc : cells + 1 ≤ n) (hs : slots + 6 ≤ 6 * n) {kk vb : Int} (h1 : hCt E mL_scroll hhL_scroll 13 1 [rf 0 0, iv (sx xs (i + 1)), iv (sx xs (i + 2)), rf 23 0] σ (.inl (some (iv kk))) σ1) (h2 : gCt E mX7_scroll 12 0 [rf 14 0, iv (sx xs (i + 1)), iv (sx xs (i + 2))] σ1 (.inl (some (iv vb))) σ2) (hk : 0 ≤ kk ∧ kk ≤ 3) (ht : σ2.1 14 0 7 = kk) (ho : kk = 0 → σ2.2.2.1 = lv vb) (kn : gWX X E (cells + 1) (slots + 6) 2519 (wL b i) [] σ2) : gWX X E cells slots 212 (wL b i) [] σ := by
  refine x_aload_1 K dL_law_212 ?_
  refine x_aloadc_0 K dL_law_213 ?_
  refine x_iload_5 K dL_law_214 ?_
  refine x_iconst K dL_law_216 ?_
  refine x_iadd K dL_law_217 ?_
  refine x_sld K S (i + 1) (by omega) (by omega) dL_law_218 ?_
  refine x_aloadc_0 K dL_law_219 ?_
  refine x_iload_5 K dL_law_220 ?_
  refine x_iconst K dL_law_222 ?_
  refine x_iadd K dL_law_223 ?_
  refine x_sld K S (i + 2) (by omega) (by omega) dL_law_224 ?_
  refine x_aload_3 K dL_law_225 ?_
  refine x_callH4 K h1 mtL_scroll msL_scroll (g_mem 293 (by decide +kernel)) ⟨by omega, by omega, by omega⟩ rfl (Nat.le_of_ble_eq_true rfl) dL_law_226 ?_
  refine x_istore_6 K dL_law_229 rfl ?_
  refine x_aload_2 K dL_law_231 ?_
  refine x_aloadc_0 K dL_law_232 ?_
  refine x_iload_5 K dL_law_233 ?_
  refine x_iconst K dL_law_235 ?_
  refine x_iadd K dL_law_236 ?_
  refine x_sld K S (i + 1) (by omega) (by omega) dL_law_237 ?_
  refine x_aloadc_0 K dL_law_238 ?_
  refine x_iload_5 K dL_law_239 ?_
  refine x_iconst K dL_law_241 ?_
  refine x_iadd K dL_law_242 ?_
  refine x_sld K S (i + 2) (by omega) (by omega) dL_law_243 ?_
  refine x_callV2 K h2 mtX7_scroll miX7_scroll rc14 ⟨by decide, by decide⟩ lkRL_146 ⟨by omega, by omega, by omega⟩ rfl (Nat.le_of_ble_eq_true rfl) dL_law_244 ?_
  refine x_istore_7 K dL_law_247 rfl ?_
  refine x_aload_2 K dL_law_249 ?_
  refine x_callV0 K (c7_thrown kk ht) mtX7_thrown miX7_thrown rc14 ⟨by decide, by decide⟩ lkRL_147 ⟨by omega, by omega, by omega⟩ rfl (Nat.le_of_ble_eq_true rfl) dL_law_250 ?_
  refine x_iload_6 K dL_law_253 ?_
  refine x_icmp_eq (tgt := 260) K (by omega) dL_law_255 (by decide) (fun _ => ?_) (fun h => absurd rfl h)
  refine x_iload_6 K dL_law_260 ?_
  refine x_if_ne (tgt := 277) K (by omega) dL_law_262 (by decide) (fun h0 => ?_) (fun h0 => ?_)
  · refine x_goto (tgt := 2519) K dL_law_277 (by decide) ?_
    exact gWX.fgt 6 (gWX.fgt 7 (gWX.fgt 8 (gWX.le (by omega) (by omega) kn)))
  · have hk0 : kk = 0 := by omega
    refine x_aload_3 K dL_law_265 ?_
    refine x_iconst K dL_law_266 ?_
    refine x_lald K dL_law_267 ?_
    refine gWX.topv (u := .inl (.long (lv vb))) (congrArg (fun x => (Sum.inl (Value.long x) : gV)) (ho hk0)) ?_
    refine x_iload_7 K dL_law_268 ?_
    refine x_i2l K dL_law_270 ?_
    refine x_lcmpE K dL_law_271 ?_
    refine x_if_eq (tgt := 277) K (by omega) dL_law_272 (by decide) (fun _ => ?_) (fun h => absurd rfl h)
    refine x_goto (tgt := 2519) K dL_law_277 (by decide) ?_
    exact gWX.fgt 6 (gWX.fgt 7 (gWX.fgt 8 (gWX.le (by omega) (by omega) kn)))
theorem w_scrollOf {X : gM} {E : gE} {D n cells slots b L9 i : Nat} {xs : Nat → Int32} {σ σ1 σ2 : gS} (K : gK X E mL_law D n) (S : hSc X E b L9 xs) (hi5 : i + 5 ≤ L9) (hD : 20 ≤ D) (hc : cells + 1 ≤ n) (hs : slots + 6 ≤ 6 * n) {kk vb : Int} (h1 : hCt E mL_scrollOf hhL_scrollOf 13 1 [rf 0 0, iv (sx xs (i + 1)), iv (sx xs (i + 2)), rf 23 0] σ (.inl (some (iv kk))) σ1) (h2 : gCt E mX7_scrollOf 12 0 [rf 14 0, iv (sx xs (i + 1)), iv (sx xs (i + 2))] σ1 (.inl (some (iv vb))) σ2) (hk : 0 ≤ kk ∧ kk ≤ 3) (ht : σ2.1 14 0 7 = kk) (ho : kk = 0 → σ2.2.2.1 = lv vb) (kn : gWX X E (cells + 1) (slots + 6) 2519 (wL b i) [] σ2) : gWX X E cells slots 280 (wL b i) [] σ := by
  refine x_aload_1 K dL_law_280 ?_
  refine x_aloadc_0 K dL_law_281 ?_
  refine x_iload_5 K dL_law_282 ?_
  refine x_iconst K dL_law_284 ?_
  refine x_iadd K dL_law_285 ?_
  refine x_sld K S (i + 1) (by omega) (by omega) dL_law_286 ?_
  refine x_aloadc_0 K dL_law_287 ?_
  refine x_iload_5 K dL_law_288 ?_
  refine x_iconst K dL_law_290 ?_
  refine x_iadd K dL_law_291 ?_
  refine x_sld K S (i + 2) (by omega) (by omega) dL_law_292 ?_
  refine x_aload_3 K dL_law_293 ?_
  refine x_callH4 K h1 mtL_scrollOf msL_scrollOf (g_mem 568 (by decide +kernel)) ⟨by omega, by omega, by omega⟩ rfl (Nat.le_of_ble_eq_true rfl) dL_law_294 ?_
  refine x_istore_6 K dL_law_297 rfl ?_
  refine x_aload_2 K dL_law_299 ?_
  refine x_aloadc_0 K dL_law_300 ?_
  refine x_iload_5 K dL_law_301 ?_
  refine x_iconst K dL_law_303 ?_
  refine x_iadd K dL_law_304 ?_
  refine x_sld K S (i + 1) (by omega) (by omega) dL_law_305 ?_
  refine x_aloadc_0 K dL_law_306 ?_
  refine x_iload_5 K dL_law_307 ?_
  refine x_iconst K dL_law_309 ?_
  refine x_iadd K dL_law_310 ?_
  refine x_sld K S (i + 2) (by omega) (by omega) dL_law_311 ?_
  refine x_callV2 K h2 mtX7_scrollOf miX7_scrollOf rc14 ⟨by decide, by decide⟩ lkRL_152 ⟨by omega, by omega, by omega⟩ rfl (Nat.le_of_ble_eq_true rfl) dL_law_312 ?_
  refine x_istore_7 K dL_law_315 rfl ?_
  refine x_aload_2 K dL_law_317 ?_
  refine x_callV0 K (c7_thrown kk ht) mtX7_thrown miX7_thrown rc14 ⟨by decide, by decide⟩ lkRL_147 ⟨by omega, by omega, by omega⟩ rfl (Nat.le_of_ble_eq_true rfl) dL_law_318 ?_
  refine x_iload_6 K dL_law_321 ?_
  refine x_icmp_eq (tgt := 328) K (by omega) dL_law_323 (by decide) (fun _ => ?_) (fun h => absurd rfl h)
  refine x_iload_6 K dL_law_328 ?_
  refine x_if_ne (tgt := 345) K (by omega) dL_law_330 (by decide) (fun h0 => ?_) (fun h0 => ?_)
  · refine x_goto (tgt := 2519) K dL_law_345 (by decide) ?_
    exact gWX.fgt 6 (gWX.fgt 7 (gWX.fgt 8 (gWX.le (by omega) (by omega) kn)))
  · have hk0 : kk = 0 := by omega
    refine x_aload_3 K dL_law_333 ?_
    refine x_iconst K dL_law_334 ?_
    refine x_lald K dL_law_335 ?_
    refine gWX.topv (u := .inl (.long (lv vb))) (congrArg (fun x => (Sum.inl (Value.long x) : gV)) (ho hk0)) ?_
    refine x_iload_7 K dL_law_336 ?_
    refine x_i2l K dL_law_338 ?_
    refine x_lcmpE K dL_law_339 ?_
    refine x_if_eq (tgt := 345) K (by omega) dL_law_340 (by decide) (fun _ => ?_) (fun h => absurd rfl h)
    refine x_goto (tgt := 2519) K dL_law_345 (by decide) ?_
    exact gWX.fgt 6 (gWX.fgt 7 (gWX.fgt 8 (gWX.le (by omega) (by omega) kn)))
theorem w_write {X : gM} {E : gE} {D n cells slots b L9 i : Nat} {xs : Nat → Int32} {σ σ1 σ2 : gS} (K : gK X E mL_law D n) (S : hSc X E b L9 xs) (hi5 : i + 5 ≤ L9) (hD : 20 ≤ D) (hc : cells + 1 ≤ n) (hs : slots + 6 ≤ 6 * n) {kk vb : Int} (h1 : hCt E mL_write hhL_write 13 1 [rf 0 0, iv (sx xs (i + 1)), iv (sx xs (i + 2)), iv (sx xs (i + 3)), iv (sx xs (i + 4)), rf 23 0] σ (.inl (some (iv kk))) σ1) (h2 : gCt E mX7_write 12 0 [rf 14 0, iv (sx xs (i + 1)), iv (sx xs (i + 2)), iv (sx xs (i + 3)), iv (sx xs (i + 4))] σ1 (.inl (some (iv vb))) σ2) (hk : 0 ≤ kk ∧ kk ≤ 3) (ht : σ2.1 14 0 7 = kk) (ho : kk = 0 → σ2.2.2.1 = lv vb) (kn : gWX X E (cells + 1) (slots + 6) 2519 (wL b i) [] σ2) : gWX X E cells slots 348 (wL b i) [] σ := by
  refine x_aload_1 K dL_law_348 ?_
  refine x_aloadc_0 K dL_law_349 ?_
  refine x_iload_5 K dL_law_350 ?_
  refine x_iconst K dL_law_352 ?_
  refine x_iadd K dL_law_353 ?_
  refine x_sld K S (i + 1) (by omega) (by omega) dL_law_354 ?_
  refine x_aloadc_0 K dL_law_355 ?_
  refine x_iload_5 K dL_law_356 ?_
  refine x_iconst K dL_law_358 ?_
  refine x_iadd K dL_law_359 ?_
  refine x_sld K S (i + 2) (by omega) (by omega) dL_law_360 ?_
  refine x_aloadc_0 K dL_law_361 ?_
  refine x_iload_5 K dL_law_362 ?_
  refine x_iconst K dL_law_364 ?_
  refine x_iadd K dL_law_365 ?_
  refine x_sld K S (i + 3) (by omega) (by omega) dL_law_366 ?_
  refine x_aloadc_0 K dL_law_367 ?_
  refine x_iload_5 K dL_law_368 ?_
  refine x_iconst K dL_law_370 ?_
  refine x_iadd K dL_law_371 ?_
  refine x_sld K S (i + 4) (by omega) (by omega) dL_law_372 ?_
  refine x_aload_3 K dL_law_373 ?_
  refine x_callH6 K h1 mtL_write msL_write (g_mem 604 (by decide +kernel)) ⟨by omega, by omega, by omega⟩ rfl (Nat.le_of_ble_eq_true rfl) dL_law_374 ?_
  refine x_istore_6 K dL_law_377 rfl ?_
  refine x_aload_2 K dL_law_379 ?_
  refine x_aloadc_0 K dL_law_380 ?_
  refine x_iload_5 K dL_law_381 ?_
  refine x_iconst K dL_law_383 ?_
  refine x_iadd K dL_law_384 ?_
  refine x_sld K S (i + 1) (by omega) (by omega) dL_law_385 ?_
  refine x_aloadc_0 K dL_law_386 ?_
  refine x_iload_5 K dL_law_387 ?_
  refine x_iconst K dL_law_389 ?_
  refine x_iadd K dL_law_390 ?_
  refine x_sld K S (i + 2) (by omega) (by omega) dL_law_391 ?_
  refine x_aloadc_0 K dL_law_392 ?_
  refine x_iload_5 K dL_law_393 ?_
  refine x_iconst K dL_law_395 ?_
  refine x_iadd K dL_law_396 ?_
  refine x_sld K S (i + 3) (by omega) (by omega) dL_law_397 ?_
  refine x_aloadc_0 K dL_law_398 ?_
  refine x_iload_5 K dL_law_399 ?_
  refine x_iconst K dL_law_401 ?_
  refine x_iadd K dL_law_402 ?_
  refine x_sld K S (i + 4) (by omega) (by omega) dL_law_403 ?_
  refine x_callV4 K h2 mtX7_write miX7_write rc14 ⟨by decide, by decide⟩ lkRL_156 ⟨by omega, by omega, by omega⟩ rfl (Nat.le_of_ble_eq_true rfl) dL_law_404 ?_
  refine x_istore_7 K dL_law_407 rfl ?_
  refine x_aload_2 K dL_law_409 ?_
  refine x_callV0 K (c7_thrown kk ht) mtX7_thrown miX7_thrown rc14 ⟨by decide, by decide⟩ lkRL_147 ⟨by omega, by omega, by omega⟩ rfl (Nat.le_of_ble_eq_true rfl) dL_law_410 ?_
  refine x_iload_6 K dL_law_413 ?_
  refine x_icmp_eq (tgt := 420) K (by omega) dL_law_415 (by decide) (fun _ => ?_) (fun h => absurd rfl h)
  refine x_iload_6 K dL_law_420 ?_
  refine x_if_ne (tgt := 437) K (by omega) dL_law_422 (by decide) (fun h0 => ?_) (fun h0 => ?_)
  · refine x_goto (tgt := 2519) K dL_law_437 (by decide) ?_
    exact gWX.fgt 6 (gWX.fgt 7 (gWX.fgt 8 (gWX.le (by omega) (by omega) kn)))
  · have hk0 : kk = 0 := by omega
    refine x_aload_3 K dL_law_425 ?_
    refine x_iconst K dL_law_426 ?_
    refine x_lald K dL_law_427 ?_
    refine gWX.topv (u := .inl (.long (lv vb))) (congrArg (fun x => (Sum.inl (Value.long x) : gV)) (ho hk0)) ?_
    refine x_iload_7 K dL_law_428 ?_
    refine x_i2l K dL_law_430 ?_
    refine x_lcmpE K dL_law_431 ?_
    refine x_if_eq (tgt := 437) K (by omega) dL_law_432 (by decide) (fun _ => ?_) (fun h => absurd rfl h)
    refine x_goto (tgt := 2519) K dL_law_437 (by decide) ?_
    exact gWX.fgt 6 (gWX.fgt 7 (gWX.fgt 8 (gWX.le (by omega) (by omega) kn)))
theorem w_signAt {X : gM} {E : gE} {D n cells slots b L9 i : Nat} {xs : Nat → Int32} {σ σ1 σ2 : gS} (K : gK X E mL_law D n) (S : hSc X E b L9 xs) (hi5 : i + 5 ≤ L9) (hD : 20 ≤ D) (hc : cells + 1 ≤ n) (hs : slots + 6 ≤ 6 * n) {kk vb : Int} (h1 : hCt E mL_signAt hhL_signAt 13 1 [rf 0 0, iv (sx xs (i + 1)), iv (sx xs (i + 2)), iv (sx xs (i + 3)), rf 23 0] σ (.inl (some (iv kk))) σ1) (h2 : gCt E mX7_signAt 12 0 [rf 14 0, iv (sx xs (i + 1)), iv (sx xs (i + 2)), iv (sx xs (i + 3))] σ1 (.inl (some (iv vb))) σ2) (hk : 0 ≤ kk ∧ kk ≤ 3) (ht : σ2.1 14 0 7 = kk) (ho : kk = 0 → σ2.2.2.1 = lv vb) (kn : gWX X E (cells + 1) (slots + 6) 2519 (wL b i) [] σ2) : gWX X E cells slots 440 (wL b i) [] σ := by
  refine x_aload_1 K dL_law_440 ?_
  refine x_aloadc_0 K dL_law_441 ?_
  refine x_iload_5 K dL_law_442 ?_
  refine x_iconst K dL_law_444 ?_
  refine x_iadd K dL_law_445 ?_
  refine x_sld K S (i + 1) (by omega) (by omega) dL_law_446 ?_
  refine x_aloadc_0 K dL_law_447 ?_
  refine x_iload_5 K dL_law_448 ?_
  refine x_iconst K dL_law_450 ?_
  refine x_iadd K dL_law_451 ?_
  refine x_sld K S (i + 2) (by omega) (by omega) dL_law_452 ?_
  refine x_aloadc_0 K dL_law_453 ?_
  refine x_iload_5 K dL_law_454 ?_
  refine x_iconst K dL_law_456 ?_
  refine x_iadd K dL_law_457 ?_
  refine x_sld K S (i + 3) (by omega) (by omega) dL_law_458 ?_
  refine x_aload_3 K dL_law_459 ?_
  refine x_callH5 K h1 mtL_signAt msL_signAt (g_mem 613 (by decide +kernel)) ⟨by omega, by omega, by omega⟩ rfl (Nat.le_of_ble_eq_true rfl) dL_law_460 ?_
  refine x_istore_6 K dL_law_463 rfl ?_
  refine x_aload_2 K dL_law_465 ?_
  refine x_aloadc_0 K dL_law_466 ?_
  refine x_iload_5 K dL_law_467 ?_
  refine x_iconst K dL_law_469 ?_
  refine x_iadd K dL_law_470 ?_
  refine x_sld K S (i + 1) (by omega) (by omega) dL_law_471 ?_
  refine x_aloadc_0 K dL_law_472 ?_
  refine x_iload_5 K dL_law_473 ?_
  refine x_iconst K dL_law_475 ?_
  refine x_iadd K dL_law_476 ?_
  refine x_sld K S (i + 2) (by omega) (by omega) dL_law_477 ?_
  refine x_aloadc_0 K dL_law_478 ?_
  refine x_iload_5 K dL_law_479 ?_
  refine x_iconst K dL_law_481 ?_
  refine x_iadd K dL_law_482 ?_
  refine x_sld K S (i + 3) (by omega) (by omega) dL_law_483 ?_
  refine x_callV3 K h2 mtX7_signAt miX7_signAt rc14 ⟨by decide, by decide⟩ lkRL_160 ⟨by omega, by omega, by omega⟩ rfl (Nat.le_of_ble_eq_true rfl) dL_law_484 ?_
  refine x_istore_7 K dL_law_487 rfl ?_
  refine x_aload_2 K dL_law_489 ?_
  refine x_callV0 K (c7_thrown kk ht) mtX7_thrown miX7_thrown rc14 ⟨by decide, by decide⟩ lkRL_147 ⟨by omega, by omega, by omega⟩ rfl (Nat.le_of_ble_eq_true rfl) dL_law_490 ?_
  refine x_iload_6 K dL_law_493 ?_
  refine x_icmp_eq (tgt := 500) K (by omega) dL_law_495 (by decide) (fun _ => ?_) (fun h => absurd rfl h)
  refine x_iload_6 K dL_law_500 ?_
  refine x_if_ne (tgt := 517) K (by omega) dL_law_502 (by decide) (fun h0 => ?_) (fun h0 => ?_)
  · refine x_goto (tgt := 2519) K dL_law_517 (by decide) ?_
    exact gWX.fgt 6 (gWX.fgt 7 (gWX.fgt 8 (gWX.le (by omega) (by omega) kn)))
  · have hk0 : kk = 0 := by omega
    refine x_aload_3 K dL_law_505 ?_
    refine x_iconst K dL_law_506 ?_
    refine x_lald K dL_law_507 ?_
    refine gWX.topv (u := .inl (.long (lv vb))) (congrArg (fun x => (Sum.inl (Value.long x) : gV)) (ho hk0)) ?_
    refine x_iload_7 K dL_law_508 ?_
    refine x_i2l K dL_law_510 ?_
    refine x_lcmpE K dL_law_511 ?_
    refine x_if_eq (tgt := 517) K (by omega) dL_law_512 (by decide) (fun _ => ?_) (fun h => absurd rfl h)
    refine x_goto (tgt := 2519) K dL_law_517 (by decide) ?_
    exact gWX.fgt 6 (gWX.fgt 7 (gWX.fgt 8 (gWX.le (by omega) (by omega) kn)))
theorem w_seal {X : gM} {E : gE} {D n cells slots b L9 i : Nat} {xs : Nat → Int32} {σ σ1 σ2 : gS} (K : gK X E mL_law D n) (S : hSc X E b L9 xs) (hi5 : i + 5 ≤ L9) (hD : 20 ≤ D) (hc : cells + 1 ≤ n) (hs : slots + 6 ≤ 6 * n) {kk vb : Int} (h1 : hCt E mL_seal hhL_seal 13 1 [rf 0 0, iv (sx xs (i + 1)), rf 23 0] σ (.inl (some (iv kk))) σ1) (h2 : gCt E mX7_seal 12 0 [rf 14 0, iv (sx xs (i + 1))] σ1 (.inl (some (iv vb))) σ2) (hk : 0 ≤ kk ∧ kk ≤ 3) (ht : σ2.1 14 0 7 = kk) (ho : kk = 0 → σ2.2.2.1 = lv vb) (kn : gWX X E (cells + 1) (slots + 6) 2519 (wL b i) [] σ2) : gWX X E cells slots 520 (wL b i) [] σ := by
  refine x_aload_1 K dL_law_520 ?_
  refine x_aloadc_0 K dL_law_521 ?_
  refine x_iload_5 K dL_law_522 ?_
  refine x_iconst K dL_law_524 ?_
  refine x_iadd K dL_law_525 ?_
  refine x_sld K S (i + 1) (by omega) (by omega) dL_law_526 ?_
  refine x_aload_3 K dL_law_527 ?_
  refine x_callH3 K h1 mtL_seal msL_seal (g_mem 627 (by decide +kernel)) ⟨by omega, by omega, by omega⟩ rfl (Nat.le_of_ble_eq_true rfl) dL_law_528 ?_
  refine x_istore_6 K dL_law_531 rfl ?_
  refine x_aload_2 K dL_law_533 ?_
  refine x_aloadc_0 K dL_law_534 ?_
  refine x_iload_5 K dL_law_535 ?_
  refine x_iconst K dL_law_537 ?_
  refine x_iadd K dL_law_538 ?_
  refine x_sld K S (i + 1) (by omega) (by omega) dL_law_539 ?_
  refine x_callV1 K h2 mtX7_seal miX7_seal rc14 ⟨by decide, by decide⟩ lkRL_164 ⟨by omega, by omega, by omega⟩ rfl (Nat.le_of_ble_eq_true rfl) dL_law_540 ?_
  refine x_istore_7 K dL_law_543 rfl ?_
  refine x_aload_2 K dL_law_545 ?_
  refine x_callV0 K (c7_thrown kk ht) mtX7_thrown miX7_thrown rc14 ⟨by decide, by decide⟩ lkRL_147 ⟨by omega, by omega, by omega⟩ rfl (Nat.le_of_ble_eq_true rfl) dL_law_546 ?_
  refine x_iload_6 K dL_law_549 ?_
  refine x_icmp_eq (tgt := 556) K (by omega) dL_law_551 (by decide) (fun _ => ?_) (fun h => absurd rfl h)
  refine x_iload_6 K dL_law_556 ?_
  refine x_if_ne (tgt := 573) K (by omega) dL_law_558 (by decide) (fun h0 => ?_) (fun h0 => ?_)
  · refine x_goto (tgt := 2519) K dL_law_573 (by decide) ?_
    exact gWX.fgt 6 (gWX.fgt 7 (gWX.fgt 8 (gWX.le (by omega) (by omega) kn)))
  · have hk0 : kk = 0 := by omega
    refine x_aload_3 K dL_law_561 ?_
    refine x_iconst K dL_law_562 ?_
    refine x_lald K dL_law_563 ?_
    refine gWX.topv (u := .inl (.long (lv vb))) (congrArg (fun x => (Sum.inl (Value.long x) : gV)) (ho hk0)) ?_
    refine x_iload_7 K dL_law_564 ?_
    refine x_i2l K dL_law_566 ?_
    refine x_lcmpE K dL_law_567 ?_
    refine x_if_eq (tgt := 573) K (by omega) dL_law_568 (by decide) (fun _ => ?_) (fun h => absurd rfl h)
    refine x_goto (tgt := 2519) K dL_law_573 (by decide) ?_
    exact gWX.fgt 6 (gWX.fgt 7 (gWX.fgt 8 (gWX.le (by omega) (by omega) kn)))
theorem w_copy {X : gM} {E : gE} {D n cells slots b L9 i : Nat} {xs : Nat → Int32} {σ σ1 σ2 : gS} (K : gK X E mL_law D n) (S : hSc X E b L9 xs) (hi5 : i + 5 ≤ L9) (hD : 20 ≤ D) (hc : cells + 1 ≤ n) (hs : slots + 6 ≤ 6 * n) {kk vb : Int} (h1 : hCt E mL_copy hhL_copy 13 1 [rf 0 0, iv (sx xs (i + 1)), rf 23 0] σ (.inl (some (iv kk))) σ1) (h2 : gCt E mX7_copy 12 0 [rf 14 0, iv (sx xs (i + 1))] σ1 (.inl (some (iv vb))) σ2) (hk : 0 ≤ kk ∧ kk ≤ 3) (ht : σ2.1 14 0 7 = kk) (ho : kk = 0 → σ2.2.2.1 = lv vb) (kn : gWX X E (cells + 1) (slots + 6) 2519 (wL b i) [] σ2) : gWX X E cells slots 576 (wL b i) [] σ := by
  refine x_aload_1 K dL_law_576 ?_
  refine x_aloadc_0 K dL_law_577 ?_
  refine x_iload_5 K dL_law_578 ?_
  refine x_iconst K dL_law_580 ?_
  refine x_iadd K dL_law_581 ?_
  refine x_sld K S (i + 1) (by omega) (by omega) dL_law_582 ?_
  refine x_aload_3 K dL_law_583 ?_
  refine x_callH3 K h1 mtL_copy msL_copy (g_mem 636 (by decide +kernel)) ⟨by omega, by omega, by omega⟩ rfl (Nat.le_of_ble_eq_true rfl) dL_law_584 ?_
  refine x_istore_6 K dL_law_587 rfl ?_
  refine x_aload_2 K dL_law_589 ?_
  refine x_aloadc_0 K dL_law_590 ?_
  refine x_iload_5 K dL_law_591 ?_
  refine x_iconst K dL_law_593 ?_
  refine x_iadd K dL_law_594 ?_
  refine x_sld K S (i + 1) (by omega) (by omega) dL_law_595 ?_
  refine x_callV1 K h2 mtX7_copy miX7_copy rc14 ⟨by decide, by decide⟩ lkRL_167 ⟨by omega, by omega, by omega⟩ rfl (Nat.le_of_ble_eq_true rfl) dL_law_596 ?_
  refine x_istore_7 K dL_law_599 rfl ?_
  refine x_aload_2 K dL_law_601 ?_
  refine x_callV0 K (c7_thrown kk ht) mtX7_thrown miX7_thrown rc14 ⟨by decide, by decide⟩ lkRL_147 ⟨by omega, by omega, by omega⟩ rfl (Nat.le_of_ble_eq_true rfl) dL_law_602 ?_
  refine x_iload_6 K dL_law_605 ?_
  refine x_icmp_eq (tgt := 612) K (by omega) dL_law_607 (by decide) (fun _ => ?_) (fun h => absurd rfl h)
  refine x_iload_6 K dL_law_612 ?_
  refine x_if_ne (tgt := 629) K (by omega) dL_law_614 (by decide) (fun h0 => ?_) (fun h0 => ?_)
  · refine x_goto (tgt := 2519) K dL_law_629 (by decide) ?_
    exact gWX.fgt 6 (gWX.fgt 7 (gWX.fgt 8 (gWX.le (by omega) (by omega) kn)))
  · have hk0 : kk = 0 := by omega
    refine x_aload_3 K dL_law_617 ?_
    refine x_iconst K dL_law_618 ?_
    refine x_lald K dL_law_619 ?_
    refine gWX.topv (u := .inl (.long (lv vb))) (congrArg (fun x => (Sum.inl (Value.long x) : gV)) (ho hk0)) ?_
    refine x_iload_7 K dL_law_620 ?_
    refine x_i2l K dL_law_622 ?_
    refine x_lcmpE K dL_law_623 ?_
    refine x_if_eq (tgt := 629) K (by omega) dL_law_624 (by decide) (fun _ => ?_) (fun h => absurd rfl h)
    refine x_goto (tgt := 2519) K dL_law_629 (by decide) ?_
    exact gWX.fgt 6 (gWX.fgt 7 (gWX.fgt 8 (gWX.le (by omega) (by omega) kn)))
theorem w_slip {X : gM} {E : gE} {D n cells slots b L9 i : Nat} {xs : Nat → Int32} {σ σ1 σ2 : gS} (K : gK X E mL_law D n) (S : hSc X E b L9 xs) (hi5 : i + 5 ≤ L9) (hD : 20 ≤ D) (hc : cells + 1 ≤ n) (hs : slots + 6 ≤ 6 * n) {kk vb : Int} (h1 : hCt E mL_slip hhL_slip 13 1 [rf 0 0, iv (sx xs (i + 1)), iv (sx xs (i + 2)), iv (sx xs (i + 3)), iv (sx xs (i + 4)), rf 23 0] σ (.inl (some (iv kk))) σ1) (h2 : gCt E mX7_slip 12 0 [rf 14 0, iv (sx xs (i + 1)), iv (sx xs (i + 2)), iv (sx xs (i + 3)), iv (sx xs (i + 4))] σ1 (.inl (some (iv vb))) σ2) (hk : 0 ≤ kk ∧ kk ≤ 3) (ht : σ2.1 14 0 7 = kk) (ho : kk = 0 → σ2.2.2.1 = lv vb) (kn : gWX X E (cells + 1) (slots + 6) 2519 (wL b i) [] σ2) : gWX X E cells slots 632 (wL b i) [] σ := by
  refine x_aload_1 K dL_law_632 ?_
  refine x_aloadc_0 K dL_law_633 ?_
  refine x_iload_5 K dL_law_634 ?_
  refine x_iconst K dL_law_636 ?_
  refine x_iadd K dL_law_637 ?_
  refine x_sld K S (i + 1) (by omega) (by omega) dL_law_638 ?_
  refine x_aloadc_0 K dL_law_639 ?_
  refine x_iload_5 K dL_law_640 ?_
  refine x_iconst K dL_law_642 ?_
  refine x_iadd K dL_law_643 ?_
  refine x_sld K S (i + 2) (by omega) (by omega) dL_law_644 ?_
  refine x_aloadc_0 K dL_law_645 ?_
  refine x_iload_5 K dL_law_646 ?_
  refine x_iconst K dL_law_648 ?_
  refine x_iadd K dL_law_649 ?_
  refine x_sld K S (i + 3) (by omega) (by omega) dL_law_650 ?_
  refine x_aloadc_0 K dL_law_651 ?_
  refine x_iload_5 K dL_law_652 ?_
  refine x_iconst K dL_law_654 ?_
  refine x_iadd K dL_law_655 ?_
  refine x_sld K S (i + 4) (by omega) (by omega) dL_law_656 ?_
  refine x_aload_3 K dL_law_657 ?_
  refine x_callH6 K h1 mtL_slip msL_slip (g_mem 645 (by decide +kernel)) ⟨by omega, by omega, by omega⟩ rfl (Nat.le_of_ble_eq_true rfl) dL_law_658 ?_
  refine x_istore_6 K dL_law_661 rfl ?_
  refine x_aload_2 K dL_law_663 ?_
  refine x_aloadc_0 K dL_law_664 ?_
  refine x_iload_5 K dL_law_665 ?_
  refine x_iconst K dL_law_667 ?_
  refine x_iadd K dL_law_668 ?_
  refine x_sld K S (i + 1) (by omega) (by omega) dL_law_669 ?_
  refine x_aloadc_0 K dL_law_670 ?_
  refine x_iload_5 K dL_law_671 ?_
  refine x_iconst K dL_law_673 ?_
  refine x_iadd K dL_law_674 ?_
  refine x_sld K S (i + 2) (by omega) (by omega) dL_law_675 ?_
  refine x_aloadc_0 K dL_law_676 ?_
  refine x_iload_5 K dL_law_677 ?_
  refine x_iconst K dL_law_679 ?_
  refine x_iadd K dL_law_680 ?_
  refine x_sld K S (i + 3) (by omega) (by omega) dL_law_681 ?_
  refine x_aloadc_0 K dL_law_682 ?_
  refine x_iload_5 K dL_law_683 ?_
  refine x_iconst K dL_law_685 ?_
  refine x_iadd K dL_law_686 ?_
  refine x_sld K S (i + 4) (by omega) (by omega) dL_law_687 ?_
  refine x_callV4 K h2 mtX7_slip miX7_slip rc14 ⟨by decide, by decide⟩ lkRL_170 ⟨by omega, by omega, by omega⟩ rfl (Nat.le_of_ble_eq_true rfl) dL_law_688 ?_
  refine x_istore_7 K dL_law_691 rfl ?_
  refine x_aload_2 K dL_law_693 ?_
  refine x_callV0 K (c7_thrown kk ht) mtX7_thrown miX7_thrown rc14 ⟨by decide, by decide⟩ lkRL_147 ⟨by omega, by omega, by omega⟩ rfl (Nat.le_of_ble_eq_true rfl) dL_law_694 ?_
  refine x_iload_6 K dL_law_697 ?_
  refine x_icmp_eq (tgt := 704) K (by omega) dL_law_699 (by decide) (fun _ => ?_) (fun h => absurd rfl h)
  refine x_iload_6 K dL_law_704 ?_
  refine x_if_ne (tgt := 721) K (by omega) dL_law_706 (by decide) (fun h0 => ?_) (fun h0 => ?_)
  · refine x_goto (tgt := 2519) K dL_law_721 (by decide) ?_
    exact gWX.fgt 6 (gWX.fgt 7 (gWX.fgt 8 (gWX.le (by omega) (by omega) kn)))
  · have hk0 : kk = 0 := by omega
    refine x_aload_3 K dL_law_709 ?_
    refine x_iconst K dL_law_710 ?_
    refine x_lald K dL_law_711 ?_
    refine gWX.topv (u := .inl (.long (lv vb))) (congrArg (fun x => (Sum.inl (Value.long x) : gV)) (ho hk0)) ?_
    refine x_iload_7 K dL_law_712 ?_
    refine x_i2l K dL_law_714 ?_
    refine x_lcmpE K dL_law_715 ?_
    refine x_if_eq (tgt := 721) K (by omega) dL_law_716 (by decide) (fun _ => ?_) (fun h => absurd rfl h)
    refine x_goto (tgt := 2519) K dL_law_721 (by decide) ?_
    exact gWX.fgt 6 (gWX.fgt 7 (gWX.fgt 8 (gWX.le (by omega) (by omega) kn)))
theorem w_smudge {X : gM} {E : gE} {D n cells slots b L9 i : Nat} {xs : Nat → Int32} {σ σ1 σ2 : gS} (K : gK X E mL_law D n) (S : hSc X E b L9 xs) (hi5 : i + 5 ≤ L9) (hD : 20 ≤ D) (hc : cells + 1 ≤ n) (hs : slots + 6 ≤ 6 * n) {kk vb : Int} (h1 : hCt E mL_smudge hhL_smudge 13 1 [rf 0 0, iv (sx xs (i + 1)), iv (sx xs (i + 2)), iv (sx xs (i + 3)), rf 23 0] σ (.inl (some (iv kk))) σ1) (h2 : gCt E mX7_smudge 12 0 [rf 14 0, iv (sx xs (i + 1)), iv (sx xs (i + 2)), iv (sx xs (i + 3))] σ1 (.inl (some (iv vb))) σ2) (hk : 0 ≤ kk ∧ kk ≤ 3) (ht : σ2.1 14 0 7 = kk) (ho : kk = 0 → σ2.2.2.1 = lv vb) (kn : gWX X E (cells + 1) (slots + 6) 2519 (wL b i) [] σ2) : gWX X E cells slots 724 (wL b i) [] σ := by
  refine x_aload_1 K dL_law_724 ?_
  refine x_aloadc_0 K dL_law_725 ?_
  refine x_iload_5 K dL_law_726 ?_
  refine x_iconst K dL_law_728 ?_
  refine x_iadd K dL_law_729 ?_
  refine x_sld K S (i + 1) (by omega) (by omega) dL_law_730 ?_
  refine x_aloadc_0 K dL_law_731 ?_
  refine x_iload_5 K dL_law_732 ?_
  refine x_iconst K dL_law_734 ?_
  refine x_iadd K dL_law_735 ?_
  refine x_sld K S (i + 2) (by omega) (by omega) dL_law_736 ?_
  refine x_aloadc_0 K dL_law_737 ?_
  refine x_iload_5 K dL_law_738 ?_
  refine x_iconst K dL_law_740 ?_
  refine x_iadd K dL_law_741 ?_
  refine x_sld K S (i + 3) (by omega) (by omega) dL_law_742 ?_
  refine x_aload_3 K dL_law_743 ?_
  refine x_callH5 K h1 mtL_smudge msL_smudge (g_mem 654 (by decide +kernel)) ⟨by omega, by omega, by omega⟩ rfl (Nat.le_of_ble_eq_true rfl) dL_law_744 ?_
  refine x_istore_6 K dL_law_747 rfl ?_
  refine x_aload_2 K dL_law_749 ?_
  refine x_aloadc_0 K dL_law_750 ?_
  refine x_iload_5 K dL_law_751 ?_
  refine x_iconst K dL_law_753 ?_
  refine x_iadd K dL_law_754 ?_
  refine x_sld K S (i + 1) (by omega) (by omega) dL_law_755 ?_
  refine x_aloadc_0 K dL_law_756 ?_
  refine x_iload_5 K dL_law_757 ?_
  refine x_iconst K dL_law_759 ?_
  refine x_iadd K dL_law_760 ?_
  refine x_sld K S (i + 2) (by omega) (by omega) dL_law_761 ?_
  refine x_aloadc_0 K dL_law_762 ?_
  refine x_iload_5 K dL_law_763 ?_
  refine x_iconst K dL_law_765 ?_
  refine x_iadd K dL_law_766 ?_
  refine x_sld K S (i + 3) (by omega) (by omega) dL_law_767 ?_
  refine x_callV3 K h2 mtX7_smudge miX7_smudge rc14 ⟨by decide, by decide⟩ lkRL_173 ⟨by omega, by omega, by omega⟩ rfl (Nat.le_of_ble_eq_true rfl) dL_law_768 ?_
  refine x_istore_7 K dL_law_771 rfl ?_
  refine x_aload_2 K dL_law_773 ?_
  refine x_callV0 K (c7_thrown kk ht) mtX7_thrown miX7_thrown rc14 ⟨by decide, by decide⟩ lkRL_147 ⟨by omega, by omega, by omega⟩ rfl (Nat.le_of_ble_eq_true rfl) dL_law_774 ?_
  refine x_iload_6 K dL_law_777 ?_
  refine x_icmp_eq (tgt := 784) K (by omega) dL_law_779 (by decide) (fun _ => ?_) (fun h => absurd rfl h)
  refine x_iload_6 K dL_law_784 ?_
  refine x_if_ne (tgt := 801) K (by omega) dL_law_786 (by decide) (fun h0 => ?_) (fun h0 => ?_)
  · refine x_goto (tgt := 2519) K dL_law_801 (by decide) ?_
    exact gWX.fgt 6 (gWX.fgt 7 (gWX.fgt 8 (gWX.le (by omega) (by omega) kn)))
  · have hk0 : kk = 0 := by omega
    refine x_aload_3 K dL_law_789 ?_
    refine x_iconst K dL_law_790 ?_
    refine x_lald K dL_law_791 ?_
    refine gWX.topv (u := .inl (.long (lv vb))) (congrArg (fun x => (Sum.inl (Value.long x) : gV)) (ho hk0)) ?_
    refine x_iload_7 K dL_law_792 ?_
    refine x_i2l K dL_law_794 ?_
    refine x_lcmpE K dL_law_795 ?_
    refine x_if_eq (tgt := 801) K (by omega) dL_law_796 (by decide) (fun _ => ?_) (fun h => absurd rfl h)
    refine x_goto (tgt := 2519) K dL_law_801 (by decide) ?_
    exact gWX.fgt 6 (gWX.fgt 7 (gWX.fgt 8 (gWX.le (by omega) (by omega) kn)))
theorem w_rowSum {X : gM} {E : gE} {D n cells slots b L9 i : Nat} {xs : Nat → Int32} {σ σ1 σ2 : gS} (K : gK X E mL_law D n) (S : hSc X E b L9 xs) (hi5 : i + 5 ≤ L9) (hD : 20 ≤ D) (hc : cells + 1 ≤ n) (hs : slots + 6 ≤ 6 * n) {kk vb : Int} (h1 : hCt E mL_rowSum hhL_rowSum 13 1 [rf 0 0, iv (sx xs (i + 1)), iv (sx xs (i + 2)), rf 23 0] σ (.inl (some (iv kk))) σ1) (h2 : gCt E mX7_rowSum 12 0 [rf 14 0, iv (sx xs (i + 1)), iv (sx xs (i + 2))] σ1 (.inl (some (iv vb))) σ2) (hk : 0 ≤ kk ∧ kk ≤ 3) (ht : σ2.1 14 0 7 = kk) (ho : kk = 0 → σ2.2.2.1 = lv vb) (kn : gWX X E (cells + 1) (slots + 6) 2519 (wL b i) [] σ2) : gWX X E cells slots 804 (wL b i) [] σ := by
  refine x_aload_1 K dL_law_804 ?_
  refine x_aloadc_0 K dL_law_805 ?_
  refine x_iload_5 K dL_law_806 ?_
  refine x_iconst K dL_law_808 ?_
  refine x_iadd K dL_law_809 ?_
  refine x_sld K S (i + 1) (by omega) (by omega) dL_law_810 ?_
  refine x_aloadc_0 K dL_law_811 ?_
  refine x_iload_5 K dL_law_812 ?_
  refine x_iconst K dL_law_814 ?_
  refine x_iadd K dL_law_815 ?_
  refine x_sld K S (i + 2) (by omega) (by omega) dL_law_816 ?_
  refine x_aload_3 K dL_law_817 ?_
  refine x_callH4 K h1 mtL_rowSum msL_rowSum (g_mem 663 (by decide +kernel)) ⟨by omega, by omega, by omega⟩ rfl (Nat.le_of_ble_eq_true rfl) dL_law_818 ?_
  refine x_istore_6 K dL_law_821 rfl ?_
  refine x_aload_2 K dL_law_823 ?_
  refine x_aloadc_0 K dL_law_824 ?_
  refine x_iload_5 K dL_law_825 ?_
  refine x_iconst K dL_law_827 ?_
  refine x_iadd K dL_law_828 ?_
  refine x_sld K S (i + 1) (by omega) (by omega) dL_law_829 ?_
  refine x_aloadc_0 K dL_law_830 ?_
  refine x_iload_5 K dL_law_831 ?_
  refine x_iconst K dL_law_833 ?_
  refine x_iadd K dL_law_834 ?_
  refine x_sld K S (i + 2) (by omega) (by omega) dL_law_835 ?_
  refine x_callV2 K h2 mtX7_rowSum miX7_rowSum rc14 ⟨by decide, by decide⟩ lkRL_176 ⟨by omega, by omega, by omega⟩ rfl (Nat.le_of_ble_eq_true rfl) dL_law_836 ?_
  refine x_istore_7 K dL_law_839 rfl ?_
  refine x_aload_2 K dL_law_841 ?_
  refine x_callV0 K (c7_thrown kk ht) mtX7_thrown miX7_thrown rc14 ⟨by decide, by decide⟩ lkRL_147 ⟨by omega, by omega, by omega⟩ rfl (Nat.le_of_ble_eq_true rfl) dL_law_842 ?_
  refine x_iload_6 K dL_law_845 ?_
  refine x_icmp_eq (tgt := 852) K (by omega) dL_law_847 (by decide) (fun _ => ?_) (fun h => absurd rfl h)
  refine x_iload_6 K dL_law_852 ?_
  refine x_if_ne (tgt := 869) K (by omega) dL_law_854 (by decide) (fun h0 => ?_) (fun h0 => ?_)
  · refine x_goto (tgt := 2519) K dL_law_869 (by decide) ?_
    exact gWX.fgt 6 (gWX.fgt 7 (gWX.fgt 8 (gWX.le (by omega) (by omega) kn)))
  · have hk0 : kk = 0 := by omega
    refine x_aload_3 K dL_law_857 ?_
    refine x_iconst K dL_law_858 ?_
    refine x_lald K dL_law_859 ?_
    refine gWX.topv (u := .inl (.long (lv vb))) (congrArg (fun x => (Sum.inl (Value.long x) : gV)) (ho hk0)) ?_
    refine x_iload_7 K dL_law_860 ?_
    refine x_i2l K dL_law_862 ?_
    refine x_lcmpE K dL_law_863 ?_
    refine x_if_eq (tgt := 869) K (by omega) dL_law_864 (by decide) (fun _ => ?_) (fun h => absurd rfl h)
    refine x_goto (tgt := 2519) K dL_law_869 (by decide) ?_
    exact gWX.fgt 6 (gWX.fgt 7 (gWX.fgt 8 (gWX.le (by omega) (by omega) kn)))
theorem w_columnSum {X : gM} {E : gE} {D n cells slots b L9 i : Nat} {xs : Nat → Int32} {σ σ1 σ2 : gS} (K : gK X E mL_law D n) (S : hSc X E b L9 xs) (hi5 : i + 5 ≤ L9) (hD : 20 ≤ D) (hc : cells + 1 ≤ n) (hs : slots + 6 ≤ 6 * n) {kk vb : Int} (h1 : hCt E mL_columnSum hhL_columnSum 13 1 [rf 0 0, iv (sx xs (i + 1)), iv (sx xs (i + 2)), rf 23 0] σ (.inl (some (iv kk))) σ1) (h2 : gCt E mX7_columnSum 12 0 [rf 14 0, iv (sx xs (i + 1)), iv (sx xs (i + 2))] σ1 (.inl (some (iv vb))) σ2) (hk : 0 ≤ kk ∧ kk ≤ 3) (ht : σ2.1 14 0 7 = kk) (ho : kk = 0 → σ2.2.2.1 = lv vb) (kn : gWX X E (cells + 1) (slots + 6) 2519 (wL b i) [] σ2) : gWX X E cells slots 872 (wL b i) [] σ := by
  refine x_aload_1 K dL_law_872 ?_
  refine x_aloadc_0 K dL_law_873 ?_
  refine x_iload_5 K dL_law_874 ?_
  refine x_iconst K dL_law_876 ?_
  refine x_iadd K dL_law_877 ?_
  refine x_sld K S (i + 1) (by omega) (by omega) dL_law_878 ?_
  refine x_aloadc_0 K dL_law_879 ?_
  refine x_iload_5 K dL_law_880 ?_
  refine x_iconst K dL_law_882 ?_
  refine x_iadd K dL_law_883 ?_
  refine x_sld K S (i + 2) (by omega) (by omega) dL_law_884 ?_
  refine x_aload_3 K dL_law_885 ?_
  refine x_callH4 K h1 mtL_columnSum msL_columnSum (g_mem 697 (by decide +kernel)) ⟨by omega, by omega, by omega⟩ rfl (Nat.le_of_ble_eq_true rfl) dL_law_886 ?_
  refine x_istore_6 K dL_law_889 rfl ?_
  refine x_aload_2 K dL_law_891 ?_
  refine x_aloadc_0 K dL_law_892 ?_
  refine x_iload_5 K dL_law_893 ?_
  refine x_iconst K dL_law_895 ?_
  refine x_iadd K dL_law_896 ?_
  refine x_sld K S (i + 1) (by omega) (by omega) dL_law_897 ?_
  refine x_aloadc_0 K dL_law_898 ?_
  refine x_iload_5 K dL_law_899 ?_
  refine x_iconst K dL_law_901 ?_
  refine x_iadd K dL_law_902 ?_
  refine x_sld K S (i + 2) (by omega) (by omega) dL_law_903 ?_
  refine x_callV2 K h2 mtX7_columnSum miX7_columnSum rc14 ⟨by decide, by decide⟩ lkRL_179 ⟨by omega, by omega, by omega⟩ rfl (Nat.le_of_ble_eq_true rfl) dL_law_904 ?_
  refine x_istore_7 K dL_law_907 rfl ?_
  refine x_aload_2 K dL_law_909 ?_
  refine x_callV0 K (c7_thrown kk ht) mtX7_thrown miX7_thrown rc14 ⟨by decide, by decide⟩ lkRL_147 ⟨by omega, by omega, by omega⟩ rfl (Nat.le_of_ble_eq_true rfl) dL_law_910 ?_
  refine x_iload_6 K dL_law_913 ?_
  refine x_icmp_eq (tgt := 920) K (by omega) dL_law_915 (by decide) (fun _ => ?_) (fun h => absurd rfl h)
  refine x_iload_6 K dL_law_920 ?_
  refine x_if_ne (tgt := 937) K (by omega) dL_law_922 (by decide) (fun h0 => ?_) (fun h0 => ?_)
  · refine x_goto (tgt := 2519) K dL_law_937 (by decide) ?_
    exact gWX.fgt 6 (gWX.fgt 7 (gWX.fgt 8 (gWX.le (by omega) (by omega) kn)))
  · have hk0 : kk = 0 := by omega
    refine x_aload_3 K dL_law_925 ?_
    refine x_iconst K dL_law_926 ?_
    refine x_lald K dL_law_927 ?_
    refine gWX.topv (u := .inl (.long (lv vb))) (congrArg (fun x => (Sum.inl (Value.long x) : gV)) (ho hk0)) ?_
    refine x_iload_7 K dL_law_928 ?_
    refine x_i2l K dL_law_930 ?_
    refine x_lcmpE K dL_law_931 ?_
    refine x_if_eq (tgt := 937) K (by omega) dL_law_932 (by decide) (fun _ => ?_) (fun h => absurd rfl h)
    refine x_goto (tgt := 2519) K dL_law_937 (by decide) ?_
    exact gWX.fgt 6 (gWX.fgt 7 (gWX.fgt 8 (gWX.le (by omega) (by omega) kn)))
theorem w_rowFault {X : gM} {E : gE} {D n cells slots b L9 i : Nat} {xs : Nat → Int32} {σ σ1 σ2 : gS} (K : gK X E mL_law D n) (S : hSc X E b L9 xs) (hi5 : i + 5 ≤ L9) (hD : 20 ≤ D) (hc : cells + 1 ≤ n) (hs : slots + 6 ≤ 6 * n) {kk vb : Int} (h1 : hCt E mL_rowFault hhL_rowFault 13 1 [rf 0 0, iv (sx xs (i + 1)), iv (sx xs (i + 2)), rf 23 0] σ (.inl (some (iv kk))) σ1) (h2 : gCt E mX7_rowFault 12 0 [rf 14 0, iv (sx xs (i + 1)), iv (sx xs (i + 2))] σ1 (.inl (some (iv vb))) σ2) (hk : 0 ≤ kk ∧ kk ≤ 3) (ht : σ2.1 14 0 7 = kk) (ho : kk = 0 → σ2.2.2.1 = lv vb) (kn : gWX X E (cells + 1) (slots + 6) 2519 (wL b i) [] σ2) : gWX X E cells slots 940 (wL b i) [] σ := by
  refine x_aload_1 K dL_law_940 ?_
  refine x_aloadc_0 K dL_law_941 ?_
  refine x_iload_5 K dL_law_942 ?_
  refine x_iconst K dL_law_944 ?_
  refine x_iadd K dL_law_945 ?_
  refine x_sld K S (i + 1) (by omega) (by omega) dL_law_946 ?_
  refine x_aloadc_0 K dL_law_947 ?_
  refine x_iload_5 K dL_law_948 ?_
  refine x_iconst K dL_law_950 ?_
  refine x_iadd K dL_law_951 ?_
  refine x_sld K S (i + 2) (by omega) (by omega) dL_law_952 ?_
  refine x_aload_3 K dL_law_953 ?_
  refine x_callH4 K h1 mtL_rowFault msL_rowFault (g_mem 710 (by decide +kernel)) ⟨by omega, by omega, by omega⟩ rfl (Nat.le_of_ble_eq_true rfl) dL_law_954 ?_
  refine x_istore_6 K dL_law_957 rfl ?_
  refine x_aload_2 K dL_law_959 ?_
  refine x_aloadc_0 K dL_law_960 ?_
  refine x_iload_5 K dL_law_961 ?_
  refine x_iconst K dL_law_963 ?_
  refine x_iadd K dL_law_964 ?_
  refine x_sld K S (i + 1) (by omega) (by omega) dL_law_965 ?_
  refine x_aloadc_0 K dL_law_966 ?_
  refine x_iload_5 K dL_law_967 ?_
  refine x_iconst K dL_law_969 ?_
  refine x_iadd K dL_law_970 ?_
  refine x_sld K S (i + 2) (by omega) (by omega) dL_law_971 ?_
  refine x_callV2 K h2 mtX7_rowFault miX7_rowFault rc14 ⟨by decide, by decide⟩ lkRL_182 ⟨by omega, by omega, by omega⟩ rfl (Nat.le_of_ble_eq_true rfl) dL_law_972 ?_
  refine x_istore_7 K dL_law_975 rfl ?_
  refine x_aload_2 K dL_law_977 ?_
  refine x_callV0 K (c7_thrown kk ht) mtX7_thrown miX7_thrown rc14 ⟨by decide, by decide⟩ lkRL_147 ⟨by omega, by omega, by omega⟩ rfl (Nat.le_of_ble_eq_true rfl) dL_law_978 ?_
  refine x_iload_6 K dL_law_981 ?_
  refine x_icmp_eq (tgt := 988) K (by omega) dL_law_983 (by decide) (fun _ => ?_) (fun h => absurd rfl h)
  refine x_iload_6 K dL_law_988 ?_
  refine x_if_ne (tgt := 1005) K (by omega) dL_law_990 (by decide) (fun h0 => ?_) (fun h0 => ?_)
  · refine x_goto (tgt := 2519) K dL_law_1005 (by decide) ?_
    exact gWX.fgt 6 (gWX.fgt 7 (gWX.fgt 8 (gWX.le (by omega) (by omega) kn)))
  · have hk0 : kk = 0 := by omega
    refine x_aload_3 K dL_law_993 ?_
    refine x_iconst K dL_law_994 ?_
    refine x_lald K dL_law_995 ?_
    refine gWX.topv (u := .inl (.long (lv vb))) (congrArg (fun x => (Sum.inl (Value.long x) : gV)) (ho hk0)) ?_
    refine x_iload_7 K dL_law_996 ?_
    refine x_i2l K dL_law_998 ?_
    refine x_lcmpE K dL_law_999 ?_
    refine x_if_eq (tgt := 1005) K (by omega) dL_law_1000 (by decide) (fun _ => ?_) (fun h => absurd rfl h)
    refine x_goto (tgt := 2519) K dL_law_1005 (by decide) ?_
    exact gWX.fgt 6 (gWX.fgt 7 (gWX.fgt 8 (gWX.le (by omega) (by omega) kn)))
theorem w_columnFault {X : gM} {E : gE} {D n cells slots b L9 i : Nat} {xs : Nat → Int32} {σ σ1 σ2 : gS} (K : gK X E mL_law D n) (S : hSc X E b L9 xs) (hi5 : i + 5 ≤ L9) (hD : 20 ≤ D) (hc : cells + 1 ≤ n) (hs : slots + 6 ≤ 6 * n) {kk vb : Int} (h1 : hCt E mL_columnFault hhL_columnFault 13 1 [rf 0 0, iv (sx xs (i + 1)), iv (sx xs (i + 2)), rf 23 0] σ (.inl (some (iv kk))) σ1) (h2 : gCt E mX7_columnFault 12 0 [rf 14 0, iv (sx xs (i + 1)), iv (sx xs (i + 2))] σ1 (.inl (some (iv vb))) σ2) (hk : 0 ≤ kk ∧ kk ≤ 3) (ht : σ2.1 14 0 7 = kk) (ho : kk = 0 → σ2.2.2.1 = lv vb) (kn : gWX X E (cells + 1) (slots + 6) 2519 (wL b i) [] σ2) : gWX X E cells slots 1008 (wL b i) [] σ := by
  refine x_aload_1 K dL_law_1008 ?_
  refine x_aloadc_0 K dL_law_1009 ?_
  refine x_iload_5 K dL_law_1010 ?_
  refine x_iconst K dL_law_1012 ?_
  refine x_iadd K dL_law_1013 ?_
  refine x_sld K S (i + 1) (by omega) (by omega) dL_law_1014 ?_
  refine x_aloadc_0 K dL_law_1015 ?_
  refine x_iload_5 K dL_law_1016 ?_
  refine x_iconst K dL_law_1018 ?_
  refine x_iadd K dL_law_1019 ?_
  refine x_sld K S (i + 2) (by omega) (by omega) dL_law_1020 ?_
  refine x_aload_3 K dL_law_1021 ?_
  refine x_callH4 K h1 mtL_columnFault msL_columnFault (g_mem 718 (by decide +kernel)) ⟨by omega, by omega, by omega⟩ rfl (Nat.le_of_ble_eq_true rfl) dL_law_1022 ?_
  refine x_istore_6 K dL_law_1025 rfl ?_
  refine x_aload_2 K dL_law_1027 ?_
  refine x_aloadc_0 K dL_law_1028 ?_
  refine x_iload_5 K dL_law_1029 ?_
  refine x_iconst K dL_law_1031 ?_
  refine x_iadd K dL_law_1032 ?_
  refine x_sld K S (i + 1) (by omega) (by omega) dL_law_1033 ?_
  refine x_aloadc_0 K dL_law_1034 ?_
  refine x_iload_5 K dL_law_1035 ?_
  refine x_iconst K dL_law_1037 ?_
  refine x_iadd K dL_law_1038 ?_
  refine x_sld K S (i + 2) (by omega) (by omega) dL_law_1039 ?_
  refine x_callV2 K h2 mtX7_columnFault miX7_columnFault rc14 ⟨by decide, by decide⟩ lkRL_185 ⟨by omega, by omega, by omega⟩ rfl (Nat.le_of_ble_eq_true rfl) dL_law_1040 ?_
  refine x_istore_7 K dL_law_1043 rfl ?_
  refine x_aload_2 K dL_law_1045 ?_
  refine x_callV0 K (c7_thrown kk ht) mtX7_thrown miX7_thrown rc14 ⟨by decide, by decide⟩ lkRL_147 ⟨by omega, by omega, by omega⟩ rfl (Nat.le_of_ble_eq_true rfl) dL_law_1046 ?_
  refine x_iload_6 K dL_law_1049 ?_
  refine x_icmp_eq (tgt := 1056) K (by omega) dL_law_1051 (by decide) (fun _ => ?_) (fun h => absurd rfl h)
  refine x_iload_6 K dL_law_1056 ?_
  refine x_if_ne (tgt := 1073) K (by omega) dL_law_1058 (by decide) (fun h0 => ?_) (fun h0 => ?_)
  · refine x_goto (tgt := 2519) K dL_law_1073 (by decide) ?_
    exact gWX.fgt 6 (gWX.fgt 7 (gWX.fgt 8 (gWX.le (by omega) (by omega) kn)))
  · have hk0 : kk = 0 := by omega
    refine x_aload_3 K dL_law_1061 ?_
    refine x_iconst K dL_law_1062 ?_
    refine x_lald K dL_law_1063 ?_
    refine gWX.topv (u := .inl (.long (lv vb))) (congrArg (fun x => (Sum.inl (Value.long x) : gV)) (ho hk0)) ?_
    refine x_iload_7 K dL_law_1064 ?_
    refine x_i2l K dL_law_1066 ?_
    refine x_lcmpE K dL_law_1067 ?_
    refine x_if_eq (tgt := 1073) K (by omega) dL_law_1068 (by decide) (fun _ => ?_) (fun h => absurd rfl h)
    refine x_goto (tgt := 2519) K dL_law_1073 (by decide) ?_
    exact gWX.fgt 6 (gWX.fgt 7 (gWX.fgt 8 (gWX.le (by omega) (by omega) kn)))
theorem w_wrongRows {X : gM} {E : gE} {D n cells slots b L9 i : Nat} {xs : Nat → Int32} {σ σ1 σ2 : gS} (K : gK X E mL_law D n) (S : hSc X E b L9 xs) (hi5 : i + 5 ≤ L9) (hD : 20 ≤ D) (hc : cells + 1 ≤ n) (hs : slots + 6 ≤ 6 * n) {kk vb : Int} (h1 : hCt E mL_wrongRows hhL_wrongRows 13 1 [rf 0 0, iv (sx xs (i + 1)), rf 23 0] σ (.inl (some (iv kk))) σ1) (h2 : gCt E mX7_wrongRows 12 0 [rf 14 0, iv (sx xs (i + 1))] σ1 (.inl (some (iv vb))) σ2) (hk : 0 ≤ kk ∧ kk ≤ 3) (ht : σ2.1 14 0 7 = kk) (ho : kk = 0 → σ2.2.2.1 = lv vb) (kn : gWX X E (cells + 1) (slots + 6) 2519 (wL b i) [] σ2) : gWX X E cells slots 1076 (wL b i) [] σ := by
  refine x_aload_1 K dL_law_1076 ?_
  refine x_aloadc_0 K dL_law_1077 ?_
  refine x_iload_5 K dL_law_1078 ?_
  refine x_iconst K dL_law_1080 ?_
  refine x_iadd K dL_law_1081 ?_
  refine x_sld K S (i + 1) (by omega) (by omega) dL_law_1082 ?_
  refine x_aload_3 K dL_law_1083 ?_
  refine x_callH3 K h1 mtL_wrongRows msL_wrongRows (g_mem 725 (by decide +kernel)) ⟨by omega, by omega, by omega⟩ rfl (Nat.le_of_ble_eq_true rfl) dL_law_1084 ?_
  refine x_istore_6 K dL_law_1087 rfl ?_
  refine x_aload_2 K dL_law_1089 ?_
  refine x_aloadc_0 K dL_law_1090 ?_
  refine x_iload_5 K dL_law_1091 ?_
  refine x_iconst K dL_law_1093 ?_
  refine x_iadd K dL_law_1094 ?_
  refine x_sld K S (i + 1) (by omega) (by omega) dL_law_1095 ?_
  refine x_callV1 K h2 mtX7_wrongRows miX7_wrongRows rc14 ⟨by decide, by decide⟩ lkRL_188 ⟨by omega, by omega, by omega⟩ rfl (Nat.le_of_ble_eq_true rfl) dL_law_1096 ?_
  refine x_istore_7 K dL_law_1099 rfl ?_
  refine x_aload_2 K dL_law_1101 ?_
  refine x_callV0 K (c7_thrown kk ht) mtX7_thrown miX7_thrown rc14 ⟨by decide, by decide⟩ lkRL_147 ⟨by omega, by omega, by omega⟩ rfl (Nat.le_of_ble_eq_true rfl) dL_law_1102 ?_
  refine x_iload_6 K dL_law_1105 ?_
  refine x_icmp_eq (tgt := 1112) K (by omega) dL_law_1107 (by decide) (fun _ => ?_) (fun h => absurd rfl h)
  refine x_iload_6 K dL_law_1112 ?_
  refine x_if_ne (tgt := 1129) K (by omega) dL_law_1114 (by decide) (fun h0 => ?_) (fun h0 => ?_)
  · refine x_goto (tgt := 2519) K dL_law_1129 (by decide) ?_
    exact gWX.fgt 6 (gWX.fgt 7 (gWX.fgt 8 (gWX.le (by omega) (by omega) kn)))
  · have hk0 : kk = 0 := by omega
    refine x_aload_3 K dL_law_1117 ?_
    refine x_iconst K dL_law_1118 ?_
    refine x_lald K dL_law_1119 ?_
    refine gWX.topv (u := .inl (.long (lv vb))) (congrArg (fun x => (Sum.inl (Value.long x) : gV)) (ho hk0)) ?_
    refine x_iload_7 K dL_law_1120 ?_
    refine x_i2l K dL_law_1122 ?_
    refine x_lcmpE K dL_law_1123 ?_
    refine x_if_eq (tgt := 1129) K (by omega) dL_law_1124 (by decide) (fun _ => ?_) (fun h => absurd rfl h)
    refine x_goto (tgt := 2519) K dL_law_1129 (by decide) ?_
    exact gWX.fgt 6 (gWX.fgt 7 (gWX.fgt 8 (gWX.le (by omega) (by omega) kn)))
theorem w_wrongColumns {X : gM} {E : gE} {D n cells slots b L9 i : Nat} {xs : Nat → Int32} {σ σ1 σ2 : gS} (K : gK X E mL_law D n) (S : hSc X E b L9 xs) (hi5 : i + 5 ≤ L9) (hD : 20 ≤ D) (hc : cells + 1 ≤ n) (hs : slots + 6 ≤ 6 * n) {kk vb : Int} (h1 : hCt E mL_wrongColumns hhL_wrongColumns 13 1 [rf 0 0, iv (sx xs (i + 1)), rf 23 0] σ (.inl (some (iv kk))) σ1) (h2 : gCt E mX7_wrongColumns 12 0 [rf 14 0, iv (sx xs (i + 1))] σ1 (.inl (some (iv vb))) σ2) (hk : 0 ≤ kk ∧ kk ≤ 3) (ht : σ2.1 14 0 7 = kk) (ho : kk = 0 → σ2.2.2.1 = lv vb) (kn : gWX X E (cells + 1) (slots + 6) 2519 (wL b i) [] σ2) : gWX X E cells slots 1132 (wL b i) [] σ := by
  refine x_aload_1 K dL_law_1132 ?_
  refine x_aloadc_0 K dL_law_1133 ?_
  refine x_iload_5 K dL_law_1134 ?_
  refine x_iconst K dL_law_1136 ?_
  refine x_iadd K dL_law_1137 ?_
  refine x_sld K S (i + 1) (by omega) (by omega) dL_law_1138 ?_
  refine x_aload_3 K dL_law_1139 ?_
  refine x_callH3 K h1 mtL_wrongColumns msL_wrongColumns (g_mem 733 (by decide +kernel)) ⟨by omega, by omega, by omega⟩ rfl (Nat.le_of_ble_eq_true rfl) dL_law_1140 ?_
  refine x_istore_6 K dL_law_1143 rfl ?_
  refine x_aload_2 K dL_law_1145 ?_
  refine x_aloadc_0 K dL_law_1146 ?_
  refine x_iload_5 K dL_law_1147 ?_
  refine x_iconst K dL_law_1149 ?_
  refine x_iadd K dL_law_1150 ?_
  refine x_sld K S (i + 1) (by omega) (by omega) dL_law_1151 ?_
  refine x_callV1 K h2 mtX7_wrongColumns miX7_wrongColumns rc14 ⟨by decide, by decide⟩ lkRL_191 ⟨by omega, by omega, by omega⟩ rfl (Nat.le_of_ble_eq_true rfl) dL_law_1152 ?_
  refine x_istore_7 K dL_law_1155 rfl ?_
  refine x_aload_2 K dL_law_1157 ?_
  refine x_callV0 K (c7_thrown kk ht) mtX7_thrown miX7_thrown rc14 ⟨by decide, by decide⟩ lkRL_147 ⟨by omega, by omega, by omega⟩ rfl (Nat.le_of_ble_eq_true rfl) dL_law_1158 ?_
  refine x_iload_6 K dL_law_1161 ?_
  refine x_icmp_eq (tgt := 1168) K (by omega) dL_law_1163 (by decide) (fun _ => ?_) (fun h => absurd rfl h)
  refine x_iload_6 K dL_law_1168 ?_
  refine x_if_ne (tgt := 1185) K (by omega) dL_law_1170 (by decide) (fun h0 => ?_) (fun h0 => ?_)
  · refine x_goto (tgt := 2519) K dL_law_1185 (by decide) ?_
    exact gWX.fgt 6 (gWX.fgt 7 (gWX.fgt 8 (gWX.le (by omega) (by omega) kn)))
  · have hk0 : kk = 0 := by omega
    refine x_aload_3 K dL_law_1173 ?_
    refine x_iconst K dL_law_1174 ?_
    refine x_lald K dL_law_1175 ?_
    refine gWX.topv (u := .inl (.long (lv vb))) (congrArg (fun x => (Sum.inl (Value.long x) : gV)) (ho hk0)) ?_
    refine x_iload_7 K dL_law_1176 ?_
    refine x_i2l K dL_law_1178 ?_
    refine x_lcmpE K dL_law_1179 ?_
    refine x_if_eq (tgt := 1185) K (by omega) dL_law_1180 (by decide) (fun _ => ?_) (fun h => absurd rfl h)
    refine x_goto (tgt := 2519) K dL_law_1185 (by decide) ?_
    exact gWX.fgt 6 (gWX.fgt 7 (gWX.fgt 8 (gWX.le (by omega) (by omega) kn)))
theorem w_isInDoubt {X : gM} {E : gE} {D n cells slots b L9 i : Nat} {xs : Nat → Int32} {σ σ1 σ2 : gS} (K : gK X E mL_law D n) (S : hSc X E b L9 xs) (hi5 : i + 5 ≤ L9) (hD : 20 ≤ D) (hc : cells + 1 ≤ n) (hs : slots + 6 ≤ 6 * n) {kk vb : Int} (h1 : hCt E mL_isInDoubt hhL_isInDoubt 13 1 [rf 0 0, iv (sx xs (i + 1)), iv (sx xs (i + 2)), iv (sx xs (i + 3)), rf 23 0] σ (.inl (some (iv kk))) σ1) (h2 : gCt E mX7_isInDoubt 12 0 [rf 14 0, iv (sx xs (i + 1)), iv (sx xs (i + 2)), iv (sx xs (i + 3))] σ1 (.inl (some (iv vb))) σ2) (hk : 0 ≤ kk ∧ kk ≤ 3) (ht : σ2.1 14 0 7 = kk) (ho : kk = 0 → σ2.2.2.1 = lv vb) (hz : vb = 0 ∨ vb = 1) (kn : gWX X E (cells + 1) (slots + 6) 2519 (wL b i) [] σ2) : gWX X E cells slots 1188 (wL b i) [] σ := by
  refine x_aload_1 K dL_law_1188 ?_
  refine x_aloadc_0 K dL_law_1189 ?_
  refine x_iload_5 K dL_law_1190 ?_
  refine x_iconst K dL_law_1192 ?_
  refine x_iadd K dL_law_1193 ?_
  refine x_sld K S (i + 1) (by omega) (by omega) dL_law_1194 ?_
  refine x_aloadc_0 K dL_law_1195 ?_
  refine x_iload_5 K dL_law_1196 ?_
  refine x_iconst K dL_law_1198 ?_
  refine x_iadd K dL_law_1199 ?_
  refine x_sld K S (i + 2) (by omega) (by omega) dL_law_1200 ?_
  refine x_aloadc_0 K dL_law_1201 ?_
  refine x_iload_5 K dL_law_1202 ?_
  refine x_iconst K dL_law_1204 ?_
  refine x_iadd K dL_law_1205 ?_
  refine x_sld K S (i + 3) (by omega) (by omega) dL_law_1206 ?_
  refine x_aload_3 K dL_law_1207 ?_
  refine x_callH5 K h1 mtL_isInDoubt msL_isInDoubt (g_mem 741 (by decide +kernel)) ⟨by omega, by omega, by omega⟩ rfl (Nat.le_of_ble_eq_true rfl) dL_law_1208 ?_
  refine x_istore_6 K dL_law_1211 rfl ?_
  refine x_aload_2 K dL_law_1213 ?_
  refine x_aloadc_0 K dL_law_1214 ?_
  refine x_iload_5 K dL_law_1215 ?_
  refine x_iconst K dL_law_1217 ?_
  refine x_iadd K dL_law_1218 ?_
  refine x_sld K S (i + 1) (by omega) (by omega) dL_law_1219 ?_
  refine x_aloadc_0 K dL_law_1220 ?_
  refine x_iload_5 K dL_law_1221 ?_
  refine x_iconst K dL_law_1223 ?_
  refine x_iadd K dL_law_1224 ?_
  refine x_sld K S (i + 2) (by omega) (by omega) dL_law_1225 ?_
  refine x_aloadc_0 K dL_law_1226 ?_
  refine x_iload_5 K dL_law_1227 ?_
  refine x_iconst K dL_law_1229 ?_
  refine x_iadd K dL_law_1230 ?_
  refine x_sld K S (i + 3) (by omega) (by omega) dL_law_1231 ?_
  refine x_callV3 K h2 mtX7_isInDoubt miX7_isInDoubt rc14 ⟨by decide, by decide⟩ lkRL_194 ⟨by omega, by omega, by omega⟩ rfl (Nat.le_of_ble_eq_true rfl) dL_law_1232 ?_
  refine x_istore_7 K dL_law_1235 rfl ?_
  refine x_aload_2 K dL_law_1237 ?_
  refine x_callV0 K (c7_thrown kk ht) mtX7_thrown miX7_thrown rc14 ⟨by decide, by decide⟩ lkRL_147 ⟨by omega, by omega, by omega⟩ rfl (Nat.le_of_ble_eq_true rfl) dL_law_1238 ?_
  refine x_iload_6 K dL_law_1241 ?_
  refine x_icmp_eq (tgt := 1248) K (by omega) dL_law_1243 (by decide) (fun _ => ?_) (fun h => absurd rfl h)
  refine x_iload_6 K dL_law_1248 ?_
  refine x_if_ne (tgt := 1272) K (by omega) dL_law_1250 (by decide) (fun h0 => ?_) (fun h0 => ?_)
  · refine x_goto (tgt := 2519) K dL_law_1272 (by decide) ?_
    exact gWX.fgt 6 (gWX.fgt 7 (gWX.fgt 8 (gWX.le (by omega) (by omega) kn)))
  · have hk0 : kk = 0 := by omega
    refine x_aload_3 K dL_law_1253 ?_
    refine x_iconst K dL_law_1254 ?_
    refine x_lald K dL_law_1255 ?_
    refine gWX.topv (u := .inl (.long (lv vb))) (congrArg (fun x => (Sum.inl (Value.long x) : gV)) (ho hk0)) ?_
    refine x_iload_7 K dL_law_1256 ?_
    rcases hz with rfl | rfl
    · refine x_if_eq (tgt := 1265) K (by omega) dL_law_1258 (by decide) (fun _ => ?_) (fun h => absurd rfl h)
      refine x_lconst K dL_law_1265 ?_
      refine x_lcmpE K dL_law_1266 ?_
      refine x_if_eq (tgt := 1272) K (by omega) dL_law_1267 (by decide) (fun _ => ?_) (fun h => absurd rfl h)
      refine x_goto (tgt := 2519) K dL_law_1272 (by decide) ?_
      exact gWX.fgt 6 (gWX.fgt 7 (gWX.fgt 8 (gWX.le (by omega) (by omega) kn)))
    · refine x_if_eq (tgt := 1265) K (by omega) dL_law_1258 (by decide) (fun h => absurd h (by omega)) (fun _ => ?_)
      refine x_lconst K dL_law_1261 ?_
      refine x_goto (tgt := 1266) K dL_law_1262 (by decide) ?_
      refine x_lcmpE K dL_law_1266 ?_
      refine x_if_eq (tgt := 1272) K (by omega) dL_law_1267 (by decide) (fun _ => ?_) (fun h => absurd rfl h)
      refine x_goto (tgt := 2519) K dL_law_1272 (by decide) ?_
      exact gWX.fgt 6 (gWX.fgt 7 (gWX.fgt 8 (gWX.le (by omega) (by omega) kn)))
theorem w_doubts {X : gM} {E : gE} {D n cells slots b L9 i : Nat} {xs : Nat → Int32} {σ σ1 σ2 : gS} (K : gK X E mL_law D n) (S : hSc X E b L9 xs) (hi5 : i + 5 ≤ L9) (hD : 20 ≤ D) (hc : cells + 1 ≤ n) (hs : slots + 6 ≤ 6 * n) {kk vb : Int} (h1 : hCt E mL_doubts hhL_doubts 13 1 [rf 0 0, iv (sx xs (i + 1)), rf 23 0] σ (.inl (some (iv kk))) σ1) (h2 : gCt E mX7_doubts 11 0 [rf 14 0, iv (sx xs (i + 1))] σ1 (.inl (some (iv vb))) σ2) (hk : 0 ≤ kk ∧ kk ≤ 3) (ht : σ2.1 14 0 7 = kk) (ho : kk = 0 → σ2.2.2.1 = lv vb) (kn : gWX X E (cells + 1) (slots + 6) 2519 (wL b i) [] σ2) : gWX X E cells slots 1275 (wL b i) [] σ := by
  refine x_aload_1 K dL_law_1275 ?_
  refine x_aloadc_0 K dL_law_1276 ?_
  refine x_iload_5 K dL_law_1277 ?_
  refine x_iconst K dL_law_1279 ?_
  refine x_iadd K dL_law_1280 ?_
  refine x_sld K S (i + 1) (by omega) (by omega) dL_law_1281 ?_
  refine x_aload_3 K dL_law_1282 ?_
  refine x_callH3 K h1 mtL_doubts msL_doubts (g_mem 752 (by decide +kernel)) ⟨by omega, by omega, by omega⟩ rfl (Nat.le_of_ble_eq_true rfl) dL_law_1283 ?_
  refine x_istore_6 K dL_law_1286 rfl ?_
  refine x_aload_2 K dL_law_1288 ?_
  refine x_aloadc_0 K dL_law_1289 ?_
  refine x_iload_5 K dL_law_1290 ?_
  refine x_iconst K dL_law_1292 ?_
  refine x_iadd K dL_law_1293 ?_
  refine x_sld K S (i + 1) (by omega) (by omega) dL_law_1294 ?_
  refine x_callV1 K h2 mtX7_doubts miX7_doubts rc14 ⟨by decide, by decide⟩ lkRL_197 ⟨by omega, by omega, by omega⟩ rfl (Nat.le_of_ble_eq_true rfl) dL_law_1295 ?_
  refine x_istore_7 K dL_law_1298 rfl ?_
  refine x_aload_2 K dL_law_1300 ?_
  refine x_callV0 K (c7_thrown kk ht) mtX7_thrown miX7_thrown rc14 ⟨by decide, by decide⟩ lkRL_147 ⟨by omega, by omega, by omega⟩ rfl (Nat.le_of_ble_eq_true rfl) dL_law_1301 ?_
  refine x_iload_6 K dL_law_1304 ?_
  refine x_icmp_eq (tgt := 1311) K (by omega) dL_law_1306 (by decide) (fun _ => ?_) (fun h => absurd rfl h)
  refine x_iload_6 K dL_law_1311 ?_
  refine x_if_ne (tgt := 1328) K (by omega) dL_law_1313 (by decide) (fun h0 => ?_) (fun h0 => ?_)
  · refine x_goto (tgt := 2519) K dL_law_1328 (by decide) ?_
    exact gWX.fgt 6 (gWX.fgt 7 (gWX.fgt 8 (gWX.le (by omega) (by omega) kn)))
  · have hk0 : kk = 0 := by omega
    refine x_aload_3 K dL_law_1316 ?_
    refine x_iconst K dL_law_1317 ?_
    refine x_lald K dL_law_1318 ?_
    refine gWX.topv (u := .inl (.long (lv vb))) (congrArg (fun x => (Sum.inl (Value.long x) : gV)) (ho hk0)) ?_
    refine x_iload_7 K dL_law_1319 ?_
    refine x_i2l K dL_law_1321 ?_
    refine x_lcmpE K dL_law_1322 ?_
    refine x_if_eq (tgt := 1328) K (by omega) dL_law_1323 (by decide) (fun _ => ?_) (fun h => absurd rfl h)
    refine x_goto (tgt := 2519) K dL_law_1328 (by decide) ?_
    exact gWX.fgt 6 (gWX.fgt 7 (gWX.fgt 8 (gWX.le (by omega) (by omega) kn)))
theorem w_doubtsAgain {X : gM} {E : gE} {D n cells slots b L9 i : Nat} {xs : Nat → Int32} {σ σ1 σ2 : gS} (K : gK X E mL_law D n) (S : hSc X E b L9 xs) (hi5 : i + 5 ≤ L9) (hD : 20 ≤ D) (hc : cells + 1 ≤ n) (hs : slots + 6 ≤ 6 * n) {kk vb : Int} (h1 : hCt E mL_doubtsAgain hhL_doubtsAgain 13 1 [rf 0 0, iv (sx xs (i + 1)), rf 23 0] σ (.inl (some (iv kk))) σ1) (h2 : gCt E mX7_doubtsAgain 12 0 [rf 14 0, iv (sx xs (i + 1))] σ1 (.inl (some (iv vb))) σ2) (hk : 0 ≤ kk ∧ kk ≤ 3) (ht : σ2.1 14 0 7 = kk) (ho : kk = 0 → σ2.2.2.1 = lv vb) (kn : gWX X E (cells + 1) (slots + 6) 2519 (wL b i) [] σ2) : gWX X E cells slots 1331 (wL b i) [] σ := by
  refine x_aload_1 K dL_law_1331 ?_
  refine x_aloadc_0 K dL_law_1332 ?_
  refine x_iload_5 K dL_law_1333 ?_
  refine x_iconst K dL_law_1335 ?_
  refine x_iadd K dL_law_1336 ?_
  refine x_sld K S (i + 1) (by omega) (by omega) dL_law_1337 ?_
  refine x_aload_3 K dL_law_1338 ?_
  refine x_callH3 K h1 mtL_doubtsAgain msL_doubtsAgain (g_mem 764 (by decide +kernel)) ⟨by omega, by omega, by omega⟩ rfl (Nat.le_of_ble_eq_true rfl) dL_law_1339 ?_
  refine x_istore_6 K dL_law_1342 rfl ?_
  refine x_aload_2 K dL_law_1344 ?_
  refine x_aloadc_0 K dL_law_1345 ?_
  refine x_iload_5 K dL_law_1346 ?_
  refine x_iconst K dL_law_1348 ?_
  refine x_iadd K dL_law_1349 ?_
  refine x_sld K S (i + 1) (by omega) (by omega) dL_law_1350 ?_
  refine x_callV1 K h2 mtX7_doubtsAgain miX7_doubtsAgain rc14 ⟨by decide, by decide⟩ lkRL_200 ⟨by omega, by omega, by omega⟩ rfl (Nat.le_of_ble_eq_true rfl) dL_law_1351 ?_
  refine x_istore_7 K dL_law_1354 rfl ?_
  refine x_aload_2 K dL_law_1356 ?_
  refine x_callV0 K (c7_thrown kk ht) mtX7_thrown miX7_thrown rc14 ⟨by decide, by decide⟩ lkRL_147 ⟨by omega, by omega, by omega⟩ rfl (Nat.le_of_ble_eq_true rfl) dL_law_1357 ?_
  refine x_iload_6 K dL_law_1360 ?_
  refine x_icmp_eq (tgt := 1367) K (by omega) dL_law_1362 (by decide) (fun _ => ?_) (fun h => absurd rfl h)
  refine x_iload_6 K dL_law_1367 ?_
  refine x_if_ne (tgt := 1384) K (by omega) dL_law_1369 (by decide) (fun h0 => ?_) (fun h0 => ?_)
  · refine x_goto (tgt := 2519) K dL_law_1384 (by decide) ?_
    exact gWX.fgt 6 (gWX.fgt 7 (gWX.fgt 8 (gWX.le (by omega) (by omega) kn)))
  · have hk0 : kk = 0 := by omega
    refine x_aload_3 K dL_law_1372 ?_
    refine x_iconst K dL_law_1373 ?_
    refine x_lald K dL_law_1374 ?_
    refine gWX.topv (u := .inl (.long (lv vb))) (congrArg (fun x => (Sum.inl (Value.long x) : gV)) (ho hk0)) ?_
    refine x_iload_7 K dL_law_1375 ?_
    refine x_i2l K dL_law_1377 ?_
    refine x_lcmpE K dL_law_1378 ?_
    refine x_if_eq (tgt := 1384) K (by omega) dL_law_1379 (by decide) (fun _ => ?_) (fun h => absurd rfl h)
    refine x_goto (tgt := 2519) K dL_law_1384 (by decide) ?_
    exact gWX.fgt 6 (gWX.fgt 7 (gWX.fgt 8 (gWX.le (by omega) (by omega) kn)))
theorem w_mend {X : gM} {E : gE} {D n cells slots b L9 i : Nat} {xs : Nat → Int32} {σ σ1 σ2 : gS} (K : gK X E mL_law D n) (S : hSc X E b L9 xs) (hi5 : i + 5 ≤ L9) (hD : 20 ≤ D) (hc : cells + 1 ≤ n) (hs : slots + 6 ≤ 6 * n) {kk vb : Int} (h1 : hCt E mL_mend hhL_mend 13 1 [rf 0 0, iv (sx xs (i + 1)), rf 23 0] σ (.inl (some (iv kk))) σ1) (h2 : gCt E mX7_mend 12 0 [rf 14 0, iv (sx xs (i + 1))] σ1 (.inl (some (iv vb))) σ2) (hk : 0 ≤ kk ∧ kk ≤ 3) (ht : σ2.1 14 0 7 = kk) (ho : kk = 0 → σ2.2.2.1 = lv vb) (kn : gWX X E (cells + 1) (slots + 6) 2519 (wL b i) [] σ2) : gWX X E cells slots 1387 (wL b i) [] σ := by
  refine x_aload_1 K dL_law_1387 ?_
  refine x_aloadc_0 K dL_law_1388 ?_
  refine x_iload_5 K dL_law_1389 ?_
  refine x_iconst K dL_law_1391 ?_
  refine x_iadd K dL_law_1392 ?_
  refine x_sld K S (i + 1) (by omega) (by omega) dL_law_1393 ?_
  refine x_aload_3 K dL_law_1394 ?_
  refine x_callH3 K h1 mtL_mend msL_mend (g_mem 775 (by decide +kernel)) ⟨by omega, by omega, by omega⟩ rfl (Nat.le_of_ble_eq_true rfl) dL_law_1395 ?_
  refine x_istore_6 K dL_law_1398 rfl ?_
  refine x_aload_2 K dL_law_1400 ?_
  refine x_aloadc_0 K dL_law_1401 ?_
  refine x_iload_5 K dL_law_1402 ?_
  refine x_iconst K dL_law_1404 ?_
  refine x_iadd K dL_law_1405 ?_
  refine x_sld K S (i + 1) (by omega) (by omega) dL_law_1406 ?_
  refine x_callV1 K h2 mtX7_mend miX7_mend rc14 ⟨by decide, by decide⟩ lkRL_203 ⟨by omega, by omega, by omega⟩ rfl (Nat.le_of_ble_eq_true rfl) dL_law_1407 ?_
  refine x_istore_7 K dL_law_1410 rfl ?_
  refine x_aload_2 K dL_law_1412 ?_
  refine x_callV0 K (c7_thrown kk ht) mtX7_thrown miX7_thrown rc14 ⟨by decide, by decide⟩ lkRL_147 ⟨by omega, by omega, by omega⟩ rfl (Nat.le_of_ble_eq_true rfl) dL_law_1413 ?_
  refine x_iload_6 K dL_law_1416 ?_
  refine x_icmp_eq (tgt := 1423) K (by omega) dL_law_1418 (by decide) (fun _ => ?_) (fun h => absurd rfl h)
  refine x_iload_6 K dL_law_1423 ?_
  refine x_if_ne (tgt := 1440) K (by omega) dL_law_1425 (by decide) (fun h0 => ?_) (fun h0 => ?_)
  · refine x_goto (tgt := 2519) K dL_law_1440 (by decide) ?_
    exact gWX.fgt 6 (gWX.fgt 7 (gWX.fgt 8 (gWX.le (by omega) (by omega) kn)))
  · have hk0 : kk = 0 := by omega
    refine x_aload_3 K dL_law_1428 ?_
    refine x_iconst K dL_law_1429 ?_
    refine x_lald K dL_law_1430 ?_
    refine gWX.topv (u := .inl (.long (lv vb))) (congrArg (fun x => (Sum.inl (Value.long x) : gV)) (ho hk0)) ?_
    refine x_iload_7 K dL_law_1431 ?_
    refine x_i2l K dL_law_1433 ?_
    refine x_lcmpE K dL_law_1434 ?_
    refine x_if_eq (tgt := 1440) K (by omega) dL_law_1435 (by decide) (fun _ => ?_) (fun h => absurd rfl h)
    refine x_goto (tgt := 2519) K dL_law_1440 (by decide) ?_
    exact gWX.fgt 6 (gWX.fgt 7 (gWX.fgt 8 (gWX.le (by omega) (by omega) kn)))
theorem w_wouldMend {X : gM} {E : gE} {D n cells slots b L9 i : Nat} {xs : Nat → Int32} {σ σ1 σ2 : gS} (K : gK X E mL_law D n) (S : hSc X E b L9 xs) (hi5 : i + 5 ≤ L9) (hD : 20 ≤ D) (hc : cells + 1 ≤ n) (hs : slots + 6 ≤ 6 * n) {kk vb : Int} (h1 : hCt E mL_wouldMend hhL_wouldMend 13 1 [rf 0 0, iv (sx xs (i + 1)), rf 23 0] σ (.inl (some (iv kk))) σ1) (h2 : gCt E mX7_wouldMend 11 0 [rf 14 0, iv (sx xs (i + 1))] σ1 (.inl (some (iv vb))) σ2) (hk : 0 ≤ kk ∧ kk ≤ 3) (ht : σ2.1 14 0 7 = kk) (ho : kk = 0 → σ2.2.2.1 = lv vb) (kn : gWX X E (cells + 1) (slots + 6) 2519 (wL b i) [] σ2) : gWX X E cells slots 1443 (wL b i) [] σ := by
  refine x_aload_1 K dL_law_1443 ?_
  refine x_aloadc_0 K dL_law_1444 ?_
  refine x_iload_5 K dL_law_1445 ?_
  refine x_iconst K dL_law_1447 ?_
  refine x_iadd K dL_law_1448 ?_
  refine x_sld K S (i + 1) (by omega) (by omega) dL_law_1449 ?_
  refine x_aload_3 K dL_law_1450 ?_
  refine x_callH3 K h1 mtL_wouldMend msL_wouldMend (g_mem 784 (by decide +kernel)) ⟨by omega, by omega, by omega⟩ rfl (Nat.le_of_ble_eq_true rfl) dL_law_1451 ?_
  refine x_istore_6 K dL_law_1454 rfl ?_
  refine x_aload_2 K dL_law_1456 ?_
  refine x_aloadc_0 K dL_law_1457 ?_
  refine x_iload_5 K dL_law_1458 ?_
  refine x_iconst K dL_law_1460 ?_
  refine x_iadd K dL_law_1461 ?_
  refine x_sld K S (i + 1) (by omega) (by omega) dL_law_1462 ?_
  refine x_callV1 K h2 mtX7_wouldMend miX7_wouldMend rc14 ⟨by decide, by decide⟩ lkRL_206 ⟨by omega, by omega, by omega⟩ rfl (Nat.le_of_ble_eq_true rfl) dL_law_1463 ?_
  refine x_istore_7 K dL_law_1466 rfl ?_
  refine x_aload_2 K dL_law_1468 ?_
  refine x_callV0 K (c7_thrown kk ht) mtX7_thrown miX7_thrown rc14 ⟨by decide, by decide⟩ lkRL_147 ⟨by omega, by omega, by omega⟩ rfl (Nat.le_of_ble_eq_true rfl) dL_law_1469 ?_
  refine x_iload_6 K dL_law_1472 ?_
  refine x_icmp_eq (tgt := 1479) K (by omega) dL_law_1474 (by decide) (fun _ => ?_) (fun h => absurd rfl h)
  refine x_iload_6 K dL_law_1479 ?_
  refine x_if_ne (tgt := 1496) K (by omega) dL_law_1481 (by decide) (fun h0 => ?_) (fun h0 => ?_)
  · refine x_goto (tgt := 2519) K dL_law_1496 (by decide) ?_
    exact gWX.fgt 6 (gWX.fgt 7 (gWX.fgt 8 (gWX.le (by omega) (by omega) kn)))
  · have hk0 : kk = 0 := by omega
    refine x_aload_3 K dL_law_1484 ?_
    refine x_iconst K dL_law_1485 ?_
    refine x_lald K dL_law_1486 ?_
    refine gWX.topv (u := .inl (.long (lv vb))) (congrArg (fun x => (Sum.inl (Value.long x) : gV)) (ho hk0)) ?_
    refine x_iload_7 K dL_law_1487 ?_
    refine x_i2l K dL_law_1489 ?_
    refine x_lcmpE K dL_law_1490 ?_
    refine x_if_eq (tgt := 1496) K (by omega) dL_law_1491 (by decide) (fun _ => ?_) (fun h => absurd rfl h)
    refine x_goto (tgt := 2519) K dL_law_1496 (by decide) ?_
    exact gWX.fgt 6 (gWX.fgt 7 (gWX.fgt 8 (gWX.le (by omega) (by omega) kn)))
theorem w_mendAgain {X : gM} {E : gE} {D n cells slots b L9 i : Nat} {xs : Nat → Int32} {σ σ1 σ2 : gS} (K : gK X E mL_law D n) (S : hSc X E b L9 xs) (hi5 : i + 5 ≤ L9) (hD : 20 ≤ D) (hc : cells + 1 ≤ n) (hs : slots + 6 ≤ 6 * n) {kk vb : Int} (h1 : hCt E mL_mendAgain hhL_mendAgain 13 1 [rf 0 0, iv (sx xs (i + 1)), rf 23 0] σ (.inl (some (iv kk))) σ1) (h2 : gCt E mX7_mendAgain 12 0 [rf 14 0, iv (sx xs (i + 1))] σ1 (.inl (some (iv vb))) σ2) (hk : 0 ≤ kk ∧ kk ≤ 3) (ht : σ2.1 14 0 7 = kk) (ho : kk = 0 → σ2.2.2.1 = lv vb) (kn : gWX X E (cells + 1) (slots + 6) 2519 (wL b i) [] σ2) : gWX X E cells slots 1499 (wL b i) [] σ := by
  refine x_aload_1 K dL_law_1499 ?_
  refine x_aloadc_0 K dL_law_1500 ?_
  refine x_iload_5 K dL_law_1501 ?_
  refine x_iconst K dL_law_1503 ?_
  refine x_iadd K dL_law_1504 ?_
  refine x_sld K S (i + 1) (by omega) (by omega) dL_law_1505 ?_
  refine x_aload_3 K dL_law_1506 ?_
  refine x_callH3 K h1 mtL_mendAgain msL_mendAgain (g_mem 797 (by decide +kernel)) ⟨by omega, by omega, by omega⟩ rfl (Nat.le_of_ble_eq_true rfl) dL_law_1507 ?_
  refine x_istore_6 K dL_law_1510 rfl ?_
  refine x_aload_2 K dL_law_1512 ?_
  refine x_aloadc_0 K dL_law_1513 ?_
  refine x_iload_5 K dL_law_1514 ?_
  refine x_iconst K dL_law_1516 ?_
  refine x_iadd K dL_law_1517 ?_
  refine x_sld K S (i + 1) (by omega) (by omega) dL_law_1518 ?_
  refine x_callV1 K h2 mtX7_mendAgain miX7_mendAgain rc14 ⟨by decide, by decide⟩ lkRL_209 ⟨by omega, by omega, by omega⟩ rfl (Nat.le_of_ble_eq_true rfl) dL_law_1519 ?_
  refine x_istore_7 K dL_law_1522 rfl ?_
  refine x_aload_2 K dL_law_1524 ?_
  refine x_callV0 K (c7_thrown kk ht) mtX7_thrown miX7_thrown rc14 ⟨by decide, by decide⟩ lkRL_147 ⟨by omega, by omega, by omega⟩ rfl (Nat.le_of_ble_eq_true rfl) dL_law_1525 ?_
  refine x_iload_6 K dL_law_1528 ?_
  refine x_icmp_eq (tgt := 1535) K (by omega) dL_law_1530 (by decide) (fun _ => ?_) (fun h => absurd rfl h)
  refine x_iload_6 K dL_law_1535 ?_
  refine x_if_ne (tgt := 1552) K (by omega) dL_law_1537 (by decide) (fun h0 => ?_) (fun h0 => ?_)
  · refine x_goto (tgt := 2519) K dL_law_1552 (by decide) ?_
    exact gWX.fgt 6 (gWX.fgt 7 (gWX.fgt 8 (gWX.le (by omega) (by omega) kn)))
  · have hk0 : kk = 0 := by omega
    refine x_aload_3 K dL_law_1540 ?_
    refine x_iconst K dL_law_1541 ?_
    refine x_lald K dL_law_1542 ?_
    refine gWX.topv (u := .inl (.long (lv vb))) (congrArg (fun x => (Sum.inl (Value.long x) : gV)) (ho hk0)) ?_
    refine x_iload_7 K dL_law_1543 ?_
    refine x_i2l K dL_law_1545 ?_
    refine x_lcmpE K dL_law_1546 ?_
    refine x_if_eq (tgt := 1552) K (by omega) dL_law_1547 (by decide) (fun _ => ?_) (fun h => absurd rfl h)
    refine x_goto (tgt := 2519) K dL_law_1552 (by decide) ?_
    exact gWX.fgt 6 (gWX.fgt 7 (gWX.fgt 8 (gWX.le (by omega) (by omega) kn)))
theorem w_fill {X : gM} {E : gE} {D n cells slots b L9 i : Nat} {xs : Nat → Int32} {σ σ1 σ2 : gS} (K : gK X E mL_law D n) (S : hSc X E b L9 xs) (hi5 : i + 5 ≤ L9) (hD : 20 ≤ D) (hc : cells + 1 ≤ n) (hs : slots + 6 ≤ 6 * n) {kk vb : Int} (h1 : hCt E mL_fill hhL_fill 13 1 [rf 0 0, iv (sx xs (i + 1)), rf 23 0] σ (.inl (some (iv kk))) σ1) (h2 : gCt E mX7_fill 12 0 [rf 14 0, iv (sx xs (i + 1))] σ1 (.inl (some (iv vb))) σ2) (hk : 0 ≤ kk ∧ kk ≤ 3) (ht : σ2.1 14 0 7 = kk) (ho : kk = 0 → σ2.2.2.1 = lv vb) (kn : gWX X E (cells + 1) (slots + 6) 2519 (wL b i) [] σ2) : gWX X E cells slots 1555 (wL b i) [] σ := by
  refine x_aload_1 K dL_law_1555 ?_
  refine x_aloadc_0 K dL_law_1556 ?_
  refine x_iload_5 K dL_law_1557 ?_
  refine x_iconst K dL_law_1559 ?_
  refine x_iadd K dL_law_1560 ?_
  refine x_sld K S (i + 1) (by omega) (by omega) dL_law_1561 ?_
  refine x_aload_3 K dL_law_1562 ?_
  refine x_callH3 K h1 mtL_fill msL_fill (g_mem 817 (by decide +kernel)) ⟨by omega, by omega, by omega⟩ rfl (Nat.le_of_ble_eq_true rfl) dL_law_1563 ?_
  refine x_istore_6 K dL_law_1566 rfl ?_
  refine x_aload_2 K dL_law_1568 ?_
  refine x_aloadc_0 K dL_law_1569 ?_
  refine x_iload_5 K dL_law_1570 ?_
  refine x_iconst K dL_law_1572 ?_
  refine x_iadd K dL_law_1573 ?_
  refine x_sld K S (i + 1) (by omega) (by omega) dL_law_1574 ?_
  refine x_callV1 K h2 mtX7_fill miX7_fill rc14 ⟨by decide, by decide⟩ lkRL_212 ⟨by omega, by omega, by omega⟩ rfl (Nat.le_of_ble_eq_true rfl) dL_law_1575 ?_
  refine x_istore_7 K dL_law_1578 rfl ?_
  refine x_aload_2 K dL_law_1580 ?_
  refine x_callV0 K (c7_thrown kk ht) mtX7_thrown miX7_thrown rc14 ⟨by decide, by decide⟩ lkRL_147 ⟨by omega, by omega, by omega⟩ rfl (Nat.le_of_ble_eq_true rfl) dL_law_1581 ?_
  refine x_iload_6 K dL_law_1584 ?_
  refine x_icmp_eq (tgt := 1591) K (by omega) dL_law_1586 (by decide) (fun _ => ?_) (fun h => absurd rfl h)
  refine x_iload_6 K dL_law_1591 ?_
  refine x_if_ne (tgt := 1608) K (by omega) dL_law_1593 (by decide) (fun h0 => ?_) (fun h0 => ?_)
  · refine x_goto (tgt := 2519) K dL_law_1608 (by decide) ?_
    exact gWX.fgt 6 (gWX.fgt 7 (gWX.fgt 8 (gWX.le (by omega) (by omega) kn)))
  · have hk0 : kk = 0 := by omega
    refine x_aload_3 K dL_law_1596 ?_
    refine x_iconst K dL_law_1597 ?_
    refine x_lald K dL_law_1598 ?_
    refine gWX.topv (u := .inl (.long (lv vb))) (congrArg (fun x => (Sum.inl (Value.long x) : gV)) (ho hk0)) ?_
    refine x_iload_7 K dL_law_1599 ?_
    refine x_i2l K dL_law_1601 ?_
    refine x_lcmpE K dL_law_1602 ?_
    refine x_if_eq (tgt := 1608) K (by omega) dL_law_1603 (by decide) (fun _ => ?_) (fun h => absurd rfl h)
    refine x_goto (tgt := 2519) K dL_law_1608 (by decide) ?_
    exact gWX.fgt 6 (gWX.fgt 7 (gWX.fgt 8 (gWX.le (by omega) (by omega) kn)))
theorem w_wouldFill {X : gM} {E : gE} {D n cells slots b L9 i : Nat} {xs : Nat → Int32} {σ σ1 σ2 : gS} (K : gK X E mL_law D n) (S : hSc X E b L9 xs) (hi5 : i + 5 ≤ L9) (hD : 20 ≤ D) (hc : cells + 1 ≤ n) (hs : slots + 6 ≤ 6 * n) {kk vb : Int} (h1 : hCt E mL_wouldFill hhL_wouldFill 13 1 [rf 0 0, iv (sx xs (i + 1)), iv (sx xs (i + 2)), iv (sx xs (i + 3)), rf 23 0] σ (.inl (some (iv kk))) σ1) (h2 : gCt E mX7_wouldFill 12 0 [rf 14 0, iv (sx xs (i + 1)), iv (sx xs (i + 2)), iv (sx xs (i + 3))] σ1 (.inl (some (iv vb))) σ2) (hk : 0 ≤ kk ∧ kk ≤ 3) (ht : σ2.1 14 0 7 = kk) (ho : kk = 0 → σ2.2.2.1 = lv vb) (kn : gWX X E (cells + 1) (slots + 6) 2519 (wL b i) [] σ2) : gWX X E cells slots 1611 (wL b i) [] σ := by
  refine x_aload_1 K dL_law_1611 ?_
  refine x_aloadc_0 K dL_law_1612 ?_
  refine x_iload_5 K dL_law_1613 ?_
  refine x_iconst K dL_law_1615 ?_
  refine x_iadd K dL_law_1616 ?_
  refine x_sld K S (i + 1) (by omega) (by omega) dL_law_1617 ?_
  refine x_aloadc_0 K dL_law_1618 ?_
  refine x_iload_5 K dL_law_1619 ?_
  refine x_iconst K dL_law_1621 ?_
  refine x_iadd K dL_law_1622 ?_
  refine x_sld K S (i + 2) (by omega) (by omega) dL_law_1623 ?_
  refine x_aloadc_0 K dL_law_1624 ?_
  refine x_iload_5 K dL_law_1625 ?_
  refine x_iconst K dL_law_1627 ?_
  refine x_iadd K dL_law_1628 ?_
  refine x_sld K S (i + 3) (by omega) (by omega) dL_law_1629 ?_
  refine x_aload_3 K dL_law_1630 ?_
  refine x_callH5 K h1 mtL_wouldFill msL_wouldFill (g_mem 826 (by decide +kernel)) ⟨by omega, by omega, by omega⟩ rfl (Nat.le_of_ble_eq_true rfl) dL_law_1631 ?_
  refine x_istore_6 K dL_law_1634 rfl ?_
  refine x_aload_2 K dL_law_1636 ?_
  refine x_aloadc_0 K dL_law_1637 ?_
  refine x_iload_5 K dL_law_1638 ?_
  refine x_iconst K dL_law_1640 ?_
  refine x_iadd K dL_law_1641 ?_
  refine x_sld K S (i + 1) (by omega) (by omega) dL_law_1642 ?_
  refine x_aloadc_0 K dL_law_1643 ?_
  refine x_iload_5 K dL_law_1644 ?_
  refine x_iconst K dL_law_1646 ?_
  refine x_iadd K dL_law_1647 ?_
  refine x_sld K S (i + 2) (by omega) (by omega) dL_law_1648 ?_
  refine x_aloadc_0 K dL_law_1649 ?_
  refine x_iload_5 K dL_law_1650 ?_
  refine x_iconst K dL_law_1652 ?_
  refine x_iadd K dL_law_1653 ?_
  refine x_sld K S (i + 3) (by omega) (by omega) dL_law_1654 ?_
  refine x_callV3 K h2 mtX7_wouldFill miX7_wouldFill rc14 ⟨by decide, by decide⟩ lkRL_215 ⟨by omega, by omega, by omega⟩ rfl (Nat.le_of_ble_eq_true rfl) dL_law_1655 ?_
  refine x_istore_7 K dL_law_1658 rfl ?_
  refine x_aload_2 K dL_law_1660 ?_
  refine x_callV0 K (c7_thrown kk ht) mtX7_thrown miX7_thrown rc14 ⟨by decide, by decide⟩ lkRL_147 ⟨by omega, by omega, by omega⟩ rfl (Nat.le_of_ble_eq_true rfl) dL_law_1661 ?_
  refine x_iload_6 K dL_law_1664 ?_
  refine x_icmp_eq (tgt := 1671) K (by omega) dL_law_1666 (by decide) (fun _ => ?_) (fun h => absurd rfl h)
  refine x_iload_6 K dL_law_1671 ?_
  refine x_if_ne (tgt := 1688) K (by omega) dL_law_1673 (by decide) (fun h0 => ?_) (fun h0 => ?_)
  · refine x_goto (tgt := 2519) K dL_law_1688 (by decide) ?_
    exact gWX.fgt 6 (gWX.fgt 7 (gWX.fgt 8 (gWX.le (by omega) (by omega) kn)))
  · have hk0 : kk = 0 := by omega
    refine x_aload_3 K dL_law_1676 ?_
    refine x_iconst K dL_law_1677 ?_
    refine x_lald K dL_law_1678 ?_
    refine gWX.topv (u := .inl (.long (lv vb))) (congrArg (fun x => (Sum.inl (Value.long x) : gV)) (ho hk0)) ?_
    refine x_iload_7 K dL_law_1679 ?_
    refine x_i2l K dL_law_1681 ?_
    refine x_lcmpE K dL_law_1682 ?_
    refine x_if_eq (tgt := 1688) K (by omega) dL_law_1683 (by decide) (fun _ => ?_) (fun h => absurd rfl h)
    refine x_goto (tgt := 2519) K dL_law_1688 (by decide) ?_
    exact gWX.fgt 6 (gWX.fgt 7 (gWX.fgt 8 (gWX.le (by omega) (by omega) kn)))
theorem w_differ {X : gM} {E : gE} {D n cells slots b L9 i : Nat} {xs : Nat → Int32} {σ σ1 σ2 : gS} (K : gK X E mL_law D n) (S : hSc X E b L9 xs) (hi5 : i + 5 ≤ L9) (hD : 20 ≤ D) (hc : cells + 1 ≤ n) (hs : slots + 6 ≤ 6 * n) {kk vb : Int} (h1 : hCt E mL_differ hhL_differ 13 1 [rf 0 0, iv (sx xs (i + 1)), iv (sx xs (i + 2)), rf 23 0] σ (.inl (some (iv kk))) σ1) (h2 : gCt E mX7_differ 12 0 [rf 14 0, iv (sx xs (i + 1)), iv (sx xs (i + 2))] σ1 (.inl (some (iv vb))) σ2) (hk : 0 ≤ kk ∧ kk ≤ 3) (ht : σ2.1 14 0 7 = kk) (ho : kk = 0 → σ2.2.2.1 = lv vb) (kn : gWX X E (cells + 1) (slots + 6) 2519 (wL b i) [] σ2) : gWX X E cells slots 1691 (wL b i) [] σ := by
  refine x_aload_1 K dL_law_1691 ?_
  refine x_aloadc_0 K dL_law_1692 ?_
  refine x_iload_5 K dL_law_1693 ?_
  refine x_iconst K dL_law_1695 ?_
  refine x_iadd K dL_law_1696 ?_
  refine x_sld K S (i + 1) (by omega) (by omega) dL_law_1697 ?_
  refine x_aloadc_0 K dL_law_1698 ?_
  refine x_iload_5 K dL_law_1699 ?_
  refine x_iconst K dL_law_1701 ?_
  refine x_iadd K dL_law_1702 ?_
  refine x_sld K S (i + 2) (by omega) (by omega) dL_law_1703 ?_
  refine x_aload_3 K dL_law_1704 ?_
  refine x_callH4 K h1 mtL_differ msL_differ (g_mem 837 (by decide +kernel)) ⟨by omega, by omega, by omega⟩ rfl (Nat.le_of_ble_eq_true rfl) dL_law_1705 ?_
  refine x_istore_6 K dL_law_1708 rfl ?_
  refine x_aload_2 K dL_law_1710 ?_
  refine x_aloadc_0 K dL_law_1711 ?_
  refine x_iload_5 K dL_law_1712 ?_
  refine x_iconst K dL_law_1714 ?_
  refine x_iadd K dL_law_1715 ?_
  refine x_sld K S (i + 1) (by omega) (by omega) dL_law_1716 ?_
  refine x_aloadc_0 K dL_law_1717 ?_
  refine x_iload_5 K dL_law_1718 ?_
  refine x_iconst K dL_law_1720 ?_
  refine x_iadd K dL_law_1721 ?_
  refine x_sld K S (i + 2) (by omega) (by omega) dL_law_1722 ?_
  refine x_callV2 K h2 mtX7_differ miX7_differ rc14 ⟨by decide, by decide⟩ lkRL_218 ⟨by omega, by omega, by omega⟩ rfl (Nat.le_of_ble_eq_true rfl) dL_law_1723 ?_
  refine x_istore_7 K dL_law_1726 rfl ?_
  refine x_aload_2 K dL_law_1728 ?_
  refine x_callV0 K (c7_thrown kk ht) mtX7_thrown miX7_thrown rc14 ⟨by decide, by decide⟩ lkRL_147 ⟨by omega, by omega, by omega⟩ rfl (Nat.le_of_ble_eq_true rfl) dL_law_1729 ?_
  refine x_iload_6 K dL_law_1732 ?_
  refine x_icmp_eq (tgt := 1739) K (by omega) dL_law_1734 (by decide) (fun _ => ?_) (fun h => absurd rfl h)
  refine x_iload_6 K dL_law_1739 ?_
  refine x_if_ne (tgt := 1756) K (by omega) dL_law_1741 (by decide) (fun h0 => ?_) (fun h0 => ?_)
  · refine x_goto (tgt := 2519) K dL_law_1756 (by decide) ?_
    exact gWX.fgt 6 (gWX.fgt 7 (gWX.fgt 8 (gWX.le (by omega) (by omega) kn)))
  · have hk0 : kk = 0 := by omega
    refine x_aload_3 K dL_law_1744 ?_
    refine x_iconst K dL_law_1745 ?_
    refine x_lald K dL_law_1746 ?_
    refine gWX.topv (u := .inl (.long (lv vb))) (congrArg (fun x => (Sum.inl (Value.long x) : gV)) (ho hk0)) ?_
    refine x_iload_7 K dL_law_1747 ?_
    refine x_i2l K dL_law_1749 ?_
    refine x_lcmpE K dL_law_1750 ?_
    refine x_if_eq (tgt := 1756) K (by omega) dL_law_1751 (by decide) (fun _ => ?_) (fun h => absurd rfl h)
    refine x_goto (tgt := 2519) K dL_law_1756 (by decide) ?_
    exact gWX.fgt 6 (gWX.fgt 7 (gWX.fgt 8 (gWX.le (by omega) (by omega) kn)))
theorem w_ranked {X : gM} {E : gE} {D n cells slots b L9 i : Nat} {xs : Nat → Int32} {σ σ1 σ2 : gS} (K : gK X E mL_law D n) (S : hSc X E b L9 xs) (hi5 : i + 5 ≤ L9) (hD : 20 ≤ D) (hc : cells + 1 ≤ n) (hs : slots + 6 ≤ 6 * n) {kk vb : Int} (h1 : hCt E mL_ranked hhL_ranked 13 1 [rf 0 0, iv (sx xs (i + 1)), rf 23 0] σ (.inl (some (iv kk))) σ1) (h2 : gCt E mX7_ranked 12 0 [rf 14 0, iv (sx xs (i + 1))] σ1 (.inl (some (iv vb))) σ2) (hk : 0 ≤ kk ∧ kk ≤ 3) (ht : σ2.1 14 0 7 = kk) (ho : kk = 0 → σ2.2.2.1 = lv vb) (kn : gWX X E (cells + 1) (slots + 6) 2519 (wL b i) [] σ2) : gWX X E cells slots 1759 (wL b i) [] σ := by
  refine x_aload_1 K dL_law_1759 ?_
  refine x_aloadc_0 K dL_law_1760 ?_
  refine x_iload_5 K dL_law_1761 ?_
  refine x_iconst K dL_law_1763 ?_
  refine x_iadd K dL_law_1764 ?_
  refine x_sld K S (i + 1) (by omega) (by omega) dL_law_1765 ?_
  refine x_aload_3 K dL_law_1766 ?_
  refine x_callH3 K h1 mtL_ranked msL_ranked (g_mem 849 (by decide +kernel)) ⟨by omega, by omega, by omega⟩ rfl (Nat.le_of_ble_eq_true rfl) dL_law_1767 ?_
  refine x_istore_6 K dL_law_1770 rfl ?_
  refine x_aload_2 K dL_law_1772 ?_
  refine x_aloadc_0 K dL_law_1773 ?_
  refine x_iload_5 K dL_law_1774 ?_
  refine x_iconst K dL_law_1776 ?_
  refine x_iadd K dL_law_1777 ?_
  refine x_sld K S (i + 1) (by omega) (by omega) dL_law_1778 ?_
  refine x_callV1 K h2 mtX7_ranked miX7_ranked rc14 ⟨by decide, by decide⟩ lkRL_221 ⟨by omega, by omega, by omega⟩ rfl (Nat.le_of_ble_eq_true rfl) dL_law_1779 ?_
  refine x_istore_7 K dL_law_1782 rfl ?_
  refine x_aload_2 K dL_law_1784 ?_
  refine x_callV0 K (c7_thrown kk ht) mtX7_thrown miX7_thrown rc14 ⟨by decide, by decide⟩ lkRL_147 ⟨by omega, by omega, by omega⟩ rfl (Nat.le_of_ble_eq_true rfl) dL_law_1785 ?_
  refine x_iload_6 K dL_law_1788 ?_
  refine x_icmp_eq (tgt := 1795) K (by omega) dL_law_1790 (by decide) (fun _ => ?_) (fun h => absurd rfl h)
  refine x_iload_6 K dL_law_1795 ?_
  refine x_if_ne (tgt := 1812) K (by omega) dL_law_1797 (by decide) (fun h0 => ?_) (fun h0 => ?_)
  · refine x_goto (tgt := 2519) K dL_law_1812 (by decide) ?_
    exact gWX.fgt 6 (gWX.fgt 7 (gWX.fgt 8 (gWX.le (by omega) (by omega) kn)))
  · have hk0 : kk = 0 := by omega
    refine x_aload_3 K dL_law_1800 ?_
    refine x_iconst K dL_law_1801 ?_
    refine x_lald K dL_law_1802 ?_
    refine gWX.topv (u := .inl (.long (lv vb))) (congrArg (fun x => (Sum.inl (Value.long x) : gV)) (ho hk0)) ?_
    refine x_iload_7 K dL_law_1803 ?_
    refine x_i2l K dL_law_1805 ?_
    refine x_lcmpE K dL_law_1806 ?_
    refine x_if_eq (tgt := 1812) K (by omega) dL_law_1807 (by decide) (fun _ => ?_) (fun h => absurd rfl h)
    refine x_goto (tgt := 2519) K dL_law_1812 (by decide) ?_
    exact gWX.fgt 6 (gWX.fgt 7 (gWX.fgt 8 (gWX.le (by omega) (by omega) kn)))
theorem w_count {X : gM} {E : gE} {D n cells slots b L9 i : Nat} {xs : Nat → Int32} {σ σ1 σ2 : gS} (K : gK X E mL_law D n) (S : hSc X E b L9 xs) (hi5 : i + 5 ≤ L9) (hD : 20 ≤ D) (hc : cells + 1 ≤ n) (hs : slots + 6 ≤ 6 * n) {kk vb : Int} (h1 : hCt E mL_count hhL_count 13 1 [rf 0 0, iv (sx xs (i + 1)), iv (sx xs (i + 2)), rf 23 0] σ (.inl (some (iv kk))) σ1) (h2 : gCt E mX7_count 12 0 [rf 14 0, iv (sx xs (i + 1)), iv (sx xs (i + 2))] σ1 (.inl (some (iv vb))) σ2) (hk : 0 ≤ kk ∧ kk ≤ 3) (ht : σ2.1 14 0 7 = kk) (ho : kk = 0 → σ2.2.2.1 = lv vb) (kn : gWX X E (cells + 1) (slots + 6) 2519 (wL b i) [] σ2) : gWX X E cells slots 1815 (wL b i) [] σ := by
  refine x_aload_1 K dL_law_1815 ?_
  refine x_aloadc_0 K dL_law_1816 ?_
  refine x_iload_5 K dL_law_1817 ?_
  refine x_iconst K dL_law_1819 ?_
  refine x_iadd K dL_law_1820 ?_
  refine x_sld K S (i + 1) (by omega) (by omega) dL_law_1821 ?_
  refine x_aloadc_0 K dL_law_1822 ?_
  refine x_iload_5 K dL_law_1823 ?_
  refine x_iconst K dL_law_1825 ?_
  refine x_iadd K dL_law_1826 ?_
  refine x_sld K S (i + 2) (by omega) (by omega) dL_law_1827 ?_
  refine x_aload_3 K dL_law_1828 ?_
  refine x_callH4 K h1 mtL_count msL_count (g_mem 870 (by decide +kernel)) ⟨by omega, by omega, by omega⟩ rfl (Nat.le_of_ble_eq_true rfl) dL_law_1829 ?_
  refine x_istore_6 K dL_law_1832 rfl ?_
  refine x_aload_2 K dL_law_1834 ?_
  refine x_aloadc_0 K dL_law_1835 ?_
  refine x_iload_5 K dL_law_1836 ?_
  refine x_iconst K dL_law_1838 ?_
  refine x_iadd K dL_law_1839 ?_
  refine x_sld K S (i + 1) (by omega) (by omega) dL_law_1840 ?_
  refine x_aloadc_0 K dL_law_1841 ?_
  refine x_iload_5 K dL_law_1842 ?_
  refine x_iconst K dL_law_1844 ?_
  refine x_iadd K dL_law_1845 ?_
  refine x_sld K S (i + 2) (by omega) (by omega) dL_law_1846 ?_
  refine x_callV2 K h2 mtX7_count miX7_count rc14 ⟨by decide, by decide⟩ lkRL_224 ⟨by omega, by omega, by omega⟩ rfl (Nat.le_of_ble_eq_true rfl) dL_law_1847 ?_
  refine x_istore_7 K dL_law_1850 rfl ?_
  refine x_aload_2 K dL_law_1852 ?_
  refine x_callV0 K (c7_thrown kk ht) mtX7_thrown miX7_thrown rc14 ⟨by decide, by decide⟩ lkRL_147 ⟨by omega, by omega, by omega⟩ rfl (Nat.le_of_ble_eq_true rfl) dL_law_1853 ?_
  refine x_iload_6 K dL_law_1856 ?_
  refine x_icmp_eq (tgt := 1863) K (by omega) dL_law_1858 (by decide) (fun _ => ?_) (fun h => absurd rfl h)
  refine x_iload_6 K dL_law_1863 ?_
  refine x_if_ne (tgt := 1880) K (by omega) dL_law_1865 (by decide) (fun h0 => ?_) (fun h0 => ?_)
  · refine x_goto (tgt := 2519) K dL_law_1880 (by decide) ?_
    exact gWX.fgt 6 (gWX.fgt 7 (gWX.fgt 8 (gWX.le (by omega) (by omega) kn)))
  · have hk0 : kk = 0 := by omega
    refine x_aload_3 K dL_law_1868 ?_
    refine x_iconst K dL_law_1869 ?_
    refine x_lald K dL_law_1870 ?_
    refine gWX.topv (u := .inl (.long (lv vb))) (congrArg (fun x => (Sum.inl (Value.long x) : gV)) (ho hk0)) ?_
    refine x_iload_7 K dL_law_1871 ?_
    refine x_i2l K dL_law_1873 ?_
    refine x_lcmpE K dL_law_1874 ?_
    refine x_if_eq (tgt := 1880) K (by omega) dL_law_1875 (by decide) (fun _ => ?_) (fun h => absurd rfl h)
    refine x_goto (tgt := 2519) K dL_law_1880 (by decide) ?_
    exact gWX.fgt 6 (gWX.fgt 7 (gWX.fgt 8 (gWX.le (by omega) (by omega) kn)))
theorem w_line {X : gM} {E : gE} {D n cells slots b L9 i : Nat} {xs : Nat → Int32} {σ σ1 σ2 : gS} (K : gK X E mL_law D n) (S : hSc X E b L9 xs) (hi5 : i + 5 ≤ L9) (hD : 20 ≤ D) (hc : cells + 1 ≤ n) (hs : slots + 6 ≤ 6 * n) {kk vb : Int} (h1 : hCt E mL_line hhL_line 13 1 [rf 0 0, iv (sx xs (i + 1)), iv (sx xs (i + 2)), rf 23 0] σ (.inl (some (iv kk))) σ1) (h2 : gCt E mX7_line 12 0 [rf 14 0, iv (sx xs (i + 1)), iv (sx xs (i + 2))] σ1 (.inl (some (iv vb))) σ2) (hk : 0 ≤ kk ∧ kk ≤ 3) (ht : σ2.1 14 0 7 = kk) (ho : kk = 0 → σ2.2.2.1 = lv vb) (kn : gWX X E (cells + 1) (slots + 6) 2519 (wL b i) [] σ2) : gWX X E cells slots 1883 (wL b i) [] σ := by
  refine x_aload_1 K dL_law_1883 ?_
  refine x_aloadc_0 K dL_law_1884 ?_
  refine x_iload_5 K dL_law_1885 ?_
  refine x_iconst K dL_law_1887 ?_
  refine x_iadd K dL_law_1888 ?_
  refine x_sld K S (i + 1) (by omega) (by omega) dL_law_1889 ?_
  refine x_aloadc_0 K dL_law_1890 ?_
  refine x_iload_5 K dL_law_1891 ?_
  refine x_iconst K dL_law_1893 ?_
  refine x_iadd K dL_law_1894 ?_
  refine x_sld K S (i + 2) (by omega) (by omega) dL_law_1895 ?_
  refine x_aload_3 K dL_law_1896 ?_
  refine x_callH4 K h1 mtL_line msL_line (g_mem 883 (by decide +kernel)) ⟨by omega, by omega, by omega⟩ rfl (Nat.le_of_ble_eq_true rfl) dL_law_1897 ?_
  refine x_istore_6 K dL_law_1900 rfl ?_
  refine x_aload_2 K dL_law_1902 ?_
  refine x_aloadc_0 K dL_law_1903 ?_
  refine x_iload_5 K dL_law_1904 ?_
  refine x_iconst K dL_law_1906 ?_
  refine x_iadd K dL_law_1907 ?_
  refine x_sld K S (i + 1) (by omega) (by omega) dL_law_1908 ?_
  refine x_aloadc_0 K dL_law_1909 ?_
  refine x_iload_5 K dL_law_1910 ?_
  refine x_iconst K dL_law_1912 ?_
  refine x_iadd K dL_law_1913 ?_
  refine x_sld K S (i + 2) (by omega) (by omega) dL_law_1914 ?_
  refine x_callV2 K h2 mtX7_line miX7_line rc14 ⟨by decide, by decide⟩ lkRL_227 ⟨by omega, by omega, by omega⟩ rfl (Nat.le_of_ble_eq_true rfl) dL_law_1915 ?_
  refine x_istore_7 K dL_law_1918 rfl ?_
  refine x_aload_2 K dL_law_1920 ?_
  refine x_callV0 K (c7_thrown kk ht) mtX7_thrown miX7_thrown rc14 ⟨by decide, by decide⟩ lkRL_147 ⟨by omega, by omega, by omega⟩ rfl (Nat.le_of_ble_eq_true rfl) dL_law_1921 ?_
  refine x_iload_6 K dL_law_1924 ?_
  refine x_icmp_eq (tgt := 1931) K (by omega) dL_law_1926 (by decide) (fun _ => ?_) (fun h => absurd rfl h)
  refine x_iload_6 K dL_law_1931 ?_
  refine x_if_ne (tgt := 1948) K (by omega) dL_law_1933 (by decide) (fun h0 => ?_) (fun h0 => ?_)
  · refine x_goto (tgt := 2519) K dL_law_1948 (by decide) ?_
    exact gWX.fgt 6 (gWX.fgt 7 (gWX.fgt 8 (gWX.le (by omega) (by omega) kn)))
  · have hk0 : kk = 0 := by omega
    refine x_aload_3 K dL_law_1936 ?_
    refine x_iconst K dL_law_1937 ?_
    refine x_lald K dL_law_1938 ?_
    refine gWX.topv (u := .inl (.long (lv vb))) (congrArg (fun x => (Sum.inl (Value.long x) : gV)) (ho hk0)) ?_
    refine x_iload_7 K dL_law_1939 ?_
    refine x_i2l K dL_law_1941 ?_
    refine x_lcmpE K dL_law_1942 ?_
    refine x_if_eq (tgt := 1948) K (by omega) dL_law_1943 (by decide) (fun _ => ?_) (fun h => absurd rfl h)
    refine x_goto (tgt := 2519) K dL_law_1948 (by decide) ?_
    exact gWX.fgt 6 (gWX.fgt 7 (gWX.fgt 8 (gWX.le (by omega) (by omega) kn)))
theorem w_character {X : gM} {E : gE} {D n cells slots b L9 i : Nat} {xs : Nat → Int32} {σ σ1 σ2 : gS} (K : gK X E mL_law D n) (S : hSc X E b L9 xs) (hi5 : i + 5 ≤ L9) (hD : 20 ≤ D) (hc : cells + 1 ≤ n) (hs : slots + 6 ≤ 6 * n) {kk vb : Int} (h1 : hCt E mL_character hhL_character 13 1 [rf 0 0, iv (sx xs (i + 1)), rf 23 0] σ (.inl (some (iv kk))) σ1) (h2 : gCt E mX7_character 12 0 [rf 14 0, iv (sx xs (i + 1))] σ1 (.inl (some (iv vb))) σ2) (hk : 0 ≤ kk ∧ kk ≤ 3) (ht : σ2.1 14 0 7 = kk) (ho : kk = 0 → σ2.2.2.1 = lv vb) (kn : gWX X E (cells + 1) (slots + 6) 2519 (wL b i) [] σ2) : gWX X E cells slots 1951 (wL b i) [] σ := by
  refine x_aload_1 K dL_law_1951 ?_
  refine x_aloadc_0 K dL_law_1952 ?_
  refine x_iload_5 K dL_law_1953 ?_
  refine x_iconst K dL_law_1955 ?_
  refine x_iadd K dL_law_1956 ?_
  refine x_sld K S (i + 1) (by omega) (by omega) dL_law_1957 ?_
  refine x_aload_3 K dL_law_1958 ?_
  refine x_callH3 K h1 mtL_character msL_character (g_mem 1168 (by decide +kernel)) ⟨by omega, by omega, by omega⟩ rfl (Nat.le_of_ble_eq_true rfl) dL_law_1959 ?_
  refine x_istore_6 K dL_law_1962 rfl ?_
  refine x_aload_2 K dL_law_1964 ?_
  refine x_aloadc_0 K dL_law_1965 ?_
  refine x_iload_5 K dL_law_1966 ?_
  refine x_iconst K dL_law_1968 ?_
  refine x_iadd K dL_law_1969 ?_
  refine x_sld K S (i + 1) (by omega) (by omega) dL_law_1970 ?_
  refine x_callV1 K h2 mtX7_character miX7_character rc14 ⟨by decide, by decide⟩ lkRL_230 ⟨by omega, by omega, by omega⟩ rfl (Nat.le_of_ble_eq_true rfl) dL_law_1971 ?_
  refine x_istore_7 K dL_law_1974 rfl ?_
  refine x_aload_2 K dL_law_1976 ?_
  refine x_callV0 K (c7_thrown kk ht) mtX7_thrown miX7_thrown rc14 ⟨by decide, by decide⟩ lkRL_147 ⟨by omega, by omega, by omega⟩ rfl (Nat.le_of_ble_eq_true rfl) dL_law_1977 ?_
  refine x_iload_6 K dL_law_1980 ?_
  refine x_icmp_eq (tgt := 1987) K (by omega) dL_law_1982 (by decide) (fun _ => ?_) (fun h => absurd rfl h)
  refine x_iload_6 K dL_law_1987 ?_
  refine x_if_ne (tgt := 2004) K (by omega) dL_law_1989 (by decide) (fun h0 => ?_) (fun h0 => ?_)
  · refine x_goto (tgt := 2519) K dL_law_2004 (by decide) ?_
    exact gWX.fgt 6 (gWX.fgt 7 (gWX.fgt 8 (gWX.le (by omega) (by omega) kn)))
  · have hk0 : kk = 0 := by omega
    refine x_aload_3 K dL_law_1992 ?_
    refine x_iconst K dL_law_1993 ?_
    refine x_lald K dL_law_1994 ?_
    refine gWX.topv (u := .inl (.long (lv vb))) (congrArg (fun x => (Sum.inl (Value.long x) : gV)) (ho hk0)) ?_
    refine x_iload_7 K dL_law_1995 ?_
    refine x_i2l K dL_law_1997 ?_
    refine x_lcmpE K dL_law_1998 ?_
    refine x_if_eq (tgt := 2004) K (by omega) dL_law_1999 (by decide) (fun _ => ?_) (fun h => absurd rfl h)
    refine x_goto (tgt := 2519) K dL_law_2004 (by decide) ?_
    exact gWX.fgt 6 (gWX.fgt 7 (gWX.fgt 8 (gWX.le (by omega) (by omega) kn)))
theorem w_append {X : gM} {E : gE} {D n cells slots b L9 i : Nat} {xs : Nat → Int32} {σ σ1 σ2 : gS} (K : gK X E mL_law D n) (S : hSc X E b L9 xs) (hi5 : i + 5 ≤ L9) (hD : 20 ≤ D) (hc : cells + 1 ≤ n) (hs : slots + 6 ≤ 6 * n) {kk vb : Int} (h1 : hCt E mL_append hhL_append 13 1 [rf 0 0, iv (sx xs (i + 1) % 65536), rf 23 0] σ (.inl (some (iv kk))) σ1) (h2 : gCt E mX7_append 12 0 [rf 14 0, iv (sx xs (i + 1) % 65536)] σ1 (.inl (some (iv vb))) σ2) (hk : 0 ≤ kk ∧ kk ≤ 3) (ht : σ2.1 14 0 7 = kk) (ho : kk = 0 → σ2.2.2.1 = lv vb) (kn : gWX X E (cells + 1) (slots + 6) 2519 (wL b i) [] σ2) : gWX X E cells slots 2007 (wL b i) [] σ := by
  refine x_aload_1 K dL_law_2007 ?_
  refine x_aloadc_0 K dL_law_2008 ?_
  refine x_iload_5 K dL_law_2009 ?_
  refine x_iconst K dL_law_2011 ?_
  refine x_iadd K dL_law_2012 ?_
  refine x_sld K S (i + 1) (by omega) (by omega) dL_law_2013 ?_
  refine x_i2c K dL_law_2014 ?_
  refine x_aload_3 K dL_law_2015 ?_
  refine x_callH3 K h1 mtL_append msL_append (g_mem 1186 (by decide +kernel)) ⟨by omega, by omega, by omega⟩ rfl (Nat.le_of_ble_eq_true rfl) dL_law_2016 ?_
  refine x_istore_6 K dL_law_2019 rfl ?_
  refine x_aload_2 K dL_law_2021 ?_
  refine x_aloadc_0 K dL_law_2022 ?_
  refine x_iload_5 K dL_law_2023 ?_
  refine x_iconst K dL_law_2025 ?_
  refine x_iadd K dL_law_2026 ?_
  refine x_sld K S (i + 1) (by omega) (by omega) dL_law_2027 ?_
  refine x_i2c K dL_law_2028 ?_
  refine x_callV1 K h2 mtX7_append miX7_append rc14 ⟨by decide, by decide⟩ lkRL_234 ⟨by omega, by omega, by omega⟩ rfl (Nat.le_of_ble_eq_true rfl) dL_law_2029 ?_
  refine x_istore_7 K dL_law_2032 rfl ?_
  refine x_aload_2 K dL_law_2034 ?_
  refine x_callV0 K (c7_thrown kk ht) mtX7_thrown miX7_thrown rc14 ⟨by decide, by decide⟩ lkRL_147 ⟨by omega, by omega, by omega⟩ rfl (Nat.le_of_ble_eq_true rfl) dL_law_2035 ?_
  refine x_iload_6 K dL_law_2038 ?_
  refine x_icmp_eq (tgt := 2045) K (by omega) dL_law_2040 (by decide) (fun _ => ?_) (fun h => absurd rfl h)
  refine x_iload_6 K dL_law_2045 ?_
  refine x_if_ne (tgt := 2062) K (by omega) dL_law_2047 (by decide) (fun h0 => ?_) (fun h0 => ?_)
  · refine x_goto (tgt := 2519) K dL_law_2062 (by decide) ?_
    exact gWX.fgt 6 (gWX.fgt 7 (gWX.fgt 8 (gWX.le (by omega) (by omega) kn)))
  · have hk0 : kk = 0 := by omega
    refine x_aload_3 K dL_law_2050 ?_
    refine x_iconst K dL_law_2051 ?_
    refine x_lald K dL_law_2052 ?_
    refine gWX.topv (u := .inl (.long (lv vb))) (congrArg (fun x => (Sum.inl (Value.long x) : gV)) (ho hk0)) ?_
    refine x_iload_7 K dL_law_2053 ?_
    refine x_i2l K dL_law_2055 ?_
    refine x_lcmpE K dL_law_2056 ?_
    refine x_if_eq (tgt := 2062) K (by omega) dL_law_2057 (by decide) (fun _ => ?_) (fun h => absurd rfl h)
    refine x_goto (tgt := 2519) K dL_law_2062 (by decide) ?_
    exact gWX.fgt 6 (gWX.fgt 7 (gWX.fgt 8 (gWX.le (by omega) (by omega) kn)))
theorem w_read {X : gM} {E : gE} {D n cells slots b L9 i : Nat} {xs : Nat → Int32} {σ σ1 σ2 : gS} (K : gK X E mL_law D n) (S : hSc X E b L9 xs) (hi5 : i + 5 ≤ L9) (hD : 20 ≤ D) (hc : cells + 1 ≤ n) (hs : slots + 6 ≤ 6 * n) {kk vb : Int} (h1 : hCt E mL_read hhL_read 13 1 [rf 0 0, rf 23 0] σ (.inl (some (iv kk))) σ1) (h2 : gCt E mX7_read 12 0 [rf 14 0] σ1 (.inl (some (iv vb))) σ2) (hk : 0 ≤ kk ∧ kk ≤ 3) (ht : σ2.1 14 0 7 = kk) (ho : kk = 0 → σ2.2.2.1 = lv vb) (kn : gWX X E (cells + 1) (slots + 6) 2519 (wL b i) [] σ2) : gWX X E cells slots 2065 (wL b i) [] σ := by
  refine x_aload_1 K dL_law_2065 ?_
  refine x_aload_3 K dL_law_2066 ?_
  refine x_callH2 K h1 mtL_read msL_read (g_mem 1218 (by decide +kernel)) ⟨by omega, by omega, by omega⟩ rfl (Nat.le_of_ble_eq_true rfl) dL_law_2067 ?_
  refine x_istore_6 K dL_law_2070 rfl ?_
  refine x_aload_2 K dL_law_2072 ?_
  refine x_callV0 K h2 mtX7_read miX7_read rc14 ⟨by decide, by decide⟩ lkRL_238 ⟨by omega, by omega, by omega⟩ rfl (Nat.le_of_ble_eq_true rfl) dL_law_2073 ?_
  refine x_istore_7 K dL_law_2076 rfl ?_
  refine x_aload_2 K dL_law_2078 ?_
  refine x_callV0 K (c7_thrown kk ht) mtX7_thrown miX7_thrown rc14 ⟨by decide, by decide⟩ lkRL_147 ⟨by omega, by omega, by omega⟩ rfl (Nat.le_of_ble_eq_true rfl) dL_law_2079 ?_
  refine x_iload_6 K dL_law_2082 ?_
  refine x_icmp_eq (tgt := 2089) K (by omega) dL_law_2084 (by decide) (fun _ => ?_) (fun h => absurd rfl h)
  refine x_iload_6 K dL_law_2089 ?_
  refine x_if_ne (tgt := 2106) K (by omega) dL_law_2091 (by decide) (fun h0 => ?_) (fun h0 => ?_)
  · refine x_goto (tgt := 2519) K dL_law_2106 (by decide) ?_
    exact gWX.fgt 6 (gWX.fgt 7 (gWX.fgt 8 (gWX.le (by omega) (by omega) kn)))
  · have hk0 : kk = 0 := by omega
    refine x_aload_3 K dL_law_2094 ?_
    refine x_iconst K dL_law_2095 ?_
    refine x_lald K dL_law_2096 ?_
    refine gWX.topv (u := .inl (.long (lv vb))) (congrArg (fun x => (Sum.inl (Value.long x) : gV)) (ho hk0)) ?_
    refine x_iload_7 K dL_law_2097 ?_
    refine x_i2l K dL_law_2099 ?_
    refine x_lcmpE K dL_law_2100 ?_
    refine x_if_eq (tgt := 2106) K (by omega) dL_law_2101 (by decide) (fun _ => ?_) (fun h => absurd rfl h)
    refine x_goto (tgt := 2519) K dL_law_2106 (by decide) ?_
    exact gWX.fgt 6 (gWX.fgt 7 (gWX.fgt 8 (gWX.le (by omega) (by omega) kn)))
theorem w_errorPosition {X : gM} {E : gE} {D n cells slots b L9 i : Nat} {xs : Nat → Int32} {σ σ1 σ2 : gS} (K : gK X E mL_law D n) (S : hSc X E b L9 xs) (hi5 : i + 5 ≤ L9) (hD : 20 ≤ D) (hc : cells + 1 ≤ n) (hs : slots + 6 ≤ 6 * n) {v : Int} (hv : -2147483648 ≤ v ∧ v < 2147483648) (h1 : gCt E mX6_errorPosition 12 0 [rf 0 0] σ (.inl (some (iv v))) σ1) (h2 : gCt E mX7_errorPosition 12 0 [rf 14 0] σ1 (.inl (some (iv v))) σ2) (kn : gWX X E (cells + 1) (slots + 6) 2519 (wL b i) [] σ2) : gWX X E cells slots 2109 (wL b i) [] σ := by
  refine x_aload_1 K dL_law_2109 ?_
  refine x_callV0 K h1 mtX6_errorPosition miX6_errorPosition rc0 ⟨by decide, by decide⟩ lkRL_239 ⟨by omega, by omega, by omega⟩ rfl (Nat.le_of_ble_eq_true rfl) dL_law_2110 ?_
  refine x_aload_2 K dL_law_2113 ?_
  refine x_callV0 K h2 mtX7_errorPosition miX7_errorPosition rc14 ⟨by decide, by decide⟩ lkRL_242 ⟨by omega, by omega, by omega⟩ rfl (Nat.le_of_ble_eq_true rfl) dL_law_2114 ?_
  refine x_icmp_eq (tgt := 2519) K ⟨hv, hv⟩ dL_law_2117 (by decide) (fun _ => ?_) (fun h => absurd rfl h)
  exact gWX.le (by omega) (by omega) kn
theorem w_refusal {X : gM} {E : gE} {D n cells slots b L9 i : Nat} {xs : Nat → Int32} {σ σ1 σ2 : gS} (K : gK X E mL_law D n) (S : hSc X E b L9 xs) (hi5 : i + 5 ≤ L9) (hD : 20 ≤ D) (hc : cells + 1 ≤ n) (hs : slots + 6 ≤ 6 * n) {kk vb : Int} {bb : Int} (hbb : bb = if sx xs (i + 1) = 0 then 0 else 1) (h1 : hCt E mL_refusal hhL_refusal 13 1 [rf 0 0, iv bb, rf 23 0] σ (.inl (some (iv kk))) σ1) (h2 : gCt E mX7_refusal 12 0 [rf 14 0, iv bb] σ1 (.inl (some (iv vb))) σ2) (hk : 0 ≤ kk ∧ kk ≤ 3) (ht : σ2.1 14 0 7 = kk) (ho : kk = 0 → σ2.2.2.1 = lv vb) (kn : gWX X E (cells + 1) (slots + 6) 2519 (wL b i) [] σ2) : gWX X E cells slots 2122 (wL b i) [] σ := by
  have hs1 := sx_r xs (i + 1)
  by_cases hq : sx xs (i + 1) = 0
  · rw [if_pos hq] at hbb
    subst hbb
    refine x_aload_1 K dL_law_2122 ?_
    refine x_aloadc_0 K dL_law_2123 ?_
    refine x_iload_5 K dL_law_2124 ?_
    refine x_iconst K dL_law_2126 ?_
    refine x_iadd K dL_law_2127 ?_
    refine x_sld K S (i + 1) (by omega) (by omega) dL_law_2128 ?_
    refine x_if_eq (tgt := 2136) K hs1 dL_law_2129 (by decide) (fun _ => ?_) (fun h => absurd hq h)
    refine x_iconst K dL_law_2136 ?_
    refine x_aload_3 K dL_law_2137 ?_
    refine x_callH3 K h1 mtL_refusal msL_refusal (g_mem 1289 (by decide +kernel)) ⟨by omega, by omega, by omega⟩ rfl (Nat.le_of_ble_eq_true rfl) dL_law_2138 ?_
    refine x_istore_6 K dL_law_2141 rfl ?_
    refine x_aload_2 K dL_law_2143 ?_
    refine x_aloadc_0 K dL_law_2144 ?_
    refine x_iload_5 K dL_law_2145 ?_
    refine x_iconst K dL_law_2147 ?_
    refine x_iadd K dL_law_2148 ?_
    refine x_sld K S (i + 1) (by omega) (by omega) dL_law_2149 ?_
    refine x_if_eq (tgt := 2157) K hs1 dL_law_2150 (by decide) (fun _ => ?_) (fun h => absurd hq h)
    refine x_iconst K dL_law_2157 ?_
    refine x_callV1 K h2 mtX7_refusal miX7_refusal rc14 ⟨by decide, by decide⟩ lkRL_246 ⟨by omega, by omega, by omega⟩ rfl (Nat.le_of_ble_eq_true rfl) dL_law_2158 ?_
    refine x_istore_7 K dL_law_2161 rfl ?_
    refine x_aload_2 K dL_law_2163 ?_
    refine x_callV0 K (c7_thrown kk ht) mtX7_thrown miX7_thrown rc14 ⟨by decide, by decide⟩ lkRL_147 ⟨by omega, by omega, by omega⟩ rfl (Nat.le_of_ble_eq_true rfl) dL_law_2164 ?_
    refine x_iload_6 K dL_law_2167 ?_
    refine x_icmp_eq (tgt := 2174) K (by omega) dL_law_2169 (by decide) (fun _ => ?_) (fun h => absurd rfl h)
    refine x_iload_6 K dL_law_2174 ?_
    refine x_if_ne (tgt := 2191) K (by omega) dL_law_2176 (by decide) (fun h0 => ?_) (fun h0 => ?_)
    · refine x_goto (tgt := 2519) K dL_law_2191 (by decide) ?_
      exact gWX.fgt 6 (gWX.fgt 7 (gWX.fgt 8 (gWX.le (by omega) (by omega) kn)))
    · have hk0 : kk = 0 := by omega
      refine x_aload_3 K dL_law_2179 ?_
      refine x_iconst K dL_law_2180 ?_
      refine x_lald K dL_law_2181 ?_
      refine gWX.topv (u := .inl (.long (lv vb))) (congrArg (fun x => (Sum.inl (Value.long x) : gV)) (ho hk0)) ?_
      refine x_iload_7 K dL_law_2182 ?_
      refine x_i2l K dL_law_2184 ?_
      refine x_lcmpE K dL_law_2185 ?_
      refine x_if_eq (tgt := 2191) K (by omega) dL_law_2186 (by decide) (fun _ => ?_) (fun h => absurd rfl h)
      refine x_goto (tgt := 2519) K dL_law_2191 (by decide) ?_
      exact gWX.fgt 6 (gWX.fgt 7 (gWX.fgt 8 (gWX.le (by omega) (by omega) kn)))
  · rw [if_neg hq] at hbb
    subst hbb
    refine x_aload_1 K dL_law_2122 ?_
    refine x_aloadc_0 K dL_law_2123 ?_
    refine x_iload_5 K dL_law_2124 ?_
    refine x_iconst K dL_law_2126 ?_
    refine x_iadd K dL_law_2127 ?_
    refine x_sld K S (i + 1) (by omega) (by omega) dL_law_2128 ?_
    refine x_if_eq (tgt := 2136) K hs1 dL_law_2129 (by decide) (fun h => absurd h hq) (fun _ => ?_)
    refine x_iconst K dL_law_2132 ?_
    refine x_goto (tgt := 2137) K dL_law_2133 (by decide) ?_
    refine x_aload_3 K dL_law_2137 ?_
    refine x_callH3 K h1 mtL_refusal msL_refusal (g_mem 1289 (by decide +kernel)) ⟨by omega, by omega, by omega⟩ rfl (Nat.le_of_ble_eq_true rfl) dL_law_2138 ?_
    refine x_istore_6 K dL_law_2141 rfl ?_
    refine x_aload_2 K dL_law_2143 ?_
    refine x_aloadc_0 K dL_law_2144 ?_
    refine x_iload_5 K dL_law_2145 ?_
    refine x_iconst K dL_law_2147 ?_
    refine x_iadd K dL_law_2148 ?_
    refine x_sld K S (i + 1) (by omega) (by omega) dL_law_2149 ?_
    refine x_if_eq (tgt := 2157) K hs1 dL_law_2150 (by decide) (fun h => absurd h hq) (fun _ => ?_)
    refine x_iconst K dL_law_2153 ?_
    refine x_goto (tgt := 2158) K dL_law_2154 (by decide) ?_
    refine x_callV1 K h2 mtX7_refusal miX7_refusal rc14 ⟨by decide, by decide⟩ lkRL_246 ⟨by omega, by omega, by omega⟩ rfl (Nat.le_of_ble_eq_true rfl) dL_law_2158 ?_
    refine x_istore_7 K dL_law_2161 rfl ?_
    refine x_aload_2 K dL_law_2163 ?_
    refine x_callV0 K (c7_thrown kk ht) mtX7_thrown miX7_thrown rc14 ⟨by decide, by decide⟩ lkRL_147 ⟨by omega, by omega, by omega⟩ rfl (Nat.le_of_ble_eq_true rfl) dL_law_2164 ?_
    refine x_iload_6 K dL_law_2167 ?_
    refine x_icmp_eq (tgt := 2174) K (by omega) dL_law_2169 (by decide) (fun _ => ?_) (fun h => absurd rfl h)
    refine x_iload_6 K dL_law_2174 ?_
    refine x_if_ne (tgt := 2191) K (by omega) dL_law_2176 (by decide) (fun h0 => ?_) (fun h0 => ?_)
    · refine x_goto (tgt := 2519) K dL_law_2191 (by decide) ?_
      exact gWX.fgt 6 (gWX.fgt 7 (gWX.fgt 8 (gWX.le (by omega) (by omega) kn)))
    · have hk0 : kk = 0 := by omega
      refine x_aload_3 K dL_law_2179 ?_
      refine x_iconst K dL_law_2180 ?_
      refine x_lald K dL_law_2181 ?_
      refine gWX.topv (u := .inl (.long (lv vb))) (congrArg (fun x => (Sum.inl (Value.long x) : gV)) (ho hk0)) ?_
      refine x_iload_7 K dL_law_2182 ?_
      refine x_i2l K dL_law_2184 ?_
      refine x_lcmpE K dL_law_2185 ?_
      refine x_if_eq (tgt := 2191) K (by omega) dL_law_2186 (by decide) (fun _ => ?_) (fun h => absurd rfl h)
      refine x_goto (tgt := 2519) K dL_law_2191 (by decide) ?_
      exact gWX.fgt 6 (gWX.fgt 7 (gWX.fgt 8 (gWX.le (by omega) (by omega) kn)))
theorem w_account {X : gM} {E : gE} {D n cells slots b L9 i : Nat} {xs : Nat → Int32} {σ σ1 σ2 : gS} (K : gK X E mL_law D n) (S : hSc X E b L9 xs) (hi5 : i + 5 ≤ L9) (hD : 20 ≤ D) (hc : cells + 1 ≤ n) (hs : slots + 6 ≤ 6 * n) {kk vb : Int} (h1 : hCt E mL_account hhL_account 13 1 [rf 0 0, iv (sx xs (i + 1)), rf 23 0] σ (.inl (some (iv kk))) σ1) (h2 : gCt E mX7_account 12 0 [rf 14 0, iv (sx xs (i + 1))] σ1 (.inl (some (iv vb))) σ2) (hk : 0 ≤ kk ∧ kk ≤ 3) (ht : σ2.1 14 0 7 = kk) (ho : kk = 0 → σ2.2.2.1 = lv vb) (kn : gWX X E (cells + 1) (slots + 6) 2519 (wL b i) [] σ2) : gWX X E cells slots 2194 (wL b i) [] σ := by
  refine x_aload_1 K dL_law_2194 ?_
  refine x_aloadc_0 K dL_law_2195 ?_
  refine x_iload_5 K dL_law_2196 ?_
  refine x_iconst K dL_law_2198 ?_
  refine x_iadd K dL_law_2199 ?_
  refine x_sld K S (i + 1) (by omega) (by omega) dL_law_2200 ?_
  refine x_aload_3 K dL_law_2201 ?_
  refine x_callH3 K h1 mtL_account msL_account (g_mem 1297 (by decide +kernel)) ⟨by omega, by omega, by omega⟩ rfl (Nat.le_of_ble_eq_true rfl) dL_law_2202 ?_
  refine x_istore_6 K dL_law_2205 rfl ?_
  refine x_aload_2 K dL_law_2207 ?_
  refine x_aloadc_0 K dL_law_2208 ?_
  refine x_iload_5 K dL_law_2209 ?_
  refine x_iconst K dL_law_2211 ?_
  refine x_iadd K dL_law_2212 ?_
  refine x_sld K S (i + 1) (by omega) (by omega) dL_law_2213 ?_
  refine x_callV1 K h2 mtX7_account miX7_account rc14 ⟨by decide, by decide⟩ lkRL_249 ⟨by omega, by omega, by omega⟩ rfl (Nat.le_of_ble_eq_true rfl) dL_law_2214 ?_
  refine x_istore_7 K dL_law_2217 rfl ?_
  refine x_aload_2 K dL_law_2219 ?_
  refine x_callV0 K (c7_thrown kk ht) mtX7_thrown miX7_thrown rc14 ⟨by decide, by decide⟩ lkRL_147 ⟨by omega, by omega, by omega⟩ rfl (Nat.le_of_ble_eq_true rfl) dL_law_2220 ?_
  refine x_iload_6 K dL_law_2223 ?_
  refine x_icmp_eq (tgt := 2230) K (by omega) dL_law_2225 (by decide) (fun _ => ?_) (fun h => absurd rfl h)
  refine x_iload_6 K dL_law_2230 ?_
  refine x_if_ne (tgt := 2247) K (by omega) dL_law_2232 (by decide) (fun h0 => ?_) (fun h0 => ?_)
  · refine x_goto (tgt := 2519) K dL_law_2247 (by decide) ?_
    exact gWX.fgt 6 (gWX.fgt 7 (gWX.fgt 8 (gWX.le (by omega) (by omega) kn)))
  · have hk0 : kk = 0 := by omega
    refine x_aload_3 K dL_law_2235 ?_
    refine x_iconst K dL_law_2236 ?_
    refine x_lald K dL_law_2237 ?_
    refine gWX.topv (u := .inl (.long (lv vb))) (congrArg (fun x => (Sum.inl (Value.long x) : gV)) (ho hk0)) ?_
    refine x_iload_7 K dL_law_2238 ?_
    refine x_i2l K dL_law_2240 ?_
    refine x_lcmpE K dL_law_2241 ?_
    refine x_if_eq (tgt := 2247) K (by omega) dL_law_2242 (by decide) (fun _ => ?_) (fun h => absurd rfl h)
    refine x_goto (tgt := 2519) K dL_law_2247 (by decide) ?_
    exact gWX.fgt 6 (gWX.fgt 7 (gWX.fgt 8 (gWX.le (by omega) (by omega) kn)))
theorem w_isWell {X : gM} {E : gE} {D n cells slots b L9 i : Nat} {xs : Nat → Int32} {σ σ1 σ2 : gS} (K : gK X E mL_law D n) (S : hSc X E b L9 xs) (hi5 : i + 5 ≤ L9) (hD : 20 ≤ D) (hc : cells + 1 ≤ n) (hs : slots + 6 ≤ 6 * n) {v : Int} (hv : -2147483648 ≤ v ∧ v < 2147483648) (h1 : gCt E mX6_isWell 12 0 [rf 0 0] σ (.inl (some (iv v))) σ1) (h2 : gCt E mX7_isWell 12 0 [rf 14 0] σ1 (.inl (some (iv v))) σ2) (kn : gWX X E (cells + 1) (slots + 6) 2519 (wL b i) [] σ2) : gWX X E cells slots 2250 (wL b i) [] σ := by
  refine x_aload_1 K dL_law_2250 ?_
  refine x_callV0 K h1 mtX6_isWell miX6_isWell rc0 ⟨by decide, by decide⟩ lkRL_250 ⟨by omega, by omega, by omega⟩ rfl (Nat.le_of_ble_eq_true rfl) dL_law_2251 ?_
  refine x_aload_2 K dL_law_2254 ?_
  refine x_callV0 K h2 mtX7_isWell miX7_isWell rc14 ⟨by decide, by decide⟩ lkRL_254 ⟨by omega, by omega, by omega⟩ rfl (Nat.le_of_ble_eq_true rfl) dL_law_2255 ?_
  refine x_icmp_eq (tgt := 2519) K ⟨hv, hv⟩ dL_law_2258 (by decide) (fun _ => ?_) (fun h => absurd rfl h)
  exact gWX.le (by omega) (by omega) kn
theorem w_meanSign {X : gM} {E : gE} {D n cells slots b L9 i : Nat} {xs : Nat → Int32} {σ σ1 σ2 : gS} (K : gK X E mL_law D n) (S : hSc X E b L9 xs) (hi5 : i + 5 ≤ L9) (hD : 20 ≤ D) (hc : cells + 1 ≤ n) (hs : slots + 6 ≤ 6 * n) {kk : Int} {x : UInt64} (h1 : hCt E mL_meanSign hhL_meanSign 13 1 [rf 0 0, iv (sx xs (i + 1)), rf 24 0] σ (.inl (some (iv kk))) σ1) (h2 : gCt E mX7_meanSign 12 0 [rf 14 0, iv (sx xs (i + 1))] σ1 (.inl (some (.inl (.double x)))) σ2) (hk : 0 ≤ kk ∧ kk ≤ 3) (ht : σ2.1 14 0 7 = kk) (ho : kk = 0 → σ2.2.2.2 = x ∧ True ∧ Op.cmpValue (FP.dcmp x x) .l = Int32.ofInt 0) (kn : gWX X E (cells + 1) (slots + 6) 2519 (wL b i) [] σ2) : gWX X E cells slots 2263 (wL b i) [] σ := by
  refine x_aload_1 K dL_law_2263 ?_
  refine x_aloadc_0 K dL_law_2264 ?_
  refine x_iload_5 K dL_law_2265 ?_
  refine x_iconst K dL_law_2267 ?_
  refine x_iadd K dL_law_2268 ?_
  refine x_sld K S (i + 1) (by omega) (by omega) dL_law_2269 ?_
  refine x_aload_4 K dL_law_2270 ?_
  refine x_callH3 K h1 mtL_meanSign msL_meanSign (g_mem 1313 (by decide +kernel)) ⟨by omega, by omega, by omega⟩ rfl (Nat.le_of_ble_eq_true rfl) dL_law_2272 ?_
  refine x_istore_6 K dL_law_2275 rfl ?_
  refine x_aload_2 K dL_law_2277 ?_
  refine x_aloadc_0 K dL_law_2278 ?_
  refine x_iload_5 K dL_law_2279 ?_
  refine x_iconst K dL_law_2281 ?_
  refine x_iadd K dL_law_2282 ?_
  refine x_sld K S (i + 1) (by omega) (by omega) dL_law_2283 ?_
  refine x_callV1 K h2 mtX7_meanSign miX7_meanSign rc14 ⟨by decide, by decide⟩ lkRL_258 ⟨by omega, by omega, by omega⟩ rfl (Nat.le_of_ble_eq_true rfl) dL_law_2284 ?_
  refine x_dstore7 K rfl rfl dL_law_2287 ?_
  refine x_aload_2 K dL_law_2289 ?_
  refine x_callV0 K (c7_thrown kk ht) mtX7_thrown miX7_thrown rc14 ⟨by decide, by decide⟩ lkRL_147 ⟨by omega, by omega, by omega⟩ rfl (Nat.le_of_ble_eq_true rfl) dL_law_2290 ?_
  refine x_iload_6 K dL_law_2293 ?_
  refine x_icmp_eq (tgt := 2300) K (by omega) dL_law_2295 (by decide) (fun _ => ?_) (fun h => absurd rfl h)
  refine x_iload_6 K dL_law_2300 ?_
  refine x_if_ne (tgt := 2337) K (by omega) dL_law_2302 (by decide) (fun h0 => ?_) (fun h0 => ?_)
  · refine x_goto (tgt := 2519) K dL_law_2337 (by decide) ?_
    exact gWX.fgt 6 (gWX.fgt 7 (gWX.fgt 8 (gWX.le (by omega) (by omega) kn)))
  · have hk0 : kk = 0 := by omega
    obtain ⟨ho1, ho2, ho3⟩ := ho hk0
    refine x_aload_4 K dL_law_2305 ?_
    refine x_iconst K dL_law_2307 ?_
    refine x_dald K dL_law_2308 ?_
    refine gWX.topv (u := .inl (.double x)) (congrArg (fun x => (Sum.inl (Value.double x) : gV)) ho1) ?_
    refine x_dload7 K rfl dL_law_2309 ?_
    refine x_dcmp K (z := 0) ho3 dL_law_2311 ?_
    refine x_if_eq (tgt := 2337) K (by omega) dL_law_2312 (by decide) (fun _ => ?_) (fun h => absurd rfl h)
    refine x_goto (tgt := 2519) K dL_law_2337 (by decide) ?_
    exact gWX.fgt 6 (gWX.fgt 7 (gWX.fgt 8 (gWX.le (by omega) (by omega) kn)))
theorem w_doubtShare {X : gM} {E : gE} {D n cells slots b L9 i : Nat} {xs : Nat → Int32} {σ σ1 σ2 : gS} (K : gK X E mL_law D n) (S : hSc X E b L9 xs) (hi5 : i + 5 ≤ L9) (hD : 20 ≤ D) (hc : cells + 1 ≤ n) (hs : slots + 6 ≤ 6 * n) {kk : Int} {x : UInt32} (h1 : hCt E mL_doubtShare hhL_doubtShare 13 1 [rf 0 0, iv (sx xs (i + 1)), rf 24 0] σ (.inl (some (iv kk))) σ1) (h2 : gCt E mX7_doubtShare 12 0 [rf 14 0, iv (sx xs (i + 1))] σ1 (.inl (some (.inl (.float x)))) σ2) (hk : 0 ≤ kk ∧ kk ≤ 3) (ht : σ2.1 14 0 7 = kk) (ho : kk = 0 → σ2.2.2.2 = (FP.f2d x) ∧ vf_n64 (FP.f2d x) ∧ Op.cmpValue (FP.dcmp (FP.f2d x) (FP.f2d x)) .l = Int32.ofInt 0) (kn : gWX X E (cells + 1) (slots + 6) 2519 (wL b i) [] σ2) : gWX X E cells slots 2340 (wL b i) [] σ := by
  refine x_aload_1 K dL_law_2340 ?_
  refine x_aloadc_0 K dL_law_2341 ?_
  refine x_iload_5 K dL_law_2342 ?_
  refine x_iconst K dL_law_2344 ?_
  refine x_iadd K dL_law_2345 ?_
  refine x_sld K S (i + 1) (by omega) (by omega) dL_law_2346 ?_
  refine x_aload_4 K dL_law_2347 ?_
  refine x_callH3 K h1 mtL_doubtShare msL_doubtShare (g_mem 1342 (by decide +kernel)) ⟨by omega, by omega, by omega⟩ rfl (Nat.le_of_ble_eq_true rfl) dL_law_2349 ?_
  refine x_istore_6 K dL_law_2352 rfl ?_
  refine x_aload_2 K dL_law_2354 ?_
  refine x_aloadc_0 K dL_law_2355 ?_
  refine x_iload_5 K dL_law_2356 ?_
  refine x_iconst K dL_law_2358 ?_
  refine x_iadd K dL_law_2359 ?_
  refine x_sld K S (i + 1) (by omega) (by omega) dL_law_2360 ?_
  refine x_callV1 K h2 mtX7_doubtShare miX7_doubtShare rc14 ⟨by decide, by decide⟩ lkRL_261 ⟨by omega, by omega, by omega⟩ rfl (Nat.le_of_ble_eq_true rfl) dL_law_2361 ?_
  refine x_fstore7 K rfl rfl dL_law_2364 ?_
  refine x_aload_2 K dL_law_2366 ?_
  refine x_callV0 K (c7_thrown kk ht) mtX7_thrown miX7_thrown rc14 ⟨by decide, by decide⟩ lkRL_147 ⟨by omega, by omega, by omega⟩ rfl (Nat.le_of_ble_eq_true rfl) dL_law_2367 ?_
  refine x_iload_6 K dL_law_2370 ?_
  refine x_icmp_eq (tgt := 2377) K (by omega) dL_law_2372 (by decide) (fun _ => ?_) (fun h => absurd rfl h)
  refine x_iload_6 K dL_law_2377 ?_
  refine x_if_ne (tgt := 2415) K (by omega) dL_law_2379 (by decide) (fun h0 => ?_) (fun h0 => ?_)
  · refine x_goto (tgt := 2519) K dL_law_2415 (by decide) ?_
    exact gWX.fgt 6 (gWX.fgt 7 (gWX.fgt 8 (gWX.le (by omega) (by omega) kn)))
  · have hk0 : kk = 0 := by omega
    obtain ⟨ho1, ho2, ho3⟩ := ho hk0
    refine x_aload_4 K dL_law_2382 ?_
    refine x_iconst K dL_law_2384 ?_
    refine x_dald K dL_law_2385 ?_
    refine gWX.topv (u := .inl (.double (FP.f2d x))) (congrArg (fun x => (Sum.inl (Value.double x) : gV)) ho1) ?_
    refine x_fload7 K rfl dL_law_2386 ?_
    refine x_f2d K ho2 dL_law_2388 ?_
    refine x_dcmp K (z := 0) ho3 dL_law_2389 ?_
    refine x_if_eq (tgt := 2415) K (by omega) dL_law_2390 (by decide) (fun _ => ?_) (fun h => absurd rfl h)
    refine x_goto (tgt := 2519) K dL_law_2415 (by decide) ?_
    exact gWX.fgt 6 (gWX.fgt 7 (gWX.fgt 8 (gWX.le (by omega) (by omega) kn)))
theorem w_undo {X : gM} {E : gE} {D n cells slots b L9 i : Nat} {xs : Nat → Int32} {σ σ1 σ2 : gS} (K : gK X E mL_law D n) (S : hSc X E b L9 xs) (hi5 : i + 5 ≤ L9) (hD : 20 ≤ D) (hc : cells + 1 ≤ n) (hs : slots + 6 ≤ 6 * n) {kk vb : Int} (h1 : hCt E mL_undo hhL_undo 13 1 [rf 0 0, rf 23 0] σ (.inl (some (iv kk))) σ1) (h2 : gCt E mX7_undo 12 0 [rf 14 0] σ1 (.inl (some (iv vb))) σ2) (hk : 0 ≤ kk ∧ kk ≤ 3) (ht : σ2.1 14 0 7 = kk) (ho : kk = 0 → σ2.2.2.1 = lv vb) (kn : gWX X E (cells + 1) (slots + 6) 2519 (wL b i) [] σ2) : gWX X E cells slots 2418 (wL b i) [] σ := by
  refine x_aload_1 K dL_law_2418 ?_
  refine x_aload_3 K dL_law_2419 ?_
  refine x_callH2 K h1 mtL_undo msL_undo (g_mem 1349 (by decide +kernel)) ⟨by omega, by omega, by omega⟩ rfl (Nat.le_of_ble_eq_true rfl) dL_law_2420 ?_
  refine x_istore_6 K dL_law_2423 rfl ?_
  refine x_aload_2 K dL_law_2425 ?_
  refine x_callV0 K h2 mtX7_undo miX7_undo rc14 ⟨by decide, by decide⟩ lkRL_264 ⟨by omega, by omega, by omega⟩ rfl (Nat.le_of_ble_eq_true rfl) dL_law_2426 ?_
  refine x_istore_7 K dL_law_2429 rfl ?_
  refine x_aload_2 K dL_law_2431 ?_
  refine x_callV0 K (c7_thrown kk ht) mtX7_thrown miX7_thrown rc14 ⟨by decide, by decide⟩ lkRL_147 ⟨by omega, by omega, by omega⟩ rfl (Nat.le_of_ble_eq_true rfl) dL_law_2432 ?_
  refine x_iload_6 K dL_law_2435 ?_
  refine x_icmp_eq (tgt := 2442) K (by omega) dL_law_2437 (by decide) (fun _ => ?_) (fun h => absurd rfl h)
  refine x_iload_6 K dL_law_2442 ?_
  refine x_if_ne (tgt := 2459) K (by omega) dL_law_2444 (by decide) (fun h0 => ?_) (fun h0 => ?_)
  · refine x_goto (tgt := 2519) K dL_law_2459 (by decide) ?_
    exact gWX.fgt 6 (gWX.fgt 7 (gWX.fgt 8 (gWX.le (by omega) (by omega) kn)))
  · have hk0 : kk = 0 := by omega
    refine x_aload_3 K dL_law_2447 ?_
    refine x_iconst K dL_law_2448 ?_
    refine x_lald K dL_law_2449 ?_
    refine gWX.topv (u := .inl (.long (lv vb))) (congrArg (fun x => (Sum.inl (Value.long x) : gV)) (ho hk0)) ?_
    refine x_iload_7 K dL_law_2450 ?_
    refine x_i2l K dL_law_2452 ?_
    refine x_lcmpE K dL_law_2453 ?_
    refine x_if_eq (tgt := 2459) K (by omega) dL_law_2454 (by decide) (fun _ => ?_) (fun h => absurd rfl h)
    refine x_goto (tgt := 2519) K dL_law_2459 (by decide) ?_
    exact gWX.fgt 6 (gWX.fgt 7 (gWX.fgt 8 (gWX.le (by omega) (by omega) kn)))
theorem w_save {X : gM} {E : gE} {D n cells slots b L9 i : Nat} {xs : Nat → Int32} {σ σ1 σ2 : gS} (K : gK X E mL_law D n) (S : hSc X E b L9 xs) (hi5 : i + 5 ≤ L9) (hD : 20 ≤ D) (hc : cells + 1 ≤ n) (hs : slots + 6 ≤ 6 * n) {v : Int} (hv : -2147483648 ≤ v ∧ v < 2147483648) (h1 : gCt E mX6_save 12 0 [rf 0 0] σ (.inl (some (iv v))) σ1) (h2 : gCt E mX7_save 12 0 [rf 14 0] σ1 (.inl (some (iv v))) σ2) (kn : gWX X E (cells + 1) (slots + 6) 2519 (wL b i) [] σ2) : gWX X E cells slots 2462 (wL b i) [] σ := by
  refine x_aload_1 K dL_law_2462 ?_
  refine x_callV0 K h1 mtX6_save miX6_save rc0 ⟨by decide, by decide⟩ lkRL_265 ⟨by omega, by omega, by omega⟩ rfl (Nat.le_of_ble_eq_true rfl) dL_law_2463 ?_
  refine x_aload_2 K dL_law_2466 ?_
  refine x_callV0 K h2 mtX7_save miX7_save rc14 ⟨by decide, by decide⟩ lkRL_268 ⟨by omega, by omega, by omega⟩ rfl (Nat.le_of_ble_eq_true rfl) dL_law_2467 ?_
  refine x_icmp_eq (tgt := 2519) K ⟨hv, hv⟩ dL_law_2470 (by decide) (fun _ => ?_) (fun h => absurd rfl h)
  exact gWX.le (by omega) (by omega) kn
theorem w_restore {X : gM} {E : gE} {D n cells slots b L9 i : Nat} {xs : Nat → Int32} {σ σ1 σ2 : gS} (K : gK X E mL_law D n) (S : hSc X E b L9 xs) (hi5 : i + 5 ≤ L9) (hD : 20 ≤ D) (hc : cells + 1 ≤ n) (hs : slots + 6 ≤ 6 * n) {kk vb : Int} (h1 : hCt E mL_restore hhL_restore 13 1 [rf 0 0, rf 23 0] σ (.inl (some (iv kk))) σ1) (h2 : gCt E mX7_restore 12 0 [rf 14 0] σ1 (.inl (some (iv vb))) σ2) (hk : 0 ≤ kk ∧ kk ≤ 3) (ht : σ2.1 14 0 7 = kk) (ho : kk = 0 → σ2.2.2.1 = lv vb) (kn : gWX X E (cells + 1) (slots + 6) 2519 (wL b i) [] σ2) : gWX X E cells slots 2475 (wL b i) [] σ := by
  refine x_aload_1 K dL_law_2475 ?_
  refine x_aload_3 K dL_law_2476 ?_
  refine x_callH2 K h1 mtL_restore msL_restore (g_mem 1361 (by decide +kernel)) ⟨by omega, by omega, by omega⟩ rfl (Nat.le_of_ble_eq_true rfl) dL_law_2477 ?_
  refine x_istore_6 K dL_law_2480 rfl ?_
  refine x_aload_2 K dL_law_2482 ?_
  refine x_callV0 K h2 mtX7_restore miX7_restore rc14 ⟨by decide, by decide⟩ lkRL_271 ⟨by omega, by omega, by omega⟩ rfl (Nat.le_of_ble_eq_true rfl) dL_law_2483 ?_
  refine x_istore_7 K dL_law_2486 rfl ?_
  refine x_aload_2 K dL_law_2488 ?_
  refine x_callV0 K (c7_thrown kk ht) mtX7_thrown miX7_thrown rc14 ⟨by decide, by decide⟩ lkRL_147 ⟨by omega, by omega, by omega⟩ rfl (Nat.le_of_ble_eq_true rfl) dL_law_2489 ?_
  refine x_iload_6 K dL_law_2492 ?_
  refine x_icmp_eq (tgt := 2499) K (by omega) dL_law_2494 (by decide) (fun _ => ?_) (fun h => absurd rfl h)
  refine x_iload_6 K dL_law_2499 ?_
  refine x_if_ne (tgt := 2516) K (by omega) dL_law_2501 (by decide) (fun h0 => ?_) (fun h0 => ?_)
  · refine x_goto (tgt := 2519) K dL_law_2516 (by decide) ?_
    exact gWX.fgt 6 (gWX.fgt 7 (gWX.fgt 8 (gWX.le (by omega) (by omega) kn)))
  · have hk0 : kk = 0 := by omega
    refine x_aload_3 K dL_law_2504 ?_
    refine x_iconst K dL_law_2505 ?_
    refine x_lald K dL_law_2506 ?_
    refine gWX.topv (u := .inl (.long (lv vb))) (congrArg (fun x => (Sum.inl (Value.long x) : gV)) (ho hk0)) ?_
    refine x_iload_7 K dL_law_2507 ?_
    refine x_i2l K dL_law_2509 ?_
    refine x_lcmpE K dL_law_2510 ?_
    refine x_if_eq (tgt := 2516) K (by omega) dL_law_2511 (by decide) (fun _ => ?_) (fun h => absurd rfl h)
    refine x_goto (tgt := 2519) K dL_law_2516 (by decide) ?_
    exact gWX.fgt 6 (gWX.fgt 7 (gWX.fgt 8 (gWX.le (by omega) (by omega) kn)))
