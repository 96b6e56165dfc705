/-! ===== the law: its cases ===== -/
/-- what stands behind a case -/
def zCn (x : zX) (b X i cs sl : Nat) : Prop := ∀ (K : zK) (μ : zF) (S : zMs), zLi K μ X S → zV x (cs + 3) (sl + 18) 1715 [some (.ref b), some (.ref X), some (.ref (X + 89)), some (.ref (X + 98)), some (.int (nI i)), none, none] [] K μ
theorem zCn.go {x : zX} {b X i cs sl cs1 sl1 : Nat} {l5 l6 : Option Value} {K : zK} {μ : zF} {S : zMs} (kk : zCn x b X i cs sl) (h1 : cs1 ≤ cs + 3) (h2 : sl1 ≤ sl + 18) (h : zLi K μ X S) : zV x cs1 sl1 1715 [some (.ref b), some (.ref X), some (.ref (X + 89)), some (.ref (X + 98)), some (.int (nI i)), l5, l6] [] K μ := zV.fg (ls' := [some (.ref b), some (.ref X), some (.ref (X + 89)), some (.ref (X + 98)), some (.int (nI i)), none, none]) (by cases l5 <;> cases l6 <;> exact ⟨rfl, rfl, rfl, rfl, rfl, trivial⟩) (zV.widen h1 h2 (kk K μ S h))
section ZCASE
variable {x : zX} {MC MS cs sl b L i X : Nat} {f : Nat → Int32} {K : zK} {μ : zF} {S : zMs}
set_option maxHeartbeats 1000000 in
theorem vC_insert (hC : hL_law x MC MS) (hs : zScr x b L f) (hi : i + 4 ≤ L) (hI : zLi K μ X S) (hcm : cs + 3 ≤ MC) (hsm : sl + 18 ≤ MS) (kk : zCn x b X i cs sl) : zV x cs sl 196 [some (.ref b), some (.ref X), some (.ref (X + 89)), some (.ref (X + 98)), some (.int (nI i)), none, none] [] K μ := by
  refine eL_law_196 hC ?_
  refine eL_law_197 hC ?_
  refine eL_law_198 hC ?_
  refine eL_law_200 hC ?_
  refine eL_law_201 hC ?_
  refine eL_law_202 hC hs (j := i + 1) (nI_add i 1) (by omega) ?_
  refine eL_law_203 hC ?_
  refine eL_law_204 hC ?_
  refine eL_law_206 hC ?_
  refine eL_law_207 hC ?_
  refine eL_law_208 hC hs (j := i + 2) (nI_add i 2) (by omega) ?_
  refine eL_law_209 hC ?_
  refine eL_law_210 hC (Nat.le_of_ble_eq_true rfl) (by omega) (by omega) (vL_insert hC.nt hI.1 hI.2.2.2) (zk_hp hI (fun k S1 K1 μ1 h1 => ?_))
  refine eL_law_213 hC ?_
  refine eL_law_215 hC ?_
  refine eL_law_216 hC ?_
  refine eL_law_217 hC ?_
  refine eL_law_219 hC ?_
  refine eL_law_220 hC ?_
  refine eL_law_221 hC hs (j := i + 1) (nI_add i 1) (by omega) ?_
  refine eL_law_222 hC ?_
  refine eL_law_223 hC ?_
  refine eL_law_225 hC ?_
  refine eL_law_226 hC ?_
  refine eL_law_227 hC hs (j := i + 2) (nI_add i 2) (by omega) ?_
  refine eL_law_228 hC (Nat.le_of_ble_eq_true rfl) (by omega) (by omega) h1.2.2.1.o (vX9_insert hC.nt h1.2.2.1 h1.2.2.2.1 h1.2.2.2.2.2.1) (zk_n9 h1 (fun r μ2 h2 => ?_))
  refine eL_law_231 hC ?_
  refine eL_law_233 hC ?_
  refine eL_law_234 hC (Nat.le_of_ble_eq_true rfl) (by omega) (by omega) h2.1.2.1.o (vX9_thrown hC.nt h2.1.2.1.o) (zk_i ?_)
  refine eL_law_237 hC ?_
  refine eL_law_239 hC (fun _ => ?_) (fun zz => absurd h2.2.1 zz)
  refine eL_law_244 hC ?_
  refine eL_law_246 hC (fun _ => ?_) (fun c2 => ?_)
  · refine eL_law_261 hC ?_
    exact kk.go (by omega) (by omega) h2.1
  · refine eL_law_249 hC ?_
    refine eL_law_250 hC ?_
    refine eL_law_251 hC h2.1.2.2.2 (vp_in_nI (by decide) (by decide)) ?_
    refine eL_law_252 hC ?_
    refine eL_law_254 hC ?_
    refine eL_law_255 hC ?_
    refine eL_law_256 hC (fun _ => ?_) (fun zz => absurd (h2.cmp c2) zz)
    refine eL_law_261 hC ?_
    exact kk.go (by omega) (by omega) h2.1
set_option maxHeartbeats 1000000 in
theorem vC_remove (hC : hL_law x MC MS) (hs : zScr x b L f) (hi : i + 4 ≤ L) (hI : zLi K μ X S) (hcm : cs + 3 ≤ MC) (hsm : sl + 18 ≤ MS) (kk : zCn x b X i cs sl) : zV x cs sl 264 [some (.ref b), some (.ref X), some (.ref (X + 89)), some (.ref (X + 98)), some (.int (nI i)), none, none] [] K μ := by
  refine eL_law_264 hC ?_
  refine eL_law_265 hC ?_
  refine eL_law_266 hC ?_
  refine eL_law_268 hC ?_
  refine eL_law_269 hC ?_
  refine eL_law_270 hC hs (j := i + 1) (nI_add i 1) (by omega) ?_
  refine eL_law_271 hC ?_
  refine eL_law_272 hC (Nat.le_of_ble_eq_true rfl) (by omega) (by omega) (vL_remove hC.nt hI.1 hI.2.2.2) (zk_hp hI (fun k S1 K1 μ1 h1 => ?_))
  refine eL_law_275 hC ?_
  refine eL_law_277 hC ?_
  refine eL_law_278 hC ?_
  refine eL_law_279 hC ?_
  refine eL_law_281 hC ?_
  refine eL_law_282 hC ?_
  refine eL_law_283 hC hs (j := i + 1) (nI_add i 1) (by omega) ?_
  refine eL_law_284 hC (Nat.le_of_ble_eq_true rfl) (by omega) (by omega) h1.2.2.1.o (vX9_remove hC.nt h1.2.2.1 h1.2.2.2.1 h1.2.2.2.2.2.1) (zk_n9 h1 (fun r μ2 h2 => ?_))
  refine eL_law_287 hC ?_
  refine eL_law_289 hC ?_
  refine eL_law_290 hC (Nat.le_of_ble_eq_true rfl) (by omega) (by omega) h2.1.2.1.o (vX9_thrown hC.nt h2.1.2.1.o) (zk_i ?_)
  refine eL_law_293 hC ?_
  refine eL_law_295 hC (fun _ => ?_) (fun zz => absurd h2.2.1 zz)
  refine eL_law_300 hC ?_
  refine eL_law_302 hC (fun _ => ?_) (fun c2 => ?_)
  · refine eL_law_317 hC ?_
    exact kk.go (by omega) (by omega) h2.1
  · refine eL_law_305 hC ?_
    refine eL_law_306 hC ?_
    refine eL_law_307 hC h2.1.2.2.2 (vp_in_nI (by decide) (by decide)) ?_
    refine eL_law_308 hC ?_
    refine eL_law_310 hC ?_
    refine eL_law_311 hC ?_
    refine eL_law_312 hC (fun _ => ?_) (fun zz => absurd (h2.cmp c2) zz)
    refine eL_law_317 hC ?_
    exact kk.go (by omega) (by omega) h2.1
set_option maxHeartbeats 1000000 in
theorem vC_setMark (hC : hL_law x MC MS) (hs : zScr x b L f) (hi : i + 4 ≤ L) (hI : zLi K μ X S) (hcm : cs + 3 ≤ MC) (hsm : sl + 18 ≤ MS) (kk : zCn x b X i cs sl) : zV x cs sl 320 [some (.ref b), some (.ref X), some (.ref (X + 89)), some (.ref (X + 98)), some (.int (nI i)), none, none] [] K μ := by
  refine eL_law_320 hC ?_
  refine eL_law_321 hC ?_
  refine eL_law_322 hC ?_
  refine eL_law_324 hC ?_
  refine eL_law_325 hC ?_
  refine eL_law_326 hC hs (j := i + 1) (nI_add i 1) (by omega) ?_
  refine eL_law_327 hC ?_
  refine eL_law_328 hC ?_
  refine eL_law_330 hC ?_
  refine eL_law_331 hC ?_
  refine eL_law_332 hC hs (j := i + 2) (nI_add i 2) (by omega) ?_
  refine eL_law_333 hC ?_
  refine eL_law_334 hC (Nat.le_of_ble_eq_true rfl) (by omega) (by omega) (vL_setMark hC.nt hI.1 hI.2.2.2) (zk_hp hI (fun k S1 K1 μ1 h1 => ?_))
  refine eL_law_337 hC ?_
  refine eL_law_339 hC ?_
  refine eL_law_340 hC ?_
  refine eL_law_341 hC ?_
  refine eL_law_343 hC ?_
  refine eL_law_344 hC ?_
  refine eL_law_345 hC hs (j := i + 1) (nI_add i 1) (by omega) ?_
  refine eL_law_346 hC ?_
  refine eL_law_347 hC ?_
  refine eL_law_349 hC ?_
  refine eL_law_350 hC ?_
  refine eL_law_351 hC hs (j := i + 2) (nI_add i 2) (by omega) ?_
  refine eL_law_352 hC (Nat.le_of_ble_eq_true rfl) (by omega) (by omega) h1.2.2.1.o (vX9_setMark hC.nt h1.2.2.1 h1.2.2.2.1 h1.2.2.2.2.2.1) (zk_n9 h1 (fun r μ2 h2 => ?_))
  refine eL_law_355 hC ?_
  refine eL_law_357 hC ?_
  refine eL_law_358 hC (Nat.le_of_ble_eq_true rfl) (by omega) (by omega) h2.1.2.1.o (vX9_thrown hC.nt h2.1.2.1.o) (zk_i ?_)
  refine eL_law_361 hC ?_
  refine eL_law_363 hC (fun _ => ?_) (fun zz => absurd h2.2.1 zz)
  refine eL_law_368 hC ?_
  refine eL_law_370 hC (fun _ => ?_) (fun c2 => ?_)
  · refine eL_law_385 hC ?_
    exact kk.go (by omega) (by omega) h2.1
  · refine eL_law_373 hC ?_
    refine eL_law_374 hC ?_
    refine eL_law_375 hC h2.1.2.2.2 (vp_in_nI (by decide) (by decide)) ?_
    refine eL_law_376 hC ?_
    refine eL_law_378 hC ?_
    refine eL_law_379 hC ?_
    refine eL_law_380 hC (fun _ => ?_) (fun zz => absurd (h2.cmp c2) zz)
    refine eL_law_385 hC ?_
    exact kk.go (by omega) (by omega) h2.1
set_option maxHeartbeats 1000000 in
theorem vC_words (hC : hL_law x MC MS) (hs : zScr x b L f) (hi : i + 4 ≤ L) (hI : zLi K μ X S) (hcm : cs + 3 ≤ MC) (hsm : sl + 18 ≤ MS) (kk : zCn x b X i cs sl) : zV x cs sl 388 [some (.ref b), some (.ref X), some (.ref (X + 89)), some (.ref (X + 98)), some (.int (nI i)), none, none] [] K μ := by
  refine eL_law_388 hC ?_
  refine eL_law_389 hC (Nat.le_of_ble_eq_true rfl) (by omega) (by omega) hI.1.o (vX8_words hC.nt hI.1) (zk_w8 hI (fun r S1 K1 μ1 h1 => ?_))
  refine eL_law_392 hC ?_
  refine eL_law_393 hC (Nat.le_of_ble_eq_true rfl) (by omega) (by omega) h1.2.2.1.o (vX9_words hC.nt h1.2.2.1 h1.2.2.2.1 h1.2.2.2.2.2) (zk_w9 h1 (fun μ2 h2 => ?_))
  refine eL_law_396 hC (fun _ => ?_) (fun zz => absurd rfl zz)
  exact kk.go (by omega) (by omega) h2
set_option maxHeartbeats 1000000 in
theorem vC_wordWidth (hC : hL_law x MC MS) (hs : zScr x b L f) (hi : i + 4 ≤ L) (hI : zLi K μ X S) (hcm : cs + 3 ≤ MC) (hsm : sl + 18 ≤ MS) (kk : zCn x b X i cs sl) : zV x cs sl 401 [some (.ref b), some (.ref X), some (.ref (X + 89)), some (.ref (X + 98)), some (.int (nI i)), none, none] [] K μ := by
  refine eL_law_401 hC ?_
  refine eL_law_402 hC ?_
  refine eL_law_403 hC ?_
  refine eL_law_405 hC ?_
  refine eL_law_406 hC ?_
  refine eL_law_407 hC hs (j := i + 1) (nI_add i 1) (by omega) ?_
  refine eL_law_408 hC ?_
  refine eL_law_409 hC (Nat.le_of_ble_eq_true rfl) (by omega) (by omega) (vL_wordWidth hC.nt hI.1 hI.2.2.2) (zk_hp hI (fun k S1 K1 μ1 h1 => ?_))
  refine eL_law_412 hC ?_
  refine eL_law_414 hC ?_
  refine eL_law_415 hC ?_
  refine eL_law_416 hC ?_
  refine eL_law_418 hC ?_
  refine eL_law_419 hC ?_
  refine eL_law_420 hC hs (j := i + 1) (nI_add i 1) (by omega) ?_
  refine eL_law_421 hC (Nat.le_of_ble_eq_true rfl) (by omega) (by omega) h1.2.2.1.o (vX9_wordWidth hC.nt h1.2.2.1 h1.2.2.2.1 h1.2.2.2.2.2.1) (zk_n9 h1 (fun r μ2 h2 => ?_))
  refine eL_law_424 hC ?_
  refine eL_law_426 hC ?_
  refine eL_law_427 hC (Nat.le_of_ble_eq_true rfl) (by omega) (by omega) h2.1.2.1.o (vX9_thrown hC.nt h2.1.2.1.o) (zk_i ?_)
  refine eL_law_430 hC ?_
  refine eL_law_432 hC (fun _ => ?_) (fun zz => absurd h2.2.1 zz)
  refine eL_law_437 hC ?_
  refine eL_law_439 hC (fun _ => ?_) (fun c2 => ?_)
  · refine eL_law_454 hC ?_
    exact kk.go (by omega) (by omega) h2.1
  · refine eL_law_442 hC ?_
    refine eL_law_443 hC ?_
    refine eL_law_444 hC h2.1.2.2.2 (vp_in_nI (by decide) (by decide)) ?_
    refine eL_law_445 hC ?_
    refine eL_law_447 hC ?_
    refine eL_law_448 hC ?_
    refine eL_law_449 hC (fun _ => ?_) (fun zz => absurd (h2.cmp c2) zz)
    refine eL_law_454 hC ?_
    exact kk.go (by omega) (by omega) h2.1
set_option maxHeartbeats 1000000 in
theorem vC_mark (hC : hL_law x MC MS) (hs : zScr x b L f) (hi : i + 4 ≤ L) (hI : zLi K μ X S) (hcm : cs + 3 ≤ MC) (hsm : sl + 18 ≤ MS) (kk : zCn x b X i cs sl) : zV x cs sl 457 [some (.ref b), some (.ref X), some (.ref (X + 89)), some (.ref (X + 98)), some (.int (nI i)), none, none] [] K μ := by
  refine eL_law_457 hC ?_
  refine eL_law_458 hC ?_
  refine eL_law_459 hC ?_
  refine eL_law_461 hC ?_
  refine eL_law_462 hC ?_
  refine eL_law_463 hC hs (j := i + 1) (nI_add i 1) (by omega) ?_
  refine eL_law_464 hC ?_
  refine eL_law_465 hC (Nat.le_of_ble_eq_true rfl) (by omega) (by omega) (vL_mark hC.nt hI.1 hI.2.2.2) (zk_hp hI (fun k S1 K1 μ1 h1 => ?_))
  refine eL_law_468 hC ?_
  refine eL_law_470 hC ?_
  refine eL_law_471 hC ?_
  refine eL_law_472 hC ?_
  refine eL_law_474 hC ?_
  refine eL_law_475 hC ?_
  refine eL_law_476 hC hs (j := i + 1) (nI_add i 1) (by omega) ?_
  refine eL_law_477 hC (Nat.le_of_ble_eq_true rfl) (by omega) (by omega) h1.2.2.1.o (vX9_mark hC.nt h1.2.2.1 h1.2.2.2.1 h1.2.2.2.2.2.1) (zk_n9 h1 (fun r μ2 h2 => ?_))
  refine eL_law_480 hC ?_
  refine eL_law_482 hC ?_
  refine eL_law_483 hC (Nat.le_of_ble_eq_true rfl) (by omega) (by omega) h2.1.2.1.o (vX9_thrown hC.nt h2.1.2.1.o) (zk_i ?_)
  refine eL_law_486 hC ?_
  refine eL_law_488 hC (fun _ => ?_) (fun zz => absurd h2.2.1 zz)
  refine eL_law_493 hC ?_
  refine eL_law_495 hC (fun _ => ?_) (fun c2 => ?_)
  · refine eL_law_510 hC ?_
    exact kk.go (by omega) (by omega) h2.1
  · refine eL_law_498 hC ?_
    refine eL_law_499 hC ?_
    refine eL_law_500 hC h2.1.2.2.2 (vp_in_nI (by decide) (by decide)) ?_
    refine eL_law_501 hC ?_
    refine eL_law_503 hC ?_
    refine eL_law_504 hC ?_
    refine eL_law_505 hC (fun _ => ?_) (fun zz => absurd (h2.cmp c2) zz)
    refine eL_law_510 hC ?_
    exact kk.go (by omega) (by omega) h2.1
set_option maxHeartbeats 1000000 in
theorem vC_setColumn (hC : hL_law x MC MS) (hs : zScr x b L f) (hi : i + 4 ≤ L) (hI : zLi K μ X S) (hcm : cs + 3 ≤ MC) (hsm : sl + 18 ≤ MS) (kk : zCn x b X i cs sl) : zV x cs sl 513 [some (.ref b), some (.ref X), some (.ref (X + 89)), some (.ref (X + 98)), some (.int (nI i)), none, none] [] K μ := by
  refine eL_law_513 hC ?_
  refine eL_law_514 hC ?_
  refine eL_law_515 hC ?_
  refine eL_law_517 hC ?_
  refine eL_law_518 hC ?_
  refine eL_law_519 hC hs (j := i + 1) (nI_add i 1) (by omega) ?_
  refine eL_law_520 hC ?_
  refine eL_law_521 hC (Nat.le_of_ble_eq_true rfl) (by omega) (by omega) (vL_setColumn hC.nt hI.1 hI.2.2.2) (zk_hp hI (fun k S1 K1 μ1 h1 => ?_))
  refine eL_law_524 hC ?_
  refine eL_law_526 hC ?_
  refine eL_law_527 hC ?_
  refine eL_law_528 hC ?_
  refine eL_law_530 hC ?_
  refine eL_law_531 hC ?_
  refine eL_law_532 hC hs (j := i + 1) (nI_add i 1) (by omega) ?_
  refine eL_law_533 hC (Nat.le_of_ble_eq_true rfl) (by omega) (by omega) h1.2.2.1.o (vX9_setColumn hC.nt h1.2.2.1 h1.2.2.2.1 h1.2.2.2.2.2.1) (zk_n9 h1 (fun r μ2 h2 => ?_))
  refine eL_law_536 hC ?_
  refine eL_law_538 hC ?_
  refine eL_law_539 hC (Nat.le_of_ble_eq_true rfl) (by omega) (by omega) h2.1.2.1.o (vX9_thrown hC.nt h2.1.2.1.o) (zk_i ?_)
  refine eL_law_542 hC ?_
  refine eL_law_544 hC (fun _ => ?_) (fun zz => absurd h2.2.1 zz)
  refine eL_law_549 hC ?_
  refine eL_law_551 hC (fun _ => ?_) (fun c2 => ?_)
  · refine eL_law_566 hC ?_
    exact kk.go (by omega) (by omega) h2.1
  · refine eL_law_554 hC ?_
    refine eL_law_555 hC ?_
    refine eL_law_556 hC h2.1.2.2.2 (vp_in_nI (by decide) (by decide)) ?_
    refine eL_law_557 hC ?_
    refine eL_law_559 hC ?_
    refine eL_law_560 hC ?_
    refine eL_law_561 hC (fun _ => ?_) (fun zz => absurd (h2.cmp c2) zz)
    refine eL_law_566 hC ?_
    exact kk.go (by omega) (by omega) h2.1
set_option maxHeartbeats 1000000 in
theorem vC_setSpace (hC : hL_law x MC MS) (hs : zScr x b L f) (hi : i + 4 ≤ L) (hI : zLi K μ X S) (hcm : cs + 3 ≤ MC) (hsm : sl + 18 ≤ MS) (kk : zCn x b X i cs sl) : zV x cs sl 569 [some (.ref b), some (.ref X), some (.ref (X + 89)), some (.ref (X + 98)), some (.int (nI i)), none, none] [] K μ := by
  refine eL_law_569 hC ?_
  refine eL_law_570 hC ?_
  refine eL_law_571 hC ?_
  refine eL_law_573 hC ?_
  refine eL_law_574 hC ?_
  refine eL_law_575 hC hs (j := i + 1) (nI_add i 1) (by omega) ?_
  refine eL_law_576 hC ?_
  refine eL_law_577 hC (Nat.le_of_ble_eq_true rfl) (by omega) (by omega) (vL_setSpace hC.nt hI.1 hI.2.2.2) (zk_hp hI (fun k S1 K1 μ1 h1 => ?_))
  refine eL_law_580 hC ?_
  refine eL_law_582 hC ?_
  refine eL_law_583 hC ?_
  refine eL_law_584 hC ?_
  refine eL_law_586 hC ?_
  refine eL_law_587 hC ?_
  refine eL_law_588 hC hs (j := i + 1) (nI_add i 1) (by omega) ?_
  refine eL_law_589 hC (Nat.le_of_ble_eq_true rfl) (by omega) (by omega) h1.2.2.1.o (vX9_setSpace hC.nt h1.2.2.1 h1.2.2.2.1 h1.2.2.2.2.2.1) (zk_n9 h1 (fun r μ2 h2 => ?_))
  refine eL_law_592 hC ?_
  refine eL_law_594 hC ?_
  refine eL_law_595 hC (Nat.le_of_ble_eq_true rfl) (by omega) (by omega) h2.1.2.1.o (vX9_thrown hC.nt h2.1.2.1.o) (zk_i ?_)
  refine eL_law_598 hC ?_
  refine eL_law_600 hC (fun _ => ?_) (fun zz => absurd h2.2.1 zz)
  refine eL_law_605 hC ?_
  refine eL_law_607 hC (fun _ => ?_) (fun c2 => ?_)
  · refine eL_law_622 hC ?_
    exact kk.go (by omega) (by omega) h2.1
  · refine eL_law_610 hC ?_
    refine eL_law_611 hC ?_
    refine eL_law_612 hC h2.1.2.2.2 (vp_in_nI (by decide) (by decide)) ?_
    refine eL_law_613 hC ?_
    refine eL_law_615 hC ?_
    refine eL_law_616 hC ?_
    refine eL_law_617 hC (fun _ => ?_) (fun zz => absurd (h2.cmp c2) zz)
    refine eL_law_622 hC ?_
    exact kk.go (by omega) (by omega) h2.1
set_option maxHeartbeats 1000000 in
theorem vC_setPenalties (hC : hL_law x MC MS) (hs : zScr x b L f) (hi : i + 4 ≤ L) (hI : zLi K μ X S) (hcm : cs + 3 ≤ MC) (hsm : sl + 18 ≤ MS) (kk : zCn x b X i cs sl) : zV x cs sl 625 [some (.ref b), some (.ref X), some (.ref (X + 89)), some (.ref (X + 98)), some (.int (nI i)), none, none] [] K μ := by
  refine eL_law_625 hC ?_
  refine eL_law_626 hC ?_
  refine eL_law_627 hC ?_
  refine eL_law_629 hC ?_
  refine eL_law_630 hC ?_
  refine eL_law_631 hC hs (j := i + 1) (nI_add i 1) (by omega) ?_
  refine eL_law_632 hC ?_
  refine eL_law_633 hC ?_
  refine eL_law_635 hC ?_
  refine eL_law_636 hC ?_
  refine eL_law_637 hC hs (j := i + 2) (nI_add i 2) (by omega) ?_
  refine eL_law_638 hC ?_
  refine eL_law_639 hC ?_
  refine eL_law_641 hC ?_
  refine eL_law_642 hC ?_
  refine eL_law_643 hC hs (j := i + 3) (nI_add i 3) (by omega) ?_
  refine eL_law_644 hC ?_
  refine eL_law_645 hC (Nat.le_of_ble_eq_true rfl) (by omega) (by omega) (vL_setPenalties hC.nt hI.1 hI.2.2.2) (zk_hp hI (fun k S1 K1 μ1 h1 => ?_))
  refine eL_law_648 hC ?_
  refine eL_law_650 hC ?_
  refine eL_law_651 hC ?_
  refine eL_law_652 hC ?_
  refine eL_law_654 hC ?_
  refine eL_law_655 hC ?_
  refine eL_law_656 hC hs (j := i + 1) (nI_add i 1) (by omega) ?_
  refine eL_law_657 hC ?_
  refine eL_law_658 hC ?_
  refine eL_law_660 hC ?_
  refine eL_law_661 hC ?_
  refine eL_law_662 hC hs (j := i + 2) (nI_add i 2) (by omega) ?_
  refine eL_law_663 hC ?_
  refine eL_law_664 hC ?_
  refine eL_law_666 hC ?_
  refine eL_law_667 hC ?_
  refine eL_law_668 hC hs (j := i + 3) (nI_add i 3) (by omega) ?_
  refine eL_law_669 hC (Nat.le_of_ble_eq_true rfl) (by omega) (by omega) h1.2.2.1.o (vX9_setPenalties hC.nt h1.2.2.1 h1.2.2.2.1 h1.2.2.2.2.2.1) (zk_n9 h1 (fun r μ2 h2 => ?_))
  refine eL_law_672 hC ?_
  refine eL_law_674 hC ?_
  refine eL_law_675 hC (Nat.le_of_ble_eq_true rfl) (by omega) (by omega) h2.1.2.1.o (vX9_thrown hC.nt h2.1.2.1.o) (zk_i ?_)
  refine eL_law_678 hC ?_
  refine eL_law_680 hC (fun _ => ?_) (fun zz => absurd h2.2.1 zz)
  refine eL_law_685 hC ?_
  refine eL_law_687 hC (fun _ => ?_) (fun c2 => ?_)
  · refine eL_law_702 hC ?_
    exact kk.go (by omega) (by omega) h2.1
  · refine eL_law_690 hC ?_
    refine eL_law_691 hC ?_
    refine eL_law_692 hC h2.1.2.2.2 (vp_in_nI (by decide) (by decide)) ?_
    refine eL_law_693 hC ?_
    refine eL_law_695 hC ?_
    refine eL_law_696 hC ?_
    refine eL_law_697 hC (fun _ => ?_) (fun zz => absurd (h2.cmp c2) zz)
    refine eL_law_702 hC ?_
    exact kk.go (by omega) (by omega) h2.1
set_option maxHeartbeats 1000000 in
theorem vC_setPage (hC : hL_law x MC MS) (hs : zScr x b L f) (hi : i + 4 ≤ L) (hI : zLi K μ X S) (hcm : cs + 3 ≤ MC) (hsm : sl + 18 ≤ MS) (kk : zCn x b X i cs sl) : zV x cs sl 705 [some (.ref b), some (.ref X), some (.ref (X + 89)), some (.ref (X + 98)), some (.int (nI i)), none, none] [] K μ := by
  refine eL_law_705 hC ?_
  refine eL_law_706 hC ?_
  refine eL_law_707 hC ?_
  refine eL_law_709 hC ?_
  refine eL_law_710 hC ?_
  refine eL_law_711 hC hs (j := i + 1) (nI_add i 1) (by omega) ?_
  refine eL_law_712 hC ?_
  refine eL_law_713 hC (Nat.le_of_ble_eq_true rfl) (by omega) (by omega) (vL_setPage hC.nt hI.1 hI.2.2.2) (zk_hp hI (fun k S1 K1 μ1 h1 => ?_))
  refine eL_law_716 hC ?_
  refine eL_law_718 hC ?_
  refine eL_law_719 hC ?_
  refine eL_law_720 hC ?_
  refine eL_law_722 hC ?_
  refine eL_law_723 hC ?_
  refine eL_law_724 hC hs (j := i + 1) (nI_add i 1) (by omega) ?_
  refine eL_law_725 hC (Nat.le_of_ble_eq_true rfl) (by omega) (by omega) h1.2.2.1.o (vX9_setPage hC.nt h1.2.2.1 h1.2.2.2.1 h1.2.2.2.2.2.1) (zk_n9 h1 (fun r μ2 h2 => ?_))
  refine eL_law_728 hC ?_
  refine eL_law_730 hC ?_
  refine eL_law_731 hC (Nat.le_of_ble_eq_true rfl) (by omega) (by omega) h2.1.2.1.o (vX9_thrown hC.nt h2.1.2.1.o) (zk_i ?_)
  refine eL_law_734 hC ?_
  refine eL_law_736 hC (fun _ => ?_) (fun zz => absurd h2.2.1 zz)
  refine eL_law_741 hC ?_
  refine eL_law_743 hC (fun _ => ?_) (fun c2 => ?_)
  · refine eL_law_758 hC ?_
    exact kk.go (by omega) (by omega) h2.1
  · refine eL_law_746 hC ?_
    refine eL_law_747 hC ?_
    refine eL_law_748 hC h2.1.2.2.2 (vp_in_nI (by decide) (by decide)) ?_
    refine eL_law_749 hC ?_
    refine eL_law_751 hC ?_
    refine eL_law_752 hC ?_
    refine eL_law_753 hC (fun _ => ?_) (fun zz => absurd (h2.cmp c2) zz)
    refine eL_law_758 hC ?_
    exact kk.go (by omega) (by omega) h2.1
set_option maxHeartbeats 1000000 in
theorem vC_setOptimal (hC : hL_law x MC MS) (hs : zScr x b L f) (hi : i + 4 ≤ L) (hI : zLi K μ X S) (hcm : cs + 3 ≤ MC) (hsm : sl + 18 ≤ MS) (kk : zCn x b X i cs sl) : zV x cs sl 761 [some (.ref b), some (.ref X), some (.ref (X + 89)), some (.ref (X + 98)), some (.int (nI i)), none, none] [] K μ := by
  by_cases c0 : f (i + 1) = 0
  · skip
    refine eL_law_761 hC ?_
    refine eL_law_762 hC ?_
    refine eL_law_763 hC ?_
    refine eL_law_765 hC ?_
    refine eL_law_766 hC ?_
    refine eL_law_767 hC hs (j := i + 1) (nI_add i 1) (by omega) ?_
    refine eL_law_768 hC (fun _ => ?_) (fun zz => absurd c0 zz)
    refine eL_law_775 hC ?_
    refine eL_law_776 hC (Nat.le_of_ble_eq_true rfl) (by omega) (by omega) hI.1.o (vX8_setOptimal hC.nt hI.1 (by decide)) (zk_w8 hI (fun r S1 K1 μ1 h1 => ?_))
    refine eL_law_779 hC ?_
    refine eL_law_780 hC ?_
    refine eL_law_781 hC ?_
    refine eL_law_783 hC ?_
    refine eL_law_784 hC ?_
    refine eL_law_785 hC hs (j := i + 1) (nI_add i 1) (by omega) ?_
    refine eL_law_786 hC (fun _ => ?_) (fun zz => absurd c0 zz)
    refine eL_law_793 hC ?_
    refine eL_law_794 hC (Nat.le_of_ble_eq_true rfl) (by omega) (by omega) h1.2.2.1.o (vX9_setOptimal hC.nt h1.2.2.1 h1.2.2.2.1 h1.2.2.2.2.2 (by decide)) (zk_w9 h1 (fun μ2 h2 => ?_))
    refine eL_law_797 hC (fun _ => ?_) (fun zz => absurd rfl zz)
    exact kk.go (by omega) (by omega) h2
  · skip
    refine eL_law_761 hC ?_
    refine eL_law_762 hC ?_
    refine eL_law_763 hC ?_
    refine eL_law_765 hC ?_
    refine eL_law_766 hC ?_
    refine eL_law_767 hC hs (j := i + 1) (nI_add i 1) (by omega) ?_
    refine eL_law_768 hC (fun zz => absurd zz c0) (fun _ => ?_)
    refine eL_law_771 hC ?_
    refine eL_law_772 hC ?_
    refine eL_law_776 hC (Nat.le_of_ble_eq_true rfl) (by omega) (by omega) hI.1.o (vX8_setOptimal hC.nt hI.1 (by decide)) (zk_w8 hI (fun r S1 K1 μ1 h1 => ?_))
    refine eL_law_779 hC ?_
    refine eL_law_780 hC ?_
    refine eL_law_781 hC ?_
    refine eL_law_783 hC ?_
    refine eL_law_784 hC ?_
    refine eL_law_785 hC hs (j := i + 1) (nI_add i 1) (by omega) ?_
    refine eL_law_786 hC (fun zz => absurd zz c0) (fun _ => ?_)
    refine eL_law_789 hC ?_
    refine eL_law_790 hC ?_
    refine eL_law_794 hC (Nat.le_of_ble_eq_true rfl) (by omega) (by omega) h1.2.2.1.o (vX9_setOptimal hC.nt h1.2.2.1 h1.2.2.2.1 h1.2.2.2.2.2 (by decide)) (zk_w9 h1 (fun μ2 h2 => ?_))
    refine eL_law_797 hC (fun _ => ?_) (fun zz => absurd rfl zz)
    exact kk.go (by omega) (by omega) h2
set_option maxHeartbeats 1000000 in
theorem vC_lines (hC : hL_law x MC MS) (hs : zScr x b L f) (hi : i + 4 ≤ L) (hI : zLi K μ X S) (hcm : cs + 3 ≤ MC) (hsm : sl + 18 ≤ MS) (kk : zCn x b X i cs sl) : zV x cs sl 802 [some (.ref b), some (.ref X), some (.ref (X + 89)), some (.ref (X + 98)), some (.int (nI i)), none, none] [] K μ := by
  refine eL_law_802 hC ?_
  refine eL_law_803 hC (Nat.le_of_ble_eq_true rfl) (by omega) (by omega) hI.1.o (vX8_lines hC.nt hI.1) (zk_w8 hI (fun r S1 K1 μ1 h1 => ?_))
  refine eL_law_806 hC ?_
  refine eL_law_807 hC (Nat.le_of_ble_eq_true rfl) (by omega) (by omega) h1.2.2.1.o (vX9_lines hC.nt h1.2.2.1 h1.2.2.2.1 h1.2.2.2.2.2) (zk_w9 h1 (fun μ2 h2 => ?_))
  refine eL_law_810 hC (fun _ => ?_) (fun zz => absurd rfl zz)
  exact kk.go (by omega) (by omega) h2
set_option maxHeartbeats 1000000 in
theorem vC_lineOf (hC : hL_law x MC MS) (hs : zScr x b L f) (hi : i + 4 ≤ L) (hI : zLi K μ X S) (hcm : cs + 3 ≤ MC) (hsm : sl + 18 ≤ MS) (kk : zCn x b X i cs sl) : zV x cs sl 815 [some (.ref b), some (.ref X), some (.ref (X + 89)), some (.ref (X + 98)), some (.int (nI i)), none, none] [] K μ := by
  refine eL_law_815 hC ?_
  refine eL_law_816 hC ?_
  refine eL_law_817 hC ?_
  refine eL_law_819 hC ?_
  refine eL_law_820 hC ?_
  refine eL_law_821 hC hs (j := i + 1) (nI_add i 1) (by omega) ?_
  refine eL_law_822 hC ?_
  refine eL_law_823 hC (Nat.le_of_ble_eq_true rfl) (by omega) (by omega) (vL_lineOf hC.nt hI.1 hI.2.2.2) (zk_hp hI (fun k S1 K1 μ1 h1 => ?_))
  refine eL_law_826 hC ?_
  refine eL_law_828 hC ?_
  refine eL_law_829 hC ?_
  refine eL_law_830 hC ?_
  refine eL_law_832 hC ?_
  refine eL_law_833 hC ?_
  refine eL_law_834 hC hs (j := i + 1) (nI_add i 1) (by omega) ?_
  refine eL_law_835 hC (Nat.le_of_ble_eq_true rfl) (by omega) (by omega) h1.2.2.1.o (vX9_lineOf hC.nt h1.2.2.1 h1.2.2.2.1 h1.2.2.2.2.2.1) (zk_n9 h1 (fun r μ2 h2 => ?_))
  refine eL_law_838 hC ?_
  refine eL_law_840 hC ?_
  refine eL_law_841 hC (Nat.le_of_ble_eq_true rfl) (by omega) (by omega) h2.1.2.1.o (vX9_thrown hC.nt h2.1.2.1.o) (zk_i ?_)
  refine eL_law_844 hC ?_
  refine eL_law_846 hC (fun _ => ?_) (fun zz => absurd h2.2.1 zz)
  refine eL_law_851 hC ?_
  refine eL_law_853 hC (fun _ => ?_) (fun c2 => ?_)
  · refine eL_law_868 hC ?_
    exact kk.go (by omega) (by omega) h2.1
  · refine eL_law_856 hC ?_
    refine eL_law_857 hC ?_
    refine eL_law_858 hC h2.1.2.2.2 (vp_in_nI (by decide) (by decide)) ?_
    refine eL_law_859 hC ?_
    refine eL_law_861 hC ?_
    refine eL_law_862 hC ?_
    refine eL_law_863 hC (fun _ => ?_) (fun zz => absurd (h2.cmp c2) zz)
    refine eL_law_868 hC ?_
    exact kk.go (by omega) (by omega) h2.1
set_option maxHeartbeats 1000000 in
theorem vC_firstWord (hC : hL_law x MC MS) (hs : zScr x b L f) (hi : i + 4 ≤ L) (hI : zLi K μ X S) (hcm : cs + 3 ≤ MC) (hsm : sl + 18 ≤ MS) (kk : zCn x b X i cs sl) : zV x cs sl 871 [some (.ref b), some (.ref X), some (.ref (X + 89)), some (.ref (X + 98)), some (.int (nI i)), none, none] [] K μ := by
  refine eL_law_871 hC ?_
  refine eL_law_872 hC ?_
  refine eL_law_873 hC ?_
  refine eL_law_875 hC ?_
  refine eL_law_876 hC ?_
  refine eL_law_877 hC hs (j := i + 1) (nI_add i 1) (by omega) ?_
  refine eL_law_878 hC ?_
  refine eL_law_879 hC (Nat.le_of_ble_eq_true rfl) (by omega) (by omega) (vL_firstWord hC.nt hI.1 hI.2.2.2) (zk_hp hI (fun k S1 K1 μ1 h1 => ?_))
  refine eL_law_882 hC ?_
  refine eL_law_884 hC ?_
  refine eL_law_885 hC ?_
  refine eL_law_886 hC ?_
  refine eL_law_888 hC ?_
  refine eL_law_889 hC ?_
  refine eL_law_890 hC hs (j := i + 1) (nI_add i 1) (by omega) ?_
  refine eL_law_891 hC (Nat.le_of_ble_eq_true rfl) (by omega) (by omega) h1.2.2.1.o (vX9_firstWord hC.nt h1.2.2.1 h1.2.2.2.1 h1.2.2.2.2.2.1) (zk_n9 h1 (fun r μ2 h2 => ?_))
  refine eL_law_894 hC ?_
  refine eL_law_896 hC ?_
  refine eL_law_897 hC (Nat.le_of_ble_eq_true rfl) (by omega) (by omega) h2.1.2.1.o (vX9_thrown hC.nt h2.1.2.1.o) (zk_i ?_)
  refine eL_law_900 hC ?_
  refine eL_law_902 hC (fun _ => ?_) (fun zz => absurd h2.2.1 zz)
  refine eL_law_907 hC ?_
  refine eL_law_909 hC (fun _ => ?_) (fun c2 => ?_)
  · refine eL_law_924 hC ?_
    exact kk.go (by omega) (by omega) h2.1
  · refine eL_law_912 hC ?_
    refine eL_law_913 hC ?_
    refine eL_law_914 hC h2.1.2.2.2 (vp_in_nI (by decide) (by decide)) ?_
    refine eL_law_915 hC ?_
    refine eL_law_917 hC ?_
    refine eL_law_918 hC ?_
    refine eL_law_919 hC (fun _ => ?_) (fun zz => absurd (h2.cmp c2) zz)
    refine eL_law_924 hC ?_
    exact kk.go (by omega) (by omega) h2.1
set_option maxHeartbeats 1000000 in
theorem vC_lineWidth (hC : hL_law x MC MS) (hs : zScr x b L f) (hi : i + 4 ≤ L) (hI : zLi K μ X S) (hcm : cs + 3 ≤ MC) (hsm : sl + 18 ≤ MS) (kk : zCn x b X i cs sl) : zV x cs sl 927 [some (.ref b), some (.ref X), some (.ref (X + 89)), some (.ref (X + 98)), some (.int (nI i)), none, none] [] K μ := by
  refine eL_law_927 hC ?_
  refine eL_law_928 hC ?_
  refine eL_law_929 hC ?_
  refine eL_law_931 hC ?_
  refine eL_law_932 hC ?_
  refine eL_law_933 hC hs (j := i + 1) (nI_add i 1) (by omega) ?_
  refine eL_law_934 hC ?_
  refine eL_law_935 hC (Nat.le_of_ble_eq_true rfl) (by omega) (by omega) (vL_lineWidth hC.nt hI.1 hI.2.2.2) (zk_hp hI (fun k S1 K1 μ1 h1 => ?_))
  refine eL_law_938 hC ?_
  refine eL_law_940 hC ?_
  refine eL_law_941 hC ?_
  refine eL_law_942 hC ?_
  refine eL_law_944 hC ?_
  refine eL_law_945 hC ?_
  refine eL_law_946 hC hs (j := i + 1) (nI_add i 1) (by omega) ?_
  refine eL_law_947 hC (Nat.le_of_ble_eq_true rfl) (by omega) (by omega) h1.2.2.1.o (vX9_lineWidth hC.nt h1.2.2.1 h1.2.2.2.1 h1.2.2.2.2.2.1) (zk_n9 h1 (fun r μ2 h2 => ?_))
  refine eL_law_950 hC ?_
  refine eL_law_952 hC ?_
  refine eL_law_953 hC (Nat.le_of_ble_eq_true rfl) (by omega) (by omega) h2.1.2.1.o (vX9_thrown hC.nt h2.1.2.1.o) (zk_i ?_)
  refine eL_law_956 hC ?_
  refine eL_law_958 hC (fun _ => ?_) (fun zz => absurd h2.2.1 zz)
  refine eL_law_963 hC ?_
  refine eL_law_965 hC (fun _ => ?_) (fun c2 => ?_)
  · refine eL_law_980 hC ?_
    exact kk.go (by omega) (by omega) h2.1
  · refine eL_law_968 hC ?_
    refine eL_law_969 hC ?_
    refine eL_law_970 hC h2.1.2.2.2 (vp_in_nI (by decide) (by decide)) ?_
    refine eL_law_971 hC ?_
    refine eL_law_973 hC ?_
    refine eL_law_974 hC ?_
    refine eL_law_975 hC (fun _ => ?_) (fun zz => absurd (h2.cmp c2) zz)
    refine eL_law_980 hC ?_
    exact kk.go (by omega) (by omega) h2.1
set_option maxHeartbeats 1000000 in
theorem vC_stairAt (hC : hL_law x MC MS) (hs : zScr x b L f) (hi : i + 4 ≤ L) (hI : zLi K μ X S) (hcm : cs + 3 ≤ MC) (hsm : sl + 18 ≤ MS) (kk : zCn x b X i cs sl) : zV x cs sl 983 [some (.ref b), some (.ref X), some (.ref (X + 89)), some (.ref (X + 98)), some (.int (nI i)), none, none] [] K μ := by
  refine eL_law_983 hC ?_
  refine eL_law_984 hC ?_
  refine eL_law_985 hC ?_
  refine eL_law_987 hC ?_
  refine eL_law_988 hC ?_
  refine eL_law_989 hC hs (j := i + 1) (nI_add i 1) (by omega) ?_
  refine eL_law_990 hC ?_
  refine eL_law_991 hC (Nat.le_of_ble_eq_true rfl) (by omega) (by omega) (vL_stairAt hC.nt hI.1 hI.2.2.2) (zk_hp hI (fun k S1 K1 μ1 h1 => ?_))
  refine eL_law_994 hC ?_
  refine eL_law_996 hC ?_
  refine eL_law_997 hC ?_
  refine eL_law_998 hC ?_
  refine eL_law_1000 hC ?_
  refine eL_law_1001 hC ?_
  refine eL_law_1002 hC hs (j := i + 1) (nI_add i 1) (by omega) ?_
  refine eL_law_1003 hC (Nat.le_of_ble_eq_true rfl) (by omega) (by omega) h1.2.2.1.o (vX9_stairAt hC.nt h1.2.2.1 h1.2.2.2.1 h1.2.2.2.2.2.1) (zk_n9 h1 (fun r μ2 h2 => ?_))
  refine eL_law_1006 hC ?_
  refine eL_law_1008 hC ?_
  refine eL_law_1009 hC (Nat.le_of_ble_eq_true rfl) (by omega) (by omega) h2.1.2.1.o (vX9_thrown hC.nt h2.1.2.1.o) (zk_i ?_)
  refine eL_law_1012 hC ?_
  refine eL_law_1014 hC (fun _ => ?_) (fun zz => absurd h2.2.1 zz)
  refine eL_law_1019 hC ?_
  refine eL_law_1021 hC (fun _ => ?_) (fun c2 => ?_)
  · refine eL_law_1036 hC ?_
    exact kk.go (by omega) (by omega) h2.1
  · refine eL_law_1024 hC ?_
    refine eL_law_1025 hC ?_
    refine eL_law_1026 hC h2.1.2.2.2 (vp_in_nI (by decide) (by decide)) ?_
    refine eL_law_1027 hC ?_
    refine eL_law_1029 hC ?_
    refine eL_law_1030 hC ?_
    refine eL_law_1031 hC (fun _ => ?_) (fun zz => absurd (h2.cmp c2) zz)
    refine eL_law_1036 hC ?_
    exact kk.go (by omega) (by omega) h2.1
set_option maxHeartbeats 1000000 in
theorem vC_reason (hC : hL_law x MC MS) (hs : zScr x b L f) (hi : i + 4 ≤ L) (hI : zLi K μ X S) (hcm : cs + 3 ≤ MC) (hsm : sl + 18 ≤ MS) (kk : zCn x b X i cs sl) : zV x cs sl 1039 [some (.ref b), some (.ref X), some (.ref (X + 89)), some (.ref (X + 98)), some (.int (nI i)), none, none] [] K μ := by
  refine eL_law_1039 hC ?_
  refine eL_law_1040 hC ?_
  refine eL_law_1041 hC ?_
  refine eL_law_1043 hC ?_
  refine eL_law_1044 hC ?_
  refine eL_law_1045 hC hs (j := i + 1) (nI_add i 1) (by omega) ?_
  refine eL_law_1046 hC ?_
  refine eL_law_1047 hC (Nat.le_of_ble_eq_true rfl) (by omega) (by omega) (vL_reason hC.nt hI.1 hI.2.2.2) (zk_hp hI (fun k S1 K1 μ1 h1 => ?_))
  refine eL_law_1050 hC ?_
  refine eL_law_1052 hC ?_
  refine eL_law_1053 hC ?_
  refine eL_law_1054 hC ?_
  refine eL_law_1056 hC ?_
  refine eL_law_1057 hC ?_
  refine eL_law_1058 hC hs (j := i + 1) (nI_add i 1) (by omega) ?_
  refine eL_law_1059 hC (Nat.le_of_ble_eq_true rfl) (by omega) (by omega) h1.2.2.1.o (vX9_reason hC.nt h1.2.2.1 h1.2.2.2.1 h1.2.2.2.2.2.1) (zk_n9 h1 (fun r μ2 h2 => ?_))
  refine eL_law_1062 hC ?_
  refine eL_law_1064 hC ?_
  refine eL_law_1065 hC (Nat.le_of_ble_eq_true rfl) (by omega) (by omega) h2.1.2.1.o (vX9_thrown hC.nt h2.1.2.1.o) (zk_i ?_)
  refine eL_law_1068 hC ?_
  refine eL_law_1070 hC (fun _ => ?_) (fun zz => absurd h2.2.1 zz)
  refine eL_law_1075 hC ?_
  refine eL_law_1077 hC (fun _ => ?_) (fun c2 => ?_)
  · refine eL_law_1092 hC ?_
    exact kk.go (by omega) (by omega) h2.1
  · refine eL_law_1080 hC ?_
    refine eL_law_1081 hC ?_
    refine eL_law_1082 hC h2.1.2.2.2 (vp_in_nI (by decide) (by decide)) ?_
    refine eL_law_1083 hC ?_
    refine eL_law_1085 hC ?_
    refine eL_law_1086 hC ?_
    refine eL_law_1087 hC (fun _ => ?_) (fun zz => absurd (h2.cmp c2) zz)
    refine eL_law_1092 hC ?_
    exact kk.go (by omega) (by omega) h2.1
set_option maxHeartbeats 1000000 in
theorem vC_paragraphs (hC : hL_law x MC MS) (hs : zScr x b L f) (hi : i + 4 ≤ L) (hI : zLi K μ X S) (hcm : cs + 3 ≤ MC) (hsm : sl + 18 ≤ MS) (kk : zCn x b X i cs sl) : zV x cs sl 1095 [some (.ref b), some (.ref X), some (.ref (X + 89)), some (.ref (X + 98)), some (.int (nI i)), none, none] [] K μ := by
  refine eL_law_1095 hC ?_
  refine eL_law_1096 hC (Nat.le_of_ble_eq_true rfl) (by omega) (by omega) hI.1.o (vX8_paragraphs hC.nt hI.1) (zk_w8 hI (fun r S1 K1 μ1 h1 => ?_))
  refine eL_law_1099 hC ?_
  refine eL_law_1100 hC (Nat.le_of_ble_eq_true rfl) (by omega) (by omega) h1.2.2.1.o (vX9_paragraphs hC.nt h1.2.2.1 h1.2.2.2.1 h1.2.2.2.2.2) (zk_w9 h1 (fun μ2 h2 => ?_))
  refine eL_law_1103 hC (fun _ => ?_) (fun zz => absurd rfl zz)
  exact kk.go (by omega) (by omega) h2
set_option maxHeartbeats 1000000 in
theorem vC_stairs (hC : hL_law x MC MS) (hs : zScr x b L f) (hi : i + 4 ≤ L) (hI : zLi K μ X S) (hcm : cs + 3 ≤ MC) (hsm : sl + 18 ≤ MS) (kk : zCn x b X i cs sl) : zV x cs sl 1108 [some (.ref b), some (.ref X), some (.ref (X + 89)), some (.ref (X + 98)), some (.int (nI i)), none, none] [] K μ := by
  refine eL_law_1108 hC ?_
  refine eL_law_1109 hC (Nat.le_of_ble_eq_true rfl) (by omega) (by omega) hI.1.o (vX8_stairs hC.nt hI.1) (zk_w8 hI (fun r S1 K1 μ1 h1 => ?_))
  refine eL_law_1112 hC ?_
  refine eL_law_1113 hC (Nat.le_of_ble_eq_true rfl) (by omega) (by omega) h1.2.2.1.o (vX9_stairs hC.nt h1.2.2.1 h1.2.2.2.1 h1.2.2.2.2.2) (zk_w9 h1 (fun μ2 h2 => ?_))
  refine eL_law_1116 hC (fun _ => ?_) (fun zz => absurd rfl zz)
  exact kk.go (by omega) (by omega) h2
set_option maxHeartbeats 1000000 in
theorem vC_cost (hC : hL_law x MC MS) (hs : zScr x b L f) (hi : i + 4 ≤ L) (hI : zLi K μ X S) (hcm : cs + 3 ≤ MC) (hsm : sl + 18 ≤ MS) (kk : zCn x b X i cs sl) : zV x cs sl 1121 [some (.ref b), some (.ref X), some (.ref (X + 89)), some (.ref (X + 98)), some (.int (nI i)), none, none] [] K μ := by
  refine eL_law_1121 hC ?_
  refine eL_law_1122 hC (Nat.le_of_ble_eq_true rfl) (by omega) (by omega) hI.1.o (vX8_cost hC.nt hI.1) (zk_w8 hI (fun r S1 K1 μ1 h1 => ?_))
  refine eL_law_1125 hC ?_
  refine eL_law_1126 hC (Nat.le_of_ble_eq_true rfl) (by omega) (by omega) h1.2.2.1.o (vX9_cost hC.nt h1.2.2.1 h1.2.2.2.1 h1.2.2.2.2.2) (zk_w9 h1 (fun μ2 h2 => ?_))
  refine eL_law_1129 hC (fun _ => ?_) (fun zz => absurd rfl zz)
  exact kk.go (by omega) (by omega) h2
set_option maxHeartbeats 1000000 in
theorem vC_pages (hC : hL_law x MC MS) (hs : zScr x b L f) (hi : i + 4 ≤ L) (hI : zLi K μ X S) (hcm : cs + 3 ≤ MC) (hsm : sl + 18 ≤ MS) (kk : zCn x b X i cs sl) : zV x cs sl 1134 [some (.ref b), some (.ref X), some (.ref (X + 89)), some (.ref (X + 98)), some (.int (nI i)), none, none] [] K μ := by
  refine eL_law_1134 hC ?_
  refine eL_law_1135 hC (Nat.le_of_ble_eq_true rfl) (by omega) (by omega) hI.1.o (vX8_pages hC.nt hI.1) (zk_w8 hI (fun r S1 K1 μ1 h1 => ?_))
  refine eL_law_1138 hC ?_
  refine eL_law_1139 hC (Nat.le_of_ble_eq_true rfl) (by omega) (by omega) h1.2.2.1.o (vX9_pages hC.nt h1.2.2.1 h1.2.2.2.1 h1.2.2.2.2.2) (zk_w9 h1 (fun μ2 h2 => ?_))
  refine eL_law_1142 hC (fun _ => ?_) (fun zz => absurd rfl zz)
  exact kk.go (by omega) (by omega) h2
set_option maxHeartbeats 1000000 in
theorem vC_pageOf (hC : hL_law x MC MS) (hs : zScr x b L f) (hi : i + 4 ≤ L) (hI : zLi K μ X S) (hcm : cs + 3 ≤ MC) (hsm : sl + 18 ≤ MS) (kk : zCn x b X i cs sl) : zV x cs sl 1147 [some (.ref b), some (.ref X), some (.ref (X + 89)), some (.ref (X + 98)), some (.int (nI i)), none, none] [] K μ := by
  refine eL_law_1147 hC ?_
  refine eL_law_1148 hC ?_
  refine eL_law_1149 hC ?_
  refine eL_law_1151 hC ?_
  refine eL_law_1152 hC ?_
  refine eL_law_1153 hC hs (j := i + 1) (nI_add i 1) (by omega) ?_
  refine eL_law_1154 hC ?_
  refine eL_law_1155 hC (Nat.le_of_ble_eq_true rfl) (by omega) (by omega) (vL_pageOf hC.nt hI.1 hI.2.2.2) (zk_hp hI (fun k S1 K1 μ1 h1 => ?_))
  refine eL_law_1158 hC ?_
  refine eL_law_1160 hC ?_
  refine eL_law_1161 hC ?_
  refine eL_law_1162 hC ?_
  refine eL_law_1164 hC ?_
  refine eL_law_1165 hC ?_
  refine eL_law_1166 hC hs (j := i + 1) (nI_add i 1) (by omega) ?_
  refine eL_law_1167 hC (Nat.le_of_ble_eq_true rfl) (by omega) (by omega) h1.2.2.1.o (vX9_pageOf hC.nt h1.2.2.1 h1.2.2.2.1 h1.2.2.2.2.2.1) (zk_n9 h1 (fun r μ2 h2 => ?_))
  refine eL_law_1170 hC ?_
  refine eL_law_1172 hC ?_
  refine eL_law_1173 hC (Nat.le_of_ble_eq_true rfl) (by omega) (by omega) h2.1.2.1.o (vX9_thrown hC.nt h2.1.2.1.o) (zk_i ?_)
  refine eL_law_1176 hC ?_
  refine eL_law_1178 hC (fun _ => ?_) (fun zz => absurd h2.2.1 zz)
  refine eL_law_1183 hC ?_
  refine eL_law_1185 hC (fun _ => ?_) (fun c2 => ?_)
  · refine eL_law_1200 hC ?_
    exact kk.go (by omega) (by omega) h2.1
  · refine eL_law_1188 hC ?_
    refine eL_law_1189 hC ?_
    refine eL_law_1190 hC h2.1.2.2.2 (vp_in_nI (by decide) (by decide)) ?_
    refine eL_law_1191 hC ?_
    refine eL_law_1193 hC ?_
    refine eL_law_1194 hC ?_
    refine eL_law_1195 hC (fun _ => ?_) (fun zz => absurd (h2.cmp c2) zz)
    refine eL_law_1200 hC ?_
    exact kk.go (by omega) (by omega) h2.1
set_option maxHeartbeats 1000000 in
theorem vC_linesOn (hC : hL_law x MC MS) (hs : zScr x b L f) (hi : i + 4 ≤ L) (hI : zLi K μ X S) (hcm : cs + 3 ≤ MC) (hsm : sl + 18 ≤ MS) (kk : zCn x b X i cs sl) : zV x cs sl 1203 [some (.ref b), some (.ref X), some (.ref (X + 89)), some (.ref (X + 98)), some (.int (nI i)), none, none] [] K μ := by
  refine eL_law_1203 hC ?_
  refine eL_law_1204 hC ?_
  refine eL_law_1205 hC ?_
  refine eL_law_1207 hC ?_
  refine eL_law_1208 hC ?_
  refine eL_law_1209 hC hs (j := i + 1) (nI_add i 1) (by omega) ?_
  refine eL_law_1210 hC ?_
  refine eL_law_1211 hC (Nat.le_of_ble_eq_true rfl) (by omega) (by omega) (vL_linesOn hC.nt hI.1 hI.2.2.2) (zk_hp hI (fun k S1 K1 μ1 h1 => ?_))
  refine eL_law_1214 hC ?_
  refine eL_law_1216 hC ?_
  refine eL_law_1217 hC ?_
  refine eL_law_1218 hC ?_
  refine eL_law_1220 hC ?_
  refine eL_law_1221 hC ?_
  refine eL_law_1222 hC hs (j := i + 1) (nI_add i 1) (by omega) ?_
  refine eL_law_1223 hC (Nat.le_of_ble_eq_true rfl) (by omega) (by omega) h1.2.2.1.o (vX9_linesOn hC.nt h1.2.2.1 h1.2.2.2.1 h1.2.2.2.2.2.1) (zk_n9 h1 (fun r μ2 h2 => ?_))
  refine eL_law_1226 hC ?_
  refine eL_law_1228 hC ?_
  refine eL_law_1229 hC (Nat.le_of_ble_eq_true rfl) (by omega) (by omega) h2.1.2.1.o (vX9_thrown hC.nt h2.1.2.1.o) (zk_i ?_)
  refine eL_law_1232 hC ?_
  refine eL_law_1234 hC (fun _ => ?_) (fun zz => absurd h2.2.1 zz)
  refine eL_law_1239 hC ?_
  refine eL_law_1241 hC (fun _ => ?_) (fun c2 => ?_)
  · refine eL_law_1256 hC ?_
    exact kk.go (by omega) (by omega) h2.1
  · refine eL_law_1244 hC ?_
    refine eL_law_1245 hC ?_
    refine eL_law_1246 hC h2.1.2.2.2 (vp_in_nI (by decide) (by decide)) ?_
    refine eL_law_1247 hC ?_
    refine eL_law_1249 hC ?_
    refine eL_law_1250 hC ?_
    refine eL_law_1251 hC (fun _ => ?_) (fun zz => absurd (h2.cmp c2) zz)
    refine eL_law_1256 hC ?_
    exact kk.go (by omega) (by omega) h2.1
set_option maxHeartbeats 1000000 in
theorem vC_widows (hC : hL_law x MC MS) (hs : zScr x b L f) (hi : i + 4 ≤ L) (hI : zLi K μ X S) (hcm : cs + 3 ≤ MC) (hsm : sl + 18 ≤ MS) (kk : zCn x b X i cs sl) : zV x cs sl 1259 [some (.ref b), some (.ref X), some (.ref (X + 89)), some (.ref (X + 98)), some (.int (nI i)), none, none] [] K μ := by
  refine eL_law_1259 hC ?_
  refine eL_law_1260 hC (Nat.le_of_ble_eq_true rfl) (by omega) (by omega) hI.1.o (vX8_widows hC.nt hI.1) (zk_w8 hI (fun r S1 K1 μ1 h1 => ?_))
  refine eL_law_1263 hC ?_
  refine eL_law_1264 hC (Nat.le_of_ble_eq_true rfl) (by omega) (by omega) h1.2.2.1.o (vX9_widows hC.nt h1.2.2.1 h1.2.2.2.1 h1.2.2.2.2.2) (zk_w9 h1 (fun μ2 h2 => ?_))
  refine eL_law_1267 hC (fun _ => ?_) (fun zz => absurd rfl zz)
  exact kk.go (by omega) (by omega) h2
set_option maxHeartbeats 1000000 in
theorem vC_orphans (hC : hL_law x MC MS) (hs : zScr x b L f) (hi : i + 4 ≤ L) (hI : zLi K μ X S) (hcm : cs + 3 ≤ MC) (hsm : sl + 18 ≤ MS) (kk : zCn x b X i cs sl) : zV x cs sl 1272 [some (.ref b), some (.ref X), some (.ref (X + 89)), some (.ref (X + 98)), some (.int (nI i)), none, none] [] K μ := by
  refine eL_law_1272 hC ?_
  refine eL_law_1273 hC (Nat.le_of_ble_eq_true rfl) (by omega) (by omega) hI.1.o (vX8_orphans hC.nt hI.1) (zk_w8 hI (fun r S1 K1 μ1 h1 => ?_))
  refine eL_law_1276 hC ?_
  refine eL_law_1277 hC (Nat.le_of_ble_eq_true rfl) (by omega) (by omega) h1.2.2.1.o (vX9_orphans hC.nt h1.2.2.1 h1.2.2.2.1 h1.2.2.2.2.2) (zk_w9 h1 (fun μ2 h2 => ?_))
  refine eL_law_1280 hC (fun _ => ?_) (fun zz => absurd rfl zz)
  exact kk.go (by omega) (by omega) h2
set_option maxHeartbeats 1000000 in
theorem vC_costFor (hC : hL_law x MC MS) (hs : zScr x b L f) (hi : i + 4 ≤ L) (hI : zLi K μ X S) (hcm : cs + 3 ≤ MC) (hsm : sl + 18 ≤ MS) (kk : zCn x b X i cs sl) : zV x cs sl 1285 [some (.ref b), some (.ref X), some (.ref (X + 89)), some (.ref (X + 98)), some (.int (nI i)), none, none] [] K μ := by
  by_cases c0 : f (i + 2) = 0
  · skip
    refine eL_law_1285 hC ?_
    refine eL_law_1286 hC ?_
    refine eL_law_1287 hC ?_
    refine eL_law_1289 hC ?_
    refine eL_law_1290 hC ?_
    refine eL_law_1291 hC hs (j := i + 1) (nI_add i 1) (by omega) ?_
    refine eL_law_1292 hC ?_
    refine eL_law_1293 hC ?_
    refine eL_law_1295 hC ?_
    refine eL_law_1296 hC ?_
    refine eL_law_1297 hC hs (j := i + 2) (nI_add i 2) (by omega) ?_
    refine eL_law_1298 hC (fun _ => ?_) (fun zz => absurd c0 zz)
    refine eL_law_1305 hC ?_
    refine eL_law_1306 hC ?_
    refine eL_law_1307 hC (Nat.le_of_ble_eq_true rfl) (by omega) (by omega) (vL_costFor hC.nt hI.1 hI.2.2.2 (by decide)) (zk_hp hI (fun k S1 K1 μ1 h1 => ?_))
    refine eL_law_1310 hC ?_
    refine eL_law_1312 hC ?_
    refine eL_law_1313 hC ?_
    refine eL_law_1314 hC ?_
    refine eL_law_1316 hC ?_
    refine eL_law_1317 hC ?_
    refine eL_law_1318 hC hs (j := i + 1) (nI_add i 1) (by omega) ?_
    refine eL_law_1319 hC ?_
    refine eL_law_1320 hC ?_
    refine eL_law_1322 hC ?_
    refine eL_law_1323 hC ?_
    refine eL_law_1324 hC hs (j := i + 2) (nI_add i 2) (by omega) ?_
    refine eL_law_1325 hC (fun _ => ?_) (fun zz => absurd c0 zz)
    refine eL_law_1332 hC ?_
    refine eL_law_1333 hC (Nat.le_of_ble_eq_true rfl) (by omega) (by omega) h1.2.2.1.o (vX9_costFor hC.nt h1.2.2.1 h1.2.2.2.1 h1.2.2.2.2.2.1 (by decide)) (zk_n9 h1 (fun r μ2 h2 => ?_))
    refine eL_law_1336 hC ?_
    refine eL_law_1338 hC ?_
    refine eL_law_1339 hC (Nat.le_of_ble_eq_true rfl) (by omega) (by omega) h2.1.2.1.o (vX9_thrown hC.nt h2.1.2.1.o) (zk_i ?_)
    refine eL_law_1342 hC ?_
    refine eL_law_1344 hC (fun _ => ?_) (fun zz => absurd h2.2.1 zz)
    refine eL_law_1349 hC ?_
    refine eL_law_1351 hC (fun _ => ?_) (fun c2 => ?_)
    · refine eL_law_1366 hC ?_
      exact kk.go (by omega) (by omega) h2.1
    · refine eL_law_1354 hC ?_
      refine eL_law_1355 hC ?_
      refine eL_law_1356 hC h2.1.2.2.2 (vp_in_nI (by decide) (by decide)) ?_
      refine eL_law_1357 hC ?_
      refine eL_law_1359 hC ?_
      refine eL_law_1360 hC ?_
      refine eL_law_1361 hC (fun _ => ?_) (fun zz => absurd (h2.cmp c2) zz)
      refine eL_law_1366 hC ?_
      exact kk.go (by omega) (by omega) h2.1
  · skip
    refine eL_law_1285 hC ?_
    refine eL_law_1286 hC ?_
    refine eL_law_1287 hC ?_
    refine eL_law_1289 hC ?_
    refine eL_law_1290 hC ?_
    refine eL_law_1291 hC hs (j := i + 1) (nI_add i 1) (by omega) ?_
    refine eL_law_1292 hC ?_
    refine eL_law_1293 hC ?_
    refine eL_law_1295 hC ?_
    refine eL_law_1296 hC ?_
    refine eL_law_1297 hC hs (j := i + 2) (nI_add i 2) (by omega) ?_
    refine eL_law_1298 hC (fun zz => absurd zz c0) (fun _ => ?_)
    refine eL_law_1301 hC ?_
    refine eL_law_1302 hC ?_
    refine eL_law_1306 hC ?_
    refine eL_law_1307 hC (Nat.le_of_ble_eq_true rfl) (by omega) (by omega) (vL_costFor hC.nt hI.1 hI.2.2.2 (by decide)) (zk_hp hI (fun k S1 K1 μ1 h1 => ?_))
    refine eL_law_1310 hC ?_
    refine eL_law_1312 hC ?_
    refine eL_law_1313 hC ?_
    refine eL_law_1314 hC ?_
    refine eL_law_1316 hC ?_
    refine eL_law_1317 hC ?_
    refine eL_law_1318 hC hs (j := i + 1) (nI_add i 1) (by omega) ?_
    refine eL_law_1319 hC ?_
    refine eL_law_1320 hC ?_
    refine eL_law_1322 hC ?_
    refine eL_law_1323 hC ?_
    refine eL_law_1324 hC hs (j := i + 2) (nI_add i 2) (by omega) ?_
    refine eL_law_1325 hC (fun zz => absurd zz c0) (fun _ => ?_)
    refine eL_law_1328 hC ?_
    refine eL_law_1329 hC ?_
    refine eL_law_1333 hC (Nat.le_of_ble_eq_true rfl) (by omega) (by omega) h1.2.2.1.o (vX9_costFor hC.nt h1.2.2.1 h1.2.2.2.1 h1.2.2.2.2.2.1 (by decide)) (zk_n9 h1 (fun r μ2 h2 => ?_))
    refine eL_law_1336 hC ?_
    refine eL_law_1338 hC ?_
    refine eL_law_1339 hC (Nat.le_of_ble_eq_true rfl) (by omega) (by omega) h2.1.2.1.o (vX9_thrown hC.nt h2.1.2.1.o) (zk_i ?_)
    refine eL_law_1342 hC ?_
    refine eL_law_1344 hC (fun _ => ?_) (fun zz => absurd h2.2.1 zz)
    refine eL_law_1349 hC ?_
    refine eL_law_1351 hC (fun _ => ?_) (fun c2 => ?_)
    · refine eL_law_1366 hC ?_
      exact kk.go (by omega) (by omega) h2.1
    · refine eL_law_1354 hC ?_
      refine eL_law_1355 hC ?_
      refine eL_law_1356 hC h2.1.2.2.2 (vp_in_nI (by decide) (by decide)) ?_
      refine eL_law_1357 hC ?_
      refine eL_law_1359 hC ?_
      refine eL_law_1360 hC ?_
      refine eL_law_1361 hC (fun _ => ?_) (fun zz => absurd (h2.cmp c2) zz)
      refine eL_law_1366 hC ?_
      exact kk.go (by omega) (by omega) h2.1
set_option maxHeartbeats 1000000 in
theorem vC_bestColumn (hC : hL_law x MC MS) (hs : zScr x b L f) (hi : i + 4 ≤ L) (hI : zLi K μ X S) (hcm : cs + 3 ≤ MC) (hsm : sl + 18 ≤ MS) (kk : zCn x b X i cs sl) : zV x cs sl 1369 [some (.ref b), some (.ref X), some (.ref (X + 89)), some (.ref (X + 98)), some (.int (nI i)), none, none] [] K μ := by
  refine eL_law_1369 hC ?_
  refine eL_law_1370 hC ?_
  refine eL_law_1371 hC ?_
  refine eL_law_1373 hC ?_
  refine eL_law_1374 hC ?_
  refine eL_law_1375 hC hs (j := i + 1) (nI_add i 1) (by omega) ?_
  refine eL_law_1376 hC ?_
  refine eL_law_1377 hC ?_
  refine eL_law_1379 hC ?_
  refine eL_law_1380 hC ?_
  refine eL_law_1381 hC hs (j := i + 2) (nI_add i 2) (by omega) ?_
  refine eL_law_1382 hC ?_
  refine eL_law_1383 hC (Nat.le_of_ble_eq_true rfl) (by omega) (by omega) (vL_bestColumn hC.nt hI.1 hI.2.2.2) (zk_hp hI (fun k S1 K1 μ1 h1 => ?_))
  refine eL_law_1386 hC ?_
  refine eL_law_1388 hC ?_
  refine eL_law_1389 hC ?_
  refine eL_law_1390 hC ?_
  refine eL_law_1392 hC ?_
  refine eL_law_1393 hC ?_
  refine eL_law_1394 hC hs (j := i + 1) (nI_add i 1) (by omega) ?_
  refine eL_law_1395 hC ?_
  refine eL_law_1396 hC ?_
  refine eL_law_1398 hC ?_
  refine eL_law_1399 hC ?_
  refine eL_law_1400 hC hs (j := i + 2) (nI_add i 2) (by omega) ?_
  refine eL_law_1401 hC (Nat.le_of_ble_eq_true rfl) (by omega) (by omega) h1.2.2.1.o (vX9_bestColumn hC.nt h1.2.2.1 h1.2.2.2.1 h1.2.2.2.2.2.1) (zk_n9 h1 (fun r μ2 h2 => ?_))
  refine eL_law_1404 hC ?_
  refine eL_law_1406 hC ?_
  refine eL_law_1407 hC (Nat.le_of_ble_eq_true rfl) (by omega) (by omega) h2.1.2.1.o (vX9_thrown hC.nt h2.1.2.1.o) (zk_i ?_)
  refine eL_law_1410 hC ?_
  refine eL_law_1412 hC (fun _ => ?_) (fun zz => absurd h2.2.1 zz)
  refine eL_law_1417 hC ?_
  refine eL_law_1419 hC (fun _ => ?_) (fun c2 => ?_)
  · refine eL_law_1434 hC ?_
    exact kk.go (by omega) (by omega) h2.1
  · refine eL_law_1422 hC ?_
    refine eL_law_1423 hC ?_
    refine eL_law_1424 hC h2.1.2.2.2 (vp_in_nI (by decide) (by decide)) ?_
    refine eL_law_1425 hC ?_
    refine eL_law_1427 hC ?_
    refine eL_law_1428 hC ?_
    refine eL_law_1429 hC (fun _ => ?_) (fun zz => absurd (h2.cmp c2) zz)
    refine eL_law_1434 hC ?_
    exact kk.go (by omega) (by omega) h2.1
set_option maxHeartbeats 1000000 in
theorem vC_saving (hC : hL_law x MC MS) (hs : zScr x b L f) (hi : i + 4 ≤ L) (hI : zLi K μ X S) (hcm : cs + 3 ≤ MC) (hsm : sl + 18 ≤ MS) (kk : zCn x b X i cs sl) : zV x cs sl 1437 [some (.ref b), some (.ref X), some (.ref (X + 89)), some (.ref (X + 98)), some (.int (nI i)), none, none] [] K μ := by
  refine eL_law_1437 hC ?_
  refine eL_law_1438 hC (Nat.le_of_ble_eq_true rfl) (by omega) (by omega) hI.1.o (vX8_saving hC.nt hI.1) (zk_w8 hI (fun r S1 K1 μ1 h1 => ?_))
  refine eL_law_1441 hC ?_
  refine eL_law_1442 hC (Nat.le_of_ble_eq_true rfl) (by omega) (by omega) h1.2.2.1.o (vX9_saving hC.nt h1.2.2.1 h1.2.2.2.1 h1.2.2.2.2.2) (zk_w9 h1 (fun μ2 h2 => ?_))
  refine eL_law_1445 hC (fun _ => ?_) (fun zz => absurd rfl zz)
  exact kk.go (by omega) (by omega) h2
set_option maxHeartbeats 1000000 in
theorem vC_costIfMarked (hC : hL_law x MC MS) (hs : zScr x b L f) (hi : i + 4 ≤ L) (hI : zLi K μ X S) (hcm : cs + 3 ≤ MC) (hsm : sl + 18 ≤ MS) (kk : zCn x b X i cs sl) : zV x cs sl 1450 [some (.ref b), some (.ref X), some (.ref (X + 89)), some (.ref (X + 98)), some (.int (nI i)), none, none] [] K μ := by
  refine eL_law_1450 hC ?_
  refine eL_law_1451 hC ?_
  refine eL_law_1452 hC ?_
  refine eL_law_1454 hC ?_
  refine eL_law_1455 hC ?_
  refine eL_law_1456 hC hs (j := i + 1) (nI_add i 1) (by omega) ?_
  refine eL_law_1457 hC ?_
  refine eL_law_1458 hC ?_
  refine eL_law_1460 hC ?_
  refine eL_law_1461 hC ?_
  refine eL_law_1462 hC hs (j := i + 2) (nI_add i 2) (by omega) ?_
  refine eL_law_1463 hC ?_
  refine eL_law_1464 hC (Nat.le_of_ble_eq_true rfl) (by omega) (by omega) (vL_costIfMarked hC.nt hI.1 hI.2.2.2) (zk_hp hI (fun k S1 K1 μ1 h1 => ?_))
  refine eL_law_1467 hC ?_
  refine eL_law_1469 hC ?_
  refine eL_law_1470 hC ?_
  refine eL_law_1471 hC ?_
  refine eL_law_1473 hC ?_
  refine eL_law_1474 hC ?_
  refine eL_law_1475 hC hs (j := i + 1) (nI_add i 1) (by omega) ?_
  refine eL_law_1476 hC ?_
  refine eL_law_1477 hC ?_
  refine eL_law_1479 hC ?_
  refine eL_law_1480 hC ?_
  refine eL_law_1481 hC hs (j := i + 2) (nI_add i 2) (by omega) ?_
  refine eL_law_1482 hC (Nat.le_of_ble_eq_true rfl) (by omega) (by omega) h1.2.2.1.o (vX9_costIfMarked hC.nt h1.2.2.1 h1.2.2.2.1 h1.2.2.2.2.2.1) (zk_n9 h1 (fun r μ2 h2 => ?_))
  refine eL_law_1485 hC ?_
  refine eL_law_1487 hC ?_
  refine eL_law_1488 hC (Nat.le_of_ble_eq_true rfl) (by omega) (by omega) h2.1.2.1.o (vX9_thrown hC.nt h2.1.2.1.o) (zk_i ?_)
  refine eL_law_1491 hC ?_
  refine eL_law_1493 hC (fun _ => ?_) (fun zz => absurd h2.2.1 zz)
  refine eL_law_1498 hC ?_
  refine eL_law_1500 hC (fun _ => ?_) (fun c2 => ?_)
  · refine eL_law_1515 hC ?_
    exact kk.go (by omega) (by omega) h2.1
  · refine eL_law_1503 hC ?_
    refine eL_law_1504 hC ?_
    refine eL_law_1505 hC h2.1.2.2.2 (vp_in_nI (by decide) (by decide)) ?_
    refine eL_law_1506 hC ?_
    refine eL_law_1508 hC ?_
    refine eL_law_1509 hC ?_
    refine eL_law_1510 hC (fun _ => ?_) (fun zz => absurd (h2.cmp c2) zz)
    refine eL_law_1515 hC ?_
    exact kk.go (by omega) (by omega) h2.1
set_option maxHeartbeats 1000000 in
theorem vC_append (hC : hL_law x MC MS) (hs : zScr x b L f) (hi : i + 4 ≤ L) (hI : zLi K μ X S) (hcm : cs + 3 ≤ MC) (hsm : sl + 18 ≤ MS) (kk : zCn x b X i cs sl) : zV x cs sl 1518 [some (.ref b), some (.ref X), some (.ref (X + 89)), some (.ref (X + 98)), some (.int (nI i)), none, none] [] K μ := by
  refine eL_law_1518 hC ?_
  refine eL_law_1519 hC ?_
  refine eL_law_1520 hC ?_
  refine eL_law_1522 hC ?_
  refine eL_law_1523 hC ?_
  refine eL_law_1524 hC hs (j := i + 1) (nI_add i 1) (by omega) ?_
  refine eL_law_1525 hC ?_
  refine eL_law_1526 hC (Nat.le_of_ble_eq_true rfl) (by omega) (by omega) (vL_append hC.nt hI.1 hI.2.2.2) (zk_hp hI (fun k S1 K1 μ1 h1 => ?_))
  refine eL_law_1529 hC ?_
  refine eL_law_1531 hC ?_
  refine eL_law_1532 hC ?_
  refine eL_law_1533 hC ?_
  refine eL_law_1535 hC ?_
  refine eL_law_1536 hC ?_
  refine eL_law_1537 hC hs (j := i + 1) (nI_add i 1) (by omega) ?_
  refine eL_law_1538 hC (Nat.le_of_ble_eq_true rfl) (by omega) (by omega) h1.2.2.1.o (vX9_append hC.nt h1.2.2.1 h1.2.2.2.1 h1.2.2.2.2.2.1) (zk_n9 h1 (fun r μ2 h2 => ?_))
  refine eL_law_1541 hC ?_
  refine eL_law_1543 hC ?_
  refine eL_law_1544 hC (Nat.le_of_ble_eq_true rfl) (by omega) (by omega) h2.1.2.1.o (vX9_thrown hC.nt h2.1.2.1.o) (zk_i ?_)
  refine eL_law_1547 hC ?_
  refine eL_law_1549 hC (fun _ => ?_) (fun zz => absurd h2.2.1 zz)
  refine eL_law_1554 hC ?_
  refine eL_law_1556 hC (fun _ => ?_) (fun c2 => ?_)
  · refine eL_law_1571 hC ?_
    exact kk.go (by omega) (by omega) h2.1
  · refine eL_law_1559 hC ?_
    refine eL_law_1560 hC ?_
    refine eL_law_1561 hC h2.1.2.2.2 (vp_in_nI (by decide) (by decide)) ?_
    refine eL_law_1562 hC ?_
    refine eL_law_1564 hC ?_
    refine eL_law_1565 hC ?_
    refine eL_law_1566 hC (fun _ => ?_) (fun zz => absurd (h2.cmp c2) zz)
    refine eL_law_1571 hC ?_
    exact kk.go (by omega) (by omega) h2.1
set_option maxHeartbeats 1000000 in
theorem vC_clearText (hC : hL_law x MC MS) (hs : zScr x b L f) (hi : i + 4 ≤ L) (hI : zLi K μ X S) (hcm : cs + 3 ≤ MC) (hsm : sl + 18 ≤ MS) (kk : zCn x b X i cs sl) : zV x cs sl 1574 [some (.ref b), some (.ref X), some (.ref (X + 89)), some (.ref (X + 98)), some (.int (nI i)), none, none] [] K μ := by
  refine eL_law_1574 hC ?_
  refine eL_law_1575 hC (Nat.le_of_ble_eq_true rfl) (by omega) (by omega) hI.1.o (vX8_clearText hC.nt hI.1) (zk_w8 hI (fun r S1 K1 μ1 h1 => ?_))
  refine eL_law_1578 hC ?_
  refine eL_law_1579 hC (Nat.le_of_ble_eq_true rfl) (by omega) (by omega) h1.2.2.1.o (vX9_clearText hC.nt h1.2.2.1 h1.2.2.2.1 h1.2.2.2.2.2) (zk_w9 h1 (fun μ2 h2 => ?_))
  refine eL_law_1582 hC (fun _ => ?_) (fun zz => absurd rfl zz)
  exact kk.go (by omega) (by omega) h2
set_option maxHeartbeats 1000000 in
theorem vC_firstError (hC : hL_law x MC MS) (hs : zScr x b L f) (hi : i + 4 ≤ L) (hI : zLi K μ X S) (hcm : cs + 3 ≤ MC) (hsm : sl + 18 ≤ MS) (kk : zCn x b X i cs sl) : zV x cs sl 1587 [some (.ref b), some (.ref X), some (.ref (X + 89)), some (.ref (X + 98)), some (.int (nI i)), none, none] [] K μ := by
  refine eL_law_1587 hC ?_
  refine eL_law_1588 hC (Nat.le_of_ble_eq_true rfl) (by omega) (by omega) hI.1.o (vX8_firstError hC.nt hI.1) (zk_w8 hI (fun r S1 K1 μ1 h1 => ?_))
  refine eL_law_1591 hC ?_
  refine eL_law_1592 hC (Nat.le_of_ble_eq_true rfl) (by omega) (by omega) h1.2.2.1.o (vX9_firstError hC.nt h1.2.2.1 h1.2.2.2.1 h1.2.2.2.2.2) (zk_w9 h1 (fun μ2 h2 => ?_))
  refine eL_law_1595 hC (fun _ => ?_) (fun zz => absurd rfl zz)
  exact kk.go (by omega) (by omega) h2
set_option maxHeartbeats 1000000 in
theorem vC_load (hC : hL_law x MC MS) (hs : zScr x b L f) (hi : i + 4 ≤ L) (hI : zLi K μ X S) (hcm : cs + 3 ≤ MC) (hsm : sl + 18 ≤ MS) (kk : zCn x b X i cs sl) : zV x cs sl 1600 [some (.ref b), some (.ref X), some (.ref (X + 89)), some (.ref (X + 98)), some (.int (nI i)), none, none] [] K μ := by
  refine eL_law_1600 hC ?_
  refine eL_law_1601 hC ?_
  refine eL_law_1602 hC (Nat.le_of_ble_eq_true rfl) (by omega) (by omega) (vL_load hC.nt hI.1 hI.2.2.2) (zk_hp hI (fun k S1 K1 μ1 h1 => ?_))
  refine eL_law_1605 hC ?_
  refine eL_law_1607 hC ?_
  refine eL_law_1608 hC (Nat.le_of_ble_eq_true rfl) (by omega) (by omega) h1.2.2.1.o (vX9_load hC.nt h1.2.2.1 h1.2.2.2.1 h1.2.2.2.2.2.1) (zk_n9 h1 (fun r μ2 h2 => ?_))
  refine eL_law_1611 hC ?_
  refine eL_law_1613 hC ?_
  refine eL_law_1614 hC (Nat.le_of_ble_eq_true rfl) (by omega) (by omega) h2.1.2.1.o (vX9_thrown hC.nt h2.1.2.1.o) (zk_i ?_)
  refine eL_law_1617 hC ?_
  refine eL_law_1619 hC (fun _ => ?_) (fun zz => absurd h2.2.1 zz)
  refine eL_law_1624 hC ?_
  refine eL_law_1626 hC (fun _ => ?_) (fun c2 => ?_)
  · refine eL_law_1641 hC ?_
    exact kk.go (by omega) (by omega) h2.1
  · refine eL_law_1629 hC ?_
    refine eL_law_1630 hC ?_
    refine eL_law_1631 hC h2.1.2.2.2 (vp_in_nI (by decide) (by decide)) ?_
    refine eL_law_1632 hC ?_
    refine eL_law_1634 hC ?_
    refine eL_law_1635 hC ?_
    refine eL_law_1636 hC (fun _ => ?_) (fun zz => absurd (h2.cmp c2) zz)
    refine eL_law_1641 hC ?_
    exact kk.go (by omega) (by omega) h2.1
set_option maxHeartbeats 1000000 in
theorem vC_undo (hC : hL_law x MC MS) (hs : zScr x b L f) (hi : i + 4 ≤ L) (hI : zLi K μ X S) (hcm : cs + 3 ≤ MC) (hsm : sl + 18 ≤ MS) (kk : zCn x b X i cs sl) : zV x cs sl 1644 [some (.ref b), some (.ref X), some (.ref (X + 89)), some (.ref (X + 98)), some (.int (nI i)), none, none] [] K μ := by
  refine eL_law_1644 hC ?_
  refine eL_law_1645 hC ?_
  refine eL_law_1646 hC (Nat.le_of_ble_eq_true rfl) (by omega) (by omega) (vL_undo hC.nt hI.1 hI.2.2.2) (zk_hp hI (fun k S1 K1 μ1 h1 => ?_))
  refine eL_law_1649 hC ?_
  refine eL_law_1651 hC ?_
  refine eL_law_1652 hC (Nat.le_of_ble_eq_true rfl) (by omega) (by omega) h1.2.2.1.o (vX9_undo hC.nt h1.2.2.1 h1.2.2.2.1 h1.2.2.2.2.2.1) (zk_n9 h1 (fun r μ2 h2 => ?_))
  refine eL_law_1655 hC ?_
  refine eL_law_1657 hC ?_
  refine eL_law_1658 hC (Nat.le_of_ble_eq_true rfl) (by omega) (by omega) h2.1.2.1.o (vX9_thrown hC.nt h2.1.2.1.o) (zk_i ?_)
  refine eL_law_1661 hC ?_
  refine eL_law_1663 hC (fun _ => ?_) (fun zz => absurd h2.2.1 zz)
  refine eL_law_1668 hC ?_
  refine eL_law_1670 hC (fun _ => ?_) (fun c2 => ?_)
  · refine eL_law_1685 hC ?_
    exact kk.go (by omega) (by omega) h2.1
  · refine eL_law_1673 hC ?_
    refine eL_law_1674 hC ?_
    refine eL_law_1675 hC h2.1.2.2.2 (vp_in_nI (by decide) (by decide)) ?_
    refine eL_law_1676 hC ?_
    refine eL_law_1678 hC ?_
    refine eL_law_1679 hC ?_
    refine eL_law_1680 hC (fun _ => ?_) (fun zz => absurd (h2.cmp c2) zz)
    refine eL_law_1685 hC ?_
    exact kk.go (by omega) (by omega) h2.1
set_option maxHeartbeats 1000000 in
theorem vC_savedStates (hC : hL_law x MC MS) (hs : zScr x b L f) (hi : i + 4 ≤ L) (hI : zLi K μ X S) (hcm : cs + 3 ≤ MC) (hsm : sl + 18 ≤ MS) (kk : zCn x b X i cs sl) : zV x cs sl 1688 [some (.ref b), some (.ref X), some (.ref (X + 89)), some (.ref (X + 98)), some (.int (nI i)), none, none] [] K μ := by
  refine eL_law_1688 hC ?_
  refine eL_law_1689 hC (Nat.le_of_ble_eq_true rfl) (by omega) (by omega) hI.1.o (vX8_savedStates hC.nt hI.1) (zk_w8 hI (fun r S1 K1 μ1 h1 => ?_))
  refine eL_law_1692 hC ?_
  refine eL_law_1693 hC (Nat.le_of_ble_eq_true rfl) (by omega) (by omega) h1.2.2.1.o (vX9_savedStates hC.nt h1.2.2.1 h1.2.2.2.1 h1.2.2.2.2.2) (zk_w9 h1 (fun μ2 h2 => ?_))
  refine eL_law_1696 hC (fun _ => ?_) (fun zz => absurd rfl zz)
  exact kk.go (by omega) (by omega) h2
set_option maxHeartbeats 1000000 in
theorem vC_digest (hC : hL_law x MC MS) (hs : zScr x b L f) (hi : i + 4 ≤ L) (hI : zLi K μ X S) (hcm : cs + 3 ≤ MC) (hsm : sl + 18 ≤ MS) (kk : zCn x b X i cs sl) : zV x cs sl 1701 [some (.ref b), some (.ref X), some (.ref (X + 89)), some (.ref (X + 98)), some (.int (nI i)), none, none] [] K μ := by
  refine eL_law_1701 hC ?_
  refine eL_law_1702 hC (Nat.le_of_ble_eq_true rfl) (by omega) (by omega) hI.1.o (vX8_digest hC.nt hI.1) (zk_d8 hI (fun K1 μ1 h1 => ?_))
  refine eL_law_1705 hC ?_
  refine eL_law_1706 hC (Nat.le_of_ble_eq_true rfl) (by omega) (by omega) h1.2.1.o (vX9_digest hC.nt h1.2.1 h1.2.2.1 h1.1.k) (zk_d9 h1 (fun μ2 h2 => ?_))
  refine eL_law_1709 hC ?_
  refine eL_law_1710 hC (fun _ => ?_) (fun zz => absurd (lg_cmp_self _) zz)
  exact kk.go (by omega) (by omega) h2
end ZCASE
