/-! ===== the law's method lines ===== -/
theorem zwd_snoc {τ : Nat → Nat} {i e : Nat} (h : i < e) : zwd τ i e + τ 82 + τ e = zwd τ i (e + 1) := by
  unfold zwd
  have h1 : zsm τ (e + 1) = zsm τ e + τ e := rfl
  have h2 := zsm_le (τ := τ) (Nat.le_of_lt h)
  have h3 : τ 82 * (e + 1 - i - 1) = τ 82 * (e - i - 1) + τ 82 := by
    rw [show e + 1 - i - 1 = (e - i - 1) + 1 by omega, Nat.mul_add, Nat.mul_one]
  omega
/-- the law's own numbers: the settings -/
def zGa (K : zK) (μ : zF) (a : Nat) (τ : Nat → Nat) : Prop := zI K a 10 6 ∧ μ a 0 = nI (τ 81) ∧ μ a 1 = nI (τ 82) ∧ μ a 2 = nI (τ 83) ∧ μ a 3 = nI (τ 84) ∧ μ a 4 = nI (τ 85) ∧ μ a 5 = nI (τ 86)
set_option maxHeartbeats 8000000 in
theorem vL_lines {l : Launch} {g : zG} (hl : l.stackTraces = false) {K : zK} {μ : zF} {x a : Nat} {S : zMs} (h : zX8 K μ x S) (ha : x + 89 ≤ a) (hG : zGa K μ a S.1) : EL_lines l g 700 4200 [.ref x, .ref a] K μ (zAi (nI 1) S K μ x) := by
  obtain ⟨hI, hg0, hg1, hg2, hg3, hg4, hg5⟩ := hG
  have hok := h.k
  have o1 := hok.1.1
  have o81 := hok.1.2.2.2.1
  have o83 := hok.1.2.2.2.2.2.1
  have hmz := (zm_is S.1 (S.1 87)).1
  have hB := zBd.rf h
  refine nL_lines hl (fun q hC hQ => ?_)
  have outer : ∀ (d k cs sl : Nat) (K1 : zK) (μ1 : zF) (x10 x11 x12 x13 x14 x15 x16 x17 : Option Value), k + d = zm S.1 (S.1 87) → cs ≤ 10 * k + 6 * zL S.1 (S.1 87) k → sl ≤ 60 * k + 36 * zL S.1 (S.1 87) k → zBd K μ K1 μ1 x S → zV q cs sl 28 [some (.ref x), some (.ref a), some (.int (nI (S.1 80))), some (.int (nI (zm S.1 (S.1 87)))), some (.int (nI (zLc S.1 (S.1 87) k))), some (.int (nI (zct (fun j => zsa S.1 (S.1 87) j ≠ 1) k))), some (.int (nI (zct (zpe S.1) (zL S.1 (S.1 87) k)))), some (.int (nI (zL S.1 (S.1 87) k))), some (.int (zBv (zps S.1 (zL S.1 (S.1 87) k)))), some (.int (nI k)), x10, x11, x12, x13, x14, x15, x16, x17] [] K1 μ1 := by
    intro d
    induction d with
    | zero =>
      intro k cs sl K1 μ1 x10 x11 x12 x13 x14 x15 x16 x17 hk hcs hsl hB
      have hk : k = zm S.1 (S.1 87) := by omega
      have hz : zL S.1 (S.1 87) k = S.1 80 := by rw [hk]; exact (zm_is S.1 (S.1 87)).2.1
      rw [hz]
      rw [hz] at hcs hsl
      subst hk
      refine eL_lines_28 hC ?_
      refine eL_lines_30 hC ?_
      refine eL_lines_31 hC (fun _ => ?_) (fun zz => absurd (nI_le (Nat.le_refl _) (by omega)) zz)
      refine eL_lines_430 hC ?_
      refine eL_lines_432 hC ?_
      refine eL_lines_433 hC (fun zz => absurd rfl zz) (fun _ => ?_)
      refine eL_lines_436 hC ?_
      refine eL_lines_437 hC (Nat.le_of_ble_eq_true rfl) (by omega) (by omega) hB.o (vX8_stairs hC.nt hB.x) (zk_q hB rfl (fun K_437 μ_437 hB => ?_))
      refine eL_lines_440 hC ?_
      refine eL_lines_442 hC (fun zz => absurd rfl zz) (fun _ => ?_)
      refine eL_lines_445 hC ?_
      refine eL_lines_446 hC (Nat.le_of_ble_eq_true rfl) (by omega) (by omega) hB.o (vX8_paragraphs hC.nt hB.x) (zk_q hB rfl (fun K_446 μ_446 hB => ?_))
      refine eL_lines_449 hC ?_
      refine eL_lines_451 hC (fun zz => absurd rfl zz) (fun _ => ?_)
      refine eL_lines_454 hC ?_
      refine eL_lines_455 hC (Nat.le_of_ble_eq_true rfl) (by omega) (by omega) hB.o (vX8_cost hC.nt hB.x) (zk_q hB rfl (fun K_455 μ_455 hB => ?_))
      refine eL_lines_458 hC ?_
      refine eL_lines_460 hC ?_
      refine eL_lines_462 hC ?_
      refine eL_lines_463 hC ?_
      refine eL_lines_464 hC (hB.i hI) (vp_in_nI (by omega) (by omega)) ?_
      rw [nI_clamp (by omega), hB.g ha, hg3]
      refine eL_lines_465 hC ?_
      refine eL_lines_466 hC ?_
      refine eL_lines_467 hC (fun zz => absurd (by rw [ztc_split, pk_mul, nI_add]) zz) (fun _ => ?_)
      refine eL_lines_470 hC ?_
      refine eL_lines_471 hC ?_
      refine eL_lines_475 hC hQ (by omega) (by omega) (by first | (left; rfl) | (right; rfl) | assumption) ?_
      exact hB.ai
    | succ d ih =>
      intro k cs sl K1 μ1 x10 x11 x12 x13 x14 x15 x16 x17 hk hcs hsl hB
      have hkm : k < zm S.1 (S.1 87) := by omega
      obtain ⟨a1, a2, a3, a4⟩ := zln_b hkm
      have hcol := zlw_col hok.1 hkm
      have hlp : zlp S.1 (S.1 87) k ↔ zpe S.1 (zL S.1 (S.1 87) (k + 1) - 1) := Iff.rfl
      -- the paragraphs, the next line
      have c405 : ∀ (cs sl : Nat) (K1 : zK) (μ1 : zF) (x11 x13 x14 x15 x16 x17 : Option Value) (v10 : Int32), cs ≤ 10 * k + 9 + 6 * zL S.1 (S.1 87) (k + 1) → sl ≤ 60 * k + 54 + 36 * zL S.1 (S.1 87) (k + 1) → zBd K μ K1 μ1 x S → zV q cs sl 405 [some (.ref x), some (.ref a), some (.int (nI (S.1 80))), some (.int (nI (zm S.1 (S.1 87)))), some (.int (nI (zLc S.1 (S.1 87) (k + 1)))), some (.int (nI (zct (fun j => zsa S.1 (S.1 87) j ≠ 1) (k + 1)))), some (.int (nI (zct (zpe S.1) (zL S.1 (S.1 87) k)))), some (.int (nI (zL S.1 (S.1 87) (k + 1)))), some (.int (zBv (zps S.1 (zL S.1 (S.1 87) k)))), some (.int (nI k)), some (.int (v10)), x11, some (.int (zBv (zlp S.1 (S.1 87) k))), x13, x14, x15, x16, x17] [] K1 μ1 := by
        intro cs sl K1 μ1 x11 x13 x14 x15 x16 x17 v10 hcs hsl hB
        by_cases c : zlp S.1 (S.1 87) k
        · rw [zBv_t c]
          refine eL_lines_405 hC ?_
          refine eL_lines_407 hC ?_
          refine eL_lines_409 hC (fun zz => absurd zz zn10) (fun _ => ?_)
          refine eL_lines_412 hC ?_
          refine eL_lines_413 hC ?_
          refine eL_lines_417 hC ?_
          rw [nI_add, ← zln_pt hkm c]
          refine eL_lines_418 hC ?_
          refine eL_lines_420 hC ?_
          refine eL_lines_422 hC ?_
          refine eL_lines_424 hC ?_
          rw [nI_add]
          refine eL_lines_427 hC ?_
          have nx := fun cs sl K1 μ1 y10 y12 => ih (k + 1) cs sl K1 μ1 y10 x11 y12 x13 x14 x15 x16 x17 (by omega)
          rw [zBv_t ((zln_ps hkm).mpr c)] at nx
          exact nx _ _ _ _ _ _ (by omega) (by omega) hB
        · rw [zBv_f c]
          refine eL_lines_405 hC ?_
          refine eL_lines_407 hC ?_
          refine eL_lines_409 hC (fun _ => ?_) (fun zz => absurd zn00 zz)
          refine eL_lines_416 hC ?_
          refine eL_lines_417 hC ?_
          rw [nI_add, Nat.add_zero, ← zln_pf hkm c]
          refine eL_lines_418 hC ?_
          refine eL_lines_420 hC ?_
          refine eL_lines_422 hC ?_
          refine eL_lines_424 hC ?_
          rw [nI_add]
          refine eL_lines_427 hC ?_
          have nx := fun cs sl K1 μ1 y10 y12 => ih (k + 1) cs sl K1 μ1 y10 x11 y12 x13 x14 x15 x16 x17 (by omega)
          rw [zBv_f (fun q => c ((zln_ps hkm).mp q))] at nx
          exact nx _ _ _ _ _ _ (by omega) (by omega) hB
      -- the stair
      have c329 : ∀ (cs sl : Nat) (K1 : zK) (μ1 : zF) (x11 x13 x15 x16 x17 : Option Value) (v14 : Int32), cs ≤ 10 * k + 6 + 6 * zL S.1 (S.1 87) (k + 1) → sl ≤ 60 * k + 36 + 36 * zL S.1 (S.1 87) (k + 1) → zBd K μ K1 μ1 x S → zV q cs sl 329 [some (.ref x), some (.ref a), some (.int (nI (S.1 80))), some (.int (nI (zm S.1 (S.1 87)))), some (.int (nI (zLc S.1 (S.1 87) (k + 1)))), some (.int (nI (zct (fun j => zsa S.1 (S.1 87) j ≠ 1) k))), some (.int (nI (zct (zpe S.1) (zL S.1 (S.1 87) k)))), some (.int (nI (zL S.1 (S.1 87) (k + 1)))), some (.int (zBv (zps S.1 (zL S.1 (S.1 87) k)))), some (.int (nI k)), some (.int (nI (zlw S.1 (S.1 87) k))), x11, some (.int (zBv (zlp S.1 (S.1 87) k))), x13, some (.int (v14)), x15, x16, x17] [] K1 μ1 := by
        intro cs sl K1 μ1 x11 x13 x15 x16 x17 v14 hcs hsl hB
        by_cases c : zsa S.1 (S.1 87) k = 1
        · refine eL_lines_329 hC ?_
          refine eL_lines_330 hC ?_
          refine eL_lines_332 hC (Nat.le_of_ble_eq_true rfl) (by omega) (by omega) (vL_stairAt hC.nt hB.x (zo_stairAt (by omega) hok)) (zk_a hB (fun K_332 μ_332 hB => ?_))
          rw [c, show nI 1 - nI 1 = nI 0 from by decide]
          refine eL_lines_335 hC ?_
          refine eL_lines_337 hC ?_
          refine eL_lines_339 hC (fun _ => ?_) (fun zz => absurd zn00 zz)
          have nx := fun cs sl K1 μ1 => c405 cs sl K1 μ1 x11 x13 (some (.int v14)) (some (.int (nI 0))) x16 x17 (nI (zlw S.1 (S.1 87) k))
          rw [zct_f (p := fun j => zsa S.1 (S.1 87) j ≠ 1) (fun q => q c)] at nx
          exact nx _ _ _ _ (by omega) (by omega) hB
        · obtain ⟨b1, b2, b3, b4, b5⟩ := zsa_d c
          have k0 := zfp_0 b1
          have kn := zlp_last hkm b2
          have w1 := zlw_col hok.1 (m := (S.1 87)) (k := k - 1) (by omega)
          have w2 := zlw_col hok.1 kn
          have n1 := zst_lt (a := zlw S.1 (S.1 87) k) (b := zlw S.1 (S.1 87) (k - 1)) (by omega) (by omega) (by omega) b4 c
          have n2 := zst_lt (a := zlw S.1 (S.1 87) (k + 1)) (b := zlw S.1 (S.1 87) k) (by omega) (by omega) (by omega) b5 c
          rw [zBv_f (show ¬ zps S.1 (zL S.1 (S.1 87) k) from b1), zBv_f b2]
          refine eL_lines_329 hC ?_
          refine eL_lines_330 hC ?_
          refine eL_lines_332 hC (Nat.le_of_ble_eq_true rfl) (by omega) (by omega) (vL_stairAt hC.nt hB.x (zo_stairAt (by omega) hok)) (zk_a hB (fun K_332 μ_332 hB => ?_))
          refine eL_lines_335 hC ?_
          refine eL_lines_337 hC ?_
          refine eL_lines_339 hC (fun zz => absurd zz (zti_0 (zsa_le _ _ _) c)) (fun _ => ?_)
          refine eL_lines_342 hC ?_
          refine eL_lines_343 hC ?_
          refine eL_lines_345 hC ?_
          refine eL_lines_346 hC ?_
          rw [nI_sub (a := k) (b := 1) (by omega)]
          refine eL_lines_347 hC (Nat.le_of_ble_eq_true rfl) (by omega) (by omega) (vL_lineWidth hC.nt hB.x (zo_lineWidth (by omega) hok)) (zk_a hB (fun K_347 μ_347 hB => ?_))
          refine eL_lines_350 hC ?_
          refine eL_lines_352 hC ?_
          refine eL_lines_353 hC ?_
          refine eL_lines_355 hC ?_
          refine eL_lines_356 hC ?_
          rw [nI_add]
          refine eL_lines_357 hC (Nat.le_of_ble_eq_true rfl) (by omega) (by omega) (vL_lineWidth hC.nt hB.x (zo_lineWidth (by omega) hok)) (zk_a hB (fun K_357 μ_357 hB => ?_))
          refine eL_lines_360 hC ?_
          refine eL_lines_362 hC ?_
          refine eL_lines_364 hC (fun zz => absurd zn00 zz) (fun _ => ?_)
          refine eL_lines_367 hC ?_
          refine eL_lines_369 hC (fun zz => absurd zn00 zz) (fun _ => ?_)
          refine eL_lines_372 hC ?_
          refine eL_lines_374 hC ?_
          refine eL_lines_376 hC ?_
          refine eL_lines_377 hC ?_
          refine eL_lines_379 hC ?_
          refine eL_lines_380 hC ?_
          refine eL_lines_381 hC ?_
          refine eL_lines_382 hC (hB.i hI) (vp_in_nI (by omega) (by omega)) ?_
          rw [nI_clamp (by omega), hB.g ha, hg2]
          refine eL_lines_383 hC (fun zz => absurd zz n1) (fun _ => ?_)
          refine eL_lines_386 hC ?_
          refine eL_lines_388 hC ?_
          refine eL_lines_390 hC ?_
          refine eL_lines_391 hC ?_
          refine eL_lines_393 hC ?_
          refine eL_lines_394 hC ?_
          refine eL_lines_395 hC ?_
          refine eL_lines_396 hC (hB.i hI) (vp_in_nI (by omega) (by omega)) ?_
          rw [nI_clamp (by omega), hB.g ha, hg2]
          refine eL_lines_397 hC (fun _ => ?_) (fun zz => absurd (Int32.not_lt.mp n2) zz)
          refine eL_lines_402 hC ?_
          rw [nI_add]
          have nx := fun cs sl K1 μ1 y15 y16 y17 => c405 cs sl K1 μ1 x11 x13 (some (.int v14)) y15 y16 y17 (nI (zlw S.1 (S.1 87) k))
          rw [zct_t (p := fun j => zsa S.1 (S.1 87) j ≠ 1) c, zBv_f (show ¬ zps S.1 (zL S.1 (S.1 87) k) from b1), zBv_f b2] at nx
          exact nx _ _ _ _ _ _ _ (by omega) (by omega) hB
      -- the cost
      have c326 : ∀ (cs sl : Nat) (K1 : zK) (μ1 : zF) (x11 x13 x15 x16 x17 : Option Value) (v14 : Int32), cs ≤ 10 * k + 6 + 6 * zL S.1 (S.1 87) (k + 1) → sl ≤ 60 * k + 36 + 36 * zL S.1 (S.1 87) (k + 1) → zBd K μ K1 μ1 x S → zV q cs sl 326 [some (.ref x), some (.ref a), some (.int (nI (S.1 80))), some (.int (nI (zm S.1 (S.1 87)))), some (.int (nI (zLc S.1 (S.1 87) k))), some (.int (nI (zct (fun j => zsa S.1 (S.1 87) j ≠ 1) k))), some (.int (nI (zct (zpe S.1) (zL S.1 (S.1 87) k)))), some (.int (nI (zL S.1 (S.1 87) (k + 1)))), some (.int (zBv (zps S.1 (zL S.1 (S.1 87) k)))), some (.int (nI k)), some (.int (nI (zlw S.1 (S.1 87) k))), x11, some (.int (zBv (zlp S.1 (S.1 87) k))), x13, some (.int (v14)), x15, x16, x17] [.int (nI (zlc S.1 (S.1 87) k)), .int (nI (zLc S.1 (S.1 87) k))] K1 μ1 := by
        intro cs sl K1 μ1 x11 x13 x15 x16 x17 v14 hcs hsl hB
        refine eL_lines_326 hC ?_
        rw [nI_add]
        refine eL_lines_327 hC ?_
        exact c329 _ _ _ _ x11 x13 x15 x16 x17 v14 hcs hsl hB
      have c281 : ∀ (cs sl : Nat) (K1 : zK) (μ1 : zF) (x11 x13 x15 x16 x17 : Option Value) (v14 : Int32), cs ≤ 10 * k + 6 + 6 * zL S.1 (S.1 87) (k + 1) → sl ≤ 60 * k + 36 + 36 * zL S.1 (S.1 87) (k + 1) → zBd K μ K1 μ1 x S → zV q cs sl 281 [some (.ref x), some (.ref a), some (.int (nI (S.1 80))), some (.int (nI (zm S.1 (S.1 87)))), some (.int (nI (zLc S.1 (S.1 87) k))), some (.int (nI (zct (fun j => zsa S.1 (S.1 87) j ≠ 1) k))), some (.int (nI (zct (zpe S.1) (zL S.1 (S.1 87) k)))), some (.int (nI (zL S.1 (S.1 87) (k + 1)))), some (.int (zBv (zps S.1 (zL S.1 (S.1 87) k)))), some (.int (nI k)), some (.int (nI (zlw S.1 (S.1 87) k))), x11, some (.int (zBv (zlp S.1 (S.1 87) k))), x13, some (.int (v14)), x15, x16, x17] [] K1 μ1 := by
        intro cs sl K1 μ1 x11 x13 x15 x16 x17 v14 hcs hsl hB
        have nx := c326 cs sl K1 μ1 x11 x13 x15 x16 x17 v14 hcs hsl hB
        by_cases c : zlp S.1 (S.1 87) k
        · rw [zBv_t c] at nx ⊢
          by_cases d : zps S.1 (zL S.1 (S.1 87) k)
          · have hlc : zlc S.1 (S.1 87) k = 0 := by
              unfold zlc
              rw [zif_t c, zif_f (fun q => q.1 d)]
            rw [zBv_t d, hlc] at nx
            rw [zBv_t d]
            refine eL_lines_281 hC ?_
            refine eL_lines_283 hC ?_
            refine eL_lines_285 hC (fun _ => ?_) (fun zz => absurd zz zn10)
            refine eL_lines_304 hC ?_
            refine eL_lines_306 hC (fun _ => ?_) (fun zz => absurd zz zn10)
            refine eL_lines_325 hC ?_
            exact nx
          · rw [zBv_f d] at nx ⊢
            by_cases f : 4 * zlw S.1 (S.1 87) k < S.1 81
            · have hlc : zlc S.1 (S.1 87) k = S.1 85 := by
                unfold zlc
                rw [zif_t c, zif_t ⟨d, f⟩]
              rw [hlc] at nx
              refine eL_lines_281 hC ?_
              refine eL_lines_283 hC ?_
              refine eL_lines_285 hC (fun _ => ?_) (fun zz => absurd zz zn10)
              refine eL_lines_304 hC ?_
              refine eL_lines_306 hC (fun zz => absurd zn00 zz) (fun _ => ?_)
              refine eL_lines_309 hC ?_
              refine eL_lines_310 hC ?_
              refine eL_lines_312 hC ?_
              rw [pk_mul]
              refine eL_lines_313 hC ?_
              refine eL_lines_314 hC ?_
              refine eL_lines_315 hC (hB.i hI) (vp_in_nI (by omega) (by omega)) ?_
              rw [nI_clamp (by omega), hB.g ha, hg0]
              refine eL_lines_316 hC (fun zz => absurd zz (nI_ge f (by omega))) (fun _ => ?_)
              refine eL_lines_319 hC ?_
              refine eL_lines_320 hC ?_
              refine eL_lines_321 hC (hB.i hI) (vp_in_nI (by omega) (by omega)) ?_
              rw [nI_clamp (by omega), hB.g ha, hg4]
              refine eL_lines_322 hC ?_
              exact nx
            · have hlc : zlc S.1 (S.1 87) k = 0 := by
                unfold zlc
                rw [zif_t c, zif_f (fun q => f q.2)]
              rw [hlc] at nx
              refine eL_lines_281 hC ?_
              refine eL_lines_283 hC ?_
              refine eL_lines_285 hC (fun _ => ?_) (fun zz => absurd zz zn10)
              refine eL_lines_304 hC ?_
              refine eL_lines_306 hC (fun zz => absurd zn00 zz) (fun _ => ?_)
              refine eL_lines_309 hC ?_
              refine eL_lines_310 hC ?_
              refine eL_lines_312 hC ?_
              rw [pk_mul]
              refine eL_lines_313 hC ?_
              refine eL_lines_314 hC ?_
              refine eL_lines_315 hC (hB.i hI) (vp_in_nI (by omega) (by omega)) ?_
              rw [nI_clamp (by omega), hB.g ha, hg0]
              refine eL_lines_316 hC (fun _ => ?_) (fun zz => absurd (nI_le (by omega) (by omega)) zz)
              refine eL_lines_325 hC ?_
              exact nx
        · have hlc : zlc S.1 (S.1 87) k = (S.1 81 - zlw S.1 (S.1 87) k) * (S.1 81 - zlw S.1 (S.1 87) k) := by
            unfold zlc
            rw [zif_f c]
          rw [zBv_f c, hlc] at nx
          rw [zBv_f c]
          refine eL_lines_281 hC ?_
          refine eL_lines_283 hC ?_
          refine eL_lines_285 hC (fun zz => absurd zn00 zz) (fun _ => ?_)
          refine eL_lines_288 hC ?_
          refine eL_lines_289 hC ?_
          refine eL_lines_290 hC (hB.i hI) (vp_in_nI (by omega) (by omega)) ?_
          rw [nI_clamp (by omega), hB.g ha, hg0]
          refine eL_lines_291 hC ?_
          refine eL_lines_293 hC ?_
          refine eL_lines_294 hC ?_
          refine eL_lines_295 hC ?_
          refine eL_lines_296 hC (hB.i hI) (vp_in_nI (by omega) (by omega)) ?_
          rw [nI_clamp (by omega), hB.g ha, hg0]
          refine eL_lines_297 hC ?_
          refine eL_lines_299 hC ?_
          rw [nI_sub hcol]
          refine eL_lines_300 hC ?_
          rw [pk_mul]
          refine eL_lines_301 hC ?_
          exact nx
      -- the reason
      have c239 : ∀ (cs sl : Nat) (K1 : zK) (μ1 : zF) (x11 x15 x16 x17 : Option Value), cs ≤ 10 * k + 5 + 6 * zL S.1 (S.1 87) (k + 1) → sl ≤ 60 * k + 30 + 36 * zL S.1 (S.1 87) (k + 1) → zBd K μ K1 μ1 x S → zV q cs sl 239 [some (.ref x), some (.ref a), some (.int (nI (S.1 80))), some (.int (nI (zm S.1 (S.1 87)))), some (.int (nI (zLc S.1 (S.1 87) k))), some (.int (nI (zct (fun j => zsa S.1 (S.1 87) j ≠ 1) k))), some (.int (nI (zct (zpe S.1) (zL S.1 (S.1 87) k)))), some (.int (nI (zL S.1 (S.1 87) (k + 1)))), some (.int (zBv (zps S.1 (zL S.1 (S.1 87) k)))), some (.int (nI k)), some (.int (nI (zlw S.1 (S.1 87) k))), x11, some (.int (zBv (zlp S.1 (S.1 87) k))), some (.int (nI (zre S.1 (S.1 87) (zL S.1 (S.1 87) (k + 1) - 1)))), some (.int (zBv (zL S.1 (S.1 87) (k + 1) < S.1 80 ∧ zwd S.1 (zL S.1 (S.1 87) k) (zL S.1 (S.1 87) (k + 1) + 1) ≤ S.1 81))), x15, x16, x17] [] K1 μ1 := by
        intro cs sl K1 μ1 x11 x15 x16 x17 hcs hsl hB
        have hre := zln_re hkm (w := zL S.1 (S.1 87) (k + 1) - 1) (by omega)
        rw [show zL S.1 (S.1 87) (k + 1) - 1 + 2 = zL S.1 (S.1 87) (k + 1) + 1 by omega] at hre
        have hm2 := hok.1.2.2.1 (zL S.1 (S.1 87) (k + 1) - 1) (by omega)
        by_cases c : zlp S.1 (S.1 87) k
        · rw [zif_t c] at hre
          rw [hre]
          have nx := fun y13 v14 => c281 cs sl K1 μ1 x11 y13 x15 x16 x17 v14 (by omega) (by omega) hB
          rw [zBv_t c] at nx ⊢
          refine eL_lines_239 hC ?_
          refine eL_lines_241 hC ?_
          refine eL_lines_243 hC (fun zz => absurd zz zn10) (fun _ => ?_)
          refine eL_lines_246 hC ?_
          refine eL_lines_247 hC ?_
          refine eL_lines_276 hC (fun _ => ?_) (fun zz => absurd rfl zz)
          exact nx _ _
        · have he : zL S.1 (S.1 87) (k + 1) < S.1 80 := zm_iff.mp (zlp_last hkm c)
          rw [zif_f c] at hre
          by_cases d : S.1 (40 + (zL S.1 (S.1 87) (k + 1) - 1)) = 1
          · rw [if_pos d] at hre
            rw [hre]
            have nx := fun cs sl K1 μ1 y13 v14 => c281 cs sl K1 μ1 x11 y13 x15 x16 x17 v14
            rw [zBv_f c] at nx ⊢
            refine eL_lines_239 hC ?_
            refine eL_lines_241 hC ?_
            refine eL_lines_243 hC (fun _ => ?_) (fun zz => absurd zn00 zz)
            refine eL_lines_250 hC ?_
            refine eL_lines_251 hC ?_
            refine eL_lines_253 hC ?_
            refine eL_lines_254 hC ?_
            rw [nI_sub (by omega)]
            refine eL_lines_255 hC (Nat.le_of_ble_eq_true rfl) (by omega) (by omega) (vL_mark hC.nt hB.x (zo_mark (by omega) hok)) (zk_a hB (fun K_255 μ_255 hB => ?_))
            refine eL_lines_258 hC ?_
            refine eL_lines_259 hC (fun zz => absurd (by rw [d]) zz) (fun _ => ?_)
            refine eL_lines_262 hC ?_
            refine eL_lines_263 hC ?_
            refine eL_lines_276 hC (fun _ => ?_) (fun zz => absurd rfl zz)
            exact nx _ _ _ _ _ _ (by omega) (by omega) hB
          · rw [if_neg d] at hre
            by_cases f : zwd S.1 (zL S.1 (S.1 87) k) (zL S.1 (S.1 87) (k + 1) + 1) ≤ S.1 81
            · rw [if_pos f] at hre
              rw [hre, zBv_t (p := zL S.1 (S.1 87) (k + 1) < S.1 80 ∧ zwd S.1 (zL S.1 (S.1 87) k) (zL S.1 (S.1 87) (k + 1) + 1) ≤ S.1 81) ⟨he, f⟩]
              have nx := fun cs sl K1 μ1 y13 v14 => c281 cs sl K1 μ1 x11 y13 x15 x16 x17 v14
              rw [zBv_f c] at nx ⊢
              refine eL_lines_239 hC ?_
              refine eL_lines_241 hC ?_
              refine eL_lines_243 hC (fun _ => ?_) (fun zz => absurd zn00 zz)
              refine eL_lines_250 hC ?_
              refine eL_lines_251 hC ?_
              refine eL_lines_253 hC ?_
              refine eL_lines_254 hC ?_
              rw [nI_sub (by omega)]
              refine eL_lines_255 hC (Nat.le_of_ble_eq_true rfl) (by omega) (by omega) (vL_mark hC.nt hB.x (zo_mark (by omega) hok)) (zk_a hB (fun K_255 μ_255 hB => ?_))
              refine eL_lines_258 hC ?_
              refine eL_lines_259 hC (fun _ => ?_) (fun zz => absurd zz (nI_inj_ne d (by omega) (by omega)))
              refine eL_lines_266 hC ?_
              refine eL_lines_268 hC (fun _ => ?_) (fun zz => absurd zz zn10)
              refine eL_lines_275 hC ?_
              refine eL_lines_276 hC (fun _ => ?_) (fun zz => absurd rfl zz)
              exact nx _ _ _ _ _ _ (by omega) (by omega) hB
            · rw [if_neg f] at hre
              rw [hre, zBv_f (p := zL S.1 (S.1 87) (k + 1) < S.1 80 ∧ zwd S.1 (zL S.1 (S.1 87) k) (zL S.1 (S.1 87) (k + 1) + 1) ≤ S.1 81) (fun q => f q.2)]
              have nx := fun cs sl K1 μ1 y13 v14 => c281 cs sl K1 μ1 x11 y13 x15 x16 x17 v14
              rw [zBv_f c] at nx ⊢
              refine eL_lines_239 hC ?_
              refine eL_lines_241 hC ?_
              refine eL_lines_243 hC (fun _ => ?_) (fun zz => absurd zn00 zz)
              refine eL_lines_250 hC ?_
              refine eL_lines_251 hC ?_
              refine eL_lines_253 hC ?_
              refine eL_lines_254 hC ?_
              rw [nI_sub (by omega)]
              refine eL_lines_255 hC (Nat.le_of_ble_eq_true rfl) (by omega) (by omega) (vL_mark hC.nt hB.x (zo_mark (by omega) hok)) (zk_a hB (fun K_255 μ_255 hB => ?_))
              refine eL_lines_258 hC ?_
              refine eL_lines_259 hC (fun _ => ?_) (fun zz => absurd zz (nI_inj_ne d (by omega) (by omega)))
              refine eL_lines_266 hC ?_
              refine eL_lines_268 hC (fun zz => absurd zn00 zz) (fun _ => ?_)
              refine eL_lines_271 hC ?_
              refine eL_lines_272 hC ?_
              refine eL_lines_276 hC (fun _ => ?_) (fun zz => absurd rfl zz)
              exact nx _ _ _ _ _ _ (by omega) (by omega) hB
      have c220 : ∀ (cs sl : Nat) (K1 : zK) (μ1 : zF) (x11 x15 x16 x17 : Option Value), cs ≤ 10 * k + 4 + 6 * zL S.1 (S.1 87) (k + 1) → sl ≤ 60 * k + 24 + 36 * zL S.1 (S.1 87) (k + 1) → zBd K μ K1 μ1 x S → zV q cs sl 220 [some (.ref x), some (.ref a), some (.int (nI (S.1 80))), some (.int (nI (zm S.1 (S.1 87)))), some (.int (nI (zLc S.1 (S.1 87) k))), some (.int (nI (zct (fun j => zsa S.1 (S.1 87) j ≠ 1) k))), some (.int (nI (zct (zpe S.1) (zL S.1 (S.1 87) k)))), some (.int (nI (zL S.1 (S.1 87) (k + 1)))), some (.int (zBv (zps S.1 (zL S.1 (S.1 87) k)))), some (.int (nI k)), some (.int (nI (zlw S.1 (S.1 87) k))), x11, some (.int (zBv (zlp S.1 (S.1 87) k))), some (.int (nI (zre S.1 (S.1 87) (zL S.1 (S.1 87) (k + 1) - 1)))), some (.int (zBv (zL S.1 (S.1 87) (k + 1) < S.1 80 ∧ zwd S.1 (zL S.1 (S.1 87) k) (zL S.1 (S.1 87) (k + 1) + 1) ≤ S.1 81))), x15, x16, x17] [] K1 μ1 := by
        intro cs sl K1 μ1 x11 x15 x16 x17 hcs hsl hB
        refine eL_lines_220 hC ?_
        refine eL_lines_222 hC ?_
        refine eL_lines_223 hC ?_
        refine eL_lines_224 hC (hB.i hI) (vp_in_nI (by omega) (by omega)) ?_
        rw [nI_clamp (by omega), hB.g ha, hg0]
        refine eL_lines_225 hC (fun zz => absurd zz (nI_nlt hcol (by omega))) (fun _ => ?_)
        refine eL_lines_228 hC ?_
        refine eL_lines_229 hC ?_
        refine eL_lines_231 hC (Nat.le_of_ble_eq_true rfl) (by omega) (by omega) (vL_lineWidth hC.nt hB.x (zo_lineWidth (by omega) hok)) (zk_a hB (fun K_231 μ_231 hB => ?_))
        refine eL_lines_234 hC ?_
        refine eL_lines_236 hC (fun zz => absurd rfl zz) (fun _ => ?_)
        exact c239 _ _ _ _ x11 x15 x16 x17 (by omega) (by omega) hB
      have c168 : ∀ (cs sl : Nat) (K1 : zK) (μ1 : zF) (x12 x13 x14 x15 x16 x17 : Option Value) (v11 : Int32), cs ≤ 10 * k + 1 + 6 * zL S.1 (S.1 87) (k + 1) → sl ≤ 60 * k + 6 + 36 * zL S.1 (S.1 87) (k + 1) → zBd K μ K1 μ1 x S → zV q cs sl 168 [some (.ref x), some (.ref a), some (.int (nI (S.1 80))), some (.int (nI (zm S.1 (S.1 87)))), some (.int (nI (zLc S.1 (S.1 87) k))), some (.int (nI (zct (fun j => zsa S.1 (S.1 87) j ≠ 1) k))), some (.int (nI (zct (zpe S.1) (zL S.1 (S.1 87) k)))), some (.int (nI (zL S.1 (S.1 87) (k + 1)))), some (.int (zBv (zps S.1 (zL S.1 (S.1 87) k)))), some (.int (nI k)), some (.int (nI (zlw S.1 (S.1 87) k))), some (.int (v11)), x12, x13, x14, x15, x16, x17] [] K1 μ1 := by
        intro cs sl K1 μ1 x12 x13 x14 x15 x16 x17 v11 hcs hsl hB
        have hsn := zwd_snoc (τ := S.1) a2
        have hsn : zlw S.1 (S.1 87) k + S.1 82 + S.1 (zL S.1 (S.1 87) (k + 1)) = zwd S.1 (zL S.1 (S.1 87) k) (zL S.1 (S.1 87) (k + 1) + 1) := hsn
        have nx := fun cs sl K1 μ1 => c220 cs sl K1 μ1 (some (.int v11)) x15 x16 x17
        by_cases he : zL S.1 (S.1 87) (k + 1) < S.1 80
        · have hw30 := (hok.1.2.1 _ he).2
          have o82 := hok.1.2.2.2.2.1
          by_cases f : zwd S.1 (zL S.1 (S.1 87) k) (zL S.1 (S.1 87) (k + 1) + 1) ≤ S.1 81
          · rw [zBv_t (p := zL S.1 (S.1 87) (k + 1) < S.1 80 ∧ zwd S.1 (zL S.1 (S.1 87) k) (zL S.1 (S.1 87) (k + 1) + 1) ≤ S.1 81) ⟨he, f⟩] at nx
            refine eL_lines_168 hC ?_
            refine eL_lines_169 hC ?_
            refine eL_lines_171 hC ?_
            refine eL_lines_172 hC ?_
            rw [nI_sub (by omega)]
            refine eL_lines_173 hC (Nat.le_of_ble_eq_true rfl) (by omega) (by omega) (vL_ends hC.nt hB.x (by omega)) (zk_a hB (fun K_173 μ_173 hB => ?_))
            refine eL_lines_176 hC ?_
            refine eL_lines_178 hC ?_
            refine eL_lines_179 hC ?_
            refine eL_lines_181 hC ?_
            refine eL_lines_182 hC ?_
            rw [nI_sub (by omega)]
            refine eL_lines_183 hC (Nat.le_of_ble_eq_true rfl) (by omega) (by omega) (vL_reason hC.nt hB.x (zo_reason (by omega) hok)) (zk_a hB (fun K_183 μ_183 hB => ?_))
            refine eL_lines_186 hC ?_
            refine eL_lines_188 hC ?_
            refine eL_lines_190 hC ?_
            refine eL_lines_191 hC (fun zz => absurd zz (nI_ge he (by omega))) (fun _ => ?_)
            refine eL_lines_194 hC ?_
            refine eL_lines_196 hC ?_
            refine eL_lines_197 hC ?_
            refine eL_lines_198 hC (hB.i hI) (vp_in_nI (by omega) (by omega)) ?_
            rw [nI_clamp (by omega), hB.g ha, hg1]
            refine eL_lines_199 hC ?_
            refine eL_lines_200 hC ?_
            refine eL_lines_201 hC ?_
            refine eL_lines_203 hC (Nat.le_of_ble_eq_true rfl) (by omega) (by omega) (vL_wordWidth hC.nt hB.x (zo_wordWidth (by omega) hok)) (zk_a hB (fun K_203 μ_203 hB => ?_))
            refine eL_lines_206 hC ?_
            rw [nI_add, nI_add, hsn]
            refine eL_lines_207 hC ?_
            refine eL_lines_208 hC ?_
            refine eL_lines_209 hC (hB.i hI) (vp_in_nI (by omega) (by omega)) ?_
            rw [nI_clamp (by omega), hB.g ha, hg0]
            refine eL_lines_210 hC (fun zz => absurd zz (nI_nlt f (by omega))) (fun _ => ?_)
            refine eL_lines_213 hC ?_
            refine eL_lines_214 hC ?_
            refine eL_lines_218 hC ?_
            exact nx _ _ _ _ (by omega) (by omega) hB
          · rw [zBv_f (p := zL S.1 (S.1 87) (k + 1) < S.1 80 ∧ zwd S.1 (zL S.1 (S.1 87) k) (zL S.1 (S.1 87) (k + 1) + 1) ≤ S.1 81) (fun q => f q.2)] at nx
            refine eL_lines_168 hC ?_
            refine eL_lines_169 hC ?_
            refine eL_lines_171 hC ?_
            refine eL_lines_172 hC ?_
            rw [nI_sub (by omega)]
            refine eL_lines_173 hC (Nat.le_of_ble_eq_true rfl) (by omega) (by omega) (vL_ends hC.nt hB.x (by omega)) (zk_a hB (fun K_173 μ_173 hB => ?_))
            refine eL_lines_176 hC ?_
            refine eL_lines_178 hC ?_
            refine eL_lines_179 hC ?_
            refine eL_lines_181 hC ?_
            refine eL_lines_182 hC ?_
            rw [nI_sub (by omega)]
            refine eL_lines_183 hC (Nat.le_of_ble_eq_true rfl) (by omega) (by omega) (vL_reason hC.nt hB.x (zo_reason (by omega) hok)) (zk_a hB (fun K_183 μ_183 hB => ?_))
            refine eL_lines_186 hC ?_
            refine eL_lines_188 hC ?_
            refine eL_lines_190 hC ?_
            refine eL_lines_191 hC (fun zz => absurd zz (nI_ge he (by omega))) (fun _ => ?_)
            refine eL_lines_194 hC ?_
            refine eL_lines_196 hC ?_
            refine eL_lines_197 hC ?_
            refine eL_lines_198 hC (hB.i hI) (vp_in_nI (by omega) (by omega)) ?_
            rw [nI_clamp (by omega), hB.g ha, hg1]
            refine eL_lines_199 hC ?_
            refine eL_lines_200 hC ?_
            refine eL_lines_201 hC ?_
            refine eL_lines_203 hC (Nat.le_of_ble_eq_true rfl) (by omega) (by omega) (vL_wordWidth hC.nt hB.x (zo_wordWidth (by omega) hok)) (zk_a hB (fun K_203 μ_203 hB => ?_))
            refine eL_lines_206 hC ?_
            rw [nI_add, nI_add, hsn]
            refine eL_lines_207 hC ?_
            refine eL_lines_208 hC ?_
            refine eL_lines_209 hC (hB.i hI) (vp_in_nI (by omega) (by omega)) ?_
            rw [nI_clamp (by omega), hB.g ha, hg0]
            refine eL_lines_210 hC (fun _ => ?_) (fun zz => absurd (nI_lt (by omega) (by omega)) zz)
            refine eL_lines_217 hC ?_
            refine eL_lines_218 hC ?_
            exact nx _ _ _ _ (by omega) (by omega) hB
        · rw [zBv_f (p := zL S.1 (S.1 87) (k + 1) < S.1 80 ∧ zwd S.1 (zL S.1 (S.1 87) k) (zL S.1 (S.1 87) (k + 1) + 1) ≤ S.1 81) (fun q => he q.1)] at nx
          refine eL_lines_168 hC ?_
          refine eL_lines_169 hC ?_
          refine eL_lines_171 hC ?_
          refine eL_lines_172 hC ?_
          rw [nI_sub (by omega)]
          refine eL_lines_173 hC (Nat.le_of_ble_eq_true rfl) (by omega) (by omega) (vL_ends hC.nt hB.x (by omega)) (zk_a hB (fun K_173 μ_173 hB => ?_))
          refine eL_lines_176 hC ?_
          refine eL_lines_178 hC ?_
          refine eL_lines_179 hC ?_
          refine eL_lines_181 hC ?_
          refine eL_lines_182 hC ?_
          rw [nI_sub (by omega)]
          refine eL_lines_183 hC (Nat.le_of_ble_eq_true rfl) (by omega) (by omega) (vL_reason hC.nt hB.x (zo_reason (by omega) hok)) (zk_a hB (fun K_183 μ_183 hB => ?_))
          refine eL_lines_186 hC ?_
          refine eL_lines_188 hC ?_
          refine eL_lines_190 hC ?_
          refine eL_lines_191 hC (fun _ => ?_) (fun zz => absurd (nI_le (by omega) (by omega)) zz)
          refine eL_lines_217 hC ?_
          refine eL_lines_218 hC ?_
          exact nx _ _ _ _ (by omega) (by omega) hB
      -- the words of the line
      have inner : ∀ (d w cs sl : Nat) (K1 : zK) (μ1 : zF) (x12 x13 x14 x15 x16 x17 : Option Value), w + d = zL S.1 (S.1 87) (k + 1) → zL S.1 (S.1 87) k ≤ w → cs ≤ 10 * k + 1 + 6 * w → sl ≤ 60 * k + 6 + 36 * w → zBd K μ K1 μ1 x S → zV q cs sl 56 [some (.ref x), some (.ref a), some (.int (nI (S.1 80))), some (.int (nI (zm S.1 (S.1 87)))), some (.int (nI (zLc S.1 (S.1 87) k))), some (.int (nI (zct (fun j => zsa S.1 (S.1 87) j ≠ 1) k))), some (.int (nI (zct (zpe S.1) (zL S.1 (S.1 87) k)))), some (.int (nI w)), some (.int (zBv (zps S.1 (zL S.1 (S.1 87) k)))), some (.int (nI k)), some (.int (zsu S.1 (zL S.1 (S.1 87) k) w)), some (.int (zBv (w < zL S.1 (S.1 87) (k + 1)))), x12, x13, x14, x15, x16, x17] [] K1 μ1 := by
        intro d
        induction d with
        | zero =>
          intro w cs sl K1 μ1 x12 x13 x14 x15 x16 x17 hw hwk hcs hsl hB
          have hw : w = zL S.1 (S.1 87) (k + 1) := by omega
          rw [zBv_f (p := w < zL S.1 (S.1 87) (k + 1)) (by omega), zsu_e (by omega), hw]
          rw [hw] at hcs hsl
          refine eL_lines_56 hC ?_
          refine eL_lines_58 hC (fun _ => ?_) (fun zz => absurd zn00 zz)
          exact c168 _ _ _ _ x12 x13 x14 x15 x16 x17 (nI 0) hcs hsl hB
        | succ d ih2 =>
          intro w cs sl K1 μ1 x12 x13 x14 x15 x16 x17 hw hwk hcs hsl hB
          have hwl : w < zL S.1 (S.1 87) (k + 1) := by omega
          have c95 : ∀ (cs sl : Nat) (K1 : zK) (μ1 : zF), cs ≤ 10 * k + 1 + 6 * w + 2 → sl ≤ 60 * k + 6 + 36 * w + 12 → zBd K μ K1 μ1 x S → zV q cs sl 95 [some (.ref x), some (.ref a), some (.int (nI (S.1 80))), some (.int (nI (zm S.1 (S.1 87)))), some (.int (nI (zLc S.1 (S.1 87) k))), some (.int (nI (zct (fun j => zsa S.1 (S.1 87) j ≠ 1) k))), some (.int (nI (zct (zpe S.1) (zL S.1 (S.1 87) k)))), some (.int (nI w)), some (.int (zBv (zps S.1 (zL S.1 (S.1 87) k)))), some (.int (nI k)), some (.int (zsu S.1 (zL S.1 (S.1 87) k) (w + 1))), some (.int (nI 1)), x12, x13, x14, x15, x16, x17] [] K1 μ1 := by
            intro cs sl K1 μ1 hcs hsl hB
            have nx := fun cs sl K1 μ1 => ih2 (w + 1) cs sl K1 μ1 x12 x13 x14 x15 x16 x17 (by omega) (by omega)
            by_cases c : w + 1 < zL S.1 (S.1 87) (k + 1)
            · rw [zBv_t c] at nx
              refine eL_lines_95 hC ?_
              refine eL_lines_97 hC ?_
              refine eL_lines_98 hC ?_
              refine eL_lines_99 hC ?_
              rw [nI_sub (by omega)]
              refine eL_lines_100 hC (fun zz => absurd zz (nI_ge (by omega) (by omega))) (fun _ => ?_)
              refine eL_lines_103 hC ?_
              refine eL_lines_104 hC ?_
              refine eL_lines_106 hC ?_
              refine eL_lines_107 hC ?_
              rw [nI_add]
              refine eL_lines_108 hC (Nat.le_of_ble_eq_true rfl) (by omega) (by omega) (vL_lineOf hC.nt hB.x (zo_lineOf (by omega) hok)) (zk_a hB (fun K_108 μ_108 hB => ?_))
              refine eL_lines_111 hC ?_
              refine eL_lines_113 hC (fun zz => absurd (by rw [zln_lo hkm (by omega) (by omega)]) zz) (fun _ => ?_)
              refine eL_lines_116 hC ?_
              refine eL_lines_117 hC ?_
              refine eL_lines_121 hC ?_
              refine eL_lines_123 hC ?_
              refine eL_lines_125 hC (fun zz => absurd zz zn10) (fun _ => ?_)
              refine eL_lines_128 hC ?_
              refine eL_lines_129 hC ?_
              refine eL_lines_131 hC (Nat.le_of_ble_eq_true rfl) (by omega) (by omega) (vL_mark hC.nt hB.x (zo_mark (by omega) hok)) (zk_a hB (fun K_131 μ_131 hB => ?_))
              refine eL_lines_134 hC (fun zz => absurd (by rw [zln_mark hkm hwk c]; rfl) zz) (fun _ => ?_)
              refine eL_lines_137 hC ?_
              refine eL_lines_138 hC ?_
              refine eL_lines_140 hC (Nat.le_of_ble_eq_true rfl) (by omega) (by omega) (vL_reason hC.nt hB.x (zo_reason (by omega) hok)) (zk_a hB (fun K_140 μ_140 hB => ?_))
              refine eL_lines_143 hC (fun zz => absurd (by rw [zln_re0 hkm hwk c]; rfl) zz) (fun _ => ?_)
              refine eL_lines_146 hC ?_
              refine eL_lines_148 hC (fun _ => ?_) (fun zz => absurd zz zn10)
              refine eL_lines_162 hC ?_
              rw [nI_add]
              refine eL_lines_165 hC ?_
              exact nx _ _ _ _ (by omega) (by omega) hB
            · have he : w + 1 = zL S.1 (S.1 87) (k + 1) := by omega
              obtain ⟨r1, r2⟩ := zln_re1 hkm he
              rw [zBv_f c] at nx
              by_cases d2 : zL S.1 (S.1 87) (k + 1) < S.1 80
              · have hk1 := zm_iff.mpr d2
                have hlo := zln_lo hk1 (w := w + 1) (by omega) (by rw [he]; exact (zln_b hk1).2.1)
                refine eL_lines_95 hC ?_
                refine eL_lines_97 hC ?_
                refine eL_lines_98 hC ?_
                refine eL_lines_99 hC ?_
                rw [nI_sub (by omega)]
                refine eL_lines_100 hC (fun zz => absurd zz (nI_ge (by omega) (by omega))) (fun _ => ?_)
                refine eL_lines_103 hC ?_
                refine eL_lines_104 hC ?_
                refine eL_lines_106 hC ?_
                refine eL_lines_107 hC ?_
                rw [nI_add]
                refine eL_lines_108 hC (Nat.le_of_ble_eq_true rfl) (by omega) (by omega) (vL_lineOf hC.nt hB.x (zo_lineOf (by omega) hok)) (zk_a hB (fun K_108 μ_108 hB => ?_))
                refine eL_lines_111 hC ?_
                refine eL_lines_113 hC (fun _ => ?_) (fun zz => absurd zz (by rw [hlo]; exact nI_inj_ne (by omega) (by omega) (by omega)))
                refine eL_lines_120 hC ?_
                refine eL_lines_121 hC ?_
                refine eL_lines_123 hC ?_
                refine eL_lines_125 hC (fun _ => ?_) (fun zz => absurd zn00 zz)
                refine eL_lines_146 hC ?_
                refine eL_lines_148 hC (fun zz => absurd zn00 zz) (fun _ => ?_)
                refine eL_lines_151 hC ?_
                refine eL_lines_152 hC ?_
                refine eL_lines_154 hC (Nat.le_of_ble_eq_true rfl) (by omega) (by omega) (vL_reason hC.nt hB.x (zo_reason (by omega) hok)) (zk_a hB (fun K_154 μ_154 hB => ?_))
                refine eL_lines_157 hC (fun _ => ?_) (fun zz => absurd zz (nI_ne0 (by omega) (by omega)))
                refine eL_lines_162 hC ?_
                rw [nI_add]
                refine eL_lines_165 hC ?_
                exact nx _ _ _ _ (by omega) (by omega) hB
              · refine eL_lines_95 hC ?_
                refine eL_lines_97 hC ?_
                refine eL_lines_98 hC ?_
                refine eL_lines_99 hC ?_
                rw [nI_sub (by omega)]
                refine eL_lines_100 hC (fun _ => ?_) (fun zz => absurd (nI_le (by omega) (by omega)) zz)
                refine eL_lines_120 hC ?_
                refine eL_lines_121 hC ?_
                refine eL_lines_123 hC ?_
                refine eL_lines_125 hC (fun _ => ?_) (fun zz => absurd zn00 zz)
                refine eL_lines_146 hC ?_
                refine eL_lines_148 hC (fun zz => absurd zn00 zz) (fun _ => ?_)
                refine eL_lines_151 hC ?_
                refine eL_lines_152 hC ?_
                refine eL_lines_154 hC (Nat.le_of_ble_eq_true rfl) (by omega) (by omega) (vL_reason hC.nt hB.x (zo_reason (by omega) hok)) (zk_a hB (fun K_154 μ_154 hB => ?_))
                refine eL_lines_157 hC (fun _ => ?_) (fun zz => absurd zz (nI_ne0 (by omega) (by omega)))
                refine eL_lines_162 hC ?_
                rw [nI_add]
                refine eL_lines_165 hC ?_
                exact nx _ _ _ _ (by omega) (by omega) hB
          rw [zBv_t hwl]
          refine eL_lines_56 hC ?_
          refine eL_lines_58 hC (fun zz => absurd zz zn10) (fun _ => ?_)
          refine eL_lines_61 hC ?_
          refine eL_lines_63 hC ?_
          refine eL_lines_64 hC (fun zz => absurd zz (nI_ge (by omega) (by omega))) (fun _ => ?_)
          refine eL_lines_67 hC ?_
          refine eL_lines_68 hC ?_
          refine eL_lines_70 hC (Nat.le_of_ble_eq_true rfl) (by omega) (by omega) (vL_lineOf hC.nt hB.x (zo_lineOf (by omega) hok)) (zk_a hB (fun K_70 μ_70 hB => ?_))
          refine eL_lines_73 hC ?_
          refine eL_lines_75 hC (fun _ => ?_) (fun zz => absurd (by rw [zln_lo hkm hwk hwl]) zz)
          refine eL_lines_80 hC ?_
          refine eL_lines_82 hC ?_
          refine eL_lines_83 hC ?_
          refine eL_lines_84 hC (hB.i hI) (vp_in_nI (by omega) (by omega)) ?_
          rw [nI_clamp (by omega), hB.g ha, hg1]
          refine eL_lines_85 hC ?_
          refine eL_lines_86 hC ?_
          refine eL_lines_88 hC (Nat.le_of_ble_eq_true rfl) (by omega) (by omega) (vL_wordWidth hC.nt hB.x (zo_wordWidth (by omega) hok)) (zk_a hB (fun K_88 μ_88 hB => ?_))
          refine eL_lines_91 hC ?_
          refine eL_lines_92 hC ?_
          rw [zsu_step hwk]
          refine eL_lines_93 hC ?_
          exact c95 _ _ _ _ (by omega) (by omega) hB
      have e0 : zsu S.1 (zL S.1 (S.1 87) k) (zL S.1 (S.1 87) k) = -(nI (S.1 82)) := if_pos (Nat.le_refl _)
      have nx := fun cs sl K1 μ1 => inner (zL S.1 (S.1 87) (k + 1) - zL S.1 (S.1 87) k) (zL S.1 (S.1 87) k) cs sl K1 μ1 x12 x13 x14 x15 x16 x17 (by omega) (Nat.le_refl _)
      rw [zBv_t a2, e0] at nx
      refine eL_lines_28 hC ?_
      refine eL_lines_30 hC ?_
      refine eL_lines_31 hC (fun zz => absurd zz (nI_ge hkm (by omega))) (fun _ => ?_)
      refine eL_lines_34 hC ?_
      refine eL_lines_35 hC ?_
      refine eL_lines_36 hC (hB.i hI) (vp_in_nI (by omega) (by omega)) ?_
      rw [nI_clamp (by omega), hB.g ha, hg1]
      refine eL_lines_37 hC ?_
      refine eL_lines_38 hC ?_
      refine eL_lines_40 hC ?_
      refine eL_lines_41 hC ?_
      refine eL_lines_43 hC (Nat.le_of_ble_eq_true rfl) (by omega) (by omega) (vL_firstWord hC.nt hB.x (zo_firstWord (by omega) hok)) (zk_a hB (fun K_43 μ_43 hB => ?_))
      refine eL_lines_46 hC ?_
      refine eL_lines_48 hC (fun _ => ?_) (fun zz => absurd rfl zz)
      refine eL_lines_53 hC ?_
      refine eL_lines_54 hC ?_
      exact nx _ _ _ _ (by omega) (by omega) hB
  have nx := fun cs sl K1 μ1 => outer (zm S.1 (S.1 87)) 0 cs sl K1 μ1 none none none none none none none none (by omega)
  rw [zBv_t (p := zps S.1 (zL S.1 (S.1 87) 0)) (Or.inl rfl)] at nx
  refine eL_lines_0 hC ?_
  refine eL_lines_1 hC (Nat.le_of_ble_eq_true rfl) (by omega) (by omega) hB.o (vX8_words hC.nt hB.x) (zk_q hB rfl (fun K_1 μ_1 hB => ?_))
  refine eL_lines_4 hC ?_
  refine eL_lines_5 hC ?_
  refine eL_lines_6 hC (Nat.le_of_ble_eq_true rfl) (by omega) (by omega) hB.o (vX8_lines hC.nt hB.x) (zk_q hB rfl (fun K_6 μ_6 hB => ?_))
  refine eL_lines_9 hC ?_
  refine eL_lines_10 hC ?_
  refine eL_lines_11 hC ?_
  refine eL_lines_13 hC ?_
  refine eL_lines_14 hC ?_
  refine eL_lines_16 hC ?_
  refine eL_lines_17 hC ?_
  refine eL_lines_19 hC ?_
  refine eL_lines_20 hC ?_
  refine eL_lines_22 hC ?_
  refine eL_lines_23 hC ?_
  refine eL_lines_25 hC ?_
  refine eL_lines_26 hC ?_
  exact nx _ _ _ _ (by omega) (by omega) hB
