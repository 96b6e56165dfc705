/-! ===== the law: its loop ===== -/
theorem zRv.hi {K : zK} {μ μ' : zF} {x lo hi : Nat} {s : Nat → Nat} {S : zMs} (h : zRv μ x s S) (hR : zRag K x s) (ha : zAg μ μ' lo hi) (hd : x + 89 ≤ lo) : zRv μ' x s S := by
  obtain ⟨⟨a1, a2, a3, a4, a5⟩, h2⟩ := h
  obtain ⟨h0, h1, h2', h3, h4, h5, h6, h7, h8, h9, h10, h11, h12, h13, h14⟩ := hR
  refine ⟨⟨a1.ag ha (by omega), a2.ag ha (by omega), a3.ag h14 ha (by omega), by rw [ha _ _ (by omega)]; exact a4, by rw [ha _ _ (by omega)]; exact a5⟩, ?_⟩
  rcases h2 with h2 | h2
  · exact Or.inl (by rw [ha _ _ (by omega)]; exact h2)
  · exact Or.inr (h2.ag ha (by omega))
theorem zX8.ag {K : zK} {μ μ' : zF} {x lo hi : Nat} {S : zMs} (h : zX8 K μ x S) (ha : zAg μ μ' lo hi) (hd : x + 89 ≤ lo) : zX8 K μ' x S := by
  obtain ⟨s, hR, hv, ho⟩ := h
  exact ⟨s, hR, hv.hi hR ha hd, ho⟩
theorem zGa.bd {K K1 : zK} {μ μ1 : zF} {x a : Nat} {τ : Nat → Nat} {S : zMs} (h : zGa K μ a τ) (hB : zBd K μ K1 μ1 x S) (ha : x + 89 ≤ a) : zGa K1 μ1 a τ := by
  obtain ⟨h0, h1, h2, h3, h4, h5, h6⟩ := h
  exact ⟨hB.i h0, by rw [hB.g ha]; exact h1, by rw [hB.g ha]; exact h2, by rw [hB.g ha]; exact h3, by rw [hB.g ha]; exact h4, by rw [hB.g ha]; exact h5, by rw [hB.g ha]; exact h6⟩
theorem zk_p {z : zX} {c1 s1 p1 : Nat} {ls : List (Option Value)} {rest : List Value} {K : zK} {μ : zF} (kk : ∀ r : Int32, zV z c1 s1 p1 ls (.int r :: rest) K μ) : ∀ (v : Option Value) (K1 : zK) (μ1 : zF), zPa K μ v K1 μ1 → zV z c1 s1 p1 ls (v.toList ++ rest) K1 μ1 := by
  rintro v K1 μ1 ⟨r, rfl, rfl, rfl⟩
  exact kk r
theorem zAd_insert {S : zMs} {k v : Nat} {y : Int32} (hk : k < 2 ^ 31) (h1 : 1 ≤ v) (h2 : v ≤ 30) (ho : zMok S) : ∃ (r : Int32) (S' : zMs), zot zcIAS (zdo_insert (nI k) (nI v) S) S = (r, S') ∧ zAd 0 y S r S' := by
  have := ho.1.1
  by_cases c : k < S.1 80 + 1
  · by_cases d : S.1 80 < 40
    · exact ⟨_, _, zo_insert c h1 h2 d, zAd_ins (Or.inl (by omega)) (by omega)⟩
    · exact ⟨_, _, zo_insertX c h1 h2 (by omega) ho, zAd_no (Or.inl (by omega)) (by decide)⟩
  · refine ⟨-1000001, S, ?_, zAd_no (Or.inl (by omega)) (by decide)⟩
    unfold zdo_insert
    rw [zix_no (by omega) hk]
    show (zcIAS zxI, S) = _
    rw [show zcIAS zxI = -1000001 by decide +kernel]
theorem zAd_81 {j : Nat} {y r : Int32} {S S' : zMs} (h : zAd j y S r S') : (0 < r → j = 8 → S'.1 81 = 30 + zqw y 71) ∧ (¬ (0 < r ∧ j = 8) → S'.1 81 = S.1 81) := by
  rcases h with ⟨h0, rfl, h1⟩ | ⟨h0, σ, rfl, h2, h3⟩
  · exact ⟨fun q => absurd q (Int32.not_lt.mpr (Int32.le_of_lt h0)), fun _ => rfl⟩
  · refine ⟨fun _ q => ?_, fun q => ?_⟩
    · show σ 81 = _
      rw [h2.1, if_pos q]
    · show σ 81 = _
      rw [h2.1, if_neg (fun z => q ⟨h3 (by omega) (by omega), z⟩)]
theorem zAd_82 {j : Nat} {y r : Int32} {S S' : zMs} (h : zAd j y S r S') : (0 < r → j = 9 → S'.1 82 = 1 + zqw y 5) ∧ (¬ (0 < r ∧ j = 9) → S'.1 82 = S.1 82) := by
  rcases h with ⟨h0, rfl, h1⟩ | ⟨h0, σ, rfl, h2, h3⟩
  · exact ⟨fun q => absurd q (Int32.not_lt.mpr (Int32.le_of_lt h0)), fun _ => rfl⟩
  · refine ⟨fun _ q => ?_, fun q => ?_⟩
    · show σ 82 = _
      rw [h2.2.1, if_pos q]
    · show σ 82 = _
      rw [h2.2.1, if_neg (fun z => q ⟨h3 (by omega) (by omega), z⟩)]
theorem zAd_83 {j : Nat} {y r : Int32} {S S' : zMs} (h : zAd j y S r S') : (0 < r → j = 10 → S'.1 83 = 1 + zqw y 9) ∧ (¬ (0 < r ∧ j = 10) → S'.1 83 = S.1 83) := by
  rcases h with ⟨h0, rfl, h1⟩ | ⟨h0, σ, rfl, h2, h3⟩
  · exact ⟨fun q => absurd q (Int32.not_lt.mpr (Int32.le_of_lt h0)), fun _ => rfl⟩
  · refine ⟨fun _ q => ?_, fun q => ?_⟩
    · show σ 83 = _
      rw [h2.2.2.1, if_pos q]
    · show σ 83 = _
      rw [h2.2.2.1, if_neg (fun z => q ⟨h3 (by omega) (by omega), z⟩)]
theorem zAd_84 {j : Nat} {y r : Int32} {S S' : zMs} (h : zAd j y S r S') : (0 < r → j = 10 → S'.1 84 = zqw (y >>> (nI 4 &&& 31)) 1200) ∧ (¬ (0 < r ∧ j = 10) → S'.1 84 = S.1 84) := by
  rcases h with ⟨h0, rfl, h1⟩ | ⟨h0, σ, rfl, h2, h3⟩
  · exact ⟨fun q => absurd q (Int32.not_lt.mpr (Int32.le_of_lt h0)), fun _ => rfl⟩
  · refine ⟨fun _ q => ?_, fun q => ?_⟩
    · show σ 84 = _
      rw [h2.2.2.2.1, if_pos q]
    · show σ 84 = _
      rw [h2.2.2.2.1, if_neg (fun z => q ⟨h3 (by omega) (by omega), z⟩)]
theorem zAd_85 {j : Nat} {y r : Int32} {S S' : zMs} (h : zAd j y S r S') : (0 < r → j = 10 → S'.1 85 = zqw (y >>> (nI 6 &&& 31)) 1200) ∧ (¬ (0 < r ∧ j = 10) → S'.1 85 = S.1 85) := by
  rcases h with ⟨h0, rfl, h1⟩ | ⟨h0, σ, rfl, h2, h3⟩
  · exact ⟨fun q => absurd q (Int32.not_lt.mpr (Int32.le_of_lt h0)), fun _ => rfl⟩
  · refine ⟨fun _ q => ?_, fun q => ?_⟩
    · show σ 85 = _
      rw [h2.2.2.2.2.1, if_pos q]
    · show σ 85 = _
      rw [h2.2.2.2.2.1, if_neg (fun z => q ⟨h3 (by omega) (by omega), z⟩)]
theorem zAd_86 {j : Nat} {y r : Int32} {S S' : zMs} (h : zAd j y S r S') : (0 < r → j = 11 → S'.1 86 = 2 + zqw y 8) ∧ (¬ (0 < r ∧ j = 11) → S'.1 86 = S.1 86) := by
  rcases h with ⟨h0, rfl, h1⟩ | ⟨h0, σ, rfl, h2, h3⟩
  · exact ⟨fun q => absurd q (Int32.not_lt.mpr (Int32.le_of_lt h0)), fun _ => rfl⟩
  · refine ⟨fun _ q => ?_, fun q => ?_⟩
    · show σ 86 = _
      rw [h2.2.2.2.2.2, if_pos q]
    · show σ 86 = _
      rw [h2.2.2.2.2.2, if_neg (fun z => q ⟨h3 (by omega) (by omega), z⟩)]
section ZLAW
variable {q : zX} {MC MS b L X : Nat} {f : Nat → Int32}
set_option maxRecDepth 100000 in
set_option maxHeartbeats 8000000 in
theorem zLaw (hC : hL_law q MC MS) (hs : zScr q b L f) (hMC : 90000 ≤ MC) (hMS : 560000 ≤ MS) (hend : ∀ (cs sl : Nat) (ls : List (Option Value)) (K : zK) (μ : zF), cs ≤ MC → sl ≤ MS → zV q cs sl 493 ls [.int (nI 1)] K μ) : ∀ (d k cs sl : Nat) (K1 : zK) (μ1 : zF) (S1 : zMs) (x5 x6 x7 x8 x9 x10 x11 : Option Value), k + d = 40 → cs ≤ 1000 + 2200 * k + 0 → sl ≤ 17000 + 13200 * k + 0 → zX8 K1 μ1 X S1 → zGa K1 μ1 (X + 89) S1.1 → zV q cs sl 68 [some (.ref b), some (.ref X), some (.ref (X + 89)), some (.int (nI 1)), some (.int (nI k)), x5, x6, x7, x8, x9, x10, x11] [] K1 μ1 := by
  intro d
  induction d with
  | zero =>
    intro k cs sl K μ S x5 x6 x7 x8 x9 x10 x11 hk hcs hsl hX hG
    refine eL_law_68 hC ?_
    refine eL_law_70 hC ?_
    refine eL_law_72 hC (fun _ => ?_) (fun zz => absurd (nI_le (by omega) (by omega)) zz)
    refine eL_law_492 hC ?_
    exact hend _ _ _ _ _ (by omega) (by omega)
  | succ d ih =>
    intro k cs0 sl0 K μ S y5 y6 y7 y8 y9 y10 y11 hk hcs0 hsl0 hX hG
    have hok := hX.k
    have o1 := hok.1.1
    -- the next round
    have c480 : ∀ (cs sl : Nat) (K1 : zK) (μ1 : zF) (S1 : zMs) (v5 v6 : Int32) (x7 x8 x9 x10 x11 : Option Value), cs ≤ 1000 + 2200 * k + 2133 → sl ≤ 17000 + 13200 * k + 12798 → zX8 K1 μ1 X S1 → zGa K1 μ1 (X + 89) S1.1 → zV q cs sl 480 [some (.ref b), some (.ref X), some (.ref (X + 89)), some (.int (nI 1)), some (.int (nI k)), some (.int v5), some (.int v6), x7, x8, x9, x10, x11] [] K1 μ1 := by
      intro cs sl K1 μ1 S1 v5 v6 x7 x8 x9 x10 x11 hcs hsl hX hG
      have nx := fun cs sl => ih (k + 1) cs sl K1 μ1 S1 (some (.int v5)) (some (.int v6)) x7 x8 x9 x10 x11 (by omega)
      refine eL_law_480 hC ?_
      refine eL_law_481 hC ?_
      refine eL_law_485 hC ?_
      refine eL_law_486 hC ?_
      refine eL_law_489 hC ?_
      rw [nI_add]
      exact nx _ _ (by omega) (by omega) hX hG
    -- a mark
    have c444 : ∀ (cs sl : Nat) (K1 : zK) (μ1 : zF) (S1 : zMs) (v5 v6 : Int32) (x7 x8 x9 x10 x11 : Option Value), cs ≤ 1000 + 2200 * k + 1733 → sl ≤ 17000 + 13200 * k + 10398 → zX8 K1 μ1 X S1 → zGa K1 μ1 (X + 89) S1.1 → zV q cs sl 444 [some (.ref b), some (.ref X), some (.ref (X + 89)), some (.int (nI 1)), some (.int (nI k)), some (.int v5), some (.int v6), x7, x8, x9, x10, x11] [] K1 μ1 := by
      intro cs sl K1 μ1 S1 v5 v6 x7 x8 x9 x10 x11 hcs hsl hX hG
      have hok1 := hX.k
      have o11 := hok1.1.1
      have hB := zBd.rf hX
      have hw := zqw_lt (v6 >>> (nI 3 &&& 31)) (n := S1.1 80 + 1) (by omega)
      have hv := zqw_lt (v6 >>> (nI 9 &&& 31)) (n := 3) (by omega)
      by_cases c : k % 2 = 0
      · refine eL_law_444 hC ?_
        refine eL_law_446 hC ?_
        refine eL_law_447 hC (by decide) ?_
        rw [pk_rem (by omega) (by omega) (by omega), c]
        refine eL_law_448 hC (fun zz => absurd zz (by decide)) (fun _ => ?_)
        refine eL_law_451 hC ?_
        refine eL_law_452 hC ?_
        refine eL_law_454 hC ?_
        refine eL_law_455 hC ?_
        refine eL_law_456 hC ?_
        refine eL_law_457 hC (Nat.le_of_ble_eq_true rfl) (by omega) (by omega) hB.o (vX8_words hC.nt hB.x) (zk_q hB rfl (fun K_457 μ_457 hB => ?_))
        refine eL_law_460 hC ?_
        refine eL_law_461 hC ?_
        rw [nI_add]
        refine eL_law_462 hC (Nat.le_of_ble_eq_true rfl) (by omega) (by omega) (vL_low hC.nt (by omega) (by omega)) (zk_i ?_)
        refine eL_law_465 hC ?_
        refine eL_law_467 hC ?_
        refine eL_law_469 hC ?_
        refine eL_law_470 hC ?_
        refine eL_law_471 hC (Nat.le_of_ble_eq_true rfl) (by omega) (by omega) (vL_low hC.nt (by omega) (by omega)) (zk_i ?_)
        refine eL_law_474 hC (Nat.le_of_ble_eq_true rfl) (by omega) (by omega) (vL_marked hC.nt hB.x (by omega) (by omega)) (zk_e hB (fun S_474 K_474 μ_474 e_474 hB => ?_))
        refine eL_law_477 hC (fun zz => absurd zz zn10) (fun _ => ?_)
        exact c480 _ _ _ _ _ v5 v6 x7 x8 x9 x10 x11 (by omega) (by omega) hB.x (by rw [e_474]; exact hG.bd hB (Nat.le_refl _))
      · refine eL_law_444 hC ?_
        refine eL_law_446 hC ?_
        refine eL_law_447 hC (by decide) ?_
        rw [pk_rem (by omega) (by omega) (by omega)]
        refine eL_law_448 hC (fun _ => ?_) (fun zz => absurd (nI_pos1 (by omega) (by omega)) zz)
        exact c480 _ _ _ _ _ v5 v6 x7 x8 x9 x10 x11 (by omega) (by omega) hB.x hG
    -- lines, pages, columns
    have c405 : ∀ (cs sl : Nat) (K1 : zK) (μ1 : zF) (S1 : zMs) (v5 v6 : Int32) (x7 x8 x9 x10 x11 : Option Value), cs ≤ 1000 + 2200 * k + 343 → sl ≤ 17000 + 13200 * k + 2058 → zX8 K1 μ1 X S1 → zGa K1 μ1 (X + 89) S1.1 → zV q cs sl 405 [some (.ref b), some (.ref X), some (.ref (X + 89)), some (.int (nI 1)), some (.int (nI k)), some (.int v5), some (.int v6), x7, x8, x9, x10, x11] [] K1 μ1 := by
      intro cs sl K1 μ1 S1 v5 v6 x7 x8 x9 x10 x11 hcs hsl hX hG
      have hB := zBd.rf hX
      by_cases c : k % 3 = 0
      · refine eL_law_405 hC ?_
        refine eL_law_406 hC (fun zz => absurd zz zn10) (fun _ => ?_)
        refine eL_law_409 hC ?_
        refine eL_law_410 hC ?_
        refine eL_law_411 hC (Nat.le_of_ble_eq_true rfl) (by omega) (by omega) (vL_lines hC.nt hB.x (Nat.le_refl _) (hG.bd hB (Nat.le_refl _))) (zk_a hB (fun K_411 μ_411 hB => ?_))
        refine eL_law_414 hC (fun zz => absurd zz zn10) (fun _ => ?_)
        refine eL_law_417 hC ?_
        refine eL_law_418 hC ?_
        refine eL_law_419 hC (Nat.le_of_ble_eq_true rfl) (by omega) (by omega) (vL_pages hC.nt hB.x (Nat.le_refl _) (hG.bd hB (Nat.le_refl _))) (zk_a hB (fun K_419 μ_419 hB => ?_))
        refine eL_law_422 hC (fun zz => absurd zz zn10) (fun _ => ?_)
        refine eL_law_425 hC ?_
        refine eL_law_427 hC ?_
        refine eL_law_428 hC (by decide) ?_
        rw [pk_rem (by omega) (by omega) (by omega), c]
        refine eL_law_429 hC (fun zz => absurd zz (by decide)) (fun _ => ?_)
        refine eL_law_432 hC ?_
        refine eL_law_433 hC ?_
        refine eL_law_434 hC ?_
        refine eL_law_436 hC ?_
        refine eL_law_437 hC ?_
        refine eL_law_438 hC (Nat.le_of_ble_eq_true rfl) (by omega) (by omega) (vL_columns hC.nt hB.x (Nat.le_refl _) (hG.bd hB (Nat.le_refl _))) (zk_e hB (fun S_438 K_438 μ_438 e_438 hB => ?_))
        refine eL_law_441 hC (fun zz => absurd zz zn10) (fun _ => ?_)
        exact c444 _ _ _ _ _ v5 v6 x7 x8 x9 x10 x11 (by omega) (by omega) hB.x (by rw [e_438]; exact hG.bd hB (Nat.le_refl _))
      · refine eL_law_405 hC ?_
        refine eL_law_406 hC (fun zz => absurd zz zn10) (fun _ => ?_)
        refine eL_law_409 hC ?_
        refine eL_law_410 hC ?_
        refine eL_law_411 hC (Nat.le_of_ble_eq_true rfl) (by omega) (by omega) (vL_lines hC.nt hB.x (Nat.le_refl _) (hG.bd hB (Nat.le_refl _))) (zk_a hB (fun K_411 μ_411 hB => ?_))
        refine eL_law_414 hC (fun zz => absurd zz zn10) (fun _ => ?_)
        refine eL_law_417 hC ?_
        refine eL_law_418 hC ?_
        refine eL_law_419 hC (Nat.le_of_ble_eq_true rfl) (by omega) (by omega) (vL_pages hC.nt hB.x (Nat.le_refl _) (hG.bd hB (Nat.le_refl _))) (zk_a hB (fun K_419 μ_419 hB => ?_))
        refine eL_law_422 hC (fun zz => absurd zz zn10) (fun _ => ?_)
        refine eL_law_425 hC ?_
        refine eL_law_427 hC ?_
        refine eL_law_428 hC (by decide) ?_
        rw [pk_rem (by omega) (by omega) (by omega)]
        refine eL_law_429 hC (fun _ => ?_) (fun zz => absurd (nI_pos1 (by omega) (by omega)) zz)
        exact c444 _ _ _ _ _ v5 v6 x7 x8 x9 x10 x11 (by omega) (by omega) hB.x (hG.bd hB (Nat.le_refl _))
    -- what was saved
    have c344 : ∀ (cs sl : Nat) (K1 : zK) (μ1 : zF) (S1 : zMs) (v5 v6 r : Int32) (j : Nat), zAd j v6 S r S1 → cs ≤ 1000 + 2200 * k + 173 → sl ≤ 17000 + 13200 * k + 1038 → zX8 K1 μ1 X S1 → zGa K1 μ1 (X + 89) S1.1 → zV q cs sl 344 [some (.ref b), some (.ref X), some (.ref (X + 89)), some (.int (nI 1)), some (.int (nI k)), some (.int v5), some (.int v6), some (.int (nI j)), some (.int (nI S.2.1)), some (.long (zpr S.1)), none, some (.int r)] [] K1 μ1 := by
      intro cs sl K1 μ1 S1 v5 v6 r j hA hcs hsl hX hG1
      have h6 := hok.2.1
      have hB := zBd.rf hX
      rcases hA with ⟨h0, rfl, -⟩ | ⟨h0, σ, rfl, -, -⟩
      · refine eL_law_344 hC ?_
        refine eL_law_346 hC (fun zz => absurd zz (Int32.not_le.mpr h0)) (fun _ => ?_)
        refine eL_law_349 hC ?_
        refine eL_law_350 hC (Nat.le_of_ble_eq_true rfl) (by omega) (by omega) hB.o (vX8_savedStates hC.nt hB.x) (zk_q hB rfl (fun K_350 μ_350 hB => ?_))
        refine eL_law_353 hC ?_
        refine eL_law_355 hC (fun zz => absurd rfl zz) (fun _ => ?_)
        refine eL_law_358 hC ?_
        refine eL_law_359 hC (Nat.le_of_ble_eq_true rfl) (by omega) (by omega) (vL_print hC.nt hB.x) (zk_al hB (fun K_359 μ_359 hB => ?_))
        refine eL_law_362 hC ?_
        refine eL_law_364 hC ?_
        rw [lg_cmp_self]
        refine eL_law_365 hC (fun zz => absurd rfl zz) (fun _ => ?_)
        refine eL_law_368 hC ?_
        refine eL_law_369 hC ?_
        refine eL_law_404 hC ?_
        exact c405 _ _ _ _ _ v5 v6 _ _ _ _ _ (by omega) (by omega) hB.x (hG1.bd hB (Nat.le_refl _))
      · by_cases c : S.2.1 < 6
        · have e : nI (zcg S σ).2.1 = nI (S.2.1 + 1) := by
            rw [zcg_n]
            unfold zsvn
            rw [if_pos c]
          refine eL_law_344 hC ?_
          refine eL_law_346 hC (fun _ => ?_) (fun zz => absurd (Int32.not_lt.mp h0) zz)
          refine eL_law_376 hC ?_
          refine eL_law_377 hC (Nat.le_of_ble_eq_true rfl) (by omega) (by omega) hB.o (vX8_savedStates hC.nt hB.x) (zk_q hB rfl (fun K_377 μ_377 hB => ?_))
          refine eL_law_380 hC ?_
          refine eL_law_382 hC ?_
          refine eL_law_384 hC (fun zz => absurd zz (nI_ge c (by omega))) (fun _ => ?_)
          refine eL_law_387 hC ?_
          refine eL_law_389 hC ?_
          refine eL_law_390 hC ?_
          rw [nI_add]
          refine eL_law_391 hC ?_
          refine eL_law_396 hC (fun zz => absurd e zz) (fun _ => ?_)
          refine eL_law_399 hC ?_
          refine eL_law_400 hC ?_
          refine eL_law_404 hC ?_
          exact c405 _ _ _ _ _ v5 v6 _ _ _ _ _ (by omega) (by omega) hB.x (hG1.bd hB (Nat.le_refl _))
        · have e : nI (zcg S σ).2.1 = nI 6 := by
            rw [zcg_n]
            unfold zsvn
            rw [if_neg c]
          refine eL_law_344 hC ?_
          refine eL_law_346 hC (fun _ => ?_) (fun zz => absurd (Int32.not_lt.mp h0) zz)
          refine eL_law_376 hC ?_
          refine eL_law_377 hC (Nat.le_of_ble_eq_true rfl) (by omega) (by omega) hB.o (vX8_savedStates hC.nt hB.x) (zk_q hB rfl (fun K_377 μ_377 hB => ?_))
          refine eL_law_380 hC ?_
          refine eL_law_382 hC ?_
          refine eL_law_384 hC (fun _ => ?_) (fun zz => absurd (nI_le (by omega) (by omega)) zz)
          refine eL_law_394 hC ?_
          refine eL_law_396 hC (fun zz => absurd e zz) (fun _ => ?_)
          refine eL_law_399 hC ?_
          refine eL_law_400 hC ?_
          refine eL_law_404 hC ?_
          exact c405 _ _ _ _ _ v5 v6 _ _ _ _ _ (by omega) (by omega) hB.x (hG1.bd hB (Nat.le_refl _))
    have stA : ∀ (cs sl : Nat) (K1 : zK) (μ1 : zF) (S1 : zMs) (v5 v6 r : Int32) (j : Nat), zAd j v6 S r S1 → j < 13 → (k < 12 → j = 0) → cs ≤ 90000 → sl ≤ 560000 → zI K1 (X + 89) 10 6 → μ1 (X + 89) 0 = nI (S.1 81) → zV q cs sl 213 [some (.ref b), some (.ref X), some (.ref (X + 89)), some (.int (nI 1)), some (.int (nI k)), some (.int v5), some (.int v6), some (.int (nI j)), some (.int (nI S.2.1)), some (.long (zpr S.1)), none, some (.int r)] [] K1 (zup μ1 (X + 89) 0 (nI (S1.1 81))) → zV q cs sl 175 [some (.ref b), some (.ref X), some (.ref (X + 89)), some (.int (nI 1)), some (.int (nI k)), some (.int v5), some (.int v6), some (.int (nI j)), some (.int (nI S.2.1)), some (.long (zpr S.1)), none, some (.int r)] [] K1 μ1 := by
      intro cs sl K1 μ1 S1 v5 v6 r j hA hj hj0 hcs hsl hI g0 kk
      obtain ⟨a1, a2⟩ := zAd_81 hA
      by_cases hr : 0 < r
      · by_cases hj8 : j = 8
        · have e := a1 hr hj8
          rw [e] at kk
          have hk12 : 11 < k := by
            rcases Nat.lt_or_ge k 12 with z | z
            · have := hj0 z
              omega
            · omega
          refine eL_law_175 hC ?_
          refine eL_law_176 hC ?_
          refine eL_law_177 hC ?_
          refine eL_law_179 hC (fun zz => absurd zz (Int32.not_le.mpr hr)) (fun _ => ?_)
          refine eL_law_182 hC ?_
          refine eL_law_184 hC ?_
          refine eL_law_186 hC (fun zz => absurd (by rw [hj8]) zz) (fun _ => ?_)
          refine eL_law_189 hC ?_
          refine eL_law_191 hC ?_
          refine eL_law_193 hC (fun zz => absurd zz (nI_ge hk12 (by omega))) (fun _ => ?_)
          refine eL_law_196 hC ?_
          refine eL_law_198 hC ?_
          refine eL_law_200 hC ?_
          refine eL_law_202 hC (Nat.le_of_ble_eq_true rfl) (by omega) (by omega) (vL_low hC.nt (by omega) (by omega)) (zk_i ?_)
          refine eL_law_205 hC ?_
          rw [nI_add]
          refine eL_law_206 hC ?_
          refine eL_law_212 hC (by assumption) (vp_in_nI (by omega) (by omega)) ?_
          rw [nI_clamp (by omega)]
          exact kk
        · have e := a2 (fun z => hj8 z.2)
          rw [e] at kk
          refine eL_law_175 hC ?_
          refine eL_law_176 hC ?_
          refine eL_law_177 hC ?_
          refine eL_law_179 hC (fun zz => absurd zz (Int32.not_le.mpr hr)) (fun _ => ?_)
          refine eL_law_182 hC ?_
          refine eL_law_184 hC ?_
          refine eL_law_186 hC (fun _ => ?_) (fun zz => absurd zz (nI_inj_ne hj8 (by omega) (by omega)))
          refine eL_law_209 hC ?_
          refine eL_law_210 hC ?_
          refine eL_law_211 hC (by assumption) (vp_in_nI (by omega) (by omega)) ?_
          rw [nI_clamp (by omega), g0]
          refine eL_law_212 hC (by assumption) (vp_in_nI (by omega) (by omega)) ?_
          rw [nI_clamp (by omega)]
          exact kk
      · have e := a2 (fun z => hr z.1)
        rw [e] at kk
        refine eL_law_175 hC ?_
        refine eL_law_176 hC ?_
        refine eL_law_177 hC ?_
        refine eL_law_179 hC (fun _ => ?_) (fun zz => absurd (Int32.not_lt.mp hr) zz)
        refine eL_law_209 hC ?_
        refine eL_law_210 hC ?_
        refine eL_law_211 hC (by assumption) (vp_in_nI (by omega) (by omega)) ?_
        rw [nI_clamp (by omega), g0]
        refine eL_law_212 hC (by assumption) (vp_in_nI (by omega) (by omega)) ?_
        rw [nI_clamp (by omega)]
        exact kk
    have stB : ∀ (cs sl : Nat) (K1 : zK) (μ1 : zF) (S1 : zMs) (v5 v6 r : Int32) (j : Nat), zAd j v6 S r S1 → j < 13 → (k < 12 → j = 0) → cs ≤ 90000 → sl ≤ 560000 → zI K1 (X + 89) 10 6 → μ1 (X + 89) 1 = nI (S.1 82) → zV q cs sl 249 [some (.ref b), some (.ref X), some (.ref (X + 89)), some (.int (nI 1)), some (.int (nI k)), some (.int v5), some (.int v6), some (.int (nI j)), some (.int (nI S.2.1)), some (.long (zpr S.1)), none, some (.int r)] [] K1 (zup μ1 (X + 89) 1 (nI (S1.1 82))) → zV q cs sl 213 [some (.ref b), some (.ref X), some (.ref (X + 89)), some (.int (nI 1)), some (.int (nI k)), some (.int v5), some (.int v6), some (.int (nI j)), some (.int (nI S.2.1)), some (.long (zpr S.1)), none, some (.int r)] [] K1 μ1 := by
      intro cs sl K1 μ1 S1 v5 v6 r j hA hj hj0 hcs hsl hI g0 kk
      obtain ⟨a1, a2⟩ := zAd_82 hA
      by_cases hr : 0 < r
      · by_cases hj8 : j = 9
        · have e := a1 hr hj8
          rw [e] at kk
          have hk12 : 11 < k := by
            rcases Nat.lt_or_ge k 12 with z | z
            · have := hj0 z
              omega
            · omega
          refine eL_law_213 hC ?_
          refine eL_law_214 hC ?_
          refine eL_law_215 hC ?_
          refine eL_law_217 hC (fun zz => absurd zz (Int32.not_le.mpr hr)) (fun _ => ?_)
          refine eL_law_220 hC ?_
          refine eL_law_222 hC ?_
          refine eL_law_224 hC (fun zz => absurd (by rw [hj8]) zz) (fun _ => ?_)
          refine eL_law_227 hC ?_
          refine eL_law_229 hC ?_
          refine eL_law_231 hC (fun zz => absurd zz (nI_ge hk12 (by omega))) (fun _ => ?_)
          refine eL_law_234 hC ?_
          refine eL_law_235 hC ?_
          refine eL_law_237 hC ?_
          refine eL_law_238 hC (Nat.le_of_ble_eq_true rfl) (by omega) (by omega) (vL_low hC.nt (by omega) (by omega)) (zk_i ?_)
          refine eL_law_241 hC ?_
          rw [nI_add]
          refine eL_law_242 hC ?_
          refine eL_law_248 hC (by assumption) (vp_in_nI (by omega) (by omega)) ?_
          rw [nI_clamp (by omega)]
          exact kk
        · have e := a2 (fun z => hj8 z.2)
          rw [e] at kk
          refine eL_law_213 hC ?_
          refine eL_law_214 hC ?_
          refine eL_law_215 hC ?_
          refine eL_law_217 hC (fun zz => absurd zz (Int32.not_le.mpr hr)) (fun _ => ?_)
          refine eL_law_220 hC ?_
          refine eL_law_222 hC ?_
          refine eL_law_224 hC (fun _ => ?_) (fun zz => absurd zz (nI_inj_ne hj8 (by omega) (by omega)))
          refine eL_law_245 hC ?_
          refine eL_law_246 hC ?_
          refine eL_law_247 hC (by assumption) (vp_in_nI (by omega) (by omega)) ?_
          rw [nI_clamp (by omega), g0]
          refine eL_law_248 hC (by assumption) (vp_in_nI (by omega) (by omega)) ?_
          rw [nI_clamp (by omega)]
          exact kk
      · have e := a2 (fun z => hr z.1)
        rw [e] at kk
        refine eL_law_213 hC ?_
        refine eL_law_214 hC ?_
        refine eL_law_215 hC ?_
        refine eL_law_217 hC (fun _ => ?_) (fun zz => absurd (Int32.not_lt.mp hr) zz)
        refine eL_law_245 hC ?_
        refine eL_law_246 hC ?_
        refine eL_law_247 hC (by assumption) (vp_in_nI (by omega) (by omega)) ?_
        rw [nI_clamp (by omega), g0]
        refine eL_law_248 hC (by assumption) (vp_in_nI (by omega) (by omega)) ?_
        rw [nI_clamp (by omega)]
        exact kk
    have stC : ∀ (cs sl : Nat) (K1 : zK) (μ1 : zF) (S1 : zMs) (v5 v6 r : Int32) (j : Nat), zAd j v6 S r S1 → j < 13 → (k < 12 → j = 0) → cs ≤ 90000 → sl ≤ 560000 → zI K1 (X + 89) 10 6 → μ1 (X + 89) 5 = nI (S.1 86) → zV q cs sl 286 [some (.ref b), some (.ref X), some (.ref (X + 89)), some (.int (nI 1)), some (.int (nI k)), some (.int v5), some (.int v6), some (.int (nI j)), some (.int (nI S.2.1)), some (.long (zpr S.1)), none, some (.int r)] [] K1 (zup μ1 (X + 89) 5 (nI (S1.1 86))) → zV q cs sl 249 [some (.ref b), some (.ref X), some (.ref (X + 89)), some (.int (nI 1)), some (.int (nI k)), some (.int v5), some (.int v6), some (.int (nI j)), some (.int (nI S.2.1)), some (.long (zpr S.1)), none, some (.int r)] [] K1 μ1 := by
      intro cs sl K1 μ1 S1 v5 v6 r j hA hj hj0 hcs hsl hI g0 kk
      obtain ⟨a1, a2⟩ := zAd_86 hA
      by_cases hr : 0 < r
      · by_cases hj8 : j = 11
        · have e := a1 hr hj8
          rw [e] at kk
          have hk12 : 11 < k := by
            rcases Nat.lt_or_ge k 12 with z | z
            · have := hj0 z
              omega
            · omega
          refine eL_law_249 hC ?_
          refine eL_law_250 hC ?_
          refine eL_law_251 hC ?_
          refine eL_law_253 hC (fun zz => absurd zz (Int32.not_le.mpr hr)) (fun _ => ?_)
          refine eL_law_256 hC ?_
          refine eL_law_258 hC ?_
          refine eL_law_260 hC (fun zz => absurd (by rw [hj8]) zz) (fun _ => ?_)
          refine eL_law_263 hC ?_
          refine eL_law_265 hC ?_
          refine eL_law_267 hC (fun zz => absurd zz (nI_ge hk12 (by omega))) (fun _ => ?_)
          refine eL_law_270 hC ?_
          refine eL_law_271 hC ?_
          refine eL_law_273 hC ?_
          refine eL_law_275 hC (Nat.le_of_ble_eq_true rfl) (by omega) (by omega) (vL_low hC.nt (by omega) (by omega)) (zk_i ?_)
          refine eL_law_278 hC ?_
          rw [nI_add]
          refine eL_law_279 hC ?_
          refine eL_law_285 hC (by assumption) (vp_in_nI (by omega) (by omega)) ?_
          rw [nI_clamp (by omega)]
          exact kk
        · have e := a2 (fun z => hj8 z.2)
          rw [e] at kk
          refine eL_law_249 hC ?_
          refine eL_law_250 hC ?_
          refine eL_law_251 hC ?_
          refine eL_law_253 hC (fun zz => absurd zz (Int32.not_le.mpr hr)) (fun _ => ?_)
          refine eL_law_256 hC ?_
          refine eL_law_258 hC ?_
          refine eL_law_260 hC (fun _ => ?_) (fun zz => absurd zz (nI_inj_ne hj8 (by omega) (by omega)))
          refine eL_law_282 hC ?_
          refine eL_law_283 hC ?_
          refine eL_law_284 hC (by assumption) (vp_in_nI (by omega) (by omega)) ?_
          rw [nI_clamp (by omega), g0]
          refine eL_law_285 hC (by assumption) (vp_in_nI (by omega) (by omega)) ?_
          rw [nI_clamp (by omega)]
          exact kk
      · have e := a2 (fun z => hr z.1)
        rw [e] at kk
        refine eL_law_249 hC ?_
        refine eL_law_250 hC ?_
        refine eL_law_251 hC ?_
        refine eL_law_253 hC (fun _ => ?_) (fun zz => absurd (Int32.not_lt.mp hr) zz)
        refine eL_law_282 hC ?_
        refine eL_law_283 hC ?_
        refine eL_law_284 hC (by assumption) (vp_in_nI (by omega) (by omega)) ?_
        rw [nI_clamp (by omega), g0]
        refine eL_law_285 hC (by assumption) (vp_in_nI (by omega) (by omega)) ?_
        rw [nI_clamp (by omega)]
        exact kk
    have stD : ∀ (cs sl : Nat) (K1 : zK) (μ1 : zF) (S1 : zMs) (v5 v6 r : Int32) (j : Nat), zAd j v6 S r S1 → j < 13 → (k < 12 → j = 0) → cs ≤ 90000 → sl ≤ 560000 → zI K1 (X + 89) 10 6 → μ1 (X + 89) 2 = nI (S.1 83) → μ1 (X + 89) 3 = nI (S.1 84) → μ1 (X + 89) 4 = nI (S.1 85) → (∀ μ2 : zF, zAg μ1 μ2 (X + 89) (X + 90) → μ2 (X + 89) 2 = nI (S1.1 83) → μ2 (X + 89) 3 = nI (S1.1 84) → μ2 (X + 89) 4 = nI (S1.1 85) → (∀ i, i ≠ 2 → i ≠ 3 → i ≠ 4 → μ2 (X + 89) i = μ1 (X + 89) i) → zV q cs sl 344 [some (.ref b), some (.ref X), some (.ref (X + 89)), some (.int (nI 1)), some (.int (nI k)), some (.int v5), some (.int v6), some (.int (nI j)), some (.int (nI S.2.1)), some (.long (zpr S.1)), none, some (.int r)] [] K1 μ2) → zV q cs sl 286 [some (.ref b), some (.ref X), some (.ref (X + 89)), some (.int (nI 1)), some (.int (nI k)), some (.int v5), some (.int v6), some (.int (nI j)), some (.int (nI S.2.1)), some (.long (zpr S.1)), none, some (.int r)] [] K1 μ1 := by
      intro cs sl K1 μ1 S1 v5 v6 r j hA hj hj0 hcs hsl hI g2 g3 g4 kk
      obtain ⟨a1, a2⟩ := zAd_83 hA
      obtain ⟨b1, b2⟩ := zAd_84 hA
      obtain ⟨c1, c2⟩ := zAd_85 hA
      by_cases hr : 0 < r
      · by_cases hj8 : j = 10
        · have hk12 : 11 < k := by
            rcases Nat.lt_or_ge k 12 with z | z
            · have := hj0 z
              omega
            · omega
          have nx := kk (zup (zup (zup μ1 (X + 89) 2 (nI (S1.1 83))) (X + 89) 3 (nI (S1.1 84))) (X + 89) 4 (nI (S1.1 85))) (((zAg.up (by omega)).trans (zAg.up (by omega))).trans (zAg.up (by omega))) (by rw [zup_k _ _ _ (by omega), zup_k _ _ _ (by omega), zup_self]) (by rw [zup_k _ _ _ (by omega), zup_self]) (by rw [zup_self]) (fun i h2 h3 h4 => by rw [zup_k _ _ _ h4, zup_k _ _ _ h3, zup_k _ _ _ h2])
          rw [a1 hr hj8, b1 hr hj8, c1 hr hj8] at nx
          refine eL_law_286 hC ?_
          refine eL_law_288 hC (fun zz => absurd zz (Int32.not_le.mpr hr)) (fun _ => ?_)
          refine eL_law_291 hC ?_
          refine eL_law_293 hC ?_
          refine eL_law_295 hC (fun zz => absurd (by rw [hj8]) zz) (fun _ => ?_)
          refine eL_law_298 hC ?_
          refine eL_law_300 hC ?_
          refine eL_law_302 hC (fun zz => absurd zz (nI_ge hk12 (by omega))) (fun _ => ?_)
          refine eL_law_305 hC ?_
          refine eL_law_306 hC ?_
          refine eL_law_307 hC ?_
          refine eL_law_308 hC ?_
          refine eL_law_310 hC ?_
          refine eL_law_312 hC (Nat.le_of_ble_eq_true rfl) (by omega) (by omega) (vL_low hC.nt (by omega) (by omega)) (zk_i ?_)
          refine eL_law_315 hC ?_
          rw [nI_add]
          refine eL_law_316 hC (by assumption) (vp_in_nI (by omega) (by omega)) ?_
          rw [nI_clamp (by omega)]
          refine eL_law_317 hC ?_
          refine eL_law_318 hC ?_
          refine eL_law_319 hC ?_
          refine eL_law_321 hC ?_
          refine eL_law_322 hC ?_
          refine eL_law_323 hC ?_
          refine eL_law_326 hC (Nat.le_of_ble_eq_true rfl) (by omega) (by omega) (vL_low hC.nt (by omega) (by omega)) (zk_i ?_)
          refine eL_law_329 hC (by assumption) (vp_in_nI (by omega) (by omega)) ?_
          rw [nI_clamp (by omega)]
          refine eL_law_330 hC ?_
          refine eL_law_331 hC ?_
          refine eL_law_332 hC ?_
          refine eL_law_334 hC ?_
          refine eL_law_336 hC ?_
          refine eL_law_337 hC ?_
          refine eL_law_340 hC (Nat.le_of_ble_eq_true rfl) (by omega) (by omega) (vL_low hC.nt (by omega) (by omega)) (zk_i ?_)
          refine eL_law_343 hC (by assumption) (vp_in_nI (by omega) (by omega)) ?_
          rw [nI_clamp (by omega)]
          exact nx
        · have nx := kk μ1 (zAg.refl _ _ _) (by rw [g2, a2 (fun z => hj8 z.2)]) (by rw [g3, b2 (fun z => hj8 z.2)]) (by rw [g4, c2 (fun z => hj8 z.2)]) (fun _ _ _ _ => rfl)
          refine eL_law_286 hC ?_
          refine eL_law_288 hC (fun zz => absurd zz (Int32.not_le.mpr hr)) (fun _ => ?_)
          refine eL_law_291 hC ?_
          refine eL_law_293 hC ?_
          refine eL_law_295 hC (fun _ => ?_) (fun zz => absurd zz (nI_inj_ne hj8 (by omega) (by omega)))
          exact nx
      · have nx := kk μ1 (zAg.refl _ _ _) (by rw [g2, a2 (fun z => hr z.1)]) (by rw [g3, b2 (fun z => hr z.1)]) (by rw [g4, c2 (fun z => hr z.1)]) (fun _ _ _ _ => rfl)
        refine eL_law_286 hC ?_
        refine eL_law_288 hC (fun _ => ?_) (fun zz => absurd (Int32.not_lt.mp hr) zz)
        exact nx
    -- the settings that the law notes
    have c175 : ∀ (cs sl : Nat) (K1 : zK) (μ1 : zF) (S1 : zMs) (v5 v6 r : Int32) (j : Nat), zAd j v6 S r S1 → j < 13 → (k < 12 → j = 0) → cs ≤ 1000 + 2200 * k + 173 → sl ≤ 17000 + 13200 * k + 1038 → zBd K μ K1 μ1 X S1 → zV q cs sl 175 [some (.ref b), some (.ref X), some (.ref (X + 89)), some (.int (nI 1)), some (.int (nI k)), some (.int v5), some (.int v6), some (.int (nI j)), some (.int (nI S.2.1)), some (.long (zpr S.1)), none, some (.int r)] [] K1 μ1 := by
      intro cs sl K1 μ1 S1 v5 v6 r j hA hj hj0 hcs hsl hB
      obtain ⟨hI, g0, g1, g2, g3, g4, g5⟩ := hG.bd hB (Nat.le_refl _)
      refine stA cs sl K1 μ1 S1 v5 v6 r j hA hj hj0 (by omega) (by omega) hI g0 ?_
      refine stB cs sl K1 _ S1 v5 v6 r j hA hj hj0 (by omega) (by omega) hI (by rw [zup_k _ _ _ (by omega)]; exact g1) ?_
      refine stC cs sl K1 _ S1 v5 v6 r j hA hj hj0 (by omega) (by omega) hI (by rw [zup_k _ _ _ (by omega), zup_k _ _ _ (by omega)]; exact g5) ?_
      refine stD cs sl K1 _ S1 v5 v6 r j hA hj hj0 (by omega) (by omega) hI (by rw [zup_k _ _ _ (by omega), zup_k _ _ _ (by omega), zup_k _ _ _ (by omega)]; exact g2) (by rw [zup_k _ _ _ (by omega), zup_k _ _ _ (by omega), zup_k _ _ _ (by omega)]; exact g3) (by rw [zup_k _ _ _ (by omega), zup_k _ _ _ (by omega), zup_k _ _ _ (by omega)]; exact g4) (fun μ2 ag e2 e3 e4 eo => ?_)
      have ag1 : zAg μ1 μ2 (X + 89) (X + 90) := (((zAg.up (by omega)).trans (zAg.up (by omega))).trans (zAg.up (by omega))).trans ag
      refine c344 cs sl K1 μ2 S1 v5 v6 r j hA hcs hsl (hB.x.ag ag1 (Nat.le_refl _)) ⟨hI, ?_, ?_, e2, e3, e4, ?_⟩
      · rw [eo 0 (by omega) (by omega) (by omega), zup_k _ _ _ (by omega), zup_k _ _ _ (by omega), zup_self]
      · rw [eo 1 (by omega) (by omega) (by omega), zup_k _ _ _ (by omega), zup_self]
      · rw [eo 5 (by omega) (by omega) (by omega), zup_self]
    -- the change
    have hB := zBd.rf hX
    by_cases c : k < 12
    · refine eL_law_68 hC ?_
      refine eL_law_70 hC ?_
      refine eL_law_72 hC (fun zz => absurd zz (nI_ge (by omega) (by omega))) (fun _ => ?_)
      refine eL_law_75 hC ?_
      refine eL_law_76 hC (fun zz => absurd zz zn10) (fun _ => ?_)
      refine eL_law_79 hC ?_
      refine eL_law_80 hC ?_
      refine eL_law_81 hC ?_
      refine eL_law_83 hC ?_
      rw [pk_mul]
      refine eL_law_84 hC hs (Nat.le_of_ble_eq_true rfl) (by omega) (by omega) (vL_at hC.nt (by omega)) (zk_p (fun r_84 => ?_))
      refine eL_law_87 hC ?_
      refine eL_law_89 hC ?_
      refine eL_law_90 hC ?_
      refine eL_law_91 hC ?_
      refine eL_law_93 hC ?_
      refine eL_law_94 hC ?_
      refine eL_law_95 hC ?_
      rw [pk_mul, nI_add]
      refine eL_law_96 hC hs (Nat.le_of_ble_eq_true rfl) (by omega) (by omega) (vL_at hC.nt (by omega)) (zk_p (fun r_96 => ?_))
      refine eL_law_99 hC ?_
      refine eL_law_101 hC ?_
      refine eL_law_103 hC ?_
      refine eL_law_105 hC (fun zz => absurd zz (nI_ge c (by omega))) (fun _ => ?_)
      refine eL_law_108 hC ?_
      refine eL_law_109 hC ?_
      refine eL_law_119 hC ?_
      refine eL_law_121 hC ?_
      refine eL_law_122 hC (Nat.le_of_ble_eq_true rfl) (by omega) (by omega) hB.o (vX8_savedStates hC.nt hB.x) (zk_q hB rfl (fun K_122 μ_122 hB => ?_))
      refine eL_law_125 hC ?_
      refine eL_law_127 hC ?_
      refine eL_law_128 hC (Nat.le_of_ble_eq_true rfl) (by omega) (by omega) (vL_print hC.nt hB.x) (zk_al hB (fun K_128 μ_128 hB => ?_))
      refine eL_law_131 hC ?_
      refine eL_law_133 hC ?_
      refine eL_law_135 hC ?_
      refine eL_law_137 hC (fun zz => absurd zz (nI_ge c (by omega))) (fun _ => ?_)
      refine eL_law_140 hC ?_
      refine eL_law_141 hC ?_
      refine eL_law_143 hC ?_
      refine eL_law_145 hC ?_
      refine eL_law_146 hC ?_
      rw [nI_add]
      refine eL_law_147 hC (Nat.le_of_ble_eq_true rfl) (by omega) (by omega) (vL_low hC.nt (by omega) (by omega)) (zk_i ?_)
      refine eL_law_150 hC ?_
      refine eL_law_151 hC ?_
      refine eL_law_153 hC ?_
      refine eL_law_155 hC (Nat.le_of_ble_eq_true rfl) (by omega) (by omega) (vL_low hC.nt (by omega) (by omega)) (zk_i ?_)
      refine eL_law_158 hC ?_
      rw [nI_add]
      have w1 := zqw_lt r_84 (n := k + 1) (by omega)
      have w2 := zqw_lt r_96 (n := 30) (by omega)
      obtain ⟨r, S1, e, hA⟩ := zAd_insert (S := S) (k := zqw r_84 (k + 1)) (v := 1 + zqw r_96 30) (y := r_96) (by omega) (by omega) (by omega) hok
      refine eL_law_159 hC (Nat.le_of_ble_eq_true rfl) (by omega) (by omega) (vL_insert hC.nt hB.x e) (zk_a hB (fun K_159 μ_159 hB => ?_))
      refine eL_law_162 hC ?_
      refine eL_law_173 hC ?_
      exact c175 _ _ _ _ S1 r_84 r_96 r 0 hA (by omega) (fun _ => rfl) (by omega) (by omega) hB
    · refine eL_law_68 hC ?_
      refine eL_law_70 hC ?_
      refine eL_law_72 hC (fun zz => absurd zz (nI_ge (by omega) (by omega))) (fun _ => ?_)
      refine eL_law_75 hC ?_
      refine eL_law_76 hC (fun zz => absurd zz zn10) (fun _ => ?_)
      refine eL_law_79 hC ?_
      refine eL_law_80 hC ?_
      refine eL_law_81 hC ?_
      refine eL_law_83 hC ?_
      rw [pk_mul]
      refine eL_law_84 hC hs (Nat.le_of_ble_eq_true rfl) (by omega) (by omega) (vL_at hC.nt (by omega)) (zk_p (fun r_84 => ?_))
      refine eL_law_87 hC ?_
      refine eL_law_89 hC ?_
      refine eL_law_90 hC ?_
      refine eL_law_91 hC ?_
      refine eL_law_93 hC ?_
      refine eL_law_94 hC ?_
      refine eL_law_95 hC ?_
      rw [pk_mul, nI_add]
      refine eL_law_96 hC hs (Nat.le_of_ble_eq_true rfl) (by omega) (by omega) (vL_at hC.nt (by omega)) (zk_p (fun r_96 => ?_))
      refine eL_law_99 hC ?_
      refine eL_law_101 hC ?_
      refine eL_law_103 hC ?_
      refine eL_law_105 hC (fun _ => ?_) (fun zz => absurd (nI_le (by omega) (by omega)) zz)
      refine eL_law_112 hC ?_
      refine eL_law_114 hC ?_
      refine eL_law_116 hC (Nat.le_of_ble_eq_true rfl) (by omega) (by omega) (vL_low hC.nt (by omega) (by omega)) (zk_i ?_)
      refine eL_law_119 hC ?_
      refine eL_law_121 hC ?_
      refine eL_law_122 hC (Nat.le_of_ble_eq_true rfl) (by omega) (by omega) hB.o (vX8_savedStates hC.nt hB.x) (zk_q hB rfl (fun K_122 μ_122 hB => ?_))
      refine eL_law_125 hC ?_
      refine eL_law_127 hC ?_
      refine eL_law_128 hC (Nat.le_of_ble_eq_true rfl) (by omega) (by omega) (vL_print hC.nt hB.x) (zk_al hB (fun K_128 μ_128 hB => ?_))
      refine eL_law_131 hC ?_
      refine eL_law_133 hC ?_
      refine eL_law_135 hC ?_
      refine eL_law_137 hC (fun _ => ?_) (fun zz => absurd (nI_le (by omega) (by omega)) zz)
      refine eL_law_165 hC ?_
      refine eL_law_166 hC ?_
      refine eL_law_168 hC ?_
      refine eL_law_170 hC (Nat.le_of_ble_eq_true rfl) (by omega) (by omega) (vL_act hC.nt hB.x) (zk_c hB (fun r_170 S_170 K_170 μ_170 hA hB => ?_))
      refine eL_law_173 hC ?_
      exact c175 _ _ _ _ S_170 r_84 r_96 r_170 (zqw r_84 13) hA (zqw_lt _ (by omega)) (fun z => absurd z c) (by omega) (by omega) hB
end ZLAW
