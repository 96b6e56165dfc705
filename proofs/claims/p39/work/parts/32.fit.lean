/-! ===== how far lines reach ===== -/
set_option maxHeartbeats 4000000 in
theorem vX1_widthBetween {l : Launch} {g : zG} (hl : l.stackTraces = false) {K : zK} {μ : zF} {q t i j : Nat} {τ : Nat → Nat} (h : zFit K q t) (ht : zTxt K t) (hv : zTv μ t τ) (hs : zFs1 μ q τ) (ho : τ 80 ≤ 40) (hi : i ≤ τ 80) (hj : j ≤ τ 80) : EX1_widthBetween l g 0 0 [.ref q, .int (nI i), .int (nI j)] K μ (zPi (zwi τ i j) K μ) := by
  obtain ⟨h0, h1, h2, h3, h4, h5⟩ := h
  obtain ⟨t0, -⟩ := ht
  have hw : μ t 4 = nI (τ 82) := hv.2.2 4 (by omega) (by omega)
  have hm : ∀ k, k ≤ τ 80 → zrd 41 (μ (q + 1 + 1)) (nI k) = nI (zsm τ k) := fun k hk => by
    rw [zrd_in (by omega) (by omega)]; exact hs k hk
  refine nX1_widthBetween hl (fun x hC hQ => ?_)
  refine eX1_widthBetween_0 hC ?_
  refine eX1_widthBetween_1 hC (by assumption) (by assumption) ?_
  refine eX1_widthBetween_4 hC ?_
  refine eX1_widthBetween_5 hC (Nat.le_of_ble_eq_true rfl) (Nat.le_of_ble_eq_true rfl) (Nat.le_of_ble_eq_true rfl) (by first | assumption | exact zRow.o (by assumption)) (vX6_at hC.nt h4) (zk_i ?_)
  refine eX1_widthBetween_8 hC ?_
  refine eX1_widthBetween_9 hC (by assumption) (by assumption) ?_
  refine eX1_widthBetween_12 hC ?_
  refine eX1_widthBetween_13 hC (Nat.le_of_ble_eq_true rfl) (Nat.le_of_ble_eq_true rfl) (Nat.le_of_ble_eq_true rfl) (by first | assumption | exact zRow.o (by assumption)) (vX6_at hC.nt h4) (zk_i ?_)
  refine eX1_widthBetween_16 hC ?_
  refine eX1_widthBetween_17 hC ?_
  refine eX1_widthBetween_18 hC (by assumption) (by assumption) ?_
  refine eX1_widthBetween_21 hC (by assumption) ?_
  refine eX1_widthBetween_24 hC ?_
  refine eX1_widthBetween_25 hC ?_
  refine eX1_widthBetween_26 hC ?_
  refine eX1_widthBetween_27 hC ?_
  refine eX1_widthBetween_28 hC ?_
  refine eX1_widthBetween_29 hC ?_
  refine eX1_widthBetween_30 hC ?_
  rw [hm j hj, hm i hi, hw]
  refine eX1_widthBetween_31 hC hQ (Nat.le_of_ble_eq_true rfl) (Nat.le_of_ble_eq_true rfl) ?_
  exact ⟨rfl, rfl, rfl⟩
set_option maxHeartbeats 4000000 in
theorem vX1_longestLineEnd {l : Launch} {g : zG} (hl : l.stackTraces = false) {K : zK} {μ : zF} {q t i : Nat} {τ : Nat → Nat} (h : zFit K q t) (ht : zTxt K t) (hv : zTv μ t τ) (hs : zFs1 μ q τ) (ho : zOk τ) (hi : i < τ 80) : EX1_longestLineEnd l g 0 0 [.ref q, .int (nI i)] K μ (zPi (nI (zrc τ i)) K μ) := by
  have hF := h
  have hT := ht
  obtain ⟨h0, h1, h2, h3, h4, h5⟩ := h
  obtain ⟨t0, t1, t2, t3, t4⟩ := ht
  have o1 := ho.1
  have hn : μ t 2 = nI (τ 80) := hv.2.2 2 (by omega) (by omega)
  have hc : μ t 3 = nI (τ 81) := hv.2.2 3 (by omega) (by omega)
  have hm : ∀ k, k < τ 80 → zrd 40 (μ (t + 3 + 1)) (nI k) = nI (τ (40 + k)) := fun k hk => by
    rw [zrd_in (by omega) (by omega)]; exact hv.2.1 k (by omega)
  have hcol := ho.2.2.2.1
  refine nX1_longestLineEnd hl (fun x hC hQ => ?_)
  have loop : ∀ d e : Nat, e + d = τ 80 → i + 1 ≤ e → (∀ k, i + 1 ≤ k → k < e → zgo τ i k) → zV x 0 0 4 [some (.ref q), some (.int (nI i)), some (.int (nI e))] [] K μ := by
    intro d
    induction d with
    | zero =>
      intro e he h6 h7
      have he : e = τ 80 := by omega
      subst he
      refine eX1_longestLineEnd_4 hC ?_
      refine eX1_longestLineEnd_5 hC ?_
      refine eX1_longestLineEnd_6 hC (by assumption) (by assumption) ?_
      refine eX1_longestLineEnd_9 hC (by assumption) ?_
      rw [hn]
      refine eX1_longestLineEnd_12 hC (fun _ => ?_) (fun zz => absurd (nI_le (Nat.le_refl _) (by omega)) zz)
      refine eX1_longestLineEnd_55 hC ?_
      refine eX1_longestLineEnd_56 hC hQ (Nat.le_of_ble_eq_true rfl) (Nat.le_of_ble_eq_true rfl) ?_
      rw [zrc_eq h6 (fun h => by have := h.1; omega) h7]
      exact ⟨rfl, rfl, rfl⟩
    | succ d ih =>
      intro e he h6 h7
      by_cases c1 : τ (40 + (e - 1)) = 0
      · by_cases c2 : zwd τ i (e + 1) ≤ τ 81
        · refine eX1_longestLineEnd_4 hC ?_
          refine eX1_longestLineEnd_5 hC ?_
          refine eX1_longestLineEnd_6 hC (by assumption) (by assumption) ?_
          refine eX1_longestLineEnd_9 hC (by assumption) ?_
          rw [hn]
          refine eX1_longestLineEnd_12 hC (fun zz => absurd zz (nI_ge (by omega) (by omega))) (fun _ => ?_)
          refine eX1_longestLineEnd_15 hC ?_
          refine eX1_longestLineEnd_16 hC (by assumption) (by assumption) ?_
          refine eX1_longestLineEnd_19 hC (by assumption) (by assumption) ?_
          refine eX1_longestLineEnd_22 hC ?_
          refine eX1_longestLineEnd_23 hC ?_
          refine eX1_longestLineEnd_24 hC ?_
          rw [nI_sub (by omega)]
          refine eX1_longestLineEnd_25 hC (Nat.le_of_ble_eq_true rfl) (Nat.le_of_ble_eq_true rfl) (Nat.le_of_ble_eq_true rfl) (by first | assumption | exact zRow.o (by assumption)) (vX6_at hC.nt t4) (zk_i ?_)
          rw [hm _ (by omega), c1]
          refine eX1_longestLineEnd_28 hC (fun zz => absurd zn00 zz) (fun _ => ?_)
          refine eX1_longestLineEnd_31 hC ?_
          refine eX1_longestLineEnd_32 hC ?_
          refine eX1_longestLineEnd_33 hC ?_
          refine eX1_longestLineEnd_34 hC ?_
          refine eX1_longestLineEnd_35 hC ?_
          rw [nI_add]
          refine eX1_longestLineEnd_36 hC (Nat.le_of_ble_eq_true rfl) (Nat.le_of_ble_eq_true rfl) (Nat.le_of_ble_eq_true rfl) (by first | assumption | exact zFit.o (by assumption)) (vX1_widthBetween hC.nt (by assumption) (by assumption) (by assumption) (by assumption) (by omega) (by omega) (by omega)) (zk_i ?_)
          refine eX1_longestLineEnd_39 hC ?_
          refine eX1_longestLineEnd_40 hC (by assumption) (by assumption) ?_
          refine eX1_longestLineEnd_43 hC (by assumption) ?_
          rw [hc, zwi_eq (by omega)]
          refine eX1_longestLineEnd_46 hC (fun zz => absurd zz (fun c => nI_nlt c2 (by omega) c)) (fun _ => ?_)
          refine eX1_longestLineEnd_49 hC ?_
          rw [nI_add]
          refine eX1_longestLineEnd_52 hC ?_
          exact ih (e + 1) (by omega) (by omega) (fun k k1 k2 => by
            rcases Nat.lt_or_ge k e with q | q
            · exact h7 k k1 q
            · rw [show k = e by omega]; exact ⟨by omega, c1, c2⟩)
        · have hw := zwd_le ho (i := i) (j := e + 1) (by omega)
          refine eX1_longestLineEnd_4 hC ?_
          refine eX1_longestLineEnd_5 hC ?_
          refine eX1_longestLineEnd_6 hC (by assumption) (by assumption) ?_
          refine eX1_longestLineEnd_9 hC (by assumption) ?_
          rw [hn]
          refine eX1_longestLineEnd_12 hC (fun zz => absurd zz (nI_ge (by omega) (by omega))) (fun _ => ?_)
          refine eX1_longestLineEnd_15 hC ?_
          refine eX1_longestLineEnd_16 hC (by assumption) (by assumption) ?_
          refine eX1_longestLineEnd_19 hC (by assumption) (by assumption) ?_
          refine eX1_longestLineEnd_22 hC ?_
          refine eX1_longestLineEnd_23 hC ?_
          refine eX1_longestLineEnd_24 hC ?_
          rw [nI_sub (by omega)]
          refine eX1_longestLineEnd_25 hC (Nat.le_of_ble_eq_true rfl) (Nat.le_of_ble_eq_true rfl) (Nat.le_of_ble_eq_true rfl) (by first | assumption | exact zRow.o (by assumption)) (vX6_at hC.nt t4) (zk_i ?_)
          rw [hm _ (by omega), c1]
          refine eX1_longestLineEnd_28 hC (fun zz => absurd zn00 zz) (fun _ => ?_)
          refine eX1_longestLineEnd_31 hC ?_
          refine eX1_longestLineEnd_32 hC ?_
          refine eX1_longestLineEnd_33 hC ?_
          refine eX1_longestLineEnd_34 hC ?_
          refine eX1_longestLineEnd_35 hC ?_
          rw [nI_add]
          refine eX1_longestLineEnd_36 hC (Nat.le_of_ble_eq_true rfl) (Nat.le_of_ble_eq_true rfl) (Nat.le_of_ble_eq_true rfl) (by first | assumption | exact zFit.o (by assumption)) (vX1_widthBetween hC.nt (by assumption) (by assumption) (by assumption) (by assumption) (by omega) (by omega) (by omega)) (zk_i ?_)
          refine eX1_longestLineEnd_39 hC ?_
          refine eX1_longestLineEnd_40 hC (by assumption) (by assumption) ?_
          refine eX1_longestLineEnd_43 hC (by assumption) ?_
          rw [hc, zwi_eq (by omega)]
          refine eX1_longestLineEnd_46 hC (fun _ => ?_) (fun zz => absurd (nI_lt (by omega) (by omega)) zz)
          refine eX1_longestLineEnd_55 hC ?_
          refine eX1_longestLineEnd_56 hC hQ (Nat.le_of_ble_eq_true rfl) (Nat.le_of_ble_eq_true rfl) ?_
          rw [zrc_eq h6 (fun h => c2 h.2.2) h7]
          exact ⟨rfl, rfl, rfl⟩
      · have := ho.2.2.1 (e - 1) (by omega)
        refine eX1_longestLineEnd_4 hC ?_
        refine eX1_longestLineEnd_5 hC ?_
        refine eX1_longestLineEnd_6 hC (by assumption) (by assumption) ?_
        refine eX1_longestLineEnd_9 hC (by assumption) ?_
        rw [hn]
        refine eX1_longestLineEnd_12 hC (fun zz => absurd zz (nI_ge (by omega) (by omega))) (fun _ => ?_)
        refine eX1_longestLineEnd_15 hC ?_
        refine eX1_longestLineEnd_16 hC (by assumption) (by assumption) ?_
        refine eX1_longestLineEnd_19 hC (by assumption) (by assumption) ?_
        refine eX1_longestLineEnd_22 hC ?_
        refine eX1_longestLineEnd_23 hC ?_
        refine eX1_longestLineEnd_24 hC ?_
        rw [nI_sub (by omega)]
        refine eX1_longestLineEnd_25 hC (Nat.le_of_ble_eq_true rfl) (Nat.le_of_ble_eq_true rfl) (Nat.le_of_ble_eq_true rfl) (by first | assumption | exact zRow.o (by assumption)) (vX6_at hC.nt t4) (zk_i ?_)
        rw [hm _ (by omega)]
        refine eX1_longestLineEnd_28 hC (fun _ => ?_) (fun zz => absurd zz (fun c => c1 (nI_inj (by omega) (by omega) (c.trans nI_0.symm))))
        refine eX1_longestLineEnd_55 hC ?_
        refine eX1_longestLineEnd_56 hC hQ (Nat.le_of_ble_eq_true rfl) (Nat.le_of_ble_eq_true rfl) ?_
        rw [zrc_eq h6 (fun h => c1 h.2.1) h7]
        exact ⟨rfl, rfl, rfl⟩
  refine eX1_longestLineEnd_0 hC ?_
  refine eX1_longestLineEnd_1 hC ?_
  refine eX1_longestLineEnd_2 hC ?_
  rw [nI_add]
  refine eX1_longestLineEnd_3 hC ?_
  exact loop (τ 80 - (i + 1)) (i + 1) (by omega) (Nat.le_refl _) (fun k k1 k2 => by omega)
set_option maxHeartbeats 4000000 in
theorem vX1_measure {l : Launch} {g : zG} (hl : l.stackTraces = false) {K : zK} {μ : zF} {q t : Nat} {τ : Nat → Nat} (h : zFit K q t) (ht : zTxt K t) (hv : zTv μ t τ) (ho : zOk τ) (hz : μ (q + 2) 0 = nI 0) (hd : t + 5 ≤ q ∨ q + 5 ≤ t) : EX1_measure l g 0 0 [.ref q] K μ (zPw K (fun μ' => zFs1 μ' q τ ∧ zFs2 μ' q τ ∧ zAg μ μ' q (q + 5))) := by
  have hF := h
  have hT := ht
  obtain ⟨h0, h1, h2, h3, h4, h5⟩ := h
  obtain ⟨t0, t1, t2, t3, t4⟩ := ht
  have o1 := ho.1
  refine nX1_measure hl (fun x hC hQ => ?_)
  have loop2 : ∀ (d k : Nat) (μ1 : zF), k + d = τ 80 → zFs1 μ1 q τ → (∀ j, j < k → μ1 (q + 4) j = nI (zrc τ j)) → zAg μ μ1 q (q + 5) → zV x 0 0 51 [some (.ref q), some (.int (nI k))] [] K μ1 := by
    intro d
    induction d with
    | zero =>
      intro k μ1 hk i1 i2 i3
      have hk : k = τ 80 := by omega
      subst hk
      have hv1 := hv.ag i3 (by omega)
      have hn : μ1 t 2 = nI (τ 80) := hv1.2.2 2 (by omega) (by omega)
      refine eX1_measure_51 hC ?_
      refine eX1_measure_52 hC ?_
      refine eX1_measure_53 hC (by assumption) (by assumption) ?_
      refine eX1_measure_56 hC (by assumption) ?_
      rw [hn]
      refine eX1_measure_59 hC (fun _ => ?_) (fun zz => absurd (nI_le (Nat.le_refl _) (by omega)) zz)
      refine eX1_measure_81 hC hQ (Nat.le_of_ble_eq_true rfl) (Nat.le_of_ble_eq_true rfl) ?_
      exact ⟨rfl, rfl, i1, i2, i3⟩
    | succ d ih =>
      intro k μ1 hk i1 i2 i3
      have hv1 := hv.ag i3 (by omega)
      have hn : μ1 t 2 = nI (τ 80) := hv1.2.2 2 (by omega) (by omega)
      refine eX1_measure_51 hC ?_
      refine eX1_measure_52 hC ?_
      refine eX1_measure_53 hC (by assumption) (by assumption) ?_
      refine eX1_measure_56 hC (by assumption) ?_
      rw [hn]
      refine eX1_measure_59 hC (fun zz => absurd zz (nI_ge (by omega) (by omega))) (fun _ => ?_)
      refine eX1_measure_62 hC ?_
      refine eX1_measure_63 hC (by assumption) (by assumption) ?_
      refine eX1_measure_66 hC ?_
      refine eX1_measure_67 hC ?_
      refine eX1_measure_68 hC ?_
      refine eX1_measure_69 hC (Nat.le_of_ble_eq_true rfl) (Nat.le_of_ble_eq_true rfl) (Nat.le_of_ble_eq_true rfl) (by first | assumption | exact zFit.o (by assumption)) (vX1_longestLineEnd hC.nt hF hT hv1 i1 ho (by omega)) (zk_i ?_)
      refine eX1_measure_72 hC (Nat.le_of_ble_eq_true rfl) (Nat.le_of_ble_eq_true rfl) (Nat.le_of_ble_eq_true rfl) (by first | assumption | exact zRow.o (by assumption)) (vX6_put hC.nt h5) (zk_w (fun μ_72 m_72 => ?_))
      rw [zpt_in (by omega) (by omega)] at m_72
      subst m_72
      refine eX1_measure_75 hC ?_
      rw [nI_add]
      refine eX1_measure_78 hC ?_
      refine ih (k + 1) _ (by omega) (fun j hj => ?_) (fun j hj => ?_) (i3.trans (zAg.up (by omega)))
      · rw [zup_a _ _ _ _ (by omega)]; exact i1 j hj
      · by_cases c : j = k
        · subst c; exact zup_self _ _ _ _
        · rw [show q + 4 = q + 3 + 1 by omega, zup_k _ _ _ c]; exact i2 j (by omega)
  have loop1 : ∀ (d k : Nat) (μ1 : zF), k + d = τ 80 → (∀ j, j ≤ k → μ1 (q + 2) j = nI (zsm τ j)) → zAg μ μ1 q (q + 5) → zV x 0 0 2 [some (.ref q), some (.int (nI k))] [] K μ1 := by
    intro d
    induction d with
    | zero =>
      intro k μ1 hk i1 i3
      have hk : k = τ 80 := by omega
      subst hk
      have hv1 := hv.ag i3 (by omega)
      have hn : μ1 t 2 = nI (τ 80) := hv1.2.2 2 (by omega) (by omega)
      refine eX1_measure_2 hC ?_
      refine eX1_measure_3 hC ?_
      refine eX1_measure_4 hC (by assumption) (by assumption) ?_
      refine eX1_measure_7 hC (by assumption) ?_
      rw [hn]
      refine eX1_measure_10 hC (fun _ => ?_) (fun zz => absurd (nI_le (Nat.le_refl _) (by omega)) zz)
      refine eX1_measure_49 hC ?_
      refine eX1_measure_50 hC ?_
      exact loop2 (τ 80) 0 μ1 (by omega) i1 (fun j hj => by omega) i3
    | succ d ih =>
      intro k μ1 hk i1 i3
      have hv1 := hv.ag i3 (by omega)
      have hn : μ1 t 2 = nI (τ 80) := hv1.2.2 2 (by omega) (by omega)
      have e1 : zrd 41 (μ1 (q + 1 + 1)) (nI k) = nI (zsm τ k) := by rw [zrd_in (by omega) (by omega)]; exact i1 k (Nat.le_refl _)
      have e2 : zrd 40 (μ1 (t + 1 + 1)) (nI k) = nI (τ k) := by rw [zrd_in (by omega) (by omega)]; exact hv1.1 k (by omega)
      refine eX1_measure_2 hC ?_
      refine eX1_measure_3 hC ?_
      refine eX1_measure_4 hC (by assumption) (by assumption) ?_
      refine eX1_measure_7 hC (by assumption) ?_
      rw [hn]
      refine eX1_measure_10 hC (fun zz => absurd zz (nI_ge (by omega) (by omega))) (fun _ => ?_)
      refine eX1_measure_13 hC ?_
      refine eX1_measure_14 hC (by assumption) (by assumption) ?_
      refine eX1_measure_17 hC ?_
      refine eX1_measure_18 hC ?_
      refine eX1_measure_19 hC ?_
      refine eX1_measure_20 hC ?_
      refine eX1_measure_21 hC (by assumption) (by assumption) ?_
      refine eX1_measure_24 hC ?_
      refine eX1_measure_25 hC (Nat.le_of_ble_eq_true rfl) (Nat.le_of_ble_eq_true rfl) (Nat.le_of_ble_eq_true rfl) (by first | assumption | exact zRow.o (by assumption)) (vX6_at hC.nt h4) (zk_i ?_)
      refine eX1_measure_28 hC ?_
      refine eX1_measure_29 hC (by assumption) (by assumption) ?_
      refine eX1_measure_32 hC (by assumption) (by assumption) ?_
      refine eX1_measure_35 hC ?_
      refine eX1_measure_36 hC (Nat.le_of_ble_eq_true rfl) (Nat.le_of_ble_eq_true rfl) (Nat.le_of_ble_eq_true rfl) (by first | assumption | exact zRow.o (by assumption)) (vX6_at hC.nt t3) (zk_i ?_)
      refine eX1_measure_39 hC ?_
      rw [nI_add, e1, e2, nI_add]
      refine eX1_measure_40 hC (Nat.le_of_ble_eq_true rfl) (Nat.le_of_ble_eq_true rfl) (Nat.le_of_ble_eq_true rfl) (by first | assumption | exact zRow.o (by assumption)) (vX6_put hC.nt h4) (zk_w (fun μ_40 m_40 => ?_))
      rw [zpt_in (by omega) (by omega)] at m_40
      subst m_40
      refine eX1_measure_43 hC ?_
      rw [nI_add]
      refine eX1_measure_46 hC ?_
      refine ih (k + 1) _ (by omega) (fun j hj => ?_) (i3.trans (zAg.up (by omega)))
      by_cases c : j = k + 1
      · subst c; exact zup_self _ _ _ _
      · rw [show q + 2 = q + 1 + 1 by omega, zup_k _ _ _ c]; exact i1 j (by omega)
  refine eX1_measure_0 hC ?_
  refine eX1_measure_1 hC ?_
  exact loop1 (τ 80) 0 μ (by omega) (fun j hj => by rw [show j = 0 by omega]; exact hz) (zAg.refl _ _ _)
