/-! ===== the reference: widths, ends, choices ===== -/
def zSx (μ : zF) (m : Nat) (τ : Nat → Nat) : Prop := (∀ k, k < τ 80 → μ (m + 1) k = nI (τ k) ∧ μ (m + 1) (40 + k) = nI (τ (40 + k))) ∧ ∀ k, 80 ≤ k → k < 87 → k ≠ 81 → μ (m + 1) k = nI (τ k)
def zSu (μ : zF) (m : Nat) (τ : Nat → Nat) : Prop := ∀ k, k ≤ τ 80 → μ (m + 4) k = nI (zsm τ k)
theorem zSx.eq {μ μ' : zF} {m : Nat} {τ : Nat → Nat} (h : zSx μ m τ) (he : ∀ j, μ' (m + 1) j = μ (m + 1) j) : zSx μ' m τ := ⟨fun k hk => ⟨(he _).trans (h.1 k hk).1, (he _).trans (h.1 k hk).2⟩, fun k k1 k2 k3 => (he _).trans (h.2 k k1 k2 k3)⟩
theorem zSu.eq {μ μ' : zF} {m : Nat} {τ : Nat → Nat} (h : zSu μ m τ) (he : ∀ j, μ' (m + 4) j = μ (m + 4) j) : zSu μ' m τ := fun k hk => (he k).trans (h k hk)
set_option maxHeartbeats 4000000 in
theorem vX9_width {l : Launch} {g : zG} (hl : l.stackTraces = false) {K : zK} {μ : zF} {m i j : Nat} {τ : Nat → Nat} (hR : zRef K m) (hx : zSx μ m τ) (hu : zSu μ m τ) (ho : zOk τ) (hi : i < j) (hj : j ≤ τ 80) : EX9_width l g 0 0 [.ref m, .int (nI i), .int (nI j)] K μ (zPi (nI (zwd τ i j)) K μ) := by
  obtain ⟨h0, h1, h2, h3, h4, h5, h6, h7, h8, i1, i2, i3, i4, i5, i6, i7, i8⟩ := id hR
  have o1 := ho.1
  refine nX9_width hl (fun x hC hQ => ?_)
  refine eX9_width_0 hC ?_
  refine eX9_width_1 hC (by assumption) (by assumption) ?_
  refine eX9_width_4 hC ?_
  refine eX9_width_5 hC (by assumption) (vp_in_nI (by omega) (by omega)) ?_
  rw [nI_clamp (by omega), hu j hj]
  refine eX9_width_6 hC ?_
  refine eX9_width_7 hC (by assumption) (by assumption) ?_
  refine eX9_width_10 hC ?_
  refine eX9_width_11 hC (by assumption) (vp_in_nI (by omega) (by omega)) ?_
  rw [nI_clamp (by omega), hu i (by omega)]
  refine eX9_width_12 hC ?_
  rw [nI_sub (zsm_le (by omega))]
  refine eX9_width_13 hC ?_
  refine eX9_width_14 hC (by assumption) (by assumption) ?_
  refine eX9_width_17 hC ?_
  refine eX9_width_19 hC (by assumption) (vp_in_nI (by omega) (by omega)) ?_
  rw [nI_clamp (by omega), hx.2 82 (by omega) (by omega) (by omega)]
  refine eX9_width_20 hC ?_
  refine eX9_width_21 hC ?_
  refine eX9_width_22 hC ?_
  rw [nI_sub (by omega)]
  refine eX9_width_23 hC ?_
  refine eX9_width_24 hC ?_
  rw [nI_sub (by omega)]
  refine eX9_width_25 hC ?_
  rw [pk_mul]
  refine eX9_width_26 hC ?_
  rw [nI_add]
  refine eX9_width_27 hC hQ (Nat.le_of_ble_eq_true rfl) (Nat.le_of_ble_eq_true rfl) ?_
  exact ⟨rfl, rfl, rfl⟩
set_option maxHeartbeats 4000000 in
theorem vX9_sums {l : Launch} {g : zG} (hl : l.stackTraces = false) {K : zK} {μ : zF} {m : Nat} {τ : Nat → Nat} (hR : zRef K m) (hx : zSx μ m τ) (ho : zOk τ) (hz : μ (m + 4) 0 = nI 0) : EX9_sums l g 0 0 [.ref m] K μ (zPw K (fun μ' => zSu μ' m τ ∧ ∀ a j, a ≠ m + 4 → μ' a j = μ a j)) := by
  obtain ⟨h0, h1, h2, h3, h4, h5, h6, h7, h8, i1, i2, i3, i4, i5, i6, i7, i8⟩ := id hR
  have o1 := ho.1
  refine nX9_sums hl (fun x hC hQ => ?_)
  have loop : ∀ (d k : Nat) (μ1 : zF), k + d = τ 80 → (∀ j, j ≤ k → μ1 (m + 4) j = nI (zsm τ j)) → (∀ a j, a ≠ m + 4 → μ1 a j = μ a j) → zV x 0 0 2 [some (.ref m), some (.int (nI k))] [] K μ1 := by
    intro d
    induction d with
    | zero =>
      intro k μ1 hk hs hf
      have e80 : μ1 (m + 1) 80 = nI (τ 80) := (hf _ _ (by omega)).trans (hx.2 80 (by omega) (by omega) (by omega))
      refine eX9_sums_2 hC ?_
      refine eX9_sums_3 hC ?_
      refine eX9_sums_4 hC (by assumption) (by assumption) ?_
      refine eX9_sums_7 hC ?_
      refine eX9_sums_9 hC (by assumption) (vp_in_nI (by omega) (by omega)) ?_
      rw [nI_clamp (by omega), e80]
      refine eX9_sums_10 hC (fun _ => ?_) (fun zz => absurd (nI_le (by omega) (by omega)) zz)
      refine eX9_sums_40 hC hQ (Nat.le_of_ble_eq_true rfl) (Nat.le_of_ble_eq_true rfl) ?_
      exact ⟨rfl, rfl, fun j hj => hs j (by omega), hf⟩
    | succ d ih =>
      intro k μ1 hk hs hf
      have e80 : μ1 (m + 1) 80 = nI (τ 80) := (hf _ _ (by omega)).trans (hx.2 80 (by omega) (by omega) (by omega))
      refine eX9_sums_2 hC ?_
      refine eX9_sums_3 hC ?_
      refine eX9_sums_4 hC (by assumption) (by assumption) ?_
      refine eX9_sums_7 hC ?_
      refine eX9_sums_9 hC (by assumption) (vp_in_nI (by omega) (by omega)) ?_
      rw [nI_clamp (by omega), e80]
      refine eX9_sums_10 hC (fun zz => absurd zz (nI_ge (by omega) (by omega))) (fun _ => ?_)
      refine eX9_sums_13 hC ?_
      refine eX9_sums_14 hC (by assumption) (by assumption) ?_
      refine eX9_sums_17 hC ?_
      refine eX9_sums_18 hC ?_
      refine eX9_sums_19 hC ?_
      rw [nI_add]
      refine eX9_sums_20 hC ?_
      refine eX9_sums_21 hC (by assumption) (by assumption) ?_
      refine eX9_sums_24 hC ?_
      refine eX9_sums_25 hC (by assumption) (vp_in_nI (by omega) (by omega)) ?_
      rw [nI_clamp (by omega), hs k (Nat.le_refl _)]
      refine eX9_sums_26 hC ?_
      refine eX9_sums_27 hC (by assumption) (by assumption) ?_
      refine eX9_sums_30 hC ?_
      refine eX9_sums_31 hC (by assumption) (vp_in_nI (by omega) (by omega)) ?_
      rw [nI_clamp (by omega), (hf _ _ (by omega)).trans (hx.1 k (by omega)).1]
      refine eX9_sums_32 hC ?_
      rw [nI_add]
      refine eX9_sums_33 hC (by assumption) (vp_in_nI (by omega) (by omega)) ?_
      rw [nI_clamp (by omega)]
      refine eX9_sums_34 hC ?_
      rw [nI_add]
      refine eX9_sums_37 hC ?_
      refine ih (k + 1) _ (by omega) (fun j hj => ?_) (fun a j ha => (zup_a _ _ _ _ ha).trans (hf a j ha))
      by_cases c : j = k + 1
      · subst c; rw [zup_self]; rfl
      · rw [zup_k _ _ _ c]; exact hs j (by omega)
  refine eX9_sums_0 hC ?_
  refine eX9_sums_1 hC ?_
  refine loop (τ 80) 0 μ (by omega) (fun j hj => ?_) (fun _ _ _ => rfl)
  rw [show j = 0 by omega]; exact hz
set_option maxHeartbeats 4000000 in
theorem vX9_paragraphEnd {l : Launch} {g : zG} (hl : l.stackTraces = false) {K : zK} {μ : zF} {m i : Nat} {τ : Nat → Nat} (hR : zRef K m) (hx : zSx μ m τ) (ho : zOk τ) (hi : i < τ 80) : EX9_paragraphEnd l g 0 0 [.ref m, .int (nI i)] K μ (zPi (nI (zpd τ i)) K μ) := by
  obtain ⟨h0, h1, h2, h3, h4, h5, h6, h7, h8, i1, i2, i3, i4, i5, i6, i7, i8⟩ := id hR
  have o1 := ho.1
  have e80 := hx.2 80 (by omega) (by omega) (by omega)
  refine nX9_paragraphEnd hl (fun x hC hQ => ?_)
  have loop : ∀ (d k : Nat), k + d + 1 = τ 80 → i ≤ k → (∀ j, i ≤ j → j < k → ¬ zpe τ j) → zV x 0 0 2 [some (.ref m), some (.int (nI i)), some (.int (nI k))] [] K μ := by
    intro d
    induction d with
    | zero =>
      intro k hk hik hn
      have hz : zpd τ i = k + 1 := zpd_eq (by omega) (by omega) (Or.inr (by omega)) (fun j j1 j2 => hn j j1 (by omega))
      refine eX9_paragraphEnd_2 hC ?_
      refine eX9_paragraphEnd_3 hC ?_
      refine eX9_paragraphEnd_4 hC (by assumption) (by assumption) ?_
      refine eX9_paragraphEnd_7 hC ?_
      refine eX9_paragraphEnd_9 hC (by assumption) (vp_in_nI (by omega) (by omega)) ?_
      rw [nI_clamp (by omega), e80]
      refine eX9_paragraphEnd_10 hC ?_
      refine eX9_paragraphEnd_11 hC ?_
      rw [nI_sub (by omega)]
      refine eX9_paragraphEnd_12 hC (fun _ => ?_) (fun zz => absurd (nI_le (by omega) (by omega)) zz)
      refine eX9_paragraphEnd_34 hC ?_
      refine eX9_paragraphEnd_35 hC ?_
      refine eX9_paragraphEnd_36 hC ?_
      rw [nI_add]
      refine eX9_paragraphEnd_37 hC hQ (Nat.le_of_ble_eq_true rfl) (Nat.le_of_ble_eq_true rfl) ?_
      rw [hz]
      exact ⟨rfl, rfl, rfl⟩
    | succ d ih =>
      intro k hk hik hn
      have ek := (hx.1 k (by omega)).2
      have m2 := ho.2.2.1 k (by omega)
      by_cases c : τ (40 + k) = 2
      · have hz : zpd τ i = k + 1 := zpd_eq (by omega) (by omega) (Or.inl c) (fun j j1 j2 => hn j j1 (by omega))
        refine eX9_paragraphEnd_2 hC ?_
        refine eX9_paragraphEnd_3 hC ?_
        refine eX9_paragraphEnd_4 hC (by assumption) (by assumption) ?_
        refine eX9_paragraphEnd_7 hC ?_
        refine eX9_paragraphEnd_9 hC (by assumption) (vp_in_nI (by omega) (by omega)) ?_
        rw [nI_clamp (by omega), e80]
        refine eX9_paragraphEnd_10 hC ?_
        refine eX9_paragraphEnd_11 hC ?_
        rw [nI_sub (by omega)]
        refine eX9_paragraphEnd_12 hC (fun zz => absurd zz (nI_ge (by omega) (by omega))) (fun _ => ?_)
        refine eX9_paragraphEnd_15 hC ?_
        refine eX9_paragraphEnd_16 hC (by assumption) (by assumption) ?_
        refine eX9_paragraphEnd_19 hC ?_
        refine eX9_paragraphEnd_21 hC ?_
        refine eX9_paragraphEnd_22 hC ?_
        rw [nI_add]
        refine eX9_paragraphEnd_23 hC (by assumption) (vp_in_nI (by omega) (by omega)) ?_
        rw [nI_clamp (by omega), ek]
        refine eX9_paragraphEnd_24 hC ?_
        refine eX9_paragraphEnd_25 hC (fun _ => ?_) (fun zz => absurd (by rw [c]) zz)
        refine eX9_paragraphEnd_34 hC ?_
        refine eX9_paragraphEnd_35 hC ?_
        refine eX9_paragraphEnd_36 hC ?_
        rw [nI_add]
        refine eX9_paragraphEnd_37 hC hQ (Nat.le_of_ble_eq_true rfl) (Nat.le_of_ble_eq_true rfl) ?_
        rw [hz]
        exact ⟨rfl, rfl, rfl⟩
      · refine eX9_paragraphEnd_2 hC ?_
        refine eX9_paragraphEnd_3 hC ?_
        refine eX9_paragraphEnd_4 hC (by assumption) (by assumption) ?_
        refine eX9_paragraphEnd_7 hC ?_
        refine eX9_paragraphEnd_9 hC (by assumption) (vp_in_nI (by omega) (by omega)) ?_
        rw [nI_clamp (by omega), e80]
        refine eX9_paragraphEnd_10 hC ?_
        refine eX9_paragraphEnd_11 hC ?_
        rw [nI_sub (by omega)]
        refine eX9_paragraphEnd_12 hC (fun zz => absurd zz (nI_ge (by omega) (by omega))) (fun _ => ?_)
        refine eX9_paragraphEnd_15 hC ?_
        refine eX9_paragraphEnd_16 hC (by assumption) (by assumption) ?_
        refine eX9_paragraphEnd_19 hC ?_
        refine eX9_paragraphEnd_21 hC ?_
        refine eX9_paragraphEnd_22 hC ?_
        rw [nI_add]
        refine eX9_paragraphEnd_23 hC (by assumption) (vp_in_nI (by omega) (by omega)) ?_
        rw [nI_clamp (by omega), ek]
        refine eX9_paragraphEnd_24 hC ?_
        refine eX9_paragraphEnd_25 hC (fun zz => absurd zz (fun q => c (nI_inj (by omega) (by omega) q))) (fun _ => ?_)
        refine eX9_paragraphEnd_28 hC ?_
        rw [nI_add]
        refine eX9_paragraphEnd_31 hC ?_
        refine ih (k + 1) (by omega) (by omega) (fun j j1 j2 => ?_)
        rcases Nat.eq_or_lt_of_le (show j ≤ k by omega) with z | z
        · subst z
          rintro (z | z)
          · exact c z
          · omega
        · exact hn j j1 z
  refine eX9_paragraphEnd_0 hC ?_
  refine eX9_paragraphEnd_1 hC ?_
  exact loop (τ 80 - 1 - i) i (by omega) (Nat.le_refl _) (fun j j1 j2 => by omega)
set_option maxHeartbeats 4000000 in
theorem vX9_goesOn {l : Launch} {g : zG} (hl : l.stackTraces = false) {K : zK} {μ : zF} {m i e : Nat} {τ : Nat → Nat} (hR : zRef K m) (hx : zSx μ m τ) (hu : zSu μ m τ) (ho : zOk τ) (hi : i < e) (he : e + 1 ≤ τ 80) : EX9_goesOn l g 0 0 [.ref m, .int (nI i), .int (nI e), .int (nI (τ 81))] K μ (zPi (zBv (τ (40 + (e - 1)) ≠ 1 ∧ zwd τ i (e + 1) ≤ τ 81)) K μ) := by
  obtain ⟨h0, h1, h2, h3, h4, h5, h6, h7, h8, i1, i2, i3, i4, i5, i6, i7, i8⟩ := id hR
  have o1 := ho.1
  have o2 := ho.2.2.2.1
  have ek := (hx.1 (e - 1) (by omega)).2
  have m2 := ho.2.2.1 (e - 1) (by omega)
  have w2 := zwd_le ho (i := i) (j := e + 1) (by omega)
  refine nX9_goesOn hl (fun x hC hQ => ?_)
  by_cases c1 : τ (40 + (e - 1)) = 1
  · refine eX9_goesOn_0 hC ?_
    refine eX9_goesOn_1 hC (by assumption) (by assumption) ?_
    refine eX9_goesOn_4 hC ?_
    refine eX9_goesOn_6 hC ?_
    refine eX9_goesOn_7 hC ?_
    rw [nI_add]
    refine eX9_goesOn_8 hC ?_
    refine eX9_goesOn_9 hC ?_
    rw [nI_sub (by omega), show 40 + e - 1 = 40 + (e - 1) by omega]
    refine eX9_goesOn_10 hC (by assumption) (vp_in_nI (by omega) (by omega)) ?_
    rw [nI_clamp (by omega), ek]
    refine eX9_goesOn_11 hC ?_
    refine eX9_goesOn_12 hC (fun _ => ?_) (fun zz => absurd (by rw [c1]) zz)
    refine eX9_goesOn_31 hC ?_
    refine eX9_goesOn_32 hC hQ (Nat.le_of_ble_eq_true rfl) (Nat.le_of_ble_eq_true rfl) (by first | (left; rfl) | (right; rfl) | assumption) ?_
    exact ⟨by rw [zBv_f (p := τ (40 + (e - 1)) ≠ 1 ∧ zwd τ i (e + 1) ≤ τ 81) (fun q => q.1 c1)], rfl, rfl⟩
  · by_cases c2 : zwd τ i (e + 1) ≤ τ 81
    · refine eX9_goesOn_0 hC ?_
      refine eX9_goesOn_1 hC (by assumption) (by assumption) ?_
      refine eX9_goesOn_4 hC ?_
      refine eX9_goesOn_6 hC ?_
      refine eX9_goesOn_7 hC ?_
      rw [nI_add]
      refine eX9_goesOn_8 hC ?_
      refine eX9_goesOn_9 hC ?_
      rw [nI_sub (by omega), show 40 + e - 1 = 40 + (e - 1) by omega]
      refine eX9_goesOn_10 hC (by assumption) (vp_in_nI (by omega) (by omega)) ?_
      rw [nI_clamp (by omega), ek]
      refine eX9_goesOn_11 hC ?_
      refine eX9_goesOn_12 hC (fun zz => absurd zz (fun q => c1 (nI_inj (by omega) (by omega) q))) (fun _ => ?_)
      refine eX9_goesOn_15 hC ?_
      refine eX9_goesOn_16 hC ?_
      refine eX9_goesOn_17 hC ?_
      refine eX9_goesOn_18 hC ?_
      refine eX9_goesOn_19 hC ?_
      rw [nI_add]
      refine eX9_goesOn_20 hC (Nat.le_of_ble_eq_true rfl) (Nat.le_of_ble_eq_true rfl) (Nat.le_of_ble_eq_true rfl) (by assumption) (vX9_width hC.nt hR hx hu ho (by omega) (by omega)) (zk_i ?_)
      refine eX9_goesOn_23 hC ?_
      refine eX9_goesOn_24 hC (fun zz => absurd zz (nI_nlt c2 (by omega))) (fun _ => ?_)
      refine eX9_goesOn_27 hC ?_
      refine eX9_goesOn_28 hC ?_
      refine eX9_goesOn_32 hC hQ (Nat.le_of_ble_eq_true rfl) (Nat.le_of_ble_eq_true rfl) (by first | (left; rfl) | (right; rfl) | assumption) ?_
      exact ⟨by rw [zBv_t (p := τ (40 + (e - 1)) ≠ 1 ∧ zwd τ i (e + 1) ≤ τ 81) ⟨c1, c2⟩], rfl, rfl⟩
    · refine eX9_goesOn_0 hC ?_
      refine eX9_goesOn_1 hC (by assumption) (by assumption) ?_
      refine eX9_goesOn_4 hC ?_
      refine eX9_goesOn_6 hC ?_
      refine eX9_goesOn_7 hC ?_
      rw [nI_add]
      refine eX9_goesOn_8 hC ?_
      refine eX9_goesOn_9 hC ?_
      rw [nI_sub (by omega), show 40 + e - 1 = 40 + (e - 1) by omega]
      refine eX9_goesOn_10 hC (by assumption) (vp_in_nI (by omega) (by omega)) ?_
      rw [nI_clamp (by omega), ek]
      refine eX9_goesOn_11 hC ?_
      refine eX9_goesOn_12 hC (fun zz => absurd zz (fun q => c1 (nI_inj (by omega) (by omega) q))) (fun _ => ?_)
      refine eX9_goesOn_15 hC ?_
      refine eX9_goesOn_16 hC ?_
      refine eX9_goesOn_17 hC ?_
      refine eX9_goesOn_18 hC ?_
      refine eX9_goesOn_19 hC ?_
      rw [nI_add]
      refine eX9_goesOn_20 hC (Nat.le_of_ble_eq_true rfl) (Nat.le_of_ble_eq_true rfl) (Nat.le_of_ble_eq_true rfl) (by assumption) (vX9_width hC.nt hR hx hu ho (by omega) (by omega)) (zk_i ?_)
      refine eX9_goesOn_23 hC ?_
      refine eX9_goesOn_24 hC (fun _ => ?_) (fun zz => absurd (nI_lt (by omega) (by omega)) zz)
      refine eX9_goesOn_31 hC ?_
      refine eX9_goesOn_32 hC hQ (Nat.le_of_ble_eq_true rfl) (Nat.le_of_ble_eq_true rfl) (by first | (left; rfl) | (right; rfl) | assumption) ?_
      exact ⟨by rw [zBv_f (p := τ (40 + (e - 1)) ≠ 1 ∧ zwd τ i (e + 1) ≤ τ 81) (fun q => c2 q.2)], rfl, rfl⟩
set_option maxHeartbeats 4000000 in
theorem vX9_trend {l : Launch} {g : zG} (hl : l.stackTraces = false) {K : zK} {μ : zF} {m a b : Nat} {τ : Nat → Nat} (hR : zRef K m) (hx : zSx μ m τ) (ho : zOk τ) (ha : a < 2 ^ 20) (hb : b < 2 ^ 20) : EX9_trend l g 0 0 [.ref m, .int (nI a), .int (nI b)] K μ (zPi (nI (ztn τ a b)) K μ) := by
  obtain ⟨h0, h1, h2, h3, h4, h5, h6, h7, h8, i1, i2, i3, i4, i5, i6, i7, i8⟩ := id hR
  have e83 := hx.2 83 (by omega) (by omega) (by omega)
  have o2 := ho.2.2.2.2.2.1
  refine nX9_trend hl (fun x hC hQ => ?_)
  by_cases c1 : b + τ 83 ≤ a
  · have hz : ztn τ a b = 0 := by unfold ztn; rw [if_pos c1]
    refine eX9_trend_0 hC ?_
    refine eX9_trend_1 hC ?_
    refine eX9_trend_2 hC ?_
    refine eX9_trend_3 hC (by assumption) (by assumption) ?_
    refine eX9_trend_6 hC ?_
    refine eX9_trend_8 hC (by assumption) (vp_in_nI (by omega) (by omega)) ?_
    rw [nI_clamp (by omega), e83]
    refine eX9_trend_9 hC ?_
    refine eX9_trend_10 hC (fun zz => absurd zz (fun c => absurd ((nI_sle (by omega) (by omega) (by omega)).mpr c1) (Int32.not_le.mpr c))) (fun _ => ?_)
    refine eX9_trend_13 hC ?_
    refine eX9_trend_14 hC ?_
    refine eX9_trend_35 hC hQ (Nat.le_of_ble_eq_true rfl) (Nat.le_of_ble_eq_true rfl) ?_
    rw [hz]
    exact ⟨rfl, rfl, rfl⟩
  · by_cases c2 : a + τ 83 ≤ b
    · have hz : ztn τ a b = 2 := by unfold ztn; rw [if_neg c1, if_pos c2]
      refine eX9_trend_0 hC ?_
      refine eX9_trend_1 hC ?_
      refine eX9_trend_2 hC ?_
      refine eX9_trend_3 hC (by assumption) (by assumption) ?_
      refine eX9_trend_6 hC ?_
      refine eX9_trend_8 hC (by assumption) (vp_in_nI (by omega) (by omega)) ?_
      rw [nI_clamp (by omega), e83]
      refine eX9_trend_9 hC ?_
      refine eX9_trend_10 hC (fun _ => ?_) (fun zz => absurd (Int32.not_le.mp (fun c => c1 ((nI_sle (by omega) (by omega) (by omega)).mp c))) zz)
      refine eX9_trend_17 hC ?_
      refine eX9_trend_18 hC ?_
      refine eX9_trend_19 hC ?_
      refine eX9_trend_20 hC (by assumption) (by assumption) ?_
      refine eX9_trend_23 hC ?_
      refine eX9_trend_25 hC (by assumption) (vp_in_nI (by omega) (by omega)) ?_
      rw [nI_clamp (by omega), e83]
      refine eX9_trend_26 hC ?_
      rw [nI_add]
      refine eX9_trend_27 hC (fun zz => absurd zz (nI_nlt c2 (by omega))) (fun _ => ?_)
      refine eX9_trend_30 hC ?_
      refine eX9_trend_31 hC ?_
      refine eX9_trend_35 hC hQ (Nat.le_of_ble_eq_true rfl) (Nat.le_of_ble_eq_true rfl) ?_
      rw [hz]
      exact ⟨rfl, rfl, rfl⟩
    · have hz : ztn τ a b = 1 := by unfold ztn; rw [if_neg c1, if_neg c2]
      refine eX9_trend_0 hC ?_
      refine eX9_trend_1 hC ?_
      refine eX9_trend_2 hC ?_
      refine eX9_trend_3 hC (by assumption) (by assumption) ?_
      refine eX9_trend_6 hC ?_
      refine eX9_trend_8 hC (by assumption) (vp_in_nI (by omega) (by omega)) ?_
      rw [nI_clamp (by omega), e83]
      refine eX9_trend_9 hC ?_
      refine eX9_trend_10 hC (fun _ => ?_) (fun zz => absurd (Int32.not_le.mp (fun c => c1 ((nI_sle (by omega) (by omega) (by omega)).mp c))) zz)
      refine eX9_trend_17 hC ?_
      refine eX9_trend_18 hC ?_
      refine eX9_trend_19 hC ?_
      refine eX9_trend_20 hC (by assumption) (by assumption) ?_
      refine eX9_trend_23 hC ?_
      refine eX9_trend_25 hC (by assumption) (vp_in_nI (by omega) (by omega)) ?_
      rw [nI_clamp (by omega), e83]
      refine eX9_trend_26 hC ?_
      rw [nI_add]
      refine eX9_trend_27 hC (fun _ => ?_) (fun zz => absurd (nI_lt (by omega) (by omega)) zz)
      refine eX9_trend_34 hC ?_
      refine eX9_trend_35 hC hQ (Nat.le_of_ble_eq_true rfl) (Nat.le_of_ble_eq_true rfl) ?_
      rw [hz]
      exact ⟨rfl, rfl, rfl⟩
def zat (b i u : Nat) : Nat := 3 * (41 * b + i) + u
theorem vX9_at {l : Launch} {g : zG} (hl : l.stackTraces = false) {K : zK} {μ : zF} {b i u : Nat} : EX9_at l g 0 0 [.int (nI b), .int (nI i), .int (nI u)] K μ (zPi (nI (zat b i u)) K μ) := by
  refine nX9_at hl (fun x hC hQ => ?_)
  refine eX9_at_0 hC ?_
  refine eX9_at_1 hC ?_
  refine eX9_at_3 hC ?_
  refine eX9_at_4 hC ?_
  rw [pk_mul]
  refine eX9_at_5 hC ?_
  refine eX9_at_6 hC ?_
  rw [nI_add]
  refine eX9_at_7 hC ?_
  rw [pk_mul]
  refine eX9_at_8 hC ?_
  refine eX9_at_9 hC ?_
  rw [nI_add]
  refine eX9_at_10 hC hQ (Nat.le_of_ble_eq_true rfl) (Nat.le_of_ble_eq_true rfl) ?_
  exact ⟨rfl, rfl, rfl⟩
/-! what a line may take, as the reference asks it; the lines in a score -/
theorem zgo_ref {τ : Nat → Nat} (ho : zOk τ) {i e : Nat} (hi80 : i < τ 80) (hi : i < e) (he : e < zpd τ i) : zgo τ i e ↔ (τ (40 + (e - 1)) ≠ 1 ∧ zwd τ i (e + 1) ≤ τ 81) := by
  obtain ⟨p1, p2, p3, p4⟩ := zpd_is hi80
  have m2 := ho.2.2.1 (e - 1) (by omega)
  have n2 : τ (40 + (e - 1)) ≠ 2 := fun q => p4 (e - 1) (by omega) (by omega) (Or.inl q)
  constructor
  · rintro ⟨-, q1, q2⟩
    exact ⟨by omega, q2⟩
  · rintro ⟨q1, q2⟩
    exact ⟨by omega, by omega, q2⟩
theorem zca_mod {τ : Nat → Nat} (ho : zOk τ) {P : Nat} (hP : P ≤ τ 80) (hpd : ∀ i, i < P → zrc τ i ≤ P) : ∀ (q i : Nat) (f : Bool) (b t j : Nat), P - i ≤ q → i < j → j ≤ P → zca τ P f b i t j % 64 ≤ P - i
  | 0, i, f, b, t, j, h0, h1, h2 => by omega
  | q + 1, i, f, b, t, j, h0, h1, h2 => by
    have o1 := ho.1
    unfold zca zcd
    split
    · generalize (if f = false ∧ 4 * zwd τ i j < τ 81 then τ 85 else 0) = y
      omega
    · rename_i hj
      generalize hu : (if f then 1 else ztn τ (zwd τ b i) (zwd τ i j)) = u
      generalize (if u ≠ 1 ∧ u = t then τ 84 else 0) = y
      generalize (τ 81 - zwd τ i j) * (τ 81 - zwd τ i j) = z
      have h4 : zsc τ P i j u % 64 ≤ P - j := by
        rw [zsc_eq hP hpd (show j < P by omega)]
        have hr := hpd j (by omega)
        obtain ⟨r1, -⟩ := zrc_is τ j
        obtain ⟨g1, g2, -⟩ := zbs_is (zca τ P false i j u) j (zrc τ j - j - 1)
        exact zca_mod ho hP hpd q j false i u _ (by omega) g1 (by unfold zch; omega)
      omega
theorem zsc_mod {τ : Nat → Nat} (ho : zOk τ) {P : Nat} (hP : P ≤ τ 80) (hpd : ∀ i, i < P → zrc τ i ≤ P) {b i t : Nat} (hi : i < P) : zsc τ P b i t % 64 ≤ P - i ∧ zsc τ P b i t ≤ 1280001 * (P - i) := by
  rw [zsc_eq hP hpd hi]
  have hr := hpd i hi
  obtain ⟨g1, g2, -⟩ := zch_is (τ := τ) P false b i t
  exact ⟨zca_mod ho hP hpd (P - i) i false b t _ (Nat.le_refl _) g1 (by omega), zca_bd ho hP hpd (P - i) i false b t _ (Nat.le_refl _) g1 (by omega)⟩
theorem zne_m1 {v : Nat} (h : v < 2 ^ 31) : ¬ nI v = -1 := fun q => nI_pos h (by rw [q]; decide)
theorem zup_id (μ : zF) (a k : Nat) : zup μ a k (μ a k) = μ := by
  funext c j
  unfold zup
  by_cases h : c = a ∧ j = k
  · obtain ⟨rfl, rfl⟩ := h
    rw [if_pos ⟨rfl, rfl⟩]
  · rw [if_neg h]
