/-! ===== words put in, taken out ===== -/
set_option maxHeartbeats 4000000 in
theorem vX7_putWord {l : Launch} {g : zG} (hl : l.stackTraces = false) {K : zK} {μ : zF} {t i w m : Nat} {τ : Nat → Nat} (h : zTxt K t) (hv : zTv μ t τ) (hn : τ 80 < 40) (hi : i ≤ τ 80) : EX7_putWord l g 0 0 [.ref t, .int (nI i), .int (nI w), .int (nI m)] K μ (zPw K (fun μ' => zTv μ' t (zIns τ i w m) ∧ zAg μ μ' t (t + 5))) := by
  obtain ⟨h0, h1, h2, h3, h4⟩ := h
  obtain ⟨v1, v2, v3⟩ := hv
  have e2 : μ t 2 = nI (τ 80) := v3 2 (by omega) (by omega)
  refine nX7_putWord hl (fun x hC hQ => ?_)
  refine eX7_putWord_0 hC ?_
  refine eX7_putWord_1 hC (by assumption) ?_
  refine eX7_putWord_4 hC ?_
  rw [e2]
  refine eX7_putWord_6 hC (fun zz => absurd zz (nI_ge hn (by omega))) (fun _ => ?_)
  refine eX7_putWord_9 hC ?_
  refine eX7_putWord_10 hC (by assumption) (by assumption) ?_
  refine eX7_putWord_13 hC ?_
  refine eX7_putWord_14 hC ?_
  refine eX7_putWord_15 hC (Nat.le_of_ble_eq_true rfl) (Nat.le_of_ble_eq_true rfl) (Nat.le_of_ble_eq_true rfl) (by first | assumption | exact zRow.o (by assumption)) (vX6_putBetween hC.nt h3 (by omega)) (zk_w (fun μ_15 m_15 => ?_))
  refine eX7_putWord_18 hC ?_
  refine eX7_putWord_19 hC (by assumption) (by assumption) ?_
  refine eX7_putWord_22 hC ?_
  refine eX7_putWord_23 hC ?_
  refine eX7_putWord_24 hC (Nat.le_of_ble_eq_true rfl) (Nat.le_of_ble_eq_true rfl) (Nat.le_of_ble_eq_true rfl) (by first | assumption | exact zRow.o (by assumption)) (vX6_putBetween hC.nt h4 (by omega)) (zk_w (fun μ_24 m_24 => ?_))
  have F1 : ∀ k, k < 40 → μ_24 (t + 2) k = nI (zIns τ i w m k) := fun k hk => by
    have a1 := v1 k hk
    have a2 := v1 (k - 1) (by omega)
    subst m_24; subst m_15
    grind [zins, zIns]
  have F2 : ∀ k, k < 40 → μ_24 (t + 4) k = nI (zIns τ i w m (40 + k)) := fun k hk => by
    have a1 := v2 k hk
    have a2 := v2 (k - 1) (by omega)
    subst m_24; subst m_15
    grind [zins, zIns]
  have G : ∀ b j, b ≠ t + 2 → b ≠ t + 4 → μ_24 b j = μ b j := fun b j hb hc => by
    subst m_24; subst m_15
    grind [zins]
  refine eX7_putWord_27 hC ?_
  refine eX7_putWord_28 hC ?_
  refine eX7_putWord_29 hC (by assumption) ?_
  refine eX7_putWord_32 hC ?_
  refine eX7_putWord_33 hC ?_
  rw [G t 2 (by omega) (by omega), e2, nI_add]
  refine eX7_putWord_34 hC (by assumption) ?_
  refine eX7_putWord_37 hC hQ (Nat.le_of_ble_eq_true rfl) (Nat.le_of_ble_eq_true rfl) ?_
  refine ⟨rfl, rfl, ⟨fun k hk => ?_, fun k hk => ?_, fun k k1 k2 => ?_⟩, fun b j hb => ?_⟩
  · rw [zup_a _ _ _ _ (by omega)]; exact F1 k hk
  · rw [zup_a _ _ _ _ (by omega)]; exact F2 k hk
  · have a := v3 k k1 k2
    have b := G t k (by omega) (by omega)
    by_cases hk : k = 2
    · subst hk; rw [zup_self]; simp [zIns]
    · rw [zup_k _ _ _ hk, b, a]
      simp only [zIns]
      rw [if_neg (by omega), if_neg (by omega), if_neg (by omega)]
  · rw [zup_a _ _ _ _ (by omega)]; exact G b j (by omega) (by omega)
set_option maxHeartbeats 4000000 in
theorem vX7_dropWord {l : Launch} {g : zG} (hl : l.stackTraces = false) {K : zK} {μ : zF} {t i : Nat} {τ : Nat → Nat} (h : zTxt K t) (hv : zTv μ t τ) (hn : τ 80 ≤ 40) (hi : i < τ 80) : EX7_dropWord l g 0 0 [.ref t, .int (nI i)] K μ (zPw K (fun μ' => zTv μ' t (zDrp τ i) ∧ zAg μ μ' t (t + 5))) := by
  obtain ⟨h0, h1, h2, h3, h4⟩ := h
  obtain ⟨v1, v2, v3⟩ := hv
  have e2 : μ t 2 = nI (τ 80) := v3 2 (by omega) (by omega)
  refine nX7_dropWord hl (fun x hC hQ => ?_)
  refine eX7_dropWord_0 hC ?_
  refine eX7_dropWord_1 hC (by assumption) ?_
  rw [e2]
  refine eX7_dropWord_4 hC (fun zz => absurd zz (nI_nle (by omega) (by omega))) (fun _ => ?_)
  refine eX7_dropWord_7 hC ?_
  refine eX7_dropWord_8 hC (by assumption) (by assumption) ?_
  refine eX7_dropWord_11 hC ?_
  refine eX7_dropWord_12 hC (Nat.le_of_ble_eq_true rfl) (Nat.le_of_ble_eq_true rfl) (Nat.le_of_ble_eq_true rfl) (by first | assumption | exact zRow.o (by assumption)) (vX6_dropAt hC.nt h3 (by omega)) (zk_w (fun μ_12 m_12 => ?_))
  refine eX7_dropWord_15 hC ?_
  refine eX7_dropWord_16 hC (by assumption) (by assumption) ?_
  refine eX7_dropWord_19 hC ?_
  refine eX7_dropWord_20 hC (Nat.le_of_ble_eq_true rfl) (Nat.le_of_ble_eq_true rfl) (Nat.le_of_ble_eq_true rfl) (by first | assumption | exact zRow.o (by assumption)) (vX6_dropAt hC.nt h4 (by omega)) (zk_w (fun μ_20 m_20 => ?_))
  have F1 : ∀ k, k < 40 → μ_20 (t + 2) k = nI (zDrp τ i k) := fun k hk => by
    have a1 := v1 k hk
    have a2 := v1 (k + 1)
    subst m_20; subst m_12
    grind [zdrp, zDrp]
  have F2 : ∀ k, k < 40 → μ_20 (t + 4) k = nI (zDrp τ i (40 + k)) := fun k hk => by
    have a1 := v2 k hk
    have a2 := v2 (k + 1)
    subst m_20; subst m_12
    grind [zdrp, zDrp]
  have G : ∀ b j, b ≠ t + 2 → b ≠ t + 4 → μ_20 b j = μ b j := fun b j hb hc => by
    subst m_20; subst m_12
    grind [zdrp]
  refine eX7_dropWord_23 hC ?_
  refine eX7_dropWord_24 hC ?_
  refine eX7_dropWord_25 hC (by assumption) ?_
  refine eX7_dropWord_28 hC ?_
  refine eX7_dropWord_29 hC ?_
  rw [G t 2 (by omega) (by omega), e2, nI_sub (by omega)]
  refine eX7_dropWord_30 hC (by assumption) ?_
  refine eX7_dropWord_33 hC hQ (Nat.le_of_ble_eq_true rfl) (Nat.le_of_ble_eq_true rfl) ?_
  refine ⟨rfl, rfl, ⟨fun k hk => ?_, fun k hk => ?_, fun k k1 k2 => ?_⟩, fun b j hb => ?_⟩
  · rw [zup_a _ _ _ _ (by omega)]; exact F1 k hk
  · rw [zup_a _ _ _ _ (by omega)]; exact F2 k hk
  · have a := v3 k k1 k2
    have b := G t k (by omega) (by omega)
    by_cases hk : k = 2
    · subst hk; rw [zup_self]; simp [zDrp]
    · rw [zup_k _ _ _ hk, b, a]
      simp only [zDrp]
      rw [if_neg (by omega), if_neg (by omega), if_neg (by omega)]
  · rw [zup_a _ _ _ _ (by omega)]; exact G b j (by omega) (by omega)
