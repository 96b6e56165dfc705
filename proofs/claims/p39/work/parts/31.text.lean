/-! ===== texts ===== -/
set_option maxHeartbeats 4000000 in
theorem vX7_turn {l : Launch} {g : zG} (hl : l.stackTraces = false) {K : zK} {μ : zF} {t a b : Nat} {τ : Nat → Nat} (h : zTxt K t) (hv : zTv μ t τ) (ha : a < 2 ^ 20) (hb : b < 2 ^ 20) (hs : τ 83 < 2 ^ 20) : EX7_turn l g 0 0 [.ref t, .int (nI a), .int (nI b)] K μ (zPi (nI (ztn τ a b) - nI 1) K μ) := by
  obtain ⟨h0, h1, h2, h3, h4⟩ := h
  have hst : μ t 5 = nI (τ 83) := hv.2.2 5 (by omega) (by omega)
  refine nX7_turn hl (fun x hC hQ => ?_)
  by_cases c1 : b + τ 83 ≤ a
  · have hz : ztn τ a b = 0 := by unfold ztn; rw [if_pos c1]
    refine eX7_turn_0 hC ?_
    refine eX7_turn_1 hC ?_
    refine eX7_turn_2 hC ?_
    refine eX7_turn_3 hC (by assumption) ?_
    rw [hst]
    refine eX7_turn_6 hC ?_
    refine eX7_turn_7 hC (fun zz => absurd zz (fun c => absurd ((nI_sle (by omega) (by omega) (by omega)).mpr c1) (Int32.not_le.mpr c))) (fun _ => ?_)
    refine eX7_turn_10 hC ?_
    refine eX7_turn_11 hC hQ (Nat.le_of_ble_eq_true rfl) (Nat.le_of_ble_eq_true rfl) ?_
    rw [hz]
    exact ⟨rfl, rfl, rfl⟩
  · by_cases c2 : a + τ 83 ≤ b
    · have hz : ztn τ a b = 2 := by unfold ztn; rw [if_neg c1, if_pos c2]
      refine eX7_turn_0 hC ?_
      refine eX7_turn_1 hC ?_
      refine eX7_turn_2 hC ?_
      refine eX7_turn_3 hC (by assumption) ?_
      rw [hst]
      refine eX7_turn_6 hC ?_
      refine eX7_turn_7 hC (fun _ => ?_) (fun zz => absurd (Int32.not_le.mp (fun c => c1 ((nI_sle (by omega) (by omega) (by omega)).mp c))) zz)
      refine eX7_turn_12 hC ?_
      refine eX7_turn_13 hC ?_
      refine eX7_turn_14 hC ?_
      refine eX7_turn_15 hC (by assumption) ?_
      rw [hst]
      refine eX7_turn_18 hC ?_
      rw [nI_add]
      refine eX7_turn_19 hC (fun zz => absurd zz (nI_nlt c2 (by omega))) (fun _ => ?_)
      refine eX7_turn_22 hC ?_
      refine eX7_turn_23 hC ?_
      refine eX7_turn_27 hC hQ (Nat.le_of_ble_eq_true rfl) (Nat.le_of_ble_eq_true rfl) ?_
      rw [hz]
      exact ⟨rfl, rfl, rfl⟩
    · have hz : ztn τ a b = 1 := by unfold ztn; rw [if_neg c1, if_neg c2]
      refine eX7_turn_0 hC ?_
      refine eX7_turn_1 hC ?_
      refine eX7_turn_2 hC ?_
      refine eX7_turn_3 hC (by assumption) ?_
      rw [hst]
      refine eX7_turn_6 hC ?_
      refine eX7_turn_7 hC (fun _ => ?_) (fun zz => absurd (Int32.not_le.mp (fun c => c1 ((nI_sle (by omega) (by omega) (by omega)).mp c))) zz)
      refine eX7_turn_12 hC ?_
      refine eX7_turn_13 hC ?_
      refine eX7_turn_14 hC ?_
      refine eX7_turn_15 hC (by assumption) ?_
      rw [hst]
      refine eX7_turn_18 hC ?_
      rw [nI_add]
      refine eX7_turn_19 hC (fun _ => ?_) (fun zz => absurd (nI_lt (by omega) (by omega)) zz)
      refine eX7_turn_26 hC ?_
      refine eX7_turn_27 hC hQ (Nat.le_of_ble_eq_true rfl) (Nat.le_of_ble_eq_true rfl) ?_
      rw [hz]
      exact ⟨rfl, rfl, rfl⟩
set_option maxHeartbeats 4000000 in
theorem vX7_slackCost {l : Launch} {g : zG} (hl : l.stackTraces = false) {K : zK} {μ : zF} {t a : Nat} {τ : Nat → Nat} (h : zTxt K t) (hv : zTv μ t τ) (ha : a ≤ τ 81) : EX7_slackCost l g 0 0 [.ref t, .int (nI a)] K μ (zPi (nI ((τ 81 - a) * (τ 81 - a))) K μ) := by
  obtain ⟨h0, h1, h2, h3, h4⟩ := h
  have hst : μ t 3 = nI (τ 81) := hv.2.2 3 (by omega) (by omega)
  refine nX7_slackCost hl (fun x hC hQ => ?_)
  refine eX7_slackCost_0 hC ?_
  refine eX7_slackCost_1 hC (by assumption) ?_
  refine eX7_slackCost_4 hC ?_
  refine eX7_slackCost_5 hC ?_
  rw [hst, nI_sub ha]
  refine eX7_slackCost_6 hC ?_
  refine eX7_slackCost_7 hC ?_
  refine eX7_slackCost_8 hC ?_
  refine eX7_slackCost_9 hC ?_
  rw [pk_mul]
  refine eX7_slackCost_10 hC hQ (Nat.le_of_ble_eq_true rfl) (Nat.le_of_ble_eq_true rfl) ?_
  exact ⟨rfl, rfl, rfl⟩
set_option maxHeartbeats 4000000 in
theorem vX7_lastLineCost {l : Launch} {g : zG} (hl : l.stackTraces = false) {K : zK} {μ : zF} {t a : Nat} {τ : Nat → Nat} {f : Prop} [Decidable f] (h : zTxt K t) (hv : zTv μ t τ) (ha : a < 2 ^ 20) (hc : τ 81 < 2 ^ 20) {v : Int32} (hf : v = zBv f) : EX7_lastLineCost l g 0 0 [.ref t, .int (nI a), .int v] K μ (zPi (nI (if ¬ f ∧ 4 * a < τ 81 then τ 85 else 0)) K μ) := by
  obtain ⟨h0, h1, h2, h3, h4⟩ := h
  have hst : μ t 3 = nI (τ 81) := hv.2.2 3 (by omega) (by omega)
  have hst2 : μ t 7 = nI (τ 85) := hv.2.2 7 (by omega) (by omega)
  subst hf
  refine nX7_lastLineCost hl (fun x hC hQ => ?_)
  by_cases c1 : f
  · rw [zBv_t c1]
    refine eX7_lastLineCost_0 hC ?_
    refine eX7_lastLineCost_1 hC (fun _ => ?_) (fun zz => absurd zz zn10)
    refine eX7_lastLineCost_21 hC ?_
    refine eX7_lastLineCost_22 hC hQ (Nat.le_of_ble_eq_true rfl) (Nat.le_of_ble_eq_true rfl) ?_
    rw [if_neg (fun h => h.1 c1)]
    exact ⟨rfl, rfl, rfl⟩
  · rw [zBv_f c1]
    by_cases c2 : 4 * a < τ 81
    · refine eX7_lastLineCost_0 hC ?_
      refine eX7_lastLineCost_1 hC (fun zz => absurd zn00 zz) (fun _ => ?_)
      refine eX7_lastLineCost_4 hC ?_
      refine eX7_lastLineCost_5 hC ?_
      refine eX7_lastLineCost_6 hC ?_
      refine eX7_lastLineCost_7 hC ?_
      refine eX7_lastLineCost_8 hC (by assumption) ?_
      rw [pk_mul, hst]
      refine eX7_lastLineCost_11 hC (fun zz => absurd zz (nI_ge c2 (by omega))) (fun _ => ?_)
      refine eX7_lastLineCost_14 hC ?_
      refine eX7_lastLineCost_15 hC (by assumption) ?_
      refine eX7_lastLineCost_18 hC ?_
      rw [hst2]
      refine eX7_lastLineCost_22 hC hQ (Nat.le_of_ble_eq_true rfl) (Nat.le_of_ble_eq_true rfl) ?_
      rw [if_pos ⟨c1, c2⟩]
      exact ⟨rfl, rfl, rfl⟩
    · refine eX7_lastLineCost_0 hC ?_
      refine eX7_lastLineCost_1 hC (fun zz => absurd zn00 zz) (fun _ => ?_)
      refine eX7_lastLineCost_4 hC ?_
      refine eX7_lastLineCost_5 hC ?_
      refine eX7_lastLineCost_6 hC ?_
      refine eX7_lastLineCost_7 hC ?_
      refine eX7_lastLineCost_8 hC (by assumption) ?_
      rw [pk_mul, hst]
      refine eX7_lastLineCost_11 hC (fun _ => ?_) (fun zz => absurd (nI_le (by omega) (by omega)) zz)
      refine eX7_lastLineCost_21 hC ?_
      refine eX7_lastLineCost_22 hC hQ (Nat.le_of_ble_eq_true rfl) (Nat.le_of_ble_eq_true rfl) ?_
      rw [if_neg (fun h => c2 h.2)]
      exact ⟨rfl, rfl, rfl⟩
set_option maxHeartbeats 4000000 in
theorem vX7_endsParagraph {l : Launch} {g : zG} (hl : l.stackTraces = false) {K : zK} {μ : zF} {t k : Nat} {τ : Nat → Nat} (h : zTxt K t) (hv : zTv μ t τ) (ho : zOk τ) (hk : k < τ 80) : EX7_endsParagraph l g 0 0 [.ref t, .int (nI k)] K μ (zPi (zBv (zpe τ k)) K μ) := by
  obtain ⟨h0, h1, h2, h3, h4⟩ := h
  obtain ⟨o1, o2, o3, -⟩ := ho
  have hm : zrd 40 (μ (t + 3 + 1)) (nI k) = nI (τ (40 + k)) := by
    rw [zrd_in (by omega) (by omega)]; exact hv.2.1 k (by omega)
  have hn : μ t 2 = nI (τ 80) := hv.2.2 2 (by omega) (by omega)
  have := o3 k hk
  refine nX7_endsParagraph hl (fun x hC hQ => ?_)
  by_cases c1 : τ (40 + k) = 2
  · refine eX7_endsParagraph_0 hC ?_
    refine eX7_endsParagraph_1 hC (by assumption) (by assumption) ?_
    refine eX7_endsParagraph_4 hC ?_
    refine eX7_endsParagraph_5 hC (Nat.le_of_ble_eq_true rfl) (Nat.le_of_ble_eq_true rfl) (Nat.le_of_ble_eq_true rfl) (by first | assumption | exact zRow.o (by assumption)) (vX6_at hC.nt (by assumption)) (zk_i ?_)
    rw [hm, c1]
    refine eX7_endsParagraph_8 hC ?_
    refine eX7_endsParagraph_9 hC (fun _ => ?_) (fun zz => absurd rfl zz)
    refine eX7_endsParagraph_22 hC ?_
    refine eX7_endsParagraph_23 hC ?_
    refine eX7_endsParagraph_27 hC hQ (Nat.le_of_ble_eq_true rfl) (Nat.le_of_ble_eq_true rfl) (Or.inr rfl) ?_
    rw [zBv_t (p := zpe τ k) (Or.inl c1)]
    exact ⟨rfl, rfl, rfl⟩
  · by_cases c2 : k + 1 = τ 80
    · refine eX7_endsParagraph_0 hC ?_
      refine eX7_endsParagraph_1 hC (by assumption) (by assumption) ?_
      refine eX7_endsParagraph_4 hC ?_
      refine eX7_endsParagraph_5 hC (Nat.le_of_ble_eq_true rfl) (Nat.le_of_ble_eq_true rfl) (Nat.le_of_ble_eq_true rfl) (by first | assumption | exact zRow.o (by assumption)) (vX6_at hC.nt (by assumption)) (zk_i ?_)
      rw [hm]
      refine eX7_endsParagraph_8 hC ?_
      refine eX7_endsParagraph_9 hC (fun zz => absurd zz (fun c => c1 (nI_inj (by omega) (by omega) c))) (fun _ => ?_)
      refine eX7_endsParagraph_12 hC ?_
      refine eX7_endsParagraph_13 hC ?_
      refine eX7_endsParagraph_14 hC (by assumption) ?_
      refine eX7_endsParagraph_17 hC ?_
      refine eX7_endsParagraph_18 hC ?_
      rw [hn, nI_sub (by omega)]
      refine eX7_endsParagraph_19 hC (fun zz => absurd (by rw [show τ 80 - 1 = k by omega]) zz) (fun _ => ?_)
      refine eX7_endsParagraph_22 hC ?_
      refine eX7_endsParagraph_23 hC ?_
      refine eX7_endsParagraph_27 hC hQ (Nat.le_of_ble_eq_true rfl) (Nat.le_of_ble_eq_true rfl) (Or.inr rfl) ?_
      rw [zBv_t (p := zpe τ k) (Or.inr c2)]
      exact ⟨rfl, rfl, rfl⟩
    · refine eX7_endsParagraph_0 hC ?_
      refine eX7_endsParagraph_1 hC (by assumption) (by assumption) ?_
      refine eX7_endsParagraph_4 hC ?_
      refine eX7_endsParagraph_5 hC (Nat.le_of_ble_eq_true rfl) (Nat.le_of_ble_eq_true rfl) (Nat.le_of_ble_eq_true rfl) (by first | assumption | exact zRow.o (by assumption)) (vX6_at hC.nt (by assumption)) (zk_i ?_)
      rw [hm]
      refine eX7_endsParagraph_8 hC ?_
      refine eX7_endsParagraph_9 hC (fun zz => absurd zz (fun c => c1 (nI_inj (by omega) (by omega) c))) (fun _ => ?_)
      refine eX7_endsParagraph_12 hC ?_
      refine eX7_endsParagraph_13 hC ?_
      refine eX7_endsParagraph_14 hC (by assumption) ?_
      refine eX7_endsParagraph_17 hC ?_
      refine eX7_endsParagraph_18 hC ?_
      rw [hn, nI_sub (by omega)]
      refine eX7_endsParagraph_19 hC (fun _ => ?_) (fun zz => absurd zz (fun c => c2 (by have := nI_inj (by omega) (by omega) c; omega)))
      refine eX7_endsParagraph_26 hC ?_
      refine eX7_endsParagraph_27 hC hQ (Nat.le_of_ble_eq_true rfl) (Nat.le_of_ble_eq_true rfl) (Or.inl rfl) ?_
      rw [zBv_f (p := zpe τ k) (fun h => h.elim c1 c2)]
      exact ⟨rfl, rfl, rfl⟩
set_option maxHeartbeats 4000000 in
theorem vX7_countParagraphs {l : Launch} {g : zG} (hl : l.stackTraces = false) {K : zK} {μ : zF} {t : Nat} {τ : Nat → Nat} (h : zTxt K t) (hv : zTv μ t τ) (ho : zOk τ) : EX7_countParagraphs l g 0 0 [.ref t] K μ (zPi (nI (zct (zpe τ) (τ 80))) K μ) := by
  have hT := h
  obtain ⟨h0, h1, h2, h3, h4⟩ := h
  have o1 := ho.1
  have hn : μ t 2 = nI (τ 80) := hv.2.2 2 (by omega) (by omega)
  refine nX7_countParagraphs hl (fun x hC hQ => ?_)
  have loop : ∀ d k : Nat, k + d = τ 80 → zV x 0 0 4 [some (.ref t), some (.int (nI (zct (zpe τ) k))), some (.int (nI k))] [] K μ := by
    intro d
    induction d with
    | zero =>
      intro k hk
      have hk : k = τ 80 := by omega
      subst hk
      refine eX7_countParagraphs_4 hC ?_
      refine eX7_countParagraphs_5 hC ?_
      refine eX7_countParagraphs_6 hC (by assumption) ?_
      rw [hn]
      refine eX7_countParagraphs_9 hC (fun _ => ?_) (fun zz => absurd (nI_le (Nat.le_refl _) (by omega)) zz)
      refine eX7_countParagraphs_29 hC ?_
      refine eX7_countParagraphs_30 hC hQ (Nat.le_of_ble_eq_true rfl) (Nat.le_of_ble_eq_true rfl) ?_
      exact ⟨rfl, rfl, rfl⟩
    | succ d ih =>
      intro k hk
      have ih' := ih (k + 1) (by omega)
      by_cases c : zpe τ k
      · rw [zct_t c] at ih'
        refine eX7_countParagraphs_4 hC ?_
        refine eX7_countParagraphs_5 hC ?_
        refine eX7_countParagraphs_6 hC (by assumption) ?_
        rw [hn]
        refine eX7_countParagraphs_9 hC (fun zz => absurd zz (nI_ge (by omega) (by omega))) (fun _ => ?_)
        refine eX7_countParagraphs_12 hC ?_
        refine eX7_countParagraphs_13 hC ?_
        refine eX7_countParagraphs_14 hC (Nat.le_of_ble_eq_true rfl) (Nat.le_of_ble_eq_true rfl) (Nat.le_of_ble_eq_true rfl) (by first | assumption | exact zTxt.o (by assumption)) (vX7_endsParagraph hC.nt (by assumption) (by assumption) (by assumption) (by omega)) (zk_i ?_)
        rw [zBv_t c]
        refine eX7_countParagraphs_17 hC (fun zz => absurd zz zn10) (fun _ => ?_)
        refine eX7_countParagraphs_20 hC ?_
        rw [nI_add]
        refine eX7_countParagraphs_23 hC ?_
        rw [nI_add]
        refine eX7_countParagraphs_26 hC ?_
        exact ih'
      · rw [zct_f c] at ih'
        refine eX7_countParagraphs_4 hC ?_
        refine eX7_countParagraphs_5 hC ?_
        refine eX7_countParagraphs_6 hC (by assumption) ?_
        rw [hn]
        refine eX7_countParagraphs_9 hC (fun zz => absurd zz (nI_ge (by omega) (by omega))) (fun _ => ?_)
        refine eX7_countParagraphs_12 hC ?_
        refine eX7_countParagraphs_13 hC ?_
        refine eX7_countParagraphs_14 hC (Nat.le_of_ble_eq_true rfl) (Nat.le_of_ble_eq_true rfl) (Nat.le_of_ble_eq_true rfl) (by first | assumption | exact zTxt.o (by assumption)) (vX7_endsParagraph hC.nt (by assumption) (by assumption) (by assumption) (by omega)) (zk_i ?_)
        rw [zBv_f c]
        refine eX7_countParagraphs_17 hC (fun _ => ?_) (fun zz => absurd zn00 zz)
        refine eX7_countParagraphs_23 hC ?_
        rw [nI_add]
        refine eX7_countParagraphs_26 hC ?_
        exact ih'
  refine eX7_countParagraphs_0 hC ?_
  refine eX7_countParagraphs_1 hC ?_
  refine eX7_countParagraphs_2 hC ?_
  refine eX7_countParagraphs_3 hC ?_
  exact loop (τ 80) 0 (by omega)
set_option maxHeartbeats 4000000 in
theorem vX7_copyFrom {l : Launch} {g : zG} (hl : l.stackTraces = false) {K : zK} {μ : zF} {t q : Nat} {τ : Nat → Nat} (h : zTxt K t) (hq : zTxt K q) (hv : zTv μ q τ) (hd : t + 5 ≤ q ∨ q + 5 ≤ t) (ho : τ 87 ≤ 1) : EX7_copyFrom l g 0 0 [.ref t, .ref q] K μ (zPw K (fun μ' => zTv μ' t τ ∧ zAg μ μ' t (t + 5))) := by
  obtain ⟨h0, h1, h2, h3, h4⟩ := h
  obtain ⟨g0, g1, g2, g3, g4⟩ := hq
  obtain ⟨v1, v2, v3⟩ := hv
  refine nX7_copyFrom hl (fun x hC hQ => ?_)
  refine eX7_copyFrom_0 hC ?_
  refine eX7_copyFrom_1 hC (by assumption) (by assumption) ?_
  refine eX7_copyFrom_4 hC ?_
  refine eX7_copyFrom_5 hC (by assumption) (by assumption) ?_
  refine eX7_copyFrom_8 hC (Nat.le_of_ble_eq_true rfl) (Nat.le_of_ble_eq_true rfl) (Nat.le_of_ble_eq_true rfl) (by first | assumption | exact zRow.o (by assumption)) (vX6_copyFrom hC.nt h3 g3 (by omega)) (zk_w (fun μ_8 m_8 => ?_))
  refine eX7_copyFrom_11 hC ?_
  refine eX7_copyFrom_12 hC (by assumption) (by assumption) ?_
  refine eX7_copyFrom_15 hC ?_
  refine eX7_copyFrom_16 hC (by assumption) (by assumption) ?_
  refine eX7_copyFrom_19 hC (Nat.le_of_ble_eq_true rfl) (Nat.le_of_ble_eq_true rfl) (Nat.le_of_ble_eq_true rfl) (by first | assumption | exact zRow.o (by assumption)) (vX6_copyFrom hC.nt h4 g4 (by omega)) (zk_w (fun μ_19 m_19 => ?_))
  have hqt : q ≠ t := by omega
  have ht2 : t + 2 ≠ t := by omega
  have ht4 : t + 4 ≠ t := by omega
  have F1 : ∀ k, k < 40 → μ_19 (t + 2) k = nI (τ k) := fun k hk => by
    have e := v1 k hk
    subst m_19; subst m_8
    grind [zcp]
  have F2 : ∀ k, k < 40 → μ_19 (t + 4) k = nI (τ (40 + k)) := fun k hk => by
    have e := v2 k hk
    subst m_19; subst m_8
    grind [zcp]
  have G : zAg μ μ_19 t (t + 5) := fun b j hb => by
    subst m_19; subst m_8
    grind [zcp]
  have Fq : ∀ k, 2 ≤ k → k ≤ 9 → μ_19 q k = nI (τ (78 + k)) := fun k k1 k2 => by
    rw [G q k (by omega)]; exact v3 k k1 k2
  refine eX7_copyFrom_22 hC ?_
  refine eX7_copyFrom_23 hC ?_
  refine eX7_copyFrom_24 hC (by assumption) ?_
  rw [show μ_19 q 2 = nI (τ 80) from Fq 2 (by omega) (by omega)]
  refine eX7_copyFrom_27 hC (by assumption) ?_
  refine eX7_copyFrom_30 hC ?_
  refine eX7_copyFrom_31 hC ?_
  refine eX7_copyFrom_32 hC (by assumption) ?_
  simp only [zup_a _ _ _ _ hqt]
  rw [show μ_19 q 3 = nI (τ 81) from Fq 3 (by omega) (by omega)]
  refine eX7_copyFrom_35 hC (by assumption) ?_
  refine eX7_copyFrom_38 hC ?_
  refine eX7_copyFrom_39 hC ?_
  refine eX7_copyFrom_40 hC (by assumption) ?_
  simp only [zup_a _ _ _ _ hqt]
  rw [show μ_19 q 4 = nI (τ 82) from Fq 4 (by omega) (by omega)]
  refine eX7_copyFrom_43 hC (by assumption) ?_
  refine eX7_copyFrom_46 hC ?_
  refine eX7_copyFrom_47 hC ?_
  refine eX7_copyFrom_48 hC (by assumption) ?_
  simp only [zup_a _ _ _ _ hqt]
  rw [show μ_19 q 5 = nI (τ 83) from Fq 5 (by omega) (by omega)]
  refine eX7_copyFrom_51 hC (by assumption) ?_
  refine eX7_copyFrom_54 hC ?_
  refine eX7_copyFrom_55 hC ?_
  refine eX7_copyFrom_56 hC (by assumption) ?_
  simp only [zup_a _ _ _ _ hqt]
  rw [show μ_19 q 6 = nI (τ 84) from Fq 6 (by omega) (by omega)]
  refine eX7_copyFrom_59 hC (by assumption) ?_
  refine eX7_copyFrom_62 hC ?_
  refine eX7_copyFrom_63 hC ?_
  refine eX7_copyFrom_64 hC (by assumption) ?_
  simp only [zup_a _ _ _ _ hqt]
  rw [show μ_19 q 7 = nI (τ 85) from Fq 7 (by omega) (by omega)]
  refine eX7_copyFrom_67 hC (by assumption) ?_
  refine eX7_copyFrom_70 hC ?_
  refine eX7_copyFrom_71 hC ?_
  refine eX7_copyFrom_72 hC (by assumption) ?_
  simp only [zup_a _ _ _ _ hqt]
  rw [show μ_19 q 8 = nI (τ 86) from Fq 8 (by omega) (by omega)]
  refine eX7_copyFrom_75 hC (by assumption) ?_
  refine eX7_copyFrom_78 hC ?_
  refine eX7_copyFrom_79 hC ?_
  refine eX7_copyFrom_80 hC (by assumption) ?_
  simp only [zup_a _ _ _ _ hqt]
  rw [show μ_19 q 9 = nI (τ 87) from Fq 9 (by omega) (by omega)]
  refine eX7_copyFrom_83 hC (by
        have e2 : τ 87 = 0 ∨ τ 87 = 1 := by omega
        rcases e2 with e2 | e2 <;> rw [e2]
        · left; rfl
        · right; rfl) (by assumption) ?_
  refine eX7_copyFrom_86 hC hQ (Nat.le_of_ble_eq_true rfl) (Nat.le_of_ble_eq_true rfl) ?_
  refine ⟨rfl, rfl, ⟨fun k hk => ?_, fun k hk => ?_, fun k k1 k2 => ?_⟩, fun b j hb => ?_⟩
  · simp only [zup_a _ _ _ _ ht2]; exact F1 k hk
  · simp only [zup_a _ _ _ _ ht4]; exact F2 k hk
  · rcases (show k = 2 ∨ k = 3 ∨ k = 4 ∨ k = 5 ∨ k = 6 ∨ k = 7 ∨ k = 8 ∨ k = 9 by omega) with rfl | rfl | rfl | rfl | rfl | rfl | rfl | rfl <;> simp [zup]
  · have hb2 : b ≠ t := by omega
    simp only [zup_a _ _ _ _ hb2]; exact G b j hb
