/-! ===== the optimal layouts ===== -/
set_option maxHeartbeats 4000000 in
theorem vX4_slot {l : Launch} {g : zG} (hl : l.stackTraces = false) {K : zK} {μ : zF} {b i u : Nat} (hb : b ≤ 40) (hi : i ≤ 40) (hu : u ≤ 3) : EX4_slot l g 0 0 [.int (nI b), .int (nI i), .int (nI u - nI 1)] K μ (zPi (nI (zsl b i u)) K μ) := by
  refine nX4_slot hl (fun x hC hQ => ?_)
  have h1 := Nat.mul_le_mul hi (show i + 1 ≤ 41 by omega)
  refine eX4_slot_0 hC ?_
  refine eX4_slot_1 hC ?_
  refine eX4_slot_2 hC ?_
  refine eX4_slot_3 hC ?_
  refine eX4_slot_4 hC ?_
  rw [nI_add, pk_mul]
  refine eX4_slot_5 hC ?_
  refine eX4_slot_6 hC (by decide) ?_
  rw [pk_div (by omega) (by omega) (by omega), ztr_half]
  refine eX4_slot_7 hC ?_
  refine eX4_slot_8 hC ?_
  refine eX4_slot_9 hC ?_
  refine eX4_slot_10 hC ?_
  refine eX4_slot_11 hC ?_
  refine eX4_slot_12 hC ?_
  refine eX4_slot_13 hC ?_
  refine eX4_slot_14 hC ?_
  rw [nI_add, pk_mul, Int32.add_assoc, zti_add hu, nI_add]
  refine eX4_slot_15 hC hQ (Nat.le_of_ble_eq_true rfl) (Nat.le_of_ble_eq_true rfl) ?_
  exact ⟨rfl, rfl, rfl⟩
set_option maxHeartbeats 4000000 in
theorem vX4_offer {l : Launch} {g : zG} (hl : l.stackTraces = false) {K : zK} {μ : zF} {o t q s : Nat} {v e : Int32} (h : zOpt K o t q) (hs : s < 2460) : EX4_offer l g 0 0 [.ref o, .int (nI s), .int v, .int e] K μ (zPw K (fun μ' => μ' = if v < μ (o + 2) s then zup (zup μ (o + 2) s v) (o + 4) s e else μ)) := by
  obtain ⟨h0, h1, h2, h3, h4, h5, h6, h7, h8⟩ := h
  refine nX4_offer hl (fun x hC hQ => ?_)
  have e1 : zrd 2460 (μ (o + 1 + 1)) (nI s) = μ (o + 2) s := zrd_in hs (by omega)
  by_cases c : v < μ (o + 2) s
  · refine eX4_offer_0 hC ?_
    refine eX4_offer_1 hC ?_
    refine eX4_offer_2 hC (by assumption) (by assumption) ?_
    refine eX4_offer_5 hC ?_
    refine eX4_offer_6 hC (Nat.le_of_ble_eq_true rfl) (Nat.le_of_ble_eq_true rfl) (Nat.le_of_ble_eq_true rfl) (by first | assumption | exact zRow.o (by assumption)) (vX6_at hC.nt h6) (zk_i ?_)
    rw [e1]
    refine eX4_offer_9 hC (fun zz => absurd zz (Int32.not_le.mpr c)) (fun _ => ?_)
    refine eX4_offer_12 hC ?_
    refine eX4_offer_13 hC (by assumption) (by assumption) ?_
    refine eX4_offer_16 hC ?_
    refine eX4_offer_17 hC ?_
    refine eX4_offer_18 hC (Nat.le_of_ble_eq_true rfl) (Nat.le_of_ble_eq_true rfl) (Nat.le_of_ble_eq_true rfl) (by first | assumption | exact zRow.o (by assumption)) (vX6_put hC.nt h6) (zk_w (fun μ_18 m_18 => ?_))
    refine eX4_offer_21 hC ?_
    refine eX4_offer_22 hC (by assumption) (by assumption) ?_
    refine eX4_offer_25 hC ?_
    refine eX4_offer_26 hC ?_
    refine eX4_offer_27 hC (Nat.le_of_ble_eq_true rfl) (Nat.le_of_ble_eq_true rfl) (Nat.le_of_ble_eq_true rfl) (by first | assumption | exact zRow.o (by assumption)) (vX6_put hC.nt h7) (zk_w (fun μ_27 m_27 => ?_))
    rw [zpt_in hs (by omega)] at m_18
    subst m_18
    rw [zpt_in hs (by omega)] at m_27
    refine eX4_offer_30 hC hQ (Nat.le_of_ble_eq_true rfl) (Nat.le_of_ble_eq_true rfl) ?_
    refine ⟨rfl, rfl, ?_⟩
    rw [if_pos c, m_27]
  · refine eX4_offer_0 hC ?_
    refine eX4_offer_1 hC ?_
    refine eX4_offer_2 hC (by assumption) (by assumption) ?_
    refine eX4_offer_5 hC ?_
    refine eX4_offer_6 hC (Nat.le_of_ble_eq_true rfl) (Nat.le_of_ble_eq_true rfl) (Nat.le_of_ble_eq_true rfl) (by first | assumption | exact zRow.o (by assumption)) (vX6_at hC.nt h6) (zk_i ?_)
    rw [e1]
    refine eX4_offer_9 hC (fun _ => ?_) (fun zz => absurd (Int32.not_lt.mp c) zz)
    refine eX4_offer_30 hC hQ (Nat.le_of_ble_eq_true rfl) (Nat.le_of_ble_eq_true rfl) ?_
    refine ⟨rfl, rfl, ?_⟩
    rw [if_neg c]
