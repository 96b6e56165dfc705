/-! ===== forecasts ===== -/
theorem zRv.dr {K : zK} {μ μ' : zF} {x : Nat} {s : Nat → Nat} {S : zMs} (h : zRv μ x s S) (hR : zRag K x s) (ha : zAg μ μ' (x + 28) (x + 50)) (hz : μ' (x + 40) 0 = nI 0) : zRv μ' x s S := by
  obtain ⟨⟨v1, v2, v3, v4, v5⟩, hf⟩ := h
  refine ⟨⟨v1.ag ha (by omega), v2.ag ha (by omega), v3.ag hR.2.2.2.2.2.2.2.2.2.2.2.2.2.2 ha (by omega), by rw [ha _ _ (by omega)]; exact v4, hz⟩, ?_⟩
  rcases hf with c | c
  · left; rw [ha _ _ (by omega)]; exact c
  · exact Or.inr (c.ag ha (by omega))
theorem nI_pos1 {n : Nat} (h1 : 0 < n) (h2 : n < 2 ^ 31) : 0 < nI n := by
  have q := nI_lt h1 h2
  rw [zn00] at q
  exact q
/-- what the text costs, in the mode m -/
noncomputable def zct1 (τ : Nat → Nat) (m : Nat) : Nat := ztc τ m (zm τ m)
theorem zTv.eq {μ μ' : zF} {t : Nat} {τ : Nat → Nat} (h : zTv μ t τ) (he : ∀ a j, t ≤ a → a < t + 5 → μ' a j = μ a j) : zTv μ' t τ := ⟨fun k hk => by rw [he _ _ (by omega) (by omega)]; exact h.1 k hk, fun k hk => by rw [he _ _ (by omega) (by omega)]; exact h.2.1 k hk, fun k g1 g2 => by rw [he _ _ (by omega) (by omega)]; exact h.2.2 k g1 g2⟩
noncomputable def zdo_costFor (i : Int32) (b : Nat) (S : zMs) : zOu := zrg i 30 100 (fun k => .inl (nI (zct1 (zuf S.1 81 k) b), S))
set_option maxHeartbeats 4000000 in
theorem vX8_costFor {l : Launch} {g : zG} (hl : l.stackTraces = false) {K : zK} {μ : zF} {x b : Nat} {S : zMs} {i : Int32} (h : zX8 K μ x S) (hb : b ≤ 1) : QX8_costFor l g 1 6 [.ref x, .int i, .int (nI b)] K μ (zRP (zdo_costFor i b S) K μ x) (zRX (zdo_costFor i b S) K μ x S) := by
  obtain ⟨s, hR, hv, ho⟩ := id h
  obtain ⟨h0, h1, h2, h3, h4, h5, h6, h7, h8, h9, h10, h11, h12, h13, h14⟩ := id hR
  obtain ⟨v1, v2, v3, v4, v5⟩ := id hv.1
  obtain ⟨t0, t1, t2, t3, t4⟩ := id h8
  have b0 := h13.1
  have q0 := h14.1
  have o1 := ho.1.1
  have e8 : μ (x + 1) 2 = nI (S.1 80) := v1.2.2 2 (by omega) (by omega)
  obtain ⟨d0, d1, d2, d3, d4⟩ := id h11
  have z0 := h12.1
  refine nxX8_costFor hl (fun q hC hQ hQx => ?_)
  refine eX8_costFor_0 hC ?_
  refine eX8_costFor_1 hC ?_
  refine eX8_costFor_3 hC ?_
  refine eX8_costFor_5x hC (Nat.le_of_ble_eq_true rfl) (Nat.le_of_ble_eq_true rfl) (Nat.le_of_ble_eq_true rfl) (vX8_requireRange hC.nt) (zXo.of hQx (Nat.le_of_ble_eq_true rfl) (Nat.le_of_ble_eq_true rfl) (zRX.rg rfl h (zKe.refl _ _) (zAg.refl _ _ _))) (zk_x (fun m_5 => ?_))
  obtain ⟨k, rfl, hk1, hk2, e⟩ := zrg_in (f := fun k => .inl (nI (zct1 (zuf S.1 81 k) b), S)) (by omega) (by omega) m_5
  refine eX8_costFor_8 hC ?_
  refine eX8_costFor_9 hC (by assumption) (by assumption) ?_
  refine eX8_costFor_12 hC ?_
  refine eX8_costFor_13 hC (by assumption) (by assumption) ?_
  refine eX8_costFor_16 hC (Nat.le_of_ble_eq_true rfl) (Nat.le_of_ble_eq_true rfl) (Nat.le_of_ble_eq_true rfl) (by first | assumption | exact zTxt.o (by assumption)) (vX7_copyFrom hC.nt h11 h8 v1 (by omega) ho.1.2.2.2.2.2.2.2.2.2) (zk_w (fun μ_16 m_16 => ?_))
  refine eX8_costFor_19 hC ?_
  refine eX8_costFor_20 hC (by assumption) (by assumption) ?_
  refine eX8_costFor_23 hC ?_
  refine eX8_costFor_24 hC (by assumption) ?_
  obtain ⟨g1, g2⟩ := m_16
  have g3 : zTv (zup μ_16 (x + 28) 3 (nI k)) (x + 28) (zuf S.1 81 k) := g1.set (by omega) (by omega)
  have g4 : zAg μ (zup μ_16 (x + 28) 3 (nI k)) (x + 28) (x + 33) := g2.trans (zAg.up (by omega))
  refine eX8_costFor_27 hC ?_
  refine eX8_costFor_28 hC (by assumption) (by assumption) ?_
  refine eX8_costFor_31 hC ?_
  refine eX8_costFor_32 hC (Nat.le_of_ble_eq_true rfl) (Nat.le_of_ble_eq_true rfl) (Nat.le_of_ble_eq_true rfl) (by first | assumption | exact zLay.o (by assumption)) (vX3_arrange hC.nt h12 h11 g3 (zOk_81 ho.1 (by omega)) (by omega) (by rw [g4 _ _ (by omega)]; exact v5) hb rfl) (zk_w (fun μ_32 m_32 => ?_))
  obtain ⟨w1, w2, w3⟩ := m_32
  have hag : zAg μ μ_32 (x + 28) (x + 50) := (zAg.wide g4 (by omega) (by omega)).trans (zAg.wide w2 (by omega) (by omega))
  have hzz : μ_32 (x + 40) 0 = nI 0 := w3
  refine eX8_costFor_35 hC ?_
  refine eX8_costFor_36 hC (by assumption) (by assumption) ?_
  refine eX8_costFor_39 hC (Nat.le_of_ble_eq_true rfl) (Nat.le_of_ble_eq_true rfl) (Nat.le_of_ble_eq_true rfl) (by first | assumption | exact zLay.o (by assumption)) (vX3_totalCost hC.nt h12 h11 (g3.ag w2 (by omega)) (zOk_81 ho.1 (by omega)) w1) (zk_i ?_)
  refine eX8_costFor_42 hC hQ (Nat.le_of_ble_eq_true rfl) (Nat.le_of_ble_eq_true rfl) ?_
  exact ⟨_, _, e, rfl, zKe.refl _ _, ⟨s, hR, hv.dr hR hag hzz, ho⟩, zAg.wide hag (by omega) (by omega)⟩
noncomputable def zdo_saving (S : zMs) : zOu := .inl (nI (zct1 S.1 0) - nI (zct1 S.1 1), S)
set_option maxHeartbeats 4000000 in
theorem vX8_saving {l : Launch} {g : zG} (hl : l.stackTraces = false) {K : zK} {μ : zF} {x : Nat} {S : zMs} (h : zX8 K μ x S) : EX8_saving l g 0 0 [.ref x] K μ (zRP (zdo_saving S) K μ x) := by
  obtain ⟨s, hR, hv, ho⟩ := id h
  obtain ⟨h0, h1, h2, h3, h4, h5, h6, h7, h8, h9, h10, h11, h12, h13, h14⟩ := id hR
  obtain ⟨v1, v2, v3, v4, v5⟩ := id hv.1
  obtain ⟨t0, t1, t2, t3, t4⟩ := id h8
  have b0 := h13.1
  have q0 := h14.1
  have o1 := ho.1.1
  have e8 : μ (x + 1) 2 = nI (S.1 80) := v1.2.2 2 (by omega) (by omega)
  obtain ⟨d0, d1, d2, d3, d4⟩ := id h11
  have z0 := h12.1
  refine nX8_saving hl (fun q hC hQ => ?_)
  refine eX8_saving_0 hC ?_
  refine eX8_saving_1 hC (by assumption) (by assumption) ?_
  refine eX8_saving_4 hC ?_
  refine eX8_saving_5 hC (by assumption) (by assumption) ?_
  refine eX8_saving_8 hC (Nat.le_of_ble_eq_true rfl) (Nat.le_of_ble_eq_true rfl) (Nat.le_of_ble_eq_true rfl) (by first | assumption | exact zTxt.o (by assumption)) (vX7_copyFrom hC.nt h11 h8 v1 (by omega) ho.1.2.2.2.2.2.2.2.2.2) (zk_w (fun μ_8 m_8 => ?_))
  obtain ⟨g1, g2⟩ := m_8
  refine eX8_saving_11 hC ?_
  refine eX8_saving_12 hC (by assumption) (by assumption) ?_
  refine eX8_saving_15 hC ?_
  refine eX8_saving_16 hC (Nat.le_of_ble_eq_true rfl) (Nat.le_of_ble_eq_true rfl) (Nat.le_of_ble_eq_true rfl) (by first | assumption | exact zLay.o (by assumption)) (vX3_arrange hC.nt h12 h11 g1 ho.1 (by omega) (by rw [g2 _ _ (by omega)]; exact v5) (Nat.zero_le 1) rfl) (zk_w (fun μ_16 m_16 => ?_))
  obtain ⟨w1, w2, w3⟩ := m_16
  have g1' := g1.ag w2 (by omega)
  refine eX8_saving_19 hC ?_
  refine eX8_saving_20 hC (by assumption) (by assumption) ?_
  refine eX8_saving_23 hC (Nat.le_of_ble_eq_true rfl) (Nat.le_of_ble_eq_true rfl) (Nat.le_of_ble_eq_true rfl) (by first | assumption | exact zLay.o (by assumption)) (vX3_totalCost hC.nt h12 h11 g1' ho.1 w1) (zk_i ?_)
  refine eX8_saving_26 hC ?_
  refine eX8_saving_27 hC ?_
  refine eX8_saving_28 hC (by assumption) (by assumption) ?_
  refine eX8_saving_31 hC ?_
  refine eX8_saving_32 hC (Nat.le_of_ble_eq_true rfl) (Nat.le_of_ble_eq_true rfl) (Nat.le_of_ble_eq_true rfl) (by first | assumption | exact zLay.o (by assumption)) (vX3_arrange hC.nt h12 h11 g1' ho.1 (by omega) w3 (Nat.le_refl 1) rfl) (zk_w (fun μ_32 m_32 => ?_))
  obtain ⟨u1, u2, u3⟩ := m_32
  have hag : zAg μ μ_32 (x + 28) (x + 50) := ((zAg.wide g2 (by omega) (by omega)).trans (zAg.wide w2 (by omega) (by omega))).trans (zAg.wide u2 (by omega) (by omega))
  have hzz : μ_32 (x + 40) 0 = nI 0 := u3
  refine eX8_saving_35 hC ?_
  refine eX8_saving_36 hC ?_
  refine eX8_saving_37 hC (by assumption) (by assumption) ?_
  refine eX8_saving_40 hC (Nat.le_of_ble_eq_true rfl) (Nat.le_of_ble_eq_true rfl) (Nat.le_of_ble_eq_true rfl) (by first | assumption | exact zLay.o (by assumption)) (vX3_totalCost hC.nt h12 h11 (g1'.ag u2 (by omega)) ho.1 u1) (zk_i ?_)
  refine eX8_saving_43 hC ?_
  refine eX8_saving_44 hC hQ (Nat.le_of_ble_eq_true rfl) (Nat.le_of_ble_eq_true rfl) ?_
  exact ⟨_, _, rfl, rfl, zKe.refl _ _, ⟨s, hR, hv.dr hR hag hzz, ho⟩, zAg.wide hag (by omega) (by omega)⟩
noncomputable def zdo_costIfMarked (i : Int32) (w : Int32) (S : zMs) : zOu := zix i (S.1 80) (fun k => zrg w 0 2 (fun v => .inl (nI (zct1 (zuf S.1 (40 + k) v) (S.1 87)), S)))
set_option maxHeartbeats 4000000 in
theorem vX8_costIfMarked {l : Launch} {g : zG} (hl : l.stackTraces = false) {K : zK} {μ : zF} {x : Nat} {S : zMs} {i : Int32} {w : Int32} (h : zX8 K μ x S) : QX8_costIfMarked l g 2 12 [.ref x, .int i, .int w] K μ (zRP (zdo_costIfMarked i w S) K μ x) (zRX (zdo_costIfMarked i w S) K μ x S) := by
  obtain ⟨s, hR, hv, ho⟩ := id h
  obtain ⟨h0, h1, h2, h3, h4, h5, h6, h7, h8, h9, h10, h11, h12, h13, h14⟩ := id hR
  obtain ⟨v1, v2, v3, v4, v5⟩ := id hv.1
  obtain ⟨t0, t1, t2, t3, t4⟩ := id h8
  have b0 := h13.1
  have q0 := h14.1
  have o1 := ho.1.1
  have e8 : μ (x + 1) 2 = nI (S.1 80) := v1.2.2 2 (by omega) (by omega)
  obtain ⟨d0, d1, d2, d3, d4⟩ := id h11
  have z0 := h12.1
  refine nxX8_costIfMarked hl (fun q hC hQ hQx => ?_)
  refine eX8_costIfMarked_0 hC ?_
  refine eX8_costIfMarked_1 hC ?_
  refine eX8_costIfMarked_2 hC (by assumption) (by assumption) ?_
  refine eX8_costIfMarked_5 hC (by assumption) ?_
  rw [e8]
  refine eX8_costIfMarked_8x hC (Nat.le_of_ble_eq_true rfl) (Nat.le_of_ble_eq_true rfl) (Nat.le_of_ble_eq_true rfl) (vX8_requireIndex hC.nt) (zXo.of hQx (Nat.le_of_ble_eq_true rfl) (Nat.le_of_ble_eq_true rfl) (zRX.ix rfl h (zKe.refl _ _) (zAg.refl _ _ _))) (zk_x (fun m_8 => ?_))
  obtain ⟨k, rfl, hk, e1⟩ := zix_in (f := fun k => zrg w 0 2 (fun v => .inl (nI (zct1 (zuf S.1 (40 + k) v) (S.1 87)), S))) (by omega) m_8
  refine eX8_costIfMarked_11 hC ?_
  refine eX8_costIfMarked_12 hC ?_
  refine eX8_costIfMarked_13 hC ?_
  refine eX8_costIfMarked_14x hC (Nat.le_of_ble_eq_true rfl) (Nat.le_of_ble_eq_true rfl) (Nat.le_of_ble_eq_true rfl) (vX8_requireRange hC.nt) (zXo.of hQx (Nat.le_of_ble_eq_true rfl) (Nat.le_of_ble_eq_true rfl) (zRX.rg e1 h (zKe.refl _ _) (zAg.refl _ _ _))) (zk_x (fun m_14 => ?_))
  obtain ⟨v, rfl, hb1, hb2, e2⟩ := zrg_in (f := fun v => .inl (nI (zct1 (zuf S.1 (40 + k) v) (S.1 87)), S)) (by omega) (by omega) m_14
  refine eX8_costIfMarked_17 hC ?_
  refine eX8_costIfMarked_18 hC (by assumption) (by assumption) ?_
  refine eX8_costIfMarked_21 hC ?_
  refine eX8_costIfMarked_22 hC (by assumption) (by assumption) ?_
  refine eX8_costIfMarked_25 hC (Nat.le_of_ble_eq_true rfl) (Nat.le_of_ble_eq_true rfl) (Nat.le_of_ble_eq_true rfl) (by first | assumption | exact zTxt.o (by assumption)) (vX7_copyFrom hC.nt h11 h8 v1 (by omega) ho.1.2.2.2.2.2.2.2.2.2) (zk_w (fun μ_25 m_25 => ?_))
  refine eX8_costIfMarked_28 hC ?_
  refine eX8_costIfMarked_29 hC (by assumption) (by assumption) ?_
  refine eX8_costIfMarked_32 hC (by assumption) (by assumption) ?_
  refine eX8_costIfMarked_35 hC ?_
  refine eX8_costIfMarked_36 hC ?_
  refine eX8_costIfMarked_37 hC (Nat.le_of_ble_eq_true rfl) (Nat.le_of_ble_eq_true rfl) (Nat.le_of_ble_eq_true rfl) (by first | assumption | exact zRow.o (by assumption)) (vX6_put hC.nt d4) (zk_w (fun μ_37 m_37 => ?_))
  rw [zpt_in (by omega) (by omega)] at m_37
  subst m_37
  obtain ⟨g1, g2⟩ := m_25
  have ok := zOk_mark (k := k) (w := v) ho.1 (by omega) hb2
  have g3 : zTv (zup μ_25 (x + 28 + 3 + 1) k (nI v)) (x + 28) (zuf S.1 (40 + k) v) := g1.mark (by omega)
  have g4 : zAg μ (zup μ_25 (x + 28 + 3 + 1) k (nI v)) (x + 28) (x + 33) := g2.trans (zAg.up (by omega))
  refine eX8_costIfMarked_40 hC ?_
  refine eX8_costIfMarked_41 hC (by assumption) (by assumption) ?_
  refine eX8_costIfMarked_44 hC ?_
  refine eX8_costIfMarked_45 hC (by assumption) (by assumption) ?_
  refine eX8_costIfMarked_48 hC (by assumption) ?_
  rw [show zup μ_25 (x + 28 + 3 + 1) k (nI v) (x + 28) 9 = nI (S.1 87) from by rw [g3.2.2 9 (by omega) (by omega)]; exact congrArg nI (if_neg (by omega))]
  refine eX8_costIfMarked_51 hC (Nat.le_of_ble_eq_true rfl) (Nat.le_of_ble_eq_true rfl) (Nat.le_of_ble_eq_true rfl) (by first | assumption | exact zLay.o (by assumption)) (vX3_arrange hC.nt h12 h11 g3 ok (by omega) (by rw [g4 _ _ (by omega)]; exact v5) ho.1.2.2.2.2.2.2.2.2.2 rfl) (zk_w (fun μ_51 m_51 => ?_))
  obtain ⟨w1, w2, w3⟩ := m_51
  have hag : zAg μ μ_51 (x + 28) (x + 50) := (zAg.wide g4 (by omega) (by omega)).trans (zAg.wide w2 (by omega) (by omega))
  have hzz : μ_51 (x + 40) 0 = nI 0 := w3
  refine eX8_costIfMarked_54 hC ?_
  refine eX8_costIfMarked_55 hC (by assumption) (by assumption) ?_
  refine eX8_costIfMarked_58 hC (Nat.le_of_ble_eq_true rfl) (Nat.le_of_ble_eq_true rfl) (Nat.le_of_ble_eq_true rfl) (by first | assumption | exact zLay.o (by assumption)) (vX3_totalCost hC.nt h12 h11 (g3.ag w2 (by omega)) ok w1) (zk_i ?_)
  refine eX8_costIfMarked_61 hC hQ (Nat.le_of_ble_eq_true rfl) (Nat.le_of_ble_eq_true rfl) ?_
  exact ⟨_, _, e1.trans e2, rfl, zKe.refl _ _, ⟨s, hR, hv.dr hR hag hzz, ho⟩, zAg.wide hag (by omega) (by omega)⟩
noncomputable def zdo_setOptimal (b : Nat) (S : zMs) : zOu := .inl (nI (S.1 87), zcg S (zuf S.1 87 b))
set_option maxHeartbeats 4000000 in
theorem vX8_setOptimal {l : Launch} {g : zG} (hl : l.stackTraces = false) {K : zK} {μ : zF} {x b : Nat} {S : zMs} (h : zX8 K μ x S) (hb : b ≤ 1) : EX8_setOptimal l g 0 0 [.ref x, .int (nI b)] K μ (zRP (zdo_setOptimal b S) K μ x) := by
  obtain ⟨s, hR, hv, ho⟩ := id h
  obtain ⟨h0, h1, h2, h3, h4, h5, h6, h7, h8, h9, h10, h11, h12, h13, h14⟩ := id hR
  obtain ⟨v1, v2, v3, v4, v5⟩ := id hv.1
  obtain ⟨t0, t1, t2, t3, t4⟩ := id h8
  have b0 := h13.1
  have q0 := h14.1
  have o1 := ho.1.1
  have e8 : μ (x + 1) 2 = nI (S.1 80) := v1.2.2 2 (by omega) (by omega)
  obtain ⟨d0, d1, d2, d3, d4⟩ := id h11
  have z0 := h12.1
  have z01 : ∀ {n : Nat}, n ≤ 1 → nI n = 0 ∨ nI n = 1 := fun {n} hn => by
    rcases (show n = 0 ∨ n = 1 by omega) with rfl | rfl
    · left; rfl
    · right; rfl
  have o9 := ho.1.2.2.2.2.2.2.2.2.2
  refine nX8_setOptimal hl (fun q hC hQ => ?_)
  refine eX8_setOptimal_0 hC ?_
  refine eX8_setOptimal_1 hC (Nat.le_of_ble_eq_true rfl) (Nat.le_of_ble_eq_true rfl) (Nat.le_of_ble_eq_true rfl) (by assumption) (vX8_prepareChange hC.nt (by assumption) (by assumption) (by assumption)) (fun v_1 K_1 μ_1 m_1 => ?_)
  obtain ⟨rfl, hK, ha, hst, s', hR', hc', hfr⟩ := m_1
  show zV q _ _ 4 _ [] K_1 μ_1
  have w1 : zTv μ_1 (x + 1) S.1 := hc'.1
  have w0 : zO K_1 x 8 := hR'.1
  have w2 : zr K_1 x 0 (x + 1) := hR'.2.1
  have w3 : zTxt K_1 (x + 1) := hR'.2.2.2.2.2.2.2.2.1
  obtain ⟨r0, r1, r2, r3, r4⟩ := id w3
  refine eX8_setOptimal_4 hC ?_
  refine eX8_setOptimal_5 hC (by assumption) (by assumption) ?_
  refine eX8_setOptimal_8 hC (by assumption) ?_
  rw [show μ_1 (x + 1) 9 = nI (S.1 87) from w1.2.2 9 (by omega) (by omega)]
  refine eX8_setOptimal_11 hC ?_
  refine eX8_setOptimal_12 hC ?_
  refine eX8_setOptimal_13 hC (by assumption) (by assumption) ?_
  refine eX8_setOptimal_16 hC ?_
  refine eX8_setOptimal_17 hC (z01 hb) r0 ?_
  refine eX8_setOptimal_20 hC ?_
  refine eX8_setOptimal_21 hC hQ (Nat.le_of_ble_eq_true rfl) (Nat.le_of_ble_eq_true rfl) (z01 o9) ?_
  have hu : zAg μ_1 (zup μ_1 (x + 1) 9 (nI b)) (x + 1) (x + 6) := zAg.up (by omega)
  exact ⟨_, _, rfl, rfl, hK, ⟨s', hR', ⟨hc'.txt hR' (w1.set (by omega) (by omega)) hu, Or.inl (by rw [hu _ _ (by omega)]; exact hst)⟩, zcg_ok ho (zOk_87 ho.1 hb)⟩, ha.trans (zAg.wide hu (by omega) (by omega))⟩
noncomputable def zdo_undo (S : zMs) : zOu := if S.2.1 = 0 then .inr zxS else .inl (nI (S.2.1 - 1), (S.2.2.1 (S.2.1 - 1), S.2.1 - 1, S.2.2))
set_option maxHeartbeats 4000000 in
theorem vX8_undo {l : Launch} {g : zG} (hl : l.stackTraces = false) {K : zK} {μ : zF} {x : Nat} {S : zMs} (h : zX8 K μ x S) : QX8_undo l g 1 6 [.ref x] K μ (zRP (zdo_undo S) K μ x) (zRX (zdo_undo S) K μ x S) := by
  obtain ⟨s, hR, hv, ho⟩ := id h
  obtain ⟨h0, h1, h2, h3, h4, h5, h6, h7, h8, h9, h10, h11, h12, h13, h14⟩ := id hR
  obtain ⟨v1, v2, v3, v4, v5⟩ := id hv.1
  obtain ⟨t0, t1, t2, t3, t4⟩ := id h8
  have b0 := h13.1
  have q0 := h14.1
  have o1 := ho.1.1
  have e8 : μ (x + 1) 2 = nI (S.1 80) := v1.2.2 2 (by omega) (by omega)
  obtain ⟨d0, d1, d2, d3, d4⟩ := id h11
  have z0 := h12.1
  have n6 := ho.2.1
  refine nxX8_undo hl (fun q hC hQ hQx => ?_)
  by_cases c : S.2.1 = 0
  · refine eX8_undo_0 hC ?_
    refine eX8_undo_1 hC (by assumption) (by assumption) ?_
    refine eX8_undo_4 hC (by assumption) ?_
    rw [v3.1, c]
    refine eX8_undo_7 hC (fun zz => absurd zz (by decide)) (fun _ => ?_)
    exact eX8_undo_10 hC hQx (Nat.le_of_ble_eq_true rfl) (Nat.le_of_ble_eq_true rfl) (Nat.le_of_ble_eq_true rfl) (Nat.le_of_ble_eq_true rfl) (Nat.le_of_ble_eq_true rfl) ⟨if_pos c, zKe.refl _ _, h, zAg.refl _ _ _⟩
  · obtain ⟨n, hn⟩ : ∃ n, S.2.1 = n + 1 := ⟨S.2.1 - 1, by omega⟩
    have v3' : zHv μ (x + 57) s (n + 1) S.2.2.1 := by rw [← hn]; exact v3
    have okn := ho.2.2.1 n (by omega)
    refine eX8_undo_0 hC ?_
    refine eX8_undo_1 hC (by assumption) (by assumption) ?_
    refine eX8_undo_4 hC (by assumption) ?_
    rw [v3.1]
    refine eX8_undo_7 hC (fun _ => ?_) (fun zz => absurd (nI_pos1 (by omega) (by omega)) zz)
    refine eX8_undo_20 hC ?_
    refine eX8_undo_21 hC (by assumption) (by assumption) ?_
    refine eX8_undo_24 hC ?_
    refine eX8_undo_25 hC (by assumption) (by assumption) ?_
    refine eX8_undo_28 hC (Nat.le_of_ble_eq_true rfl) (Nat.le_of_ble_eq_true rfl) (Nat.le_of_ble_eq_true rfl) (by first | assumption | exact zHis.o (by assumption)) (vX2_restore hC.nt h14 v3' h8 (by omega) okn.2.2.2.2.2.2.2.2.2) (zk_w (fun μ_28 m_28 => ?_))
    obtain ⟨g1, g2, g3⟩ := m_28
    refine eX8_undo_31 hC ?_
    refine eX8_undo_32 hC ?_
    refine eX8_undo_33 hC (Or.inr rfl) (by assumption) ?_
    refine eX8_undo_36 hC ?_
    refine eX8_undo_37 hC (by assumption) (by assumption) ?_
    refine eX8_undo_40 hC (by assumption) ?_
    rw [zup_a _ _ _ _ (by omega), g2]
    refine eX8_undo_43 hC hQ (Nat.le_of_ble_eq_true rfl) (Nat.le_of_ble_eq_true rfl) ?_
    have hx : ∀ a j, x < a → zup μ_28 x 7 (nI 1) a j = μ_28 a j := fun a j qq => zup_a _ _ _ _ (by omega)
    refine ⟨nI n, (S.2.2.1 n, n, S.2.2), (if_neg c).trans (by rw [hn]; rfl), rfl, zKe.refl _ _, ⟨s, hR, ⟨⟨g1.eq (fun a j q1 q2 => hx a j (by omega)), ⟨?_, fun i hi => ?_⟩, ⟨?_, ?_, fun i hi => ?_⟩, ?_, ?_⟩, Or.inl (zup_self _ _ _ _)⟩, ⟨okn, (by show n ≤ 6; omega), fun i hi => ho.2.2.1 i (by have hi : i < n := hi; omega), ho.2.2.2⟩⟩, fun a j hq => ?_⟩
    · rw [hx _ _ (by omega), g3 _ _ (by omega) (by omega)]; exact v2.1
    · rw [hx _ _ (by omega), g3 _ _ (by omega) (by omega)]; exact v2.2 i hi
    · rw [hx _ _ (by omega)]; exact g2
    · show n ≤ 6
      omega
    · have hi : i < n := hi
      have hs := (h14.2.2.2.1 i (by omega)).2.2
      exact (v3.2.2 i (by omega)).eq (fun a j q1 q2 => by rw [hx _ _ (by omega), g3 _ _ (by omega) (by omega)])
    · rw [hx _ _ (by omega), g3 _ _ (by omega) (by omega)]; exact v4
    · rw [hx _ _ (by omega), g3 _ _ (by omega) (by omega)]; exact v5
    · rw [zup_a _ _ _ _ (by omega)]; exact g3 a j (by omega) (by omega)
