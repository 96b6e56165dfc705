/-! ===== what a call answers: a number and the next state, or an exception ===== -/
abbrev zOu : Type := (Int32 × zMs) ⊕ String
noncomputable def zix (i : Int32) (c : Nat) (f : Nat → zOu) : zOu := if ¬ i < 0 ∧ i < nI c then f i.toNatClampNeg else .inr zxI
noncomputable def zrg (i : Int32) (a b : Nat) (f : Nat → zOu) : zOu := if ¬ i < nI a ∧ i ≤ nI b then f i.toNatClampNeg else .inr zxA
theorem zis_nI {i : Int32} (h : ¬ i < 0) : i = nI i.toNatClampNeg := by
  rw [Int32.lt_iff_toInt_lt, Int32.toInt_zero] at h
  have h2 := Int32.toInt_lt i
  have h3 : i.toNatClampNeg = i.toInt.toNat := rfl
  apply Int32.toInt_inj.mp
  rw [nI_toInt (by omega)]
  omega
theorem zix_in {i : Int32} {c : Nat} {f : Nat → zOu} (hc : c < 2 ^ 31) (h : ¬ i < 0 ∧ i < nI c) : ∃ k, i = nI k ∧ k < c ∧ zix i c f = f k := by
  refine ⟨i.toNatClampNeg, zis_nI h.1, ?_, if_pos h⟩
  have h2 := h.2
  have e := zis_nI h.1
  have h3 := Int32.toInt_lt i
  have h4 : i.toNatClampNeg = i.toInt.toNat := rfl
  rw [e] at h2
  exact (nI_ltI (by omega) hc).mp h2
theorem zrg_in {i : Int32} {a b : Nat} {f : Nat → zOu} (hb : b < 2 ^ 31) (ha : a ≤ b) (h : ¬ i < nI a ∧ i ≤ nI b) : ∃ k, i = nI k ∧ a ≤ k ∧ k ≤ b ∧ zrg i a b f = f k := by
  have h1 := h.1
  have h2 := h.2
  have h5 : ¬ i < 0 := fun q => h1 (by
    rw [Int32.lt_iff_toInt_lt, Int32.toInt_zero] at q
    rw [Int32.lt_iff_toInt_lt, nI_toInt (by omega)]
    omega)
  have e := zis_nI h5
  have h3 := Int32.toInt_lt i
  have h4 : i.toNatClampNeg = i.toInt.toNat := rfl
  refine ⟨i.toNatClampNeg, e, ?_, ?_, if_pos h⟩
  · rw [e] at h1
    exact Nat.le_of_not_lt (fun q => h1 ((nI_ltI (by omega) (by omega)).mpr q))
  · rw [e] at h2
    exact (nI_leI (by omega) hb).mp h2
/-- the method's answer; what it throws -/
def zRP (o : zOu) (K : zK) (μ : zF) (x : Nat) : Option Value → zK → zF → Prop := fun v K' μ' => ∃ r S', o = .inl (r, S') ∧ v = some (.int r) ∧ zKe K K' (x + 58) ∧ zX8 K' μ' x S' ∧ zAg μ μ' x (x + 89)
def zRX (o : zOu) (K : zK) (μ : zF) (x : Nat) (S : zMs) : String → zK → zF → Prop := fun E K' μ' => o = .inr E ∧ zKe K K' (x + 58) ∧ zX8 K' μ' x S ∧ zAg μ μ' x (x + 89)
theorem zRX.ix {o : zOu} {K K1 : zK} {μ μ1 : zF} {x c : Nat} {i : Int32} {S : zMs} {f : Nat → zOu} (e : o = zix i c f) (h : zX8 K1 μ1 x S) (hK : zKe K K1 (x + 58)) (ha : zAg μ μ1 x (x + 89)) : ∀ (E : String) (K' : zK) (μ' : zF), (E = zxI ∧ K' = K1 ∧ μ' = μ1 ∧ ¬ (¬ i < 0 ∧ i < nI c)) → zRX o K μ x S E K' μ' := by
  rintro E K' μ' ⟨rfl, rfl, rfl, q⟩
  exact ⟨e.trans (if_neg q), hK, h, ha⟩
theorem zRX.rg {o : zOu} {K K1 : zK} {μ μ1 : zF} {x a b : Nat} {i : Int32} {S : zMs} {f : Nat → zOu} (e : o = zrg i a b f) (h : zX8 K1 μ1 x S) (hK : zKe K K1 (x + 58)) (ha : zAg μ μ1 x (x + 89)) : ∀ (E : String) (K' : zK) (μ' : zF), (E = zxA ∧ K' = K1 ∧ μ' = μ1 ∧ ¬ (¬ i < nI a ∧ i ≤ nI b)) → zRX o K μ x S E K' μ' := by
  rintro E K' μ' ⟨rfl, rfl, rfl, q⟩
  exact ⟨e.trans (if_neg q), hK, h, ha⟩
noncomputable def zdo_words (S : zMs) : zOu := .inl (nI (S.1 80), S)
set_option maxHeartbeats 4000000 in
theorem vX8_words {l : Launch} {g : zG} (hl : l.stackTraces = false) {K : zK} {μ : zF} {x : Nat} {S : zMs} (h : zX8 K μ x S) : EX8_words l g 0 0 [.ref x] K μ (zRP (zdo_words S) K μ x) := by
  obtain ⟨s, hR, hv, ho⟩ := id h
  obtain ⟨h0, h1, h2, h3, h4, h5, h6, h7, h8, h9, h10, h11, h12, h13, h14⟩ := id hR
  obtain ⟨v1, v2, v3, v4, v5⟩ := id hv.1
  obtain ⟨t0, t1, t2, t3, t4⟩ := id h8
  obtain ⟨y0, y1, y2, y3, y4, y5, y6, y7, -⟩ := id h9
  obtain ⟨p0, p1, p2, p3, p4, p5, p6⟩ := id h10
  have b0 := h13.1
  have q0 := h14.1
  have o1 := ho.1.1
  have hmm := (zm_is S.1 (S.1 87)).1
  have hpm : zpm S.1 (S.1 87) ≤ 40 := by unfold zpm; have := (gM_is (zpx_ok ho.1 (S.1 87))).1; omega
  have e8 : μ (x + 1) 2 = nI (S.1 80) := v1.2.2 2 (by omega) (by omega)
  refine nX8_words hl (fun q hC hQ => ?_)
  refine eX8_words_0 hC ?_
  refine eX8_words_1 hC (by assumption) (by assumption) ?_
  refine eX8_words_4 hC (by assumption) ?_
  rw [e8]
  refine eX8_words_7 hC hQ (Nat.le_of_ble_eq_true rfl) (Nat.le_of_ble_eq_true rfl) ?_
  exact ⟨_, _, rfl, rfl, zKe.refl _ _, h, zAg.refl _ _ _⟩
noncomputable def zdo_savedStates (S : zMs) : zOu := .inl (nI S.2.1, S)
set_option maxHeartbeats 4000000 in
theorem vX8_savedStates {l : Launch} {g : zG} (hl : l.stackTraces = false) {K : zK} {μ : zF} {x : Nat} {S : zMs} (h : zX8 K μ x S) : EX8_savedStates l g 0 0 [.ref x] K μ (zRP (zdo_savedStates S) K μ x) := by
  obtain ⟨s, hR, hv, ho⟩ := id h
  obtain ⟨h0, h1, h2, h3, h4, h5, h6, h7, h8, h9, h10, h11, h12, h13, h14⟩ := id hR
  obtain ⟨v1, v2, v3, v4, v5⟩ := id hv.1
  obtain ⟨t0, t1, t2, t3, t4⟩ := id h8
  obtain ⟨y0, y1, y2, y3, y4, y5, y6, y7, -⟩ := id h9
  obtain ⟨p0, p1, p2, p3, p4, p5, p6⟩ := id h10
  have b0 := h13.1
  have q0 := h14.1
  have o1 := ho.1.1
  have hmm := (zm_is S.1 (S.1 87)).1
  have hpm : zpm S.1 (S.1 87) ≤ 40 := by unfold zpm; have := (gM_is (zpx_ok ho.1 (S.1 87))).1; omega
  refine nX8_savedStates hl (fun q hC hQ => ?_)
  refine eX8_savedStates_0 hC ?_
  refine eX8_savedStates_1 hC (by assumption) (by assumption) ?_
  refine eX8_savedStates_4 hC (by assumption) ?_
  rw [v3.1]
  refine eX8_savedStates_7 hC hQ (Nat.le_of_ble_eq_true rfl) (Nat.le_of_ble_eq_true rfl) ?_
  exact ⟨_, _, rfl, rfl, zKe.refl _ _, h, zAg.refl _ _ _⟩
noncomputable def zdo_paragraphs (S : zMs) : zOu := .inl (nI (zct (zpe S.1) (S.1 80)), S)
set_option maxHeartbeats 4000000 in
theorem vX8_paragraphs {l : Launch} {g : zG} (hl : l.stackTraces = false) {K : zK} {μ : zF} {x : Nat} {S : zMs} (h : zX8 K μ x S) : EX8_paragraphs l g 0 0 [.ref x] K μ (zRP (zdo_paragraphs S) K μ x) := by
  obtain ⟨s, hR, hv, ho⟩ := id h
  obtain ⟨h0, h1, h2, h3, h4, h5, h6, h7, h8, h9, h10, h11, h12, h13, h14⟩ := id hR
  obtain ⟨v1, v2, v3, v4, v5⟩ := id hv.1
  obtain ⟨t0, t1, t2, t3, t4⟩ := id h8
  obtain ⟨y0, y1, y2, y3, y4, y5, y6, y7, -⟩ := id h9
  obtain ⟨p0, p1, p2, p3, p4, p5, p6⟩ := id h10
  have b0 := h13.1
  have q0 := h14.1
  have o1 := ho.1.1
  have hmm := (zm_is S.1 (S.1 87)).1
  have hpm : zpm S.1 (S.1 87) ≤ 40 := by unfold zpm; have := (gM_is (zpx_ok ho.1 (S.1 87))).1; omega
  refine nX8_paragraphs hl (fun q hC hQ => ?_)
  refine eX8_paragraphs_0 hC ?_
  refine eX8_paragraphs_1 hC (by assumption) (by assumption) ?_
  refine eX8_paragraphs_4 hC (Nat.le_of_ble_eq_true rfl) (Nat.le_of_ble_eq_true rfl) (Nat.le_of_ble_eq_true rfl) (by first | assumption | exact zTxt.o (by assumption)) (vX7_countParagraphs hC.nt h8 v1 ho.1) (zk_i ?_)
  refine eX8_paragraphs_7 hC hQ (Nat.le_of_ble_eq_true rfl) (Nat.le_of_ble_eq_true rfl) ?_
  exact ⟨_, _, rfl, rfl, zKe.refl _ _, h, zAg.refl _ _ _⟩
noncomputable def zdo_wordWidth (i : Int32) (S : zMs) : zOu := zix i (S.1 80) (fun k => .inl (nI (S.1 k), S))
set_option maxHeartbeats 4000000 in
theorem vX8_wordWidth {l : Launch} {g : zG} (hl : l.stackTraces = false) {K : zK} {μ : zF} {x : Nat} {S : zMs} {i : Int32} (h : zX8 K μ x S) : QX8_wordWidth l g 1 6 [.ref x, .int i] K μ (zRP (zdo_wordWidth i S) K μ x) (zRX (zdo_wordWidth i S) K μ x S) := by
  obtain ⟨s, hR, hv, ho⟩ := id h
  obtain ⟨h0, h1, h2, h3, h4, h5, h6, h7, h8, h9, h10, h11, h12, h13, h14⟩ := id hR
  obtain ⟨v1, v2, v3, v4, v5⟩ := id hv.1
  obtain ⟨t0, t1, t2, t3, t4⟩ := id h8
  obtain ⟨y0, y1, y2, y3, y4, y5, y6, y7, -⟩ := id h9
  obtain ⟨p0, p1, p2, p3, p4, p5, p6⟩ := id h10
  have b0 := h13.1
  have q0 := h14.1
  have o1 := ho.1.1
  have hmm := (zm_is S.1 (S.1 87)).1
  have hpm : zpm S.1 (S.1 87) ≤ 40 := by unfold zpm; have := (gM_is (zpx_ok ho.1 (S.1 87))).1; omega
  have e8 : μ (x + 1) 2 = nI (S.1 80) := v1.2.2 2 (by omega) (by omega)
  refine nxX8_wordWidth hl (fun q hC hQ hQx => ?_)
  refine eX8_wordWidth_0 hC ?_
  refine eX8_wordWidth_1 hC ?_
  refine eX8_wordWidth_2 hC (by assumption) (by assumption) ?_
  refine eX8_wordWidth_5 hC (by assumption) ?_
  rw [e8]
  refine eX8_wordWidth_8x hC (Nat.le_of_ble_eq_true rfl) (Nat.le_of_ble_eq_true rfl) (Nat.le_of_ble_eq_true rfl) (vX8_requireIndex hC.nt) (zXo.of hQx (Nat.le_of_ble_eq_true rfl) (Nat.le_of_ble_eq_true rfl) (zRX.ix rfl h (zKe.refl _ _) (zAg.refl _ _ _))) (zk_x (fun m_8 => ?_))
  obtain ⟨k, rfl, hk, e⟩ := zix_in (f := fun k => .inl (nI (S.1 k), S)) (by omega) m_8
  refine eX8_wordWidth_11 hC ?_
  refine eX8_wordWidth_12 hC (by assumption) (by assumption) ?_
  refine eX8_wordWidth_15 hC (by assumption) (by assumption) ?_
  refine eX8_wordWidth_18 hC ?_
  refine eX8_wordWidth_19 hC (Nat.le_of_ble_eq_true rfl) (Nat.le_of_ble_eq_true rfl) (Nat.le_of_ble_eq_true rfl) (by first | assumption | exact zRow.o (by assumption)) (vX6_at hC.nt t3) (zk_i ?_)
  rw [zrd_in (by omega) (by omega), show μ _ k = nI (S.1 k) from v1.1 k (by omega)]
  refine eX8_wordWidth_22 hC hQ (Nat.le_of_ble_eq_true rfl) (Nat.le_of_ble_eq_true rfl) ?_
  exact ⟨_, _, e, rfl, zKe.refl _ _, h, zAg.refl _ _ _⟩
noncomputable def zdo_mark (i : Int32) (S : zMs) : zOu := zix i (S.1 80) (fun k => .inl (nI (S.1 (40 + k)), S))
set_option maxHeartbeats 4000000 in
theorem vX8_mark {l : Launch} {g : zG} (hl : l.stackTraces = false) {K : zK} {μ : zF} {x : Nat} {S : zMs} {i : Int32} (h : zX8 K μ x S) : QX8_mark l g 1 6 [.ref x, .int i] K μ (zRP (zdo_mark i S) K μ x) (zRX (zdo_mark i S) K μ x S) := by
  obtain ⟨s, hR, hv, ho⟩ := id h
  obtain ⟨h0, h1, h2, h3, h4, h5, h6, h7, h8, h9, h10, h11, h12, h13, h14⟩ := id hR
  obtain ⟨v1, v2, v3, v4, v5⟩ := id hv.1
  obtain ⟨t0, t1, t2, t3, t4⟩ := id h8
  obtain ⟨y0, y1, y2, y3, y4, y5, y6, y7, -⟩ := id h9
  obtain ⟨p0, p1, p2, p3, p4, p5, p6⟩ := id h10
  have b0 := h13.1
  have q0 := h14.1
  have o1 := ho.1.1
  have hmm := (zm_is S.1 (S.1 87)).1
  have hpm : zpm S.1 (S.1 87) ≤ 40 := by unfold zpm; have := (gM_is (zpx_ok ho.1 (S.1 87))).1; omega
  have e8 : μ (x + 1) 2 = nI (S.1 80) := v1.2.2 2 (by omega) (by omega)
  refine nxX8_mark hl (fun q hC hQ hQx => ?_)
  refine eX8_mark_0 hC ?_
  refine eX8_mark_1 hC ?_
  refine eX8_mark_2 hC (by assumption) (by assumption) ?_
  refine eX8_mark_5 hC (by assumption) ?_
  rw [e8]
  refine eX8_mark_8x hC (Nat.le_of_ble_eq_true rfl) (Nat.le_of_ble_eq_true rfl) (Nat.le_of_ble_eq_true rfl) (vX8_requireIndex hC.nt) (zXo.of hQx (Nat.le_of_ble_eq_true rfl) (Nat.le_of_ble_eq_true rfl) (zRX.ix rfl h (zKe.refl _ _) (zAg.refl _ _ _))) (zk_x (fun m_8 => ?_))
  obtain ⟨k, rfl, hk, e⟩ := zix_in (f := fun k => .inl (nI (S.1 (40 + k)), S)) (by omega) m_8
  refine eX8_mark_11 hC ?_
  refine eX8_mark_12 hC (by assumption) (by assumption) ?_
  refine eX8_mark_15 hC (by assumption) (by assumption) ?_
  refine eX8_mark_18 hC ?_
  refine eX8_mark_19 hC (Nat.le_of_ble_eq_true rfl) (Nat.le_of_ble_eq_true rfl) (Nat.le_of_ble_eq_true rfl) (by first | assumption | exact zRow.o (by assumption)) (vX6_at hC.nt t4) (zk_i ?_)
  rw [zrd_in (by omega) (by omega), show μ _ k = nI (S.1 (40 + k)) from v1.2.1 k (by omega)]
  refine eX8_mark_22 hC hQ (Nat.le_of_ble_eq_true rfl) (Nat.le_of_ble_eq_true rfl) ?_
  exact ⟨_, _, e, rfl, zKe.refl _ _, h, zAg.refl _ _ _⟩
noncomputable def zdo_lines (S : zMs) : zOu := .inl (nI (zm S.1 (S.1 87)), S)
set_option maxHeartbeats 4000000 in
theorem vX8_lines {l : Launch} {g : zG} (hl : l.stackTraces = false) {K : zK} {μ : zF} {x : Nat} {S : zMs} (h : zX8 K μ x S) : EX8_lines l g 0 0 [.ref x] K μ (zRP (zdo_lines S) K μ x) := by
  obtain ⟨s, hR, hv, ho⟩ := id h
  obtain ⟨h0, h1, h2, h3, h4, h5, h6, h7, h8, h9, h10, h11, h12, h13, h14⟩ := id hR
  obtain ⟨v1, v2, v3, v4, v5⟩ := id hv.1
  obtain ⟨t0, t1, t2, t3, t4⟩ := id h8
  obtain ⟨y0, y1, y2, y3, y4, y5, y6, y7, -⟩ := id h9
  obtain ⟨p0, p1, p2, p3, p4, p5, p6⟩ := id h10
  have b0 := h13.1
  have q0 := h14.1
  have o1 := ho.1.1
  have hmm := (zm_is S.1 (S.1 87)).1
  have hpm : zpm S.1 (S.1 87) ≤ 40 := by unfold zpm; have := (gM_is (zpx_ok ho.1 (S.1 87))).1; omega
  refine nX8_lines hl (fun q hC hQ => ?_)
  refine eX8_lines_0 hC ?_
  refine eX8_lines_1 hC (Nat.le_of_ble_eq_true rfl) (Nat.le_of_ble_eq_true rfl) (Nat.le_of_ble_eq_true rfl) (by assumption) (vX8_refresh hC.nt hR hv ho) (zk_w (fun μ_1 m_1 => ?_))
  obtain ⟨w1, w2, w3⟩ := m_1
  have hX : zX8 K μ_1 x S := ⟨s, hR, ⟨w1, Or.inr w2⟩, ho⟩
  obtain ⟨f1, f2, f3⟩ := id w2
  obtain ⟨u1, u2, u3, u4, u5⟩ := id w1
  refine eX8_lines_4 hC ?_
  refine eX8_lines_5 hC (by assumption) (by assumption) ?_
  refine eX8_lines_8 hC (by assumption) ?_
  rw [f2.1]
  refine eX8_lines_11 hC hQ (Nat.le_of_ble_eq_true rfl) (Nat.le_of_ble_eq_true rfl) ?_
  exact ⟨_, _, rfl, rfl, zKe.refl _ _, hX, w3⟩
noncomputable def zdo_pages (S : zMs) : zOu := .inl (nI (zpm S.1 (S.1 87)), S)
set_option maxHeartbeats 4000000 in
theorem vX8_pages {l : Launch} {g : zG} (hl : l.stackTraces = false) {K : zK} {μ : zF} {x : Nat} {S : zMs} (h : zX8 K μ x S) : EX8_pages l g 0 0 [.ref x] K μ (zRP (zdo_pages S) K μ x) := by
  obtain ⟨s, hR, hv, ho⟩ := id h
  obtain ⟨h0, h1, h2, h3, h4, h5, h6, h7, h8, h9, h10, h11, h12, h13, h14⟩ := id hR
  obtain ⟨v1, v2, v3, v4, v5⟩ := id hv.1
  obtain ⟨t0, t1, t2, t3, t4⟩ := id h8
  obtain ⟨y0, y1, y2, y3, y4, y5, y6, y7, -⟩ := id h9
  obtain ⟨p0, p1, p2, p3, p4, p5, p6⟩ := id h10
  have b0 := h13.1
  have q0 := h14.1
  have o1 := ho.1.1
  have hmm := (zm_is S.1 (S.1 87)).1
  have hpm : zpm S.1 (S.1 87) ≤ 40 := by unfold zpm; have := (gM_is (zpx_ok ho.1 (S.1 87))).1; omega
  refine nX8_pages hl (fun q hC hQ => ?_)
  refine eX8_pages_0 hC ?_
  refine eX8_pages_1 hC (Nat.le_of_ble_eq_true rfl) (Nat.le_of_ble_eq_true rfl) (Nat.le_of_ble_eq_true rfl) (by assumption) (vX8_refresh hC.nt hR hv ho) (zk_w (fun μ_1 m_1 => ?_))
  obtain ⟨w1, w2, w3⟩ := m_1
  have hX : zX8 K μ_1 x S := ⟨s, hR, ⟨w1, Or.inr w2⟩, ho⟩
  obtain ⟨f1, f2, f3⟩ := id w2
  obtain ⟨u1, u2, u3, u4, u5⟩ := id w1
  refine eX8_pages_4 hC ?_
  refine eX8_pages_5 hC (by assumption) (by assumption) ?_
  refine eX8_pages_8 hC (by assumption) ?_
  rw [f3.1]
  refine eX8_pages_11 hC hQ (Nat.le_of_ble_eq_true rfl) (Nat.le_of_ble_eq_true rfl) ?_
  exact ⟨_, _, rfl, rfl, zKe.refl _ _, hX, w3⟩
noncomputable def zdo_stairs (S : zMs) : zOu := .inl (nI (zct (fun j => zsa S.1 (S.1 87) j ≠ 1) (zm S.1 (S.1 87))), S)
set_option maxHeartbeats 4000000 in
theorem vX8_stairs {l : Launch} {g : zG} (hl : l.stackTraces = false) {K : zK} {μ : zF} {x : Nat} {S : zMs} (h : zX8 K μ x S) : EX8_stairs l g 0 0 [.ref x] K μ (zRP (zdo_stairs S) K μ x) := by
  obtain ⟨s, hR, hv, ho⟩ := id h
  obtain ⟨h0, h1, h2, h3, h4, h5, h6, h7, h8, h9, h10, h11, h12, h13, h14⟩ := id hR
  obtain ⟨v1, v2, v3, v4, v5⟩ := id hv.1
  obtain ⟨t0, t1, t2, t3, t4⟩ := id h8
  obtain ⟨y0, y1, y2, y3, y4, y5, y6, y7, -⟩ := id h9
  obtain ⟨p0, p1, p2, p3, p4, p5, p6⟩ := id h10
  have b0 := h13.1
  have q0 := h14.1
  have o1 := ho.1.1
  have hmm := (zm_is S.1 (S.1 87)).1
  have hpm : zpm S.1 (S.1 87) ≤ 40 := by unfold zpm; have := (gM_is (zpx_ok ho.1 (S.1 87))).1; omega
  refine nX8_stairs hl (fun q hC hQ => ?_)
  refine eX8_stairs_0 hC ?_
  refine eX8_stairs_1 hC (Nat.le_of_ble_eq_true rfl) (Nat.le_of_ble_eq_true rfl) (Nat.le_of_ble_eq_true rfl) (by assumption) (vX8_refresh hC.nt hR hv ho) (zk_w (fun μ_1 m_1 => ?_))
  obtain ⟨w1, w2, w3⟩ := m_1
  have hX : zX8 K μ_1 x S := ⟨s, hR, ⟨w1, Or.inr w2⟩, ho⟩
  obtain ⟨f1, f2, f3⟩ := id w2
  obtain ⟨u1, u2, u3, u4, u5⟩ := id w1
  refine eX8_stairs_4 hC ?_
  refine eX8_stairs_5 hC (by assumption) (by assumption) ?_
  refine eX8_stairs_8 hC (Nat.le_of_ble_eq_true rfl) (Nat.le_of_ble_eq_true rfl) (Nat.le_of_ble_eq_true rfl) (by first | assumption | exact zLay.o (by assumption)) (vX3_countStairs hC.nt h9 h8 u1 ho.1 f2) (zk_i ?_)
  refine eX8_stairs_11 hC hQ (Nat.le_of_ble_eq_true rfl) (Nat.le_of_ble_eq_true rfl) ?_
  exact ⟨_, _, rfl, rfl, zKe.refl _ _, hX, w3⟩
noncomputable def zdo_cost (S : zMs) : zOu := .inl (nI (ztc S.1 (S.1 87) (zm S.1 (S.1 87))), S)
set_option maxHeartbeats 4000000 in
theorem vX8_cost {l : Launch} {g : zG} (hl : l.stackTraces = false) {K : zK} {μ : zF} {x : Nat} {S : zMs} (h : zX8 K μ x S) : EX8_cost l g 0 0 [.ref x] K μ (zRP (zdo_cost S) K μ x) := by
  obtain ⟨s, hR, hv, ho⟩ := id h
  obtain ⟨h0, h1, h2, h3, h4, h5, h6, h7, h8, h9, h10, h11, h12, h13, h14⟩ := id hR
  obtain ⟨v1, v2, v3, v4, v5⟩ := id hv.1
  obtain ⟨t0, t1, t2, t3, t4⟩ := id h8
  obtain ⟨y0, y1, y2, y3, y4, y5, y6, y7, -⟩ := id h9
  obtain ⟨p0, p1, p2, p3, p4, p5, p6⟩ := id h10
  have b0 := h13.1
  have q0 := h14.1
  have o1 := ho.1.1
  have hmm := (zm_is S.1 (S.1 87)).1
  have hpm : zpm S.1 (S.1 87) ≤ 40 := by unfold zpm; have := (gM_is (zpx_ok ho.1 (S.1 87))).1; omega
  refine nX8_cost hl (fun q hC hQ => ?_)
  refine eX8_cost_0 hC ?_
  refine eX8_cost_1 hC (Nat.le_of_ble_eq_true rfl) (Nat.le_of_ble_eq_true rfl) (Nat.le_of_ble_eq_true rfl) (by assumption) (vX8_refresh hC.nt hR hv ho) (zk_w (fun μ_1 m_1 => ?_))
  obtain ⟨w1, w2, w3⟩ := m_1
  have hX : zX8 K μ_1 x S := ⟨s, hR, ⟨w1, Or.inr w2⟩, ho⟩
  obtain ⟨f1, f2, f3⟩ := id w2
  obtain ⟨u1, u2, u3, u4, u5⟩ := id w1
  refine eX8_cost_4 hC ?_
  refine eX8_cost_5 hC (by assumption) (by assumption) ?_
  refine eX8_cost_8 hC (Nat.le_of_ble_eq_true rfl) (Nat.le_of_ble_eq_true rfl) (Nat.le_of_ble_eq_true rfl) (by first | assumption | exact zLay.o (by assumption)) (vX3_totalCost hC.nt h9 h8 u1 ho.1 f2) (zk_i ?_)
  refine eX8_cost_11 hC hQ (Nat.le_of_ble_eq_true rfl) (Nat.le_of_ble_eq_true rfl) ?_
  exact ⟨_, _, rfl, rfl, zKe.refl _ _, hX, w3⟩
noncomputable def zdo_widows (S : zMs) : zOu := .inl (nI (zwn S.1 (S.1 87)), S)
set_option maxHeartbeats 4000000 in
theorem vX8_widows {l : Launch} {g : zG} (hl : l.stackTraces = false) {K : zK} {μ : zF} {x : Nat} {S : zMs} (h : zX8 K μ x S) : EX8_widows l g 0 0 [.ref x] K μ (zRP (zdo_widows S) K μ x) := by
  obtain ⟨s, hR, hv, ho⟩ := id h
  obtain ⟨h0, h1, h2, h3, h4, h5, h6, h7, h8, h9, h10, h11, h12, h13, h14⟩ := id hR
  obtain ⟨v1, v2, v3, v4, v5⟩ := id hv.1
  obtain ⟨t0, t1, t2, t3, t4⟩ := id h8
  obtain ⟨y0, y1, y2, y3, y4, y5, y6, y7, -⟩ := id h9
  obtain ⟨p0, p1, p2, p3, p4, p5, p6⟩ := id h10
  have b0 := h13.1
  have q0 := h14.1
  have o1 := ho.1.1
  have hmm := (zm_is S.1 (S.1 87)).1
  have hpm : zpm S.1 (S.1 87) ≤ 40 := by unfold zpm; have := (gM_is (zpx_ok ho.1 (S.1 87))).1; omega
  refine nX8_widows hl (fun q hC hQ => ?_)
  refine eX8_widows_0 hC ?_
  refine eX8_widows_1 hC (Nat.le_of_ble_eq_true rfl) (Nat.le_of_ble_eq_true rfl) (Nat.le_of_ble_eq_true rfl) (by assumption) (vX8_refresh hC.nt hR hv ho) (zk_w (fun μ_1 m_1 => ?_))
  obtain ⟨w1, w2, w3⟩ := m_1
  have hX : zX8 K μ_1 x S := ⟨s, hR, ⟨w1, Or.inr w2⟩, ho⟩
  obtain ⟨f1, f2, f3⟩ := id w2
  obtain ⟨u1, u2, u3, u4, u5⟩ := id w1
  refine eX8_widows_4 hC ?_
  refine eX8_widows_5 hC (by assumption) (by assumption) ?_
  refine eX8_widows_8 hC (Nat.le_of_ble_eq_true rfl) (Nat.le_of_ble_eq_true rfl) (Nat.le_of_ble_eq_true rfl) (by first | assumption | exact zPag.o (by assumption)) (vX5_countWidows hC.nt h10 h9 h8 u1 ho.1 f2 f3) (zk_i ?_)
  refine eX8_widows_11 hC hQ (Nat.le_of_ble_eq_true rfl) (Nat.le_of_ble_eq_true rfl) ?_
  exact ⟨_, _, rfl, rfl, zKe.refl _ _, hX, w3⟩
noncomputable def zdo_orphans (S : zMs) : zOu := .inl (nI (zon S.1 (S.1 87)), S)
set_option maxHeartbeats 4000000 in
theorem vX8_orphans {l : Launch} {g : zG} (hl : l.stackTraces = false) {K : zK} {μ : zF} {x : Nat} {S : zMs} (h : zX8 K μ x S) : EX8_orphans l g 0 0 [.ref x] K μ (zRP (zdo_orphans S) K μ x) := by
  obtain ⟨s, hR, hv, ho⟩ := id h
  obtain ⟨h0, h1, h2, h3, h4, h5, h6, h7, h8, h9, h10, h11, h12, h13, h14⟩ := id hR
  obtain ⟨v1, v2, v3, v4, v5⟩ := id hv.1
  obtain ⟨t0, t1, t2, t3, t4⟩ := id h8
  obtain ⟨y0, y1, y2, y3, y4, y5, y6, y7, -⟩ := id h9
  obtain ⟨p0, p1, p2, p3, p4, p5, p6⟩ := id h10
  have b0 := h13.1
  have q0 := h14.1
  have o1 := ho.1.1
  have hmm := (zm_is S.1 (S.1 87)).1
  have hpm : zpm S.1 (S.1 87) ≤ 40 := by unfold zpm; have := (gM_is (zpx_ok ho.1 (S.1 87))).1; omega
  refine nX8_orphans hl (fun q hC hQ => ?_)
  refine eX8_orphans_0 hC ?_
  refine eX8_orphans_1 hC (Nat.le_of_ble_eq_true rfl) (Nat.le_of_ble_eq_true rfl) (Nat.le_of_ble_eq_true rfl) (by assumption) (vX8_refresh hC.nt hR hv ho) (zk_w (fun μ_1 m_1 => ?_))
  obtain ⟨w1, w2, w3⟩ := m_1
  have hX : zX8 K μ_1 x S := ⟨s, hR, ⟨w1, Or.inr w2⟩, ho⟩
  obtain ⟨f1, f2, f3⟩ := id w2
  obtain ⟨u1, u2, u3, u4, u5⟩ := id w1
  refine eX8_orphans_4 hC ?_
  refine eX8_orphans_5 hC (by assumption) (by assumption) ?_
  refine eX8_orphans_8 hC (Nat.le_of_ble_eq_true rfl) (Nat.le_of_ble_eq_true rfl) (Nat.le_of_ble_eq_true rfl) (by first | assumption | exact zPag.o (by assumption)) (vX5_countOrphans hC.nt h10 h9 h8 u1 ho.1 f2 f3) (zk_i ?_)
  refine eX8_orphans_11 hC hQ (Nat.le_of_ble_eq_true rfl) (Nat.le_of_ble_eq_true rfl) ?_
  exact ⟨_, _, rfl, rfl, zKe.refl _ _, hX, w3⟩
noncomputable def zdo_lineOf (i : Int32) (S : zMs) : zOu := zix i (S.1 80) (fun k => .inl (nI (zlo S.1 (S.1 87) k), S))
set_option maxHeartbeats 4000000 in
theorem vX8_lineOf {l : Launch} {g : zG} (hl : l.stackTraces = false) {K : zK} {μ : zF} {x : Nat} {S : zMs} {i : Int32} (h : zX8 K μ x S) : QX8_lineOf l g 1 6 [.ref x, .int i] K μ (zRP (zdo_lineOf i S) K μ x) (zRX (zdo_lineOf i S) K μ x S) := by
  obtain ⟨s, hR, hv, ho⟩ := id h
  obtain ⟨h0, h1, h2, h3, h4, h5, h6, h7, h8, h9, h10, h11, h12, h13, h14⟩ := id hR
  obtain ⟨v1, v2, v3, v4, v5⟩ := id hv.1
  obtain ⟨t0, t1, t2, t3, t4⟩ := id h8
  obtain ⟨y0, y1, y2, y3, y4, y5, y6, y7, -⟩ := id h9
  obtain ⟨p0, p1, p2, p3, p4, p5, p6⟩ := id h10
  have b0 := h13.1
  have q0 := h14.1
  have o1 := ho.1.1
  have hmm := (zm_is S.1 (S.1 87)).1
  have hpm : zpm S.1 (S.1 87) ≤ 40 := by unfold zpm; have := (gM_is (zpx_ok ho.1 (S.1 87))).1; omega
  have e8 : μ (x + 1) 2 = nI (S.1 80) := v1.2.2 2 (by omega) (by omega)
  refine nxX8_lineOf hl (fun q hC hQ hQx => ?_)
  refine eX8_lineOf_0 hC ?_
  refine eX8_lineOf_1 hC ?_
  refine eX8_lineOf_2 hC (by assumption) (by assumption) ?_
  refine eX8_lineOf_5 hC (by assumption) ?_
  rw [e8]
  refine eX8_lineOf_8x hC (Nat.le_of_ble_eq_true rfl) (Nat.le_of_ble_eq_true rfl) (Nat.le_of_ble_eq_true rfl) (vX8_requireIndex hC.nt) (zXo.of hQx (Nat.le_of_ble_eq_true rfl) (Nat.le_of_ble_eq_true rfl) (zRX.ix rfl h (zKe.refl _ _) (zAg.refl _ _ _))) (zk_x (fun m_8 => ?_))
  obtain ⟨k, rfl, hk, e⟩ := zix_in (f := fun k => .inl (nI (zlo S.1 (S.1 87) k), S)) (by omega) m_8
  refine eX8_lineOf_11 hC ?_
  refine eX8_lineOf_12 hC (Nat.le_of_ble_eq_true rfl) (Nat.le_of_ble_eq_true rfl) (Nat.le_of_ble_eq_true rfl) (by assumption) (vX8_refresh hC.nt hR hv ho) (zk_w (fun μ_12 m_12 => ?_))
  obtain ⟨w1, w2, w3⟩ := m_12
  have hX : zX8 K μ_12 x S := ⟨s, hR, ⟨w1, Or.inr w2⟩, ho⟩
  obtain ⟨f1, f2, f3⟩ := id w2
  obtain ⟨u1, u2, u3, u4, u5⟩ := id w1
  refine eX8_lineOf_15 hC ?_
  refine eX8_lineOf_16 hC (by assumption) (by assumption) ?_
  refine eX8_lineOf_19 hC (by assumption) (by assumption) ?_
  refine eX8_lineOf_22 hC ?_
  refine eX8_lineOf_23 hC (Nat.le_of_ble_eq_true rfl) (Nat.le_of_ble_eq_true rfl) (Nat.le_of_ble_eq_true rfl) (by first | assumption | exact zRow.o (by assumption)) (vX6_at hC.nt y7) (zk_i ?_)
  rw [zrd_in (by omega) (by omega), show μ_12 _ k = nI (zlo S.1 (S.1 87) k) from f2.2.2.1 k hk]
  refine eX8_lineOf_26 hC hQ (Nat.le_of_ble_eq_true rfl) (Nat.le_of_ble_eq_true rfl) ?_
  exact ⟨_, _, e, rfl, zKe.refl _ _, hX, w3⟩
noncomputable def zdo_reason (i : Int32) (S : zMs) : zOu := zix i (S.1 80) (fun k => .inl (nI (zre S.1 (S.1 87) k), S))
set_option maxHeartbeats 4000000 in
theorem vX8_reason {l : Launch} {g : zG} (hl : l.stackTraces = false) {K : zK} {μ : zF} {x : Nat} {S : zMs} {i : Int32} (h : zX8 K μ x S) : QX8_reason l g 1 6 [.ref x, .int i] K μ (zRP (zdo_reason i S) K μ x) (zRX (zdo_reason i S) K μ x S) := by
  obtain ⟨s, hR, hv, ho⟩ := id h
  obtain ⟨h0, h1, h2, h3, h4, h5, h6, h7, h8, h9, h10, h11, h12, h13, h14⟩ := id hR
  obtain ⟨v1, v2, v3, v4, v5⟩ := id hv.1
  obtain ⟨t0, t1, t2, t3, t4⟩ := id h8
  obtain ⟨y0, y1, y2, y3, y4, y5, y6, y7, -⟩ := id h9
  obtain ⟨p0, p1, p2, p3, p4, p5, p6⟩ := id h10
  have b0 := h13.1
  have q0 := h14.1
  have o1 := ho.1.1
  have hmm := (zm_is S.1 (S.1 87)).1
  have hpm : zpm S.1 (S.1 87) ≤ 40 := by unfold zpm; have := (gM_is (zpx_ok ho.1 (S.1 87))).1; omega
  have e8 : μ (x + 1) 2 = nI (S.1 80) := v1.2.2 2 (by omega) (by omega)
  refine nxX8_reason hl (fun q hC hQ hQx => ?_)
  refine eX8_reason_0 hC ?_
  refine eX8_reason_1 hC ?_
  refine eX8_reason_2 hC (by assumption) (by assumption) ?_
  refine eX8_reason_5 hC (by assumption) ?_
  rw [e8]
  refine eX8_reason_8x hC (Nat.le_of_ble_eq_true rfl) (Nat.le_of_ble_eq_true rfl) (Nat.le_of_ble_eq_true rfl) (vX8_requireIndex hC.nt) (zXo.of hQx (Nat.le_of_ble_eq_true rfl) (Nat.le_of_ble_eq_true rfl) (zRX.ix rfl h (zKe.refl _ _) (zAg.refl _ _ _))) (zk_x (fun m_8 => ?_))
  obtain ⟨k, rfl, hk, e⟩ := zix_in (f := fun k => .inl (nI (zre S.1 (S.1 87) k), S)) (by omega) m_8
  refine eX8_reason_11 hC ?_
  refine eX8_reason_12 hC (Nat.le_of_ble_eq_true rfl) (Nat.le_of_ble_eq_true rfl) (Nat.le_of_ble_eq_true rfl) (by assumption) (vX8_refresh hC.nt hR hv ho) (zk_w (fun μ_12 m_12 => ?_))
  obtain ⟨w1, w2, w3⟩ := m_12
  have hX : zX8 K μ_12 x S := ⟨s, hR, ⟨w1, Or.inr w2⟩, ho⟩
  obtain ⟨f1, f2, f3⟩ := id w2
  obtain ⟨u1, u2, u3, u4, u5⟩ := id w1
  refine eX8_reason_15 hC ?_
  refine eX8_reason_16 hC (by assumption) (by assumption) ?_
  refine eX8_reason_19 hC ?_
  refine eX8_reason_20 hC (Nat.le_of_ble_eq_true rfl) (Nat.le_of_ble_eq_true rfl) (Nat.le_of_ble_eq_true rfl) (by first | assumption | exact zLay.o (by assumption)) (vX3_reasonBehind hC.nt h9 h8 u1 ho.1 f2 hk) (zk_i ?_)
  refine eX8_reason_23 hC hQ (Nat.le_of_ble_eq_true rfl) (Nat.le_of_ble_eq_true rfl) ?_
  exact ⟨_, _, e, rfl, zKe.refl _ _, hX, w3⟩
noncomputable def zdo_firstWord (i : Int32) (S : zMs) : zOu := zix i (zm S.1 (S.1 87)) (fun k => .inl (nI (zL S.1 (S.1 87) k), S))
set_option maxHeartbeats 4000000 in
theorem vX8_firstWord {l : Launch} {g : zG} (hl : l.stackTraces = false) {K : zK} {μ : zF} {x : Nat} {S : zMs} {i : Int32} (h : zX8 K μ x S) : QX8_firstWord l g 1 6 [.ref x, .int i] K μ (zRP (zdo_firstWord i S) K μ x) (zRX (zdo_firstWord i S) K μ x S) := by
  obtain ⟨s, hR, hv, ho⟩ := id h
  obtain ⟨h0, h1, h2, h3, h4, h5, h6, h7, h8, h9, h10, h11, h12, h13, h14⟩ := id hR
  obtain ⟨v1, v2, v3, v4, v5⟩ := id hv.1
  obtain ⟨t0, t1, t2, t3, t4⟩ := id h8
  obtain ⟨y0, y1, y2, y3, y4, y5, y6, y7, -⟩ := id h9
  obtain ⟨p0, p1, p2, p3, p4, p5, p6⟩ := id h10
  have b0 := h13.1
  have q0 := h14.1
  have o1 := ho.1.1
  have hmm := (zm_is S.1 (S.1 87)).1
  have hpm : zpm S.1 (S.1 87) ≤ 40 := by unfold zpm; have := (gM_is (zpx_ok ho.1 (S.1 87))).1; omega
  refine nxX8_firstWord hl (fun q hC hQ hQx => ?_)
  refine eX8_firstWord_0 hC ?_
  refine eX8_firstWord_1 hC (Nat.le_of_ble_eq_true rfl) (Nat.le_of_ble_eq_true rfl) (Nat.le_of_ble_eq_true rfl) (by assumption) (vX8_refresh hC.nt hR hv ho) (zk_w (fun μ_1 m_1 => ?_))
  obtain ⟨w1, w2, w3⟩ := m_1
  have hX : zX8 K μ_1 x S := ⟨s, hR, ⟨w1, Or.inr w2⟩, ho⟩
  obtain ⟨f1, f2, f3⟩ := id w2
  obtain ⟨u1, u2, u3, u4, u5⟩ := id w1
  refine eX8_firstWord_4 hC ?_
  refine eX8_firstWord_5 hC ?_
  refine eX8_firstWord_6 hC (by assumption) (by assumption) ?_
  refine eX8_firstWord_9 hC (by assumption) ?_
  rw [f2.1]
  refine eX8_firstWord_12x hC (Nat.le_of_ble_eq_true rfl) (Nat.le_of_ble_eq_true rfl) (Nat.le_of_ble_eq_true rfl) (vX8_requireIndex hC.nt) (zXo.of hQx (Nat.le_of_ble_eq_true rfl) (Nat.le_of_ble_eq_true rfl) (zRX.ix rfl hX (zKe.refl _ _) w3)) (zk_x (fun m_12 => ?_))
  obtain ⟨k, rfl, hk, e⟩ := zix_in (f := fun k => .inl (nI (zL S.1 (S.1 87) k), S)) (by omega) m_12
  refine eX8_firstWord_15 hC ?_
  refine eX8_firstWord_16 hC (by assumption) (by assumption) ?_
  refine eX8_firstWord_19 hC (by assumption) (by assumption) ?_
  refine eX8_firstWord_22 hC ?_
  refine eX8_firstWord_23 hC (Nat.le_of_ble_eq_true rfl) (Nat.le_of_ble_eq_true rfl) (Nat.le_of_ble_eq_true rfl) (by first | assumption | exact zRow.o (by assumption)) (vX6_at hC.nt y6) (zk_i ?_)
  rw [zrd_in (by omega) (by omega), show μ_1 _ k = nI (zL S.1 (S.1 87) k) from f2.2.1 k (by omega)]
  refine eX8_firstWord_26 hC hQ (Nat.le_of_ble_eq_true rfl) (Nat.le_of_ble_eq_true rfl) ?_
  exact ⟨_, _, e, rfl, zKe.refl _ _, hX, w3⟩
noncomputable def zdo_lineWidth (i : Int32) (S : zMs) : zOu := zix i (zm S.1 (S.1 87)) (fun k => .inl (nI (zlw S.1 (S.1 87) k), S))
set_option maxHeartbeats 4000000 in
theorem vX8_lineWidth {l : Launch} {g : zG} (hl : l.stackTraces = false) {K : zK} {μ : zF} {x : Nat} {S : zMs} {i : Int32} (h : zX8 K μ x S) : QX8_lineWidth l g 1 6 [.ref x, .int i] K μ (zRP (zdo_lineWidth i S) K μ x) (zRX (zdo_lineWidth i S) K μ x S) := by
  obtain ⟨s, hR, hv, ho⟩ := id h
  obtain ⟨h0, h1, h2, h3, h4, h5, h6, h7, h8, h9, h10, h11, h12, h13, h14⟩ := id hR
  obtain ⟨v1, v2, v3, v4, v5⟩ := id hv.1
  obtain ⟨t0, t1, t2, t3, t4⟩ := id h8
  obtain ⟨y0, y1, y2, y3, y4, y5, y6, y7, -⟩ := id h9
  obtain ⟨p0, p1, p2, p3, p4, p5, p6⟩ := id h10
  have b0 := h13.1
  have q0 := h14.1
  have o1 := ho.1.1
  have hmm := (zm_is S.1 (S.1 87)).1
  have hpm : zpm S.1 (S.1 87) ≤ 40 := by unfold zpm; have := (gM_is (zpx_ok ho.1 (S.1 87))).1; omega
  refine nxX8_lineWidth hl (fun q hC hQ hQx => ?_)
  refine eX8_lineWidth_0 hC ?_
  refine eX8_lineWidth_1 hC (Nat.le_of_ble_eq_true rfl) (Nat.le_of_ble_eq_true rfl) (Nat.le_of_ble_eq_true rfl) (by assumption) (vX8_refresh hC.nt hR hv ho) (zk_w (fun μ_1 m_1 => ?_))
  obtain ⟨w1, w2, w3⟩ := m_1
  have hX : zX8 K μ_1 x S := ⟨s, hR, ⟨w1, Or.inr w2⟩, ho⟩
  obtain ⟨f1, f2, f3⟩ := id w2
  obtain ⟨u1, u2, u3, u4, u5⟩ := id w1
  refine eX8_lineWidth_4 hC ?_
  refine eX8_lineWidth_5 hC ?_
  refine eX8_lineWidth_6 hC (by assumption) (by assumption) ?_
  refine eX8_lineWidth_9 hC (by assumption) ?_
  rw [f2.1]
  refine eX8_lineWidth_12x hC (Nat.le_of_ble_eq_true rfl) (Nat.le_of_ble_eq_true rfl) (Nat.le_of_ble_eq_true rfl) (vX8_requireIndex hC.nt) (zXo.of hQx (Nat.le_of_ble_eq_true rfl) (Nat.le_of_ble_eq_true rfl) (zRX.ix rfl hX (zKe.refl _ _) w3)) (zk_x (fun m_12 => ?_))
  obtain ⟨k, rfl, hk, e⟩ := zix_in (f := fun k => .inl (nI (zlw S.1 (S.1 87) k), S)) (by omega) m_12
  refine eX8_lineWidth_15 hC ?_
  refine eX8_lineWidth_16 hC (by assumption) (by assumption) ?_
  refine eX8_lineWidth_19 hC ?_
  refine eX8_lineWidth_20 hC (Nat.le_of_ble_eq_true rfl) (Nat.le_of_ble_eq_true rfl) (Nat.le_of_ble_eq_true rfl) (by first | assumption | exact zLay.o (by assumption)) (vX3_widthOfLine hC.nt h9 h8 u1 ho.1 f2 hk) (zk_i ?_)
  refine eX8_lineWidth_23 hC hQ (Nat.le_of_ble_eq_true rfl) (Nat.le_of_ble_eq_true rfl) ?_
  exact ⟨_, _, e, rfl, zKe.refl _ _, hX, w3⟩
noncomputable def zdo_stairAt (i : Int32) (S : zMs) : zOu := zix i (zm S.1 (S.1 87)) (fun k => .inl (nI (zsa S.1 (S.1 87) k) - nI 1, S))
set_option maxHeartbeats 4000000 in
theorem vX8_stairAt {l : Launch} {g : zG} (hl : l.stackTraces = false) {K : zK} {μ : zF} {x : Nat} {S : zMs} {i : Int32} (h : zX8 K μ x S) : QX8_stairAt l g 1 6 [.ref x, .int i] K μ (zRP (zdo_stairAt i S) K μ x) (zRX (zdo_stairAt i S) K μ x S) := by
  obtain ⟨s, hR, hv, ho⟩ := id h
  obtain ⟨h0, h1, h2, h3, h4, h5, h6, h7, h8, h9, h10, h11, h12, h13, h14⟩ := id hR
  obtain ⟨v1, v2, v3, v4, v5⟩ := id hv.1
  obtain ⟨t0, t1, t2, t3, t4⟩ := id h8
  obtain ⟨y0, y1, y2, y3, y4, y5, y6, y7, -⟩ := id h9
  obtain ⟨p0, p1, p2, p3, p4, p5, p6⟩ := id h10
  have b0 := h13.1
  have q0 := h14.1
  have o1 := ho.1.1
  have hmm := (zm_is S.1 (S.1 87)).1
  have hpm : zpm S.1 (S.1 87) ≤ 40 := by unfold zpm; have := (gM_is (zpx_ok ho.1 (S.1 87))).1; omega
  refine nxX8_stairAt hl (fun q hC hQ hQx => ?_)
  refine eX8_stairAt_0 hC ?_
  refine eX8_stairAt_1 hC (Nat.le_of_ble_eq_true rfl) (Nat.le_of_ble_eq_true rfl) (Nat.le_of_ble_eq_true rfl) (by assumption) (vX8_refresh hC.nt hR hv ho) (zk_w (fun μ_1 m_1 => ?_))
  obtain ⟨w1, w2, w3⟩ := m_1
  have hX : zX8 K μ_1 x S := ⟨s, hR, ⟨w1, Or.inr w2⟩, ho⟩
  obtain ⟨f1, f2, f3⟩ := id w2
  obtain ⟨u1, u2, u3, u4, u5⟩ := id w1
  refine eX8_stairAt_4 hC ?_
  refine eX8_stairAt_5 hC ?_
  refine eX8_stairAt_6 hC (by assumption) (by assumption) ?_
  refine eX8_stairAt_9 hC (by assumption) ?_
  rw [f2.1]
  refine eX8_stairAt_12x hC (Nat.le_of_ble_eq_true rfl) (Nat.le_of_ble_eq_true rfl) (Nat.le_of_ble_eq_true rfl) (vX8_requireIndex hC.nt) (zXo.of hQx (Nat.le_of_ble_eq_true rfl) (Nat.le_of_ble_eq_true rfl) (zRX.ix rfl hX (zKe.refl _ _) w3)) (zk_x (fun m_12 => ?_))
  obtain ⟨k, rfl, hk, e⟩ := zix_in (f := fun k => .inl (nI (zsa S.1 (S.1 87) k) - nI 1, S)) (by omega) m_12
  refine eX8_stairAt_15 hC ?_
  refine eX8_stairAt_16 hC (by assumption) (by assumption) ?_
  refine eX8_stairAt_19 hC ?_
  refine eX8_stairAt_20 hC (Nat.le_of_ble_eq_true rfl) (Nat.le_of_ble_eq_true rfl) (Nat.le_of_ble_eq_true rfl) (by first | assumption | exact zLay.o (by assumption)) (vX3_stairAround hC.nt h9 h8 u1 ho.1 f2 hk) (zk_i ?_)
  refine eX8_stairAt_23 hC hQ (Nat.le_of_ble_eq_true rfl) (Nat.le_of_ble_eq_true rfl) ?_
  exact ⟨_, _, e, rfl, zKe.refl _ _, hX, w3⟩
noncomputable def zdo_pageOf (i : Int32) (S : zMs) : zOu := zix i (zm S.1 (S.1 87)) (fun k => .inl (nI (zpo S.1 (S.1 87) k), S))
set_option maxHeartbeats 4000000 in
theorem vX8_pageOf {l : Launch} {g : zG} (hl : l.stackTraces = false) {K : zK} {μ : zF} {x : Nat} {S : zMs} {i : Int32} (h : zX8 K μ x S) : QX8_pageOf l g 1 6 [.ref x, .int i] K μ (zRP (zdo_pageOf i S) K μ x) (zRX (zdo_pageOf i S) K μ x S) := by
  obtain ⟨s, hR, hv, ho⟩ := id h
  obtain ⟨h0, h1, h2, h3, h4, h5, h6, h7, h8, h9, h10, h11, h12, h13, h14⟩ := id hR
  obtain ⟨v1, v2, v3, v4, v5⟩ := id hv.1
  obtain ⟨t0, t1, t2, t3, t4⟩ := id h8
  obtain ⟨y0, y1, y2, y3, y4, y5, y6, y7, -⟩ := id h9
  obtain ⟨p0, p1, p2, p3, p4, p5, p6⟩ := id h10
  have b0 := h13.1
  have q0 := h14.1
  have o1 := ho.1.1
  have hmm := (zm_is S.1 (S.1 87)).1
  have hpm : zpm S.1 (S.1 87) ≤ 40 := by unfold zpm; have := (gM_is (zpx_ok ho.1 (S.1 87))).1; omega
  refine nxX8_pageOf hl (fun q hC hQ hQx => ?_)
  refine eX8_pageOf_0 hC ?_
  refine eX8_pageOf_1 hC (Nat.le_of_ble_eq_true rfl) (Nat.le_of_ble_eq_true rfl) (Nat.le_of_ble_eq_true rfl) (by assumption) (vX8_refresh hC.nt hR hv ho) (zk_w (fun μ_1 m_1 => ?_))
  obtain ⟨w1, w2, w3⟩ := m_1
  have hX : zX8 K μ_1 x S := ⟨s, hR, ⟨w1, Or.inr w2⟩, ho⟩
  obtain ⟨f1, f2, f3⟩ := id w2
  obtain ⟨u1, u2, u3, u4, u5⟩ := id w1
  refine eX8_pageOf_4 hC ?_
  refine eX8_pageOf_5 hC ?_
  refine eX8_pageOf_6 hC (by assumption) (by assumption) ?_
  refine eX8_pageOf_9 hC (by assumption) ?_
  rw [f2.1]
  refine eX8_pageOf_12x hC (Nat.le_of_ble_eq_true rfl) (Nat.le_of_ble_eq_true rfl) (Nat.le_of_ble_eq_true rfl) (vX8_requireIndex hC.nt) (zXo.of hQx (Nat.le_of_ble_eq_true rfl) (Nat.le_of_ble_eq_true rfl) (zRX.ix rfl hX (zKe.refl _ _) w3)) (zk_x (fun m_12 => ?_))
  obtain ⟨k, rfl, hk, e⟩ := zix_in (f := fun k => .inl (nI (zpo S.1 (S.1 87) k), S)) (by omega) m_12
  refine eX8_pageOf_15 hC ?_
  refine eX8_pageOf_16 hC (by assumption) (by assumption) ?_
  refine eX8_pageOf_19 hC (by assumption) (by assumption) ?_
  refine eX8_pageOf_22 hC ?_
  refine eX8_pageOf_23 hC (Nat.le_of_ble_eq_true rfl) (Nat.le_of_ble_eq_true rfl) (Nat.le_of_ble_eq_true rfl) (by first | assumption | exact zRow.o (by assumption)) (vX6_at hC.nt p6) (zk_i ?_)
  rw [zrd_in (by omega) (by omega), show μ_1 _ k = nI (zpo S.1 (S.1 87) k) from f3.2.2 k (by omega)]
  refine eX8_pageOf_26 hC hQ (Nat.le_of_ble_eq_true rfl) (Nat.le_of_ble_eq_true rfl) ?_
  exact ⟨_, _, e, rfl, zKe.refl _ _, hX, w3⟩
noncomputable def zdo_linesOn (i : Int32) (S : zMs) : zOu := zix i (zpm S.1 (S.1 87)) (fun k => .inl (nI (zP S.1 (S.1 87) (k + 1)) - nI (zP S.1 (S.1 87) k), S))
set_option maxHeartbeats 4000000 in
theorem vX8_linesOn {l : Launch} {g : zG} (hl : l.stackTraces = false) {K : zK} {μ : zF} {x : Nat} {S : zMs} {i : Int32} (h : zX8 K μ x S) : QX8_linesOn l g 1 6 [.ref x, .int i] K μ (zRP (zdo_linesOn i S) K μ x) (zRX (zdo_linesOn i S) K μ x S) := by
  obtain ⟨s, hR, hv, ho⟩ := id h
  obtain ⟨h0, h1, h2, h3, h4, h5, h6, h7, h8, h9, h10, h11, h12, h13, h14⟩ := id hR
  obtain ⟨v1, v2, v3, v4, v5⟩ := id hv.1
  obtain ⟨t0, t1, t2, t3, t4⟩ := id h8
  obtain ⟨y0, y1, y2, y3, y4, y5, y6, y7, -⟩ := id h9
  obtain ⟨p0, p1, p2, p3, p4, p5, p6⟩ := id h10
  have b0 := h13.1
  have q0 := h14.1
  have o1 := ho.1.1
  have hmm := (zm_is S.1 (S.1 87)).1
  have hpm : zpm S.1 (S.1 87) ≤ 40 := by unfold zpm; have := (gM_is (zpx_ok ho.1 (S.1 87))).1; omega
  refine nxX8_linesOn hl (fun q hC hQ hQx => ?_)
  refine eX8_linesOn_0 hC ?_
  refine eX8_linesOn_1 hC (Nat.le_of_ble_eq_true rfl) (Nat.le_of_ble_eq_true rfl) (Nat.le_of_ble_eq_true rfl) (by assumption) (vX8_refresh hC.nt hR hv ho) (zk_w (fun μ_1 m_1 => ?_))
  obtain ⟨w1, w2, w3⟩ := m_1
  have hX : zX8 K μ_1 x S := ⟨s, hR, ⟨w1, Or.inr w2⟩, ho⟩
  obtain ⟨f1, f2, f3⟩ := id w2
  obtain ⟨u1, u2, u3, u4, u5⟩ := id w1
  refine eX8_linesOn_4 hC ?_
  refine eX8_linesOn_5 hC ?_
  refine eX8_linesOn_6 hC (by assumption) (by assumption) ?_
  refine eX8_linesOn_9 hC (by assumption) ?_
  rw [f3.1]
  refine eX8_linesOn_12x hC (Nat.le_of_ble_eq_true rfl) (Nat.le_of_ble_eq_true rfl) (Nat.le_of_ble_eq_true rfl) (vX8_requireIndex hC.nt) (zXo.of hQx (Nat.le_of_ble_eq_true rfl) (Nat.le_of_ble_eq_true rfl) (zRX.ix rfl hX (zKe.refl _ _) w3)) (zk_x (fun m_12 => ?_))
  obtain ⟨k, rfl, hk, e⟩ := zix_in (f := fun k => .inl (nI (zP S.1 (S.1 87) (k + 1)) - nI (zP S.1 (S.1 87) k), S)) (by omega) m_12
  refine eX8_linesOn_15 hC ?_
  refine eX8_linesOn_16 hC (by assumption) (by assumption) ?_
  refine eX8_linesOn_19 hC (by assumption) (by assumption) ?_
  refine eX8_linesOn_22 hC ?_
  refine eX8_linesOn_23 hC ?_
  refine eX8_linesOn_24 hC ?_
  rw [nI_add]
  refine eX8_linesOn_25 hC (Nat.le_of_ble_eq_true rfl) (Nat.le_of_ble_eq_true rfl) (Nat.le_of_ble_eq_true rfl) (by first | assumption | exact zRow.o (by assumption)) (vX6_at hC.nt p5) (zk_i ?_)
  rw [zrd_in (by omega) (by omega), show μ_1 _ (k + 1) = nI (zP S.1 (S.1 87) (k + 1)) from f3.2.1 (k + 1) (by omega)]
  refine eX8_linesOn_28 hC ?_
  refine eX8_linesOn_29 hC (by assumption) (by assumption) ?_
  refine eX8_linesOn_32 hC (by assumption) (by assumption) ?_
  refine eX8_linesOn_35 hC ?_
  refine eX8_linesOn_36 hC (Nat.le_of_ble_eq_true rfl) (Nat.le_of_ble_eq_true rfl) (Nat.le_of_ble_eq_true rfl) (by first | assumption | exact zRow.o (by assumption)) (vX6_at hC.nt p5) (zk_i ?_)
  rw [zrd_in (by omega) (by omega), show μ_1 _ k = nI (zP S.1 (S.1 87) k) from f3.2.1 k (by omega)]
  refine eX8_linesOn_39 hC ?_
  refine eX8_linesOn_40 hC hQ (Nat.le_of_ble_eq_true rfl) (Nat.le_of_ble_eq_true rfl) ?_
  exact ⟨_, _, e, rfl, zKe.refl _ _, hX, w3⟩
