/-! ===== changes ===== -/
def zcg (S : zMs) (τ : Nat → Nat) : zMs := (τ, (zsv S).2)
theorem zcg_ok {S : zMs} {τ : Nat → Nat} (h : zMok S) (ht : zOk τ) : zMok (zcg S τ) := ⟨ht, (zsv_ok h).2⟩
theorem zTv.set {μ : zF} {t k w : Nat} {τ : Nat → Nat} (h : zTv μ t τ) (h1 : 2 ≤ k) (h2 : k ≤ 9) : zTv (zup μ t k (nI w)) t (zuf τ (78 + k) w) := by
  refine ⟨fun j hj => ?_, fun j hj => ?_, fun j g1 g2 => ?_⟩
  · rw [zup_a _ _ _ _ (by omega)]; unfold zuf; rw [if_neg (by omega)]; exact h.1 j hj
  · rw [zup_a _ _ _ _ (by omega)]; unfold zuf; rw [if_neg (by omega)]; exact h.2.1 j hj
  · unfold zuf
    by_cases c : j = k
    · subst c; rw [zup_self, if_pos rfl]
    · rw [zup_k _ _ _ c, if_neg (by omega)]; exact h.2.2 j g1 g2
theorem zTv.mark {μ : zF} {t k w : Nat} {τ : Nat → Nat} (h : zTv μ t τ) (h1 : k < 40) : zTv (zup μ (t + 3 + 1) k (nI w)) t (zuf τ (40 + k) w) := by
  refine ⟨fun j hj => ?_, fun j hj => ?_, fun j g1 g2 => ?_⟩
  · rw [zup_a _ _ _ _ (by omega)]; unfold zuf; rw [if_neg (by omega)]; exact h.1 j hj
  · unfold zuf
    by_cases c : j = k
    · subst c; rw [show t + 4 = t + 3 + 1 by omega, zup_self, if_pos rfl]
    · rw [show t + 4 = t + 3 + 1 by omega, zup_k _ _ _ c, if_neg (by omega)]; exact h.2.1 j hj
  · rw [zup_a _ _ _ _ (by omega)]; unfold zuf; rw [if_neg (by omega)]; exact h.2.2 j g1 g2
theorem zRc.txt {K : zK} {μ μ' : zF} {x : Nat} {s : Nat → Nat} {S : zMs} {τ : Nat → Nat} (h : zRc μ x s S) (hR : zRag K x s) (hv : zTv μ' (x + 1) τ) (ha : zAg μ μ' (x + 1) (x + 6)) : zRc μ' x s (τ, S.2) := by
  obtain ⟨v1, v2, v3, v4, v5⟩ := h
  exact ⟨hv, v2.ag ha (by omega), v3.ag hR.2.2.2.2.2.2.2.2.2.2.2.2.2.2 ha (by omega), by rw [ha _ _ (by omega)]; exact v4, by rw [ha _ _ (by omega)]; exact v5⟩
theorem zRf.ag {μ μ' : zF} {x lo hi : Nat} {τ : Nat → Nat} (h : zRf μ x τ) (ha : zAg μ μ' lo hi) (hd : x + 28 ≤ lo) : zRf μ' x τ := ⟨by rw [ha _ _ (by omega)]; exact h.1, h.2.1.ag ha (by omega), h.2.2.ag ha (by omega)⟩
theorem zRv.buf {K : zK} {μ μ' : zF} {x L : Nat} {s : Nat → Nat} {S : zMs} {β : Nat → Nat} (h : zRv μ x s S) (hR : zRag K x s) (ha : zAg μ μ' (x + 50) (x + 57)) (hb : zBuv μ' (x + 50) β L) : zRv μ' x s (S.1, S.2.1, S.2.2.1, L, β) := by
  obtain ⟨⟨v1, v2, v3, v4, v5⟩, hf⟩ := h
  refine ⟨⟨v1.ag ha (by omega), hb, v3.ag hR.2.2.2.2.2.2.2.2.2.2.2.2.2.2 ha (by omega), by rw [ha _ _ (by omega)]; exact v4, by rw [ha _ _ (by omega)]; exact v5⟩, ?_⟩
  rcases hf with c | c
  · left; rw [ha _ _ (by omega)]; exact c
  · exact Or.inr (c.ag ha (by omega))
theorem zOk_at {τ : Nat → Nat} {j w : Nat} (h : zOk τ) (h80 : 81 ≤ j) (h1 : j = 81 → 30 ≤ w ∧ w ≤ 100) (h2 : j = 82 → 1 ≤ w ∧ w ≤ 5) (h3 : j = 83 → 1 ≤ w ∧ w ≤ 20) (h4 : j = 84 → w ≤ 9999) (h5 : j = 85 → w ≤ 9999) (h6 : j = 86 → 2 ≤ w ∧ w ≤ 20) (h7 : j = 87 → w ≤ 1) : zOk (zuf τ j w) := by
  obtain ⟨o1, o2, o3, o4, o5, o6, o7, o8, o9, o10⟩ := h
  have e80 : zuf τ j w 80 = τ 80 := if_neg (by omega)
  have t : ∀ {c d : Nat} (P : Nat → Prop), P (τ c) → (j = c → P w) → d = c → P (zuf τ j w d) := by
    intro c d P a1 a2 a3
    subst a3
    unfold zuf
    split
    · rename_i e; exact a2 e.symm
    · exact a1
  refine ⟨by rw [e80]; exact o1, fun k hk => ?_, fun k hk => ?_, t (fun v => 30 ≤ v ∧ v ≤ 100) o4 h1 rfl, t (fun v => 1 ≤ v ∧ v ≤ 5) o5 h2 rfl, t (fun v => 1 ≤ v ∧ v ≤ 20) o6 h3 rfl, t (fun v => v ≤ 9999) o7 h4 rfl, t (fun v => v ≤ 9999) o8 h5 rfl, t (fun v => 2 ≤ v ∧ v ≤ 20) o9 h6 rfl, t (fun v => v ≤ 1) o10 h7 rfl⟩
  · rw [e80] at hk
    rw [show zuf τ j w k = τ k from if_neg (by omega)]; exact o2 k hk
  · rw [e80] at hk
    rw [show zuf τ j w (40 + k) = τ (40 + k) from if_neg (by omega)]; exact o3 k hk
theorem zOk_81 {τ : Nat → Nat} {w : Nat} (h : zOk τ) (hw : 30 ≤ w ∧ w ≤ 100) : zOk (zuf τ 81 w) := zOk_at h (by omega) (fun _ => hw) (fun q => absurd q (by decide)) (fun q => absurd q (by decide)) (fun q => absurd q (by decide)) (fun q => absurd q (by decide)) (fun q => absurd q (by decide)) (fun q => absurd q (by decide))
theorem zOk_82 {τ : Nat → Nat} {w : Nat} (h : zOk τ) (hw : 1 ≤ w ∧ w ≤ 5) : zOk (zuf τ 82 w) := zOk_at h (by omega) (fun q => absurd q (by decide)) (fun _ => hw) (fun q => absurd q (by decide)) (fun q => absurd q (by decide)) (fun q => absurd q (by decide)) (fun q => absurd q (by decide)) (fun q => absurd q (by decide))
theorem zOk_83 {τ : Nat → Nat} {w : Nat} (h : zOk τ) (hw : 1 ≤ w ∧ w ≤ 20) : zOk (zuf τ 83 w) := zOk_at h (by omega) (fun q => absurd q (by decide)) (fun q => absurd q (by decide)) (fun _ => hw) (fun q => absurd q (by decide)) (fun q => absurd q (by decide)) (fun q => absurd q (by decide)) (fun q => absurd q (by decide))
theorem zOk_84 {τ : Nat → Nat} {w : Nat} (h : zOk τ) (hw : w ≤ 9999) : zOk (zuf τ 84 w) := zOk_at h (by omega) (fun q => absurd q (by decide)) (fun q => absurd q (by decide)) (fun q => absurd q (by decide)) (fun _ => hw) (fun q => absurd q (by decide)) (fun q => absurd q (by decide)) (fun q => absurd q (by decide))
theorem zOk_85 {τ : Nat → Nat} {w : Nat} (h : zOk τ) (hw : w ≤ 9999) : zOk (zuf τ 85 w) := zOk_at h (by omega) (fun q => absurd q (by decide)) (fun q => absurd q (by decide)) (fun q => absurd q (by decide)) (fun q => absurd q (by decide)) (fun _ => hw) (fun q => absurd q (by decide)) (fun q => absurd q (by decide))
theorem zOk_86 {τ : Nat → Nat} {w : Nat} (h : zOk τ) (hw : 2 ≤ w ∧ w ≤ 20) : zOk (zuf τ 86 w) := zOk_at h (by omega) (fun q => absurd q (by decide)) (fun q => absurd q (by decide)) (fun q => absurd q (by decide)) (fun q => absurd q (by decide)) (fun q => absurd q (by decide)) (fun _ => hw) (fun q => absurd q (by decide))
theorem zOk_87 {τ : Nat → Nat} {w : Nat} (h : zOk τ) (hw : w ≤ 1) : zOk (zuf τ 87 w) := zOk_at h (by omega) (fun q => absurd q (by decide)) (fun q => absurd q (by decide)) (fun q => absurd q (by decide)) (fun q => absurd q (by decide)) (fun q => absurd q (by decide)) (fun q => absurd q (by decide)) (fun _ => hw)
theorem zOk_mark {τ : Nat → Nat} {k w : Nat} (h : zOk τ) (hk : k < 40) (hw : w ≤ 2) : zOk (zuf τ (40 + k) w) := by
  obtain ⟨o1, o2, o3, o4⟩ := h
  have e : ∀ j, j ≠ 40 + k → zuf τ (40 + k) w j = τ j := fun j hj => if_neg hj
  unfold zOk
  rw [e 80 (by omega), e 81 (by omega), e 82 (by omega), e 83 (by omega), e 84 (by omega), e 85 (by omega), e 86 (by omega), e 87 (by omega)]
  refine ⟨o1, fun j hj => ?_, fun j hj => ?_, o4⟩
  · rw [e j (by omega)]; exact o2 j hj
  · by_cases c : j = k
    · subst c; rw [show zuf τ (40 + j) w (40 + j) = w from if_pos rfl]; exact hw
    · rw [e (40 + j) (by omega)]; exact o3 j hj
theorem zIns_ok {τ : Nat → Nat} {i w m : Nat} (h : zOk τ) (hn : τ 80 < 40) (hi : i ≤ τ 80) (hw : 1 ≤ w ∧ w ≤ 30) (hm : m ≤ 2) : zOk (zIns τ i w m) := by
  obtain ⟨o1, o2, o3, o4⟩ := h
  refine ⟨?_, fun k hk => ?_, fun k hk => ?_, o4⟩
  · show τ 80 + 1 ≤ 40
    omega
  · have hk : k < τ 80 + 1 := hk
    unfold zIns
    rw [if_pos (by omega)]
    split
    · exact o2 k (by omega)
    · split
      · exact hw
      · exact o2 (k - 1) (by omega)
  · have hk : k < τ 80 + 1 := hk
    unfold zIns
    rw [if_neg (by omega), if_pos (by omega)]
    split
    · exact o3 k (by omega)
    · split
      · exact hm
      · rw [show 40 + k - 1 = 40 + (k - 1) by omega]; exact o3 (k - 1) (by omega)
theorem zDrp_ok {τ : Nat → Nat} {i : Nat} (h : zOk τ) (hi : i < τ 80) : zOk (zDrp τ i) := by
  obtain ⟨o1, o2, o3, o4⟩ := h
  refine ⟨?_, fun k hk => ?_, fun k hk => ?_, o4⟩
  · show τ 80 - 1 ≤ 40
    omega
  · have hk : k < τ 80 - 1 := hk
    unfold zDrp
    rw [if_pos (by omega)]
    split
    · exact o2 k (by omega)
    · rw [if_pos (by omega)]; exact o2 (k + 1) (by omega)
  · have hk : k < τ 80 - 1 := hk
    unfold zDrp
    rw [if_neg (by omega), if_pos (by omega)]
    split
    · exact o3 k (by omega)
    · rw [if_pos (by omega)]; exact o3 (k + 1) (by omega)
noncomputable def zdo_setColumn (i : Int32) (S : zMs) : zOu := zrg i 30 100 (fun k => .inl (nI (S.1 81), zcg S (zuf S.1 81 k)))
set_option maxHeartbeats 4000000 in
theorem vX8_setColumn {l : Launch} {g : zG} (hl : l.stackTraces = false) {K : zK} {μ : zF} {x : Nat} {S : zMs} {i : Int32} (h : zX8 K μ x S) : QX8_setColumn l g 1 6 [.ref x, .int i] K μ (zRP (zdo_setColumn i S) K μ x) (zRX (zdo_setColumn i S) K μ x S) := by
  obtain ⟨s, hR, hv, ho⟩ := id h
  obtain ⟨h0, h1, h2, h3, h4, h5, h6, h7, h8, h9, h10, h11, h12, h13, h14⟩ := id hR
  obtain ⟨v1, v2, v3, v4, v5⟩ := id hv.1
  obtain ⟨t0, t1, t2, t3, t4⟩ := id h8
  have b0 := h13.1
  have q0 := h14.1
  have o1 := ho.1.1
  have e8 : μ (x + 1) 2 = nI (S.1 80) := v1.2.2 2 (by omega) (by omega)
  refine nxX8_setColumn hl (fun q hC hQ hQx => ?_)
  refine eX8_setColumn_0 hC ?_
  refine eX8_setColumn_1 hC ?_
  refine eX8_setColumn_3 hC ?_
  refine eX8_setColumn_5x hC (Nat.le_of_ble_eq_true rfl) (Nat.le_of_ble_eq_true rfl) (Nat.le_of_ble_eq_true rfl) (vX8_requireRange hC.nt) (zXo.of hQx (Nat.le_of_ble_eq_true rfl) (Nat.le_of_ble_eq_true rfl) (zRX.rg rfl h (zKe.refl _ _) (zAg.refl _ _ _))) (zk_x (fun m_5 => ?_))
  obtain ⟨k, rfl, hk1, hk2, e⟩ := zrg_in (f := fun k => .inl (nI (S.1 81), zcg S (zuf S.1 81 k))) (by omega) (by omega) m_5
  refine eX8_setColumn_8 hC ?_
  refine eX8_setColumn_9 hC (Nat.le_of_ble_eq_true rfl) (Nat.le_of_ble_eq_true rfl) (Nat.le_of_ble_eq_true rfl) (by assumption) (vX8_prepareChange hC.nt (by assumption) (by assumption) (by assumption)) (fun v_9 K_9 μ_9 m_9 => ?_)
  obtain ⟨rfl, hK, ha, hst, s', hR', hc', hfr⟩ := m_9
  show zV q _ _ 12 _ [] K_9 μ_9
  have w1 : zTv μ_9 (x + 1) S.1 := hc'.1
  have w0 : zO K_9 x 8 := hR'.1
  have w2 : zr K_9 x 0 (x + 1) := hR'.2.1
  have w3 : zTxt K_9 (x + 1) := hR'.2.2.2.2.2.2.2.2.1
  obtain ⟨r0, r1, r2, r3, r4⟩ := id w3
  refine eX8_setColumn_12 hC ?_
  refine eX8_setColumn_13 hC (by assumption) (by assumption) ?_
  refine eX8_setColumn_16 hC (by assumption) ?_
  rw [show μ_9 (x + 1) 3 = nI (S.1 81) from w1.2.2 3 (by omega) (by omega)]
  refine eX8_setColumn_19 hC ?_
  refine eX8_setColumn_20 hC ?_
  refine eX8_setColumn_21 hC (by assumption) (by assumption) ?_
  refine eX8_setColumn_24 hC ?_
  refine eX8_setColumn_25 hC (by assumption) ?_
  refine eX8_setColumn_28 hC ?_
  refine eX8_setColumn_29 hC hQ (Nat.le_of_ble_eq_true rfl) (Nat.le_of_ble_eq_true rfl) ?_
  have hu : zAg μ_9 (zup μ_9 (x + 1) 3 (nI k)) (x + 1) (x + 6) := zAg.up (by omega)
  exact ⟨_, _, e, rfl, hK, ⟨s', hR', ⟨hc'.txt hR' (w1.set (by omega) (by omega)) hu, Or.inl (by rw [hu _ _ (by omega)]; exact hst)⟩, zcg_ok ho (zOk_81 ho.1 (by omega))⟩, ha.trans (zAg.wide hu (by omega) (by omega))⟩
noncomputable def zdo_setSpace (i : Int32) (S : zMs) : zOu := zrg i 1 5 (fun k => .inl (nI (S.1 82), zcg S (zuf S.1 82 k)))
set_option maxHeartbeats 4000000 in
theorem vX8_setSpace {l : Launch} {g : zG} (hl : l.stackTraces = false) {K : zK} {μ : zF} {x : Nat} {S : zMs} {i : Int32} (h : zX8 K μ x S) : QX8_setSpace l g 1 6 [.ref x, .int i] K μ (zRP (zdo_setSpace i S) K μ x) (zRX (zdo_setSpace i S) K μ x S) := by
  obtain ⟨s, hR, hv, ho⟩ := id h
  obtain ⟨h0, h1, h2, h3, h4, h5, h6, h7, h8, h9, h10, h11, h12, h13, h14⟩ := id hR
  obtain ⟨v1, v2, v3, v4, v5⟩ := id hv.1
  obtain ⟨t0, t1, t2, t3, t4⟩ := id h8
  have b0 := h13.1
  have q0 := h14.1
  have o1 := ho.1.1
  have e8 : μ (x + 1) 2 = nI (S.1 80) := v1.2.2 2 (by omega) (by omega)
  refine nxX8_setSpace hl (fun q hC hQ hQx => ?_)
  refine eX8_setSpace_0 hC ?_
  refine eX8_setSpace_1 hC ?_
  refine eX8_setSpace_2 hC ?_
  refine eX8_setSpace_3x hC (Nat.le_of_ble_eq_true rfl) (Nat.le_of_ble_eq_true rfl) (Nat.le_of_ble_eq_true rfl) (vX8_requireRange hC.nt) (zXo.of hQx (Nat.le_of_ble_eq_true rfl) (Nat.le_of_ble_eq_true rfl) (zRX.rg rfl h (zKe.refl _ _) (zAg.refl _ _ _))) (zk_x (fun m_3 => ?_))
  obtain ⟨k, rfl, hk1, hk2, e⟩ := zrg_in (f := fun k => .inl (nI (S.1 82), zcg S (zuf S.1 82 k))) (by omega) (by omega) m_3
  refine eX8_setSpace_6 hC ?_
  refine eX8_setSpace_7 hC (Nat.le_of_ble_eq_true rfl) (Nat.le_of_ble_eq_true rfl) (Nat.le_of_ble_eq_true rfl) (by assumption) (vX8_prepareChange hC.nt (by assumption) (by assumption) (by assumption)) (fun v_7 K_7 μ_7 m_7 => ?_)
  obtain ⟨rfl, hK, ha, hst, s', hR', hc', hfr⟩ := m_7
  show zV q _ _ 10 _ [] K_7 μ_7
  have w1 : zTv μ_7 (x + 1) S.1 := hc'.1
  have w0 : zO K_7 x 8 := hR'.1
  have w2 : zr K_7 x 0 (x + 1) := hR'.2.1
  have w3 : zTxt K_7 (x + 1) := hR'.2.2.2.2.2.2.2.2.1
  obtain ⟨r0, r1, r2, r3, r4⟩ := id w3
  refine eX8_setSpace_10 hC ?_
  refine eX8_setSpace_11 hC (by assumption) (by assumption) ?_
  refine eX8_setSpace_14 hC (by assumption) ?_
  rw [show μ_7 (x + 1) 4 = nI (S.1 82) from w1.2.2 4 (by omega) (by omega)]
  refine eX8_setSpace_17 hC ?_
  refine eX8_setSpace_18 hC ?_
  refine eX8_setSpace_19 hC (by assumption) (by assumption) ?_
  refine eX8_setSpace_22 hC ?_
  refine eX8_setSpace_23 hC (by assumption) ?_
  refine eX8_setSpace_26 hC ?_
  refine eX8_setSpace_27 hC hQ (Nat.le_of_ble_eq_true rfl) (Nat.le_of_ble_eq_true rfl) ?_
  have hu : zAg μ_7 (zup μ_7 (x + 1) 4 (nI k)) (x + 1) (x + 6) := zAg.up (by omega)
  exact ⟨_, _, e, rfl, hK, ⟨s', hR', ⟨hc'.txt hR' (w1.set (by omega) (by omega)) hu, Or.inl (by rw [hu _ _ (by omega)]; exact hst)⟩, zcg_ok ho (zOk_82 ho.1 (by omega))⟩, ha.trans (zAg.wide hu (by omega) (by omega))⟩
noncomputable def zdo_setPage (i : Int32) (S : zMs) : zOu := zrg i 2 20 (fun k => .inl (nI (S.1 86), zcg S (zuf S.1 86 k)))
set_option maxHeartbeats 4000000 in
theorem vX8_setPage {l : Launch} {g : zG} (hl : l.stackTraces = false) {K : zK} {μ : zF} {x : Nat} {S : zMs} {i : Int32} (h : zX8 K μ x S) : QX8_setPage l g 1 6 [.ref x, .int i] K μ (zRP (zdo_setPage i S) K μ x) (zRX (zdo_setPage i S) K μ x S) := by
  obtain ⟨s, hR, hv, ho⟩ := id h
  obtain ⟨h0, h1, h2, h3, h4, h5, h6, h7, h8, h9, h10, h11, h12, h13, h14⟩ := id hR
  obtain ⟨v1, v2, v3, v4, v5⟩ := id hv.1
  obtain ⟨t0, t1, t2, t3, t4⟩ := id h8
  have b0 := h13.1
  have q0 := h14.1
  have o1 := ho.1.1
  have e8 : μ (x + 1) 2 = nI (S.1 80) := v1.2.2 2 (by omega) (by omega)
  refine nxX8_setPage hl (fun q hC hQ hQx => ?_)
  refine eX8_setPage_0 hC ?_
  refine eX8_setPage_1 hC ?_
  refine eX8_setPage_2 hC ?_
  refine eX8_setPage_4x hC (Nat.le_of_ble_eq_true rfl) (Nat.le_of_ble_eq_true rfl) (Nat.le_of_ble_eq_true rfl) (vX8_requireRange hC.nt) (zXo.of hQx (Nat.le_of_ble_eq_true rfl) (Nat.le_of_ble_eq_true rfl) (zRX.rg rfl h (zKe.refl _ _) (zAg.refl _ _ _))) (zk_x (fun m_4 => ?_))
  obtain ⟨k, rfl, hk1, hk2, e⟩ := zrg_in (f := fun k => .inl (nI (S.1 86), zcg S (zuf S.1 86 k))) (by omega) (by omega) m_4
  refine eX8_setPage_7 hC ?_
  refine eX8_setPage_8 hC (Nat.le_of_ble_eq_true rfl) (Nat.le_of_ble_eq_true rfl) (Nat.le_of_ble_eq_true rfl) (by assumption) (vX8_prepareChange hC.nt (by assumption) (by assumption) (by assumption)) (fun v_8 K_8 μ_8 m_8 => ?_)
  obtain ⟨rfl, hK, ha, hst, s', hR', hc', hfr⟩ := m_8
  show zV q _ _ 11 _ [] K_8 μ_8
  have w1 : zTv μ_8 (x + 1) S.1 := hc'.1
  have w0 : zO K_8 x 8 := hR'.1
  have w2 : zr K_8 x 0 (x + 1) := hR'.2.1
  have w3 : zTxt K_8 (x + 1) := hR'.2.2.2.2.2.2.2.2.1
  obtain ⟨r0, r1, r2, r3, r4⟩ := id w3
  refine eX8_setPage_11 hC ?_
  refine eX8_setPage_12 hC (by assumption) (by assumption) ?_
  refine eX8_setPage_15 hC (by assumption) ?_
  rw [show μ_8 (x + 1) 8 = nI (S.1 86) from w1.2.2 8 (by omega) (by omega)]
  refine eX8_setPage_18 hC ?_
  refine eX8_setPage_19 hC ?_
  refine eX8_setPage_20 hC (by assumption) (by assumption) ?_
  refine eX8_setPage_23 hC ?_
  refine eX8_setPage_24 hC (by assumption) ?_
  refine eX8_setPage_27 hC ?_
  refine eX8_setPage_28 hC hQ (Nat.le_of_ble_eq_true rfl) (Nat.le_of_ble_eq_true rfl) ?_
  have hu : zAg μ_8 (zup μ_8 (x + 1) 8 (nI k)) (x + 1) (x + 6) := zAg.up (by omega)
  exact ⟨_, _, e, rfl, hK, ⟨s', hR', ⟨hc'.txt hR' (w1.set (by omega) (by omega)) hu, Or.inl (by rw [hu _ _ (by omega)]; exact hst)⟩, zcg_ok ho (zOk_86 ho.1 (by omega))⟩, ha.trans (zAg.wide hu (by omega) (by omega))⟩
noncomputable def zdo_setPenalties (i : Int32) (j : Int32) (k : Int32) (S : zMs) : zOu := zrg i 1 20 (fun a => zrg j 0 9999 (fun b => zrg k 0 9999 (fun c => .inl (nI (S.1 83), zcg S (zuf (zuf (zuf S.1 83 a) 84 b) 85 c)))))
set_option maxHeartbeats 4000000 in
theorem vX8_setPenalties {l : Launch} {g : zG} (hl : l.stackTraces = false) {K : zK} {μ : zF} {x : Nat} {S : zMs} {i : Int32} {j : Int32} {k : Int32} (h : zX8 K μ x S) : QX8_setPenalties l g 3 18 [.ref x, .int i, .int j, .int k] K μ (zRP (zdo_setPenalties i j k S) K μ x) (zRX (zdo_setPenalties i j k S) K μ x S) := by
  obtain ⟨s, hR, hv, ho⟩ := id h
  obtain ⟨h0, h1, h2, h3, h4, h5, h6, h7, h8, h9, h10, h11, h12, h13, h14⟩ := id hR
  obtain ⟨v1, v2, v3, v4, v5⟩ := id hv.1
  obtain ⟨t0, t1, t2, t3, t4⟩ := id h8
  have b0 := h13.1
  have q0 := h14.1
  have o1 := ho.1.1
  have e8 : μ (x + 1) 2 = nI (S.1 80) := v1.2.2 2 (by omega) (by omega)
  refine nxX8_setPenalties hl (fun q hC hQ hQx => ?_)
  refine eX8_setPenalties_0 hC ?_
  refine eX8_setPenalties_1 hC ?_
  refine eX8_setPenalties_2 hC ?_
  refine eX8_setPenalties_4x hC (Nat.le_of_ble_eq_true rfl) (Nat.le_of_ble_eq_true rfl) (Nat.le_of_ble_eq_true rfl) (vX8_requireRange hC.nt) (zXo.of hQx (Nat.le_of_ble_eq_true rfl) (Nat.le_of_ble_eq_true rfl) (zRX.rg rfl h (zKe.refl _ _) (zAg.refl _ _ _))) (zk_x (fun m_4 => ?_))
  obtain ⟨a, rfl, ha1, ha2, e1⟩ := zrg_in (f := fun a => zrg j 0 9999 (fun b => zrg k 0 9999 (fun c => .inl (nI (S.1 83), zcg S (zuf (zuf (zuf S.1 83 a) 84 b) 85 c))))) (by omega) (by omega) m_4
  refine eX8_setPenalties_7 hC ?_
  refine eX8_setPenalties_8 hC ?_
  refine eX8_setPenalties_9 hC ?_
  refine eX8_setPenalties_12x hC (Nat.le_of_ble_eq_true rfl) (Nat.le_of_ble_eq_true rfl) (Nat.le_of_ble_eq_true rfl) (vX8_requireRange hC.nt) (zXo.of hQx (Nat.le_of_ble_eq_true rfl) (Nat.le_of_ble_eq_true rfl) (zRX.rg e1 h (zKe.refl _ _) (zAg.refl _ _ _))) (zk_x (fun m_12 => ?_))
  obtain ⟨b, rfl, hb1, hb2, e2⟩ := zrg_in (f := fun b => zrg k 0 9999 (fun c => .inl (nI (S.1 83), zcg S (zuf (zuf (zuf S.1 83 a) 84 b) 85 c)))) (by omega) (by omega) m_12
  refine eX8_setPenalties_15 hC ?_
  refine eX8_setPenalties_16 hC ?_
  refine eX8_setPenalties_17 hC ?_
  refine eX8_setPenalties_20x hC (Nat.le_of_ble_eq_true rfl) (Nat.le_of_ble_eq_true rfl) (Nat.le_of_ble_eq_true rfl) (vX8_requireRange hC.nt) (zXo.of hQx (Nat.le_of_ble_eq_true rfl) (Nat.le_of_ble_eq_true rfl) (zRX.rg (e1.trans e2) h (zKe.refl _ _) (zAg.refl _ _ _))) (zk_x (fun m_20 => ?_))
  obtain ⟨c, rfl, hc1, hc2, e3⟩ := zrg_in (f := fun c => .inl (nI (S.1 83), zcg S (zuf (zuf (zuf S.1 83 a) 84 b) 85 c))) (by omega) (by omega) m_20
  refine eX8_setPenalties_23 hC ?_
  refine eX8_setPenalties_24 hC (Nat.le_of_ble_eq_true rfl) (Nat.le_of_ble_eq_true rfl) (Nat.le_of_ble_eq_true rfl) (by assumption) (vX8_prepareChange hC.nt (by assumption) (by assumption) (by assumption)) (fun v_24 K_24 μ_24 m_24 => ?_)
  obtain ⟨rfl, hK, ha, hst, s', hR', hc', hfr⟩ := m_24
  show zV q _ _ 27 _ [] K_24 μ_24
  have w1 : zTv μ_24 (x + 1) S.1 := hc'.1
  have w0 : zO K_24 x 8 := hR'.1
  have w2 : zr K_24 x 0 (x + 1) := hR'.2.1
  have w3 : zTxt K_24 (x + 1) := hR'.2.2.2.2.2.2.2.2.1
  obtain ⟨r0, r1, r2, r3, r4⟩ := id w3
  refine eX8_setPenalties_27 hC ?_
  refine eX8_setPenalties_28 hC (by assumption) (by assumption) ?_
  refine eX8_setPenalties_31 hC (by assumption) ?_
  rw [show μ_24 (x + 1) 5 = nI (S.1 83) from w1.2.2 5 (by omega) (by omega)]
  refine eX8_setPenalties_34 hC ?_
  refine eX8_setPenalties_36 hC ?_
  refine eX8_setPenalties_37 hC (by assumption) (by assumption) ?_
  refine eX8_setPenalties_40 hC ?_
  refine eX8_setPenalties_41 hC (by assumption) ?_
  refine eX8_setPenalties_44 hC ?_
  refine eX8_setPenalties_45 hC (by assumption) (by assumption) ?_
  refine eX8_setPenalties_48 hC ?_
  refine eX8_setPenalties_49 hC (by assumption) ?_
  refine eX8_setPenalties_52 hC ?_
  refine eX8_setPenalties_53 hC (by assumption) (by assumption) ?_
  refine eX8_setPenalties_56 hC ?_
  refine eX8_setPenalties_57 hC (by assumption) ?_
  refine eX8_setPenalties_60 hC ?_
  refine eX8_setPenalties_62 hC hQ (Nat.le_of_ble_eq_true rfl) (Nat.le_of_ble_eq_true rfl) ?_
  have hu : zAg μ_24 (zup (zup (zup μ_24 (x + 1) 5 (nI a)) (x + 1) 6 (nI b)) (x + 1) 7 (nI c)) (x + 1) (x + 6) := ((zAg.up (by omega)).trans (zAg.up (by omega))).trans (zAg.up (by omega))
  exact ⟨_, _, (e1.trans e2).trans e3, rfl, hK, ⟨s', hR', ⟨hc'.txt hR' (((w1.set (by omega) (by omega)).set (by omega) (by omega)).set (by omega) (by omega)) hu, Or.inl (by rw [hu _ _ (by omega)]; exact hst)⟩, zcg_ok ho (zOk_85 (zOk_84 (zOk_83 ho.1 (by omega)) (by omega)) (by omega))⟩, ha.trans (zAg.wide hu (by omega) (by omega))⟩
noncomputable def zdo_insert (i w : Int32) (S : zMs) : zOu := zix i (S.1 80 + 1) (fun k => zrg w 1 30 (fun v => if 40 ≤ S.1 80 then .inr zxS else .inl (nI (S.1 80 + 1), zcg S (zIns S.1 k v 0))))
set_option maxHeartbeats 4000000 in
theorem vX8_insert {l : Launch} {g : zG} (hl : l.stackTraces = false) {K : zK} {μ : zF} {x : Nat} {S : zMs} {i : Int32} {w : Int32} (h : zX8 K μ x S) : QX8_insert l g 3 18 [.ref x, .int i, .int w] K μ (zRP (zdo_insert i w S) K μ x) (zRX (zdo_insert i w S) K μ x S) := by
  obtain ⟨s, hR, hv, ho⟩ := id h
  obtain ⟨h0, h1, h2, h3, h4, h5, h6, h7, h8, h9, h10, h11, h12, h13, h14⟩ := id hR
  obtain ⟨v1, v2, v3, v4, v5⟩ := id hv.1
  obtain ⟨t0, t1, t2, t3, t4⟩ := id h8
  have b0 := h13.1
  have q0 := h14.1
  have o1 := ho.1.1
  have e8 : μ (x + 1) 2 = nI (S.1 80) := v1.2.2 2 (by omega) (by omega)
  refine nxX8_insert hl (fun q hC hQ hQx => ?_)
  by_cases c : 40 ≤ S.1 80
  · refine eX8_insert_0 hC ?_
    refine eX8_insert_1 hC ?_
    refine eX8_insert_2 hC (by assumption) (by assumption) ?_
    refine eX8_insert_5 hC (by assumption) ?_
    rw [e8]
    refine eX8_insert_8 hC ?_
    refine eX8_insert_9 hC ?_
    rw [nI_add]
    refine eX8_insert_10x hC (Nat.le_of_ble_eq_true rfl) (Nat.le_of_ble_eq_true rfl) (Nat.le_of_ble_eq_true rfl) (vX8_requireIndex hC.nt) (zXo.of hQx (Nat.le_of_ble_eq_true rfl) (Nat.le_of_ble_eq_true rfl) (zRX.ix rfl h (zKe.refl _ _) (zAg.refl _ _ _))) (zk_x (fun m_10 => ?_))
    obtain ⟨k, rfl, hk, e1⟩ := zix_in (f := fun k => zrg w 1 30 (fun v => if 40 ≤ S.1 80 then .inr zxS else .inl (nI (S.1 80 + 1), zcg S (zIns S.1 k v 0)))) (by omega) m_10
    refine eX8_insert_13 hC ?_
    refine eX8_insert_14 hC ?_
    refine eX8_insert_15 hC ?_
    refine eX8_insert_17x hC (Nat.le_of_ble_eq_true rfl) (Nat.le_of_ble_eq_true rfl) (Nat.le_of_ble_eq_true rfl) (vX8_requireRange hC.nt) (zXo.of hQx (Nat.le_of_ble_eq_true rfl) (Nat.le_of_ble_eq_true rfl) (zRX.rg e1 h (zKe.refl _ _) (zAg.refl _ _ _))) (zk_x (fun m_17 => ?_))
    obtain ⟨v, rfl, hb1, hb2, e2⟩ := zrg_in (f := fun v => if 40 ≤ S.1 80 then .inr zxS else .inl (nI (S.1 80 + 1), zcg S (zIns S.1 k v 0))) (by omega) (by omega) m_17
    refine eX8_insert_20 hC ?_
    refine eX8_insert_21 hC (by assumption) (by assumption) ?_
    refine eX8_insert_24 hC (by assumption) ?_
    rw [e8]
    refine eX8_insert_27 hC ?_
    refine eX8_insert_29 hC (fun zz => absurd zz (nI_nlt c (by omega))) (fun _ => ?_)
    exact eX8_insert_32 hC hQx (Nat.le_of_ble_eq_true rfl) (Nat.le_of_ble_eq_true rfl) (Nat.le_of_ble_eq_true rfl) (Nat.le_of_ble_eq_true rfl) (Nat.le_of_ble_eq_true rfl) ⟨(e1.trans e2).trans (if_pos c), zKe.refl _ _, h, zAg.refl _ _ _⟩
  · refine eX8_insert_0 hC ?_
    refine eX8_insert_1 hC ?_
    refine eX8_insert_2 hC (by assumption) (by assumption) ?_
    refine eX8_insert_5 hC (by assumption) ?_
    rw [e8]
    refine eX8_insert_8 hC ?_
    refine eX8_insert_9 hC ?_
    rw [nI_add]
    refine eX8_insert_10x hC (Nat.le_of_ble_eq_true rfl) (Nat.le_of_ble_eq_true rfl) (Nat.le_of_ble_eq_true rfl) (vX8_requireIndex hC.nt) (zXo.of hQx (Nat.le_of_ble_eq_true rfl) (Nat.le_of_ble_eq_true rfl) (zRX.ix rfl h (zKe.refl _ _) (zAg.refl _ _ _))) (zk_x (fun m_10 => ?_))
    obtain ⟨k, rfl, hk, e1⟩ := zix_in (f := fun k => zrg w 1 30 (fun v => if 40 ≤ S.1 80 then .inr zxS else .inl (nI (S.1 80 + 1), zcg S (zIns S.1 k v 0)))) (by omega) m_10
    refine eX8_insert_13 hC ?_
    refine eX8_insert_14 hC ?_
    refine eX8_insert_15 hC ?_
    refine eX8_insert_17x hC (Nat.le_of_ble_eq_true rfl) (Nat.le_of_ble_eq_true rfl) (Nat.le_of_ble_eq_true rfl) (vX8_requireRange hC.nt) (zXo.of hQx (Nat.le_of_ble_eq_true rfl) (Nat.le_of_ble_eq_true rfl) (zRX.rg e1 h (zKe.refl _ _) (zAg.refl _ _ _))) (zk_x (fun m_17 => ?_))
    obtain ⟨v, rfl, hb1, hb2, e2⟩ := zrg_in (f := fun v => if 40 ≤ S.1 80 then .inr zxS else .inl (nI (S.1 80 + 1), zcg S (zIns S.1 k v 0))) (by omega) (by omega) m_17
    refine eX8_insert_20 hC ?_
    refine eX8_insert_21 hC (by assumption) (by assumption) ?_
    refine eX8_insert_24 hC (by assumption) ?_
    rw [e8]
    refine eX8_insert_27 hC ?_
    refine eX8_insert_29 hC (fun _ => ?_) (fun zz => absurd (nI_lt (by omega) (by omega)) zz)
    refine eX8_insert_42 hC ?_
    refine eX8_insert_43 hC (Nat.le_of_ble_eq_true rfl) (Nat.le_of_ble_eq_true rfl) (Nat.le_of_ble_eq_true rfl) (by assumption) (vX8_prepareChange hC.nt (by assumption) (by assumption) (by assumption)) (fun v_43 K_43 μ_43 m_43 => ?_)
    obtain ⟨rfl, hK, ha, hst, s', hR', hc', hfr⟩ := m_43
    show zV q _ _ 46 _ [] K_43 μ_43
    have w1 : zTv μ_43 (x + 1) S.1 := hc'.1
    have w0 : zO K_43 x 8 := hR'.1
    have w2 : zr K_43 x 0 (x + 1) := hR'.2.1
    have w3 : zTxt K_43 (x + 1) := hR'.2.2.2.2.2.2.2.2.1
    obtain ⟨r0, r1, r2, r3, r4⟩ := id w3
    refine eX8_insert_46 hC ?_
    refine eX8_insert_47 hC (by assumption) (by assumption) ?_
    refine eX8_insert_50 hC ?_
    refine eX8_insert_51 hC ?_
    refine eX8_insert_52 hC ?_
    refine eX8_insert_53 hC (Nat.le_of_ble_eq_true rfl) (Nat.le_of_ble_eq_true rfl) (Nat.le_of_ble_eq_true rfl) (by first | assumption | exact zTxt.o (by assumption)) (vX7_putWord hC.nt w3 w1 (by omega) (by omega)) (zk_w (fun μ_53 m_53 => ?_))
    refine eX8_insert_56 hC ?_
    refine eX8_insert_57 hC (by assumption) (by assumption) ?_
    refine eX8_insert_60 hC (by assumption) ?_
    rw [show μ_53 (x + 1) 2 = nI (S.1 80 + 1) from m_53.1.2.2 2 (by omega) (by omega)]
    refine eX8_insert_63 hC hQ (Nat.le_of_ble_eq_true rfl) (Nat.le_of_ble_eq_true rfl) ?_
    obtain ⟨g1, g2⟩ := m_53
    exact ⟨_, _, (e1.trans e2).trans (if_neg c), rfl, hK, ⟨s', hR', ⟨hc'.txt hR' g1 g2, Or.inl (by rw [g2 _ _ (by omega)]; exact hst)⟩, zcg_ok ho (zIns_ok ho.1 (by omega) (by omega) ⟨hb1, hb2⟩ (by omega))⟩, ha.trans (zAg.wide g2 (by omega) (by omega))⟩
noncomputable def zdo_remove (i : Int32) (S : zMs) : zOu := zix i (S.1 80) (fun k => .inl (nI (S.1 k), zcg S (zDrp S.1 k)))
set_option maxHeartbeats 4000000 in
theorem vX8_remove {l : Launch} {g : zG} (hl : l.stackTraces = false) {K : zK} {μ : zF} {x : Nat} {S : zMs} {i : Int32} (h : zX8 K μ x S) : QX8_remove l g 1 6 [.ref x, .int i] K μ (zRP (zdo_remove i S) K μ x) (zRX (zdo_remove i S) K μ x S) := by
  obtain ⟨s, hR, hv, ho⟩ := id h
  obtain ⟨h0, h1, h2, h3, h4, h5, h6, h7, h8, h9, h10, h11, h12, h13, h14⟩ := id hR
  obtain ⟨v1, v2, v3, v4, v5⟩ := id hv.1
  obtain ⟨t0, t1, t2, t3, t4⟩ := id h8
  have b0 := h13.1
  have q0 := h14.1
  have o1 := ho.1.1
  have e8 : μ (x + 1) 2 = nI (S.1 80) := v1.2.2 2 (by omega) (by omega)
  refine nxX8_remove hl (fun q hC hQ hQx => ?_)
  refine eX8_remove_0 hC ?_
  refine eX8_remove_1 hC ?_
  refine eX8_remove_2 hC (by assumption) (by assumption) ?_
  refine eX8_remove_5 hC (by assumption) ?_
  rw [e8]
  refine eX8_remove_8x hC (Nat.le_of_ble_eq_true rfl) (Nat.le_of_ble_eq_true rfl) (Nat.le_of_ble_eq_true rfl) (vX8_requireIndex hC.nt) (zXo.of hQx (Nat.le_of_ble_eq_true rfl) (Nat.le_of_ble_eq_true rfl) (zRX.ix rfl h (zKe.refl _ _) (zAg.refl _ _ _))) (zk_x (fun m_8 => ?_))
  obtain ⟨k, rfl, hk, e⟩ := zix_in (f := fun k => .inl (nI (S.1 k), zcg S (zDrp S.1 k))) (by omega) m_8
  refine eX8_remove_11 hC ?_
  refine eX8_remove_12 hC (Nat.le_of_ble_eq_true rfl) (Nat.le_of_ble_eq_true rfl) (Nat.le_of_ble_eq_true rfl) (by assumption) (vX8_prepareChange hC.nt (by assumption) (by assumption) (by assumption)) (fun v_12 K_12 μ_12 m_12 => ?_)
  obtain ⟨rfl, hK, ha, hst, s', hR', hc', hfr⟩ := m_12
  show zV q _ _ 15 _ [] K_12 μ_12
  have w1 : zTv μ_12 (x + 1) S.1 := hc'.1
  have w0 : zO K_12 x 8 := hR'.1
  have w2 : zr K_12 x 0 (x + 1) := hR'.2.1
  have w3 : zTxt K_12 (x + 1) := hR'.2.2.2.2.2.2.2.2.1
  obtain ⟨r0, r1, r2, r3, r4⟩ := id w3
  refine eX8_remove_15 hC ?_
  refine eX8_remove_16 hC (by assumption) (by assumption) ?_
  refine eX8_remove_19 hC (by assumption) (by assumption) ?_
  refine eX8_remove_22 hC ?_
  refine eX8_remove_23 hC (Nat.le_of_ble_eq_true rfl) (Nat.le_of_ble_eq_true rfl) (Nat.le_of_ble_eq_true rfl) (by first | assumption | exact zRow.o (by assumption)) (vX6_at hC.nt r3) (zk_i ?_)
  rw [zrd_in (by omega) (by omega), show μ_12 _ k = nI (S.1 k) from w1.1 k (by omega)]
  refine eX8_remove_26 hC ?_
  refine eX8_remove_27 hC ?_
  refine eX8_remove_28 hC (by assumption) (by assumption) ?_
  refine eX8_remove_31 hC ?_
  refine eX8_remove_32 hC (Nat.le_of_ble_eq_true rfl) (Nat.le_of_ble_eq_true rfl) (Nat.le_of_ble_eq_true rfl) (by first | assumption | exact zTxt.o (by assumption)) (vX7_dropWord hC.nt w3 w1 (by omega) hk) (zk_w (fun μ_32 m_32 => ?_))
  refine eX8_remove_35 hC ?_
  refine eX8_remove_36 hC hQ (Nat.le_of_ble_eq_true rfl) (Nat.le_of_ble_eq_true rfl) ?_
  obtain ⟨g1, g2⟩ := m_32
  exact ⟨_, _, e, rfl, hK, ⟨s', hR', ⟨hc'.txt hR' g1 g2, Or.inl (by rw [g2 _ _ (by omega)]; exact hst)⟩, zcg_ok ho (zDrp_ok ho.1 hk)⟩, ha.trans (zAg.wide g2 (by omega) (by omega))⟩
noncomputable def zdo_setMark (i : Int32) (w : Int32) (S : zMs) : zOu := zix i (S.1 80) (fun k => zrg w 0 2 (fun v => .inl (nI (S.1 (40 + k)), zcg S (zuf S.1 (40 + k) v))))
set_option maxHeartbeats 4000000 in
theorem vX8_setMark {l : Launch} {g : zG} (hl : l.stackTraces = false) {K : zK} {μ : zF} {x : Nat} {S : zMs} {i : Int32} {w : Int32} (h : zX8 K μ x S) : QX8_setMark l g 2 12 [.ref x, .int i, .int w] K μ (zRP (zdo_setMark i w S) K μ x) (zRX (zdo_setMark i w S) K μ x S) := by
  obtain ⟨s, hR, hv, ho⟩ := id h
  obtain ⟨h0, h1, h2, h3, h4, h5, h6, h7, h8, h9, h10, h11, h12, h13, h14⟩ := id hR
  obtain ⟨v1, v2, v3, v4, v5⟩ := id hv.1
  obtain ⟨t0, t1, t2, t3, t4⟩ := id h8
  have b0 := h13.1
  have q0 := h14.1
  have o1 := ho.1.1
  have e8 : μ (x + 1) 2 = nI (S.1 80) := v1.2.2 2 (by omega) (by omega)
  refine nxX8_setMark hl (fun q hC hQ hQx => ?_)
  refine eX8_setMark_0 hC ?_
  refine eX8_setMark_1 hC ?_
  refine eX8_setMark_2 hC (by assumption) (by assumption) ?_
  refine eX8_setMark_5 hC (by assumption) ?_
  rw [e8]
  refine eX8_setMark_8x hC (Nat.le_of_ble_eq_true rfl) (Nat.le_of_ble_eq_true rfl) (Nat.le_of_ble_eq_true rfl) (vX8_requireIndex hC.nt) (zXo.of hQx (Nat.le_of_ble_eq_true rfl) (Nat.le_of_ble_eq_true rfl) (zRX.ix rfl h (zKe.refl _ _) (zAg.refl _ _ _))) (zk_x (fun m_8 => ?_))
  obtain ⟨k, rfl, hk, e1⟩ := zix_in (f := fun k => zrg w 0 2 (fun v => .inl (nI (S.1 (40 + k)), zcg S (zuf S.1 (40 + k) v)))) (by omega) m_8
  refine eX8_setMark_11 hC ?_
  refine eX8_setMark_12 hC ?_
  refine eX8_setMark_13 hC ?_
  refine eX8_setMark_14x hC (Nat.le_of_ble_eq_true rfl) (Nat.le_of_ble_eq_true rfl) (Nat.le_of_ble_eq_true rfl) (vX8_requireRange hC.nt) (zXo.of hQx (Nat.le_of_ble_eq_true rfl) (Nat.le_of_ble_eq_true rfl) (zRX.rg e1 h (zKe.refl _ _) (zAg.refl _ _ _))) (zk_x (fun m_14 => ?_))
  obtain ⟨v, rfl, hb1, hb2, e2⟩ := zrg_in (f := fun v => .inl (nI (S.1 (40 + k)), zcg S (zuf S.1 (40 + k) v))) (by omega) (by omega) m_14
  refine eX8_setMark_17 hC ?_
  refine eX8_setMark_18 hC (Nat.le_of_ble_eq_true rfl) (Nat.le_of_ble_eq_true rfl) (Nat.le_of_ble_eq_true rfl) (by assumption) (vX8_prepareChange hC.nt (by assumption) (by assumption) (by assumption)) (fun v_18 K_18 μ_18 m_18 => ?_)
  obtain ⟨rfl, hK, ha, hst, s', hR', hc', hfr⟩ := m_18
  show zV q _ _ 21 _ [] K_18 μ_18
  have w1 : zTv μ_18 (x + 1) S.1 := hc'.1
  have w0 : zO K_18 x 8 := hR'.1
  have w2 : zr K_18 x 0 (x + 1) := hR'.2.1
  have w3 : zTxt K_18 (x + 1) := hR'.2.2.2.2.2.2.2.2.1
  obtain ⟨r0, r1, r2, r3, r4⟩ := id w3
  refine eX8_setMark_21 hC ?_
  refine eX8_setMark_22 hC (by assumption) (by assumption) ?_
  refine eX8_setMark_25 hC (by assumption) (by assumption) ?_
  refine eX8_setMark_28 hC ?_
  refine eX8_setMark_29 hC (Nat.le_of_ble_eq_true rfl) (Nat.le_of_ble_eq_true rfl) (Nat.le_of_ble_eq_true rfl) (by first | assumption | exact zRow.o (by assumption)) (vX6_at hC.nt r4) (zk_i ?_)
  rw [zrd_in (by omega) (by omega), show μ_18 _ k = nI (S.1 (40 + k)) from w1.2.1 k (by omega)]
  refine eX8_setMark_32 hC ?_
  refine eX8_setMark_33 hC ?_
  refine eX8_setMark_34 hC (by assumption) (by assumption) ?_
  refine eX8_setMark_37 hC (by assumption) (by assumption) ?_
  refine eX8_setMark_40 hC ?_
  refine eX8_setMark_41 hC ?_
  refine eX8_setMark_42 hC (Nat.le_of_ble_eq_true rfl) (Nat.le_of_ble_eq_true rfl) (Nat.le_of_ble_eq_true rfl) (by first | assumption | exact zRow.o (by assumption)) (vX6_put hC.nt r4) (zk_w (fun μ_42 m_42 => ?_))
  refine eX8_setMark_45 hC ?_
  refine eX8_setMark_46 hC hQ (Nat.le_of_ble_eq_true rfl) (Nat.le_of_ble_eq_true rfl) ?_
  rw [zpt_in (by omega) (by omega)] at m_42
  subst m_42
  have hu : zAg μ_18 (zup μ_18 (x + 1 + 3 + 1) k (nI v)) (x + 1) (x + 6) := zAg.up (by omega)
  exact ⟨_, _, e1.trans e2, rfl, hK, ⟨s', hR', ⟨hc'.txt hR' (w1.mark (by omega)) hu, Or.inl (by rw [hu _ _ (by omega)]; exact hst)⟩, zcg_ok ho (zOk_mark ho.1 (by omega) hb2)⟩, ha.trans (zAg.wide hu (by omega) (by omega))⟩