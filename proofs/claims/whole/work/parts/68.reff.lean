/-! ===== the reference: forecasts ===== -/
theorem zSx.col {μ : zF} {m k : Nat} {τ : Nat → Nat} (h : zSx μ m τ) (h80 : τ 80 ≤ 40) : zSx μ m (zuf τ 81 k) := by
  have e : ∀ j, j ≠ 81 → zuf τ 81 k j = τ j := fun j hj => if_neg hj
  refine ⟨fun j hj => ?_, fun j j1 j2 j3 => ?_⟩
  · rw [e 80 (by omega)] at hj
    rw [e j (by omega), e (40 + j) (by omega)]; exact h.1 j hj
  · rw [e j j3]; exact h.2 j j1 j2 j3
theorem zM9.ny {μ μ' : zF} {m md : Nat} {S : zMs} {τ : Nat → Nat} (h : zM9 μ m S) (hn : zNw μ' m τ md) (hf : ∀ a j, ¬ (m + 3 ≤ a ∧ a ≤ m + 7) → μ' a j = μ a j) : zM9 μ' m S := h.fr (fun j => hf _ _ (by omega)) (hf _ _ (by omega)) (hf _ _ (by omega)) (fun j => hf _ _ (by omega)) (hn.1 0 (Nat.zero_le _))
set_option maxHeartbeats 4000000 in
theorem vX9_costFor {l : Launch} {g : zG} (hl : l.stackTraces = false) {K : zK} {μ : zF} {m b : Nat} {S : zMs} {i : Int32} (hR : zRef K m) (hM : zM9 μ m S) (ho : zMok S) (hb : b ≤ 1) : EX9_costFor l g 0 0 [.ref m, .int i, .int (nI b)] K μ (zN9 zc1 (zdo_costFor i b S) K μ m S) := by
  obtain ⟨h0, h1, h2, h3, h4, h5, h6, h7, h8, i1, i2, i3, i4, i5, i6, i7, i8⟩ := id hR
  obtain ⟨a1, a2, a3, a4, a5, a6⟩ := id hM
  have o80 := ho.1.1
  have e80 : μ (m + 1) 80 = nI (S.1 80) := by have := a1.2 80 (by omega) (by omega); rwa [Nat.zero_add] at this
  refine nX9_costFor hl (fun x hC hQ => ?_)
  by_cases q : ¬ i < nI 30 ∧ i ≤ nI 100
  · obtain ⟨k, rfl, k1, k2, e⟩ := zrg_in (f := fun k => .inl (nI (zct1 (zuf S.1 81 k) b), S)) (by omega) (by omega) q
    have ok := zOk_81 ho.1 (w := k) ⟨k1, k2⟩
    have lays : ∀ (μ1 : zF), zM9 μ1 m S → EX9_lays (xl x) (xg x) 0 0 [.ref m, .int (nI k), .int (nI b)] K μ1 (zPv (nI (zct1 (zuf S.1 81 k) b)) K (fun μ' => zNw μ' m (zuf S.1 81 k) b ∧ ∀ a j, ¬ (m + 3 ≤ a ∧ a ≤ m + 7) → μ' a j = μ1 a j)) := fun μ1 h => vX9_lays (τ := zuf S.1 81 k) hC.nt hR (h.x.col o80) ok h.2.2.2.2.2 hb
    refine eX9_costFor_0 hC ?_
    refine eX9_costFor_1 hC ?_
    refine eX9_costFor_2 hC ?_
    refine eX9_costFor_4 hC ?_
    refine eX9_costFor_6 hC (Nat.le_of_ble_eq_true rfl) (Nat.le_of_ble_eq_true rfl) (Nat.le_of_ble_eq_true rfl) (vX9_in hC.nt) (zk_i ?_)
    rw [zBv_t q]
    refine eX9_costFor_9 hC ?_
    refine eX9_costFor_10 hC ?_
    refine eX9_costFor_11 hC (Nat.le_of_ble_eq_true rfl) (Nat.le_of_ble_eq_true rfl) (Nat.le_of_ble_eq_true rfl) (by assumption) (vX9_goV hC.nt h0 (r := 1) (t := 0) rfl rfl (by omega) (by omega) (by omega)) (zk_v (fun μ_11 m_11 => ?_))
    subst m_11
    refine eX9_costFor_14 hC (fun zz => absurd zz zn10) (fun _ => ?_)
    refine eX9_costFor_17 hC ?_
    refine eX9_costFor_18 hC ?_
    refine eX9_costFor_19 hC ?_
    refine eX9_costFor_20 hC (Nat.le_of_ble_eq_true rfl) (Nat.le_of_ble_eq_true rfl) (Nat.le_of_ble_eq_true rfl) (by assumption) (lays _ hM.up4) (zk_v (fun μ_20 m_20 => ?_))
    refine eX9_costFor_23 hC ?_
    refine eX9_costFor_27 hC hQ (Nat.le_of_ble_eq_true rfl) (Nat.le_of_ble_eq_true rfl) ?_
    exact zN9.nw e (zAg.up (by omega)) (zup_self _ _ _ _) (hM.up4.ny m_20.1 m_20.2) m_20.2
  · refine eX9_costFor_0 hC ?_
    refine eX9_costFor_1 hC ?_
    refine eX9_costFor_2 hC ?_
    refine eX9_costFor_4 hC ?_
    refine eX9_costFor_6 hC (Nat.le_of_ble_eq_true rfl) (Nat.le_of_ble_eq_true rfl) (Nat.le_of_ble_eq_true rfl) (vX9_in hC.nt) (zk_i ?_)
    rw [zBv_f q]
    refine eX9_costFor_9 hC ?_
    refine eX9_costFor_10 hC ?_
    refine eX9_costFor_11 hC (Nat.le_of_ble_eq_true rfl) (Nat.le_of_ble_eq_true rfl) (Nat.le_of_ble_eq_true rfl) (by assumption) (vX9_goV hC.nt h0 (a := 0) (r := 0) (t := 1) rfl rfl (by omega) (by omega) (by omega)) (zk_v (fun μ_11 m_11 => ?_))
    subst m_11
    refine eX9_costFor_14 hC (fun _ => ?_) (fun zz => absurd zn00 zz)
    refine eX9_costFor_26 hC ?_
    refine eX9_costFor_27 hC hQ (Nat.le_of_ble_eq_true rfl) (Nat.le_of_ble_eq_true rfl) ?_
    exact zN9.ex (if_neg q) rfl hM
set_option maxHeartbeats 4000000 in
theorem vX9_saving0 {l : Launch} {g : zG} (hl : l.stackTraces = false) {K : zK} {μ : zF} {m : Nat} {S : zMs} (hR : zRef K m) (hM : zM9 μ m S) (ho : zMok S) : EX9_saving l g 0 0 [.ref m] K μ (zPv (nI (zct1 S.1 0) - nI (zct1 S.1 1)) K (fun μ' => zM9 μ' m S ∧ zAg μ μ' m (m + 9) ∧ μ' m 4 = nI 0)) := by
  obtain ⟨h0, h1, h2, h3, h4, h5, h6, h7, h8, i1, i2, i3, i4, i5, i6, i7, i8⟩ := id hR
  obtain ⟨a1, a2, a3, a4, a5, a6⟩ := id hM
  have o80 := ho.1.1
  have e80 : μ (m + 1) 80 = nI (S.1 80) := by have := a1.2 80 (by omega) (by omega); rwa [Nat.zero_add] at this
  refine nX9_saving hl (fun x hC hQ => ?_)
  refine eX9_saving_0 hC ?_
  refine eX9_saving_1 hC ?_
  refine eX9_saving_2 hC (by assumption) ?_
  refine eX9_saving_5 hC ?_
  refine eX9_saving_6 hC ?_
  refine eX9_saving_7 hC (by assumption) (by assumption) ?_
  refine eX9_saving_10 hC ?_
  refine eX9_saving_12 hC (by assumption) (vp_in_nI (by omega) (by omega)) ?_
  rw [nI_clamp (by omega), hM.up4.c (k := 81) (by omega) (by omega)]
  refine eX9_saving_13 hC ?_
  refine eX9_saving_14 hC (Nat.le_of_ble_eq_true rfl) (Nat.le_of_ble_eq_true rfl) (Nat.le_of_ble_eq_true rfl) (by assumption) (vX9_lays hC.nt hR hM.up4.x ho.1 hM.up4.2.2.2.2.2 (by omega)) (zk_v (fun μ_14 m_14 => ?_))
  obtain ⟨n1, n2⟩ := m_14
  have g1 := hM.up4.ny n1 n2
  refine eX9_saving_17 hC ?_
  refine eX9_saving_18 hC ?_
  refine eX9_saving_19 hC ?_
  refine eX9_saving_20 hC ?_
  refine eX9_saving_21 hC (by assumption) (by assumption) ?_
  refine eX9_saving_24 hC ?_
  refine eX9_saving_26 hC (by assumption) (vp_in_nI (by omega) (by omega)) ?_
  rw [nI_clamp (by omega), g1.c (k := 81) (by omega) (by omega)]
  refine eX9_saving_27 hC ?_
  refine eX9_saving_28 hC (Nat.le_of_ble_eq_true rfl) (Nat.le_of_ble_eq_true rfl) (Nat.le_of_ble_eq_true rfl) (by assumption) (vX9_lays hC.nt hR g1.x ho.1 g1.2.2.2.2.2 (by omega)) (zk_v (fun μ_28 m_28 => ?_))
  refine eX9_saving_31 hC ?_
  refine eX9_saving_32 hC hQ (Nat.le_of_ble_eq_true rfl) (Nat.le_of_ble_eq_true rfl) ?_
  obtain ⟨n3, n4⟩ := m_28
  exact ⟨rfl, rfl, g1.ny n3 n4, ((zAg.up (by omega)).trans (zagnw n2)).trans (zagnw n4), (n4 _ _ (by omega)).trans ((n2 _ _ (by omega)).trans (zup_self _ _ _ _))⟩
set_option maxHeartbeats 4000000 in
theorem vX9_saving {l : Launch} {g : zG} (hl : l.stackTraces = false) {K : zK} {μ : zF} {m : Nat} {S : zMs} (hR : zRef K m) (hM : zM9 μ m S) (ho : zMok S) : EX9_saving l g 0 0 [.ref m] K μ (zN9 zc1 (zdo_saving S) K μ m S) := by
  obtain ⟨h0, h1, h2, h3, h4, h5, h6, h7, h8, i1, i2, i3, i4, i5, i6, i7, i8⟩ := id hR
  obtain ⟨a1, a2, a3, a4, a5, a6⟩ := id hM
  have o80 := ho.1.1
  have e80 : μ (m + 1) 80 = nI (S.1 80) := by have := a1.2 80 (by omega) (by omega); rwa [Nat.zero_add] at this
  refine nX9_saving hl (fun x hC hQ => ?_)
  refine eX9_saving_0 hC ?_
  refine eX9_saving_1 hC ?_
  refine eX9_saving_2 hC (by assumption) ?_
  refine eX9_saving_5 hC ?_
  refine eX9_saving_6 hC ?_
  refine eX9_saving_7 hC (by assumption) (by assumption) ?_
  refine eX9_saving_10 hC ?_
  refine eX9_saving_12 hC (by assumption) (vp_in_nI (by omega) (by omega)) ?_
  rw [nI_clamp (by omega), hM.up4.c (k := 81) (by omega) (by omega)]
  refine eX9_saving_13 hC ?_
  refine eX9_saving_14 hC (Nat.le_of_ble_eq_true rfl) (Nat.le_of_ble_eq_true rfl) (Nat.le_of_ble_eq_true rfl) (by assumption) (vX9_lays hC.nt hR hM.up4.x ho.1 hM.up4.2.2.2.2.2 (by omega)) (zk_v (fun μ_14 m_14 => ?_))
  obtain ⟨n1, n2⟩ := m_14
  have g1 := hM.up4.ny n1 n2
  refine eX9_saving_17 hC ?_
  refine eX9_saving_18 hC ?_
  refine eX9_saving_19 hC ?_
  refine eX9_saving_20 hC ?_
  refine eX9_saving_21 hC (by assumption) (by assumption) ?_
  refine eX9_saving_24 hC ?_
  refine eX9_saving_26 hC (by assumption) (vp_in_nI (by omega) (by omega)) ?_
  rw [nI_clamp (by omega), g1.c (k := 81) (by omega) (by omega)]
  refine eX9_saving_27 hC ?_
  refine eX9_saving_28 hC (Nat.le_of_ble_eq_true rfl) (Nat.le_of_ble_eq_true rfl) (Nat.le_of_ble_eq_true rfl) (by assumption) (vX9_lays hC.nt hR g1.x ho.1 g1.2.2.2.2.2 (by omega)) (zk_v (fun μ_28 m_28 => ?_))
  refine eX9_saving_31 hC ?_
  refine eX9_saving_32 hC hQ (Nat.le_of_ble_eq_true rfl) (Nat.le_of_ble_eq_true rfl) ?_
  obtain ⟨n3, n4⟩ := m_28
  exact zN9.ok rfl (((zAg.up (by omega)).trans (zagnw n2)).trans (zagnw n4)) ((n4 _ _ (by omega)).trans ((n2 _ _ (by omega)).trans (zup_self _ _ _ _))) (g1.ny n3 n4)
theorem zuf_ne (τ : Nat → Nat) {k j v : Nat} (h : j ≠ k) : zuf τ k v j = τ j := if_neg h
set_option maxHeartbeats 4000000 in
theorem vX9_costIfMarked {l : Launch} {g : zG} (hl : l.stackTraces = false) {K : zK} {μ : zF} {m : Nat} {S : zMs} {i : Int32} {w : Int32} (hR : zRef K m) (hM : zM9 μ m S) (ho : zMok S) : EX9_costIfMarked l g 0 0 [.ref m, .int i, .int w] K μ (zN9 zcIA (zdo_costIfMarked i w S) K μ m S) := by
  obtain ⟨h0, h1, h2, h3, h4, h5, h6, h7, h8, i1, i2, i3, i4, i5, i6, i7, i8⟩ := id hR
  obtain ⟨a1, a2, a3, a4, a5, a6⟩ := id hM
  have o80 := ho.1.1
  have e80 : μ (m + 1) 80 = nI (S.1 80) := by have := a1.2 80 (by omega) (by omega); rwa [Nat.zero_add] at this
  refine nX9_costIfMarked hl (fun x hC hQ => ?_)
  by_cases q1 : ¬ i < 0 ∧ i < nI (S.1 80)
  · obtain ⟨k, rfl, hk, e1⟩ := zix_in (f := fun k => zrg w 0 2 (fun v => .inl (nI (zct1 (zuf S.1 (40 + k) v) (S.1 87)), S))) (by omega) q1
    by_cases q2 : ¬ w < nI 0 ∧ w ≤ nI 2
    · obtain ⟨v, rfl, v1, v2, e2⟩ := zrg_in (f := fun v => .inl (nI (zct1 (zuf S.1 (40 + k) v) (S.1 87)), S)) (by omega) (by omega) q2
      have okv : zMok (zuf S.1 (40 + k) v, S.2) := ⟨zOk_mark ho.1 (by omega) v2, ho.2⟩
      have ek : zup μ m 4 (nI 0) (m + 1) (40 + k) = nI (S.1 (40 + k)) := (zup_a _ _ _ _ (by omega)).trans (hM.x.1 k hk).2
      have g1 : zM9 (zup (zup μ m 4 (nI 0)) (m + 1) (40 + k) (nI v)) m (zuf S.1 (40 + k) v, S.2) := hM.up4.set ho (by omega) (by omega) (by omega)
      refine eX9_costIfMarked_0 hC ?_
      refine eX9_costIfMarked_1 hC ?_
      refine eX9_costIfMarked_2 hC ?_
      refine eX9_costIfMarked_3 hC (Nat.le_of_ble_eq_true rfl) (Nat.le_of_ble_eq_true rfl) (Nat.le_of_ble_eq_true rfl) (by assumption) (vX9_isWord hC.nt hR e80 (by omega)) (zk_i ?_)
      rw [zBv_t q1]
      refine eX9_costIfMarked_6 hC ?_
      refine eX9_costIfMarked_7 hC ?_
      refine eX9_costIfMarked_8 hC ?_
      refine eX9_costIfMarked_9 hC (Nat.le_of_ble_eq_true rfl) (Nat.le_of_ble_eq_true rfl) (Nat.le_of_ble_eq_true rfl) (vX9_in hC.nt) (zk_i ?_)
      rw [zBv_t q2]
      refine eX9_costIfMarked_12 hC ?_
      refine eX9_costIfMarked_13 hC (Nat.le_of_ble_eq_true rfl) (Nat.le_of_ble_eq_true rfl) (Nat.le_of_ble_eq_true rfl) (by assumption) (vX9_goV hC.nt h0 (r := 1) (t := 0) rfl rfl (by omega) (by omega) (by omega)) (zk_v (fun μ_13 m_13 => ?_))
      subst m_13
      refine eX9_costIfMarked_16 hC (fun _ => ?_) (fun zz => absurd zz zn10)
      refine eX9_costIfMarked_21 hC ?_
      refine eX9_costIfMarked_22 hC (by assumption) (by assumption) ?_
      refine eX9_costIfMarked_25 hC ?_
      refine eX9_costIfMarked_27 hC ?_
      refine eX9_costIfMarked_28 hC ?_
      rw [nI_add]
      refine eX9_costIfMarked_29 hC (by assumption) (vp_in_nI (by omega) (by omega)) ?_
      rw [nI_clamp (by omega), ek]
      refine eX9_costIfMarked_30 hC ?_
      refine eX9_costIfMarked_31 hC ?_
      refine eX9_costIfMarked_32 hC (by assumption) (by assumption) ?_
      refine eX9_costIfMarked_35 hC ?_
      refine eX9_costIfMarked_37 hC ?_
      refine eX9_costIfMarked_38 hC ?_
      rw [nI_add]
      refine eX9_costIfMarked_39 hC ?_
      refine eX9_costIfMarked_40 hC (by assumption) (vp_in_nI (by omega) (by omega)) ?_
      rw [nI_clamp (by omega)]
      refine eX9_costIfMarked_41 hC ?_
      refine eX9_costIfMarked_42 hC (Nat.le_of_ble_eq_true rfl) (Nat.le_of_ble_eq_true rfl) (Nat.le_of_ble_eq_true rfl) (by assumption) (vX9_now hC.nt hR g1 okv) (zk_v (fun μ_42 m_42 => ?_))
      obtain ⟨n1, n2, n3⟩ := m_42
      refine eX9_costIfMarked_45 hC ?_
      refine eX9_costIfMarked_47 hC ?_
      refine eX9_costIfMarked_48 hC (by assumption) (by assumption) ?_
      refine eX9_costIfMarked_51 hC ?_
      refine eX9_costIfMarked_53 hC ?_
      refine eX9_costIfMarked_54 hC ?_
      rw [nI_add]
      refine eX9_costIfMarked_55 hC ?_
      refine eX9_costIfMarked_56 hC (by assumption) (vp_in_nI (by omega) (by omega)) ?_
      rw [nI_clamp (by omega)]
      refine eX9_costIfMarked_57 hC ?_
      refine eX9_costIfMarked_59 hC hQ (Nat.le_of_ble_eq_true rfl) (Nat.le_of_ble_eq_true rfl) ?_
      have g2 := n2.set (k := 40 + k) (v := S.1 (40 + k)) okv (by omega) (by omega) (by omega)
      have e3 : ((zuf (zuf S.1 (40 + k) v) (40 + k) (S.1 (40 + k)), S.2) : zMs) = S := by rw [zuf_zuf, zuf_self]
      have g3 : zM9 (zup μ_42 (m + 1) (40 + k) (nI (S.1 (40 + k)))) m S := by
        have g2 : zM9 (zup μ_42 (m + 1) (40 + k) (nI (S.1 (40 + k)))) m (zuf (zuf S.1 (40 + k) v) (40 + k) (S.1 (40 + k)), S.2) := g2
        rw [e3] at g2
        exact g2
      refine zN9.ok ?_ (fun a j z => ?_) ?_ g3
      · refine (e1.trans e2).trans ?_
        show (Sum.inl (nI (zct1 (zuf S.1 (40 + k) v) (S.1 87)), S) : zOu) = Sum.inl (nI (zct1 (zuf S.1 (40 + k) v) (zuf S.1 (40 + k) v 87)), S)
        rw [zuf_ne S.1 (show 87 ≠ 40 + k by omega)]
      · rw [zup_a _ _ _ _ (by omega), n3 _ _ (by omega), zup_a _ _ _ _ (by omega), zup_a _ _ _ _ (by omega)]
      · rw [zup_a _ _ _ _ (by omega), n3 _ _ (by omega), zup_a _ _ _ _ (by omega), zup_self]
    · refine eX9_costIfMarked_0 hC ?_
      refine eX9_costIfMarked_1 hC ?_
      refine eX9_costIfMarked_2 hC ?_
      refine eX9_costIfMarked_3 hC (Nat.le_of_ble_eq_true rfl) (Nat.le_of_ble_eq_true rfl) (Nat.le_of_ble_eq_true rfl) (by assumption) (vX9_isWord hC.nt hR e80 (by omega)) (zk_i ?_)
      rw [zBv_t q1]
      refine eX9_costIfMarked_6 hC ?_
      refine eX9_costIfMarked_7 hC ?_
      refine eX9_costIfMarked_8 hC ?_
      refine eX9_costIfMarked_9 hC (Nat.le_of_ble_eq_true rfl) (Nat.le_of_ble_eq_true rfl) (Nat.le_of_ble_eq_true rfl) (vX9_in hC.nt) (zk_i ?_)
      rw [zBv_f q2]
      refine eX9_costIfMarked_12 hC ?_
      refine eX9_costIfMarked_13 hC (Nat.le_of_ble_eq_true rfl) (Nat.le_of_ble_eq_true rfl) (Nat.le_of_ble_eq_true rfl) (by assumption) (vX9_goV hC.nt h0 (b := 0) (r := 0) (t := 2) rfl rfl (by omega) (by omega) (by omega)) (zk_v (fun μ_13 m_13 => ?_))
      subst m_13
      refine eX9_costIfMarked_16 hC (fun zz => absurd zn00 zz) (fun _ => ?_)
      refine eX9_costIfMarked_19 hC ?_
      refine eX9_costIfMarked_20 hC hQ (Nat.le_of_ble_eq_true rfl) (Nat.le_of_ble_eq_true rfl) ?_
      exact zN9.ex (e1.trans (if_neg q2)) (by decide) hM
  · obtain ⟨z, hz, ez⟩ := zBv_n (¬ w < nI 0 ∧ w ≤ nI 2)
    refine eX9_costIfMarked_0 hC ?_
    refine eX9_costIfMarked_1 hC ?_
    refine eX9_costIfMarked_2 hC ?_
    refine eX9_costIfMarked_3 hC (Nat.le_of_ble_eq_true rfl) (Nat.le_of_ble_eq_true rfl) (Nat.le_of_ble_eq_true rfl) (by assumption) (vX9_isWord hC.nt hR e80 (by omega)) (zk_i ?_)
    rw [zBv_f q1]
    refine eX9_costIfMarked_6 hC ?_
    refine eX9_costIfMarked_7 hC ?_
    refine eX9_costIfMarked_8 hC ?_
    refine eX9_costIfMarked_9 hC (Nat.le_of_ble_eq_true rfl) (Nat.le_of_ble_eq_true rfl) (Nat.le_of_ble_eq_true rfl) (vX9_in hC.nt) (zk_i ?_)
    rw [ez]
    refine eX9_costIfMarked_12 hC ?_
    refine eX9_costIfMarked_13 hC (Nat.le_of_ble_eq_true rfl) (Nat.le_of_ble_eq_true rfl) (Nat.le_of_ble_eq_true rfl) (by assumption) (vX9_goV hC.nt h0 (a := 0) (r := 0) (t := 1) rfl rfl (by omega) hz (by omega)) (zk_v (fun μ_13 m_13 => ?_))
    subst m_13
    refine eX9_costIfMarked_16 hC (fun zz => absurd zn00 zz) (fun _ => ?_)
    refine eX9_costIfMarked_19 hC ?_
    refine eX9_costIfMarked_20 hC hQ (Nat.le_of_ble_eq_true rfl) (Nat.le_of_ble_eq_true rfl) ?_
    exact zN9.ex (if_neg q1) (by decide) hM
set_option maxHeartbeats 4000000 in
theorem vX9_bestColumn {l : Launch} {g : zG} (hl : l.stackTraces = false) {K : zK} {μ : zF} {m : Nat} {S : zMs} {i : Int32} {j : Int32} (hR : zRef K m) (hM : zM9 μ m S) (ho : zMok S) : EX9_bestColumn l g 0 0 [.ref m, .int i, .int j] K μ (zN9 zc1 (zdo_bestColumn i j S) K μ m S) := by
  obtain ⟨h0, h1, h2, h3, h4, h5, h6, h7, h8, i1, i2, i3, i4, i5, i6, i7, i8⟩ := id hR
  obtain ⟨a1, a2, a3, a4, a5, a6⟩ := id hM
  have o80 := ho.1.1
  have e80 : μ (m + 1) 80 = nI (S.1 80) := by have := a1.2 80 (by omega) (by omega); rwa [Nat.zero_add] at this
  refine nX9_bestColumn hl (fun x hC hQ => ?_)
  by_cases q1 : ¬ i < nI 30 ∧ i ≤ nI 100
  · obtain ⟨p, rfl, p1, p2, e1⟩ := zrg_in (f := fun p => zrg j p 100 (fun b => .inl (nI (zbw (zbc S.1) p (b - p)), S))) (by omega) (by omega) q1
    by_cases q2 : ¬ j < nI p ∧ j ≤ nI 100
    · obtain ⟨b, rfl, b1, b2, e2⟩ := zrg_in (f := fun b => .inl (nI (zbw (zbc S.1) p (b - p)), S)) (by omega) p2 q2
      have lays : ∀ (μ1 : zF) (k : Nat), 30 ≤ k → k ≤ 100 → zM9 μ1 m S → EX9_lays (xl x) (xg x) 0 0 [.ref m, .int (nI k), .int (nI 1)] K μ1 (zPv (nI (zbc S.1 k)) K (fun μ' => zNw μ' m (zuf S.1 81 k) 1 ∧ ∀ a j, ¬ (m + 3 ≤ a ∧ a ≤ m + 7) → μ' a j = μ1 a j)) := fun μ1 k k1 k2 h => vX9_lays (τ := zuf S.1 81 k) hC.nt hR (h.x.col o80) (zOk_81 ho.1 ⟨k1, k2⟩) h.2.2.2.2.2 (by omega)
      have loop : ∀ (e d : Nat) (μ1 : zF) (bst cst : Int32), p + d + e = b + 1 → zM9 μ1 m S → zAg μ μ1 m (m + 9) → μ1 m 4 = nI 0 → (d = 0 → bst = -1) → (0 < d → bst = nI (zbw (zbc S.1) p (d - 1)) ∧ cst = nI (zbc S.1 (zbw (zbc S.1) p (d - 1)))) → zV x 0 0 45 [some (.ref m), some (.int (nI p)), some (.int (nI b)), some (.int bst), some (.int cst), some (.int (nI (p + d))), none, none] [] K μ1 := by
        intro e
        induction e with
        | zero =>
          intro d μ1 bst cst hd hM1 ha h4' hb0 hb1
          obtain ⟨rfl, -⟩ := hb1 (by omega)
          refine eX9_bestColumn_45 hC ?_
          refine eX9_bestColumn_47 hC ?_
          refine eX9_bestColumn_48 hC (fun _ => ?_) (fun zz => absurd (nI_lt (by omega) (by omega)) zz)
          refine eX9_bestColumn_111 hC ?_
          refine eX9_bestColumn_112 hC hQ (Nat.le_of_ble_eq_true rfl) (Nat.le_of_ble_eq_true rfl) ?_
          exact zN9.ok ((e1.trans e2).trans (by rw [show b - p = d - 1 by omega])) ha h4' hM1
        | succ e ih =>
          intro d μ1 bst cst hd hM1 ha h4' hb0 hb1
          have hc1 := zbc_lt ho.1 (k := p + d) ⟨by omega, by omega⟩
          have go : ∀ (μ2 : zF), zNw μ2 m (zuf S.1 81 (p + d)) 1 → (∀ a j, ¬ (m + 3 ≤ a ∧ a ≤ m + 7) → μ2 a j = μ1 a j) → ∀ (bst' cst' : Int32) (l6 l7 : Option Value), bst' = nI (zbw (zbc S.1) p d) → cst' = nI (zbc S.1 (zbw (zbc S.1) p d)) → zV x 0 0 45 [some (.ref m), some (.int (nI p)), some (.int (nI b)), some (.int bst'), some (.int cst'), some (.int (nI (p + (d + 1)))), l6, l7] [] K μ2 := by
            intro μ2 n1 n2 bst' cst' l6 l7 z1 z2
            exact zV.fg (by simp [zFg]) (ih (d + 1) μ2 bst' cst' (by omega) (hM1.ny n1 n2) (ha.trans (zagnw n2)) ((n2 _ _ (by omega)).trans h4') (fun z => by omega) (fun _ => by rw [Nat.add_sub_cancel]; exact ⟨z1, z2⟩))
          by_cases d0 : d = 0
          · subst d0
            obtain rfl := hb0 rfl
            refine eX9_bestColumn_45 hC ?_
            refine eX9_bestColumn_47 hC ?_
            refine eX9_bestColumn_48 hC (fun zz => absurd zz (nI_nlt (by omega) (by omega))) (fun _ => ?_)
            refine eX9_bestColumn_51 hC ?_
            refine eX9_bestColumn_52 hC ?_
            refine eX9_bestColumn_54 hC ?_
            refine eX9_bestColumn_55 hC (Nat.le_of_ble_eq_true rfl) (Nat.le_of_ble_eq_true rfl) (Nat.le_of_ble_eq_true rfl) (by assumption) (lays _ (p + 0) (by omega) (by omega) hM1) (zk_v (fun μ_55 m_55 => ?_))
            refine eX9_bestColumn_58 hC ?_
            refine eX9_bestColumn_60 hC ?_
            refine eX9_bestColumn_61 hC ?_
            refine eX9_bestColumn_62 hC (fun _ => ?_) (fun zz => absurd rfl zz)
            refine eX9_bestColumn_72 hC ?_
            refine eX9_bestColumn_73 hC ?_
            refine eX9_bestColumn_77 hC ?_
            refine eX9_bestColumn_79 hC ?_
            refine eX9_bestColumn_81 hC (fun zz => absurd zz zn10) (fun _ => ?_)
            refine eX9_bestColumn_84 hC ?_
            refine eX9_bestColumn_86 hC ?_
            refine eX9_bestColumn_90 hC ?_
            refine eX9_bestColumn_91 hC ?_
            refine eX9_bestColumn_93 hC (fun zz => absurd zz zn10) (fun _ => ?_)
            refine eX9_bestColumn_96 hC ?_
            refine eX9_bestColumn_98 hC ?_
            refine eX9_bestColumn_103 hC ?_
            refine eX9_bestColumn_105 hC ?_
            rw [nI_add, show p + 0 + 1 = p + (0 + 1) by omega]
            refine eX9_bestColumn_108 hC ?_
            exact go μ_55 m_55.1 m_55.2 _ _ _ _ rfl rfl
          · obtain ⟨d', rfl⟩ : ∃ d', d = d' + 1 := ⟨d - 1, by omega⟩
            obtain ⟨rfl, rfl⟩ := hb1 (by omega)
            rw [Nat.add_sub_cancel] at *
            have hin := zbw_in (c := zbc S.1) (p := p) (d := d') ⟨p1, by omega⟩
            have hc2 := zbc_lt ho.1 (k := zbw (zbc S.1) p d') hin
            have zt : zbc S.1 (p + (d' + 1)) < zbc S.1 (zbw (zbc S.1) p d') → zbw (zbc S.1) p (d' + 1) = p + (d' + 1) := fun z => if_pos z
            have zf : ¬ zbc S.1 (p + (d' + 1)) < zbc S.1 (zbw (zbc S.1) p d') → zbw (zbc S.1) p (d' + 1) = zbw (zbc S.1) p d' := fun z => if_neg z
            by_cases c1 : zbc S.1 (p + (d' + 1)) < zbc S.1 (zbw (zbc S.1) p d')
            · refine eX9_bestColumn_45 hC ?_
              refine eX9_bestColumn_47 hC ?_
              refine eX9_bestColumn_48 hC (fun zz => absurd zz (nI_nlt (by omega) (by omega))) (fun _ => ?_)
              refine eX9_bestColumn_51 hC ?_
              refine eX9_bestColumn_52 hC ?_
              refine eX9_bestColumn_54 hC ?_
              refine eX9_bestColumn_55 hC (Nat.le_of_ble_eq_true rfl) (Nat.le_of_ble_eq_true rfl) (Nat.le_of_ble_eq_true rfl) (by assumption) (lays _ (p + (d' + 1)) (by omega) (by omega) hM1) (zk_v (fun μ_55 m_55 => ?_))
              refine eX9_bestColumn_58 hC ?_
              refine eX9_bestColumn_60 hC ?_
              refine eX9_bestColumn_61 hC ?_
              refine eX9_bestColumn_62 hC (fun zz => absurd zz (zne_m1 (by omega))) (fun _ => ?_)
              refine eX9_bestColumn_65 hC ?_
              refine eX9_bestColumn_67 hC ?_
              refine eX9_bestColumn_69 hC (fun zz => absurd zz (nI_ge c1 (by omega))) (fun _ => ?_)
              refine eX9_bestColumn_72 hC ?_
              refine eX9_bestColumn_73 hC ?_
              refine eX9_bestColumn_77 hC ?_
              refine eX9_bestColumn_79 hC ?_
              refine eX9_bestColumn_81 hC (fun zz => absurd zz zn10) (fun _ => ?_)
              refine eX9_bestColumn_84 hC ?_
              refine eX9_bestColumn_86 hC ?_
              refine eX9_bestColumn_90 hC ?_
              refine eX9_bestColumn_91 hC ?_
              refine eX9_bestColumn_93 hC (fun zz => absurd zz zn10) (fun _ => ?_)
              refine eX9_bestColumn_96 hC ?_
              refine eX9_bestColumn_98 hC ?_
              refine eX9_bestColumn_103 hC ?_
              refine eX9_bestColumn_105 hC ?_
              rw [nI_add, show p + (d' + 1) + 1 = p + (d' + 1 + 1) by omega]
              refine eX9_bestColumn_108 hC ?_
              exact go μ_55 m_55.1 m_55.2 _ _ _ _ (by rw [zt c1]) (by rw [zt c1])
            · refine eX9_bestColumn_45 hC ?_
              refine eX9_bestColumn_47 hC ?_
              refine eX9_bestColumn_48 hC (fun zz => absurd zz (nI_nlt (by omega) (by omega))) (fun _ => ?_)
              refine eX9_bestColumn_51 hC ?_
              refine eX9_bestColumn_52 hC ?_
              refine eX9_bestColumn_54 hC ?_
              refine eX9_bestColumn_55 hC (Nat.le_of_ble_eq_true rfl) (Nat.le_of_ble_eq_true rfl) (Nat.le_of_ble_eq_true rfl) (by assumption) (lays _ (p + (d' + 1)) (by omega) (by omega) hM1) (zk_v (fun μ_55 m_55 => ?_))
              refine eX9_bestColumn_58 hC ?_
              refine eX9_bestColumn_60 hC ?_
              refine eX9_bestColumn_61 hC ?_
              refine eX9_bestColumn_62 hC (fun zz => absurd zz (zne_m1 (by omega))) (fun _ => ?_)
              refine eX9_bestColumn_65 hC ?_
              refine eX9_bestColumn_67 hC ?_
              refine eX9_bestColumn_69 hC (fun _ => ?_) (fun zz => absurd (nI_le (by omega) (by omega)) zz)
              refine eX9_bestColumn_76 hC ?_
              refine eX9_bestColumn_77 hC ?_
              refine eX9_bestColumn_79 hC ?_
              refine eX9_bestColumn_81 hC (fun _ => ?_) (fun zz => absurd zn00 zz)
              refine eX9_bestColumn_89 hC ?_
              refine eX9_bestColumn_90 hC ?_
              refine eX9_bestColumn_91 hC ?_
              refine eX9_bestColumn_93 hC (fun _ => ?_) (fun zz => absurd zn00 zz)
              refine eX9_bestColumn_101 hC ?_
              refine eX9_bestColumn_103 hC ?_
              refine eX9_bestColumn_105 hC ?_
              rw [nI_add, show p + (d' + 1) + 1 = p + (d' + 1 + 1) by omega]
              refine eX9_bestColumn_108 hC ?_
              exact go μ_55 m_55.1 m_55.2 _ _ _ _ (by rw [zf c1]) (by rw [zf c1])
      refine eX9_bestColumn_0 hC ?_
      refine eX9_bestColumn_1 hC ?_
      refine eX9_bestColumn_2 hC ?_
      refine eX9_bestColumn_4 hC ?_
      refine eX9_bestColumn_6 hC (Nat.le_of_ble_eq_true rfl) (Nat.le_of_ble_eq_true rfl) (Nat.le_of_ble_eq_true rfl) (vX9_in hC.nt) (zk_i ?_)
      rw [zBv_t q1]
      refine eX9_bestColumn_9 hC (fun zz => absurd zz zn10) (fun _ => ?_)
      refine eX9_bestColumn_12 hC ?_
      refine eX9_bestColumn_13 hC ?_
      refine eX9_bestColumn_14 hC ?_
      refine eX9_bestColumn_16 hC (Nat.le_of_ble_eq_true rfl) (Nat.le_of_ble_eq_true rfl) (Nat.le_of_ble_eq_true rfl) (vX9_in hC.nt) (zk_i ?_)
      rw [zBv_t q2]
      refine eX9_bestColumn_19 hC (fun zz => absurd zz zn10) (fun _ => ?_)
      refine eX9_bestColumn_22 hC ?_
      refine eX9_bestColumn_23 hC ?_
      refine eX9_bestColumn_27 hC ?_
      refine eX9_bestColumn_28 hC ?_
      refine eX9_bestColumn_29 hC (Nat.le_of_ble_eq_true rfl) (Nat.le_of_ble_eq_true rfl) (Nat.le_of_ble_eq_true rfl) (by assumption) (vX9_goV hC.nt h0 (r := 1) (t := 0) rfl rfl (by omega) (by omega) (by omega)) (zk_v (fun μ_29 m_29 => ?_))
      subst m_29
      refine eX9_bestColumn_32 hC (fun _ => ?_) (fun zz => absurd zz zn10)
      refine eX9_bestColumn_37 hC ?_
      refine eX9_bestColumn_38 hC ?_
      refine eX9_bestColumn_39 hC ?_
      refine eX9_bestColumn_40 hC ?_
      refine eX9_bestColumn_42 hC ?_
      refine eX9_bestColumn_43 hC ?_
      exact loop (b + 1 - p) 0 _ (-1) (nI 0) (by omega) hM.up4 (zAg.up (by omega)) (zup_self _ _ _ _) (fun _ => rfl) (fun z => by omega)
    · refine eX9_bestColumn_0 hC ?_
      refine eX9_bestColumn_1 hC ?_
      refine eX9_bestColumn_2 hC ?_
      refine eX9_bestColumn_4 hC ?_
      refine eX9_bestColumn_6 hC (Nat.le_of_ble_eq_true rfl) (Nat.le_of_ble_eq_true rfl) (Nat.le_of_ble_eq_true rfl) (vX9_in hC.nt) (zk_i ?_)
      rw [zBv_t q1]
      refine eX9_bestColumn_9 hC (fun zz => absurd zz zn10) (fun _ => ?_)
      refine eX9_bestColumn_12 hC ?_
      refine eX9_bestColumn_13 hC ?_
      refine eX9_bestColumn_14 hC ?_
      refine eX9_bestColumn_16 hC (Nat.le_of_ble_eq_true rfl) (Nat.le_of_ble_eq_true rfl) (Nat.le_of_ble_eq_true rfl) (vX9_in hC.nt) (zk_i ?_)
      rw [zBv_f q2]
      refine eX9_bestColumn_19 hC (fun _ => ?_) (fun zz => absurd zn00 zz)
      refine eX9_bestColumn_26 hC ?_
      refine eX9_bestColumn_27 hC ?_
      refine eX9_bestColumn_28 hC ?_
      refine eX9_bestColumn_29 hC (Nat.le_of_ble_eq_true rfl) (Nat.le_of_ble_eq_true rfl) (Nat.le_of_ble_eq_true rfl) (by assumption) (vX9_goV hC.nt h0 (a := 0) (r := 0) (t := 1) rfl rfl (by omega) (by omega) (by omega)) (zk_v (fun μ_29 m_29 => ?_))
      subst m_29
      refine eX9_bestColumn_32 hC (fun zz => absurd zn00 zz) (fun _ => ?_)
      refine eX9_bestColumn_35 hC ?_
      refine eX9_bestColumn_36 hC hQ (Nat.le_of_ble_eq_true rfl) (Nat.le_of_ble_eq_true rfl) ?_
      exact zN9.ex (e1.trans (if_neg q2)) rfl hM
  · refine eX9_bestColumn_0 hC ?_
    refine eX9_bestColumn_1 hC ?_
    refine eX9_bestColumn_2 hC ?_
    refine eX9_bestColumn_4 hC ?_
    refine eX9_bestColumn_6 hC (Nat.le_of_ble_eq_true rfl) (Nat.le_of_ble_eq_true rfl) (Nat.le_of_ble_eq_true rfl) (vX9_in hC.nt) (zk_i ?_)
    rw [zBv_f q1]
    refine eX9_bestColumn_9 hC (fun _ => ?_) (fun zz => absurd zn00 zz)
    refine eX9_bestColumn_26 hC ?_
    refine eX9_bestColumn_27 hC ?_
    refine eX9_bestColumn_28 hC ?_
    refine eX9_bestColumn_29 hC (Nat.le_of_ble_eq_true rfl) (Nat.le_of_ble_eq_true rfl) (Nat.le_of_ble_eq_true rfl) (by assumption) (vX9_goV hC.nt h0 (a := 0) (r := 0) (t := 1) rfl rfl (by omega) (by omega) (by omega)) (zk_v (fun μ_29 m_29 => ?_))
    subst m_29
    refine eX9_bestColumn_32 hC (fun zz => absurd zn00 zz) (fun _ => ?_)
    refine eX9_bestColumn_35 hC ?_
    refine eX9_bestColumn_36 hC hQ (Nat.le_of_ble_eq_true rfl) (Nat.le_of_ble_eq_true rfl) ?_
    exact zN9.ex (if_neg q1) rfl hM
