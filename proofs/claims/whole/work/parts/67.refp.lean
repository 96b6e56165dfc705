/-! ===== the reference: queries of lines ===== -/
theorem zN9.nw {c : String → Nat} {o : zOu} {K : zK} {μ μ1 μ2 : zF} {m : Nat} {S : zMs} {r : Int32} (e : o = .inl (r, S)) (ha : zAg μ μ1 m (m + 9)) (h4 : μ1 m 4 = nI 0) (hM : zM9 μ2 m S) (hf : ∀ a j, ¬ (m + 3 ≤ a ∧ a ≤ m + 7) → μ2 a j = μ1 a j) : zN9 c o K μ m S (some (.int r)) K μ2 := zN9.ok e (ha.trans (zagnw hf)) ((hf _ _ (by omega)).trans h4) hM
theorem zN9.nx {c : String → Nat} {o : zOu} {K : zK} {μ μ2 : zF} {m t : Nat} {S : zMs} {E : String} {v : Int32} (e : o = .inr E) (ht : c E = t) (hM : zM9 μ2 m S) (hf : zAg μ μ2 m (m + 9)) : zN9 c o K μ m S (some (.int v)) K (zup μ2 m 4 (nI t)) := ⟨rfl, hf.trans (zAg.up (by omega)), Or.inr ⟨E, v, e, rfl, by rw [zup_self, ht], hM.up4⟩⟩
theorem zN9.ny {c : String → Nat} {o : zOu} {K : zK} {μ μ2 : zF} {m : Nat} {S : zMs} {r : Int32} (e : o = .inl (r, S)) (hM : zM9 μ2 m S) (hf : zAg μ μ2 m (m + 9)) : zN9 c o K μ m S (some (.int r)) K (zup μ2 m 4 (nI 0)) := zN9.ok e (hf.trans (zAg.up (by omega))) (zup_self _ _ _ _) hM.up4
set_option maxHeartbeats 4000000 in
theorem vX9_lines {l : Launch} {g : zG} (hl : l.stackTraces = false) {K : zK} {μ : zF} {m : Nat} {S : zMs} (hR : zRef K m) (hM : zM9 μ m S) (ho : zMok S) : EX9_lines l g 0 0 [.ref m] K μ (zN9 zc1 (zdo_lines S) K μ m S) := by
  obtain ⟨h0, h1, h2, h3, h4, h5, h6, h7, h8, i1, i2, i3, i4, i5, i6, i7, i8⟩ := id hR
  obtain ⟨a1, a2, a3, a4, a5, a6⟩ := id hM
  have o80 := ho.1.1
  have e80 : μ (m + 1) 80 = nI (S.1 80) := by have := a1.2 80 (by omega) (by omega); rwa [Nat.zero_add] at this
  refine nX9_lines hl (fun x hC hQ => ?_)
  refine eX9_lines_0 hC ?_
  refine eX9_lines_1 hC ?_
  refine eX9_lines_2 hC (by assumption) ?_
  refine eX9_lines_5 hC ?_
  refine eX9_lines_6 hC (Nat.le_of_ble_eq_true rfl) (Nat.le_of_ble_eq_true rfl) (Nat.le_of_ble_eq_true rfl) (by assumption) (vX9_now hC.nt hR hM.up4 ho) (zk_v (fun μ_6 m_6 => ?_))
  refine eX9_lines_9 hC ?_
  refine eX9_lines_10 hC ?_
  obtain ⟨n1, n2, n3⟩ := m_6
  refine eX9_lines_11 hC (Nat.le_of_ble_eq_true rfl) (Nat.le_of_ble_eq_true rfl) (Nat.le_of_ble_eq_true rfl) (by assumption) (vX9_manyLines hC.nt hR n2.x ho.1 n1) (zk_i ?_)
  refine eX9_lines_14 hC hQ (Nat.le_of_ble_eq_true rfl) (Nat.le_of_ble_eq_true rfl) ?_
  exact zN9.nw rfl (zAg.up (by omega)) (zup_self _ _ _ _) n2 n3
set_option maxHeartbeats 4000000 in
theorem vX9_stairs {l : Launch} {g : zG} (hl : l.stackTraces = false) {K : zK} {μ : zF} {m : Nat} {S : zMs} (hR : zRef K m) (hM : zM9 μ m S) (ho : zMok S) : EX9_stairs l g 0 0 [.ref m] K μ (zN9 zc1 (zdo_stairs S) K μ m S) := by
  obtain ⟨h0, h1, h2, h3, h4, h5, h6, h7, h8, i1, i2, i3, i4, i5, i6, i7, i8⟩ := id hR
  obtain ⟨a1, a2, a3, a4, a5, a6⟩ := id hM
  have o80 := ho.1.1
  have e80 : μ (m + 1) 80 = nI (S.1 80) := by have := a1.2 80 (by omega) (by omega); rwa [Nat.zero_add] at this
  refine nX9_stairs hl (fun x hC hQ => ?_)
  refine eX9_stairs_0 hC ?_
  refine eX9_stairs_1 hC ?_
  refine eX9_stairs_2 hC (by assumption) ?_
  refine eX9_stairs_5 hC ?_
  refine eX9_stairs_6 hC (Nat.le_of_ble_eq_true rfl) (Nat.le_of_ble_eq_true rfl) (Nat.le_of_ble_eq_true rfl) (by assumption) (vX9_now hC.nt hR hM.up4 ho) (zk_v (fun μ_6 m_6 => ?_))
  refine eX9_stairs_9 hC ?_
  refine eX9_stairs_10 hC ?_
  obtain ⟨n1, n2, n3⟩ := m_6
  refine eX9_stairs_11 hC (Nat.le_of_ble_eq_true rfl) (Nat.le_of_ble_eq_true rfl) (Nat.le_of_ble_eq_true rfl) (by assumption) (vX9_manyStairs hC.nt hR n2.x ho.1 n1) (zk_i ?_)
  refine eX9_stairs_14 hC hQ (Nat.le_of_ble_eq_true rfl) (Nat.le_of_ble_eq_true rfl) ?_
  exact zN9.nw rfl (zAg.up (by omega)) (zup_self _ _ _ _) n2 n3
set_option maxHeartbeats 4000000 in
theorem vX9_cost {l : Launch} {g : zG} (hl : l.stackTraces = false) {K : zK} {μ : zF} {m : Nat} {S : zMs} (hR : zRef K m) (hM : zM9 μ m S) (ho : zMok S) : EX9_cost l g 0 0 [.ref m] K μ (zN9 zc1 (zdo_cost S) K μ m S) := by
  obtain ⟨h0, h1, h2, h3, h4, h5, h6, h7, h8, i1, i2, i3, i4, i5, i6, i7, i8⟩ := id hR
  obtain ⟨a1, a2, a3, a4, a5, a6⟩ := id hM
  have o80 := ho.1.1
  have e80 : μ (m + 1) 80 = nI (S.1 80) := by have := a1.2 80 (by omega) (by omega); rwa [Nat.zero_add] at this
  refine nX9_cost hl (fun x hC hQ => ?_)
  refine eX9_cost_0 hC ?_
  refine eX9_cost_1 hC ?_
  refine eX9_cost_2 hC (by assumption) ?_
  refine eX9_cost_5 hC ?_
  refine eX9_cost_6 hC (Nat.le_of_ble_eq_true rfl) (Nat.le_of_ble_eq_true rfl) (Nat.le_of_ble_eq_true rfl) (by assumption) (vX9_now hC.nt hR hM.up4 ho) (zk_v (fun μ_6 m_6 => ?_))
  refine eX9_cost_9 hC hQ (Nat.le_of_ble_eq_true rfl) (Nat.le_of_ble_eq_true rfl) ?_
  obtain ⟨n1, n2, n3⟩ := m_6
  exact zN9.nw rfl (zAg.up (by omega)) (zup_self _ _ _ _) n2 n3
set_option maxHeartbeats 4000000 in
theorem vX9_paragraphs {l : Launch} {g : zG} (hl : l.stackTraces = false) {K : zK} {μ : zF} {m : Nat} {S : zMs} (hR : zRef K m) (hM : zM9 μ m S) (ho : zMok S) : EX9_paragraphs l g 0 0 [.ref m] K μ (zN9 zc1 (zdo_paragraphs S) K μ m S) := by
  obtain ⟨h0, h1, h2, h3, h4, h5, h6, h7, h8, i1, i2, i3, i4, i5, i6, i7, i8⟩ := id hR
  obtain ⟨a1, a2, a3, a4, a5, a6⟩ := id hM
  have o80 := ho.1.1
  have e80 : μ (m + 1) 80 = nI (S.1 80) := by have := a1.2 80 (by omega) (by omega); rwa [Nat.zero_add] at this
  refine nX9_paragraphs hl (fun x hC hQ => ?_)
  refine eX9_paragraphs_0 hC ?_
  refine eX9_paragraphs_1 hC ?_
  refine eX9_paragraphs_2 hC (by assumption) ?_
  refine eX9_paragraphs_5 hC ?_
  refine eX9_paragraphs_6 hC (Nat.le_of_ble_eq_true rfl) (Nat.le_of_ble_eq_true rfl) (Nat.le_of_ble_eq_true rfl) (by assumption) (vX9_manyParagraphs hC.nt hR hM.up4.x ho.1) (zk_i ?_)
  refine eX9_paragraphs_9 hC hQ (Nat.le_of_ble_eq_true rfl) (Nat.le_of_ble_eq_true rfl) ?_
  exact zN9.q rfl hM
set_option maxHeartbeats 4000000 in
theorem vX9_lineOf {l : Launch} {g : zG} (hl : l.stackTraces = false) {K : zK} {μ : zF} {m : Nat} {S : zMs} {i : Int32} (hR : zRef K m) (hM : zM9 μ m S) (ho : zMok S) : EX9_lineOf l g 0 0 [.ref m, .int i] K μ (zN9 zc1 (zdo_lineOf i S) K μ m S) := by
  obtain ⟨h0, h1, h2, h3, h4, h5, h6, h7, h8, i1, i2, i3, i4, i5, i6, i7, i8⟩ := id hR
  obtain ⟨a1, a2, a3, a4, a5, a6⟩ := id hM
  have o80 := ho.1.1
  have e80 : μ (m + 1) 80 = nI (S.1 80) := by have := a1.2 80 (by omega) (by omega); rwa [Nat.zero_add] at this
  refine nX9_lineOf hl (fun x hC hQ => ?_)
  by_cases q : ¬ i < 0 ∧ i < nI (S.1 80)
  · obtain ⟨k, rfl, hk, e⟩ := zix_in (f := fun k => .inl (nI (zlo S.1 (S.1 87) k), S)) (by omega) q
    refine eX9_lineOf_0 hC ?_
    refine eX9_lineOf_1 hC (Nat.le_of_ble_eq_true rfl) (Nat.le_of_ble_eq_true rfl) (Nat.le_of_ble_eq_true rfl) (by assumption) (vX9_now hC.nt hR hM ho) (zk_v (fun μ_1 m_1 => ?_))
    obtain ⟨n1, n2, n3⟩ := m_1
    refine eX9_lineOf_4 hC ?_
    refine eX9_lineOf_5 hC ?_
    refine eX9_lineOf_6 hC ?_
    refine eX9_lineOf_7 hC ?_
    refine eX9_lineOf_8 hC (Nat.le_of_ble_eq_true rfl) (Nat.le_of_ble_eq_true rfl) (Nat.le_of_ble_eq_true rfl) (by assumption) (vX9_isWord hC.nt hR (n2.c (by omega) (by omega)) (by omega)) (zk_i ?_)
    rw [zBv_t q]
    refine eX9_lineOf_11 hC ?_
    refine eX9_lineOf_12 hC ?_
    refine eX9_lineOf_13 hC (Nat.le_of_ble_eq_true rfl) (Nat.le_of_ble_eq_true rfl) (Nat.le_of_ble_eq_true rfl) (by assumption) (vX9_goV hC.nt h0 (r := 1) (t := 0) rfl rfl (by omega) (by omega) (by omega)) (zk_v (fun μ_13 m_13 => ?_))
    subst m_13
    refine eX9_lineOf_16 hC (fun zz => absurd zz zn10) (fun _ => ?_)
    refine eX9_lineOf_19 hC ?_
    refine eX9_lineOf_20 hC ?_
    refine eX9_lineOf_21 hC (Nat.le_of_ble_eq_true rfl) (Nat.le_of_ble_eq_true rfl) (Nat.le_of_ble_eq_true rfl) (by assumption) (vX9_lineAt hC.nt hR ho.1 n1.up4 hk) (zk_i ?_)
    refine eX9_lineOf_24 hC ?_
    refine eX9_lineOf_28 hC hQ (Nat.le_of_ble_eq_true rfl) (Nat.le_of_ble_eq_true rfl) ?_
    exact zN9.ny e n2 (zagnw n3)
  · refine eX9_lineOf_0 hC ?_
    refine eX9_lineOf_1 hC (Nat.le_of_ble_eq_true rfl) (Nat.le_of_ble_eq_true rfl) (Nat.le_of_ble_eq_true rfl) (by assumption) (vX9_now hC.nt hR hM ho) (zk_v (fun μ_1 m_1 => ?_))
    obtain ⟨n1, n2, n3⟩ := m_1
    refine eX9_lineOf_4 hC ?_
    refine eX9_lineOf_5 hC ?_
    refine eX9_lineOf_6 hC ?_
    refine eX9_lineOf_7 hC ?_
    refine eX9_lineOf_8 hC (Nat.le_of_ble_eq_true rfl) (Nat.le_of_ble_eq_true rfl) (Nat.le_of_ble_eq_true rfl) (by assumption) (vX9_isWord hC.nt hR (n2.c (by omega) (by omega)) (by omega)) (zk_i ?_)
    rw [zBv_f q]
    refine eX9_lineOf_11 hC ?_
    refine eX9_lineOf_12 hC ?_
    refine eX9_lineOf_13 hC (Nat.le_of_ble_eq_true rfl) (Nat.le_of_ble_eq_true rfl) (Nat.le_of_ble_eq_true rfl) (by assumption) (vX9_goV hC.nt h0 (a := 0) (r := 0) (t := 1) rfl rfl (by omega) (by omega) (by omega)) (zk_v (fun μ_13 m_13 => ?_))
    subst m_13
    refine eX9_lineOf_16 hC (fun _ => ?_) (fun zz => absurd zn00 zz)
    refine eX9_lineOf_27 hC ?_
    refine eX9_lineOf_28 hC hQ (Nat.le_of_ble_eq_true rfl) (Nat.le_of_ble_eq_true rfl) ?_
    exact zN9.nx (if_neg q) rfl n2 (zagnw n3)
set_option maxHeartbeats 4000000 in
theorem vX9_reason {l : Launch} {g : zG} (hl : l.stackTraces = false) {K : zK} {μ : zF} {m : Nat} {S : zMs} {i : Int32} (hR : zRef K m) (hM : zM9 μ m S) (ho : zMok S) : EX9_reason l g 0 0 [.ref m, .int i] K μ (zN9 zc1 (zdo_reason i S) K μ m S) := by
  obtain ⟨h0, h1, h2, h3, h4, h5, h6, h7, h8, i1, i2, i3, i4, i5, i6, i7, i8⟩ := id hR
  obtain ⟨a1, a2, a3, a4, a5, a6⟩ := id hM
  have o80 := ho.1.1
  have e80 : μ (m + 1) 80 = nI (S.1 80) := by have := a1.2 80 (by omega) (by omega); rwa [Nat.zero_add] at this
  refine nX9_reason hl (fun x hC hQ => ?_)
  by_cases q : ¬ i < 0 ∧ i < nI (S.1 80)
  · obtain ⟨k, rfl, hk, e⟩ := zix_in (f := fun k => .inl (nI (zre S.1 (S.1 87) k), S)) (by omega) q
    refine eX9_reason_0 hC ?_
    refine eX9_reason_1 hC (Nat.le_of_ble_eq_true rfl) (Nat.le_of_ble_eq_true rfl) (Nat.le_of_ble_eq_true rfl) (by assumption) (vX9_now hC.nt hR hM ho) (zk_v (fun μ_1 m_1 => ?_))
    obtain ⟨n1, n2, n3⟩ := m_1
    refine eX9_reason_4 hC ?_
    refine eX9_reason_5 hC ?_
    refine eX9_reason_6 hC ?_
    refine eX9_reason_7 hC ?_
    refine eX9_reason_8 hC (Nat.le_of_ble_eq_true rfl) (Nat.le_of_ble_eq_true rfl) (Nat.le_of_ble_eq_true rfl) (by assumption) (vX9_isWord hC.nt hR (n2.c (by omega) (by omega)) (by omega)) (zk_i ?_)
    rw [zBv_t q]
    refine eX9_reason_11 hC ?_
    refine eX9_reason_12 hC ?_
    refine eX9_reason_13 hC (Nat.le_of_ble_eq_true rfl) (Nat.le_of_ble_eq_true rfl) (Nat.le_of_ble_eq_true rfl) (by assumption) (vX9_goV hC.nt h0 (r := 1) (t := 0) rfl rfl (by omega) (by omega) (by omega)) (zk_v (fun μ_13 m_13 => ?_))
    subst m_13
    refine eX9_reason_16 hC (fun zz => absurd zz zn10) (fun _ => ?_)
    refine eX9_reason_19 hC ?_
    refine eX9_reason_20 hC ?_
    refine eX9_reason_21 hC (Nat.le_of_ble_eq_true rfl) (Nat.le_of_ble_eq_true rfl) (Nat.le_of_ble_eq_true rfl) (by assumption) (vX9_reasonOf hC.nt hR n2.up4.x (n2.up4.c (by omega) (by omega)) ho.1 n1.up4 hk) (zk_i ?_)
    refine eX9_reason_24 hC ?_
    refine eX9_reason_28 hC hQ (Nat.le_of_ble_eq_true rfl) (Nat.le_of_ble_eq_true rfl) ?_
    exact zN9.ny e n2 (zagnw n3)
  · refine eX9_reason_0 hC ?_
    refine eX9_reason_1 hC (Nat.le_of_ble_eq_true rfl) (Nat.le_of_ble_eq_true rfl) (Nat.le_of_ble_eq_true rfl) (by assumption) (vX9_now hC.nt hR hM ho) (zk_v (fun μ_1 m_1 => ?_))
    obtain ⟨n1, n2, n3⟩ := m_1
    refine eX9_reason_4 hC ?_
    refine eX9_reason_5 hC ?_
    refine eX9_reason_6 hC ?_
    refine eX9_reason_7 hC ?_
    refine eX9_reason_8 hC (Nat.le_of_ble_eq_true rfl) (Nat.le_of_ble_eq_true rfl) (Nat.le_of_ble_eq_true rfl) (by assumption) (vX9_isWord hC.nt hR (n2.c (by omega) (by omega)) (by omega)) (zk_i ?_)
    rw [zBv_f q]
    refine eX9_reason_11 hC ?_
    refine eX9_reason_12 hC ?_
    refine eX9_reason_13 hC (Nat.le_of_ble_eq_true rfl) (Nat.le_of_ble_eq_true rfl) (Nat.le_of_ble_eq_true rfl) (by assumption) (vX9_goV hC.nt h0 (a := 0) (r := 0) (t := 1) rfl rfl (by omega) (by omega) (by omega)) (zk_v (fun μ_13 m_13 => ?_))
    subst m_13
    refine eX9_reason_16 hC (fun _ => ?_) (fun zz => absurd zn00 zz)
    refine eX9_reason_27 hC ?_
    refine eX9_reason_28 hC hQ (Nat.le_of_ble_eq_true rfl) (Nat.le_of_ble_eq_true rfl) ?_
    exact zN9.nx (if_neg q) rfl n2 (zagnw n3)
set_option maxHeartbeats 4000000 in
theorem vX9_firstWord {l : Launch} {g : zG} (hl : l.stackTraces = false) {K : zK} {μ : zF} {m : Nat} {S : zMs} {i : Int32} (hR : zRef K m) (hM : zM9 μ m S) (ho : zMok S) : EX9_firstWord l g 0 0 [.ref m, .int i] K μ (zN9 zc1 (zdo_firstWord i S) K μ m S) := by
  obtain ⟨h0, h1, h2, h3, h4, h5, h6, h7, h8, i1, i2, i3, i4, i5, i6, i7, i8⟩ := id hR
  obtain ⟨a1, a2, a3, a4, a5, a6⟩ := id hM
  have o80 := ho.1.1
  have e80 : μ (m + 1) 80 = nI (S.1 80) := by have := a1.2 80 (by omega) (by omega); rwa [Nat.zero_add] at this
  refine nX9_firstWord hl (fun x hC hQ => ?_)
  have hzm := (zm_is S.1 (S.1 87)).1
  by_cases q : ¬ i < 0 ∧ i < nI (zm S.1 (S.1 87))
  · obtain ⟨k, rfl, hk, e⟩ := zix_in (f := fun k => .inl (nI (zL S.1 (S.1 87) k), S)) (by omega) q
    refine eX9_firstWord_0 hC ?_
    refine eX9_firstWord_1 hC ?_
    refine eX9_firstWord_2 hC ?_
    refine eX9_firstWord_3 hC (Nat.le_of_ble_eq_true rfl) (Nat.le_of_ble_eq_true rfl) (Nat.le_of_ble_eq_true rfl) (by assumption) (vX9_isLine hC.nt hR hM ho) (zk_v (fun μ_3 m_3 => ?_))
    obtain ⟨n1, n2, n3⟩ := m_3
    rw [zBv_t q]
    refine eX9_firstWord_6 hC ?_
    refine eX9_firstWord_7 hC ?_
    refine eX9_firstWord_8 hC (Nat.le_of_ble_eq_true rfl) (Nat.le_of_ble_eq_true rfl) (Nat.le_of_ble_eq_true rfl) (by assumption) (vX9_goV hC.nt h0 (r := 1) (t := 0) rfl rfl (by omega) (by omega) (by omega)) (zk_v (fun μ_8 m_8 => ?_))
    subst m_8
    refine eX9_firstWord_11 hC (fun zz => absurd zz zn10) (fun _ => ?_)
    refine eX9_firstWord_14 hC ?_
    refine eX9_firstWord_15 hC ?_
    refine eX9_firstWord_16 hC (Nat.le_of_ble_eq_true rfl) (Nat.le_of_ble_eq_true rfl) (Nat.le_of_ble_eq_true rfl) (by assumption) (vX9_first hC.nt hR ho.1 n1.up4 (by omega)) (zk_i ?_)
    refine eX9_firstWord_19 hC ?_
    refine eX9_firstWord_23 hC hQ (Nat.le_of_ble_eq_true rfl) (Nat.le_of_ble_eq_true rfl) ?_
    exact zN9.ny e n2 (zagnw n3)
  · refine eX9_firstWord_0 hC ?_
    refine eX9_firstWord_1 hC ?_
    refine eX9_firstWord_2 hC ?_
    refine eX9_firstWord_3 hC (Nat.le_of_ble_eq_true rfl) (Nat.le_of_ble_eq_true rfl) (Nat.le_of_ble_eq_true rfl) (by assumption) (vX9_isLine hC.nt hR hM ho) (zk_v (fun μ_3 m_3 => ?_))
    obtain ⟨n1, n2, n3⟩ := m_3
    rw [zBv_f q]
    refine eX9_firstWord_6 hC ?_
    refine eX9_firstWord_7 hC ?_
    refine eX9_firstWord_8 hC (Nat.le_of_ble_eq_true rfl) (Nat.le_of_ble_eq_true rfl) (Nat.le_of_ble_eq_true rfl) (by assumption) (vX9_goV hC.nt h0 (a := 0) (r := 0) (t := 1) rfl rfl (by omega) (by omega) (by omega)) (zk_v (fun μ_8 m_8 => ?_))
    subst m_8
    refine eX9_firstWord_11 hC (fun _ => ?_) (fun zz => absurd zn00 zz)
    refine eX9_firstWord_22 hC ?_
    refine eX9_firstWord_23 hC hQ (Nat.le_of_ble_eq_true rfl) (Nat.le_of_ble_eq_true rfl) ?_
    exact zN9.nx (if_neg q) rfl n2 (zagnw n3)
set_option maxHeartbeats 4000000 in
theorem vX9_stairAt {l : Launch} {g : zG} (hl : l.stackTraces = false) {K : zK} {μ : zF} {m : Nat} {S : zMs} {i : Int32} (hR : zRef K m) (hM : zM9 μ m S) (ho : zMok S) : EX9_stairAt l g 0 0 [.ref m, .int i] K μ (zN9 zc1 (zdo_stairAt i S) K μ m S) := by
  obtain ⟨h0, h1, h2, h3, h4, h5, h6, h7, h8, i1, i2, i3, i4, i5, i6, i7, i8⟩ := id hR
  obtain ⟨a1, a2, a3, a4, a5, a6⟩ := id hM
  have o80 := ho.1.1
  have e80 : μ (m + 1) 80 = nI (S.1 80) := by have := a1.2 80 (by omega) (by omega); rwa [Nat.zero_add] at this
  refine nX9_stairAt hl (fun x hC hQ => ?_)
  have hzm := (zm_is S.1 (S.1 87)).1
  by_cases q : ¬ i < 0 ∧ i < nI (zm S.1 (S.1 87))
  · obtain ⟨k, rfl, hk, e⟩ := zix_in (f := fun k => .inl (nI (zsa S.1 (S.1 87) k) - nI 1, S)) (by omega) q
    refine eX9_stairAt_0 hC ?_
    refine eX9_stairAt_1 hC ?_
    refine eX9_stairAt_2 hC ?_
    refine eX9_stairAt_3 hC (Nat.le_of_ble_eq_true rfl) (Nat.le_of_ble_eq_true rfl) (Nat.le_of_ble_eq_true rfl) (by assumption) (vX9_isLine hC.nt hR hM ho) (zk_v (fun μ_3 m_3 => ?_))
    obtain ⟨n1, n2, n3⟩ := m_3
    rw [zBv_t q]
    refine eX9_stairAt_6 hC ?_
    refine eX9_stairAt_7 hC ?_
    refine eX9_stairAt_8 hC (Nat.le_of_ble_eq_true rfl) (Nat.le_of_ble_eq_true rfl) (Nat.le_of_ble_eq_true rfl) (by assumption) (vX9_goV hC.nt h0 (r := 1) (t := 0) rfl rfl (by omega) (by omega) (by omega)) (zk_v (fun μ_8 m_8 => ?_))
    subst m_8
    refine eX9_stairAt_11 hC (fun zz => absurd zz zn10) (fun _ => ?_)
    refine eX9_stairAt_14 hC ?_
    refine eX9_stairAt_15 hC ?_
    refine eX9_stairAt_16 hC (Nat.le_of_ble_eq_true rfl) (Nat.le_of_ble_eq_true rfl) (Nat.le_of_ble_eq_true rfl) (by assumption) (vX9_stairOver hC.nt hR n2.up4.x ho.1 n1.up4 hk) (zk_i ?_)
    refine eX9_stairAt_19 hC ?_
    refine eX9_stairAt_23 hC hQ (Nat.le_of_ble_eq_true rfl) (Nat.le_of_ble_eq_true rfl) ?_
    exact zN9.ny e n2 (zagnw n3)
  · refine eX9_stairAt_0 hC ?_
    refine eX9_stairAt_1 hC ?_
    refine eX9_stairAt_2 hC ?_
    refine eX9_stairAt_3 hC (Nat.le_of_ble_eq_true rfl) (Nat.le_of_ble_eq_true rfl) (Nat.le_of_ble_eq_true rfl) (by assumption) (vX9_isLine hC.nt hR hM ho) (zk_v (fun μ_3 m_3 => ?_))
    obtain ⟨n1, n2, n3⟩ := m_3
    rw [zBv_f q]
    refine eX9_stairAt_6 hC ?_
    refine eX9_stairAt_7 hC ?_
    refine eX9_stairAt_8 hC (Nat.le_of_ble_eq_true rfl) (Nat.le_of_ble_eq_true rfl) (Nat.le_of_ble_eq_true rfl) (by assumption) (vX9_goV hC.nt h0 (a := 0) (r := 0) (t := 1) rfl rfl (by omega) (by omega) (by omega)) (zk_v (fun μ_8 m_8 => ?_))
    subst m_8
    refine eX9_stairAt_11 hC (fun _ => ?_) (fun zz => absurd zn00 zz)
    refine eX9_stairAt_22 hC ?_
    refine eX9_stairAt_23 hC hQ (Nat.le_of_ble_eq_true rfl) (Nat.le_of_ble_eq_true rfl) ?_
    exact zN9.nx (if_neg q) rfl n2 (zagnw n3)
set_option maxHeartbeats 4000000 in
theorem vX9_lineWidth {l : Launch} {g : zG} (hl : l.stackTraces = false) {K : zK} {μ : zF} {m : Nat} {S : zMs} {i : Int32} (hR : zRef K m) (hM : zM9 μ m S) (ho : zMok S) : EX9_lineWidth l g 0 0 [.ref m, .int i] K μ (zN9 zc1 (zdo_lineWidth i S) K μ m S) := by
  obtain ⟨h0, h1, h2, h3, h4, h5, h6, h7, h8, i1, i2, i3, i4, i5, i6, i7, i8⟩ := id hR
  obtain ⟨a1, a2, a3, a4, a5, a6⟩ := id hM
  have o80 := ho.1.1
  have e80 : μ (m + 1) 80 = nI (S.1 80) := by have := a1.2 80 (by omega) (by omega); rwa [Nat.zero_add] at this
  refine nX9_lineWidth hl (fun x hC hQ => ?_)
  have hzm := (zm_is S.1 (S.1 87)).1
  by_cases q : ¬ i < 0 ∧ i < nI (zm S.1 (S.1 87))
  · obtain ⟨k, rfl, hk, e⟩ := zix_in (f := fun k => .inl (nI (zlw S.1 (S.1 87) k), S)) (by omega) q
    refine eX9_lineWidth_0 hC ?_
    refine eX9_lineWidth_1 hC ?_
    refine eX9_lineWidth_2 hC ?_
    refine eX9_lineWidth_3 hC (Nat.le_of_ble_eq_true rfl) (Nat.le_of_ble_eq_true rfl) (Nat.le_of_ble_eq_true rfl) (by assumption) (vX9_isLine hC.nt hR hM ho) (zk_v (fun μ_3 m_3 => ?_))
    obtain ⟨n1, n2, n3⟩ := m_3
    rw [zBv_t q]
    refine eX9_lineWidth_6 hC ?_
    refine eX9_lineWidth_7 hC ?_
    refine eX9_lineWidth_8 hC (Nat.le_of_ble_eq_true rfl) (Nat.le_of_ble_eq_true rfl) (Nat.le_of_ble_eq_true rfl) (by assumption) (vX9_goV hC.nt h0 (r := 1) (t := 0) rfl rfl (by omega) (by omega) (by omega)) (zk_v (fun μ_8 m_8 => ?_))
    subst m_8
    refine eX9_lineWidth_11 hC (fun zz => absurd zz zn10) (fun _ => ?_)
    refine eX9_lineWidth_14 hC ?_
    refine eX9_lineWidth_15 hC ?_
    refine eX9_lineWidth_16 hC ?_
    refine eX9_lineWidth_17 hC (Nat.le_of_ble_eq_true rfl) (Nat.le_of_ble_eq_true rfl) (Nat.le_of_ble_eq_true rfl) (by assumption) (vX9_first hC.nt hR ho.1 n1.up4 (by omega)) (zk_i ?_)
    refine eX9_lineWidth_20 hC ?_
    refine eX9_lineWidth_21 hC ?_
    refine eX9_lineWidth_22 hC ?_
    refine eX9_lineWidth_23 hC ?_
    rw [nI_add]
    refine eX9_lineWidth_24 hC (Nat.le_of_ble_eq_true rfl) (Nat.le_of_ble_eq_true rfl) (Nat.le_of_ble_eq_true rfl) (by assumption) (vX9_first hC.nt hR ho.1 n1.up4 (by omega)) (zk_i ?_)
    refine eX9_lineWidth_27 hC (Nat.le_of_ble_eq_true rfl) (Nat.le_of_ble_eq_true rfl) (Nat.le_of_ble_eq_true rfl) (by assumption) (vX9_width hC.nt hR n2.up4.x n1.up4.1 ho.1 (zL_lt (zm_iff.mp hk)) (zL_le _ _ _)) (zk_i ?_)
    refine eX9_lineWidth_30 hC ?_
    refine eX9_lineWidth_34 hC hQ (Nat.le_of_ble_eq_true rfl) (Nat.le_of_ble_eq_true rfl) ?_
    exact zN9.ny e n2 (zagnw n3)
  · refine eX9_lineWidth_0 hC ?_
    refine eX9_lineWidth_1 hC ?_
    refine eX9_lineWidth_2 hC ?_
    refine eX9_lineWidth_3 hC (Nat.le_of_ble_eq_true rfl) (Nat.le_of_ble_eq_true rfl) (Nat.le_of_ble_eq_true rfl) (by assumption) (vX9_isLine hC.nt hR hM ho) (zk_v (fun μ_3 m_3 => ?_))
    obtain ⟨n1, n2, n3⟩ := m_3
    rw [zBv_f q]
    refine eX9_lineWidth_6 hC ?_
    refine eX9_lineWidth_7 hC ?_
    refine eX9_lineWidth_8 hC (Nat.le_of_ble_eq_true rfl) (Nat.le_of_ble_eq_true rfl) (Nat.le_of_ble_eq_true rfl) (by assumption) (vX9_goV hC.nt h0 (a := 0) (r := 0) (t := 1) rfl rfl (by omega) (by omega) (by omega)) (zk_v (fun μ_8 m_8 => ?_))
    subst m_8
    refine eX9_lineWidth_11 hC (fun _ => ?_) (fun zz => absurd zn00 zz)
    refine eX9_lineWidth_33 hC ?_
    refine eX9_lineWidth_34 hC hQ (Nat.le_of_ble_eq_true rfl) (Nat.le_of_ble_eq_true rfl) ?_
    exact zN9.nx (if_neg q) rfl n2 (zagnw n3)
/-! ===== the reference: pages ===== -/
theorem zSx.up {μ : zF} {m a k : Nat} {τ : Nat → Nat} {v : Int32} (h : zSx μ m τ) (ha : a ≠ m + 1) : zSx (zup μ a k v) m τ := h.eq (fun j => zup_a _ _ _ _ (Ne.symm ha))
theorem zNw.eq {μ μ' : zF} {m md : Nat} {τ : Nat → Nat} (h : zNw μ m τ md) (h3 : ∀ j, μ' (m + 3) j = μ (m + 3) j) (h4 : ∀ j, μ' (m + 4) j = μ (m + 4) j) : zNw μ' m τ md := ⟨h.1.eq h4, fun j hj => (h3 j).trans (h.2 j hj)⟩
set_option maxHeartbeats 8000000 in
theorem vX9_turns {l : Launch} {g : zG} (hl : l.stackTraces = false) {K : zK} {μ : zF} {m md : Nat} {τ : Nat → Nat} (hR : zRef K m) (hx : zSx μ m τ) (ho : zOk τ) (hN : zNw μ m τ md) : EX9_turns l g 0 0 [.ref m] K μ (zPv (nI (zpm τ md)) K (fun μ' => (∀ j, j < zm τ md → μ' (m + 8) j = nI (zpo τ md j)) ∧ ∀ a j, a ≠ m + 8 → μ' a j = μ a j)) := by
  obtain ⟨h0, h1, h2, h3, h4, h5, h6, h7, h8, i1, i2, i3, i4, i5, i6, i7, i8⟩ := id hR
  have o1 := ho.1
  have o86 := ho.2.2.2.2.2.2.2.2.1
  have hzm := (zm_is τ md).1
  have g := zpx_ok ho md
  obtain ⟨g1, g2, g3⟩ := gM_is g
  refine nX9_turns hl (fun x hC hQ => ?_)
  have outer : ∀ (d n : Nat) (μ1 : zF), n + d = zpm τ md → (∀ j, j < zP τ md n → μ1 (m + 8) j = nI (zpo τ md j)) → (∀ a j, a ≠ m + 8 → μ1 a j = μ a j) → zV x 0 0 9 [some (.ref m), some (.int (nI (zm τ md))), some (.int (nI n)), some (.int (nI (zP τ md n))), none] [] K μ1 := by
    intro d
    induction d with
    | zero =>
      intro n μ1 hn hp hf
      have hn : n = zpm τ md := by omega
      have e : zP τ md n = zm τ md := by rw [hn]; exact g2
      rw [e] at hp ⊢
      refine eX9_turns_9 hC ?_
      refine eX9_turns_10 hC ?_
      refine eX9_turns_11 hC (fun _ => ?_) (fun zz => absurd (nI_le (Nat.le_refl _) (by omega)) zz)
      refine eX9_turns_92 hC ?_
      refine eX9_turns_93 hC hQ (Nat.le_of_ble_eq_true rfl) (Nat.le_of_ble_eq_true rfl) ?_
      exact ⟨by rw [hn], rfl, hp, hf⟩
    | succ d ih =>
      intro n μ1 hn hp hf
      have hx1 := hx.eq (fun j => hf (m + 1) j (by omega))
      have hN1 := hN.eq (fun j => hf (m + 3) j (by omega)) (fun j => hf (m + 4) j (by omega))
      have hlt : zP τ md n < zm τ md := (gM_iff g).mp (by unfold zpm at hn; omega)
      have hnx : zP τ md (n + 1) = zpx τ md (zP τ md n) := gC_next hlt
      have hok := g _ hlt
      rw [← hnx] at hok
      have e86 := hx1.2 86 (by omega) (by omega) (by omega)
      have hzpm : zpm τ md ≤ zm τ md := g1
      have inner : ∀ (e j : Nat) (μ2 : zF), j + e = zP τ md (n + 1) → zP τ md n ≤ j → (∀ i, i < j → μ2 (m + 8) i = nI (zpo τ md i)) → (∀ a j, a ≠ m + 8 → μ2 a j = μ a j) → zV x 0 0 67 [some (.ref m), some (.int (nI (zm τ md))), some (.int (nI n)), some (.int (nI j)), some (.int (nI (zP τ md (n + 1))))] [] K μ2 := by
        intro e
        induction e with
        | zero =>
          intro j μ2 hj hnj hp2 hf2
          obtain rfl : j = zP τ md (n + 1) := by omega
          refine eX9_turns_67 hC ?_
          refine eX9_turns_68 hC ?_
          refine eX9_turns_70 hC (fun _ => ?_) (fun zz => absurd (nI_le (Nat.le_refl _) (by omega)) zz)
          refine eX9_turns_86 hC ?_
          rw [nI_add]
          refine eX9_turns_89 hC ?_
          exact zV.fg (by simp [zFg]) (ih (n + 1) μ2 (by omega) hp2 hf2)
        | succ e ih2 =>
          intro j μ2 hj hnj hp2 hf2
          have hpo : zpo τ md j = n := gO_eq g (by omega) hnj (by show j < zP τ md (n + 1); omega)
          refine eX9_turns_67 hC ?_
          refine eX9_turns_68 hC ?_
          refine eX9_turns_70 hC (fun zz => absurd zz (nI_ge (by omega) (by omega))) (fun _ => ?_)
          refine eX9_turns_73 hC ?_
          refine eX9_turns_74 hC (by assumption) (by assumption) ?_
          refine eX9_turns_77 hC ?_
          refine eX9_turns_78 hC ?_
          refine eX9_turns_79 hC (by assumption) (vp_in_nI (by omega) (by omega)) ?_
          rw [nI_clamp (by omega)]
          refine eX9_turns_80 hC ?_
          rw [nI_add]
          refine eX9_turns_83 hC ?_
          refine ih2 (j + 1) _ (by omega) (by omega) (fun i hi => ?_) (fun a j z => (zup_a _ _ _ _ z).trans (hf2 a j z))
          by_cases c : i = j
          · subst c; rw [zup_self, hpo]
          · rw [zup_k _ _ _ c]; exact hp2 i (by omega)
      have go : zV x 0 0 67 [some (.ref m), some (.int (nI (zm τ md))), some (.int (nI n)), some (.int (nI (zP τ md n))), some (.int (nI (zP τ md (n + 1))))] [] K μ1 := inner (zP τ md (n + 1) - zP τ md n) (zP τ md n) μ1 (by omega) (Nat.le_refl _) hp hf
      by_cases c1 : zP τ md n + τ 86 < zm τ md
      · by_cases c2 : zop τ md (zP τ md n + τ 86 - 1)
        · have hz : zpx τ md (zP τ md n) = zP τ md n + τ 86 - 1 := by unfold zpx; rw [if_pos c1, zif_t (Or.inl c2)]
          rw [hnx, hz] at go
          refine eX9_turns_9 hC ?_
          refine eX9_turns_10 hC ?_
          refine eX9_turns_11 hC (fun zz => absurd zz (nI_ge hlt (by omega))) (fun _ => ?_)
          refine eX9_turns_14 hC ?_
          refine eX9_turns_15 hC ?_
          refine eX9_turns_16 hC (by assumption) (by assumption) ?_
          refine eX9_turns_19 hC ?_
          refine eX9_turns_21 hC (by assumption) (vp_in_nI (by omega) (by omega)) ?_
          rw [nI_clamp (by omega), e86]
          refine eX9_turns_22 hC ?_
          rw [nI_add]
          refine eX9_turns_23 hC ?_
          refine eX9_turns_25 hC ?_
          refine eX9_turns_27 hC ?_
          refine eX9_turns_28 hC (fun zz => absurd zz (nI_ge c1 (by omega))) (fun _ => ?_)
          refine eX9_turns_31 hC ?_
          refine eX9_turns_33 hC ?_
          refine eX9_turns_34 hC ?_
          refine eX9_turns_36 hC ?_
          refine eX9_turns_37 hC ?_
          rw [nI_sub (by omega)]
          refine eX9_turns_38 hC (Nat.le_of_ble_eq_true rfl) (Nat.le_of_ble_eq_true rfl) (Nat.le_of_ble_eq_true rfl) (by assumption) (vX9_isFirst hC.nt hR hx1 ho hN1 (by omega)) (zk_i ?_)
          rw [zBv_t c2]
          refine eX9_turns_41 hC (fun _ => ?_) (fun zz => absurd zz zn10)
          refine eX9_turns_53 hC ?_
          refine eX9_turns_54 hC ?_
          refine eX9_turns_58 hC ?_
          rw [nI_sub (by omega)]
          refine eX9_turns_59 hC ?_
          refine eX9_turns_61 hC ?_
          exact go
        · by_cases c3 : zcl τ md (zP τ md n + τ 86)
          · have hz : zpx τ md (zP τ md n) = zP τ md n + τ 86 - 1 := by unfold zpx; rw [if_pos c1, zif_t (Or.inr c3)]
            rw [hnx, hz] at go
            refine eX9_turns_9 hC ?_
            refine eX9_turns_10 hC ?_
            refine eX9_turns_11 hC (fun zz => absurd zz (nI_ge hlt (by omega))) (fun _ => ?_)
            refine eX9_turns_14 hC ?_
            refine eX9_turns_15 hC ?_
            refine eX9_turns_16 hC (by assumption) (by assumption) ?_
            refine eX9_turns_19 hC ?_
            refine eX9_turns_21 hC (by assumption) (vp_in_nI (by omega) (by omega)) ?_
            rw [nI_clamp (by omega), e86]
            refine eX9_turns_22 hC ?_
            rw [nI_add]
            refine eX9_turns_23 hC ?_
            refine eX9_turns_25 hC ?_
            refine eX9_turns_27 hC ?_
            refine eX9_turns_28 hC (fun zz => absurd zz (nI_ge c1 (by omega))) (fun _ => ?_)
            refine eX9_turns_31 hC ?_
            refine eX9_turns_33 hC ?_
            refine eX9_turns_34 hC ?_
            refine eX9_turns_36 hC ?_
            refine eX9_turns_37 hC ?_
            rw [nI_sub (by omega)]
            refine eX9_turns_38 hC (Nat.le_of_ble_eq_true rfl) (Nat.le_of_ble_eq_true rfl) (Nat.le_of_ble_eq_true rfl) (by assumption) (vX9_isFirst hC.nt hR hx1 ho hN1 (by omega)) (zk_i ?_)
            rw [zBv_f c2]
            refine eX9_turns_41 hC (fun zz => absurd zn00 zz) (fun _ => ?_)
            refine eX9_turns_44 hC ?_
            refine eX9_turns_45 hC ?_
            refine eX9_turns_47 hC (Nat.le_of_ble_eq_true rfl) (Nat.le_of_ble_eq_true rfl) (Nat.le_of_ble_eq_true rfl) (by assumption) (vX9_isLast hC.nt hR hx1 ho hN1 (by omega)) (zk_i ?_)
            rw [zBv_t c3]
            refine eX9_turns_50 hC (fun zz => absurd zz zn10) (fun _ => ?_)
            refine eX9_turns_53 hC ?_
            refine eX9_turns_54 hC ?_
            refine eX9_turns_58 hC ?_
            rw [nI_sub (by omega)]
            refine eX9_turns_59 hC ?_
            refine eX9_turns_61 hC ?_
            exact go
          · have hz : zpx τ md (zP τ md n) = zP τ md n + τ 86 := by unfold zpx; rw [if_pos c1, zif_f (fun z => z.elim c2 c3)]
            rw [hnx, hz] at go
            refine eX9_turns_9 hC ?_
            refine eX9_turns_10 hC ?_
            refine eX9_turns_11 hC (fun zz => absurd zz (nI_ge hlt (by omega))) (fun _ => ?_)
            refine eX9_turns_14 hC ?_
            refine eX9_turns_15 hC ?_
            refine eX9_turns_16 hC (by assumption) (by assumption) ?_
            refine eX9_turns_19 hC ?_
            refine eX9_turns_21 hC (by assumption) (vp_in_nI (by omega) (by omega)) ?_
            rw [nI_clamp (by omega), e86]
            refine eX9_turns_22 hC ?_
            rw [nI_add]
            refine eX9_turns_23 hC ?_
            refine eX9_turns_25 hC ?_
            refine eX9_turns_27 hC ?_
            refine eX9_turns_28 hC (fun zz => absurd zz (nI_ge c1 (by omega))) (fun _ => ?_)
            refine eX9_turns_31 hC ?_
            refine eX9_turns_33 hC ?_
            refine eX9_turns_34 hC ?_
            refine eX9_turns_36 hC ?_
            refine eX9_turns_37 hC ?_
            rw [nI_sub (by omega)]
            refine eX9_turns_38 hC (Nat.le_of_ble_eq_true rfl) (Nat.le_of_ble_eq_true rfl) (Nat.le_of_ble_eq_true rfl) (by assumption) (vX9_isFirst hC.nt hR hx1 ho hN1 (by omega)) (zk_i ?_)
            rw [zBv_f c2]
            refine eX9_turns_41 hC (fun zz => absurd zn00 zz) (fun _ => ?_)
            refine eX9_turns_44 hC ?_
            refine eX9_turns_45 hC ?_
            refine eX9_turns_47 hC (Nat.le_of_ble_eq_true rfl) (Nat.le_of_ble_eq_true rfl) (Nat.le_of_ble_eq_true rfl) (by assumption) (vX9_isLast hC.nt hR hx1 ho hN1 (by omega)) (zk_i ?_)
            rw [zBv_f c3]
            refine eX9_turns_50 hC (fun _ => ?_) (fun zz => absurd zn00 zz)
            refine eX9_turns_57 hC ?_
            refine eX9_turns_58 hC ?_
            rw [nI_sub (by omega), Nat.sub_zero]
            refine eX9_turns_59 hC ?_
            refine eX9_turns_61 hC ?_
            exact go
      · have hz : zpx τ md (zP τ md n) = zm τ md := by unfold zpx; rw [if_neg c1]
        rw [hnx, hz] at go
        refine eX9_turns_9 hC ?_
        refine eX9_turns_10 hC ?_
        refine eX9_turns_11 hC (fun zz => absurd zz (nI_ge hlt (by omega))) (fun _ => ?_)
        refine eX9_turns_14 hC ?_
        refine eX9_turns_15 hC ?_
        refine eX9_turns_16 hC (by assumption) (by assumption) ?_
        refine eX9_turns_19 hC ?_
        refine eX9_turns_21 hC (by assumption) (vp_in_nI (by omega) (by omega)) ?_
        rw [nI_clamp (by omega), e86]
        refine eX9_turns_22 hC ?_
        rw [nI_add]
        refine eX9_turns_23 hC ?_
        refine eX9_turns_25 hC ?_
        refine eX9_turns_27 hC ?_
        refine eX9_turns_28 hC (fun _ => ?_) (fun zz => absurd (nI_le (by omega) (by omega)) zz)
        refine eX9_turns_64 hC ?_
        refine eX9_turns_65 hC ?_
        exact go
  refine eX9_turns_0 hC ?_
  refine eX9_turns_1 hC (Nat.le_of_ble_eq_true rfl) (Nat.le_of_ble_eq_true rfl) (Nat.le_of_ble_eq_true rfl) (by assumption) (vX9_manyLines hC.nt hR hx ho hN) (zk_i ?_)
  refine eX9_turns_4 hC ?_
  refine eX9_turns_5 hC ?_
  refine eX9_turns_6 hC ?_
  refine eX9_turns_7 hC ?_
  refine eX9_turns_8 hC ?_
  exact outer (zpm τ md) 0 μ (by omega) (fun j hj => absurd hj (Nat.not_lt_zero j)) (fun _ _ _ => rfl)
/-! counting pages by lines -/
theorem zpo_at {τ : Nat → Nat} (ho : zOk τ) {md k j : Nat} (hj : j < zm τ md) (h1 : zP τ md k ≤ j) (h2 : j < zP τ md (k + 1)) : zpo τ md j = k := gO_eq (zpx_ok ho md) hj h1 h2
theorem zct_pg {τ : Nat → Nat} (ho : zOk τ) (md : Nat) (R : Nat → Prop) : zct (fun l => l ≠ 0 ∧ zpo τ md l ≠ zpo τ md (l - 1) ∧ R l) (zm τ md) = zct (fun k => k ≠ 0 ∧ R (zP τ md k)) (zpm τ md) := by
  have g := zpx_ok ho md
  obtain ⟨g1, g2, g3⟩ := gM_is g
  have key : ∀ k, k ≤ zpm τ md → zct (fun l => l ≠ 0 ∧ zpo τ md l ≠ zpo τ md (l - 1) ∧ R l) (zP τ md k) = zct (fun k => k ≠ 0 ∧ R (zP τ md k)) k := by
    intro k
    induction k with
    | zero => intro _; rfl
    | succ k ih =>
      intro hk
      have ih := ih (by omega)
      have hlt : zP τ md k < zm τ md := g3 k hk
      have hn : zP τ md k < zP τ md (k + 1) := gC_lt g hlt
      have hle : zP τ md (k + 1) ≤ zm τ md := gC_le g (k + 1)
      have hQ : (zP τ md k ≠ 0 ∧ zpo τ md (zP τ md k) ≠ zpo τ md (zP τ md k - 1) ∧ R (zP τ md k)) ↔ (k ≠ 0 ∧ R (zP τ md k)) := by
        constructor
        · rintro ⟨q1, -, q3⟩
          refine ⟨fun z => q1 (by rw [z]; rfl), q3⟩
        · rintro ⟨q1, q2⟩
          obtain ⟨k', rfl⟩ : ∃ k', k = k' + 1 := ⟨k - 1, by omega⟩
          have hlt' : zP τ md k' < zP τ md (k' + 1) := gC_lt g (g3 k' (show k' < zpm τ md by omega))
          refine ⟨by omega, ?_, q2⟩
          rw [zpo_at ho hlt (Nat.le_refl _) hn, zpo_at ho (show zP τ md (k' + 1) - 1 < zm τ md by omega) (show zP τ md k' ≤ zP τ md (k' + 1) - 1 by omega) (by omega)]
          omega
      have h1 : zct (fun l => l ≠ 0 ∧ zpo τ md l ≠ zpo τ md (l - 1) ∧ R l) (zP τ md k + 1) = zct (fun k => k ≠ 0 ∧ R (zP τ md k)) (k + 1) := by
        by_cases c : k ≠ 0 ∧ R (zP τ md k)
        · rw [zct_t (p := fun l => l ≠ 0 ∧ zpo τ md l ≠ zpo τ md (l - 1) ∧ R l) (hQ.mpr c), zct_t (p := fun k => k ≠ 0 ∧ R (zP τ md k)) c, ih]
        · rw [zct_f (p := fun l => l ≠ 0 ∧ zpo τ md l ≠ zpo τ md (l - 1) ∧ R l) (fun z => c (hQ.mp z)), zct_f (p := fun k => k ≠ 0 ∧ R (zP τ md k)) c, ih]
      have h2 : ∀ d, zP τ md k + 1 + d ≤ zP τ md (k + 1) → zct (fun l => l ≠ 0 ∧ zpo τ md l ≠ zpo τ md (l - 1) ∧ R l) (zP τ md k + 1 + d) = zct (fun k => k ≠ 0 ∧ R (zP τ md k)) (k + 1) := by
        intro d
        induction d with
        | zero => intro _; exact h1
        | succ d ih2 =>
          intro hd
          rw [← Nat.add_assoc, zct_f (p := fun l => l ≠ 0 ∧ zpo τ md l ≠ zpo τ md (l - 1) ∧ R l) (fun z => z.2.1 (by
            rw [zpo_at ho (k := k) (show zP τ md k + 1 + d < zm τ md by omega) (by omega) (by omega), zpo_at ho (k := k) (show zP τ md k + 1 + d - 1 < zm τ md by omega) (by omega) (by omega)]))]
          exact ih2 (by omega)
      have h3 := h2 (zP τ md (k + 1) - (zP τ md k + 1)) (by omega)
      rw [show zP τ md k + 1 + (zP τ md (k + 1) - (zP τ md k + 1)) = zP τ md (k + 1) by omega] at h3
      exact h3
  have := key (zpm τ md) (Nat.le_refl _)
  rwa [show zP τ md (zpm τ md) = zm τ md from g2] at this
theorem zct_shift (f : Nat → Prop) : ∀ n, zct (fun k => k ≠ 0 ∧ f k) (n + 1) = zct (fun k => f (k + 1)) n
  | 0 => zct_f (p := fun k => k ≠ 0 ∧ f k) (fun z => z.1 rfl)
  | n + 1 => by
    have ih := zct_shift f n
    by_cases c : f (n + 1)
    · rw [zct_t (p := fun k => k ≠ 0 ∧ f k) (k := n + 1) ⟨by omega, c⟩, ih, zct_t (p := fun k => f (k + 1)) c]
    · rw [zct_f (p := fun k => k ≠ 0 ∧ f k) (k := n + 1) (fun z => c z.2), ih, zct_f (p := fun k => f (k + 1)) c]
theorem zct_wn {τ : Nat → Nat} (ho : zOk τ) (md : Nat) : zct (fun l => l ≠ 0 ∧ zpo τ md l ≠ zpo τ md (l - 1) ∧ zcl τ md l) (zm τ md) = zwn τ md := zct_pg ho md (zcl τ md)
theorem zct_on {τ : Nat → Nat} (ho : zOk τ) (md : Nat) : zct (fun l => l ≠ 0 ∧ zpo τ md l ≠ zpo τ md (l - 1) ∧ zop τ md (l - 1)) (zm τ md) = zon τ md := by
  rw [zct_pg ho md (fun l => zop τ md (l - 1))]
  unfold zon
  cases h : zpm τ md with
  | zero => rfl
  | succ n => exact zct_shift (fun k => zop τ md (zP τ md k - 1)) n
theorem zct_page {τ : Nat → Nat} (ho : zOk τ) {md p : Nat} (hp : p < zpm τ md) : zct (fun j => zpo τ md j = p) (zm τ md) = zP τ md (p + 1) - zP τ md p := by
  have g := zpx_ok ho md
  obtain ⟨g1, g2, g3⟩ := gM_is g
  have hlt : zP τ md p < zP τ md (p + 1) := gC_lt g (g3 p hp)
  have hle : zP τ md (p + 1) ≤ zm τ md := gC_le g (p + 1)
  have hiff : ∀ j, j < zm τ md → (zpo τ md j = p ↔ (zP τ md p ≤ j ∧ j < zP τ md (p + 1))) := fun j hj => by
    constructor
    · rintro rfl
      have := gO_is g hj
      exact ⟨this.2.1, this.2.2⟩
    · rintro ⟨q1, q2⟩
      exact zpo_at ho hj q1 q2
  have key : ∀ j, j ≤ zm τ md → zct (fun j => zpo τ md j = p) j = (if j ≤ zP τ md p then 0 else if j ≤ zP τ md (p + 1) then j - zP τ md p else zP τ md (p + 1) - zP τ md p) := by
    intro j
    induction j with
    | zero => intro _; rw [if_pos (by omega)]; rfl
    | succ j ih =>
      intro hj
      have ih := ih (by omega)
      by_cases c : zpo τ md j = p
      · have q := (hiff j (by omega)).mp c
        rw [zct_t (p := fun j => zpo τ md j = p) c, ih, if_neg (show ¬ j + 1 ≤ zP τ md p by omega), if_pos (show j + 1 ≤ zP τ md (p + 1) by omega)]
        by_cases c2 : j = zP τ md p
        · rw [if_pos (by omega)]; omega
        · rw [if_neg (by omega), if_pos (by omega)]; omega
      · have q : ¬ (zP τ md p ≤ j ∧ j < zP τ md (p + 1)) := fun z => c ((hiff j (by omega)).mpr z)
        rw [zct_f (p := fun j => zpo τ md j = p) c, ih]
        repeat' split
        all_goals omega
  rw [key _ (Nat.le_refl _), if_neg (by omega)]
  split <;> omega
set_option maxHeartbeats 8000000 in
theorem vX9_badW {l : Launch} {g : zG} (hl : l.stackTraces = false) {K : zK} {μ : zF} {m md : Nat} {τ : Nat → Nat} (hR : zRef K m) (hx : zSx μ m τ) (ho : zOk τ) (hN : zNw μ m τ md) (hp : ∀ j, j < zm τ md → μ (m + 8) j = nI (zpo τ md j)) : EX9_badTurns l g 0 0 [.ref m, .int (nI 1)] K μ (zPi (nI (zwn τ md)) K μ) := by
  obtain ⟨h0, h1, h2, h3, h4, h5, h6, h7, h8, i1, i2, i3, i4, i5, i6, i7, i8⟩ := id hR
  have o1 := ho.1
  have hzm := (zm_is τ md).1
  have gg := zpx_ok ho md
  have hpz := (gM_is gg).1
  have hq0 : zct (fun l => l ≠ 0 ∧ zpo τ md l ≠ zpo τ md (l - 1) ∧ zcl τ md l) 1 = 0 := zct_f (p := (fun l => l ≠ 0 ∧ zpo τ md l ≠ zpo τ md (l - 1) ∧ zcl τ md l)) (fun z => z.1 rfl)
  refine nX9_badTurns hl (fun x hC hQ => ?_)
  have loop : ∀ (d k : Nat), 1 ≤ k → (k + d = zm τ md ∨ (zm τ md = 0 ∧ k = 1 ∧ d = 0)) → zV x 0 0 4 [some (.ref m), some (.int (nI 1)), some (.int (nI (zct (fun l => l ≠ 0 ∧ zpo τ md l ≠ zpo τ md (l - 1) ∧ zcl τ md l) k))), some (.int (nI k)), none] [] K μ := by
    intro d
    induction d with
    | zero =>
      intro k hk1 hk
      have e : zct (fun l => l ≠ 0 ∧ zpo τ md l ≠ zpo τ md (l - 1) ∧ zcl τ md l) k = zwn τ md := by
        rcases hk with hk | ⟨z1, z2, -⟩
        · rw [show k = zm τ md by omega]; exact zct_wn ho md
        · rw [z2, hq0, ← zct_wn ho md, z1]; rfl
      rw [e]
      refine eX9_badTurns_4 hC ?_
      refine eX9_badTurns_5 hC ?_
      refine eX9_badTurns_6 hC (Nat.le_of_ble_eq_true rfl) (Nat.le_of_ble_eq_true rfl) (Nat.le_of_ble_eq_true rfl) (by assumption) (vX9_manyLines hC.nt hR hx ho hN) (zk_i ?_)
      refine eX9_badTurns_9 hC (fun _ => ?_) (fun zz => absurd (nI_le (by omega) (by omega)) zz)
      refine eX9_badTurns_80 hC ?_
      refine eX9_badTurns_81 hC hQ (Nat.le_of_ble_eq_true rfl) (Nat.le_of_ble_eq_true rfl) ?_
      exact ⟨rfl, rfl, rfl⟩
    | succ d ih =>
      intro k hk1 hk
      have hkm : k < zm τ md := by omega
      have p1 := hp k hkm
      have p2 := hp (k - 1) (by omega)
      have q1 := gO_is gg hkm
      have q2 := gO_is gg (show k - 1 < zm τ md by omega)
      have b1 : zpo τ md k < 2 ^ 31 := by have : zpo τ md k < gM (zpx τ md) (zm τ md) := q1.1; omega
      have b2 : zpo τ md (k - 1) < 2 ^ 31 := by have : zpo τ md (k - 1) < gM (zpx τ md) (zm τ md) := q2.1; omega
      by_cases c1 : zpo τ md k = zpo τ md (k - 1)
      · refine eX9_badTurns_4 hC ?_
        refine eX9_badTurns_5 hC ?_
        refine eX9_badTurns_6 hC (Nat.le_of_ble_eq_true rfl) (Nat.le_of_ble_eq_true rfl) (Nat.le_of_ble_eq_true rfl) (by assumption) (vX9_manyLines hC.nt hR hx ho hN) (zk_i ?_)
        refine eX9_badTurns_9 hC (fun zz => absurd zz (nI_ge hkm (by omega))) (fun _ => ?_)
        refine eX9_badTurns_12 hC ?_
        refine eX9_badTurns_13 hC (by assumption) (by assumption) ?_
        refine eX9_badTurns_16 hC ?_
        refine eX9_badTurns_17 hC (by assumption) (vp_in_nI (by omega) (by omega)) ?_
        rw [nI_clamp (by omega), p1]
        refine eX9_badTurns_18 hC ?_
        refine eX9_badTurns_19 hC (by assumption) (by assumption) ?_
        refine eX9_badTurns_22 hC ?_
        refine eX9_badTurns_23 hC ?_
        refine eX9_badTurns_24 hC ?_
        rw [nI_sub (by omega)]
        refine eX9_badTurns_25 hC (by assumption) (vp_in_nI (by omega) (by omega)) ?_
        rw [nI_clamp (by omega), p2]
        refine eX9_badTurns_26 hC (fun _ => ?_) (fun zz => absurd (by rw [c1]) zz)
        refine eX9_badTurns_33 hC ?_
        refine eX9_badTurns_34 hC ?_
        refine eX9_badTurns_36 hC ?_
        refine eX9_badTurns_37 hC ?_
        refine eX9_badTurns_39 hC (fun _ => ?_) (fun zz => absurd zn00 zz)
        refine eX9_badTurns_71 hC ?_
        refine eX9_badTurns_72 hC ?_
        rw [nI_add, Nat.add_zero, ← zct_f (p := (fun l => l ≠ 0 ∧ zpo τ md l ≠ zpo τ md (l - 1) ∧ zcl τ md l)) (k := k) (fun z => z.2.1 c1)]
        refine eX9_badTurns_73 hC ?_
        refine eX9_badTurns_74 hC ?_
        rw [nI_add]
        refine eX9_badTurns_77 hC ?_
        exact zV.fg (by simp [zFg]) (ih (k + 1) (by omega) (by omega))
      · by_cases c2 : zcl τ md k
        · refine eX9_badTurns_4 hC ?_
          refine eX9_badTurns_5 hC ?_
          refine eX9_badTurns_6 hC (Nat.le_of_ble_eq_true rfl) (Nat.le_of_ble_eq_true rfl) (Nat.le_of_ble_eq_true rfl) (by assumption) (vX9_manyLines hC.nt hR hx ho hN) (zk_i ?_)
          refine eX9_badTurns_9 hC (fun zz => absurd zz (nI_ge hkm (by omega))) (fun _ => ?_)
          refine eX9_badTurns_12 hC ?_
          refine eX9_badTurns_13 hC (by assumption) (by assumption) ?_
          refine eX9_badTurns_16 hC ?_
          refine eX9_badTurns_17 hC (by assumption) (vp_in_nI (by omega) (by omega)) ?_
          rw [nI_clamp (by omega), p1]
          refine eX9_badTurns_18 hC ?_
          refine eX9_badTurns_19 hC (by assumption) (by assumption) ?_
          refine eX9_badTurns_22 hC ?_
          refine eX9_badTurns_23 hC ?_
          refine eX9_badTurns_24 hC ?_
          rw [nI_sub (by omega)]
          refine eX9_badTurns_25 hC (by assumption) (vp_in_nI (by omega) (by omega)) ?_
          rw [nI_clamp (by omega), p2]
          refine eX9_badTurns_26 hC (fun zz => absurd zz (fun z => c1 (nI_inj b1 b2 z))) (fun _ => ?_)
          refine eX9_badTurns_29 hC ?_
          refine eX9_badTurns_30 hC ?_
          refine eX9_badTurns_34 hC ?_
          refine eX9_badTurns_36 hC ?_
          refine eX9_badTurns_37 hC ?_
          refine eX9_badTurns_39 hC (fun zz => absurd zz zn10) (fun _ => ?_)
          refine eX9_badTurns_42 hC ?_
          refine eX9_badTurns_43 hC (fun zz => absurd zz zn10) (fun _ => ?_)
          refine eX9_badTurns_46 hC ?_
          refine eX9_badTurns_47 hC ?_
          refine eX9_badTurns_48 hC (Nat.le_of_ble_eq_true rfl) (Nat.le_of_ble_eq_true rfl) (Nat.le_of_ble_eq_true rfl) (by assumption) (vX9_isLast hC.nt hR hx ho hN (by omega)) (zk_i ?_)
          rw [zBv_t c2]
          refine eX9_badTurns_51 hC (fun zz => absurd zz zn10) (fun _ => ?_)
          refine eX9_badTurns_54 hC ?_
          refine eX9_badTurns_67 hC ?_
          refine eX9_badTurns_68 hC ?_
          refine eX9_badTurns_72 hC ?_
          rw [nI_add, ← zct_t (p := (fun l => l ≠ 0 ∧ zpo τ md l ≠ zpo τ md (l - 1) ∧ zcl τ md l)) (k := k) ⟨by omega, c1, c2⟩]
          refine eX9_badTurns_73 hC ?_
          refine eX9_badTurns_74 hC ?_
          rw [nI_add]
          refine eX9_badTurns_77 hC ?_
          exact zV.fg (by simp [zFg]) (ih (k + 1) (by omega) (by omega))
        · refine eX9_badTurns_4 hC ?_
          refine eX9_badTurns_5 hC ?_
          refine eX9_badTurns_6 hC (Nat.le_of_ble_eq_true rfl) (Nat.le_of_ble_eq_true rfl) (Nat.le_of_ble_eq_true rfl) (by assumption) (vX9_manyLines hC.nt hR hx ho hN) (zk_i ?_)
          refine eX9_badTurns_9 hC (fun zz => absurd zz (nI_ge hkm (by omega))) (fun _ => ?_)
          refine eX9_badTurns_12 hC ?_
          refine eX9_badTurns_13 hC (by assumption) (by assumption) ?_
          refine eX9_badTurns_16 hC ?_
          refine eX9_badTurns_17 hC (by assumption) (vp_in_nI (by omega) (by omega)) ?_
          rw [nI_clamp (by omega), p1]
          refine eX9_badTurns_18 hC ?_
          refine eX9_badTurns_19 hC (by assumption) (by assumption) ?_
          refine eX9_badTurns_22 hC ?_
          refine eX9_badTurns_23 hC ?_
          refine eX9_badTurns_24 hC ?_
          rw [nI_sub (by omega)]
          refine eX9_badTurns_25 hC (by assumption) (vp_in_nI (by omega) (by omega)) ?_
          rw [nI_clamp (by omega), p2]
          refine eX9_badTurns_26 hC (fun zz => absurd zz (fun z => c1 (nI_inj b1 b2 z))) (fun _ => ?_)
          refine eX9_badTurns_29 hC ?_
          refine eX9_badTurns_30 hC ?_
          refine eX9_badTurns_34 hC ?_
          refine eX9_badTurns_36 hC ?_
          refine eX9_badTurns_37 hC ?_
          refine eX9_badTurns_39 hC (fun zz => absurd zz zn10) (fun _ => ?_)
          refine eX9_badTurns_42 hC ?_
          refine eX9_badTurns_43 hC (fun zz => absurd zz zn10) (fun _ => ?_)
          refine eX9_badTurns_46 hC ?_
          refine eX9_badTurns_47 hC ?_
          refine eX9_badTurns_48 hC (Nat.le_of_ble_eq_true rfl) (Nat.le_of_ble_eq_true rfl) (Nat.le_of_ble_eq_true rfl) (by assumption) (vX9_isLast hC.nt hR hx ho hN (by omega)) (zk_i ?_)
          rw [zBv_f c2]
          refine eX9_badTurns_51 hC (fun _ => ?_) (fun zz => absurd zn00 zz)
          refine eX9_badTurns_71 hC ?_
          refine eX9_badTurns_72 hC ?_
          rw [nI_add, Nat.add_zero, ← zct_f (p := (fun l => l ≠ 0 ∧ zpo τ md l ≠ zpo τ md (l - 1) ∧ zcl τ md l)) (k := k) (fun z => c2 z.2.2)]
          refine eX9_badTurns_73 hC ?_
          refine eX9_badTurns_74 hC ?_
          rw [nI_add]
          refine eX9_badTurns_77 hC ?_
          exact zV.fg (by simp [zFg]) (ih (k + 1) (by omega) (by omega))
  refine eX9_badTurns_0 hC ?_
  refine eX9_badTurns_1 hC ?_
  refine eX9_badTurns_2 hC ?_
  refine eX9_badTurns_3 hC ?_
  have e := loop (zm τ md - 1) 1 (Nat.le_refl _) (by omega)
  rw [hq0] at e
  exact e
set_option maxHeartbeats 8000000 in
theorem vX9_badO {l : Launch} {g : zG} (hl : l.stackTraces = false) {K : zK} {μ : zF} {m md : Nat} {τ : Nat → Nat} (hR : zRef K m) (hx : zSx μ m τ) (ho : zOk τ) (hN : zNw μ m τ md) (hp : ∀ j, j < zm τ md → μ (m + 8) j = nI (zpo τ md j)) : EX9_badTurns l g 0 0 [.ref m, .int (nI 0)] K μ (zPi (nI (zon τ md)) K μ) := by
  obtain ⟨h0, h1, h2, h3, h4, h5, h6, h7, h8, i1, i2, i3, i4, i5, i6, i7, i8⟩ := id hR
  have o1 := ho.1
  have hzm := (zm_is τ md).1
  have gg := zpx_ok ho md
  have hpz := (gM_is gg).1
  have hq0 : zct (fun l => l ≠ 0 ∧ zpo τ md l ≠ zpo τ md (l - 1) ∧ zop τ md (l - 1)) 1 = 0 := zct_f (p := (fun l => l ≠ 0 ∧ zpo τ md l ≠ zpo τ md (l - 1) ∧ zop τ md (l - 1))) (fun z => z.1 rfl)
  refine nX9_badTurns hl (fun x hC hQ => ?_)
  have loop : ∀ (d k : Nat), 1 ≤ k → (k + d = zm τ md ∨ (zm τ md = 0 ∧ k = 1 ∧ d = 0)) → zV x 0 0 4 [some (.ref m), some (.int (nI 0)), some (.int (nI (zct (fun l => l ≠ 0 ∧ zpo τ md l ≠ zpo τ md (l - 1) ∧ zop τ md (l - 1)) k))), some (.int (nI k)), none] [] K μ := by
    intro d
    induction d with
    | zero =>
      intro k hk1 hk
      have e : zct (fun l => l ≠ 0 ∧ zpo τ md l ≠ zpo τ md (l - 1) ∧ zop τ md (l - 1)) k = zon τ md := by
        rcases hk with hk | ⟨z1, z2, -⟩
        · rw [show k = zm τ md by omega]; exact zct_on ho md
        · rw [z2, hq0, ← zct_on ho md, z1]; rfl
      rw [e]
      refine eX9_badTurns_4 hC ?_
      refine eX9_badTurns_5 hC ?_
      refine eX9_badTurns_6 hC (Nat.le_of_ble_eq_true rfl) (Nat.le_of_ble_eq_true rfl) (Nat.le_of_ble_eq_true rfl) (by assumption) (vX9_manyLines hC.nt hR hx ho hN) (zk_i ?_)
      refine eX9_badTurns_9 hC (fun _ => ?_) (fun zz => absurd (nI_le (by omega) (by omega)) zz)
      refine eX9_badTurns_80 hC ?_
      refine eX9_badTurns_81 hC hQ (Nat.le_of_ble_eq_true rfl) (Nat.le_of_ble_eq_true rfl) ?_
      exact ⟨rfl, rfl, rfl⟩
    | succ d ih =>
      intro k hk1 hk
      have hkm : k < zm τ md := by omega
      have p1 := hp k hkm
      have p2 := hp (k - 1) (by omega)
      have q1 := gO_is gg hkm
      have q2 := gO_is gg (show k - 1 < zm τ md by omega)
      have b1 : zpo τ md k < 2 ^ 31 := by have : zpo τ md k < gM (zpx τ md) (zm τ md) := q1.1; omega
      have b2 : zpo τ md (k - 1) < 2 ^ 31 := by have : zpo τ md (k - 1) < gM (zpx τ md) (zm τ md) := q2.1; omega
      by_cases c1 : zpo τ md k = zpo τ md (k - 1)
      · refine eX9_badTurns_4 hC ?_
        refine eX9_badTurns_5 hC ?_
        refine eX9_badTurns_6 hC (Nat.le_of_ble_eq_true rfl) (Nat.le_of_ble_eq_true rfl) (Nat.le_of_ble_eq_true rfl) (by assumption) (vX9_manyLines hC.nt hR hx ho hN) (zk_i ?_)
        refine eX9_badTurns_9 hC (fun zz => absurd zz (nI_ge hkm (by omega))) (fun _ => ?_)
        refine eX9_badTurns_12 hC ?_
        refine eX9_badTurns_13 hC (by assumption) (by assumption) ?_
        refine eX9_badTurns_16 hC ?_
        refine eX9_badTurns_17 hC (by assumption) (vp_in_nI (by omega) (by omega)) ?_
        rw [nI_clamp (by omega), p1]
        refine eX9_badTurns_18 hC ?_
        refine eX9_badTurns_19 hC (by assumption) (by assumption) ?_
        refine eX9_badTurns_22 hC ?_
        refine eX9_badTurns_23 hC ?_
        refine eX9_badTurns_24 hC ?_
        rw [nI_sub (by omega)]
        refine eX9_badTurns_25 hC (by assumption) (vp_in_nI (by omega) (by omega)) ?_
        rw [nI_clamp (by omega), p2]
        refine eX9_badTurns_26 hC (fun _ => ?_) (fun zz => absurd (by rw [c1]) zz)
        refine eX9_badTurns_33 hC ?_
        refine eX9_badTurns_34 hC ?_
        refine eX9_badTurns_36 hC ?_
        refine eX9_badTurns_37 hC ?_
        refine eX9_badTurns_39 hC (fun _ => ?_) (fun zz => absurd zn00 zz)
        refine eX9_badTurns_71 hC ?_
        refine eX9_badTurns_72 hC ?_
        rw [nI_add, Nat.add_zero, ← zct_f (p := (fun l => l ≠ 0 ∧ zpo τ md l ≠ zpo τ md (l - 1) ∧ zop τ md (l - 1))) (k := k) (fun z => z.2.1 c1)]
        refine eX9_badTurns_73 hC ?_
        refine eX9_badTurns_74 hC ?_
        rw [nI_add]
        refine eX9_badTurns_77 hC ?_
        exact zV.fg (by simp [zFg]) (ih (k + 1) (by omega) (by omega))
      · by_cases c2 : zop τ md (k - 1)
        · refine eX9_badTurns_4 hC ?_
          refine eX9_badTurns_5 hC ?_
          refine eX9_badTurns_6 hC (Nat.le_of_ble_eq_true rfl) (Nat.le_of_ble_eq_true rfl) (Nat.le_of_ble_eq_true rfl) (by assumption) (vX9_manyLines hC.nt hR hx ho hN) (zk_i ?_)
          refine eX9_badTurns_9 hC (fun zz => absurd zz (nI_ge hkm (by omega))) (fun _ => ?_)
          refine eX9_badTurns_12 hC ?_
          refine eX9_badTurns_13 hC (by assumption) (by assumption) ?_
          refine eX9_badTurns_16 hC ?_
          refine eX9_badTurns_17 hC (by assumption) (vp_in_nI (by omega) (by omega)) ?_
          rw [nI_clamp (by omega), p1]
          refine eX9_badTurns_18 hC ?_
          refine eX9_badTurns_19 hC (by assumption) (by assumption) ?_
          refine eX9_badTurns_22 hC ?_
          refine eX9_badTurns_23 hC ?_
          refine eX9_badTurns_24 hC ?_
          rw [nI_sub (by omega)]
          refine eX9_badTurns_25 hC (by assumption) (vp_in_nI (by omega) (by omega)) ?_
          rw [nI_clamp (by omega), p2]
          refine eX9_badTurns_26 hC (fun zz => absurd zz (fun z => c1 (nI_inj b1 b2 z))) (fun _ => ?_)
          refine eX9_badTurns_29 hC ?_
          refine eX9_badTurns_30 hC ?_
          refine eX9_badTurns_34 hC ?_
          refine eX9_badTurns_36 hC ?_
          refine eX9_badTurns_37 hC ?_
          refine eX9_badTurns_39 hC (fun zz => absurd zz zn10) (fun _ => ?_)
          refine eX9_badTurns_42 hC ?_
          refine eX9_badTurns_43 hC (fun _ => ?_) (fun zz => absurd zn00 zz)
          refine eX9_badTurns_57 hC ?_
          refine eX9_badTurns_58 hC ?_
          refine eX9_badTurns_59 hC ?_
          refine eX9_badTurns_60 hC ?_
          rw [nI_sub (by omega)]
          refine eX9_badTurns_61 hC (Nat.le_of_ble_eq_true rfl) (Nat.le_of_ble_eq_true rfl) (Nat.le_of_ble_eq_true rfl) (by assumption) (vX9_isFirst hC.nt hR hx ho hN (by omega)) (zk_i ?_)
          rw [zBv_t c2]
          refine eX9_badTurns_64 hC (fun zz => absurd zz zn10) (fun _ => ?_)
          refine eX9_badTurns_67 hC ?_
          refine eX9_badTurns_68 hC ?_
          refine eX9_badTurns_72 hC ?_
          rw [nI_add, ← zct_t (p := (fun l => l ≠ 0 ∧ zpo τ md l ≠ zpo τ md (l - 1) ∧ zop τ md (l - 1))) (k := k) ⟨by omega, c1, c2⟩]
          refine eX9_badTurns_73 hC ?_
          refine eX9_badTurns_74 hC ?_
          rw [nI_add]
          refine eX9_badTurns_77 hC ?_
          exact zV.fg (by simp [zFg]) (ih (k + 1) (by omega) (by omega))
        · refine eX9_badTurns_4 hC ?_
          refine eX9_badTurns_5 hC ?_
          refine eX9_badTurns_6 hC (Nat.le_of_ble_eq_true rfl) (Nat.le_of_ble_eq_true rfl) (Nat.le_of_ble_eq_true rfl) (by assumption) (vX9_manyLines hC.nt hR hx ho hN) (zk_i ?_)
          refine eX9_badTurns_9 hC (fun zz => absurd zz (nI_ge hkm (by omega))) (fun _ => ?_)
          refine eX9_badTurns_12 hC ?_
          refine eX9_badTurns_13 hC (by assumption) (by assumption) ?_
          refine eX9_badTurns_16 hC ?_
          refine eX9_badTurns_17 hC (by assumption) (vp_in_nI (by omega) (by omega)) ?_
          rw [nI_clamp (by omega), p1]
          refine eX9_badTurns_18 hC ?_
          refine eX9_badTurns_19 hC (by assumption) (by assumption) ?_
          refine eX9_badTurns_22 hC ?_
          refine eX9_badTurns_23 hC ?_
          refine eX9_badTurns_24 hC ?_
          rw [nI_sub (by omega)]
          refine eX9_badTurns_25 hC (by assumption) (vp_in_nI (by omega) (by omega)) ?_
          rw [nI_clamp (by omega), p2]
          refine eX9_badTurns_26 hC (fun zz => absurd zz (fun z => c1 (nI_inj b1 b2 z))) (fun _ => ?_)
          refine eX9_badTurns_29 hC ?_
          refine eX9_badTurns_30 hC ?_
          refine eX9_badTurns_34 hC ?_
          refine eX9_badTurns_36 hC ?_
          refine eX9_badTurns_37 hC ?_
          refine eX9_badTurns_39 hC (fun zz => absurd zz zn10) (fun _ => ?_)
          refine eX9_badTurns_42 hC ?_
          refine eX9_badTurns_43 hC (fun _ => ?_) (fun zz => absurd zn00 zz)
          refine eX9_badTurns_57 hC ?_
          refine eX9_badTurns_58 hC ?_
          refine eX9_badTurns_59 hC ?_
          refine eX9_badTurns_60 hC ?_
          rw [nI_sub (by omega)]
          refine eX9_badTurns_61 hC (Nat.le_of_ble_eq_true rfl) (Nat.le_of_ble_eq_true rfl) (Nat.le_of_ble_eq_true rfl) (by assumption) (vX9_isFirst hC.nt hR hx ho hN (by omega)) (zk_i ?_)
          rw [zBv_f c2]
          refine eX9_badTurns_64 hC (fun _ => ?_) (fun zz => absurd zn00 zz)
          refine eX9_badTurns_71 hC ?_
          refine eX9_badTurns_72 hC ?_
          rw [nI_add, Nat.add_zero, ← zct_f (p := (fun l => l ≠ 0 ∧ zpo τ md l ≠ zpo τ md (l - 1) ∧ zop τ md (l - 1))) (k := k) (fun z => c2 z.2.2)]
          refine eX9_badTurns_73 hC ?_
          refine eX9_badTurns_74 hC ?_
          rw [nI_add]
          refine eX9_badTurns_77 hC ?_
          exact zV.fg (by simp [zFg]) (ih (k + 1) (by omega) (by omega))
  refine eX9_badTurns_0 hC ?_
  refine eX9_badTurns_1 hC ?_
  refine eX9_badTurns_2 hC ?_
  refine eX9_badTurns_3 hC ?_
  have e := loop (zm τ md - 1) 1 (Nat.le_refl _) (by omega)
  rw [hq0] at e
  exact e
theorem zM9.t8 {μ μ' : zF} {m : Nat} {S : zMs} (h : zM9 μ m S) (hf : ∀ a j, a ≠ m + 8 → μ' a j = μ a j) : zM9 μ' m S := h.fr (fun j => hf _ _ (by omega)) (hf _ _ (by omega)) (hf _ _ (by omega)) (fun j => hf _ _ (by omega)) ((hf _ _ (by omega)).trans h.2.2.2.2.2)
theorem zag8 {μ μ' : zF} {m : Nat} (hf : ∀ a j, a ≠ m + 8 → μ' a j = μ a j) : zAg μ μ' m (m + 9) := fun a j z => hf a j (by omega)
set_option maxHeartbeats 4000000 in
theorem vX9_pages0 {l : Launch} {g : zG} (hl : l.stackTraces = false) {K : zK} {μ : zF} {m : Nat} {S : zMs} (hR : zRef K m) (hM : zM9 μ m S) (ho : zMok S) : EX9_pages l g 0 0 [.ref m] K μ (zPv (nI (zpm S.1 (S.1 87))) K (fun μ' => zNw μ' m S.1 (S.1 87) ∧ zM9 μ' m S ∧ (∀ j, j < zm S.1 (S.1 87) → μ' (m + 8) j = nI (zpo S.1 (S.1 87) j)) ∧ zAg μ μ' m (m + 9) ∧ μ' m 4 = nI 0)) := by
  obtain ⟨h0, h1, h2, h3, h4, h5, h6, h7, h8, i1, i2, i3, i4, i5, i6, i7, i8⟩ := id hR
  obtain ⟨a1, a2, a3, a4, a5, a6⟩ := id hM
  have o80 := ho.1.1
  have e80 : μ (m + 1) 80 = nI (S.1 80) := by have := a1.2 80 (by omega) (by omega); rwa [Nat.zero_add] at this
  refine nX9_pages hl (fun x hC hQ => ?_)
  refine eX9_pages_0 hC ?_
  refine eX9_pages_1 hC ?_
  refine eX9_pages_2 hC (by assumption) ?_
  refine eX9_pages_5 hC ?_
  refine eX9_pages_6 hC (Nat.le_of_ble_eq_true rfl) (Nat.le_of_ble_eq_true rfl) (Nat.le_of_ble_eq_true rfl) (by assumption) (vX9_now hC.nt hR hM.up4 ho) (zk_v (fun μ_6 m_6 => ?_))
  refine eX9_pages_9 hC ?_
  refine eX9_pages_10 hC ?_
  obtain ⟨n1, n2, n3⟩ := m_6
  refine eX9_pages_11 hC (Nat.le_of_ble_eq_true rfl) (Nat.le_of_ble_eq_true rfl) (Nat.le_of_ble_eq_true rfl) (by assumption) (vX9_turns hC.nt hR n2.x ho.1 n1) (zk_v (fun μ_11 m_11 => ?_))
  refine eX9_pages_14 hC hQ (Nat.le_of_ble_eq_true rfl) (Nat.le_of_ble_eq_true rfl) ?_
  obtain ⟨t1, t2⟩ := m_11
  exact ⟨rfl, rfl, n1.eq (fun j => t2 _ _ (by omega)) (fun j => t2 _ _ (by omega)), n2.t8 t2, t1, ((zAg.up (by omega)).trans (zagnw n3)).trans (zag8 t2), (t2 _ _ (by omega)).trans ((n3 _ _ (by omega)).trans (zup_self _ _ _ _))⟩
set_option maxHeartbeats 4000000 in
theorem vX9_pages {l : Launch} {g : zG} (hl : l.stackTraces = false) {K : zK} {μ : zF} {m : Nat} {S : zMs} (hR : zRef K m) (hM : zM9 μ m S) (ho : zMok S) : EX9_pages l g 0 0 [.ref m] K μ (zN9 zc1 (zdo_pages S) K μ m S) := by
  obtain ⟨h0, h1, h2, h3, h4, h5, h6, h7, h8, i1, i2, i3, i4, i5, i6, i7, i8⟩ := id hR
  obtain ⟨a1, a2, a3, a4, a5, a6⟩ := id hM
  have o80 := ho.1.1
  have e80 : μ (m + 1) 80 = nI (S.1 80) := by have := a1.2 80 (by omega) (by omega); rwa [Nat.zero_add] at this
  refine nX9_pages hl (fun x hC hQ => ?_)
  refine eX9_pages_0 hC ?_
  refine eX9_pages_1 hC ?_
  refine eX9_pages_2 hC (by assumption) ?_
  refine eX9_pages_5 hC ?_
  refine eX9_pages_6 hC (Nat.le_of_ble_eq_true rfl) (Nat.le_of_ble_eq_true rfl) (Nat.le_of_ble_eq_true rfl) (by assumption) (vX9_now hC.nt hR hM.up4 ho) (zk_v (fun μ_6 m_6 => ?_))
  refine eX9_pages_9 hC ?_
  refine eX9_pages_10 hC ?_
  obtain ⟨n1, n2, n3⟩ := m_6
  refine eX9_pages_11 hC (Nat.le_of_ble_eq_true rfl) (Nat.le_of_ble_eq_true rfl) (Nat.le_of_ble_eq_true rfl) (by assumption) (vX9_turns hC.nt hR n2.x ho.1 n1) (zk_v (fun μ_11 m_11 => ?_))
  refine eX9_pages_14 hC hQ (Nat.le_of_ble_eq_true rfl) (Nat.le_of_ble_eq_true rfl) ?_
  obtain ⟨t1, t2⟩ := m_11
  exact zN9.ok rfl (((zAg.up (by omega)).trans (zagnw n3)).trans (zag8 t2)) ((t2 _ _ (by omega)).trans ((n3 _ _ (by omega)).trans (zup_self _ _ _ _))) (n2.t8 t2)
set_option maxHeartbeats 4000000 in
theorem vX9_widows {l : Launch} {g : zG} (hl : l.stackTraces = false) {K : zK} {μ : zF} {m : Nat} {S : zMs} (hR : zRef K m) (hM : zM9 μ m S) (ho : zMok S) : EX9_widows l g 0 0 [.ref m] K μ (zN9 zc1 (zdo_widows S) K μ m S) := by
  obtain ⟨h0, h1, h2, h3, h4, h5, h6, h7, h8, i1, i2, i3, i4, i5, i6, i7, i8⟩ := id hR
  obtain ⟨a1, a2, a3, a4, a5, a6⟩ := id hM
  have o80 := ho.1.1
  have e80 : μ (m + 1) 80 = nI (S.1 80) := by have := a1.2 80 (by omega) (by omega); rwa [Nat.zero_add] at this
  refine nX9_widows hl (fun x hC hQ => ?_)
  refine eX9_widows_0 hC ?_
  refine eX9_widows_1 hC (Nat.le_of_ble_eq_true rfl) (Nat.le_of_ble_eq_true rfl) (Nat.le_of_ble_eq_true rfl) (by assumption) (vX9_pages0 hC.nt hR hM ho) (zk_v (fun μ_1 m_1 => ?_))
  refine eX9_widows_4 hC ?_
  refine eX9_widows_5 hC ?_
  refine eX9_widows_6 hC ?_
  obtain ⟨n1, n2, n3, n4, n5⟩ := m_1
  refine eX9_widows_7 hC (Nat.le_of_ble_eq_true rfl) (Nat.le_of_ble_eq_true rfl) (Nat.le_of_ble_eq_true rfl) (by assumption) (vX9_badW hC.nt hR n2.x ho.1 n1 n3) (zk_i ?_)
  refine eX9_widows_10 hC hQ (Nat.le_of_ble_eq_true rfl) (Nat.le_of_ble_eq_true rfl) ?_
  exact zN9.ok rfl n4 n5 n2
set_option maxHeartbeats 4000000 in
theorem vX9_orphans {l : Launch} {g : zG} (hl : l.stackTraces = false) {K : zK} {μ : zF} {m : Nat} {S : zMs} (hR : zRef K m) (hM : zM9 μ m S) (ho : zMok S) : EX9_orphans l g 0 0 [.ref m] K μ (zN9 zc1 (zdo_orphans S) K μ m S) := by
  obtain ⟨h0, h1, h2, h3, h4, h5, h6, h7, h8, i1, i2, i3, i4, i5, i6, i7, i8⟩ := id hR
  obtain ⟨a1, a2, a3, a4, a5, a6⟩ := id hM
  have o80 := ho.1.1
  have e80 : μ (m + 1) 80 = nI (S.1 80) := by have := a1.2 80 (by omega) (by omega); rwa [Nat.zero_add] at this
  refine nX9_orphans hl (fun x hC hQ => ?_)
  refine eX9_orphans_0 hC ?_
  refine eX9_orphans_1 hC (Nat.le_of_ble_eq_true rfl) (Nat.le_of_ble_eq_true rfl) (Nat.le_of_ble_eq_true rfl) (by assumption) (vX9_pages0 hC.nt hR hM ho) (zk_v (fun μ_1 m_1 => ?_))
  refine eX9_orphans_4 hC ?_
  refine eX9_orphans_5 hC ?_
  refine eX9_orphans_6 hC ?_
  obtain ⟨n1, n2, n3, n4, n5⟩ := m_1
  refine eX9_orphans_7 hC (Nat.le_of_ble_eq_true rfl) (Nat.le_of_ble_eq_true rfl) (Nat.le_of_ble_eq_true rfl) (by assumption) (vX9_badO hC.nt hR n2.x ho.1 n1 n3) (zk_i ?_)
  refine eX9_orphans_10 hC hQ (Nat.le_of_ble_eq_true rfl) (Nat.le_of_ble_eq_true rfl) ?_
  exact zN9.ok rfl n4 n5 n2
set_option maxHeartbeats 4000000 in
theorem vX9_pageOf {l : Launch} {g : zG} (hl : l.stackTraces = false) {K : zK} {μ : zF} {m : Nat} {S : zMs} {i : Int32} (hR : zRef K m) (hM : zM9 μ m S) (ho : zMok S) : EX9_pageOf l g 0 0 [.ref m, .int i] K μ (zN9 zc1 (zdo_pageOf i S) K μ m S) := by
  obtain ⟨h0, h1, h2, h3, h4, h5, h6, h7, h8, i1, i2, i3, i4, i5, i6, i7, i8⟩ := id hR
  obtain ⟨a1, a2, a3, a4, a5, a6⟩ := id hM
  have o80 := ho.1.1
  have e80 : μ (m + 1) 80 = nI (S.1 80) := by have := a1.2 80 (by omega) (by omega); rwa [Nat.zero_add] at this
  refine nX9_pageOf hl (fun x hC hQ => ?_)
  have hzm := (zm_is S.1 (S.1 87)).1
  by_cases q : ¬ i < 0 ∧ i < nI (zm S.1 (S.1 87))
  · obtain ⟨k, rfl, hk, e⟩ := zix_in (f := fun k => .inl (nI (zpo S.1 (S.1 87) k), S)) (by omega) q
    refine eX9_pageOf_0 hC ?_
    refine eX9_pageOf_1 hC ?_
    refine eX9_pageOf_2 hC (Nat.le_of_ble_eq_true rfl) (Nat.le_of_ble_eq_true rfl) (Nat.le_of_ble_eq_true rfl) (by assumption) (vX9_isLine hC.nt hR hM ho) (zk_v (fun μ_2 m_2 => ?_))
    obtain ⟨n1, n2, n3⟩ := m_2
    rw [zBv_t q]
    refine eX9_pageOf_5 hC ?_
    refine eX9_pageOf_6 hC ?_
    refine eX9_pageOf_7 hC (Nat.le_of_ble_eq_true rfl) (Nat.le_of_ble_eq_true rfl) (Nat.le_of_ble_eq_true rfl) (by assumption) (vX9_turns hC.nt hR n2.x ho.1 n1) (zk_v (fun μ_7 m_7 => ?_))
    refine eX9_pageOf_10 hC ?_
    refine eX9_pageOf_11 hC ?_
    refine eX9_pageOf_12 hC ?_
    refine eX9_pageOf_13 hC ?_
    refine eX9_pageOf_14 hC ?_
    refine eX9_pageOf_15 hC (Nat.le_of_ble_eq_true rfl) (Nat.le_of_ble_eq_true rfl) (Nat.le_of_ble_eq_true rfl) (by assumption) (vX9_goV hC.nt h0 (r := 1) (t := 0) rfl rfl (by omega) (by omega) (by omega)) (zk_v (fun μ_15 m_15 => ?_))
    obtain ⟨t1, t2⟩ := m_7
    subst m_15
    refine eX9_pageOf_18 hC (fun zz => absurd zz zn10) (fun _ => ?_)
    refine eX9_pageOf_21 hC ?_
    refine eX9_pageOf_22 hC (by assumption) (by assumption) ?_
    refine eX9_pageOf_25 hC ?_
    refine eX9_pageOf_26 hC (by assumption) (vp_in_nI (by omega) (by omega)) ?_
    rw [nI_clamp (by omega), (zup_a _ _ _ _ (by omega) : zup μ_7 m 4 (nI 0) (m + 8) _ = _), t1 k hk]
    refine eX9_pageOf_27 hC ?_
    refine eX9_pageOf_31 hC hQ (Nat.le_of_ble_eq_true rfl) (Nat.le_of_ble_eq_true rfl) ?_
    exact zN9.ny e (n2.t8 t2) ((zagnw n3).trans (zag8 t2))
  · refine eX9_pageOf_0 hC ?_
    refine eX9_pageOf_1 hC ?_
    refine eX9_pageOf_2 hC (Nat.le_of_ble_eq_true rfl) (Nat.le_of_ble_eq_true rfl) (Nat.le_of_ble_eq_true rfl) (by assumption) (vX9_isLine hC.nt hR hM ho) (zk_v (fun μ_2 m_2 => ?_))
    obtain ⟨n1, n2, n3⟩ := m_2
    rw [zBv_f q]
    refine eX9_pageOf_5 hC ?_
    refine eX9_pageOf_6 hC ?_
    refine eX9_pageOf_7 hC (Nat.le_of_ble_eq_true rfl) (Nat.le_of_ble_eq_true rfl) (Nat.le_of_ble_eq_true rfl) (by assumption) (vX9_turns hC.nt hR n2.x ho.1 n1) (zk_v (fun μ_7 m_7 => ?_))
    refine eX9_pageOf_10 hC ?_
    refine eX9_pageOf_11 hC ?_
    refine eX9_pageOf_12 hC ?_
    refine eX9_pageOf_13 hC ?_
    refine eX9_pageOf_14 hC ?_
    refine eX9_pageOf_15 hC (Nat.le_of_ble_eq_true rfl) (Nat.le_of_ble_eq_true rfl) (Nat.le_of_ble_eq_true rfl) (by assumption) (vX9_goV hC.nt h0 (a := 0) (r := 0) (t := 1) rfl rfl (by omega) (by omega) (by omega)) (zk_v (fun μ_15 m_15 => ?_))
    obtain ⟨t1, t2⟩ := m_7
    subst m_15
    refine eX9_pageOf_18 hC (fun _ => ?_) (fun zz => absurd zn00 zz)
    refine eX9_pageOf_30 hC ?_
    refine eX9_pageOf_31 hC hQ (Nat.le_of_ble_eq_true rfl) (Nat.le_of_ble_eq_true rfl) ?_
    exact zN9.nx (if_neg q) rfl (n2.t8 t2) ((zagnw n3).trans (zag8 t2))
set_option maxHeartbeats 4000000 in
theorem vX9_linesOn {l : Launch} {g : zG} (hl : l.stackTraces = false) {K : zK} {μ : zF} {m : Nat} {S : zMs} {i : Int32} (hR : zRef K m) (hM : zM9 μ m S) (ho : zMok S) : EX9_linesOn l g 0 0 [.ref m, .int i] K μ (zN9 zc1 (zdo_linesOn i S) K μ m S) := by
  obtain ⟨h0, h1, h2, h3, h4, h5, h6, h7, h8, i1, i2, i3, i4, i5, i6, i7, i8⟩ := id hR
  obtain ⟨a1, a2, a3, a4, a5, a6⟩ := id hM
  have o80 := ho.1.1
  have e80 : μ (m + 1) 80 = nI (S.1 80) := by have := a1.2 80 (by omega) (by omega); rwa [Nat.zero_add] at this
  refine nX9_linesOn hl (fun x hC hQ => ?_)
  have hzm := (zm_is S.1 (S.1 87)).1
  have gg := zpx_ok ho.1 (S.1 87)
  have hpz : zpm S.1 (S.1 87) ≤ zm S.1 (S.1 87) := (gM_is gg).1
  have hpz0 := (gM_is gg).1
  have hbr : zBv (¬ i < nI 0 ∧ i ≤ nI (zpm S.1 (S.1 87)) - nI 1) = zBv (¬ i < 0 ∧ i < nI (zpm S.1 (S.1 87))) := zBv_congr (by rw [nI_0, zle1 (by omega)])
  by_cases q : ¬ i < 0 ∧ i < nI (zpm S.1 (S.1 87))
  · obtain ⟨p, rfl, hp, e⟩ := zix_in (f := fun k => .inl (nI (zP S.1 (S.1 87) (k + 1)) - nI (zP S.1 (S.1 87) k), S)) (by omega) q
    have hlt : zP S.1 (S.1 87) p < zP S.1 (S.1 87) (p + 1) := gC_lt gg ((gM_is gg).2.2 p hp)
    have loop : ∀ (μ1 : zF), zM9 μ1 m S → zNw μ1 m S.1 (S.1 87) → (∀ j, j < zm S.1 (S.1 87) → μ1 (m + 8) j = nI (zpo S.1 (S.1 87) j)) → zAg μ μ1 m (m + 9) → μ1 m 4 = nI 0 → ∀ (d k : Nat) (l2 : Int32), k + d = zm S.1 (S.1 87) → zV x 0 0 32 [some (.ref m), some (.int (nI p)), some (.int l2), some (.int (nI (zct (fun j => zpo S.1 (S.1 87) j = p) k))), some (.int (nI k))] [] K μ1 := by
      intro μ1 n2 n1 t1 ha h4' d
      induction d with
      | zero =>
        intro k l2 hk
        obtain rfl : k = zm S.1 (S.1 87) := by omega
        refine eX9_linesOn_32 hC ?_
        refine eX9_linesOn_34 hC ?_
        refine eX9_linesOn_35 hC (Nat.le_of_ble_eq_true rfl) (Nat.le_of_ble_eq_true rfl) (Nat.le_of_ble_eq_true rfl) (by assumption) (vX9_manyLines hC.nt hR n2.x ho.1 n1) (zk_i ?_)
        refine eX9_linesOn_38 hC (fun _ => ?_) (fun zz => absurd (nI_le (Nat.le_refl _) (by omega)) zz)
        refine eX9_linesOn_66 hC ?_
        refine eX9_linesOn_67 hC hQ (Nat.le_of_ble_eq_true rfl) (Nat.le_of_ble_eq_true rfl) ?_
        rw [zct_page ho.1 hp]
        exact zN9.ok (e.trans (by show (Sum.inl (nI (zP S.1 (S.1 87) (p + 1)) - nI (zP S.1 (S.1 87) p), S) : zOu) = _; rw [nI_sub (Nat.le_of_lt hlt)])) ha h4' n2
      | succ d ih =>
        intro k l2 hk
        have hkm : k < zm S.1 (S.1 87) := by omega
        have q1 := gO_is gg hkm
        have b1 : zpo S.1 (S.1 87) k < 2 ^ 31 := by have : zpo S.1 (S.1 87) k < gM (zpx S.1 (S.1 87)) (zm S.1 (S.1 87)) := q1.1; omega
        by_cases c : zpo S.1 (S.1 87) k = p
        · refine eX9_linesOn_32 hC ?_
          refine eX9_linesOn_34 hC ?_
          refine eX9_linesOn_35 hC (Nat.le_of_ble_eq_true rfl) (Nat.le_of_ble_eq_true rfl) (Nat.le_of_ble_eq_true rfl) (by assumption) (vX9_manyLines hC.nt hR n2.x ho.1 n1) (zk_i ?_)
          refine eX9_linesOn_38 hC (fun zz => absurd zz (nI_ge hkm (by omega))) (fun _ => ?_)
          refine eX9_linesOn_41 hC ?_
          refine eX9_linesOn_42 hC ?_
          refine eX9_linesOn_43 hC (by assumption) (by assumption) ?_
          refine eX9_linesOn_46 hC ?_
          refine eX9_linesOn_48 hC (by assumption) (vp_in_nI (by omega) (by omega)) ?_
          rw [nI_clamp (by omega), t1 k hkm]
          refine eX9_linesOn_49 hC ?_
          refine eX9_linesOn_50 hC (fun zz => absurd (by rw [c]) zz) (fun _ => ?_)
          refine eX9_linesOn_53 hC ?_
          refine eX9_linesOn_54 hC ?_
          refine eX9_linesOn_58 hC ?_
          rw [nI_add, ← zct_t (p := fun j => zpo S.1 (S.1 87) j = p) c]
          refine eX9_linesOn_59 hC ?_
          refine eX9_linesOn_60 hC ?_
          rw [nI_add]
          refine eX9_linesOn_63 hC ?_
          exact ih (k + 1) _ (by omega)
        · refine eX9_linesOn_32 hC ?_
          refine eX9_linesOn_34 hC ?_
          refine eX9_linesOn_35 hC (Nat.le_of_ble_eq_true rfl) (Nat.le_of_ble_eq_true rfl) (Nat.le_of_ble_eq_true rfl) (by assumption) (vX9_manyLines hC.nt hR n2.x ho.1 n1) (zk_i ?_)
          refine eX9_linesOn_38 hC (fun zz => absurd zz (nI_ge hkm (by omega))) (fun _ => ?_)
          refine eX9_linesOn_41 hC ?_
          refine eX9_linesOn_42 hC ?_
          refine eX9_linesOn_43 hC (by assumption) (by assumption) ?_
          refine eX9_linesOn_46 hC ?_
          refine eX9_linesOn_48 hC (by assumption) (vp_in_nI (by omega) (by omega)) ?_
          rw [nI_clamp (by omega), t1 k hkm]
          refine eX9_linesOn_49 hC ?_
          refine eX9_linesOn_50 hC (fun _ => ?_) (fun zz => absurd zz (fun z => c (nI_inj b1 (by omega) z)))
          refine eX9_linesOn_57 hC ?_
          refine eX9_linesOn_58 hC ?_
          rw [nI_add, Nat.add_zero, ← zct_f (p := fun j => zpo S.1 (S.1 87) j = p) c]
          refine eX9_linesOn_59 hC ?_
          refine eX9_linesOn_60 hC ?_
          rw [nI_add]
          refine eX9_linesOn_63 hC ?_
          exact ih (k + 1) _ (by omega)
    refine eX9_linesOn_0 hC ?_
    refine eX9_linesOn_1 hC (Nat.le_of_ble_eq_true rfl) (Nat.le_of_ble_eq_true rfl) (Nat.le_of_ble_eq_true rfl) (by assumption) (vX9_now hC.nt hR hM ho) (zk_v (fun μ_1 m_1 => ?_))
    obtain ⟨n1, n2, n3⟩ := m_1
    refine eX9_linesOn_4 hC ?_
    refine eX9_linesOn_5 hC ?_
    refine eX9_linesOn_6 hC ?_
    refine eX9_linesOn_7 hC ?_
    refine eX9_linesOn_8 hC ?_
    refine eX9_linesOn_9 hC (Nat.le_of_ble_eq_true rfl) (Nat.le_of_ble_eq_true rfl) (Nat.le_of_ble_eq_true rfl) (by assumption) (vX9_turns hC.nt hR n2.x ho.1 n1) (zk_v (fun μ_9 m_9 => ?_))
    refine eX9_linesOn_12 hC ?_
    refine eX9_linesOn_13 hC ?_
    refine eX9_linesOn_14 hC (Nat.le_of_ble_eq_true rfl) (Nat.le_of_ble_eq_true rfl) (Nat.le_of_ble_eq_true rfl) (vX9_in hC.nt) (zk_i ?_)
    rw [hbr, zBv_t q]
    refine eX9_linesOn_17 hC ?_
    refine eX9_linesOn_18 hC ?_
    refine eX9_linesOn_19 hC (Nat.le_of_ble_eq_true rfl) (Nat.le_of_ble_eq_true rfl) (Nat.le_of_ble_eq_true rfl) (by assumption) (vX9_goV hC.nt h0 (r := 1) (t := 0) rfl rfl (by omega) (by omega) (by omega)) (zk_v (fun μ_19 m_19 => ?_))
    obtain ⟨t1, t2⟩ := m_9
    subst m_19
    refine eX9_linesOn_22 hC (fun _ => ?_) (fun zz => absurd zz zn10)
    refine eX9_linesOn_27 hC ?_
    refine eX9_linesOn_28 hC ?_
    refine eX9_linesOn_29 hC ?_
    refine eX9_linesOn_30 hC ?_
    exact loop _ (n2.t8 t2).up4 (n1.eq (fun j => t2 _ _ (by omega)) (fun j => t2 _ _ (by omega))).up4 (fun j hj => (zup_a _ _ _ _ (by omega)).trans (t1 j hj)) (((zagnw n3).trans (zag8 t2)).trans (zAg.up (by omega))) (zup_self _ _ _ _) (zm S.1 (S.1 87)) 0 _ (by omega)
  · refine eX9_linesOn_0 hC ?_
    refine eX9_linesOn_1 hC (Nat.le_of_ble_eq_true rfl) (Nat.le_of_ble_eq_true rfl) (Nat.le_of_ble_eq_true rfl) (by assumption) (vX9_now hC.nt hR hM ho) (zk_v (fun μ_1 m_1 => ?_))
    obtain ⟨n1, n2, n3⟩ := m_1
    refine eX9_linesOn_4 hC ?_
    refine eX9_linesOn_5 hC ?_
    refine eX9_linesOn_6 hC ?_
    refine eX9_linesOn_7 hC ?_
    refine eX9_linesOn_8 hC ?_
    refine eX9_linesOn_9 hC (Nat.le_of_ble_eq_true rfl) (Nat.le_of_ble_eq_true rfl) (Nat.le_of_ble_eq_true rfl) (by assumption) (vX9_turns hC.nt hR n2.x ho.1 n1) (zk_v (fun μ_9 m_9 => ?_))
    refine eX9_linesOn_12 hC ?_
    refine eX9_linesOn_13 hC ?_
    refine eX9_linesOn_14 hC (Nat.le_of_ble_eq_true rfl) (Nat.le_of_ble_eq_true rfl) (Nat.le_of_ble_eq_true rfl) (vX9_in hC.nt) (zk_i ?_)
    rw [hbr, zBv_f q]
    refine eX9_linesOn_17 hC ?_
    refine eX9_linesOn_18 hC ?_
    refine eX9_linesOn_19 hC (Nat.le_of_ble_eq_true rfl) (Nat.le_of_ble_eq_true rfl) (Nat.le_of_ble_eq_true rfl) (by assumption) (vX9_goV hC.nt h0 (a := 0) (r := 0) (t := 1) rfl rfl (by omega) (by omega) (by omega)) (zk_v (fun μ_19 m_19 => ?_))
    obtain ⟨t1, t2⟩ := m_9
    subst m_19
    refine eX9_linesOn_22 hC (fun zz => absurd zn00 zz) (fun _ => ?_)
    refine eX9_linesOn_25 hC ?_
    refine eX9_linesOn_26 hC hQ (Nat.le_of_ble_eq_true rfl) (Nat.le_of_ble_eq_true rfl) ?_
    exact zN9.nx (if_neg q) rfl (n2.t8 t2) ((zagnw n3).trans (zag8 t2))
