/-! ===== the reference: a whole text laid out; what it tells of lines ===== -/
theorem ztc_mono (τ : Nat → Nat) (md k : Nat) : ∀ d, ztc τ md k ≤ ztc τ md (k + d)
  | 0 => Nat.le_refl _
  | d + 1 => by
    have := ztc_mono τ md k d
    show _ ≤ ztc τ md (k + d) + zcs τ md (k + d)
    omega
def zNw (μ : zF) (m : Nat) (τ : Nat → Nat) (md : Nat) : Prop := zSu μ m τ ∧ ∀ j, j < τ 80 → μ (m + 3) j = zBv (zen τ md j)
set_option maxHeartbeats 8000000 in
theorem vX9_lays {l : Launch} {g : zG} (hl : l.stackTraces = false) {K : zK} {μ : zF} {m md : Nat} {τ : Nat → Nat} (hR : zRef K m) (hx : zSx μ m τ) (ho : zOk τ) (hz : μ (m + 4) 0 = nI 0) (hmd : md ≤ 1) : EX9_lays l g 0 0 [.ref m, .int (nI (τ 81)), .int (nI md)] K μ (zPv (nI (zct1 τ md)) K (fun μ' => zNw μ' m τ md ∧ ∀ a j, ¬ (m + 3 ≤ a ∧ a ≤ m + 7) → μ' a j = μ a j)) := by
  obtain ⟨h0, h1, h2, h3, h4, h5, h6, h7, h8, i1, i2, i3, i4, i5, i6, i7, i8⟩ := id hR
  have o1 := ho.1
  refine nX9_lays hl (fun x hC hQ => ?_)
  have loopB : ∀ (μ0 : zF), zSu μ0 m τ → (∀ a j, a ≠ m + 4 → μ0 a j = μ a j) → ∀ (d s k0 : Nat) (μ1 : zF), τ 80 - s ≤ d → s ≤ τ 80 → zL τ md k0 = s → (s < τ 80 → zps τ s ∧ zst τ md k0 = (s, s, 1)) → (∀ j, j < k0 → zL τ md j < τ 80) → (∀ j, j < s → μ1 (m + 3) j = zBv (zen τ md j)) → (∀ j, s ≤ j → j < 40 → μ1 (m + 3) j = nI 0) → (∀ a j, a ≠ m + 3 → ¬ (m + 5 ≤ a ∧ a ≤ m + 7) → μ1 a j = μ0 a j) →
      zV x 0 0 30 [some (.ref m), some (.int (nI (τ 81))), some (.int (nI md)), some (.int (nI (ztc τ md k0))), some (.int (nI s)), none] [] K μ1 := by
    intro μ0 hu0 hf0 d
    induction d with
    | zero =>
      intro s k0 μ1 hd hs hL0 hst hlt hend hz1 hf
      obtain rfl : s = τ 80 := by omega
      have e80 : μ1 (m + 1) 80 = nI (τ 80) := ((hf _ _ (by omega) (by omega)).trans (hf0 _ _ (by omega))).trans (hx.2 80 (by omega) (by omega) (by omega))
      have hzm : zm τ md = k0 := zm_eq hL0 hlt
      refine eX9_lays_30 hC ?_
      refine eX9_lays_32 hC ?_
      refine eX9_lays_33 hC (by assumption) (by assumption) ?_
      refine eX9_lays_36 hC ?_
      refine eX9_lays_38 hC (by assumption) (vp_in_nI (by omega) (by omega)) ?_
      rw [nI_clamp (by omega), e80]
      refine eX9_lays_39 hC (fun _ => ?_) (fun zz => absurd (nI_le (Nat.le_refl _) (by omega)) zz)
      refine eX9_lays_94 hC ?_
      refine eX9_lays_95 hC hQ (Nat.le_of_ble_eq_true rfl) (Nat.le_of_ble_eq_true rfl) ?_
      refine ⟨by unfold zct1; rw [hzm], rfl, ⟨hu0.eq (fun j => hf _ _ (by omega) (by omega)), hend⟩, fun a j z => (hf a j (by omega) (by omega)).trans (hf0 a j (by omega))⟩
    | succ d ih =>
      intro s k0 μ1 hd hs hL0 hst hlt hend hz1 hf
      have e80 : μ1 (m + 1) 80 = nI (τ 80) := ((hf _ _ (by omega) (by omega)).trans (hf0 _ _ (by omega))).trans (hx.2 80 (by omega) (by omega) (by omega))
      have hx1 : zSx μ1 m τ := hx.eq (fun j => (hf _ _ (by omega) (by omega)).trans (hf0 _ _ (by omega)))
      have hu1 : zSu μ1 m τ := hu0.eq (fun j => hf _ _ (by omega) (by omega))
      by_cases cs : s = τ 80
      · subst cs
        have hzm : zm τ md = k0 := zm_eq hL0 hlt
        refine eX9_lays_30 hC ?_
        refine eX9_lays_32 hC ?_
        refine eX9_lays_33 hC (by assumption) (by assumption) ?_
        refine eX9_lays_36 hC ?_
        refine eX9_lays_38 hC (by assumption) (vp_in_nI (by omega) (by omega)) ?_
        rw [nI_clamp (by omega), e80]
        refine eX9_lays_39 hC (fun _ => ?_) (fun zz => absurd (nI_le (Nat.le_refl _) (by omega)) zz)
        refine eX9_lays_94 hC ?_
        refine eX9_lays_95 hC hQ (Nat.le_of_ble_eq_true rfl) (Nat.le_of_ble_eq_true rfl) ?_
        refine ⟨by unfold zct1; rw [hzm], rfl, ⟨hu1, hend⟩, fun a j z => (hf a j (by omega) (by omega)).trans (hf0 a j (by omega))⟩
      · obtain ⟨hps, hk0⟩ := hst (by omega)
        obtain ⟨k1, q1, q2, q3, q4⟩ := zpar_end (md := md) (by omega) hps hL0
        obtain ⟨p1, p2, p3, p4⟩ := zpd_is (show s < τ 80 by omega)
        have hmono := ztc_mono τ md k0 (k1 - k0)
        rw [show k0 + (k1 - k0) = k1 by omega] at hmono
        have tail : ∀ (μ2 : zF), (∀ j, s ≤ j → j < zpd τ s → μ2 (m + 3) j = zBv (zen τ md j)) → (∀ a j, ¬ (a = m + 3 ∧ s ≤ j ∧ j < zpd τ s) → ¬ (m + 5 ≤ a ∧ a ≤ m + 7) → μ2 a j = μ1 a j) → zV x 0 0 75 [some (.ref m), some (.int (nI (τ 81))), some (.int (nI md)), some (.int (nI (ztc τ md k0))), some (.int (nI s)), some (.int (nI (zpd τ s)))] [] K μ2 := by
          intro μ2 e1 e2
          have hx2 : zSx μ2 m τ := hx1.eq (fun j => e2 _ _ (by omega) (by omega))
          have hu2 : zSu μ2 m τ := hu1.eq (fun j => e2 _ _ (by omega) (by omega))
          refine eX9_lays_75 hC ?_
          refine eX9_lays_76 hC ?_
          refine eX9_lays_77 hC ?_
          refine eX9_lays_79 hC ?_
          refine eX9_lays_81 hC ?_
          refine eX9_lays_82 hC (Nat.le_of_ble_eq_true rfl) (Nat.le_of_ble_eq_true rfl) (Nat.le_of_ble_eq_true rfl) (by assumption) (vX9_costOf hC.nt hR hx2 hu2 ho hL0 hps (by omega) rfl q1 q2 q3 e1) (zk_i ?_)
          refine eX9_lays_85 hC ?_
          rw [nI_add, show ztc τ md k0 + (ztc τ md k1 - ztc τ md k0) = ztc τ md k1 by omega]
          refine eX9_lays_86 hC ?_
          refine eX9_lays_87 hC ?_
          refine eX9_lays_89 hC ?_
          refine eX9_lays_91 hC ?_
          refine zV.fg (by simp [zFg]) (ih (zpd τ s) k1 μ2 (by omega) p2 q2 (fun z => ⟨zps_pd (by omega), q4 z⟩) (fun j hj => by have := q3 j hj; omega) (fun j hj => ?_) (fun j j1 j2 => ?_) (fun a j z1 z2 => ?_))
          · rcases Nat.lt_or_ge j s with y | y
            · rw [e2 _ _ (by omega) (by omega)]; exact hend j y
            · exact e1 j y hj
          · rw [e2 _ _ (by omega) (by omega)]; exact hz1 j (by omega) j2
          · rw [e2 _ _ (by omega) z2]; exact hf a j z1 z2
        rcases (show md = 0 ∨ md = 1 by omega) with rfl | rfl
        · refine eX9_lays_30 hC ?_
          refine eX9_lays_32 hC ?_
          refine eX9_lays_33 hC (by assumption) (by assumption) ?_
          refine eX9_lays_36 hC ?_
          refine eX9_lays_38 hC (by assumption) (vp_in_nI (by omega) (by omega)) ?_
          rw [nI_clamp (by omega), e80]
          refine eX9_lays_39 hC (fun zz => absurd zz (nI_ge (by omega) (by omega))) (fun _ => ?_)
          refine eX9_lays_42 hC ?_
          refine eX9_lays_43 hC ?_
          refine eX9_lays_45 hC (Nat.le_of_ble_eq_true rfl) (Nat.le_of_ble_eq_true rfl) (Nat.le_of_ble_eq_true rfl) (by assumption) (vX9_paragraphEnd hC.nt hR hx1 ho (by omega)) (zk_i ?_)
          refine eX9_lays_48 hC ?_
          refine eX9_lays_50 hC ?_
          refine eX9_lays_51 hC (fun _ => ?_) (fun zz => absurd zn00 zz)
          refine eX9_lays_66 hC ?_
          refine eX9_lays_67 hC ?_
          refine eX9_lays_69 hC ?_
          refine eX9_lays_71 hC ?_
          refine eX9_lays_72 hC (Nat.le_of_ble_eq_true rfl) (Nat.le_of_ble_eq_true rfl) (Nat.le_of_ble_eq_true rfl) (by assumption) (vX9_laysGreedily hC.nt hR hx1 hu1 ho hL0 hps (by omega) rfl) (zk_w (fun μ_72 m_72 => ?_))
          exact tail μ_72 m_72.1 (fun a j z _ => m_72.2 a j z)
        · refine eX9_lays_30 hC ?_
          refine eX9_lays_32 hC ?_
          refine eX9_lays_33 hC (by assumption) (by assumption) ?_
          refine eX9_lays_36 hC ?_
          refine eX9_lays_38 hC (by assumption) (vp_in_nI (by omega) (by omega)) ?_
          rw [nI_clamp (by omega), e80]
          refine eX9_lays_39 hC (fun zz => absurd zz (nI_ge (by omega) (by omega))) (fun _ => ?_)
          refine eX9_lays_42 hC ?_
          refine eX9_lays_43 hC ?_
          refine eX9_lays_45 hC (Nat.le_of_ble_eq_true rfl) (Nat.le_of_ble_eq_true rfl) (Nat.le_of_ble_eq_true rfl) (by assumption) (vX9_paragraphEnd hC.nt hR hx1 ho (by omega)) (zk_i ?_)
          refine eX9_lays_48 hC ?_
          refine eX9_lays_50 hC ?_
          refine eX9_lays_51 hC (fun zz => absurd zz zn10) (fun _ => ?_)
          refine eX9_lays_54 hC ?_
          refine eX9_lays_55 hC ?_
          refine eX9_lays_57 hC ?_
          refine eX9_lays_59 hC ?_
          refine eX9_lays_60 hC (Nat.le_of_ble_eq_true rfl) (Nat.le_of_ble_eq_true rfl) (Nat.le_of_ble_eq_true rfl) (by assumption) (vX9_laysBest hC.nt hR hx1 hu1 ho hk0 hps (by omega) rfl hz1) (zk_w (fun μ_60 m_60 => ?_))
          refine eX9_lays_63 hC ?_
          exact tail μ_60 m_60.1 m_60.2
  have loopA : ∀ (μ0 : zF), zSu μ0 m τ → (∀ a j, a ≠ m + 4 → μ0 a j = μ a j) → ∀ (d k : Nat) (μ1 : zF), k + d = 40 → (∀ j, j < k → μ1 (m + 3) j = nI 0) → (∀ a j, a ≠ m + 3 → μ1 a j = μ0 a j) → zV x 0 0 6 [some (.ref m), some (.int (nI (τ 81))), some (.int (nI md)), some (.int (nI k)), none, none] [] K μ1 := by
    intro μ0 hu0 hf0 d
    induction d with
    | zero =>
      intro k μ1 hk hz1 hf
      obtain rfl : k = 40 := by omega
      refine eX9_lays_6 hC ?_
      refine eX9_lays_7 hC ?_
      refine eX9_lays_9 hC (fun _ => ?_) (fun zz => absurd (nI_le (Nat.le_refl _) (by omega)) zz)
      refine eX9_lays_25 hC ?_
      refine eX9_lays_26 hC ?_
      refine eX9_lays_27 hC ?_
      refine eX9_lays_28 hC ?_
      exact loopB μ0 hu0 hf0 (τ 80) 0 0 μ1 (by omega) (by omega) rfl (fun _ => ⟨Or.inl rfl, rfl⟩) (fun j hj => by omega) (fun j hj => by omega) (fun j _ j2 => hz1 j j2) (fun a j z _ => hf a j z)
    | succ d ih =>
      intro k μ1 hk hz1 hf
      refine eX9_lays_6 hC ?_
      refine eX9_lays_7 hC ?_
      refine eX9_lays_9 hC (fun zz => absurd zz (nI_ge (by omega) (by omega))) (fun _ => ?_)
      refine eX9_lays_12 hC ?_
      refine eX9_lays_13 hC (by assumption) (by assumption) ?_
      refine eX9_lays_16 hC ?_
      refine eX9_lays_17 hC ?_
      refine eX9_lays_18 hC (by assumption) (vp_in_nI (by omega) (by omega)) (by first | (left; rfl) | (right; rfl) | assumption) ?_
      rw [nI_clamp (by omega)]
      refine eX9_lays_19 hC ?_
      rw [nI_add]
      refine eX9_lays_22 hC ?_
      refine ih (k + 1) _ (by omega) (fun j hj => ?_) (fun a j z => (zup_a _ _ _ _ z).trans (hf a j z))
      by_cases c : j = k
      · subst c; exact zup_self _ _ _ _
      · rw [zup_k _ _ _ c]; exact hz1 j (by omega)
  refine eX9_lays_0 hC ?_
  refine eX9_lays_1 hC (Nat.le_of_ble_eq_true rfl) (Nat.le_of_ble_eq_true rfl) (Nat.le_of_ble_eq_true rfl) (by assumption) (vX9_sums hC.nt hR hx ho hz) (zk_w (fun μ_1 m_1 => ?_))
  refine eX9_lays_4 hC ?_
  refine eX9_lays_5 hC ?_
  exact loopA μ_1 m_1.1 m_1.2 40 0 μ_1 rfl (fun j hj => by omega) (fun _ _ _ => rfl)
theorem zM9.x {μ : zF} {m : Nat} {S : zMs} (h : zM9 μ m S) : zSx μ m S.1 := ⟨fun k hk => by have := h.1.1 k hk; rw [Nat.zero_add, Nat.zero_add] at this; exact this, fun k k1 k2 _ => by have := h.1.2 k k1 (by omega); rw [Nat.zero_add] at this; exact this⟩
theorem zM9.c {μ : zF} {m k : Nat} {S : zMs} (h : zM9 μ m S) (k1 : 80 ≤ k) (k2 : k < 88) : μ (m + 1) k = nI (S.1 k) := by have := h.1.2 k k1 k2; rw [Nat.zero_add] at this; exact this
theorem zM9.nw {μ μ' : zF} {m md : Nat} {S : zMs} (h : zM9 μ m S) (hn : zNw μ' m S.1 md) (hf : ∀ a j, ¬ (m + 3 ≤ a ∧ a ≤ m + 7) → μ' a j = μ a j) : zM9 μ' m S := h.fr (fun j => hf _ _ (by omega)) (hf _ _ (by omega)) (hf _ _ (by omega)) (fun j => hf _ _ (by omega)) (hn.1 0 (Nat.zero_le _))
theorem zNw.up4 {μ : zF} {m md : Nat} {τ : Nat → Nat} {v : Int32} (h : zNw μ m τ md) : zNw (zup μ m 4 v) m τ md := ⟨h.1.eq (fun j => zup_a _ _ _ _ (by omega)), fun j hj => (zup_a _ _ _ _ (by omega)).trans (h.2 j hj)⟩
theorem zagnw {μ μ' : zF} {m : Nat} (hf : ∀ a j, ¬ (m + 3 ≤ a ∧ a ≤ m + 7) → μ' a j = μ a j) : zAg μ μ' m (m + 9) := fun a j z => hf a j (by omega)
set_option maxHeartbeats 4000000 in
theorem vX9_now {l : Launch} {g : zG} (hl : l.stackTraces = false) {K : zK} {μ : zF} {m : Nat} {S : zMs} (hR : zRef K m) (hM : zM9 μ m S) (ho : zMok S) : EX9_now l g 0 0 [.ref m] K μ (zPv (nI (zct1 S.1 (S.1 87))) K (fun μ' => zNw μ' m S.1 (S.1 87) ∧ zM9 μ' m S ∧ ∀ a j, ¬ (m + 3 ≤ a ∧ a ≤ m + 7) → μ' a j = μ a j)) := by
  obtain ⟨h0, h1, h2, h3, h4, h5, h6, h7, h8, i1, i2, i3, i4, i5, i6, i7, i8⟩ := id hR
  have e81 := hM.c (k := 81) (by omega) (by omega)
  have e87 := hM.c (k := 87) (by omega) (by omega)
  have o87 := ho.1.2.2.2.2.2.2.2.2.2
  refine nX9_now hl (fun x hC hQ => ?_)
  generalize hmd : S.1 87 = md at *
  rcases (show md = 0 ∨ md = 1 by omega) with rfl | rfl
  · refine eX9_now_0 hC ?_
    refine eX9_now_1 hC ?_
    refine eX9_now_2 hC (by assumption) (by assumption) ?_
    refine eX9_now_5 hC ?_
    refine eX9_now_7 hC (by assumption) (vp_in_nI (by omega) (by omega)) ?_
    rw [nI_clamp (by omega), e81]
    refine eX9_now_8 hC ?_
    refine eX9_now_9 hC (by assumption) (by assumption) ?_
    refine eX9_now_12 hC ?_
    refine eX9_now_14 hC (by assumption) (vp_in_nI (by omega) (by omega)) ?_
    rw [nI_clamp (by omega), e87]
    refine eX9_now_15 hC ?_
    refine eX9_now_16 hC (fun _ => ?_) (fun zz => absurd zz (by decide))
    refine eX9_now_23 hC ?_
    refine eX9_now_24 hC (Nat.le_of_ble_eq_true rfl) (Nat.le_of_ble_eq_true rfl) (Nat.le_of_ble_eq_true rfl) (by assumption) (vX9_lays hC.nt hR hM.x ho.1 hM.2.2.2.2.2 (by omega)) (zk_v (fun μ_24 m_24 => ?_))
    refine eX9_now_27 hC hQ (Nat.le_of_ble_eq_true rfl) (Nat.le_of_ble_eq_true rfl) ?_
    exact ⟨rfl, rfl, m_24.1, hM.nw m_24.1 m_24.2, m_24.2⟩
  · refine eX9_now_0 hC ?_
    refine eX9_now_1 hC ?_
    refine eX9_now_2 hC (by assumption) (by assumption) ?_
    refine eX9_now_5 hC ?_
    refine eX9_now_7 hC (by assumption) (vp_in_nI (by omega) (by omega)) ?_
    rw [nI_clamp (by omega), e81]
    refine eX9_now_8 hC ?_
    refine eX9_now_9 hC (by assumption) (by assumption) ?_
    refine eX9_now_12 hC ?_
    refine eX9_now_14 hC (by assumption) (vp_in_nI (by omega) (by omega)) ?_
    rw [nI_clamp (by omega), e87]
    refine eX9_now_15 hC ?_
    refine eX9_now_16 hC (fun zz => absurd rfl zz) (fun _ => ?_)
    refine eX9_now_19 hC ?_
    refine eX9_now_20 hC ?_
    refine eX9_now_24 hC (Nat.le_of_ble_eq_true rfl) (Nat.le_of_ble_eq_true rfl) (Nat.le_of_ble_eq_true rfl) (by assumption) (vX9_lays hC.nt hR hM.x ho.1 hM.2.2.2.2.2 (by omega)) (zk_v (fun μ_24 m_24 => ?_))
    refine eX9_now_27 hC hQ (Nat.le_of_ble_eq_true rfl) (Nat.le_of_ble_eq_true rfl) ?_
    exact ⟨rfl, rfl, m_24.1, hM.nw m_24.1 m_24.2, m_24.2⟩
/-! counting the ends -/
theorem zct_zlo {τ : Nat → Nat} {md k : Nat} (hk : k < zm τ md) (h0 : zct (zen τ md) (zL τ md k) = k) : ∀ d, zL τ md k + d < zL τ md (k + 1) → zct (zen τ md) (zL τ md k + d) = k
  | 0, _ => h0
  | d + 1, hd => by
    rw [← Nat.add_assoc, zct_f (fun z => by have := (zen_in hk (by omega) (by omega)).mp z; omega)]
    exact zct_zlo hk h0 d (by omega)
theorem zct_zL {τ : Nat → Nat} {md : Nat} : ∀ k, k ≤ zm τ md → zct (zen τ md) (zL τ md k) = k
  | 0, _ => rfl
  | k + 1, hk => by
    have hkm : k < zm τ md := hk
    have h0 := zct_zL (τ := τ) (md := md) k (by omega)
    have h1 := zL_lt (zm_iff.mp hkm)
    have h2 := zct_zlo hkm h0 (zL τ md (k + 1) - 1 - zL τ md k) (by omega)
    rw [show zL τ md k + (zL τ md (k + 1) - 1 - zL τ md k) = zL τ md (k + 1) - 1 by omega] at h2
    have h3 := zct_t (p := zen τ md) (k := zL τ md (k + 1) - 1) ((zen_in hkm (by omega) (by omega)).mpr (by omega))
    rw [show zL τ md (k + 1) - 1 + 1 = zL τ md (k + 1) by omega, h2] at h3
    exact h3
theorem zct_at {τ : Nat → Nat} {md w : Nat} (h : w < τ 80) : zct (zen τ md) w = zlo τ md w := by
  obtain ⟨a1, a2, a3⟩ := zlo_is (m := md) h
  have := zct_zlo a1 (zct_zL _ (Nat.le_of_lt a1)) (w - zL τ md (zlo τ md w)) (by omega)
  rwa [show zL τ md (zlo τ md w) + (w - zL τ md (zlo τ md w)) = w by omega] at this
theorem zct_all {τ : Nat → Nat} {md : Nat} : zct (zen τ md) (τ 80) = zm τ md := by
  have := zct_zL (τ := τ) (md := md) (zm τ md) (Nat.le_refl _)
  rwa [(zm_is τ md).2.1] at this
set_option maxHeartbeats 4000000 in
theorem vX9_manyLines {l : Launch} {g : zG} (hl : l.stackTraces = false) {K : zK} {μ : zF} {m md : Nat} {τ : Nat → Nat} (hR : zRef K m) (hx : zSx μ m τ) (ho : zOk τ) (hN : zNw μ m τ md) : EX9_manyLines l g 0 0 [.ref m] K μ (zPi (nI (zm τ md)) K μ) := by
  obtain ⟨h0, h1, h2, h3, h4, h5, h6, h7, h8, i1, i2, i3, i4, i5, i6, i7, i8⟩ := id hR
  have o1 := ho.1
  have e80 := hx.2 80 (by omega) (by omega) (by omega)
  refine nX9_manyLines hl (fun x hC hQ => ?_)
  have loop : ∀ (d k : Nat), k + d = τ 80 → zV x 0 0 4 [some (.ref m), some (.int (nI (zct (zen τ md) k))), some (.int (nI k))] [] K μ := by
    intro d
    induction d with
    | zero =>
      intro k hk
      obtain rfl : k = τ 80 := by omega
      refine eX9_manyLines_4 hC ?_
      refine eX9_manyLines_5 hC ?_
      refine eX9_manyLines_6 hC (by assumption) (by assumption) ?_
      refine eX9_manyLines_9 hC ?_
      refine eX9_manyLines_11 hC (by assumption) (vp_in_nI (by omega) (by omega)) ?_
      rw [nI_clamp (by omega), e80]
      refine eX9_manyLines_12 hC (fun _ => ?_) (fun zz => absurd (nI_le (Nat.le_refl _) (by omega)) zz)
      refine eX9_manyLines_38 hC ?_
      refine eX9_manyLines_39 hC hQ (Nat.le_of_ble_eq_true rfl) (Nat.le_of_ble_eq_true rfl) ?_
      exact ⟨by rw [zct_all], rfl, rfl⟩
    | succ d ih =>
      intro k hk
      have ek := hN.2 k (by omega)
      by_cases c : zen τ md k
      · refine eX9_manyLines_4 hC ?_
        refine eX9_manyLines_5 hC ?_
        refine eX9_manyLines_6 hC (by assumption) (by assumption) ?_
        refine eX9_manyLines_9 hC ?_
        refine eX9_manyLines_11 hC (by assumption) (vp_in_nI (by omega) (by omega)) ?_
        rw [nI_clamp (by omega), e80]
        refine eX9_manyLines_12 hC (fun zz => absurd zz (nI_ge (by omega) (by omega))) (fun _ => ?_)
        refine eX9_manyLines_15 hC ?_
        refine eX9_manyLines_16 hC ?_
        refine eX9_manyLines_17 hC (by assumption) (by assumption) ?_
        refine eX9_manyLines_20 hC ?_
        refine eX9_manyLines_21 hC (by assumption) (vp_in_nI (by omega) (by omega)) ?_
        rw [nI_clamp (by omega), ek]
        rw [zBv_t c]
        refine eX9_manyLines_22 hC (fun zz => absurd zz zn10) (fun _ => ?_)
        refine eX9_manyLines_25 hC ?_
        refine eX9_manyLines_26 hC ?_
        refine eX9_manyLines_30 hC ?_
        rw [nI_add, ← zct_t c]
        refine eX9_manyLines_31 hC ?_
        refine eX9_manyLines_32 hC ?_
        rw [nI_add]
        refine eX9_manyLines_35 hC ?_
        exact ih (k + 1) (by omega)
      · refine eX9_manyLines_4 hC ?_
        refine eX9_manyLines_5 hC ?_
        refine eX9_manyLines_6 hC (by assumption) (by assumption) ?_
        refine eX9_manyLines_9 hC ?_
        refine eX9_manyLines_11 hC (by assumption) (vp_in_nI (by omega) (by omega)) ?_
        rw [nI_clamp (by omega), e80]
        refine eX9_manyLines_12 hC (fun zz => absurd zz (nI_ge (by omega) (by omega))) (fun _ => ?_)
        refine eX9_manyLines_15 hC ?_
        refine eX9_manyLines_16 hC ?_
        refine eX9_manyLines_17 hC (by assumption) (by assumption) ?_
        refine eX9_manyLines_20 hC ?_
        refine eX9_manyLines_21 hC (by assumption) (vp_in_nI (by omega) (by omega)) ?_
        rw [nI_clamp (by omega), ek]
        rw [zBv_f c]
        refine eX9_manyLines_22 hC (fun _ => ?_) (fun zz => absurd zn00 zz)
        refine eX9_manyLines_29 hC ?_
        refine eX9_manyLines_30 hC ?_
        rw [nI_add, Nat.add_zero, ← zct_f c]
        refine eX9_manyLines_31 hC ?_
        refine eX9_manyLines_32 hC ?_
        rw [nI_add]
        refine eX9_manyLines_35 hC ?_
        exact ih (k + 1) (by omega)
  refine eX9_manyLines_0 hC ?_
  refine eX9_manyLines_1 hC ?_
  refine eX9_manyLines_2 hC ?_
  refine eX9_manyLines_3 hC ?_
  exact loop (τ 80) 0 (by omega)
set_option maxHeartbeats 4000000 in
theorem vX9_lineAt {l : Launch} {g : zG} (hl : l.stackTraces = false) {K : zK} {μ : zF} {m md w : Nat} {τ : Nat → Nat} (hR : zRef K m) (ho : zOk τ) (hN : zNw μ m τ md) (hw : w < τ 80) : EX9_lineAt l g 0 0 [.ref m, .int (nI w)] K μ (zPi (nI (zlo τ md w)) K μ) := by
  obtain ⟨h0, h1, h2, h3, h4, h5, h6, h7, h8, i1, i2, i3, i4, i5, i6, i7, i8⟩ := id hR
  have o1 := ho.1
  refine nX9_lineAt hl (fun x hC hQ => ?_)
  have loop : ∀ (d k : Nat), k + d = w → zV x 0 0 4 [some (.ref m), some (.int (nI w)), some (.int (nI (zct (zen τ md) k))), some (.int (nI k))] [] K μ := by
    intro d
    induction d with
    | zero =>
      intro k hk
      obtain rfl : k = w := by omega
      refine eX9_lineAt_4 hC ?_
      refine eX9_lineAt_5 hC ?_
      refine eX9_lineAt_6 hC (fun _ => ?_) (fun zz => absurd (nI_le (Nat.le_refl _) (by omega)) zz)
      refine eX9_lineAt_32 hC ?_
      refine eX9_lineAt_33 hC hQ (Nat.le_of_ble_eq_true rfl) (Nat.le_of_ble_eq_true rfl) ?_
      exact ⟨by rw [zct_at hw], rfl, rfl⟩
    | succ d ih =>
      intro k hk
      have ek := hN.2 k (by omega)
      by_cases c : zen τ md k
      · refine eX9_lineAt_4 hC ?_
        refine eX9_lineAt_5 hC ?_
        refine eX9_lineAt_6 hC (fun zz => absurd zz (nI_ge (by omega) (by omega))) (fun _ => ?_)
        refine eX9_lineAt_9 hC ?_
        refine eX9_lineAt_10 hC ?_
        refine eX9_lineAt_11 hC (by assumption) (by assumption) ?_
        refine eX9_lineAt_14 hC ?_
        refine eX9_lineAt_15 hC (by assumption) (vp_in_nI (by omega) (by omega)) ?_
        rw [nI_clamp (by omega), ek]
        rw [zBv_t c]
        refine eX9_lineAt_16 hC (fun zz => absurd zz zn10) (fun _ => ?_)
        refine eX9_lineAt_19 hC ?_
        refine eX9_lineAt_20 hC ?_
        refine eX9_lineAt_24 hC ?_
        rw [nI_add, ← zct_t c]
        refine eX9_lineAt_25 hC ?_
        refine eX9_lineAt_26 hC ?_
        rw [nI_add]
        refine eX9_lineAt_29 hC ?_
        exact ih (k + 1) (by omega)
      · refine eX9_lineAt_4 hC ?_
        refine eX9_lineAt_5 hC ?_
        refine eX9_lineAt_6 hC (fun zz => absurd zz (nI_ge (by omega) (by omega))) (fun _ => ?_)
        refine eX9_lineAt_9 hC ?_
        refine eX9_lineAt_10 hC ?_
        refine eX9_lineAt_11 hC (by assumption) (by assumption) ?_
        refine eX9_lineAt_14 hC ?_
        refine eX9_lineAt_15 hC (by assumption) (vp_in_nI (by omega) (by omega)) ?_
        rw [nI_clamp (by omega), ek]
        rw [zBv_f c]
        refine eX9_lineAt_16 hC (fun _ => ?_) (fun zz => absurd zn00 zz)
        refine eX9_lineAt_23 hC ?_
        refine eX9_lineAt_24 hC ?_
        rw [nI_add, Nat.add_zero, ← zct_f c]
        refine eX9_lineAt_25 hC ?_
        refine eX9_lineAt_26 hC ?_
        rw [nI_add]
        refine eX9_lineAt_29 hC ?_
        exact ih (k + 1) (by omega)
  refine eX9_lineAt_0 hC ?_
  refine eX9_lineAt_1 hC ?_
  refine eX9_lineAt_2 hC ?_
  refine eX9_lineAt_3 hC ?_
  exact loop w 0 (by omega)
set_option maxHeartbeats 4000000 in
theorem vX9_first {l : Launch} {g : zG} (hl : l.stackTraces = false) {K : zK} {μ : zF} {m md k : Nat} {τ : Nat → Nat} (hR : zRef K m) (ho : zOk τ) (hN : zNw μ m τ md) (hk : k ≤ zm τ md) : EX9_first l g 0 0 [.ref m, .int (nI k)] K μ (zPi (nI (zL τ md k)) K μ) := by
  obtain ⟨h0, h1, h2, h3, h4, h5, h6, h7, h8, i1, i2, i3, i4, i5, i6, i7, i8⟩ := id hR
  have o1 := ho.1
  have hzm := (zm_is τ md).1
  refine nX9_first hl (fun x hC hQ => ?_)
  have loop : ∀ (d j : Nat), j + d = k → zV x 0 0 4 [some (.ref m), some (.int (nI k)), some (.int (nI (zL τ md j))), some (.int (nI j))] [] K μ := by
    intro d
    induction d with
    | zero =>
      intro j hj
      obtain rfl : j = k := by omega
      refine eX9_first_4 hC ?_
      refine eX9_first_5 hC ?_
      refine eX9_first_6 hC (fun _ => ?_) (fun zz => absurd (nI_le (Nat.le_refl _) (by omega)) zz)
      refine eX9_first_21 hC ?_
      refine eX9_first_22 hC hQ (Nat.le_of_ble_eq_true rfl) (Nat.le_of_ble_eq_true rfl) ?_
      exact ⟨rfl, rfl, rfl⟩
    | succ d ih =>
      intro j hj
      have hn := zL_le τ md (j + 1)
      refine eX9_first_4 hC ?_
      refine eX9_first_5 hC ?_
      refine eX9_first_6 hC (fun zz => absurd zz (nI_ge (by omega) (by omega))) (fun _ => ?_)
      refine eX9_first_9 hC ?_
      refine eX9_first_10 hC ?_
      refine eX9_first_11 hC (Nat.le_of_ble_eq_true rfl) (Nat.le_of_ble_eq_true rfl) (Nat.le_of_ble_eq_true rfl) (by assumption) (vX9_lineEnd hC.nt hR ho (show j < zm τ md by omega) rfl (fun i _ i2 => hN.2 i (by omega))) (zk_i ?_)
      refine eX9_first_14 hC ?_
      refine eX9_first_15 hC ?_
      rw [nI_add]
      refine eX9_first_18 hC ?_
      exact ih (j + 1) (by omega)
  refine eX9_first_0 hC ?_
  refine eX9_first_1 hC ?_
  refine eX9_first_2 hC ?_
  refine eX9_first_3 hC ?_
  exact loop k 0 (by omega)
set_option maxHeartbeats 4000000 in
theorem vX9_isLine {l : Launch} {g : zG} (hl : l.stackTraces = false) {K : zK} {μ : zF} {m : Nat} {S : zMs} {i : Int32} (hR : zRef K m) (hM : zM9 μ m S) (ho : zMok S) : EX9_isLine l g 0 0 [.ref m, .int i] K μ (zPv (zBv (¬ i < 0 ∧ i < nI (zm S.1 (S.1 87)))) K (fun μ' => zNw μ' m S.1 (S.1 87) ∧ zM9 μ' m S ∧ ∀ a j, ¬ (m + 3 ≤ a ∧ a ≤ m + 7) → μ' a j = μ a j)) := by
  obtain ⟨h0, h1, h2, h3, h4, h5, h6, h7, h8, i1, i2, i3, i4, i5, i6, i7, i8⟩ := id hR
  have o1 := ho.1.1
  have hzm := (zm_is S.1 (S.1 87)).1
  refine nX9_isLine hl (fun x hC hQ => ?_)
  refine eX9_isLine_0 hC ?_
  refine eX9_isLine_1 hC (Nat.le_of_ble_eq_true rfl) (Nat.le_of_ble_eq_true rfl) (Nat.le_of_ble_eq_true rfl) (by assumption) (vX9_now hC.nt hR hM ho) (zk_v (fun μ_1 m_1 => ?_))
  obtain ⟨n1, n2, n3⟩ := m_1
  refine eX9_isLine_4 hC ?_
  refine eX9_isLine_5 hC ?_
  refine eX9_isLine_6 hC ?_
  refine eX9_isLine_7 hC ?_
  refine eX9_isLine_8 hC (Nat.le_of_ble_eq_true rfl) (Nat.le_of_ble_eq_true rfl) (Nat.le_of_ble_eq_true rfl) (by assumption) (vX9_manyLines hC.nt hR n2.x ho.1 n1) (zk_i ?_)
  refine eX9_isLine_11 hC ?_
  refine eX9_isLine_12 hC ?_
  refine eX9_isLine_13 hC (Nat.le_of_ble_eq_true rfl) (Nat.le_of_ble_eq_true rfl) (Nat.le_of_ble_eq_true rfl) (vX9_in hC.nt) (zk_i ?_)
  refine eX9_isLine_16 hC hQ (Nat.le_of_ble_eq_true rfl) (Nat.le_of_ble_eq_true rfl) (zBv_01 _) ?_
  refine ⟨?_, rfl, n1, n2, n3⟩
  rw [zBv_congr (q := ¬ i < 0 ∧ i < nI (zm S.1 (S.1 87))) (by rw [nI_0, zle1 (by omega)])]
set_option maxHeartbeats 4000000 in
theorem vX9_beginsParagraph {l : Launch} {g : zG} (hl : l.stackTraces = false) {K : zK} {μ : zF} {m w : Nat} {τ : Nat → Nat} (hR : zRef K m) (hx : zSx μ m τ) (ho : zOk τ) (hw : w < τ 80) : EX9_beginsParagraph l g 0 0 [.ref m, .int (nI w)] K μ (zPi (zBv (zps τ w)) K μ) := by
  obtain ⟨h0, h1, h2, h3, h4, h5, h6, h7, h8, i1, i2, i3, i4, i5, i6, i7, i8⟩ := id hR
  have o1 := ho.1
  refine nX9_beginsParagraph hl (fun x hC hQ => ?_)
  by_cases c0 : w = 0
  · subst c0
    refine eX9_beginsParagraph_0 hC ?_
    refine eX9_beginsParagraph_1 hC (fun _ => ?_) (fun zz => absurd zn00 zz)
    refine eX9_beginsParagraph_19 hC ?_
    refine eX9_beginsParagraph_20 hC ?_
    refine eX9_beginsParagraph_24 hC hQ (Nat.le_of_ble_eq_true rfl) (Nat.le_of_ble_eq_true rfl) (by first | (left; rfl) | (right; rfl) | assumption) ?_
    exact ⟨by rw [zBv_t (p := zps τ 0) (Or.inl rfl)], rfl, rfl⟩
  · have ek := (hx.1 (w - 1) (by omega)).2
    have m2 := ho.2.2.1 (w - 1) (by omega)
    by_cases c1 : τ (40 + (w - 1)) = 2
    · refine eX9_beginsParagraph_0 hC ?_
      refine eX9_beginsParagraph_1 hC (fun zz => absurd zz (nI_ne0 (by omega) (by omega))) (fun _ => ?_)
      refine eX9_beginsParagraph_4 hC ?_
      refine eX9_beginsParagraph_5 hC (by assumption) (by assumption) ?_
      refine eX9_beginsParagraph_8 hC ?_
      refine eX9_beginsParagraph_10 hC ?_
      refine eX9_beginsParagraph_11 hC ?_
      rw [nI_add]
      refine eX9_beginsParagraph_12 hC ?_
      refine eX9_beginsParagraph_13 hC ?_
      rw [nI_sub (by omega), show 40 + w - 1 = 40 + (w - 1) by omega]
      refine eX9_beginsParagraph_14 hC (by assumption) (vp_in_nI (by omega) (by omega)) ?_
      rw [nI_clamp (by omega), ek]
      refine eX9_beginsParagraph_15 hC ?_
      refine eX9_beginsParagraph_16 hC (fun zz => absurd (by rw [c1]) zz) (fun _ => ?_)
      refine eX9_beginsParagraph_19 hC ?_
      refine eX9_beginsParagraph_20 hC ?_
      refine eX9_beginsParagraph_24 hC hQ (Nat.le_of_ble_eq_true rfl) (Nat.le_of_ble_eq_true rfl) (by first | (left; rfl) | (right; rfl) | assumption) ?_
      exact ⟨by rw [zBv_t (p := zps τ w) (Or.inr (Or.inl c1))], rfl, rfl⟩
    · refine eX9_beginsParagraph_0 hC ?_
      refine eX9_beginsParagraph_1 hC (fun zz => absurd zz (nI_ne0 (by omega) (by omega))) (fun _ => ?_)
      refine eX9_beginsParagraph_4 hC ?_
      refine eX9_beginsParagraph_5 hC (by assumption) (by assumption) ?_
      refine eX9_beginsParagraph_8 hC ?_
      refine eX9_beginsParagraph_10 hC ?_
      refine eX9_beginsParagraph_11 hC ?_
      rw [nI_add]
      refine eX9_beginsParagraph_12 hC ?_
      refine eX9_beginsParagraph_13 hC ?_
      rw [nI_sub (by omega), show 40 + w - 1 = 40 + (w - 1) by omega]
      refine eX9_beginsParagraph_14 hC (by assumption) (vp_in_nI (by omega) (by omega)) ?_
      rw [nI_clamp (by omega), ek]
      refine eX9_beginsParagraph_15 hC ?_
      refine eX9_beginsParagraph_16 hC (fun _ => ?_) (fun zz => absurd zz (fun z => c1 (nI_inj (by omega) (by omega) z)))
      refine eX9_beginsParagraph_23 hC ?_
      refine eX9_beginsParagraph_24 hC hQ (Nat.le_of_ble_eq_true rfl) (Nat.le_of_ble_eq_true rfl) (by first | (left; rfl) | (right; rfl) | assumption) ?_
      exact ⟨by rw [zBv_f (p := zps τ w) (fun z => by rcases z with z | z | z <;> omega)], rfl, rfl⟩
set_option maxHeartbeats 4000000 in
theorem vX9_isFirst {l : Launch} {g : zG} (hl : l.stackTraces = false) {K : zK} {μ : zF} {m md j : Nat} {τ : Nat → Nat} (hR : zRef K m) (hx : zSx μ m τ) (ho : zOk τ) (hN : zNw μ m τ md) (hj : j < zm τ md) : EX9_isFirst l g 0 0 [.ref m, .int (nI j)] K μ (zPi (zBv (zop τ md j)) K μ) := by
  obtain ⟨h0, h1, h2, h3, h4, h5, h6, h7, h8, i1, i2, i3, i4, i5, i6, i7, i8⟩ := id hR
  have o1 := ho.1
  have hw := zm_iff.mp hj
  have hn := zL_le τ md (j + 1)
  have hlp := zlp_iff hj
  have hle := Nat.le_trans (zL_rc hj) (zrc_pd hw)
  have hpd := (zpd_is hw).2.1
  refine nX9_isFirst hl (fun x hC hQ => ?_)
  by_cases c1 : zps τ (zL τ md j)
  · by_cases c2 : zL τ md (j + 1) = zpd τ (zL τ md j)
    · refine eX9_isFirst_0 hC ?_
      refine eX9_isFirst_1 hC ?_
      refine eX9_isFirst_2 hC (Nat.le_of_ble_eq_true rfl) (Nat.le_of_ble_eq_true rfl) (Nat.le_of_ble_eq_true rfl) (by assumption) (vX9_first hC.nt hR ho hN (by omega)) (zk_i ?_)
      refine eX9_isFirst_5 hC ?_
      refine eX9_isFirst_6 hC ?_
      refine eX9_isFirst_7 hC ?_
      refine eX9_isFirst_8 hC (Nat.le_of_ble_eq_true rfl) (Nat.le_of_ble_eq_true rfl) (Nat.le_of_ble_eq_true rfl) (by assumption) (vX9_beginsParagraph hC.nt hR hx ho hw) (zk_i ?_)
      rw [zBv_t c1]
      refine eX9_isFirst_11 hC (fun zz => absurd zz zn10) (fun _ => ?_)
      refine eX9_isFirst_14 hC ?_
      refine eX9_isFirst_15 hC ?_
      refine eX9_isFirst_16 hC (Nat.le_of_ble_eq_true rfl) (Nat.le_of_ble_eq_true rfl) (Nat.le_of_ble_eq_true rfl) (by assumption) (vX9_lineEnd hC.nt hR ho hj rfl (fun i _ i2 => hN.2 i (by omega))) (zk_i ?_)
      refine eX9_isFirst_19 hC ?_
      refine eX9_isFirst_20 hC ?_
      refine eX9_isFirst_21 hC (Nat.le_of_ble_eq_true rfl) (Nat.le_of_ble_eq_true rfl) (Nat.le_of_ble_eq_true rfl) (by assumption) (vX9_paragraphEnd hC.nt hR hx ho hw) (zk_i ?_)
      refine eX9_isFirst_24 hC (fun _ => ?_) (fun zz => absurd (by rw [c2]; exact Int32.le_refl _) zz)
      refine eX9_isFirst_31 hC ?_
      refine eX9_isFirst_32 hC hQ (Nat.le_of_ble_eq_true rfl) (Nat.le_of_ble_eq_true rfl) (by first | (left; rfl) | (right; rfl) | assumption) ?_
      exact ⟨by rw [zBv_f (p := zop τ md j) (fun z => z.2 (hlp.mpr c2))], rfl, rfl⟩
    · refine eX9_isFirst_0 hC ?_
      refine eX9_isFirst_1 hC ?_
      refine eX9_isFirst_2 hC (Nat.le_of_ble_eq_true rfl) (Nat.le_of_ble_eq_true rfl) (Nat.le_of_ble_eq_true rfl) (by assumption) (vX9_first hC.nt hR ho hN (by omega)) (zk_i ?_)
      refine eX9_isFirst_5 hC ?_
      refine eX9_isFirst_6 hC ?_
      refine eX9_isFirst_7 hC ?_
      refine eX9_isFirst_8 hC (Nat.le_of_ble_eq_true rfl) (Nat.le_of_ble_eq_true rfl) (Nat.le_of_ble_eq_true rfl) (by assumption) (vX9_beginsParagraph hC.nt hR hx ho hw) (zk_i ?_)
      rw [zBv_t c1]
      refine eX9_isFirst_11 hC (fun zz => absurd zz zn10) (fun _ => ?_)
      refine eX9_isFirst_14 hC ?_
      refine eX9_isFirst_15 hC ?_
      refine eX9_isFirst_16 hC (Nat.le_of_ble_eq_true rfl) (Nat.le_of_ble_eq_true rfl) (Nat.le_of_ble_eq_true rfl) (by assumption) (vX9_lineEnd hC.nt hR ho hj rfl (fun i _ i2 => hN.2 i (by omega))) (zk_i ?_)
      refine eX9_isFirst_19 hC ?_
      refine eX9_isFirst_20 hC ?_
      refine eX9_isFirst_21 hC (Nat.le_of_ble_eq_true rfl) (Nat.le_of_ble_eq_true rfl) (Nat.le_of_ble_eq_true rfl) (by assumption) (vX9_paragraphEnd hC.nt hR hx ho hw) (zk_i ?_)
      refine eX9_isFirst_24 hC (fun zz => absurd zz (nI_ge (by omega) (by omega))) (fun _ => ?_)
      refine eX9_isFirst_27 hC ?_
      refine eX9_isFirst_28 hC ?_
      refine eX9_isFirst_32 hC hQ (Nat.le_of_ble_eq_true rfl) (Nat.le_of_ble_eq_true rfl) (by first | (left; rfl) | (right; rfl) | assumption) ?_
      exact ⟨by rw [zBv_t (p := zop τ md j) ⟨c1, fun z => c2 (hlp.mp z)⟩], rfl, rfl⟩
  · refine eX9_isFirst_0 hC ?_
    refine eX9_isFirst_1 hC ?_
    refine eX9_isFirst_2 hC (Nat.le_of_ble_eq_true rfl) (Nat.le_of_ble_eq_true rfl) (Nat.le_of_ble_eq_true rfl) (by assumption) (vX9_first hC.nt hR ho hN (by omega)) (zk_i ?_)
    refine eX9_isFirst_5 hC ?_
    refine eX9_isFirst_6 hC ?_
    refine eX9_isFirst_7 hC ?_
    refine eX9_isFirst_8 hC (Nat.le_of_ble_eq_true rfl) (Nat.le_of_ble_eq_true rfl) (Nat.le_of_ble_eq_true rfl) (by assumption) (vX9_beginsParagraph hC.nt hR hx ho hw) (zk_i ?_)
    rw [zBv_f c1]
    refine eX9_isFirst_11 hC (fun _ => ?_) (fun zz => absurd zn00 zz)
    refine eX9_isFirst_31 hC ?_
    refine eX9_isFirst_32 hC hQ (Nat.le_of_ble_eq_true rfl) (Nat.le_of_ble_eq_true rfl) (by first | (left; rfl) | (right; rfl) | assumption) ?_
    exact ⟨by rw [zBv_f (p := zop τ md j) (fun z => c1 z.1)], rfl, rfl⟩
set_option maxHeartbeats 4000000 in
theorem vX9_isLast {l : Launch} {g : zG} (hl : l.stackTraces = false) {K : zK} {μ : zF} {m md j : Nat} {τ : Nat → Nat} (hR : zRef K m) (hx : zSx μ m τ) (ho : zOk τ) (hN : zNw μ m τ md) (hj : j < zm τ md) : EX9_isLast l g 0 0 [.ref m, .int (nI j)] K μ (zPi (zBv (zcl τ md j)) K μ) := by
  obtain ⟨h0, h1, h2, h3, h4, h5, h6, h7, h8, i1, i2, i3, i4, i5, i6, i7, i8⟩ := id hR
  have o1 := ho.1
  have hw := zm_iff.mp hj
  have hn := zL_le τ md (j + 1)
  have hlp := zlp_iff hj
  have hle := Nat.le_trans (zL_rc hj) (zrc_pd hw)
  have hpd := (zpd_is hw).2.1
  refine nX9_isLast hl (fun x hC hQ => ?_)
  by_cases c1 : zps τ (zL τ md j)
  · refine eX9_isLast_0 hC ?_
    refine eX9_isLast_1 hC ?_
    refine eX9_isLast_2 hC (Nat.le_of_ble_eq_true rfl) (Nat.le_of_ble_eq_true rfl) (Nat.le_of_ble_eq_true rfl) (by assumption) (vX9_first hC.nt hR ho hN (by omega)) (zk_i ?_)
    refine eX9_isLast_5 hC ?_
    refine eX9_isLast_6 hC ?_
    refine eX9_isLast_7 hC ?_
    refine eX9_isLast_8 hC (Nat.le_of_ble_eq_true rfl) (Nat.le_of_ble_eq_true rfl) (Nat.le_of_ble_eq_true rfl) (by assumption) (vX9_beginsParagraph hC.nt hR hx ho hw) (zk_i ?_)
    rw [zBv_t c1]
    refine eX9_isLast_11 hC (fun _ => ?_) (fun zz => absurd zz zn10)
    refine eX9_isLast_31 hC ?_
    refine eX9_isLast_32 hC hQ (Nat.le_of_ble_eq_true rfl) (Nat.le_of_ble_eq_true rfl) (by first | (left; rfl) | (right; rfl) | assumption) ?_
    exact ⟨by rw [zBv_f (p := zcl τ md j) (fun z => z.2 c1)], rfl, rfl⟩
  · by_cases c2 : zL τ md (j + 1) = zpd τ (zL τ md j)
    · refine eX9_isLast_0 hC ?_
      refine eX9_isLast_1 hC ?_
      refine eX9_isLast_2 hC (Nat.le_of_ble_eq_true rfl) (Nat.le_of_ble_eq_true rfl) (Nat.le_of_ble_eq_true rfl) (by assumption) (vX9_first hC.nt hR ho hN (by omega)) (zk_i ?_)
      refine eX9_isLast_5 hC ?_
      refine eX9_isLast_6 hC ?_
      refine eX9_isLast_7 hC ?_
      refine eX9_isLast_8 hC (Nat.le_of_ble_eq_true rfl) (Nat.le_of_ble_eq_true rfl) (Nat.le_of_ble_eq_true rfl) (by assumption) (vX9_beginsParagraph hC.nt hR hx ho hw) (zk_i ?_)
      rw [zBv_f c1]
      refine eX9_isLast_11 hC (fun zz => absurd zn00 zz) (fun _ => ?_)
      refine eX9_isLast_14 hC ?_
      refine eX9_isLast_15 hC ?_
      refine eX9_isLast_16 hC (Nat.le_of_ble_eq_true rfl) (Nat.le_of_ble_eq_true rfl) (Nat.le_of_ble_eq_true rfl) (by assumption) (vX9_lineEnd hC.nt hR ho hj rfl (fun i _ i2 => hN.2 i (by omega))) (zk_i ?_)
      refine eX9_isLast_19 hC ?_
      refine eX9_isLast_20 hC ?_
      refine eX9_isLast_21 hC (Nat.le_of_ble_eq_true rfl) (Nat.le_of_ble_eq_true rfl) (Nat.le_of_ble_eq_true rfl) (by assumption) (vX9_paragraphEnd hC.nt hR hx ho hw) (zk_i ?_)
      refine eX9_isLast_24 hC (fun zz => absurd (by rw [c2]) zz) (fun _ => ?_)
      refine eX9_isLast_27 hC ?_
      refine eX9_isLast_28 hC ?_
      refine eX9_isLast_32 hC hQ (Nat.le_of_ble_eq_true rfl) (Nat.le_of_ble_eq_true rfl) (by first | (left; rfl) | (right; rfl) | assumption) ?_
      exact ⟨by rw [zBv_t (p := zcl τ md j) ⟨hlp.mpr c2, c1⟩], rfl, rfl⟩
    · refine eX9_isLast_0 hC ?_
      refine eX9_isLast_1 hC ?_
      refine eX9_isLast_2 hC (Nat.le_of_ble_eq_true rfl) (Nat.le_of_ble_eq_true rfl) (Nat.le_of_ble_eq_true rfl) (by assumption) (vX9_first hC.nt hR ho hN (by omega)) (zk_i ?_)
      refine eX9_isLast_5 hC ?_
      refine eX9_isLast_6 hC ?_
      refine eX9_isLast_7 hC ?_
      refine eX9_isLast_8 hC (Nat.le_of_ble_eq_true rfl) (Nat.le_of_ble_eq_true rfl) (Nat.le_of_ble_eq_true rfl) (by assumption) (vX9_beginsParagraph hC.nt hR hx ho hw) (zk_i ?_)
      rw [zBv_f c1]
      refine eX9_isLast_11 hC (fun zz => absurd zn00 zz) (fun _ => ?_)
      refine eX9_isLast_14 hC ?_
      refine eX9_isLast_15 hC ?_
      refine eX9_isLast_16 hC (Nat.le_of_ble_eq_true rfl) (Nat.le_of_ble_eq_true rfl) (Nat.le_of_ble_eq_true rfl) (by assumption) (vX9_lineEnd hC.nt hR ho hj rfl (fun i _ i2 => hN.2 i (by omega))) (zk_i ?_)
      refine eX9_isLast_19 hC ?_
      refine eX9_isLast_20 hC ?_
      refine eX9_isLast_21 hC (Nat.le_of_ble_eq_true rfl) (Nat.le_of_ble_eq_true rfl) (Nat.le_of_ble_eq_true rfl) (by assumption) (vX9_paragraphEnd hC.nt hR hx ho hw) (zk_i ?_)
      refine eX9_isLast_24 hC (fun _ => ?_) (fun zz => absurd zz (fun z => c2 (nI_inj (by omega) (by omega) z)))
      refine eX9_isLast_31 hC ?_
      refine eX9_isLast_32 hC hQ (Nat.le_of_ble_eq_true rfl) (Nat.le_of_ble_eq_true rfl) (by first | (left; rfl) | (right; rfl) | assumption) ?_
      exact ⟨by rw [zBv_f (p := zcl τ md j) (fun z => c2 (hlp.mp z.1))], rfl, rfl⟩
set_option maxHeartbeats 4000000 in
theorem vX9_stairOver {l : Launch} {g : zG} (hl : l.stackTraces = false) {K : zK} {μ : zF} {m md j : Nat} {τ : Nat → Nat} (hR : zRef K m) (hx : zSx μ m τ) (ho : zOk τ) (hN : zNw μ m τ md) (hj : j < zm τ md) : EX9_stairOver l g 0 0 [.ref m, .int (nI j)] K μ (zPi (nI (zsa τ md j) - nI 1) K μ) := by
  obtain ⟨h0, h1, h2, h3, h4, h5, h6, h7, h8, i1, i2, i3, i4, i5, i6, i7, i8⟩ := id hR
  have o1 := ho.1
  have hw := zm_iff.mp hj
  have hzm := (zm_is τ md).1
  have hpd := (zpd_is hw).2.1
  refine nX9_stairOver hl (fun x hC hQ => ?_)
  by_cases c1 : zps τ (zL τ md j)
  · have hsa : zsa τ md j = 1 := by unfold zsa; rw [zif_t (show zfp τ md j ∨ zlp τ md j ∨ zlp τ md (j + 1) from Or.inl c1)]
    refine eX9_stairOver_0 hC ?_
    refine eX9_stairOver_1 hC ?_
    refine eX9_stairOver_2 hC (Nat.le_of_ble_eq_true rfl) (Nat.le_of_ble_eq_true rfl) (Nat.le_of_ble_eq_true rfl) (by assumption) (vX9_first hC.nt hR ho hN (by omega)) (zk_i ?_)
    refine eX9_stairOver_5 hC ?_
    refine eX9_stairOver_6 hC ?_
    refine eX9_stairOver_7 hC ?_
    refine eX9_stairOver_8 hC (Nat.le_of_ble_eq_true rfl) (Nat.le_of_ble_eq_true rfl) (Nat.le_of_ble_eq_true rfl) (by assumption) (vX9_beginsParagraph hC.nt hR hx ho hw) (zk_i ?_)
    rw [zBv_t c1]
    refine eX9_stairOver_11 hC (fun zz => absurd zz zn10) (fun _ => ?_)
    refine eX9_stairOver_14 hC ?_
    refine eX9_stairOver_15 hC ?_
    refine eX9_stairOver_35 hC hQ (Nat.le_of_ble_eq_true rfl) (Nat.le_of_ble_eq_true rfl) ?_
    rw [hsa]
    exact ⟨rfl, rfl, rfl⟩
  · obtain ⟨k, rfl⟩ : ∃ k, j = k + 1 := ⟨j - 1, by have := zfp_0 (j := j) c1; omega⟩
    refine eX9_stairOver_0 hC ?_
    refine eX9_stairOver_1 hC ?_
    refine eX9_stairOver_2 hC (Nat.le_of_ble_eq_true rfl) (Nat.le_of_ble_eq_true rfl) (Nat.le_of_ble_eq_true rfl) (by assumption) (vX9_first hC.nt hR ho hN (by omega)) (zk_i ?_)
    refine eX9_stairOver_5 hC ?_
    refine eX9_stairOver_6 hC ?_
    refine eX9_stairOver_7 hC ?_
    refine eX9_stairOver_8 hC (Nat.le_of_ble_eq_true rfl) (Nat.le_of_ble_eq_true rfl) (Nat.le_of_ble_eq_true rfl) (by assumption) (vX9_beginsParagraph hC.nt hR hx ho hw) (zk_i ?_)
    rw [zBv_f c1]
    refine eX9_stairOver_11 hC (fun _ => ?_) (fun zz => absurd zn00 zz)
    refine eX9_stairOver_18 hC ?_
    refine eX9_stairOver_19 hC ?_
    refine eX9_stairOver_20 hC ?_
    refine eX9_stairOver_21 hC ?_
    refine eX9_stairOver_22 hC ?_
    rw [nI_sub (by omega), Nat.add_sub_cancel]
    refine eX9_stairOver_23 hC (Nat.le_of_ble_eq_true rfl) (Nat.le_of_ble_eq_true rfl) (Nat.le_of_ble_eq_true rfl) (by assumption) (vX9_first hC.nt hR ho hN (by omega)) (zk_i ?_)
    refine eX9_stairOver_26 hC ?_
    refine eX9_stairOver_27 hC ?_
    refine eX9_stairOver_28 hC ?_
    refine eX9_stairOver_29 hC (Nat.le_of_ble_eq_true rfl) (Nat.le_of_ble_eq_true rfl) (Nat.le_of_ble_eq_true rfl) (by assumption) (vX9_paragraphEnd hC.nt hR hx ho hw) (zk_i ?_)
    refine eX9_stairOver_32 hC (Nat.le_of_ble_eq_true rfl) (Nat.le_of_ble_eq_true rfl) (Nat.le_of_ble_eq_true rfl) (by assumption) (vX9_stair hC.nt hR hx hN.1 ho hj rfl rfl rfl c1 (fun i _ i2 => hN.2 i (by omega))) (zk_i ?_)
    refine eX9_stairOver_35 hC hQ (Nat.le_of_ble_eq_true rfl) (Nat.le_of_ble_eq_true rfl) ?_
    exact ⟨rfl, rfl, rfl⟩
set_option maxHeartbeats 4000000 in
theorem vX9_manyStairs {l : Launch} {g : zG} (hl : l.stackTraces = false) {K : zK} {μ : zF} {m md : Nat} {τ : Nat → Nat} (hR : zRef K m) (hx : zSx μ m τ) (ho : zOk τ) (hN : zNw μ m τ md) : EX9_manyStairs l g 0 0 [.ref m] K μ (zPi (nI (zct (fun j => zsa τ md j ≠ 1) (zm τ md))) K μ) := by
  obtain ⟨h0, h1, h2, h3, h4, h5, h6, h7, h8, i1, i2, i3, i4, i5, i6, i7, i8⟩ := id hR
  have o1 := ho.1
  have hzm := (zm_is τ md).1
  refine nX9_manyStairs hl (fun x hC hQ => ?_)
  have loop : ∀ (d k : Nat), k + d = zm τ md → zV x 0 0 4 [some (.ref m), some (.int (nI (zct (fun j => zsa τ md j ≠ 1) k))), some (.int (nI k))] [] K μ := by
    intro d
    induction d with
    | zero =>
      intro k hk
      obtain rfl : k = zm τ md := by omega
      refine eX9_manyStairs_4 hC ?_
      refine eX9_manyStairs_5 hC ?_
      refine eX9_manyStairs_6 hC (Nat.le_of_ble_eq_true rfl) (Nat.le_of_ble_eq_true rfl) (Nat.le_of_ble_eq_true rfl) (by assumption) (vX9_manyLines hC.nt hR hx ho hN) (zk_i ?_)
      refine eX9_manyStairs_9 hC (fun _ => ?_) (fun zz => absurd (nI_le (Nat.le_refl _) (by omega)) zz)
      refine eX9_manyStairs_34 hC ?_
      refine eX9_manyStairs_35 hC hQ (Nat.le_of_ble_eq_true rfl) (Nat.le_of_ble_eq_true rfl) ?_
      exact ⟨rfl, rfl, rfl⟩
    | succ d ih =>
      intro k hk
      have h2 := zsa_le τ md k
      by_cases c : zsa τ md k = 1
      · refine eX9_manyStairs_4 hC ?_
        refine eX9_manyStairs_5 hC ?_
        refine eX9_manyStairs_6 hC (Nat.le_of_ble_eq_true rfl) (Nat.le_of_ble_eq_true rfl) (Nat.le_of_ble_eq_true rfl) (by assumption) (vX9_manyLines hC.nt hR hx ho hN) (zk_i ?_)
        refine eX9_manyStairs_9 hC (fun zz => absurd zz (nI_ge (by omega) (by omega))) (fun _ => ?_)
        refine eX9_manyStairs_12 hC ?_
        refine eX9_manyStairs_13 hC ?_
        refine eX9_manyStairs_14 hC ?_
        refine eX9_manyStairs_15 hC (Nat.le_of_ble_eq_true rfl) (Nat.le_of_ble_eq_true rfl) (Nat.le_of_ble_eq_true rfl) (by assumption) (vX9_stairOver hC.nt hR hx ho hN (by omega)) (zk_i ?_)
        rw [c]
        refine eX9_manyStairs_18 hC (fun zz => absurd (by decide) zz) (fun _ => ?_)
        refine eX9_manyStairs_21 hC ?_
        refine eX9_manyStairs_22 hC ?_
        refine eX9_manyStairs_26 hC ?_
        rw [nI_add, Nat.add_zero, ← zct_f (p := fun j => zsa τ md j ≠ 1) (fun z => z c)]
        refine eX9_manyStairs_27 hC ?_
        refine eX9_manyStairs_28 hC ?_
        rw [nI_add]
        refine eX9_manyStairs_31 hC ?_
        exact ih (k + 1) (by omega)
      · refine eX9_manyStairs_4 hC ?_
        refine eX9_manyStairs_5 hC ?_
        refine eX9_manyStairs_6 hC (Nat.le_of_ble_eq_true rfl) (Nat.le_of_ble_eq_true rfl) (Nat.le_of_ble_eq_true rfl) (by assumption) (vX9_manyLines hC.nt hR hx ho hN) (zk_i ?_)
        refine eX9_manyStairs_9 hC (fun zz => absurd zz (nI_ge (by omega) (by omega))) (fun _ => ?_)
        refine eX9_manyStairs_12 hC ?_
        refine eX9_manyStairs_13 hC ?_
        refine eX9_manyStairs_14 hC ?_
        refine eX9_manyStairs_15 hC (Nat.le_of_ble_eq_true rfl) (Nat.le_of_ble_eq_true rfl) (Nat.le_of_ble_eq_true rfl) (by assumption) (vX9_stairOver hC.nt hR hx ho hN (by omega)) (zk_i ?_)
        refine eX9_manyStairs_18 hC (fun _ => ?_) (fun zz => absurd zz (zti_0 h2 c))
        refine eX9_manyStairs_25 hC ?_
        refine eX9_manyStairs_26 hC ?_
        rw [nI_add, ← zct_t (p := fun j => zsa τ md j ≠ 1) c]
        refine eX9_manyStairs_27 hC ?_
        refine eX9_manyStairs_28 hC ?_
        rw [nI_add]
        refine eX9_manyStairs_31 hC ?_
        exact ih (k + 1) (by omega)
  refine eX9_manyStairs_0 hC ?_
  refine eX9_manyStairs_1 hC ?_
  refine eX9_manyStairs_2 hC ?_
  refine eX9_manyStairs_3 hC ?_
  exact loop (zm τ md) 0 (by omega)
theorem zct_zpd {τ : Nat → Nat} {s : Nat} (hs : s < τ 80) : zct (zpe τ) (zpd τ s) = zct (zpe τ) s + 1 := by
  obtain ⟨p1, p2, p3, p4⟩ := zpd_is hs
  have key : ∀ d, s + d < zpd τ s → zct (zpe τ) (s + d) = zct (zpe τ) s := by
    intro d
    induction d with
    | zero => intro _; rfl
    | succ d ih =>
      intro hd
      rw [← Nat.add_assoc, zct_f (p4 (s + d) (by omega) (by omega))]
      exact ih (by omega)
  have h1 := key (zpd τ s - 1 - s) (by omega)
  rw [show s + (zpd τ s - 1 - s) = zpd τ s - 1 by omega] at h1
  have h2 := zct_t p3
  rw [show zpd τ s - 1 + 1 = zpd τ s by omega, h1] at h2
  exact h2
set_option maxHeartbeats 4000000 in
theorem vX9_manyParagraphs {l : Launch} {g : zG} (hl : l.stackTraces = false) {K : zK} {μ : zF} {m : Nat} {τ : Nat → Nat} (hR : zRef K m) (hx : zSx μ m τ) (ho : zOk τ) : EX9_manyParagraphs l g 0 0 [.ref m] K μ (zPi (nI (zct (zpe τ) (τ 80))) K μ) := by
  obtain ⟨h0, h1, h2, h3, h4, h5, h6, h7, h8, i1, i2, i3, i4, i5, i6, i7, i8⟩ := id hR
  have o1 := ho.1
  have e80 := hx.2 80 (by omega) (by omega) (by omega)
  refine nX9_manyParagraphs hl (fun x hC hQ => ?_)
  have loop : ∀ (d s : Nat), τ 80 - s ≤ d → s ≤ τ 80 → zV x 0 0 4 [some (.ref m), some (.int (nI (zct (zpe τ) s))), some (.int (nI s))] [] K μ := by
    intro d
    induction d with
    | zero =>
      intro s hd hs
      obtain rfl : s = τ 80 := by omega
      refine eX9_manyParagraphs_4 hC ?_
      refine eX9_manyParagraphs_5 hC ?_
      refine eX9_manyParagraphs_6 hC (by assumption) (by assumption) ?_
      refine eX9_manyParagraphs_9 hC ?_
      refine eX9_manyParagraphs_11 hC (by assumption) (vp_in_nI (by omega) (by omega)) ?_
      rw [nI_clamp (by omega), e80]
      refine eX9_manyParagraphs_12 hC (fun _ => ?_) (fun zz => absurd (nI_le (Nat.le_refl _) (by omega)) zz)
      refine eX9_manyParagraphs_27 hC ?_
      refine eX9_manyParagraphs_28 hC hQ (Nat.le_of_ble_eq_true rfl) (Nat.le_of_ble_eq_true rfl) ?_
      exact ⟨rfl, rfl, rfl⟩
    | succ d ih =>
      intro s hd hs
      by_cases c : s = τ 80
      · subst c
        refine eX9_manyParagraphs_4 hC ?_
        refine eX9_manyParagraphs_5 hC ?_
        refine eX9_manyParagraphs_6 hC (by assumption) (by assumption) ?_
        refine eX9_manyParagraphs_9 hC ?_
        refine eX9_manyParagraphs_11 hC (by assumption) (vp_in_nI (by omega) (by omega)) ?_
        rw [nI_clamp (by omega), e80]
        refine eX9_manyParagraphs_12 hC (fun _ => ?_) (fun zz => absurd (nI_le (Nat.le_refl _) (by omega)) zz)
        refine eX9_manyParagraphs_27 hC ?_
        refine eX9_manyParagraphs_28 hC hQ (Nat.le_of_ble_eq_true rfl) (Nat.le_of_ble_eq_true rfl) ?_
        exact ⟨rfl, rfl, rfl⟩
      · obtain ⟨p1, p2, p3, p4⟩ := zpd_is (show s < τ 80 by omega)
        refine eX9_manyParagraphs_4 hC ?_
        refine eX9_manyParagraphs_5 hC ?_
        refine eX9_manyParagraphs_6 hC (by assumption) (by assumption) ?_
        refine eX9_manyParagraphs_9 hC ?_
        refine eX9_manyParagraphs_11 hC (by assumption) (vp_in_nI (by omega) (by omega)) ?_
        rw [nI_clamp (by omega), e80]
        refine eX9_manyParagraphs_12 hC (fun zz => absurd zz (nI_ge (by omega) (by omega))) (fun _ => ?_)
        refine eX9_manyParagraphs_15 hC ?_
        rw [nI_add, ← zct_zpd (by omega)]
        refine eX9_manyParagraphs_18 hC ?_
        refine eX9_manyParagraphs_19 hC ?_
        refine eX9_manyParagraphs_20 hC (Nat.le_of_ble_eq_true rfl) (Nat.le_of_ble_eq_true rfl) (Nat.le_of_ble_eq_true rfl) (by assumption) (vX9_paragraphEnd hC.nt hR hx ho (by omega)) (zk_i ?_)
        refine eX9_manyParagraphs_23 hC ?_
        refine eX9_manyParagraphs_24 hC ?_
        exact ih (zpd τ s) (by omega) p2
  refine eX9_manyParagraphs_0 hC ?_
  refine eX9_manyParagraphs_1 hC ?_
  refine eX9_manyParagraphs_2 hC ?_
  refine eX9_manyParagraphs_3 hC ?_
  exact loop (τ 80) 0 (by omega) (by omega)
set_option maxHeartbeats 4000000 in
theorem vX9_reasonOf {l : Launch} {g : zG} (hl : l.stackTraces = false) {K : zK} {μ : zF} {m md w : Nat} {τ : Nat → Nat} (hR : zRef K m) (hx : zSx μ m τ) (e81 : μ (m + 1) 81 = nI (τ 81)) (ho : zOk τ) (hN : zNw μ m τ md) (hw : w < τ 80) : EX9_reasonOf l g 0 0 [.ref m, .int (nI w)] K μ (zPi (nI (zre τ md w)) K μ) := by
  obtain ⟨h0, h1, h2, h3, h4, h5, h6, h7, h8, i1, i2, i3, i4, i5, i6, i7, i8⟩ := id hR
  have o1 := ho.1
  have o81 := ho.2.2.2.1
  have e80 := hx.2 80 (by omega) (by omega) (by omega)
  have ek := (hx.1 w hw).2
  have m2 := ho.2.2.1 w hw
  obtain ⟨a1, a2, a3⟩ := zlo_is (m := md) hw
  have hze := zen_in a1 a2 a3
  have ee := hN.2 w hw
  refine nX9_reasonOf hl (fun x hC hQ => ?_)
  by_cases c1 : zen τ md w
  · have q1 := (hze.mp c1).symm
    by_cases c2 : w + 1 = τ 80
    · have hz : zre τ md w = 1 := by unfold zre; rw [if_pos q1, zif_t (show zpe τ w from Or.inr c2)]
      refine eX9_reasonOf_0 hC ?_
      refine eX9_reasonOf_1 hC (by assumption) (by assumption) ?_
      refine eX9_reasonOf_4 hC ?_
      refine eX9_reasonOf_5 hC (by assumption) (vp_in_nI (by omega) (by omega)) ?_
      rw [nI_clamp (by omega), ee]
      rw [zBv_t c1]
      refine eX9_reasonOf_6 hC (fun _ => ?_) (fun zz => absurd zz zn10)
      refine eX9_reasonOf_11 hC ?_
      refine eX9_reasonOf_12 hC ?_
      refine eX9_reasonOf_13 hC (by assumption) (by assumption) ?_
      refine eX9_reasonOf_16 hC ?_
      refine eX9_reasonOf_18 hC (by assumption) (vp_in_nI (by omega) (by omega)) ?_
      rw [nI_clamp (by omega), e80]
      refine eX9_reasonOf_19 hC ?_
      refine eX9_reasonOf_20 hC ?_
      rw [nI_sub (by omega), show τ 80 - 1 = w by omega]
      refine eX9_reasonOf_21 hC (fun _ => ?_) (fun zz => absurd rfl zz)
      refine eX9_reasonOf_37 hC ?_
      refine eX9_reasonOf_38 hC hQ (Nat.le_of_ble_eq_true rfl) (Nat.le_of_ble_eq_true rfl) ?_
      exact ⟨by rw [hz], rfl, rfl⟩
    · by_cases c3 : τ (40 + w) = 2
      · have hz : zre τ md w = 1 := by unfold zre; rw [if_pos q1, zif_t (show zpe τ w from Or.inl c3)]
        refine eX9_reasonOf_0 hC ?_
        refine eX9_reasonOf_1 hC (by assumption) (by assumption) ?_
        refine eX9_reasonOf_4 hC ?_
        refine eX9_reasonOf_5 hC (by assumption) (vp_in_nI (by omega) (by omega)) ?_
        rw [nI_clamp (by omega), ee]
        rw [zBv_t c1]
        refine eX9_reasonOf_6 hC (fun _ => ?_) (fun zz => absurd zz zn10)
        refine eX9_reasonOf_11 hC ?_
        refine eX9_reasonOf_12 hC ?_
        refine eX9_reasonOf_13 hC (by assumption) (by assumption) ?_
        refine eX9_reasonOf_16 hC ?_
        refine eX9_reasonOf_18 hC (by assumption) (vp_in_nI (by omega) (by omega)) ?_
        rw [nI_clamp (by omega), e80]
        refine eX9_reasonOf_19 hC ?_
        refine eX9_reasonOf_20 hC ?_
        rw [nI_sub (by omega)]
        refine eX9_reasonOf_21 hC (fun zz => absurd zz (fun z => by have := nI_inj (by omega) (by omega) z; omega)) (fun _ => ?_)
        refine eX9_reasonOf_24 hC ?_
        refine eX9_reasonOf_25 hC (by assumption) (by assumption) ?_
        refine eX9_reasonOf_28 hC ?_
        refine eX9_reasonOf_30 hC ?_
        refine eX9_reasonOf_31 hC ?_
        rw [nI_add]
        refine eX9_reasonOf_32 hC (by assumption) (vp_in_nI (by omega) (by omega)) ?_
        rw [nI_clamp (by omega), ek]
        refine eX9_reasonOf_33 hC ?_
        refine eX9_reasonOf_34 hC (fun zz => absurd (by rw [c3]) zz) (fun _ => ?_)
        refine eX9_reasonOf_37 hC ?_
        refine eX9_reasonOf_38 hC hQ (Nat.le_of_ble_eq_true rfl) (Nat.le_of_ble_eq_true rfl) ?_
        exact ⟨by rw [hz], rfl, rfl⟩
      · have hnp : ¬ zpe τ w := fun z => z.elim c3 c2
        by_cases c4 : τ (40 + w) = 1
        · have hz : zre τ md w = 2 := by unfold zre; rw [if_pos q1, zif_f hnp, if_pos c4]
          refine eX9_reasonOf_0 hC ?_
          refine eX9_reasonOf_1 hC (by assumption) (by assumption) ?_
          refine eX9_reasonOf_4 hC ?_
          refine eX9_reasonOf_5 hC (by assumption) (vp_in_nI (by omega) (by omega)) ?_
          rw [nI_clamp (by omega), ee]
          rw [zBv_t c1]
          refine eX9_reasonOf_6 hC (fun _ => ?_) (fun zz => absurd zz zn10)
          refine eX9_reasonOf_11 hC ?_
          refine eX9_reasonOf_12 hC ?_
          refine eX9_reasonOf_13 hC (by assumption) (by assumption) ?_
          refine eX9_reasonOf_16 hC ?_
          refine eX9_reasonOf_18 hC (by assumption) (vp_in_nI (by omega) (by omega)) ?_
          rw [nI_clamp (by omega), e80]
          refine eX9_reasonOf_19 hC ?_
          refine eX9_reasonOf_20 hC ?_
          rw [nI_sub (by omega)]
          refine eX9_reasonOf_21 hC (fun zz => absurd zz (fun z => by have := nI_inj (by omega) (by omega) z; omega)) (fun _ => ?_)
          refine eX9_reasonOf_24 hC ?_
          refine eX9_reasonOf_25 hC (by assumption) (by assumption) ?_
          refine eX9_reasonOf_28 hC ?_
          refine eX9_reasonOf_30 hC ?_
          refine eX9_reasonOf_31 hC ?_
          rw [nI_add]
          refine eX9_reasonOf_32 hC (by assumption) (vp_in_nI (by omega) (by omega)) ?_
          rw [nI_clamp (by omega), ek]
          refine eX9_reasonOf_33 hC ?_
          refine eX9_reasonOf_34 hC (fun _ => ?_) (fun zz => absurd zz (fun z => c3 (nI_inj (by omega) (by omega) z)))
          refine eX9_reasonOf_39 hC ?_
          refine eX9_reasonOf_40 hC (by assumption) (by assumption) ?_
          refine eX9_reasonOf_43 hC ?_
          refine eX9_reasonOf_45 hC ?_
          refine eX9_reasonOf_46 hC ?_
          rw [nI_add]
          refine eX9_reasonOf_47 hC (by assumption) (vp_in_nI (by omega) (by omega)) ?_
          rw [nI_clamp (by omega), ek]
          refine eX9_reasonOf_48 hC ?_
          refine eX9_reasonOf_49 hC (fun zz => absurd (by rw [c4]) zz) (fun _ => ?_)
          refine eX9_reasonOf_52 hC ?_
          refine eX9_reasonOf_53 hC ?_
          refine eX9_reasonOf_87 hC hQ (Nat.le_of_ble_eq_true rfl) (Nat.le_of_ble_eq_true rfl) ?_
          exact ⟨by rw [hz], rfl, rfl⟩
        · have w1 := zwd_le ho (i := zL τ md (zlo τ md w)) (j := w + 2) (by omega)
          by_cases c5 : zwd τ (zL τ md (zlo τ md w)) (w + 2) ≤ τ 81
          · have hz : zre τ md w = 4 := by unfold zre; rw [if_pos q1, zif_f hnp, if_neg c4, if_pos c5]
            refine eX9_reasonOf_0 hC ?_
            refine eX9_reasonOf_1 hC (by assumption) (by assumption) ?_
            refine eX9_reasonOf_4 hC ?_
            refine eX9_reasonOf_5 hC (by assumption) (vp_in_nI (by omega) (by omega)) ?_
            rw [nI_clamp (by omega), ee]
            rw [zBv_t c1]
            refine eX9_reasonOf_6 hC (fun _ => ?_) (fun zz => absurd zz zn10)
            refine eX9_reasonOf_11 hC ?_
            refine eX9_reasonOf_12 hC ?_
            refine eX9_reasonOf_13 hC (by assumption) (by assumption) ?_
            refine eX9_reasonOf_16 hC ?_
            refine eX9_reasonOf_18 hC (by assumption) (vp_in_nI (by omega) (by omega)) ?_
            rw [nI_clamp (by omega), e80]
            refine eX9_reasonOf_19 hC ?_
            refine eX9_reasonOf_20 hC ?_
            rw [nI_sub (by omega)]
            refine eX9_reasonOf_21 hC (fun zz => absurd zz (fun z => by have := nI_inj (by omega) (by omega) z; omega)) (fun _ => ?_)
            refine eX9_reasonOf_24 hC ?_
            refine eX9_reasonOf_25 hC (by assumption) (by assumption) ?_
            refine eX9_reasonOf_28 hC ?_
            refine eX9_reasonOf_30 hC ?_
            refine eX9_reasonOf_31 hC ?_
            rw [nI_add]
            refine eX9_reasonOf_32 hC (by assumption) (vp_in_nI (by omega) (by omega)) ?_
            rw [nI_clamp (by omega), ek]
            refine eX9_reasonOf_33 hC ?_
            refine eX9_reasonOf_34 hC (fun _ => ?_) (fun zz => absurd zz (fun z => c3 (nI_inj (by omega) (by omega) z)))
            refine eX9_reasonOf_39 hC ?_
            refine eX9_reasonOf_40 hC (by assumption) (by assumption) ?_
            refine eX9_reasonOf_43 hC ?_
            refine eX9_reasonOf_45 hC ?_
            refine eX9_reasonOf_46 hC ?_
            rw [nI_add]
            refine eX9_reasonOf_47 hC (by assumption) (vp_in_nI (by omega) (by omega)) ?_
            rw [nI_clamp (by omega), ek]
            refine eX9_reasonOf_48 hC ?_
            refine eX9_reasonOf_49 hC (fun _ => ?_) (fun zz => absurd zz (fun z => c4 (nI_inj (by omega) (by omega) z)))
            refine eX9_reasonOf_56 hC ?_
            refine eX9_reasonOf_57 hC ?_
            refine eX9_reasonOf_58 hC ?_
            refine eX9_reasonOf_59 hC ?_
            refine eX9_reasonOf_60 hC (Nat.le_of_ble_eq_true rfl) (Nat.le_of_ble_eq_true rfl) (Nat.le_of_ble_eq_true rfl) (by assumption) (vX9_lineAt hC.nt hR ho hN hw) (zk_i ?_)
            refine eX9_reasonOf_63 hC (Nat.le_of_ble_eq_true rfl) (Nat.le_of_ble_eq_true rfl) (Nat.le_of_ble_eq_true rfl) (by assumption) (vX9_first hC.nt hR ho hN (by omega)) (zk_i ?_)
            refine eX9_reasonOf_66 hC ?_
            refine eX9_reasonOf_67 hC ?_
            refine eX9_reasonOf_68 hC ?_
            rw [nI_add]
            refine eX9_reasonOf_69 hC (Nat.le_of_ble_eq_true rfl) (Nat.le_of_ble_eq_true rfl) (Nat.le_of_ble_eq_true rfl) (by assumption) (vX9_width hC.nt hR hx hN.1 ho (by omega) (by omega)) (zk_i ?_)
            refine eX9_reasonOf_72 hC ?_
            refine eX9_reasonOf_73 hC (by assumption) (by assumption) ?_
            refine eX9_reasonOf_76 hC ?_
            refine eX9_reasonOf_78 hC (by assumption) (vp_in_nI (by omega) (by omega)) ?_
            rw [nI_clamp (by omega), e81]
            refine eX9_reasonOf_79 hC (fun _ => ?_) (fun zz => absurd (nI_le c5 (by omega)) zz)
            refine eX9_reasonOf_86 hC ?_
            refine eX9_reasonOf_87 hC hQ (Nat.le_of_ble_eq_true rfl) (Nat.le_of_ble_eq_true rfl) ?_
            exact ⟨by rw [hz], rfl, rfl⟩
          · have hz : zre τ md w = 3 := by unfold zre; rw [if_pos q1, zif_f hnp, if_neg c4, if_neg c5]
            refine eX9_reasonOf_0 hC ?_
            refine eX9_reasonOf_1 hC (by assumption) (by assumption) ?_
            refine eX9_reasonOf_4 hC ?_
            refine eX9_reasonOf_5 hC (by assumption) (vp_in_nI (by omega) (by omega)) ?_
            rw [nI_clamp (by omega), ee]
            rw [zBv_t c1]
            refine eX9_reasonOf_6 hC (fun _ => ?_) (fun zz => absurd zz zn10)
            refine eX9_reasonOf_11 hC ?_
            refine eX9_reasonOf_12 hC ?_
            refine eX9_reasonOf_13 hC (by assumption) (by assumption) ?_
            refine eX9_reasonOf_16 hC ?_
            refine eX9_reasonOf_18 hC (by assumption) (vp_in_nI (by omega) (by omega)) ?_
            rw [nI_clamp (by omega), e80]
            refine eX9_reasonOf_19 hC ?_
            refine eX9_reasonOf_20 hC ?_
            rw [nI_sub (by omega)]
            refine eX9_reasonOf_21 hC (fun zz => absurd zz (fun z => by have := nI_inj (by omega) (by omega) z; omega)) (fun _ => ?_)
            refine eX9_reasonOf_24 hC ?_
            refine eX9_reasonOf_25 hC (by assumption) (by assumption) ?_
            refine eX9_reasonOf_28 hC ?_
            refine eX9_reasonOf_30 hC ?_
            refine eX9_reasonOf_31 hC ?_
            rw [nI_add]
            refine eX9_reasonOf_32 hC (by assumption) (vp_in_nI (by omega) (by omega)) ?_
            rw [nI_clamp (by omega), ek]
            refine eX9_reasonOf_33 hC ?_
            refine eX9_reasonOf_34 hC (fun _ => ?_) (fun zz => absurd zz (fun z => c3 (nI_inj (by omega) (by omega) z)))
            refine eX9_reasonOf_39 hC ?_
            refine eX9_reasonOf_40 hC (by assumption) (by assumption) ?_
            refine eX9_reasonOf_43 hC ?_
            refine eX9_reasonOf_45 hC ?_
            refine eX9_reasonOf_46 hC ?_
            rw [nI_add]
            refine eX9_reasonOf_47 hC (by assumption) (vp_in_nI (by omega) (by omega)) ?_
            rw [nI_clamp (by omega), ek]
            refine eX9_reasonOf_48 hC ?_
            refine eX9_reasonOf_49 hC (fun _ => ?_) (fun zz => absurd zz (fun z => c4 (nI_inj (by omega) (by omega) z)))
            refine eX9_reasonOf_56 hC ?_
            refine eX9_reasonOf_57 hC ?_
            refine eX9_reasonOf_58 hC ?_
            refine eX9_reasonOf_59 hC ?_
            refine eX9_reasonOf_60 hC (Nat.le_of_ble_eq_true rfl) (Nat.le_of_ble_eq_true rfl) (Nat.le_of_ble_eq_true rfl) (by assumption) (vX9_lineAt hC.nt hR ho hN hw) (zk_i ?_)
            refine eX9_reasonOf_63 hC (Nat.le_of_ble_eq_true rfl) (Nat.le_of_ble_eq_true rfl) (Nat.le_of_ble_eq_true rfl) (by assumption) (vX9_first hC.nt hR ho hN (by omega)) (zk_i ?_)
            refine eX9_reasonOf_66 hC ?_
            refine eX9_reasonOf_67 hC ?_
            refine eX9_reasonOf_68 hC ?_
            rw [nI_add]
            refine eX9_reasonOf_69 hC (Nat.le_of_ble_eq_true rfl) (Nat.le_of_ble_eq_true rfl) (Nat.le_of_ble_eq_true rfl) (by assumption) (vX9_width hC.nt hR hx hN.1 ho (by omega) (by omega)) (zk_i ?_)
            refine eX9_reasonOf_72 hC ?_
            refine eX9_reasonOf_73 hC (by assumption) (by assumption) ?_
            refine eX9_reasonOf_76 hC ?_
            refine eX9_reasonOf_78 hC (by assumption) (vp_in_nI (by omega) (by omega)) ?_
            rw [nI_clamp (by omega), e81]
            refine eX9_reasonOf_79 hC (fun zz => absurd zz (nI_ge (by omega) (by omega))) (fun _ => ?_)
            refine eX9_reasonOf_82 hC ?_
            refine eX9_reasonOf_83 hC ?_
            refine eX9_reasonOf_87 hC hQ (Nat.le_of_ble_eq_true rfl) (Nat.le_of_ble_eq_true rfl) ?_
            exact ⟨by rw [hz], rfl, rfl⟩
  · have hz : zre τ md w = 0 := by unfold zre; rw [if_neg (fun z => c1 (hze.mpr z.symm))]
    refine eX9_reasonOf_0 hC ?_
    refine eX9_reasonOf_1 hC (by assumption) (by assumption) ?_
    refine eX9_reasonOf_4 hC ?_
    refine eX9_reasonOf_5 hC (by assumption) (vp_in_nI (by omega) (by omega)) ?_
    rw [nI_clamp (by omega), ee]
    rw [zBv_f c1]
    refine eX9_reasonOf_6 hC (fun zz => absurd zn00 zz) (fun _ => ?_)
    refine eX9_reasonOf_9 hC ?_
    refine eX9_reasonOf_10 hC hQ (Nat.le_of_ble_eq_true rfl) (Nat.le_of_ble_eq_true rfl) ?_
    exact ⟨by rw [hz], rfl, rfl⟩
