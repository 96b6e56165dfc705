/-! ===== layouts ===== -/
set_option maxHeartbeats 8000000 in
theorem vX3_takeLines {l : Launch} {g : zG} (hl : l.stackTraces = false) {K : zK} {μ : zF} {y t e m : Nat} {τ : Nat → Nat} (h : zLay K y t) (hT : zTxt K t) (he : zRow K e 40) (hv : zTv μ t τ) (ho : zOk τ) (hty : t + 5 ≤ y ∨ y + 17 ≤ t) (hey : y + 5 ≤ e) (hev : ∀ k, k < zm τ m → μ (e + 1) (zL τ m k) = nI (zL τ m (k + 1))) :
    EX3_takeLines l g 0 0 [.ref y, .ref e] K μ (zPw K (fun μ' => μ' y 5 = nI (zm τ m) ∧ (∀ k, k ≤ zm τ m → μ' (y + 2) k = nI (zL τ m k)) ∧ (∀ w, w < τ 80 → μ' (y + 4) w = nI (zlo τ m w)) ∧ zAg μ μ' y (y + 5))) := by
  have hLy := h
  have hT' := hT
  obtain ⟨h0, h1, h2, h3, h4, h5, h6, h7, h8, h9⟩ := h
  obtain ⟨t0, t1, t2, t3, t4⟩ := hT
  have o1 := ho.1
  obtain ⟨m1, m2, m3⟩ := zm_is τ m
  have hL0 : zL τ m 0 = 0 := rfl
  refine nX3_takeLines hl (fun x hC hQ => ?_)
  have loop : ∀ (d w k : Nat) (μ1 : zF), w + d = τ 80 → w ≤ zL τ m k → k ≤ zm τ m → (k = 0 → w = 0) → (∀ j, j < k → zL τ m j < w) → zAg μ μ1 y (y + 5) → μ1 y 5 = nI k → (∀ j, j < k → μ1 (y + 2) j = nI (zL τ m j)) → (∀ v, v < w → μ1 (y + 4) v = nI (zlo τ m v)) →
      zV x 0 0 9 [some (.ref y), some (.ref e), some (.int (nI (zL τ m k))), some (.int (nI w))] [] K μ1 := by
    intro d
    induction d with
    | zero =>
      intro w k μ1 hw hwk hkm hk0 hkl hag h51 hst hlo
      have hw : w = τ 80 := by omega
      subst hw
      have hv1 := hv.ag hag (by omega)
      have hn : μ1 t 2 = nI (τ 80) := hv1.2.2 2 (by omega) (by omega)
      have hkm2 : k = zm τ m := by
        rcases Nat.lt_or_ge k (zm τ m) with q | q
        · have := m3 k q; omega
        · omega
      refine eX3_takeLines_9 hC ?_
      refine eX3_takeLines_10 hC ?_
      refine eX3_takeLines_11 hC (by assumption) (by assumption) ?_
      refine eX3_takeLines_14 hC (by assumption) ?_
      rw [hn]
      refine eX3_takeLines_17 hC (fun _ => ?_) (fun zz => absurd (nI_le (Nat.le_refl _) (by omega)) zz)
      refine eX3_takeLines_73 hC ?_
      refine eX3_takeLines_74 hC (by assumption) (by assumption) ?_
      refine eX3_takeLines_77 hC ?_
      refine eX3_takeLines_78 hC (by assumption) ?_
      refine eX3_takeLines_81 hC ?_
      refine eX3_takeLines_82 hC (by assumption) (by assumption) ?_
      refine eX3_takeLines_85 hC (by assumption) ?_
      rw [hn, h51]
      refine eX3_takeLines_88 hC (Nat.le_of_ble_eq_true rfl) (Nat.le_of_ble_eq_true rfl) (Nat.le_of_ble_eq_true rfl) (by first | assumption | exact zRow.o (by assumption)) (vX6_put hC.nt h6) (zk_w (fun μ_88 m_88 => ?_))
      refine eX3_takeLines_91 hC hQ (Nat.le_of_ble_eq_true rfl) (Nat.le_of_ble_eq_true rfl) ?_
      rw [zpt_in (by omega) (by omega)] at m_88
      subst m_88
      refine ⟨rfl, rfl, ?_, fun j hj => ?_, fun v hv => ?_, hag.trans (zAg.up (by omega))⟩
      · rw [zup_a _ _ _ _ (by omega), h51, hkm2]
      · by_cases c : j = k
        · subst c
          rw [zup_self, hkm2, m2]
        · rw [show y + 2 = y + 1 + 1 by omega, zup_k _ _ _ c]
          exact hst j (by omega)
      · rw [zup_a _ _ _ _ (by omega)]; exact hlo v hv
    | succ d ih =>
      intro w k μ1 hw hwk hkm hk0 hkl hag h51 hst hlo
      have hv1 := hv.ag hag (by omega)
      have hn : μ1 t 2 = nI (τ 80) := hv1.2.2 2 (by omega) (by omega)
      by_cases cw : w = zL τ m k
      · have hkz : k < zm τ m := zm_iff.mpr (by omega)
        have hlt := zL_lt (τ := τ) (m := m) (k := k) (by omega)
        have hwl : zlo τ m w = k := zlo_eq (by omega) (by omega) (by omega)
        have hnz := zL_le τ m (k + 1)
        have evk : zrd 40 (μ (e + 1)) (nI w) = nI (zL τ m (k + 1)) := by
          rw [zrd_in (by omega) (by omega), cw]; exact hev k hkz
        refine eX3_takeLines_9 hC ?_
        refine eX3_takeLines_10 hC ?_
        refine eX3_takeLines_11 hC (by assumption) (by assumption) ?_
        refine eX3_takeLines_14 hC (by assumption) ?_
        rw [hn]
        refine eX3_takeLines_17 hC (fun zz => absurd zz (nI_ge (by omega) (by omega))) (fun _ => ?_)
        refine eX3_takeLines_20 hC ?_
        refine eX3_takeLines_21 hC ?_
        refine eX3_takeLines_22 hC (fun zz => absurd (by rw [cw]) zz) (fun _ => ?_)
        refine eX3_takeLines_25 hC ?_
        refine eX3_takeLines_26 hC (by assumption) (by assumption) ?_
        refine eX3_takeLines_29 hC ?_
        refine eX3_takeLines_30 hC (by assumption) ?_
        refine eX3_takeLines_33 hC ?_
        rw [h51]
        refine eX3_takeLines_34 hC (Nat.le_of_ble_eq_true rfl) (Nat.le_of_ble_eq_true rfl) (Nat.le_of_ble_eq_true rfl) (by first | assumption | exact zRow.o (by assumption)) (vX6_put hC.nt h6) (zk_w (fun μ_34 m_34 => ?_))
        rw [zpt_in (by omega) (by omega)] at m_34
        refine eX3_takeLines_37 hC ?_
        refine eX3_takeLines_38 hC ?_
        refine eX3_takeLines_39 hC (by assumption) ?_
        refine eX3_takeLines_42 hC ?_
        refine eX3_takeLines_43 hC ?_
        rw [show μ_34 y 5 = nI k by rw [m_34, zup_a _ _ _ _ (by omega)]; exact h51, nI_add]
        refine eX3_takeLines_44 hC (by assumption) ?_
        refine eX3_takeLines_47 hC ?_
        refine eX3_takeLines_48 hC ?_
        refine eX3_takeLines_49 hC (Nat.le_of_ble_eq_true rfl) (Nat.le_of_ble_eq_true rfl) (Nat.le_of_ble_eq_true rfl) (by first | assumption | exact zRow.o (by assumption)) (vX6_at hC.nt he) (zk_i ?_)
        rw [show zup μ_34 y 5 (nI (k + 1)) (e + 1) = μ (e + 1) from funext fun j => by rw [zup_a _ _ _ _ (by omega), m_34, zup_a _ _ _ _ (by omega), hag _ _ (by omega)], evk]
        refine eX3_takeLines_52 hC ?_
        refine eX3_takeLines_53 hC ?_
        refine eX3_takeLines_54 hC (by assumption) (by assumption) ?_
        refine eX3_takeLines_57 hC ?_
        refine eX3_takeLines_58 hC ?_
        refine eX3_takeLines_59 hC (by assumption) ?_
        refine eX3_takeLines_62 hC ?_
        refine eX3_takeLines_63 hC ?_
        rw [zup_self, nI_sub (by omega)]
        refine eX3_takeLines_64 hC (Nat.le_of_ble_eq_true rfl) (Nat.le_of_ble_eq_true rfl) (Nat.le_of_ble_eq_true rfl) (by first | assumption | exact zRow.o (by assumption)) (vX6_put hC.nt h7) (zk_w (fun μ_64 m_64 => ?_))
        rw [zpt_in (by omega) (by omega)] at m_64
        subst m_34
        refine eX3_takeLines_67 hC ?_
        rw [nI_add]
        refine eX3_takeLines_70 hC ?_
        refine ih (w + 1) (k + 1) μ_64 (by omega) (by omega) (by omega) (by omega) (fun j hj => ?_) ?_ ?_ (fun j hj => ?_) (fun v hv => ?_)
        · rcases Nat.eq_or_lt_of_le (show j ≤ k by omega) with z | z
          · subst z; omega
          · have := hkl j z; omega
        · rw [m_64]; exact ((hag.trans (zAg.up (by omega))).trans (zAg.up (by omega))).trans (zAg.up (by omega))
        · rw [m_64, zup_a _ _ _ _ (by omega), zup_self]
        · rw [m_64, zup_a _ _ _ _ (by omega), zup_a _ _ _ _ (by omega)]
          by_cases c : j = k
          · subst c
            rw [show y + 2 = y + 1 + 1 by omega, zup_self, cw]
          · rw [show y + 2 = y + 1 + 1 by omega, zup_k _ _ _ c]; exact hst j (by omega)
        · rw [m_64]
          by_cases c : v = w
          · subst c
            rw [show y + 4 = y + 3 + 1 by omega, zup_self, hwl]
            rfl
          · rw [show y + 4 = y + 3 + 1 by omega, zup_k _ _ _ c, zup_a _ _ _ _ (by omega), zup_a _ _ _ _ (by omega)]; exact hlo v (by omega)
      · have hk1 : 0 < k := by
          rcases Nat.eq_zero_or_pos k with q | q
          · subst q; have := hk0 rfl; omega
          · exact q
        have hwl : zlo τ m w = k - 1 := zlo_eq (by omega) (by have := hkl (k - 1) (by omega); omega) (by rw [show k - 1 + 1 = k by omega]; omega)
        have hnz := zL_le τ m k
        refine eX3_takeLines_9 hC ?_
        refine eX3_takeLines_10 hC ?_
        refine eX3_takeLines_11 hC (by assumption) (by assumption) ?_
        refine eX3_takeLines_14 hC (by assumption) ?_
        rw [hn]
        refine eX3_takeLines_17 hC (fun zz => absurd zz (nI_ge (by omega) (by omega))) (fun _ => ?_)
        refine eX3_takeLines_20 hC ?_
        refine eX3_takeLines_21 hC ?_
        refine eX3_takeLines_22 hC (fun _ => ?_) (fun zz => absurd zz (fun q => cw (nI_inj (by omega) (by omega) q)))
        refine eX3_takeLines_53 hC ?_
        refine eX3_takeLines_54 hC (by assumption) (by assumption) ?_
        refine eX3_takeLines_57 hC ?_
        refine eX3_takeLines_58 hC ?_
        refine eX3_takeLines_59 hC (by assumption) ?_
        refine eX3_takeLines_62 hC ?_
        refine eX3_takeLines_63 hC ?_
        rw [h51, nI_sub (by omega)]
        refine eX3_takeLines_64 hC (Nat.le_of_ble_eq_true rfl) (Nat.le_of_ble_eq_true rfl) (Nat.le_of_ble_eq_true rfl) (by first | assumption | exact zRow.o (by assumption)) (vX6_put hC.nt h7) (zk_w (fun μ_64 m_64 => ?_))
        rw [zpt_in (by omega) (by omega)] at m_64
        refine eX3_takeLines_67 hC ?_
        rw [nI_add]
        refine eX3_takeLines_70 hC ?_
        refine ih (w + 1) k μ_64 (by omega) (by omega) hkm (by omega) (fun j hj => ?_) ?_ ?_ (fun j hj => ?_) (fun v hv => ?_)
        · have := hkl j hj; omega
        · rw [m_64]; exact hag.trans (zAg.up (by omega))
        · rw [m_64, zup_a _ _ _ _ (by omega)]; exact h51
        · rw [m_64, zup_a _ _ _ _ (by omega)]; exact hst j hj
        · rw [m_64]
          by_cases c : v = w
          · subst c
            rw [show y + 4 = y + 3 + 1 by omega, zup_self, hwl]
          · rw [show y + 4 = y + 3 + 1 by omega, zup_k _ _ _ c]; exact hlo v (by omega)
  refine eX3_takeLines_0 hC ?_
  refine eX3_takeLines_1 hC ?_
  refine eX3_takeLines_2 hC (by assumption) ?_
  refine eX3_takeLines_5 hC ?_
  refine eX3_takeLines_6 hC ?_
  refine eX3_takeLines_7 hC ?_
  refine eX3_takeLines_8 hC ?_
  exact loop (τ 80) 0 0 _ (by omega) (by omega) (by omega) (fun _ => rfl) (fun j hj => by omega) (zAg.up (by omega)) (zup_self _ _ _ _) (fun j hj => by omega) (fun v hv => by omega)
set_option maxHeartbeats 8000000 in
theorem vX3_arrange {l : Launch} {g : zG} (hl : l.stackTraces = false) {K : zK} {μ : zF} {y t m : Nat} {τ : Nat → Nat} (h : zLay K y t) (hT : zTxt K t) (hv : zTv μ t τ) (ho : zOk τ) (hty : t + 5 ≤ y ∨ y + 17 ≤ t) (hz : μ (y + 7) 0 = nI 0) (hm : m ≤ 1) {v : Int32} (hvm : v = nI m) :
    EX3_arrange l g 0 0 [.ref y, .int v] K μ (zPw K (fun μ' => zLv μ' y τ m ∧ zAg μ μ' y (y + 17) ∧ μ' (y + 7) 0 = nI 0)) := by
  subst hvm
  have hLy := h
  have hT' := hT
  obtain ⟨h0, h1, h2, h3, h4, h5, h6, h7, h8, h9⟩ := h
  obtain ⟨t0, t1, t2, t3, t4⟩ := hT
  obtain ⟨f0, f1, f2, f3, f4, f5⟩ := id h8
  obtain ⟨q0, q1, q2, q3, q4, q5, q6, q7, q8⟩ := id h9
  have o1 := ho.1
  refine nX3_arrange hl (fun x hC hQ => ?_)
  -- the end, the row of ends given
  by_cases cm : m = 1
  · subst cm
    -- paragraph by paragraph
    have loop : ∀ (d w s k0 : Nat) (μ1 : zF), w + d = τ 80 → s ≤ w → (w = τ 80 → s = w) → (w < τ 80 → w < zpd τ s) → (s < τ 80 → zps τ s ∧ zst τ 1 k0 = (s, s, 1)) → zL τ 1 k0 = s → zAg μ μ1 y (y + 17) → zFs1 μ1 (y + 5) τ → zFs2 μ1 (y + 5) τ → (∀ k, zL τ 1 k < s → μ1 (y + 16) (zL τ 1 k) = nI (zL τ 1 (k + 1))) →
        zV x 0 0 11 [some (.ref y), some (.int (nI 1)), some (.int (nI s)), some (.int (nI w))] [] K μ1 := by
      intro d
      induction d with
      | zero =>
        intro w s k0 μ1 hw hsw hsw2 hwp hst hk0 hag hs1 hs2 hdone
        have hw : w = τ 80 := by omega
        subst hw
        have hs := hsw2 rfl
        subst hs
        have hv1 := hv.ag hag (by omega)
        have hn : μ1 t 2 = nI (τ 80) := hv1.2.2 2 (by omega) (by omega)
        refine eX3_arrange_11 hC ?_
        refine eX3_arrange_12 hC (fun zz => absurd zz zn10) (fun _ => ?_)
        refine eX3_arrange_15 hC ?_
        refine eX3_arrange_16 hC ?_
        refine eX3_arrange_17 hC (by assumption) (by assumption) ?_
        refine eX3_arrange_20 hC (by assumption) ?_
        rw [hn]
        refine eX3_arrange_23 hC (fun _ => ?_) (fun zz => absurd (nI_le (Nat.le_refl _) (by omega)) zz)
        refine eX3_arrange_58 hC ?_
        refine eX3_arrange_59 hC ?_
        refine eX3_arrange_60 hC (fun zz => absurd zz zn10) (fun _ => ?_)
        refine eX3_arrange_63 hC ?_
        refine eX3_arrange_64 hC (by assumption) (by assumption) ?_
        refine eX3_arrange_67 hC (by assumption) (by assumption) ?_
        refine eX3_arrange_70 hC ?_
        refine eX3_arrange_80 hC (Nat.le_of_ble_eq_true rfl) (Nat.le_of_ble_eq_true rfl) (Nat.le_of_ble_eq_true rfl) (by first | assumption | exact zLay.o (by assumption)) (vX3_takeLines (m := 1) hC.nt hLy hT' q8 hv1 ho hty (by omega) (fun k hk => hdone k (zm_iff.mp hk))) (zk_w (fun μ_80 m_80 => ?_))
        refine eX3_arrange_83 hC hQ (Nat.le_of_ble_eq_true rfl) (Nat.le_of_ble_eq_true rfl) ?_
        obtain ⟨w1, w2, w3, w4⟩ := m_80
        refine ⟨rfl, rfl, ⟨w1, w2, w3, fun k hk => ?_⟩, hag.trans (w4.wide (by omega) (by omega)), ?_⟩
        · rw [w4 _ _ (by omega)]; exact hs1 k hk
        · rw [w4 _ _ (by omega)]; exact hs1 0 (by omega)
      | succ d ih =>
        intro w s k0 μ1 hw hsw hsw2 hwp hst hk0 hag hs1 hs2 hdone
        have hv1 := hv.ag hag (by omega)
        have hn : μ1 t 2 = nI (τ 80) := hv1.2.2 2 (by omega) (by omega)
        obtain ⟨hps, hk⟩ := hst (by omega)
        obtain ⟨p1, p2, p3, p4⟩ := zpd_is (τ := τ) (i := s) (by omega)
        have hwp' := hwp (by omega)
        by_cases ce : zpe τ w
        · have hpe : zpd τ s = w + 1 := by
            rcases Nat.lt_or_ge (w + 1) (zpd τ s) with q | q
            · exact absurd ce (p4 w hsw q)
            · omega
          -- the chain reaches the paragraph's end
          have hex : ∃ k1, zL τ 1 k1 = w + 1 ∧ (w + 1 < τ 80 → zst τ 1 k1 = (w + 1, w + 1, 1)) := by
            have key : ∀ (d2 k : Nat), k0 ≤ k → zL τ 1 k < zpd τ s → zpd τ s - zL τ 1 k ≤ d2 → ∃ k1, zL τ 1 k1 = zpd τ s ∧ (zpd τ s < τ 80 → zst τ 1 k1 = (zpd τ s, zpd τ s, 1)) := by
              intro d2
              induction d2 with
              | zero => intro k _ a1 a2; omega
              | succ d2 ih2 =>
                intro k a0 a1 a2
                have a3 : zL τ 1 k < τ 80 := by omega
                have a4 := zL_lt a3
                have hsk : s ≤ zL τ 1 k := by rw [← hk0]; exact zL_mono' a0
                have a5 : zL τ 1 (k + 1) ≤ zpd τ s := by
                  have b1 := zL_rc (τ := τ) (m := 1) (zm_iff.mpr a3)
                  have b2 := zrc_par (by omega) hps (zL τ 1 k) a1
                  omega
                rcases Nat.eq_or_lt_of_le a5 with z | z
                · refine ⟨k + 1, z, fun q => ?_⟩
                  have e1 := zst_next (m := 1) (k := k) (b := (zst τ 1 k).1) (i := zL τ 1 k) (t := (zst τ 1 k).2.2) rfl a3
                  have e2 := zL_next (m := 1) (k := k) (b := (zst τ 1 k).1) (i := zL τ 1 k) (t := (zst τ 1 k).2.2) rfl a3
                  rw [← e2, z, zif_t (zps_pd (by omega))] at e1
                  exact e1
                · exact ih2 (k + 1) (by omega) z (by omega)
            have := key (zpd τ s) k0 (Nat.le_refl _) (by omega) (by omega)
            rwa [hpe] at this
          obtain ⟨k1, hk1, hk1s⟩ := hex
          refine eX3_arrange_11 hC ?_
          refine eX3_arrange_12 hC (fun zz => absurd zz zn10) (fun _ => ?_)
          refine eX3_arrange_15 hC ?_
          refine eX3_arrange_16 hC ?_
          refine eX3_arrange_17 hC (by assumption) (by assumption) ?_
          refine eX3_arrange_20 hC (by assumption) ?_
          rw [hn]
          refine eX3_arrange_23 hC (fun zz => absurd zz (nI_ge (by omega) (by omega))) (fun _ => ?_)
          refine eX3_arrange_26 hC ?_
          refine eX3_arrange_27 hC (by assumption) (by assumption) ?_
          refine eX3_arrange_30 hC ?_
          refine eX3_arrange_31 hC (Nat.le_of_ble_eq_true rfl) (Nat.le_of_ble_eq_true rfl) (Nat.le_of_ble_eq_true rfl) (by first | assumption | exact zTxt.o (by assumption)) (vX7_endsParagraph hC.nt hT' hv1 ho (by omega)) (zk_i ?_)
          rw [zBv_t ce]
          refine eX3_arrange_34 hC (fun zz => absurd zz zn10) (fun _ => ?_)
          refine eX3_arrange_37 hC ?_
          refine eX3_arrange_38 hC (by assumption) (by assumption) ?_
          refine eX3_arrange_41 hC ?_
          refine eX3_arrange_42 hC ?_
          refine eX3_arrange_43 hC ?_
          refine eX3_arrange_44 hC ?_
          rw [nI_add, ← hpe]
          refine eX3_arrange_45 hC (Nat.le_of_ble_eq_true rfl) (Nat.le_of_ble_eq_true rfl) (Nat.le_of_ble_eq_true rfl) (by first | assumption | exact zOpt.o (by assumption)) (vX4_solve hC.nt h9 h8 hT' hv1 hs1 hs2 ho rfl (by omega) hk hps (by omega)) (zk_w (fun μ_45 m_45 => ?_))
          obtain ⟨w1, w2, w3⟩ := m_45
          have hag2 := hag.trans (w3.wide (lo' := y) (hi' := y + 17) (by omega) (by omega))
          refine eX3_arrange_48 hC ?_
          refine eX3_arrange_49 hC ?_
          refine eX3_arrange_50 hC ?_
          rw [nI_add]
          refine eX3_arrange_51 hC ?_
          refine eX3_arrange_52 hC ?_
          rw [nI_add]
          refine eX3_arrange_55 hC ?_
          refine ih (w + 1) (w + 1) k1 μ_45 (by omega) (Nat.le_refl _) (fun _ => rfl) (fun q => (zpd_is q).1) (fun q => ⟨by rw [← hpe]; exact zps_pd (by omega), hk1s q⟩) hk1 hag2 (hs1.ag w3 (by omega)) (hs2.ag w3 (by omega)) (fun k hk2 => ?_)
          rcases Nat.lt_or_ge k k0 with z | z
          · have a1 : zL τ 1 k < s := by rw [← hk0]; exact zL_smono z (by omega)
            rw [w2 _ (fun q => by omega)]
            exact hdone k a1
          · exact w1 k z (by omega)
        · have hpe : w + 1 < zpd τ s := by
            rcases Nat.lt_or_ge (w + 1) (zpd τ s) with q | q
            · exact q
            · exact absurd (by rw [show zpd τ s - 1 = w by omega] at p3; exact p3) ce
          refine eX3_arrange_11 hC ?_
          refine eX3_arrange_12 hC (fun zz => absurd zz zn10) (fun _ => ?_)
          refine eX3_arrange_15 hC ?_
          refine eX3_arrange_16 hC ?_
          refine eX3_arrange_17 hC (by assumption) (by assumption) ?_
          refine eX3_arrange_20 hC (by assumption) ?_
          rw [hn]
          refine eX3_arrange_23 hC (fun zz => absurd zz (nI_ge (by omega) (by omega))) (fun _ => ?_)
          refine eX3_arrange_26 hC ?_
          refine eX3_arrange_27 hC (by assumption) (by assumption) ?_
          refine eX3_arrange_30 hC ?_
          refine eX3_arrange_31 hC (Nat.le_of_ble_eq_true rfl) (Nat.le_of_ble_eq_true rfl) (Nat.le_of_ble_eq_true rfl) (by first | assumption | exact zTxt.o (by assumption)) (vX7_endsParagraph hC.nt hT' hv1 ho (by omega)) (zk_i ?_)
          rw [zBv_f ce]
          refine eX3_arrange_34 hC (fun _ => ?_) (fun zz => absurd zn00 zz)
          refine eX3_arrange_52 hC ?_
          rw [nI_add]
          refine eX3_arrange_55 hC ?_
          exact ih (w + 1) s k0 μ1 (by omega) (by omega) (fun q => by omega) (fun _ => hpe) hst hk0 hag hs1 hs2 hdone
    refine eX3_arrange_0 hC ?_
    refine eX3_arrange_1 hC (by assumption) (by assumption) ?_
    refine eX3_arrange_4 hC (Nat.le_of_ble_eq_true rfl) (Nat.le_of_ble_eq_true rfl) (Nat.le_of_ble_eq_true rfl) (by first | assumption | exact zFit.o (by assumption)) (vX1_measure hC.nt h8 hT' hv ho hz (by omega)) (zk_w (fun μ_4 m_4 => ?_))
    obtain ⟨w1, w2, w3⟩ := m_4
    refine eX3_arrange_7 hC ?_
    refine eX3_arrange_8 hC ?_
    refine eX3_arrange_9 hC ?_
    refine eX3_arrange_10 hC ?_
    exact loop (τ 80) 0 0 0 μ_4 (by omega) (Nat.le_refl _) (fun q => q.symm ▸ rfl) (fun q => (zpd_is q).1) (fun q => ⟨Or.inl rfl, rfl⟩) rfl (w3.wide (by omega) (by omega)) w1 w2 (fun k hk => by omega)
  · have cm0 : m = 0 := by omega
    subst cm0
    refine eX3_arrange_0 hC ?_
    refine eX3_arrange_1 hC (by assumption) (by assumption) ?_
    refine eX3_arrange_4 hC (Nat.le_of_ble_eq_true rfl) (Nat.le_of_ble_eq_true rfl) (Nat.le_of_ble_eq_true rfl) (by first | assumption | exact zFit.o (by assumption)) (vX1_measure hC.nt h8 hT' hv ho hz (by omega)) (zk_w (fun μ_4 m_4 => ?_))
    obtain ⟨w1, w2, w3⟩ := m_4
    have hag := w3.wide (lo' := y) (hi' := y + 17) (by omega) (by omega)
    have hv1 := hv.ag hag (by omega)
    refine eX3_arrange_7 hC ?_
    refine eX3_arrange_8 hC ?_
    refine eX3_arrange_9 hC ?_
    refine eX3_arrange_10 hC ?_
    refine eX3_arrange_11 hC ?_
    refine eX3_arrange_12 hC (fun _ => ?_) (fun zz => absurd zn00 zz)
    refine eX3_arrange_58 hC ?_
    refine eX3_arrange_59 hC ?_
    refine eX3_arrange_60 hC (fun _ => ?_) (fun zz => absurd zn00 zz)
    refine eX3_arrange_73 hC ?_
    refine eX3_arrange_74 hC (by assumption) (by assumption) ?_
    refine eX3_arrange_77 hC (by assumption) (by assumption) ?_
    refine eX3_arrange_80 hC (Nat.le_of_ble_eq_true rfl) (Nat.le_of_ble_eq_true rfl) (Nat.le_of_ble_eq_true rfl) (by first | assumption | exact zLay.o (by assumption)) (vX3_takeLines (m := 0) hC.nt hLy hT' f5 hv1 ho hty (by omega) (fun k hk => by
          have q := zm_iff.mp hk
          have e := zL_next (τ := τ) (m := 0) (k := k) (b := (zst τ 0 k).1) (i := zL τ 0 k) (t := (zst τ 0 k).2.2) rfl q
          rw [e]
          exact w2 _ q)) (zk_w (fun μ_80 m_80 => ?_))
    refine eX3_arrange_83 hC hQ (Nat.le_of_ble_eq_true rfl) (Nat.le_of_ble_eq_true rfl) ?_
    obtain ⟨u1, u2, u3, u4⟩ := m_80
    refine ⟨rfl, rfl, ⟨u1, u2, u3, fun k hk => ?_⟩, hag.trans (u4.wide (by omega) (by omega)), ?_⟩
    · rw [u4 _ _ (by omega)]; exact w1 k hk
    · rw [u4 _ _ (by omega)]; exact w1 0 (by omega)
