/-! ===== layouts ===== -/
set_option maxHeartbeats 8000000 in
theorem vX3_takeLines {l : Launch} {g : zG} (hl : l.stackTraces = false) {K : zK} {μ : zF} {y t e m : Nat} {τ : Nat → Nat} (h : zLay K y t) (hT : zTxt K t) (he : zRow K e 40) (hv : zTv μ t τ) (ho : zOk τ) (hty : t + 5 ≤ y ∨ y + 17 ≤ t) (hey : y + 5 ≤ e) (hev : ∀ k, k < zm τ m → μ (e + 1) (zL τ m k) = nI (zL τ m (k + 1))) :
    EX3_takeLines l g 0 0 [.ref y, .ref e] K μ (zPw K (fun μ' => μ' y 5 = nI (zm τ m) ∧ (∀ k, k ≤ zm τ m → μ' (y + 2) k = nI (zL τ m k)) ∧ (∀ w, w < τ 80 → μ' (y + 4) w = nI (zlo τ m w)) ∧ zAg μ μ' y (y + 5))) := by
  have hLy := h
  have hT' := hT
  obtain ⟨h0, h1, h2, h3, h4, h5, h6, h7, h8, h9⟩ := h
  obtain ⟨t0, t1, t2, t3, t4⟩ := hT
  have o1 := ho.1
  obtain ⟨m1, m2, m3⟩ := zm_is τ m
  have hL0 : zL τ m 0 = 0 := rfl
  refine nX3_takeLines hl (fun x hC hQ => ?_)
  have loop : ∀ (d w k : Nat) (μ1 : zF), w + d = τ 80 → w ≤ zL τ m k → k ≤ zm τ m → (k = 0 → w = 0) → (∀ j, j < k → zL τ m j < w) → zAg μ μ1 y (y + 5) → μ1 y 5 = nI k → (∀ j, j < k → μ1 (y + 2) j = nI (zL τ m j)) → (∀ v, v < w → μ1 (y + 4) v = nI (zlo τ m v)) →
      zV x 0 0 9 [some (.ref y), some (.ref e), some (.int (nI (zL τ m k))), some (.int (nI w))] [] K μ1 := by
    intro d
    induction d with
    | zero =>
      intro w k μ1 hw hwk hkm hk0 hkl hag h51 hst hlo
      have hw : w = τ 80 := by omega
      subst hw
      have hv1 := hv.ag hag (by omega)
      have hn : μ1 t 2 = nI (τ 80) := hv1.2.2 2 (by omega) (by omega)
      have hkm2 : k = zm τ m := by
        rcases Nat.lt_or_ge k (zm τ m) with q | q
        · have := m3 k q; omega
        · omega
      refine eX3_takeLines_9 hC ?_
      refine eX3_takeLines_10 hC ?_
      refine eX3_takeLines_11 hC (by assumption) (by assumption) ?_
      refine eX3_takeLines_14 hC (by assumption) ?_
      rw [hn]
      refine eX3_takeLines_17 hC (fun _ => ?_) (fun zz => absurd (nI_le (Nat.le_refl _) (by omega)) zz)
      refine eX3_takeLines_73 hC ?_
      refine eX3_takeLines_74 hC (by assumption) (by assumption) ?_
      refine eX3_takeLines_77 hC ?_
      refine eX3_takeLines_78 hC (by assumption) ?_
      refine eX3_takeLines_81 hC ?_
      refine eX3_takeLines_82 hC (by assumption) (by assumption) ?_
      refine eX3_takeLines_85 hC (by assumption) ?_
      rw [hn, h51]
      refine eX3_takeLines_88 hC (Nat.le_of_ble_eq_true rfl) (Nat.le_of_ble_eq_true rfl) (Nat.le_of_ble_eq_true rfl) (by first | assumption | exact zRow.o (by assumption)) (vX6_put hC.nt h6) (zk_w (fun μ_88 m_88 => ?_))
      refine eX3_takeLines_91 hC hQ (Nat.le_of_ble_eq_true rfl) (Nat.le_of_ble_eq_true rfl) ?_
      rw [zpt_in (by omega) (by omega)] at m_88
      subst m_88
      refine ⟨rfl, rfl, ?_, fun j hj => ?_, fun v hv => ?_, hag.trans (zAg.up (by omega))⟩
      · rw [zup_a _ _ _ _ (by omega), h51, hkm2]
      · by_cases c : j = k
        · subst c
          rw [zup_self, hkm2, m2]
        · rw [show y + 2 = y + 1 + 1 by omega, zup_k _ _ _ c]
          exact hst j (by omega)
      · rw [zup_a _ _ _ _ (by omega)]; exact hlo v hv
    | succ d ih =>
      intro w k μ1 hw hwk hkm hk0 hkl hag h51 hst hlo
      have hv1 := hv.ag hag (by omega)
      have hn : μ1 t 2 = nI (τ 80) := hv1.2.2 2 (by omega) (by omega)
      by_cases cw : w = zL τ m k
      · have hkz : k < zm τ m := zm_iff.mpr (by omega)
        have hlt := zL_lt (τ := τ) (m := m) (k := k) (by omega)
        have hwl : zlo τ m w = k := zlo_eq (by omega) (by omega) (by omega)
        have hnz := zL_le τ m (k + 1)
        have evk : zrd 40 (μ (e + 1)) (nI w) = nI (zL τ m (k + 1)) := by
          rw [zrd_in (by omega) (by omega), cw]; exact hev k hkz
        refine eX3_takeLines_9 hC ?_
        refine eX3_takeLines_10 hC ?_
        refine eX3_takeLines_11 hC (by assumption) (by assumption) ?_
        refine eX3_takeLines_14 hC (by assumption) ?_
        rw [hn]
        refine eX3_takeLines_17 hC (fun zz => absurd zz (nI_ge (by omega) (by omega))) (fun _ => ?_)
        refine eX3_takeLines_20 hC ?_
        refine eX3_takeLines_21 hC ?_
        refine eX3_takeLines_22 hC (fun zz => absurd (by rw [cw]) zz) (fun _ => ?_)
        refine eX3_takeLines_25 hC ?_
        refine eX3_takeLines_26 hC (by assumption) (by assumption) ?_
        refine eX3_takeLines_29 hC ?_
        refine eX3_takeLines_30 hC (by assumption) ?_
        refine eX3_takeLines_33 hC ?_
        rw [h51]
        refine eX3_takeLines_34 hC (Nat.le_of_ble_eq_true rfl) (Nat.le_of_ble_eq_true rfl) (Nat.le_of_ble_eq_true rfl) (by first | assumption | exact zRow.o (by assumption)) (vX6_put hC.nt h6) (zk_w (fun μ_34 m_34 => ?_))
        rw [zpt_in (by omega) (by omega)] at m_34
        refine eX3_takeLines_37 hC ?_
        refine eX3_takeLines_38 hC ?_
        refine eX3_takeLines_39 hC (by assumption) ?_
        refine eX3_takeLines_42 hC ?_
        refine eX3_takeLines_43 hC ?_
        rw [show μ_34 y 5 = nI k by rw [m_34, zup_a _ _ _ _ (by omega)]; exact h51, nI_add]
        refine eX3_takeLines_44 hC (by assumption) ?_
        refine eX3_takeLines_47 hC ?_
        refine eX3_takeLines_48 hC ?_
        refine eX3_takeLines_49 hC (Nat.le_of_ble_eq_true rfl) (Nat.le_of_ble_eq_true rfl) (Nat.le_of_ble_eq_true rfl) (by first | assumption | exact zRow.o (by assumption)) (vX6_at hC.nt he) (zk_i ?_)
        rw [show zup μ_34 y 5 (nI (k + 1)) (e + 1) = μ (e + 1) from funext fun j => by rw [zup_a _ _ _ _ (by omega), m_34, zup_a _ _ _ _ (by omega), hag _ _ (by omega)], evk]
        refine eX3_takeLines_52 hC ?_
        refine eX3_takeLines_53 hC ?_
        refine eX3_takeLines_54 hC (by assumption) (by assumption) ?_
        refine eX3_takeLines_57 hC ?_
        refine eX3_takeLines_58 hC ?_
        refine eX3_takeLines_59 hC (by assumption) ?_
        refine eX3_takeLines_62 hC ?_
        refine eX3_takeLines_63 hC ?_
        rw [zup_self, nI_sub (by omega)]
        refine eX3_takeLines_64 hC (Nat.le_of_ble_eq_true rfl) (Nat.le_of_ble_eq_true rfl) (Nat.le_of_ble_eq_true rfl) (by first | assumption | exact zRow.o (by assumption)) (vX6_put hC.nt h7) (zk_w (fun μ_64 m_64 => ?_))
        rw [zpt_in (by omega) (by omega)] at m_64
        subst m_34
        refine eX3_takeLines_67 hC ?_
        rw [nI_add]
        refine eX3_takeLines_70 hC ?_
        refine ih (w + 1) (k + 1) μ_64 (by omega) (by omega) (by omega) (by omega) (fun j hj => ?_) ?_ ?_ (fun j hj => ?_) (fun v hv => ?_)
        · rcases Nat.eq_or_lt_of_le (show j ≤ k by omega) with z | z
          · subst z; omega
          · have := hkl j z; omega
        · rw [m_64]; exact ((hag.trans (zAg.up (by omega))).trans (zAg.up (by omega))).trans (zAg.up (by omega))
        · rw [m_64, zup_a _ _ _ _ (by omega), zup_self]
        · rw [m_64, zup_a _ _ _ _ (by omega), zup_a _ _ _ _ (by omega)]
          by_cases c : j = k
          · subst c
            rw [show y + 2 = y + 1 + 1 by omega, zup_self, cw]
          · rw [show y + 2 = y + 1 + 1 by omega, zup_k _ _ _ c]; exact hst j (by omega)
        · rw [m_64]
          by_cases c : v = w
          · subst c
            rw [show y + 4 = y + 3 + 1 by omega, zup_self, hwl]
            rfl
          · rw [show y + 4 = y + 3 + 1 by omega, zup_k _ _ _ c, zup_a _ _ _ _ (by omega), zup_a _ _ _ _ (by omega)]; exact hlo v (by omega)
      · have hk1 : 0 < k := by
          rcases Nat.eq_zero_or_pos k with q | q
          · subst q; have := hk0 rfl; omega
          · exact q
        have hwl : zlo τ m w = k - 1 := zlo_eq (by omega) (by have := hkl (k - 1) (by omega); omega) (by rw [show k - 1 + 1 = k by omega]; omega)
        have hnz := zL_le τ m k
        refine eX3_takeLines_9 hC ?_
        refine eX3_takeLines_10 hC ?_
        refine eX3_takeLines_11 hC (by assumption) (by assumption) ?_
        refine eX3_takeLines_14 hC (by assumption) ?_
        rw [hn]
        refine eX3_takeLines_17 hC (fun zz => absurd zz (nI_ge (by omega) (by omega))) (fun _ => ?_)
        refine eX3_takeLines_20 hC ?_
        refine eX3_takeLines_21 hC ?_
        refine eX3_takeLines_22 hC (fun _ => ?_) (fun zz => absurd zz (fun q => cw (nI_inj (by omega) (by omega) q)))
        refine eX3_takeLines_53 hC ?_
        refine eX3_takeLines_54 hC (by assumption) (by assumption) ?_
        refine eX3_takeLines_57 hC ?_
        refine eX3_takeLines_58 hC ?_
        refine eX3_takeLines_59 hC (by assumption) ?_
        refine eX3_takeLines_62 hC ?_
        refine eX3_takeLines_63 hC ?_
        rw [h51, nI_sub (by omega)]
        refine eX3_takeLines_64 hC (Nat.le_of_ble_eq_true rfl) (Nat.le_of_ble_eq_true rfl) (Nat.le_of_ble_eq_true rfl) (by first | assumption | exact zRow.o (by assumption)) (vX6_put hC.nt h7) (zk_w (fun μ_64 m_64 => ?_))
        rw [zpt_in (by omega) (by omega)] at m_64
        refine eX3_takeLines_67 hC ?_
        rw [nI_add]
        refine eX3_takeLines_70 hC ?_
        refine ih (w + 1) k μ_64 (by omega) (by omega) hkm (by omega) (fun j hj => ?_) ?_ ?_ (fun j hj => ?_) (fun v hv => ?_)
        · have := hkl j hj; omega
        · rw [m_64]; exact hag.trans (zAg.up (by omega))
        · rw [m_64, zup_a _ _ _ _ (by omega)]; exact h51
        · rw [m_64, zup_a _ _ _ _ (by omega)]; exact hst j hj
        · rw [m_64]
          by_cases c : v = w
          · subst c
            rw [show y + 4 = y + 3 + 1 by omega, zup_self, hwl]
          · rw [show y + 4 = y + 3 + 1 by omega, zup_k _ _ _ c]; exact hlo v (by omega)
  refine eX3_takeLines_0 hC ?_
  refine eX3_takeLines_1 hC ?_
  refine eX3_takeLines_2 hC (by assumption) ?_
  refine eX3_takeLines_5 hC ?_
  refine eX3_takeLines_6 hC ?_
  refine eX3_takeLines_7 hC ?_
  refine eX3_takeLines_8 hC ?_
  exact loop (τ 80) 0 0 _ (by omega) (by omega) (by omega) (fun _ => rfl) (fun j hj => by omega) (zAg.up (by omega)) (zup_self _ _ _ _) (fun j hj => by omega) (fun v hv => by omega)
