/-! ===== the reference: greedy layouts, ends, stairs, costs ===== -/
set_option maxHeartbeats 8000000 in
theorem vX9_laysGreedily {l : Launch} {g : zG} (hl : l.stackTraces = false) {K : zK} {μ : zF} {m s k0 P : Nat} {τ : Nat → Nat} (hR : zRef K m) (hx : zSx μ m τ) (hu : zSu μ m τ) (ho : zOk τ) (hL0 : zL τ 0 k0 = s) (hps : zps τ s) (hsn : s < τ 80) (hP : zpd τ s = P) :
    EX9_laysGreedily l g 0 0 [.ref m, .int (nI s), .int (nI P), .int (nI (τ 81))] K μ (zPw K (fun μ' => (∀ j, s ≤ j → j < P → μ' (m + 3) j = zBv (zen τ 0 j)) ∧ ∀ a j, ¬ (a = m + 3 ∧ s ≤ j ∧ j < P) → μ' a j = μ a j)) := by
  obtain ⟨h0, h1, h2, h3, h4, h5, h6, h7, h8, i1, i2, i3, i4, i5, i6, i7, i8⟩ := id hR
  have o1 := ho.1
  obtain ⟨p1, p2, p3, p4⟩ := zpd_is hsn
  have hpd := zrc_par hsn hps
  have hmid : ∀ j, s ≤ j → j < P → zpd τ j = P := fun j j1 j2 => (zpd_mid hsn j1 (by omega)).trans hP
  rw [hP] at p1 p2 p3 hpd
  refine nX9_laysGreedily hl (fun x hC hQ => ?_)
  have loop : ∀ (d w k : Nat) (μ1 : zF), w + d = P → s ≤ w → k0 ≤ k → zL τ 0 k ≤ w → (w < P → w < zL τ 0 (k + 1)) → (w = P → zL τ 0 k = P) → (∀ j, s ≤ j → j < w → μ1 (m + 3) j = zBv (zen τ 0 j)) → (∀ a j, ¬ (a = m + 3 ∧ s ≤ j ∧ j < P) → μ1 a j = μ a j) →
      zV x 0 0 6 [some (.ref m), some (.int (nI s)), some (.int (nI P)), some (.int (nI (τ 81))), some (.int (nI (zL τ 0 k))), some (.int (nI w)), none] [] K μ1 := by
    intro d
    induction d with
    | zero =>
      intro w k μ1 hw hsw hk hkw hwk hwP hend hf
      obtain rfl : w = P := by omega
      refine eX9_laysGreedily_6 hC ?_
      refine eX9_laysGreedily_8 hC ?_
      refine eX9_laysGreedily_9 hC (fun _ => ?_) (fun zz => absurd (nI_le (Nat.le_refl _) (by omega)) zz)
      refine eX9_laysGreedily_72 hC hQ (Nat.le_of_ble_eq_true rfl) (Nat.le_of_ble_eq_true rfl) ?_
      exact ⟨rfl, rfl, hend, hf⟩
    | succ d ih =>
      intro w k μ1 hw hsw hk hkw hwk hwP hend hf
      have hx1 := hx.eq (fun j => hf (m + 1) j (by omega))
      have hu1 := hu.eq (fun j => hf (m + 4) j (by omega))
      have hwn := hwk (by omega)
      have hkm : k < zm τ 0 := zm_iff.mpr (by omega)
      have hsk : s ≤ zL τ 0 k := by rw [← hL0]; exact zL_mono' hk
      have hrc : zL τ 0 (k + 1) = zrc τ (zL τ 0 k) := by
        rw [zL_next (b := (zst τ 0 k).1) (i := zL τ 0 k) (t := (zst τ 0 k).2.2) rfl (zm_iff.mp hkm)]
        rfl
      have hnP : zL τ 0 (k + 1) ≤ P := by rw [hrc]; exact hpd _ (by omega)
      obtain ⟨r1, r2, r3⟩ := zrc_is τ (zL τ 0 k)
      have hze := zen_in hkm hkw hwn
      have fin1 : ∀ l6 : Option Value, w + 1 = zL τ 0 (k + 1) → zV x 0 0 39 [some (.ref m), some (.int (nI s)), some (.int (nI P)), some (.int (nI (τ 81))), some (.int (nI (zL τ 0 k))), some (.int (nI w)), l6] [.int (nI 1)] K μ1 := by
        intro l6 e
        refine eX9_laysGreedily_39 hC ?_
        refine eX9_laysGreedily_41 hC ?_
        refine eX9_laysGreedily_42 hC (by assumption) (by assumption) ?_
        refine eX9_laysGreedily_45 hC ?_
        refine eX9_laysGreedily_47 hC ?_
        refine eX9_laysGreedily_49 hC (by assumption) (vp_in_nI (by omega) (by omega)) (by first | (left; rfl) | (right; rfl) | assumption) ?_
        rw [nI_clamp (by omega)]
        refine eX9_laysGreedily_50 hC ?_
        refine eX9_laysGreedily_52 hC (fun zz => absurd zz zn10) (fun _ => ?_)
        refine eX9_laysGreedily_55 hC ?_
        refine eX9_laysGreedily_57 hC ?_
        refine eX9_laysGreedily_58 hC ?_
        rw [nI_add]
        refine eX9_laysGreedily_59 hC ?_
        refine eX9_laysGreedily_64 hC ?_
        refine eX9_laysGreedily_66 hC ?_
        rw [nI_add]
        refine eX9_laysGreedily_69 hC ?_
        rw [e]
        refine zV.fg (by simp [zFg]) (ih (zL τ 0 (k + 1)) (k + 1) _ (by omega) (by omega) (by omega) (Nat.le_refl _) (fun z => zL_lt (by omega)) (fun z => z) (fun j j1 j2 => ?_) (fun a j z => ?_))
        · by_cases c : j = w
          · subst c; rw [zup_self, zBv_t (p := zen τ 0 j) (hze.mpr e)]
          · rw [zup_k _ _ _ c]; exact hend j j1 (by omega)
        · unfold zup
          rw [if_neg (fun y => z ⟨y.1, by omega, by omega⟩)]
          exact hf a j z
      have fin0 : ∀ l6 : Option Value, w + 1 ≠ zL τ 0 (k + 1) → zV x 0 0 39 [some (.ref m), some (.int (nI s)), some (.int (nI P)), some (.int (nI (τ 81))), some (.int (nI (zL τ 0 k))), some (.int (nI w)), l6] [.int (nI 0)] K μ1 := by
        intro l6 e
        refine eX9_laysGreedily_39 hC ?_
        refine eX9_laysGreedily_41 hC ?_
        refine eX9_laysGreedily_42 hC (by assumption) (by assumption) ?_
        refine eX9_laysGreedily_45 hC ?_
        refine eX9_laysGreedily_47 hC ?_
        refine eX9_laysGreedily_49 hC (by assumption) (vp_in_nI (by omega) (by omega)) (by first | (left; rfl) | (right; rfl) | assumption) ?_
        rw [nI_clamp (by omega)]
        refine eX9_laysGreedily_50 hC ?_
        refine eX9_laysGreedily_52 hC (fun _ => ?_) (fun zz => absurd zn00 zz)
        refine eX9_laysGreedily_62 hC ?_
        refine eX9_laysGreedily_64 hC ?_
        refine eX9_laysGreedily_66 hC ?_
        rw [nI_add]
        refine eX9_laysGreedily_69 hC ?_
        refine zV.fg (by simp [zFg]) (ih (w + 1) k _ (by omega) (by omega) hk (by omega) (fun z => by omega) (fun z => by omega) (fun j j1 j2 => ?_) (fun a j z => ?_))
        · by_cases c : j = w
          · subst c; rw [zup_self, zBv_f (p := zen τ 0 j) (fun y => e (hze.mp y))]
          · rw [zup_k _ _ _ c]; exact hend j j1 (by omega)
        · unfold zup
          rw [if_neg (fun y => z ⟨y.1, by omega, by omega⟩)]
          exact hf a j z
      by_cases c1 : w + 1 = P
      · refine eX9_laysGreedily_6 hC ?_
        refine eX9_laysGreedily_8 hC ?_
        refine eX9_laysGreedily_9 hC (fun zz => absurd zz (nI_ge (by omega) (by omega))) (fun _ => ?_)
        refine eX9_laysGreedily_12 hC ?_
        refine eX9_laysGreedily_14 hC ?_
        refine eX9_laysGreedily_15 hC ?_
        refine eX9_laysGreedily_16 hC ?_
        rw [nI_sub (by omega)]
        refine eX9_laysGreedily_17 hC (fun _ => ?_) (fun zz => absurd (by rw [show P - 1 = w by omega]) zz)
        refine eX9_laysGreedily_34 hC ?_
        refine eX9_laysGreedily_35 hC ?_
        exact fin1 _ (by omega)
      · have hgr := zgo_ref ho (i := zL τ 0 k) (e := w + 1) (by omega) (by omega) (by rw [hmid _ hsk (by omega)]; omega)
        by_cases c2 : w + 1 = zL τ 0 (k + 1)
        · have hng : ¬ (τ (40 + (w + 1 - 1)) ≠ 1 ∧ zwd τ (zL τ 0 k) (w + 1 + 1) ≤ τ 81) := fun z => r2 (by rw [← hrc, ← c2]; exact hgr.mpr z)
          refine eX9_laysGreedily_6 hC ?_
          refine eX9_laysGreedily_8 hC ?_
          refine eX9_laysGreedily_9 hC (fun zz => absurd zz (nI_ge (by omega) (by omega))) (fun _ => ?_)
          refine eX9_laysGreedily_12 hC ?_
          refine eX9_laysGreedily_14 hC ?_
          refine eX9_laysGreedily_15 hC ?_
          refine eX9_laysGreedily_16 hC ?_
          rw [nI_sub (by omega)]
          refine eX9_laysGreedily_17 hC (fun zz => absurd zz (fun z => by have := nI_inj (by omega) (by omega) z; omega)) (fun _ => ?_)
          refine eX9_laysGreedily_20 hC ?_
          refine eX9_laysGreedily_21 hC ?_
          refine eX9_laysGreedily_23 hC ?_
          refine eX9_laysGreedily_25 hC ?_
          refine eX9_laysGreedily_26 hC ?_
          rw [nI_add]
          refine eX9_laysGreedily_27 hC ?_
          refine eX9_laysGreedily_28 hC (Nat.le_of_ble_eq_true rfl) (Nat.le_of_ble_eq_true rfl) (Nat.le_of_ble_eq_true rfl) (by assumption) (vX9_goesOn hC.nt hR hx1 hu1 ho (by omega) (by omega)) (zk_i ?_)
          rw [zBv_f hng]
          refine eX9_laysGreedily_31 hC (fun zz => absurd zn00 zz) (fun _ => ?_)
          refine eX9_laysGreedily_34 hC ?_
          refine eX9_laysGreedily_35 hC ?_
          exact fin1 _ c2
        · have hgo := hgr.mp (r3 (w + 1) (by omega) (by omega))
          refine eX9_laysGreedily_6 hC ?_
          refine eX9_laysGreedily_8 hC ?_
          refine eX9_laysGreedily_9 hC (fun zz => absurd zz (nI_ge (by omega) (by omega))) (fun _ => ?_)
          refine eX9_laysGreedily_12 hC ?_
          refine eX9_laysGreedily_14 hC ?_
          refine eX9_laysGreedily_15 hC ?_
          refine eX9_laysGreedily_16 hC ?_
          rw [nI_sub (by omega)]
          refine eX9_laysGreedily_17 hC (fun zz => absurd zz (fun z => by have := nI_inj (by omega) (by omega) z; omega)) (fun _ => ?_)
          refine eX9_laysGreedily_20 hC ?_
          refine eX9_laysGreedily_21 hC ?_
          refine eX9_laysGreedily_23 hC ?_
          refine eX9_laysGreedily_25 hC ?_
          refine eX9_laysGreedily_26 hC ?_
          rw [nI_add]
          refine eX9_laysGreedily_27 hC ?_
          refine eX9_laysGreedily_28 hC (Nat.le_of_ble_eq_true rfl) (Nat.le_of_ble_eq_true rfl) (Nat.le_of_ble_eq_true rfl) (by assumption) (vX9_goesOn hC.nt hR hx1 hu1 ho (by omega) (by omega)) (zk_i ?_)
          rw [zBv_t hgo]
          refine eX9_laysGreedily_31 hC (fun _ => ?_) (fun zz => absurd zz zn10)
          refine eX9_laysGreedily_38 hC ?_
          exact fin0 _ c2
  refine eX9_laysGreedily_0 hC ?_
  refine eX9_laysGreedily_1 hC ?_
  refine eX9_laysGreedily_3 hC ?_
  refine eX9_laysGreedily_4 hC ?_
  have e := loop (P - s) s k0 μ (by omega) (Nat.le_refl _) (Nat.le_refl _) (by omega) (fun z => by have := zL_lt (τ := τ) (m := 0) (k := k0) (by omega); omega) (fun z => by omega) (fun j j1 j2 => by omega) (fun _ _ _ => rfl)
  rw [hL0] at e
  exact e
set_option maxHeartbeats 4000000 in
theorem vX9_lineEnd {l : Launch} {g : zG} (hl : l.stackTraces = false) {K : zK} {μ : zF} {m k md w : Nat} {τ : Nat → Nat} (hR : zRef K m) (ho : zOk τ) (hk : k < zm τ md) (hw : zL τ md k = w) (hE : ∀ j, w ≤ j → j < zL τ md (k + 1) → μ (m + 3) j = zBv (zen τ md j)) : EX9_lineEnd l g 0 0 [.ref m, .int (nI w)] K μ (zPi (nI (zL τ md (k + 1))) K μ) := by
  obtain ⟨h0, h1, h2, h3, h4, h5, h6, h7, h8, i1, i2, i3, i4, i5, i6, i7, i8⟩ := id hR
  have o1 := ho.1
  have hn := zL_le τ md (k + 1)
  have hlt := zL_lt (zm_iff.mp hk)
  refine nX9_lineEnd hl (fun x hC hQ => ?_)
  have loop : ∀ (d j : Nat), j + d + 1 = zL τ md (k + 1) → w ≤ j → zV x 0 0 2 [some (.ref m), some (.int (nI w)), some (.int (nI j))] [] K μ := by
    intro d
    induction d with
    | zero =>
      intro j hj hwj
      refine eX9_lineEnd_2 hC ?_
      refine eX9_lineEnd_3 hC (by assumption) (by assumption) ?_
      refine eX9_lineEnd_6 hC ?_
      refine eX9_lineEnd_7 hC (by assumption) (vp_in_nI (by omega) (by omega)) ?_
      rw [nI_clamp (by omega), hE j hwj (by omega)]
      rw [zBv_t (p := zen τ md j) ((zen_in hk (by omega) (by omega)).mpr (by omega))]
      refine eX9_lineEnd_8 hC (fun _ => ?_) (fun zz => absurd zz zn10)
      refine eX9_lineEnd_17 hC ?_
      refine eX9_lineEnd_18 hC ?_
      refine eX9_lineEnd_19 hC ?_
      rw [nI_add]
      refine eX9_lineEnd_20 hC hQ (Nat.le_of_ble_eq_true rfl) (Nat.le_of_ble_eq_true rfl) ?_
      exact ⟨by rw [show j + 1 = zL τ md (k + 1) by omega], rfl, rfl⟩
    | succ d ih =>
      intro j hj hwj
      refine eX9_lineEnd_2 hC ?_
      refine eX9_lineEnd_3 hC (by assumption) (by assumption) ?_
      refine eX9_lineEnd_6 hC ?_
      refine eX9_lineEnd_7 hC (by assumption) (vp_in_nI (by omega) (by omega)) ?_
      rw [nI_clamp (by omega), hE j hwj (by omega)]
      rw [zBv_f (p := zen τ md j) (fun z => by have := (zen_in hk (by omega) (by omega)).mp z; omega)]
      refine eX9_lineEnd_8 hC (fun zz => absurd zn00 zz) (fun _ => ?_)
      refine eX9_lineEnd_11 hC ?_
      rw [nI_add]
      refine eX9_lineEnd_14 hC ?_
      exact ih (j + 1) (by omega) (by omega)
  refine eX9_lineEnd_0 hC ?_
  refine eX9_lineEnd_1 hC ?_
  exact loop (zL τ md (k + 1) - 1 - w) w (by omega) (Nat.le_refl _)
theorem zlp_iff {τ : Nat → Nat} {md k : Nat} (hk : k < zm τ md) : zlp τ md k ↔ zL τ md (k + 1) = zpd τ (zL τ md k) := by
  have h1 := zm_iff.mp hk
  obtain ⟨p1, p2, p3, p4⟩ := zpd_is h1
  have a := Nat.le_trans (zL_rc hk) (zrc_pd h1)
  have b := zL_lt h1
  constructor
  · intro q
    rcases Nat.lt_or_ge (zL τ md (k + 1)) (zpd τ (zL τ md k)) with z | z
    · exact absurd q (p4 (zL τ md (k + 1) - 1) (by omega) (by omega))
    · omega
  · intro q
    unfold zlp
    rw [q]; exact p3
set_option maxHeartbeats 4000000 in
theorem vX9_stair {l : Launch} {g : zG} (hl : l.stackTraces = false) {K : zK} {μ : zF} {m k md b w P : Nat} {τ : Nat → Nat} (hR : zRef K m) (hx : zSx μ m τ) (hu : zSu μ m τ) (ho : zOk τ) (hk : k + 1 < zm τ md) (hb : zL τ md k = b) (hw : zL τ md (k + 1) = w) (hP : zpd τ w = P) (hfp : ¬ zfp τ md (k + 1)) (hE : ∀ j, w ≤ j → j < P → μ (m + 3) j = zBv (zen τ md j)) : EX9_stair l g 0 0 [.ref m, .int (nI b), .int (nI w), .int (nI P)] K μ (zPi (nI (zsa τ md (k + 1)) - nI 1) K μ) := by
  obtain ⟨h0, h1, h2, h3, h4, h5, h6, h7, h8, i1, i2, i3, i4, i5, i6, i7, i8⟩ := id hR
  have o1 := ho.1
  have hw80 : w < τ 80 := by rw [← hw]; exact zm_iff.mp hk
  obtain ⟨p1, p2, p3, p4⟩ := zpd_is hw80
  rw [hP] at p1 p2 p3 p4
  have hlp := zlp_iff hk
  rw [hw, hP] at hlp
  have hbw : b < w := by rw [← hb, ← hw]; exact zL_lt (zm_iff.mp (by omega))
  have hn1 : zL τ md (k + 1 + 1) ≤ P := by
    have := Nat.le_trans (zL_rc hk) (zrc_pd (zm_iff.mp hk))
    rw [hw, hP] at this; exact this
  have hwn : w < zL τ md (k + 1 + 1) := by rw [← hw]; exact zL_lt (zm_iff.mp hk)
  refine nX9_stair hl (fun x hC hQ => ?_)
  by_cases c1 : zL τ md (k + 1 + 1) = P
  · have hsa : zsa τ md (k + 1) = 1 := by unfold zsa; rw [zif_t (Or.inr (Or.inl (hlp.mpr c1)))]
    refine eX9_stair_0 hC ?_
    refine eX9_stair_1 hC ?_
    refine eX9_stair_2 hC (Nat.le_of_ble_eq_true rfl) (Nat.le_of_ble_eq_true rfl) (Nat.le_of_ble_eq_true rfl) (by assumption) (vX9_lineEnd hC.nt hR ho hk hw (fun j j1 j2 => hE j j1 (by omega))) (zk_i ?_)
    refine eX9_stair_5 hC ?_
    refine eX9_stair_7 hC ?_
    refine eX9_stair_9 hC ?_
    refine eX9_stair_10 hC (fun zz => absurd (by rw [c1]) zz) (fun _ => ?_)
    refine eX9_stair_13 hC ?_
    refine eX9_stair_14 hC hQ (Nat.le_of_ble_eq_true rfl) (Nat.le_of_ble_eq_true rfl) ?_
    rw [hsa]
    exact ⟨rfl, rfl, rfl⟩
  · have hk2 : k + 1 + 1 < zm τ md := zm_iff.mpr (by omega)
    have hP2 : zpd τ (zL τ md (k + 1 + 1)) = P := by rw [← hP]; exact zpd_mid hw80 (by omega) (by rw [hP]; omega)
    have hlp2 := zlp_iff hk2
    rw [hP2] at hlp2
    have hn2 : zL τ md (k + 1 + 1 + 1) ≤ P := by
      have := Nat.le_trans (zL_rc hk2) (zrc_pd (zm_iff.mp hk2))
      rw [hP2] at this; exact this
    have hwn2 : zL τ md (k + 1 + 1) < zL τ md (k + 1 + 1 + 1) := zL_lt (zm_iff.mp hk2)
    by_cases c2 : zL τ md (k + 1 + 1 + 1) = P
    · have hsa : zsa τ md (k + 1) = 1 := by unfold zsa; rw [zif_t (Or.inr (Or.inr (hlp2.mpr c2)))]
      refine eX9_stair_0 hC ?_
      refine eX9_stair_1 hC ?_
      refine eX9_stair_2 hC (Nat.le_of_ble_eq_true rfl) (Nat.le_of_ble_eq_true rfl) (Nat.le_of_ble_eq_true rfl) (by assumption) (vX9_lineEnd hC.nt hR ho hk hw (fun j j1 j2 => hE j j1 (by omega))) (zk_i ?_)
      refine eX9_stair_5 hC ?_
      refine eX9_stair_7 hC ?_
      refine eX9_stair_9 hC ?_
      refine eX9_stair_10 hC (fun _ => ?_) (fun zz => absurd zz (fun z => c1 (nI_inj (by omega) (by omega) z)))
      refine eX9_stair_15 hC ?_
      refine eX9_stair_16 hC ?_
      refine eX9_stair_18 hC (Nat.le_of_ble_eq_true rfl) (Nat.le_of_ble_eq_true rfl) (Nat.le_of_ble_eq_true rfl) (by assumption) (vX9_lineEnd hC.nt hR ho hk2 rfl (fun j j1 j2 => hE j (by omega) (by omega))) (zk_i ?_)
      refine eX9_stair_21 hC ?_
      refine eX9_stair_23 hC ?_
      refine eX9_stair_25 hC ?_
      refine eX9_stair_26 hC (fun zz => absurd (by rw [c2]) zz) (fun _ => ?_)
      refine eX9_stair_29 hC ?_
      refine eX9_stair_30 hC hQ (Nat.le_of_ble_eq_true rfl) (Nat.le_of_ble_eq_true rfl) ?_
      rw [hsa]
      exact ⟨rfl, rfl, rfl⟩
    · have hsa : zsa τ md (k + 1) = if ztn τ (zwd τ b w) (zwd τ w (zL τ md (k + 1 + 1))) = ztn τ (zwd τ w (zL τ md (k + 1 + 1))) (zwd τ (zL τ md (k + 1 + 1)) (zL τ md (k + 1 + 1 + 1))) then ztn τ (zwd τ b w) (zwd τ w (zL τ md (k + 1 + 1))) else 1 := by
        unfold zsa zlw
        rw [zif_f (by
          rintro (z | z | z)
          · exact hfp z
          · exact c1 (hlp.mp z)
          · exact c2 (hlp2.mp z)), show k + 1 - 1 = k by omega, hb, hw]
      have w1 := zwd_le ho (i := b) (j := w) (by omega)
      have w2 := zwd_le ho (i := w) (j := zL τ md (k + 1 + 1)) (by omega)
      have w3 := zwd_le ho (i := zL τ md (k + 1 + 1)) (j := zL τ md (k + 1 + 1 + 1)) (by omega)
      have t1 := ztn_le τ (zwd τ b w) (zwd τ w (zL τ md (k + 1 + 1)))
      have t2 := ztn_le τ (zwd τ w (zL τ md (k + 1 + 1))) (zwd τ (zL τ md (k + 1 + 1)) (zL τ md (k + 1 + 1 + 1)))
      by_cases c3 : ztn τ (zwd τ b w) (zwd τ w (zL τ md (k + 1 + 1))) = ztn τ (zwd τ w (zL τ md (k + 1 + 1))) (zwd τ (zL τ md (k + 1 + 1)) (zL τ md (k + 1 + 1 + 1)))
      · rw [if_pos c3] at hsa
        refine eX9_stair_0 hC ?_
        refine eX9_stair_1 hC ?_
        refine eX9_stair_2 hC (Nat.le_of_ble_eq_true rfl) (Nat.le_of_ble_eq_true rfl) (Nat.le_of_ble_eq_true rfl) (by assumption) (vX9_lineEnd hC.nt hR ho hk hw (fun j j1 j2 => hE j j1 (by omega))) (zk_i ?_)
        refine eX9_stair_5 hC ?_
        refine eX9_stair_7 hC ?_
        refine eX9_stair_9 hC ?_
        refine eX9_stair_10 hC (fun _ => ?_) (fun zz => absurd zz (fun z => c1 (nI_inj (by omega) (by omega) z)))
        refine eX9_stair_15 hC ?_
        refine eX9_stair_16 hC ?_
        refine eX9_stair_18 hC (Nat.le_of_ble_eq_true rfl) (Nat.le_of_ble_eq_true rfl) (Nat.le_of_ble_eq_true rfl) (by assumption) (vX9_lineEnd hC.nt hR ho hk2 rfl (fun j j1 j2 => hE j (by omega) (by omega))) (zk_i ?_)
        refine eX9_stair_21 hC ?_
        refine eX9_stair_23 hC ?_
        refine eX9_stair_25 hC ?_
        refine eX9_stair_26 hC (fun _ => ?_) (fun zz => absurd zz (fun z => c2 (nI_inj (by omega) (by omega) z)))
        refine eX9_stair_31 hC ?_
        refine eX9_stair_32 hC ?_
        refine eX9_stair_33 hC ?_
        refine eX9_stair_34 hC ?_
        refine eX9_stair_35 hC (Nat.le_of_ble_eq_true rfl) (Nat.le_of_ble_eq_true rfl) (Nat.le_of_ble_eq_true rfl) (by assumption) (vX9_width hC.nt hR hx hu ho (by omega) (by omega)) (zk_i ?_)
        refine eX9_stair_38 hC ?_
        refine eX9_stair_39 hC ?_
        refine eX9_stair_40 hC ?_
        refine eX9_stair_42 hC (Nat.le_of_ble_eq_true rfl) (Nat.le_of_ble_eq_true rfl) (Nat.le_of_ble_eq_true rfl) (by assumption) (vX9_width hC.nt hR hx hu ho (by omega) (by omega)) (zk_i ?_)
        refine eX9_stair_45 hC (Nat.le_of_ble_eq_true rfl) (Nat.le_of_ble_eq_true rfl) (Nat.le_of_ble_eq_true rfl) (by assumption) (vX9_trend hC.nt hR hx ho (by omega) (by omega)) (zk_i ?_)
        refine eX9_stair_48 hC ?_
        refine eX9_stair_50 hC ?_
        refine eX9_stair_51 hC ?_
        refine eX9_stair_52 hC ?_
        refine eX9_stair_53 hC ?_
        refine eX9_stair_55 hC (Nat.le_of_ble_eq_true rfl) (Nat.le_of_ble_eq_true rfl) (Nat.le_of_ble_eq_true rfl) (by assumption) (vX9_width hC.nt hR hx hu ho (by omega) (by omega)) (zk_i ?_)
        refine eX9_stair_58 hC ?_
        refine eX9_stair_59 hC ?_
        refine eX9_stair_61 hC ?_
        refine eX9_stair_63 hC (Nat.le_of_ble_eq_true rfl) (Nat.le_of_ble_eq_true rfl) (Nat.le_of_ble_eq_true rfl) (by assumption) (vX9_width hC.nt hR hx hu ho (by omega) (by omega)) (zk_i ?_)
        refine eX9_stair_66 hC (Nat.le_of_ble_eq_true rfl) (Nat.le_of_ble_eq_true rfl) (Nat.le_of_ble_eq_true rfl) (by assumption) (vX9_trend hC.nt hR hx ho (by omega) (by omega)) (zk_i ?_)
        refine eX9_stair_69 hC ?_
        refine eX9_stair_71 hC ?_
        refine eX9_stair_73 hC ?_
        refine eX9_stair_75 hC (fun zz => absurd (by rw [c3]) zz) (fun _ => ?_)
        refine eX9_stair_78 hC ?_
        refine eX9_stair_80 hC ?_
        refine eX9_stair_81 hC ?_
        refine eX9_stair_82 hC ?_
        refine eX9_stair_86 hC hQ (Nat.le_of_ble_eq_true rfl) (Nat.le_of_ble_eq_true rfl) ?_
        rw [hsa]
        exact ⟨rfl, rfl, rfl⟩
      · rw [if_neg c3] at hsa
        refine eX9_stair_0 hC ?_
        refine eX9_stair_1 hC ?_
        refine eX9_stair_2 hC (Nat.le_of_ble_eq_true rfl) (Nat.le_of_ble_eq_true rfl) (Nat.le_of_ble_eq_true rfl) (by assumption) (vX9_lineEnd hC.nt hR ho hk hw (fun j j1 j2 => hE j j1 (by omega))) (zk_i ?_)
        refine eX9_stair_5 hC ?_
        refine eX9_stair_7 hC ?_
        refine eX9_stair_9 hC ?_
        refine eX9_stair_10 hC (fun _ => ?_) (fun zz => absurd zz (fun z => c1 (nI_inj (by omega) (by omega) z)))
        refine eX9_stair_15 hC ?_
        refine eX9_stair_16 hC ?_
        refine eX9_stair_18 hC (Nat.le_of_ble_eq_true rfl) (Nat.le_of_ble_eq_true rfl) (Nat.le_of_ble_eq_true rfl) (by assumption) (vX9_lineEnd hC.nt hR ho hk2 rfl (fun j j1 j2 => hE j (by omega) (by omega))) (zk_i ?_)
        refine eX9_stair_21 hC ?_
        refine eX9_stair_23 hC ?_
        refine eX9_stair_25 hC ?_
        refine eX9_stair_26 hC (fun _ => ?_) (fun zz => absurd zz (fun z => c2 (nI_inj (by omega) (by omega) z)))
        refine eX9_stair_31 hC ?_
        refine eX9_stair_32 hC ?_
        refine eX9_stair_33 hC ?_
        refine eX9_stair_34 hC ?_
        refine eX9_stair_35 hC (Nat.le_of_ble_eq_true rfl) (Nat.le_of_ble_eq_true rfl) (Nat.le_of_ble_eq_true rfl) (by assumption) (vX9_width hC.nt hR hx hu ho (by omega) (by omega)) (zk_i ?_)
        refine eX9_stair_38 hC ?_
        refine eX9_stair_39 hC ?_
        refine eX9_stair_40 hC ?_
        refine eX9_stair_42 hC (Nat.le_of_ble_eq_true rfl) (Nat.le_of_ble_eq_true rfl) (Nat.le_of_ble_eq_true rfl) (by assumption) (vX9_width hC.nt hR hx hu ho (by omega) (by omega)) (zk_i ?_)
        refine eX9_stair_45 hC (Nat.le_of_ble_eq_true rfl) (Nat.le_of_ble_eq_true rfl) (Nat.le_of_ble_eq_true rfl) (by assumption) (vX9_trend hC.nt hR hx ho (by omega) (by omega)) (zk_i ?_)
        refine eX9_stair_48 hC ?_
        refine eX9_stair_50 hC ?_
        refine eX9_stair_51 hC ?_
        refine eX9_stair_52 hC ?_
        refine eX9_stair_53 hC ?_
        refine eX9_stair_55 hC (Nat.le_of_ble_eq_true rfl) (Nat.le_of_ble_eq_true rfl) (Nat.le_of_ble_eq_true rfl) (by assumption) (vX9_width hC.nt hR hx hu ho (by omega) (by omega)) (zk_i ?_)
        refine eX9_stair_58 hC ?_
        refine eX9_stair_59 hC ?_
        refine eX9_stair_61 hC ?_
        refine eX9_stair_63 hC (Nat.le_of_ble_eq_true rfl) (Nat.le_of_ble_eq_true rfl) (Nat.le_of_ble_eq_true rfl) (by assumption) (vX9_width hC.nt hR hx hu ho (by omega) (by omega)) (zk_i ?_)
        refine eX9_stair_66 hC (Nat.le_of_ble_eq_true rfl) (Nat.le_of_ble_eq_true rfl) (Nat.le_of_ble_eq_true rfl) (by assumption) (vX9_trend hC.nt hR hx ho (by omega) (by omega)) (zk_i ?_)
        refine eX9_stair_69 hC ?_
        refine eX9_stair_71 hC ?_
        refine eX9_stair_73 hC ?_
        refine eX9_stair_75 hC (fun _ => ?_) (fun zz => absurd zz (fun z => c3 (nI_inj (by omega) (by omega) z)))
        refine eX9_stair_85 hC ?_
        refine eX9_stair_86 hC hQ (Nat.le_of_ble_eq_true rfl) (Nat.le_of_ble_eq_true rfl) ?_
        rw [hsa]
        exact ⟨rfl, rfl, rfl⟩
set_option maxHeartbeats 8000000 in
theorem vX9_costOf {l : Launch} {g : zG} (hl : l.stackTraces = false) {K : zK} {μ : zF} {m s k0 k1 md P : Nat} {τ : Nat → Nat} (hR : zRef K m) (hx : zSx μ m τ) (hu : zSu μ m τ) (ho : zOk τ) (hL0 : zL τ md k0 = s) (hps : zps τ s) (hsn : s < τ 80) (hP : zpd τ s = P) (hk01 : k0 < k1) (hL1 : zL τ md k1 = P) (hlt1 : ∀ j, j < k1 → zL τ md j < P) (hE : ∀ j, s ≤ j → j < P → μ (m + 3) j = zBv (zen τ md j)) :
    EX9_costOf l g 0 0 [.ref m, .int (nI s), .int (nI P), .int (nI (τ 81))] K μ (zPi (nI (ztc τ md k1 - ztc τ md k0)) K μ) := by
  obtain ⟨h0, h1, h2, h3, h4, h5, h6, h7, h8, i1, i2, i3, i4, i5, i6, i7, i8⟩ := id hR
  have o1 := ho.1
  have o81 := ho.2.2.2.1
  have o84 := ho.2.2.2.2.2.2.1
  have o85 := ho.2.2.2.2.2.2.2.1
  have e84 := hx.2 84 (by omega) (by omega) (by omega)
  have e85 := hx.2 85 (by omega) (by omega) (by omega)
  obtain ⟨p1, p2, p3, p4⟩ := zpd_is hsn
  have hmid : ∀ j, s ≤ j → j < P → zpd τ j = P := fun j j1 j2 => (zpd_mid hsn j1 (by omega)).trans hP
  have hsin : ∀ j, s < j → j < P → ¬ zps τ j := fun j j1 j2 => zps_in hsn j1 (by omega)
  rw [hP] at p1 p2 p3
  refine nX9_costOf hl (fun x hC hQ => ?_)
  have loop : ∀ (d k c : Nat) (bf : Int32), k + d = k1 → k0 ≤ k → ztc τ md k0 + c = ztc τ md k → ((k = k0 ∧ bf = -1) ∨ (k0 < k ∧ bf = nI (zL τ md (k - 1)))) →
      zV x 0 0 9 [some (.ref m), some (.int (nI s)), some (.int (nI P)), some (.int (nI (τ 81))), some (.int (nI c)), some (.int bf), some (.int (nI (zL τ md k))), none, none, none] [] K μ := by
    intro d
    induction d with
    | zero =>
      intro k c bf hk hk0 hc hbf
      obtain rfl : k = k1 := by omega
      rw [hL1]
      refine eX9_costOf_9 hC ?_
      refine eX9_costOf_11 hC ?_
      refine eX9_costOf_12 hC (fun _ => ?_) (fun zz => absurd (nI_le (Nat.le_refl _) (by omega)) zz)
      refine eX9_costOf_142 hC ?_
      refine eX9_costOf_144 hC hQ (Nat.le_of_ble_eq_true rfl) (Nat.le_of_ble_eq_true rfl) ?_
      rw [show c = ztc τ md k - ztc τ md k0 by omega]
      exact ⟨rfl, rfl, rfl⟩
    | succ d ih =>
      intro k c bf hk hk0 hc hbf
      have hlt := hlt1 k (by omega)
      have hkm : k < zm τ md := zm_iff.mpr (by omega)
      have hsk : s ≤ zL τ md k := by rw [← hL0]; exact zL_mono' hk0
      have hPk := hmid _ hsk hlt
      have hlp := zlp_iff hkm
      rw [hPk] at hlp
      have hnP : zL τ md (k + 1) ≤ P := by rw [← hL1]; exact zL_mono' (by omega)
      have hnx := zL_lt (zm_iff.mp hkm)
      have hW := zlw_col ho hkm
      have hW2 : zlw τ md k = zwd τ (zL τ md k) (zL τ md (k + 1)) := rfl
      have hsq := zsq_le (a := τ 81 - zlw τ md k) (c := τ 81) (by omega) (by omega)
      have htc := ztc_le ho md k
      have hk40 : k ≤ 40 := by have := (zm_is τ md).1; omega
      have hcs : zcs τ md k = zlc τ md k + (if zsa τ md k = 1 then 0 else τ 84) := rfl
      have hcl := zcs_le ho md k
      have htc1 : ztc τ md (k + 1) = ztc τ md k + zcs τ md k := rfl
      have fin : ∀ (st c' : Nat) (l8 l9 : Option Value) (u : Int32), c' + st = c + zcs τ md k → zV x 0 0 128 [some (.ref m), some (.int (nI s)), some (.int (nI P)), some (.int (nI (τ 81))), some (.int u), some (.int bf), some (.int (nI (zL τ md k))), some (.int (nI (zL τ md (k + 1)))), l8, l9] [.int (nI st), .int (nI c')] K μ := by
        intro st c' l8 l9 u he
        refine eX9_costOf_128 hC ?_
        rw [nI_add, he]
        refine eX9_costOf_129 hC ?_
        refine eX9_costOf_131 hC ?_
        refine eX9_costOf_133 hC ?_
        refine eX9_costOf_135 hC ?_
        refine eX9_costOf_137 hC ?_
        refine eX9_costOf_139 hC ?_
        exact zV.fg (by simp [zFg]) (ih (k + 1) (c + zcs τ md k) (nI (zL τ md k)) (by omega) (by omega) (by omega) (Or.inr ⟨by omega, by rw [Nat.add_sub_cancel]⟩))
      have S2 : ∀ (l8 l9 : Option Value), zV x 0 0 97 [some (.ref m), some (.int (nI s)), some (.int (nI P)), some (.int (nI (τ 81))), some (.int (nI (c + zlc τ md k))), some (.int bf), some (.int (nI (zL τ md k))), some (.int (nI (zL τ md (k + 1)))), l8, l9] [] K μ := by
        intro l8 l9
        rcases hbf with ⟨rfl, rfl⟩ | ⟨hk1, rfl⟩
        · have hsa : zsa τ md k = 1 := by
            unfold zsa
            rw [zif_t (Or.inl (by unfold zfp; rw [hL0]; exact hps))]
          rw [if_pos hsa] at hcs
          refine eX9_costOf_97 hC ?_
          refine eX9_costOf_99 hC ?_
          refine eX9_costOf_101 hC ?_
          refine eX9_costOf_102 hC (fun _ => ?_) (fun zz => absurd rfl zz)
          refine eX9_costOf_127 hC ?_
          exact fin 0 _ _ _ _ (by omega)
        · obtain ⟨k', rfl⟩ : ∃ k', k = k' + 1 := ⟨k - 1, by omega⟩
          have hsk' : s < zL τ md (k' + 1) := by rw [← hL0]; exact zL_smono (by omega) (by omega)
          have hfp : ¬ zfp τ md (k' + 1) := hsin _ hsk' hlt
          have hs2 := zsa_le τ md (k' + 1)
          have hb80 := zL_le τ md k'
          simp only [Nat.add_sub_cancel] at fin ⊢
          by_cases c1 : zsa τ md (k' + 1) = 1
          · rw [if_pos c1] at hcs
            refine eX9_costOf_97 hC ?_
            refine eX9_costOf_99 hC ?_
            refine eX9_costOf_101 hC ?_
            refine eX9_costOf_102 hC (fun zz => absurd zz (zne_m1 (by omega))) (fun _ => ?_)
            refine eX9_costOf_105 hC ?_
            refine eX9_costOf_106 hC ?_
            refine eX9_costOf_108 hC ?_
            refine eX9_costOf_110 hC ?_
            refine eX9_costOf_111 hC (Nat.le_of_ble_eq_true rfl) (Nat.le_of_ble_eq_true rfl) (Nat.le_of_ble_eq_true rfl) (by assumption) (vX9_stair hC.nt hR hx hu ho hkm rfl rfl hPk hfp (fun j j1 j2 => hE j (by omega) j2)) (zk_i ?_)
            rw [c1]
            refine eX9_costOf_114 hC (fun _ => ?_) (fun zz => absurd (by decide) zz)
            refine eX9_costOf_127 hC ?_
            exact fin 0 (c + zlc τ md (k' + 1)) l8 l9 _ (by omega)
          · rw [if_neg c1] at hcs
            refine eX9_costOf_97 hC ?_
            refine eX9_costOf_99 hC ?_
            refine eX9_costOf_101 hC ?_
            refine eX9_costOf_102 hC (fun zz => absurd zz (zne_m1 (by omega))) (fun _ => ?_)
            refine eX9_costOf_105 hC ?_
            refine eX9_costOf_106 hC ?_
            refine eX9_costOf_108 hC ?_
            refine eX9_costOf_110 hC ?_
            refine eX9_costOf_111 hC (Nat.le_of_ble_eq_true rfl) (Nat.le_of_ble_eq_true rfl) (Nat.le_of_ble_eq_true rfl) (by assumption) (vX9_stair hC.nt hR hx hu ho hkm rfl rfl hPk hfp (fun j j1 j2 => hE j (by omega) j2)) (zk_i ?_)
            refine eX9_costOf_114 hC (fun zz => absurd zz (zti_0 hs2 c1)) (fun _ => ?_)
            refine eX9_costOf_117 hC ?_
            refine eX9_costOf_118 hC (by assumption) (by assumption) ?_
            refine eX9_costOf_121 hC ?_
            refine eX9_costOf_123 hC (by assumption) (vp_in_nI (by omega) (by omega)) ?_
            rw [nI_clamp (by omega), e84]
            refine eX9_costOf_124 hC ?_
            exact fin (τ 84) (c + zlc τ md (k' + 1)) l8 l9 _ (by omega)
      have S1 : ∀ (lc : Nat) (l8 l9 : Option Value) (u : Int32), lc = zlc τ md k → zV x 0 0 94 [some (.ref m), some (.int (nI s)), some (.int (nI P)), some (.int (nI (τ 81))), some (.int u), some (.int bf), some (.int (nI (zL τ md k))), some (.int (nI (zL τ md (k + 1)))), l8, l9] [.int (nI lc), .int (nI c)] K μ := by
        intro lc l8 l9 u he
        subst he
        refine eX9_costOf_94 hC ?_
        rw [nI_add]
        refine eX9_costOf_95 hC ?_
        exact S2 _ _
      -- what the line itself costs
      have S0 : ∀ (fl : Nat) (l9 : Option Value), fl = (if k ≠ k0 ∧ 4 * zlw τ md k < τ 81 then 1 else 0) → zV x 0 0 60 [some (.ref m), some (.int (nI s)), some (.int (nI P)), some (.int (nI (τ 81))), some (.int (nI c)), some (.int bf), some (.int (nI (zL τ md k))), some (.int (nI (zL τ md (k + 1)))), some (.int (nI (τ 81 - zlw τ md k))), l9] [.int (nI fl)] K μ := by
        intro fl l9 hfl
        have hfp : zfp τ md k ↔ k = k0 := by
          unfold zfp
          constructor
          · intro z
            rcases Nat.eq_or_lt_of_le hk0 with y | y
            · exact y.symm
            · exact absurd z (hsin _ (by rw [← hL0]; exact zL_smono y (by omega)) hlt)
          · rintro rfl; rw [hL0]; exact hps
        by_cases c1 : zL τ md (k + 1) = P
        · have hlc : zlc τ md k = if fl = 0 then 0 else τ 85 := by
            unfold zlc
            rw [zif_t (hlp.mpr c1)]
            by_cases y : k ≠ k0 ∧ 4 * zlw τ md k < τ 81
            · rw [zif_t ⟨fun z => y.1 (hfp.mp z), y.2⟩]
              rw [if_pos y] at hfl
              rw [hfl, if_neg (by omega)]
            · rw [zif_f (fun z => y ⟨fun w => z.1 (hfp.mpr w), z.2⟩)]
              rw [if_neg y] at hfl
              rw [hfl, if_pos rfl]
          by_cases c2 : fl = 0
          · rw [if_pos c2] at hlc
            subst c2
            refine eX9_costOf_60 hC ?_
            refine eX9_costOf_62 hC ?_
            refine eX9_costOf_64 hC ?_
            refine eX9_costOf_66 hC ?_
            refine eX9_costOf_67 hC (fun _ => ?_) (fun zz => absurd (by rw [c1]; exact Int32.le_refl _) zz)
            refine eX9_costOf_78 hC ?_
            refine eX9_costOf_80 hC (fun _ => ?_) (fun zz => absurd zn00 zz)
            refine eX9_costOf_93 hC ?_
            exact S1 0 _ _ _ hlc.symm
          · rw [if_neg c2] at hlc
            have : fl = 1 := by
              rw [hfl]
              split
              · rfl
              · rename_i y; rw [if_neg y] at hfl; exact absurd hfl c2
            rw [this]
            refine eX9_costOf_60 hC ?_
            refine eX9_costOf_62 hC ?_
            refine eX9_costOf_64 hC ?_
            refine eX9_costOf_66 hC ?_
            refine eX9_costOf_67 hC (fun _ => ?_) (fun zz => absurd (by rw [c1]; exact Int32.le_refl _) zz)
            refine eX9_costOf_78 hC ?_
            refine eX9_costOf_80 hC (fun zz => absurd zz zn10) (fun _ => ?_)
            refine eX9_costOf_83 hC ?_
            refine eX9_costOf_84 hC (by assumption) (by assumption) ?_
            refine eX9_costOf_87 hC ?_
            refine eX9_costOf_89 hC (by assumption) (vp_in_nI (by omega) (by omega)) ?_
            rw [nI_clamp (by omega), e85]
            refine eX9_costOf_90 hC ?_
            exact S1 (τ 85) _ _ _ hlc.symm
        · have hlc : zlc τ md k = (τ 81 - zlw τ md k) * (τ 81 - zlw τ md k) := by
            unfold zlc
            rw [zif_f (fun z => c1 (hlp.mp z))]
          refine eX9_costOf_60 hC ?_
          refine eX9_costOf_62 hC ?_
          refine eX9_costOf_64 hC ?_
          refine eX9_costOf_66 hC ?_
          refine eX9_costOf_67 hC (fun zz => absurd zz (nI_ge (by omega) (by omega))) (fun _ => ?_)
          refine eX9_costOf_70 hC ?_
          refine eX9_costOf_72 hC ?_
          refine eX9_costOf_74 hC ?_
          rw [pk_mul]
          refine eX9_costOf_75 hC ?_
          exact S1 _ _ _ _ hlc.symm
      rcases hbf with ⟨rfl, rfl⟩ | ⟨hk1, rfl⟩
      · refine eX9_costOf_9 hC ?_
        refine eX9_costOf_11 hC ?_
        refine eX9_costOf_12 hC (fun zz => absurd zz (nI_ge (by omega) (by omega))) (fun _ => ?_)
        refine eX9_costOf_15 hC ?_
        refine eX9_costOf_16 hC ?_
        refine eX9_costOf_18 hC (Nat.le_of_ble_eq_true rfl) (Nat.le_of_ble_eq_true rfl) (Nat.le_of_ble_eq_true rfl) (by assumption) (vX9_lineEnd hC.nt hR ho hkm rfl (fun j j1 j2 => hE j (by omega) (by omega))) (zk_i ?_)
        refine eX9_costOf_21 hC ?_
        refine eX9_costOf_23 hC ?_
        refine eX9_costOf_24 hC ?_
        refine eX9_costOf_25 hC ?_
        refine eX9_costOf_27 hC ?_
        refine eX9_costOf_29 hC (Nat.le_of_ble_eq_true rfl) (Nat.le_of_ble_eq_true rfl) (Nat.le_of_ble_eq_true rfl) (by assumption) (vX9_width hC.nt hR hx hu ho hnx (by omega)) (zk_i ?_)
        refine eX9_costOf_32 hC ?_
        rw [← hW2, nI_sub hW]
        refine eX9_costOf_33 hC ?_
        refine eX9_costOf_35 hC ?_
        refine eX9_costOf_37 hC ?_
        refine eX9_costOf_38 hC (fun _ => ?_) (fun zz => absurd rfl zz)
        refine eX9_costOf_59 hC ?_
        exact S0 0 _ (by rw [if_neg (fun z => z.1 rfl)])
      · have hb80 := zL_le τ md (k - 1)
        by_cases c2 : 4 * zlw τ md k < τ 81
        · refine eX9_costOf_9 hC ?_
          refine eX9_costOf_11 hC ?_
          refine eX9_costOf_12 hC (fun zz => absurd zz (nI_ge (by omega) (by omega))) (fun _ => ?_)
          refine eX9_costOf_15 hC ?_
          refine eX9_costOf_16 hC ?_
          refine eX9_costOf_18 hC (Nat.le_of_ble_eq_true rfl) (Nat.le_of_ble_eq_true rfl) (Nat.le_of_ble_eq_true rfl) (by assumption) (vX9_lineEnd hC.nt hR ho hkm rfl (fun j j1 j2 => hE j (by omega) (by omega))) (zk_i ?_)
          refine eX9_costOf_21 hC ?_
          refine eX9_costOf_23 hC ?_
          refine eX9_costOf_24 hC ?_
          refine eX9_costOf_25 hC ?_
          refine eX9_costOf_27 hC ?_
          refine eX9_costOf_29 hC (Nat.le_of_ble_eq_true rfl) (Nat.le_of_ble_eq_true rfl) (Nat.le_of_ble_eq_true rfl) (by assumption) (vX9_width hC.nt hR hx hu ho hnx (by omega)) (zk_i ?_)
          refine eX9_costOf_32 hC ?_
          rw [← hW2, nI_sub hW]
          refine eX9_costOf_33 hC ?_
          refine eX9_costOf_35 hC ?_
          refine eX9_costOf_37 hC ?_
          refine eX9_costOf_38 hC (fun zz => absurd zz (zne_m1 (by omega))) (fun _ => ?_)
          refine eX9_costOf_41 hC ?_
          refine eX9_costOf_42 hC ?_
          refine eX9_costOf_43 hC ?_
          refine eX9_costOf_45 hC ?_
          refine eX9_costOf_47 hC (Nat.le_of_ble_eq_true rfl) (Nat.le_of_ble_eq_true rfl) (Nat.le_of_ble_eq_true rfl) (by assumption) (vX9_width hC.nt hR hx hu ho hnx (by omega)) (zk_i ?_)
          refine eX9_costOf_50 hC ?_
          rw [← hW2, pk_mul]
          refine eX9_costOf_51 hC ?_
          refine eX9_costOf_52 hC (fun zz => absurd zz (nI_ge c2 (by omega))) (fun _ => ?_)
          refine eX9_costOf_55 hC ?_
          refine eX9_costOf_56 hC ?_
          exact S0 1 _ (by rw [if_pos ⟨by omega, c2⟩])
        · refine eX9_costOf_9 hC ?_
          refine eX9_costOf_11 hC ?_
          refine eX9_costOf_12 hC (fun zz => absurd zz (nI_ge (by omega) (by omega))) (fun _ => ?_)
          refine eX9_costOf_15 hC ?_
          refine eX9_costOf_16 hC ?_
          refine eX9_costOf_18 hC (Nat.le_of_ble_eq_true rfl) (Nat.le_of_ble_eq_true rfl) (Nat.le_of_ble_eq_true rfl) (by assumption) (vX9_lineEnd hC.nt hR ho hkm rfl (fun j j1 j2 => hE j (by omega) (by omega))) (zk_i ?_)
          refine eX9_costOf_21 hC ?_
          refine eX9_costOf_23 hC ?_
          refine eX9_costOf_24 hC ?_
          refine eX9_costOf_25 hC ?_
          refine eX9_costOf_27 hC ?_
          refine eX9_costOf_29 hC (Nat.le_of_ble_eq_true rfl) (Nat.le_of_ble_eq_true rfl) (Nat.le_of_ble_eq_true rfl) (by assumption) (vX9_width hC.nt hR hx hu ho hnx (by omega)) (zk_i ?_)
          refine eX9_costOf_32 hC ?_
          rw [← hW2, nI_sub hW]
          refine eX9_costOf_33 hC ?_
          refine eX9_costOf_35 hC ?_
          refine eX9_costOf_37 hC ?_
          refine eX9_costOf_38 hC (fun zz => absurd zz (zne_m1 (by omega))) (fun _ => ?_)
          refine eX9_costOf_41 hC ?_
          refine eX9_costOf_42 hC ?_
          refine eX9_costOf_43 hC ?_
          refine eX9_costOf_45 hC ?_
          refine eX9_costOf_47 hC (Nat.le_of_ble_eq_true rfl) (Nat.le_of_ble_eq_true rfl) (Nat.le_of_ble_eq_true rfl) (by assumption) (vX9_width hC.nt hR hx hu ho hnx (by omega)) (zk_i ?_)
          refine eX9_costOf_50 hC ?_
          rw [← hW2, pk_mul]
          refine eX9_costOf_51 hC ?_
          refine eX9_costOf_52 hC (fun _ => ?_) (fun zz => absurd (nI_le (by omega) (by omega)) zz)
          refine eX9_costOf_59 hC ?_
          exact S0 0 _ (by rw [if_neg (fun z => c2 z.2)])
  refine eX9_costOf_0 hC ?_
  refine eX9_costOf_1 hC ?_
  refine eX9_costOf_3 hC ?_
  refine eX9_costOf_4 hC ?_
  refine eX9_costOf_6 hC ?_
  refine eX9_costOf_7 hC ?_
  have e := loop (k1 - k0) k0 0 (-1) (by omega) (Nat.le_refl _) (by omega) (Or.inl ⟨rfl, rfl⟩)
  rw [hL0] at e
  exact e
