/-! ===== a paragraph laid out at the least cost ===== -/
set_option maxHeartbeats 8000000 in
theorem vX4_follow {l : Launch} {g : zG} (hl : l.stackTraces = false) {K : zK} {μ : zF} {o t q s k0 : Nat} {τ : Nat → Nat} (h : zOpt K o t q) (hF : zFit K q t) (hT : zTxt K t) (hv : zTv μ t τ) (hs1 : zFs1 μ q τ) (ho : zOk τ) (hqo : q + 5 = o) (hto : t + 5 ≤ q ∨ o + 7 ≤ t)
    (hk0 : zst τ 1 k0 = (s, s, 1)) (hps : zps τ s) (hsn : s < τ 80) (hHC : ∀ b i u, u < 3 → s ≤ b → b ≤ i → i < zpd τ s → (b = i → i = s) → (b < i → i ≤ zrc τ b) → μ (o + 4) (zsl b i u) = nI (zch τ (zpd τ s) (decide (b = i)) b i u)) :
    EX4_follow l g 0 0 [.ref o, .int (nI s), .int (nI (zpd τ s))] K μ (zPw K (fun μ' => (∀ k, k0 ≤ k → zL τ 1 k < zpd τ s → μ' (o + 6) (zL τ 1 k) = nI (zL τ 1 (k + 1))) ∧ ∀ a j, ¬ (a = o + 6 ∧ s ≤ j ∧ j < zpd τ s) → μ' a j = μ a j)) := by
  have hO := h
  have hF' := hF
  have hT' := hT
  obtain ⟨h0, h1, h2, h3, h4, h5, h6, h7, h8⟩ := h
  have o1 := ho.1
  obtain ⟨p1, p2, p3, p4⟩ := zpd_is hsn
  refine nX4_follow hl (fun x hC hQ => ?_)
  have loop : ∀ (d w i k b t' : Nat) (x3 x5 : Int32) (μ1 : zF), w + d = zpd τ s → s ≤ w → w ≤ i → i ≤ zpd τ s → k0 ≤ k → zL τ 1 k = i → (i < zpd τ s → zst τ 1 k = (b, i, t') ∧ s ≤ b ∧ x3 = nI b ∧ x5 = nI t' - nI 1) → (∀ k', k0 ≤ k' → k' < k → μ1 (o + 6) (zL τ 1 k') = nI (zL τ 1 (k' + 1))) → (∀ a j, ¬ (a = o + 6 ∧ s ≤ j ∧ j < zpd τ s) → μ1 a j = μ a j) →
      zV x 0 0 11 [some (.ref o), some (.int (nI s)), some (.int (nI (zpd τ s))), some (.int x3), some (.int (nI i)), some (.int x5), some (.int (nI w)), none, none, none] [] K μ1 := by
    intro d
    induction d with
    | zero =>
      intro w i k b t' x3 x5 μ1 hw hsw hwi hip hk hki hst hdone hfr
      have hw : w = zpd τ s := by omega
      subst hw
      refine eX4_follow_11 hC ?_
      refine eX4_follow_13 hC ?_
      refine eX4_follow_14 hC (fun _ => ?_) (fun zz => absurd (nI_le (Nat.le_refl _) (by omega)) zz)
      refine eX4_follow_113 hC hQ (Nat.le_of_ble_eq_true rfl) (Nat.le_of_ble_eq_true rfl) ?_
      refine ⟨rfl, rfl, fun k' h1 h2 => hdone k' h1 ?_, hfr⟩
      rcases Nat.lt_or_ge k' k with q | q
      · exact q
      · have := zL_mono' (τ := τ) (m := 1) q
        omega
    | succ d ih =>
      intro w i k b t' x3 x5 μ1 hw hsw hwi hip hk hki hst hdone hfr
      have hag : zAg μ μ1 (o + 6) (o + 7) := fun a j ha => hfr a j (fun q => by omega)
      have hv1 := hv.ag hag (by omega)
      have hs11 := hs1.ag hag (by omega)
      by_cases cw : w = i
      · subst cw
        obtain ⟨e1, e2, e3, e4⟩ := hst (by omega)
        subst e3
        subst e4
        obtain ⟨ht2, hcase⟩ := zst_inv e1 (by omega)
        have hbw : b ≤ w := by rcases hcase with ⟨-, q⟩ | ⟨-, q, -⟩ <;> omega
        have hbs : b = w → w = s := fun q => by
          rcases hcase with ⟨q1, -⟩ | ⟨-, q1, -⟩
          · rcases Nat.eq_or_lt_of_le hsw with z | z
            · exact z.symm
            · exact absurd q1 (zps_in hsn z (by omega))
          · omega
        have hrc : b < w → w ≤ zrc τ b := fun q => by
          rcases hcase with ⟨-, q1⟩ | ⟨-, -, q1, -⟩ <;> omega
        have hpw : zpd τ w = zpd τ s := zpd_mid hsn hsw (by omega)
        have hj : zch τ (zpd τ s) (decide (b = w)) b w t' = znx τ 1 b w t' := by
          unfold znx; rw [if_pos rfl, hpw]
        have hch : zrd 2460 (μ1 (o + 3 + 1)) (nI (zsl b w t')) = nI (znx τ 1 b w t') := by
          rw [zrd_in (zsl_lt hbw (by omega) (by omega)) (by omega), ← hj, ← hHC b w t' (by omega) e2 hbw (by omega) hbs hrc]
          exact hfr _ _ (fun q => by omega)
        obtain ⟨n1, n2⟩ := znx_is (τ := τ) 1 b t' (show w < τ 80 by omega)
        have n3 := zrc_par hsn hps w (by omega)
        have hkn : zL τ 1 (k + 1) = znx τ 1 b w t' := zL_next e1 (by omega)
        have hnext : znx τ 1 b w t' < zpd τ s → zst τ 1 (k + 1) = (w, znx τ 1 b w t', if b = w then 1 else ztn τ (zwd τ b w) (zwd τ w (znx τ 1 b w t'))) := fun q => by
          rw [zst_next e1 (by omega), zif_f (zps_in hsn (by omega) q)]
        have hfin : ∀ (μ2 : zF) (x5 : Int32), μ2 = zup μ1 (o + 6) w (nI (znx τ 1 b w t')) → x5 = nI (if b = w then 1 else ztn τ (zwd τ b w) (zwd τ w (znx τ 1 b w t'))) - nI 1 → zV x 0 0 11 [some (.ref o), some (.int (nI s)), some (.int (nI (zpd τ s))), some (.int (nI w)), some (.int (nI (znx τ 1 b w t'))), some (.int x5), some (.int (nI (w + 1))), none, none, none] [] K μ2 := by
          intro μ2 x5 hm hx5
          refine ih (w + 1) (znx τ 1 b w t') (k + 1) w (if b = w then 1 else ztn τ (zwd τ b w) (zwd τ w (znx τ 1 b w t'))) (nI w) x5 μ2 (by omega) (by omega) (by omega) (by omega) (by omega) hkn (fun q => ⟨hnext q, hsw, rfl, hx5⟩) (fun k' q1 q2 => ?_) (fun a j q => ?_)
          · rw [hm]
            by_cases ck : k' = k
            · subst ck
              rw [hki, zup_self, hkn]
            · rw [zup_k _ _ _ (fun q => ck (zL_inj (q.trans hki.symm) (by have := zL_mono' (τ := τ) (m := 1) (show k' ≤ k by omega); omega)))]
              exact hdone k' q1 (by omega)
          · rw [hm]
            have : ¬ (a = o + 6 ∧ j = w) := fun z => q ⟨z.1, by omega, by omega⟩
            simp only [zup]
            rw [if_neg this]
            exact hfr a j q
        by_cases cb : b = w
        · rw [if_pos cb] at hfin
          refine eX4_follow_11 hC ?_
          refine eX4_follow_13 hC ?_
          refine eX4_follow_14 hC (fun zz => absurd zz (nI_ge (by omega) (by omega))) (fun _ => ?_)
          refine eX4_follow_17 hC ?_
          refine eX4_follow_19 hC ?_
          refine eX4_follow_21 hC (fun zz => absurd rfl zz) (fun _ => ?_)
          refine eX4_follow_24 hC ?_
          refine eX4_follow_25 hC (by assumption) (by assumption) ?_
          refine eX4_follow_28 hC ?_
          refine eX4_follow_29 hC ?_
          refine eX4_follow_31 hC ?_
          refine eX4_follow_33 hC (Nat.le_of_ble_eq_true rfl) (Nat.le_of_ble_eq_true rfl) (Nat.le_of_ble_eq_true rfl) (vX4_slot hC.nt (by omega) (by omega) (by omega)) (zk_i ?_)
          refine eX4_follow_36 hC (Nat.le_of_ble_eq_true rfl) (Nat.le_of_ble_eq_true rfl) (Nat.le_of_ble_eq_true rfl) (by first | assumption | exact zRow.o (by assumption)) (vX6_at hC.nt h7) (zk_i ?_)
          rw [hch]
          refine eX4_follow_39 hC ?_
          refine eX4_follow_41 hC ?_
          refine eX4_follow_42 hC (by assumption) (by assumption) ?_
          refine eX4_follow_45 hC ?_
          refine eX4_follow_47 hC ?_
          refine eX4_follow_49 hC (Nat.le_of_ble_eq_true rfl) (Nat.le_of_ble_eq_true rfl) (Nat.le_of_ble_eq_true rfl) (by first | assumption | exact zRow.o (by assumption)) (vX6_put hC.nt h8) (zk_w (fun μ_49 m_49 => ?_))
          rw [zpt_in (by omega) (by omega)] at m_49
          have hagx : zAg μ1 μ_49 (o + 6) (o + 7) := by rw [m_49]; exact zAg.up (by omega)
          have hv2 := hv1.ag hagx (by omega)
          have hs12 := hs11.ag hagx (by omega)
          refine eX4_follow_52 hC ?_
          refine eX4_follow_53 hC (by assumption) (by assumption) ?_
          refine eX4_follow_56 hC ?_
          refine eX4_follow_57 hC ?_
          refine eX4_follow_59 hC (Nat.le_of_ble_eq_true rfl) (Nat.le_of_ble_eq_true rfl) (Nat.le_of_ble_eq_true rfl) (by first | assumption | exact zFit.o (by assumption)) (vX1_widthBetween hC.nt hF' hT' hv2 hs12 o1 (by omega) (by omega)) (zk_i ?_)
          refine eX4_follow_62 hC ?_
          refine eX4_follow_64 hC ?_
          refine eX4_follow_65 hC (by assumption) (by assumption) ?_
          refine eX4_follow_68 hC ?_
          refine eX4_follow_70 hC ?_
          refine eX4_follow_72 hC (Nat.le_of_ble_eq_true rfl) (Nat.le_of_ble_eq_true rfl) (Nat.le_of_ble_eq_true rfl) (by first | assumption | exact zFit.o (by assumption)) (vX1_widthBetween hC.nt hF' hT' hv2 hs12 o1 (by omega) (by omega)) (zk_i ?_)
          refine eX4_follow_75 hC ?_
          refine eX4_follow_77 hC ?_
          refine eX4_follow_78 hC ?_
          refine eX4_follow_80 hC (fun zz => absurd (by rw [cb]) zz) (fun _ => ?_)
          refine eX4_follow_83 hC ?_
          refine eX4_follow_84 hC ?_
          refine eX4_follow_98 hC ?_
          refine eX4_follow_100 hC ?_
          refine eX4_follow_102 hC ?_
          refine eX4_follow_103 hC ?_
          refine eX4_follow_105 hC ?_
          refine eX4_follow_107 hC ?_
          rw [nI_add]
          refine eX4_follow_110 hC ?_
          exact zV.fg (by simp [zFg]) (hfin _ (nI 0) m_49 rfl)
        · rw [if_neg cb] at hfin
          have hw1 := zwd_le ho (i := b) (j := w) (by omega)
          have hw2 := zwd_le ho (i := w) (j := znx τ 1 b w t') (by omega)
          refine eX4_follow_11 hC ?_
          refine eX4_follow_13 hC ?_
          refine eX4_follow_14 hC (fun zz => absurd zz (nI_ge (by omega) (by omega))) (fun _ => ?_)
          refine eX4_follow_17 hC ?_
          refine eX4_follow_19 hC ?_
          refine eX4_follow_21 hC (fun zz => absurd rfl zz) (fun _ => ?_)
          refine eX4_follow_24 hC ?_
          refine eX4_follow_25 hC (by assumption) (by assumption) ?_
          refine eX4_follow_28 hC ?_
          refine eX4_follow_29 hC ?_
          refine eX4_follow_31 hC ?_
          refine eX4_follow_33 hC (Nat.le_of_ble_eq_true rfl) (Nat.le_of_ble_eq_true rfl) (Nat.le_of_ble_eq_true rfl) (vX4_slot hC.nt (by omega) (by omega) (by omega)) (zk_i ?_)
          refine eX4_follow_36 hC (Nat.le_of_ble_eq_true rfl) (Nat.le_of_ble_eq_true rfl) (Nat.le_of_ble_eq_true rfl) (by first | assumption | exact zRow.o (by assumption)) (vX6_at hC.nt h7) (zk_i ?_)
          rw [hch]
          refine eX4_follow_39 hC ?_
          refine eX4_follow_41 hC ?_
          refine eX4_follow_42 hC (by assumption) (by assumption) ?_
          refine eX4_follow_45 hC ?_
          refine eX4_follow_47 hC ?_
          refine eX4_follow_49 hC (Nat.le_of_ble_eq_true rfl) (Nat.le_of_ble_eq_true rfl) (Nat.le_of_ble_eq_true rfl) (by first | assumption | exact zRow.o (by assumption)) (vX6_put hC.nt h8) (zk_w (fun μ_49 m_49 => ?_))
          rw [zpt_in (by omega) (by omega)] at m_49
          have hagx : zAg μ1 μ_49 (o + 6) (o + 7) := by rw [m_49]; exact zAg.up (by omega)
          have hv2 := hv1.ag hagx (by omega)
          have hs12 := hs11.ag hagx (by omega)
          refine eX4_follow_52 hC ?_
          refine eX4_follow_53 hC (by assumption) (by assumption) ?_
          refine eX4_follow_56 hC ?_
          refine eX4_follow_57 hC ?_
          refine eX4_follow_59 hC (Nat.le_of_ble_eq_true rfl) (Nat.le_of_ble_eq_true rfl) (Nat.le_of_ble_eq_true rfl) (by first | assumption | exact zFit.o (by assumption)) (vX1_widthBetween hC.nt hF' hT' hv2 hs12 o1 (by omega) (by omega)) (zk_i ?_)
          rw [zwi_eq (i := b) (j := w) (by omega)]
          refine eX4_follow_62 hC ?_
          refine eX4_follow_64 hC ?_
          refine eX4_follow_65 hC (by assumption) (by assumption) ?_
          refine eX4_follow_68 hC ?_
          refine eX4_follow_70 hC ?_
          refine eX4_follow_72 hC (Nat.le_of_ble_eq_true rfl) (Nat.le_of_ble_eq_true rfl) (Nat.le_of_ble_eq_true rfl) (by first | assumption | exact zFit.o (by assumption)) (vX1_widthBetween hC.nt hF' hT' hv2 hs12 o1 (by omega) (by omega)) (zk_i ?_)
          rw [zwi_eq (i := w) (j := znx τ 1 b w t') (by omega)]
          refine eX4_follow_75 hC ?_
          refine eX4_follow_77 hC ?_
          refine eX4_follow_78 hC ?_
          refine eX4_follow_80 hC (fun _ => ?_) (fun zz => absurd zz (fun q => cb (nI_inj (by omega) (by omega) q)))
          refine eX4_follow_87 hC ?_
          refine eX4_follow_88 hC (by assumption) (by assumption) ?_
          refine eX4_follow_91 hC ?_
          refine eX4_follow_93 hC ?_
          refine eX4_follow_95 hC (Nat.le_of_ble_eq_true rfl) (Nat.le_of_ble_eq_true rfl) (Nat.le_of_ble_eq_true rfl) (by first | assumption | exact zTxt.o (by assumption)) (vX7_turn hC.nt hT' hv2 (by omega) (by omega) (by have := ho.2.2.2.2.2.1; omega)) (zk_i ?_)
          refine eX4_follow_98 hC ?_
          refine eX4_follow_100 hC ?_
          refine eX4_follow_102 hC ?_
          refine eX4_follow_103 hC ?_
          refine eX4_follow_105 hC ?_
          refine eX4_follow_107 hC ?_
          rw [nI_add]
          refine eX4_follow_110 hC ?_
          exact zV.fg (by simp [zFg]) (hfin _ _ m_49 rfl)
      · refine eX4_follow_11 hC ?_
        refine eX4_follow_13 hC ?_
        refine eX4_follow_14 hC (fun zz => absurd zz (nI_ge (by omega) (by omega))) (fun _ => ?_)
        refine eX4_follow_17 hC ?_
        refine eX4_follow_19 hC ?_
        refine eX4_follow_21 hC (fun _ => ?_) (fun zz => absurd zz (fun q => cw (nI_inj (by omega) (by omega) q)))
        refine eX4_follow_107 hC ?_
        rw [nI_add]
        refine eX4_follow_110 hC ?_
        exact ih (w + 1) i k b t' x3 x5 μ1 (by omega) (by omega) (by omega) hip hk hki hst hdone hfr
  refine eX4_follow_0 hC ?_
  refine eX4_follow_1 hC ?_
  refine eX4_follow_2 hC ?_
  refine eX4_follow_3 hC ?_
  refine eX4_follow_5 hC ?_
  refine eX4_follow_6 hC ?_
  refine eX4_follow_8 hC ?_
  refine eX4_follow_9 hC ?_
  exact loop (zpd τ s - s) s s k0 s 1 (nI s) (nI 0) μ (by omega) (Nat.le_refl _) (Nat.le_refl _) (by omega) (Nat.le_refl _) (by unfold zL; rw [hk0]) (fun _ => ⟨hk0, Nat.le_refl _, rfl, rfl⟩) (fun k' q1 q2 => by omega) (fun _ _ _ => rfl)
set_option maxHeartbeats 8000000 in
theorem vX4_solve {l : Launch} {g : zG} (hl : l.stackTraces = false) {K : zK} {μ : zF} {o t q s k0 : Nat} {τ : Nat → Nat} (h : zOpt K o t q) (hF : zFit K q t) (hT : zTxt K t) (hv : zTv μ t τ) (hs1 : zFs1 μ q τ) (hs2 : zFs2 μ q τ) (ho : zOk τ) (hqo : q + 5 = o) (hto : t + 5 ≤ q ∨ o + 7 ≤ t)
    (hk0 : zst τ 1 k0 = (s, s, 1)) (hps : zps τ s) (hsn : s < τ 80) :
    EX4_solve l g 0 0 [.ref o, .int (nI s), .int (nI (zpd τ s))] K μ (zPw K (fun μ' => (∀ k, k0 ≤ k → zL τ 1 k < zpd τ s → μ' (o + 6) (zL τ 1 k) = nI (zL τ 1 (k + 1))) ∧ (∀ j, ¬ (s ≤ j ∧ j < zpd τ s) → μ' (o + 6) j = μ (o + 6) j) ∧ zAg μ μ' (o + 2) (o + 7))) := by
  have hO := h
  have hF' := hF
  have hT' := hT
  obtain ⟨h0, h1, h2, h3, h4, h5, h6, h7, h8⟩ := h
  obtain ⟨f0, f1, f2, f3, f4, f5⟩ := hF
  have o1 := ho.1
  obtain ⟨p1, p2, p3, p4⟩ := zpd_is hsn
  have hpd := zrc_par hsn hps
  refine nX4_solve hl (fun x hC hQ => ?_)
  have loop1 : ∀ (d i : Nat) (μ1 : zF), s + d = i → i < zpd τ s → zAg μ μ1 (o + 2) (o + 5) → (∀ b' i' u, s ≤ b' → b' < i' → i < i' → i' < zpd τ s → i' ≤ zrc τ b' → u < 3 → μ1 (o + 2) (zsl b' i' u) = nI (zsc τ (zpd τ s) b' i' u) ∧ μ1 (o + 4) (zsl b' i' u) = nI (zch τ (zpd τ s) false b' i' u)) → zV x 0 0 4 [some (.ref o), some (.int (nI s)), some (.int (nI (zpd τ s))), some (.int (nI i)), none] [] K μ1 := by
    intro d
    induction d with
    | zero =>
      intro i μ1 hi hip hag hTB
      have hi : i = s := by omega
      subst hi
      have hv1 := hv.ag hag (by omega)
      have hs11 := hs1.ag hag (by omega)
      have hs21 := hs2.ag hag (by omega)
      refine eX4_solve_4 hC ?_
      refine eX4_solve_5 hC ?_
      refine eX4_solve_6 hC (fun _ => ?_) (fun zz => absurd (nI_le (Nat.le_refl _) (by omega)) zz)
      refine eX4_solve_54 hC ?_
      refine eX4_solve_55 hC ?_
      refine eX4_solve_56 hC ?_
      refine eX4_solve_57 hC ?_
      refine eX4_solve_58 hC (Nat.le_of_ble_eq_true rfl) (Nat.le_of_ble_eq_true rfl) (Nat.le_of_ble_eq_true rfl) (by first | assumption | exact zOpt.o (by assumption)) (vX4_weigh hC.nt hO hF' hT' hv1 hs11 hs21 ho hqo hto (Nat.le_refl _) (by omega) p2 hpd (fun j u j1 j2 j3 hu => (hTB i j u (Nat.le_refl _) j1 j1 j3 j2 hu).1)) (zk_w (fun μ_58 m_58 => ?_))
      obtain ⟨w1, w2⟩ := m_58
      have hag2 := w1.ag
      have hv2 := hv1.ag hag2 (by omega)
      have hs12 := hs11.ag hag2 (by omega)
      refine eX4_solve_61 hC ?_
      refine eX4_solve_62 hC ?_
      refine eX4_solve_63 hC ?_
      refine eX4_solve_64 hC (Nat.le_of_ble_eq_true rfl) (Nat.le_of_ble_eq_true rfl) (Nat.le_of_ble_eq_true rfl) (by first | assumption | exact zOpt.o (by assumption)) (vX4_follow hC.nt hO hF' hT' hv2 hs12 ho hqo hto hk0 hps hsn (fun b' i' u hu b1 b2 b3 b4 b5 => by
            by_cases c : b' = i'
            · have e := b4 c
              subst c
              subst e
              exact (w2 u hu).2
            · rw [w1.far (Nat.le_refl _) b2 (Or.inl (by omega)) hu, show decide (b' = i') = false from decide_eq_false c]
              exact (hTB b' i' u b1 (by omega) (by omega) b3 (b5 (by omega)) hu).2)) (zk_w (fun μ_64 m_64 => ?_))
      refine eX4_solve_67 hC hQ (Nat.le_of_ble_eq_true rfl) (Nat.le_of_ble_eq_true rfl) ?_
      obtain ⟨y1, y2⟩ := m_64
      refine ⟨rfl, rfl, y1, fun j hj => ?_, fun a j ha => ?_⟩
      · rw [y2 _ _ (fun z => hj ⟨z.2.1, z.2.2⟩), hag2 _ _ (by omega), hag _ _ (by omega)]
      · rw [y2 _ _ (fun z => by omega), hag2 _ _ (by omega), hag _ _ (by omega)]
    | succ d ih =>
      intro i μ1 hi hip hag hTB
      have loop2 : ∀ (d2 b : Nat) (μ2 : zF), b + d2 = i → s ≤ b → zAg μ μ2 (o + 2) (o + 5) → (∀ b' i' u, s ≤ b' → b' < i' → i < i' → i' < zpd τ s → i' ≤ zrc τ b' → u < 3 → μ2 (o + 2) (zsl b' i' u) = nI (zsc τ (zpd τ s) b' i' u) ∧ μ2 (o + 4) (zsl b' i' u) = nI (zch τ (zpd τ s) false b' i' u)) → (∀ b' u, s ≤ b' → b' < b → i ≤ zrc τ b' → u < 3 → μ2 (o + 2) (zsl b' i u) = nI (zsc τ (zpd τ s) b' i u) ∧ μ2 (o + 4) (zsl b' i u) = nI (zch τ (zpd τ s) false b' i u)) → zV x 0 0 12 [some (.ref o), some (.int (nI s)), some (.int (nI (zpd τ s))), some (.int (nI i)), some (.int (nI b))] [] K μ2 := by
        intro d2
        induction d2 with
        | zero =>
          intro b μ2 hb hsb hag2 hT1 hT2
          have hb : b = i := by omega
          subst hb
          refine eX4_solve_12 hC ?_
          refine eX4_solve_14 hC ?_
          refine eX4_solve_15 hC (fun _ => ?_) (fun zz => absurd (nI_le (Nat.le_refl _) (by omega)) zz)
          refine eX4_solve_48 hC ?_
          rw [nI_sub (by omega)]
          refine eX4_solve_51 hC ?_
          refine zV.fg (by simp [zFg]) (ih (b - 1) μ2 (by omega) (by omega) hag2 (fun b' i' u b1 b2 b3 b4 b5 hu => ?_))
          rcases Nat.eq_or_lt_of_le (show b ≤ i' by omega) with z | z
          · subst z; exact hT2 b' u b1 b2 b5 hu
          · exact hT1 b' i' u b1 b2 z b4 b5 hu
        | succ d2 ih2 =>
          intro b μ2 hb hsb hag2 hT1 hT2
          have hv2 := hv.ag hag2 (by omega)
          have hs12 := hs1.ag hag2 (by omega)
          have hs22 := hs2.ag hag2 (by omega)
          have hrb : zrd 40 (μ2 (q + 3 + 1)) (nI b) = nI (zrc τ b) := by
            rw [zrd_in (by omega) (by omega)]; exact hs22 b (by omega)
          have hrn := hpd b (by omega)
          by_cases c : i ≤ zrc τ b
          · refine eX4_solve_12 hC ?_
            refine eX4_solve_14 hC ?_
            refine eX4_solve_15 hC (fun zz => absurd zz (nI_ge (by omega) (by omega))) (fun _ => ?_)
            refine eX4_solve_18 hC ?_
            refine eX4_solve_19 hC (by assumption) (by assumption) ?_
            refine eX4_solve_22 hC (by assumption) (by assumption) ?_
            refine eX4_solve_25 hC ?_
            refine eX4_solve_27 hC (Nat.le_of_ble_eq_true rfl) (Nat.le_of_ble_eq_true rfl) (Nat.le_of_ble_eq_true rfl) (by first | assumption | exact zRow.o (by assumption)) (vX6_at hC.nt f5) (zk_i ?_)
            refine eX4_solve_30 hC ?_
            rw [hrb]
            refine eX4_solve_31 hC (fun zz => absurd zz (nI_nlt c (by omega))) (fun _ => ?_)
            refine eX4_solve_34 hC ?_
            refine eX4_solve_35 hC ?_
            refine eX4_solve_37 hC ?_
            refine eX4_solve_38 hC ?_
            refine eX4_solve_39 hC (Nat.le_of_ble_eq_true rfl) (Nat.le_of_ble_eq_true rfl) (Nat.le_of_ble_eq_true rfl) (by first | assumption | exact zOpt.o (by assumption)) (vX4_weigh hC.nt hO hF' hT' hv2 hs12 hs22 ho hqo hto (by omega) hip p2 hpd (fun j u j1 j2 j3 hu => (hT1 i j u (by omega) j1 j1 j3 j2 hu).1)) (zk_w (fun μ_39 m_39 => ?_))
            obtain ⟨w1, w2⟩ := m_39
            have hdf : decide (b = i) = false := decide_eq_false (by omega)
            refine eX4_solve_42 hC ?_
            rw [nI_add]
            refine eX4_solve_45 hC ?_
            refine ih2 (b + 1) μ_39 (by omega) (by omega) (hag2.trans w1.ag) (fun b' i' u b1 b2 b3 b4 b5 hu => ?_) (fun b' u b1 b2 b3 hu => ?_)
            · rw [w1.far (by omega) (by omega) (Or.inl (by omega)) hu, w1.far (by omega) (by omega) (Or.inl (by omega)) hu]
              exact hT1 b' i' u b1 b2 b3 b4 b5 hu
            · by_cases cb : b' = b
              · subst cb
                have := w2 u hu
                rw [hdf] at this
                rw [zsc_eq p2 hpd hip]
                exact this
              · rw [w1.far (by omega) (by omega) (Or.inr (by omega)) hu, w1.far (by omega) (by omega) (Or.inr (by omega)) hu]
                exact hT2 b' u b1 (by omega) b3 hu
          · refine eX4_solve_12 hC ?_
            refine eX4_solve_14 hC ?_
            refine eX4_solve_15 hC (fun zz => absurd zz (nI_ge (by omega) (by omega))) (fun _ => ?_)
            refine eX4_solve_18 hC ?_
            refine eX4_solve_19 hC (by assumption) (by assumption) ?_
            refine eX4_solve_22 hC (by assumption) (by assumption) ?_
            refine eX4_solve_25 hC ?_
            refine eX4_solve_27 hC (Nat.le_of_ble_eq_true rfl) (Nat.le_of_ble_eq_true rfl) (Nat.le_of_ble_eq_true rfl) (by first | assumption | exact zRow.o (by assumption)) (vX6_at hC.nt f5) (zk_i ?_)
            refine eX4_solve_30 hC ?_
            rw [hrb]
            refine eX4_solve_31 hC (fun _ => ?_) (fun zz => absurd (nI_lt (by omega) (by omega)) zz)
            refine eX4_solve_42 hC ?_
            rw [nI_add]
            refine eX4_solve_45 hC ?_
            refine ih2 (b + 1) μ2 (by omega) (by omega) hag2 hT1 (fun b' u b1 b2 b3 hu => ?_)
            rcases Nat.eq_or_lt_of_le (show b' ≤ b by omega) with z | z
            · subst z; exact absurd b3 c
            · exact hT2 b' u b1 z b3 hu
      refine eX4_solve_4 hC ?_
      refine eX4_solve_5 hC ?_
      refine eX4_solve_6 hC (fun zz => absurd zz (nI_ge (by omega) (by omega))) (fun _ => ?_)
      refine eX4_solve_9 hC ?_
      refine eX4_solve_10 hC ?_
      exact loop2 (i - s) s μ1 (by omega) (Nat.le_refl _) hag hTB (fun b' u b1 b2 b3 hu => by omega)
  refine eX4_solve_0 hC ?_
  refine eX4_solve_1 hC ?_
  refine eX4_solve_2 hC ?_
  rw [nI_sub (by omega)]
  refine eX4_solve_3 hC ?_
  exact loop1 (zpd τ s - 1 - s) (zpd τ s - 1) μ (by omega) (by omega) (zAg.refl _ _ _) (fun b' i' u b1 b2 b3 b4 b5 hu => by omega)
