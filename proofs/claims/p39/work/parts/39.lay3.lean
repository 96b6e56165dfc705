/-! ===== costs, reasons ===== -/
set_option maxHeartbeats 8000000 in
theorem vX3_totalCost {l : Launch} {g : zG} (hl : l.stackTraces = false) {K : zK} {μ : zF} {y t m : Nat} {τ : Nat → Nat} (h : zLay K y t) (hT : zTxt K t) (hv : zTv μ t τ) (ho : zOk τ) (hy : zLv μ y τ m) : EX3_totalCost l g 0 0 [.ref y] K μ (zPi (nI (ztc τ m (zm τ m))) K μ) := by
  obtain ⟨h0, h1, h2, h3, h4, h5, h6, h7, h8, h9⟩ := id h
  obtain ⟨t0, -⟩ := id hT
  have hs := hy.1
  have hmm := (zm_is τ m).1
  have o1 := ho.1
  have hcol := ho.2.2.2.1
  have hst : μ t 6 = nI (τ 84) := hv.2.2 6 (by omega) (by omega)
  refine nX3_totalCost hl (fun x hC hQ => ?_)
  have loop : ∀ (d k : Nat), k + d = zm τ m → zV x 0 0 4 [some (.ref y), some (.int (nI (ztc τ m k))), some (.int (nI k)), none] [] K μ := by
    intro d
    induction d with
    | zero =>
      intro k hk
      have hk : k = zm τ m := by omega
      subst hk
      refine eX3_totalCost_4 hC ?_
      refine eX3_totalCost_5 hC ?_
      refine eX3_totalCost_6 hC (by assumption) ?_
      rw [hs]
      refine eX3_totalCost_9 hC (fun _ => ?_) (fun zz => absurd (nI_le (Nat.le_refl _) (by omega)) zz)
      refine eX3_totalCost_81 hC ?_
      refine eX3_totalCost_82 hC hQ (Nat.le_of_ble_eq_true rfl) (Nat.le_of_ble_eq_true rfl) ?_
      exact ⟨rfl, rfl, rfl⟩
    | succ d ih =>
      intro k hk
      have ih' := ih (k + 1) (by omega)
      have hkm : k < zm τ m := by omega
      have hw := zlw_col ho hkm
      have hsa := zsa_le τ m k
      have e : ztc τ m (k + 1) = ztc τ m k + zcs τ m k := rfl
      rw [e] at ih'
      have c51 : ∀ c : Nat, zlc τ m k = c → zV x 0 0 51 [some (.ref y), some (.int (nI (ztc τ m k))), some (.int (nI k)), some (.int (nI (zlw τ m k)))] [.int (nI c), .int (nI (ztc τ m k))] K μ := by
        intro c hc
        by_cases ca : zsa τ m k = 1
        · have e2 : zcs τ m k = c := by unfold zcs; rw [if_pos ca, hc]; rfl
          rw [e2] at ih'
          refine eX3_totalCost_51 hC ?_
          rw [nI_add]
          refine eX3_totalCost_52 hC ?_
          refine eX3_totalCost_53 hC ?_
          refine eX3_totalCost_54 hC ?_
          refine eX3_totalCost_55 hC ?_
          refine eX3_totalCost_56 hC (Nat.le_of_ble_eq_true rfl) (Nat.le_of_ble_eq_true rfl) (Nat.le_of_ble_eq_true rfl) (by first | assumption | exact zLay.o (by assumption)) (vX3_stairAround hC.nt (by assumption) (by assumption) (by assumption) (by assumption) (by assumption) (by omega)) (zk_i ?_)
          rw [ca]
          refine eX3_totalCost_59 hC (fun _ => ?_) (fun zz => absurd (by decide) zz)
          refine eX3_totalCost_72 hC ?_
          refine eX3_totalCost_73 hC ?_
          rw [nI_add]
          refine eX3_totalCost_74 hC ?_
          refine eX3_totalCost_75 hC ?_
          rw [nI_add]
          refine eX3_totalCost_78 hC ?_
          exact zV.fg (by simp [zFg]) ih'
        · have e2 : zcs τ m k = c + τ 84 := by unfold zcs; rw [if_neg ca, hc]
          rw [e2, ← Nat.add_assoc] at ih'
          refine eX3_totalCost_51 hC ?_
          rw [nI_add]
          refine eX3_totalCost_52 hC ?_
          refine eX3_totalCost_53 hC ?_
          refine eX3_totalCost_54 hC ?_
          refine eX3_totalCost_55 hC ?_
          refine eX3_totalCost_56 hC (Nat.le_of_ble_eq_true rfl) (Nat.le_of_ble_eq_true rfl) (Nat.le_of_ble_eq_true rfl) (by first | assumption | exact zLay.o (by assumption)) (vX3_stairAround hC.nt (by assumption) (by assumption) (by assumption) (by assumption) (by assumption) (by omega)) (zk_i ?_)
          refine eX3_totalCost_59 hC (fun zz => absurd zz (zti_0 hsa ca)) (fun _ => ?_)
          refine eX3_totalCost_62 hC ?_
          refine eX3_totalCost_63 hC (by assumption) (by assumption) ?_
          refine eX3_totalCost_66 hC (by assumption) ?_
          refine eX3_totalCost_69 hC ?_
          refine eX3_totalCost_73 hC ?_
          rw [hst, nI_add]
          refine eX3_totalCost_74 hC ?_
          refine eX3_totalCost_75 hC ?_
          rw [nI_add]
          refine eX3_totalCost_78 hC ?_
          exact zV.fg (by simp [zFg]) ih'
      by_cases cl : zlp τ m k
      · have e1 : zlc τ m k = zif (¬ zfp τ m k ∧ 4 * zlw τ m k < τ 81) (τ 85) 0 := by unfold zlc; rw [zif_t cl]
        have c51' := c51 _ e1
        refine eX3_totalCost_4 hC ?_
        refine eX3_totalCost_5 hC ?_
        refine eX3_totalCost_6 hC (by assumption) ?_
        rw [hs]
        refine eX3_totalCost_9 hC (fun zz => absurd zz (nI_ge (by omega) (by omega))) (fun _ => ?_)
        refine eX3_totalCost_12 hC ?_
        refine eX3_totalCost_13 hC ?_
        refine eX3_totalCost_14 hC (Nat.le_of_ble_eq_true rfl) (Nat.le_of_ble_eq_true rfl) (Nat.le_of_ble_eq_true rfl) (by first | assumption | exact zLay.o (by assumption)) (vX3_widthOfLine hC.nt (by assumption) (by assumption) (by assumption) (by assumption) (by assumption) (by omega)) (zk_i ?_)
        refine eX3_totalCost_17 hC ?_
        refine eX3_totalCost_18 hC ?_
        refine eX3_totalCost_19 hC ?_
        refine eX3_totalCost_20 hC ?_
        refine eX3_totalCost_21 hC (Nat.le_of_ble_eq_true rfl) (Nat.le_of_ble_eq_true rfl) (Nat.le_of_ble_eq_true rfl) (by first | assumption | exact zLay.o (by assumption)) (vX3_isLastOfParagraph hC.nt (by assumption) (by assumption) (by assumption) (by assumption) (by assumption) (by omega)) (zk_i ?_)
        rw [zBv_t cl]
        refine eX3_totalCost_24 hC (fun zz => absurd zz zn10) (fun _ => ?_)
        refine eX3_totalCost_27 hC ?_
        refine eX3_totalCost_28 hC (by assumption) (by assumption) ?_
        refine eX3_totalCost_31 hC ?_
        refine eX3_totalCost_32 hC ?_
        refine eX3_totalCost_33 hC ?_
        refine eX3_totalCost_34 hC (Nat.le_of_ble_eq_true rfl) (Nat.le_of_ble_eq_true rfl) (Nat.le_of_ble_eq_true rfl) (by first | assumption | exact zLay.o (by assumption)) (vX3_isFirstOfParagraph hC.nt (by assumption) (by assumption) (by assumption) (by assumption) (by assumption) (by omega)) (zk_i ?_)
        refine eX3_totalCost_37 hC (Nat.le_of_ble_eq_true rfl) (Nat.le_of_ble_eq_true rfl) (Nat.le_of_ble_eq_true rfl) (by first | assumption | exact zTxt.o (by assumption)) (@vX7_lastLineCost _ _ hC.nt _ _ _ _ _ (zfp τ m k) (Classical.propDecidable _) hT hv (by omega) (by omega) _ rfl) (zk_i ?_)
        refine eX3_totalCost_40 hC ?_
        refine Eq.mp (congrArg (fun z => zV x _ _ 51 _ [.int (nI z), _] K μ) ?_) c51'
        by_cases cc : ¬ zfp τ m k ∧ 4 * zlw τ m k < τ 81
        · rw [zif_t cc, if_pos cc]
        · rw [zif_f cc, if_neg cc]
      · have e1 : zlc τ m k = (τ 81 - zlw τ m k) * (τ 81 - zlw τ m k) := by unfold zlc; rw [zif_f cl]
        refine eX3_totalCost_4 hC ?_
        refine eX3_totalCost_5 hC ?_
        refine eX3_totalCost_6 hC (by assumption) ?_
        rw [hs]
        refine eX3_totalCost_9 hC (fun zz => absurd zz (nI_ge (by omega) (by omega))) (fun _ => ?_)
        refine eX3_totalCost_12 hC ?_
        refine eX3_totalCost_13 hC ?_
        refine eX3_totalCost_14 hC (Nat.le_of_ble_eq_true rfl) (Nat.le_of_ble_eq_true rfl) (Nat.le_of_ble_eq_true rfl) (by first | assumption | exact zLay.o (by assumption)) (vX3_widthOfLine hC.nt (by assumption) (by assumption) (by assumption) (by assumption) (by assumption) (by omega)) (zk_i ?_)
        refine eX3_totalCost_17 hC ?_
        refine eX3_totalCost_18 hC ?_
        refine eX3_totalCost_19 hC ?_
        refine eX3_totalCost_20 hC ?_
        refine eX3_totalCost_21 hC (Nat.le_of_ble_eq_true rfl) (Nat.le_of_ble_eq_true rfl) (Nat.le_of_ble_eq_true rfl) (by first | assumption | exact zLay.o (by assumption)) (vX3_isLastOfParagraph hC.nt (by assumption) (by assumption) (by assumption) (by assumption) (by assumption) (by omega)) (zk_i ?_)
        rw [zBv_f cl]
        refine eX3_totalCost_24 hC (fun _ => ?_) (fun zz => absurd zn00 zz)
        refine eX3_totalCost_43 hC ?_
        refine eX3_totalCost_44 hC (by assumption) (by assumption) ?_
        refine eX3_totalCost_47 hC ?_
        refine eX3_totalCost_48 hC (Nat.le_of_ble_eq_true rfl) (Nat.le_of_ble_eq_true rfl) (Nat.le_of_ble_eq_true rfl) (by first | assumption | exact zTxt.o (by assumption)) (vX7_slackCost hC.nt hT hv hw) (zk_i ?_)
        exact c51 _ e1
  refine eX3_totalCost_0 hC ?_
  refine eX3_totalCost_1 hC ?_
  refine eX3_totalCost_2 hC ?_
  refine eX3_totalCost_3 hC ?_
  exact loop (zm τ m) 0 (by omega)
set_option maxHeartbeats 8000000 in
theorem vX3_reasonBehind {l : Launch} {g : zG} (hl : l.stackTraces = false) {K : zK} {μ : zF} {y t m w : Nat} {τ : Nat → Nat} (h : zLay K y t) (hT : zTxt K t) (hv : zTv μ t τ) (ho : zOk τ) (hy : zLv μ y τ m) (hw : w < τ 80) : EX3_reasonBehind l g 0 0 [.ref y, .int (nI w)] K μ (zPi (nI (zre τ m w)) K μ) := by
  obtain ⟨h0, h1, h2, h3, h4, h5, h6, h7, h8, h9⟩ := id h
  obtain ⟨t0, t1, t2, t3, t4⟩ := id hT
  obtain ⟨l1, l2, l3, l4⟩ := hy
  have o1 := ho.1
  have hcol := ho.2.2.2.1
  obtain ⟨m1, m2, m3⟩ := zm_is τ m
  obtain ⟨g1, g2, g3⟩ := zlo_is (m := m) hw
  have hc : μ t 3 = nI (τ 81) := hv.2.2 3 (by omega) (by omega)
  have hm2 := ho.2.2.1 w hw
  have hle := zL_le τ m (zlo τ m w + 1)
  have e1 : zrd 40 (μ (y + 3 + 1)) (nI w) = nI (zlo τ m w) := by rw [zrd_in (by omega) (by omega)]; exact l3 w hw
  have e2 : zrd 41 (μ (y + 1 + 1)) (nI (zlo τ m w + 1)) = nI (zL τ m (zlo τ m w + 1)) := by rw [zrd_in (by omega) (by omega)]; exact l2 _ (by omega)
  have e3 : zrd 41 (μ (y + 1 + 1)) (nI (zlo τ m w)) = nI (zL τ m (zlo τ m w)) := by rw [zrd_in (by omega) (by omega)]; exact l2 _ (by omega)
  have e4 : zrd 40 (μ (t + 3 + 1)) (nI w) = nI (τ (40 + w)) := by rw [zrd_in (by omega) (by omega)]; exact hv.2.1 w (by omega)
  refine nX3_reasonBehind hl (fun x hC hQ => ?_)
  by_cases c1 : zL τ m (zlo τ m w + 1) = w + 1
  · by_cases c2 : zpe τ w
    · have hz : zre τ m w = 1 := by unfold zre; rw [if_pos c1, zif_t c2]
      refine eX3_reasonBehind_0 hC ?_
      refine eX3_reasonBehind_1 hC (by assumption) (by assumption) ?_
      refine eX3_reasonBehind_4 hC ?_
      refine eX3_reasonBehind_5 hC (Nat.le_of_ble_eq_true rfl) (Nat.le_of_ble_eq_true rfl) (Nat.le_of_ble_eq_true rfl) (by first | assumption | exact zRow.o (by assumption)) (vX6_at hC.nt h7) (zk_i ?_)
      rw [e1]
      refine eX3_reasonBehind_8 hC ?_
      refine eX3_reasonBehind_9 hC ?_
      refine eX3_reasonBehind_10 hC (by assumption) (by assumption) ?_
      refine eX3_reasonBehind_13 hC ?_
      refine eX3_reasonBehind_14 hC ?_
      refine eX3_reasonBehind_15 hC ?_
      rw [nI_add]
      refine eX3_reasonBehind_16 hC (Nat.le_of_ble_eq_true rfl) (Nat.le_of_ble_eq_true rfl) (Nat.le_of_ble_eq_true rfl) (by first | assumption | exact zRow.o (by assumption)) (vX6_at hC.nt h6) (zk_i ?_)
      refine eX3_reasonBehind_19 hC ?_
      refine eX3_reasonBehind_20 hC ?_
      refine eX3_reasonBehind_21 hC ?_
      rw [e2, nI_add]
      refine eX3_reasonBehind_22 hC (fun _ => ?_) (fun zz => absurd (by rw [c1]) zz)
      refine eX3_reasonBehind_27 hC ?_
      refine eX3_reasonBehind_28 hC (by assumption) (by assumption) ?_
      refine eX3_reasonBehind_31 hC ?_
      refine eX3_reasonBehind_32 hC (Nat.le_of_ble_eq_true rfl) (Nat.le_of_ble_eq_true rfl) (Nat.le_of_ble_eq_true rfl) (by first | assumption | exact zTxt.o (by assumption)) (vX7_endsParagraph hC.nt hT hv ho hw) (zk_i ?_)
      rw [zBv_t c2]
      refine eX3_reasonBehind_35 hC (fun zz => absurd zz zn10) (fun _ => ?_)
      refine eX3_reasonBehind_38 hC ?_
      refine eX3_reasonBehind_39 hC hQ (Nat.le_of_ble_eq_true rfl) (Nat.le_of_ble_eq_true rfl) ?_
      rw [hz]
      exact ⟨rfl, rfl, rfl⟩
    · have hwn : w + 1 < τ 80 := by
        rcases Nat.lt_or_ge (w + 1) (τ 80) with q | q
        · exact q
        · exact absurd (Or.inr (by omega)) c2
      by_cases c3 : τ (40 + w) = 1
      · have hz : zre τ m w = 2 := by unfold zre; rw [if_pos c1, zif_f c2, if_pos c3]
        refine eX3_reasonBehind_0 hC ?_
        refine eX3_reasonBehind_1 hC (by assumption) (by assumption) ?_
        refine eX3_reasonBehind_4 hC ?_
        refine eX3_reasonBehind_5 hC (Nat.le_of_ble_eq_true rfl) (Nat.le_of_ble_eq_true rfl) (Nat.le_of_ble_eq_true rfl) (by first | assumption | exact zRow.o (by assumption)) (vX6_at hC.nt h7) (zk_i ?_)
        rw [e1]
        refine eX3_reasonBehind_8 hC ?_
        refine eX3_reasonBehind_9 hC ?_
        refine eX3_reasonBehind_10 hC (by assumption) (by assumption) ?_
        refine eX3_reasonBehind_13 hC ?_
        refine eX3_reasonBehind_14 hC ?_
        refine eX3_reasonBehind_15 hC ?_
        rw [nI_add]
        refine eX3_reasonBehind_16 hC (Nat.le_of_ble_eq_true rfl) (Nat.le_of_ble_eq_true rfl) (Nat.le_of_ble_eq_true rfl) (by first | assumption | exact zRow.o (by assumption)) (vX6_at hC.nt h6) (zk_i ?_)
        refine eX3_reasonBehind_19 hC ?_
        refine eX3_reasonBehind_20 hC ?_
        refine eX3_reasonBehind_21 hC ?_
        rw [e2, nI_add]
        refine eX3_reasonBehind_22 hC (fun _ => ?_) (fun zz => absurd (by rw [c1]) zz)
        refine eX3_reasonBehind_27 hC ?_
        refine eX3_reasonBehind_28 hC (by assumption) (by assumption) ?_
        refine eX3_reasonBehind_31 hC ?_
        refine eX3_reasonBehind_32 hC (Nat.le_of_ble_eq_true rfl) (Nat.le_of_ble_eq_true rfl) (Nat.le_of_ble_eq_true rfl) (by first | assumption | exact zTxt.o (by assumption)) (vX7_endsParagraph hC.nt hT hv ho hw) (zk_i ?_)
        rw [zBv_f c2]
        refine eX3_reasonBehind_35 hC (fun _ => ?_) (fun zz => absurd zn00 zz)
        refine eX3_reasonBehind_40 hC ?_
        refine eX3_reasonBehind_41 hC (by assumption) (by assumption) ?_
        refine eX3_reasonBehind_44 hC (by assumption) (by assumption) ?_
        refine eX3_reasonBehind_47 hC ?_
        refine eX3_reasonBehind_48 hC (Nat.le_of_ble_eq_true rfl) (Nat.le_of_ble_eq_true rfl) (Nat.le_of_ble_eq_true rfl) (by first | assumption | exact zRow.o (by assumption)) (vX6_at hC.nt t4) (zk_i ?_)
        refine eX3_reasonBehind_51 hC ?_
        rw [e4, c3]
        refine eX3_reasonBehind_52 hC (fun zz => absurd rfl zz) (fun _ => ?_)
        refine eX3_reasonBehind_55 hC ?_
        refine eX3_reasonBehind_56 hC hQ (Nat.le_of_ble_eq_true rfl) (Nat.le_of_ble_eq_true rfl) ?_
        rw [hz]
        exact ⟨rfl, rfl, rfl⟩
      · have hwd := zwd_le ho (i := zL τ m (zlo τ m w)) (j := w + 2) (by omega)
        by_cases c4 : zwd τ (zL τ m (zlo τ m w)) (w + 2) ≤ τ 81
        · have hz : zre τ m w = 4 := by unfold zre; rw [if_pos c1, zif_f c2, if_neg c3, if_pos c4]
          refine eX3_reasonBehind_0 hC ?_
          refine eX3_reasonBehind_1 hC (by assumption) (by assumption) ?_
          refine eX3_reasonBehind_4 hC ?_
          refine eX3_reasonBehind_5 hC (Nat.le_of_ble_eq_true rfl) (Nat.le_of_ble_eq_true rfl) (Nat.le_of_ble_eq_true rfl) (by first | assumption | exact zRow.o (by assumption)) (vX6_at hC.nt h7) (zk_i ?_)
          rw [e1]
          refine eX3_reasonBehind_8 hC ?_
          refine eX3_reasonBehind_9 hC ?_
          refine eX3_reasonBehind_10 hC (by assumption) (by assumption) ?_
          refine eX3_reasonBehind_13 hC ?_
          refine eX3_reasonBehind_14 hC ?_
          refine eX3_reasonBehind_15 hC ?_
          rw [nI_add]
          refine eX3_reasonBehind_16 hC (Nat.le_of_ble_eq_true rfl) (Nat.le_of_ble_eq_true rfl) (Nat.le_of_ble_eq_true rfl) (by first | assumption | exact zRow.o (by assumption)) (vX6_at hC.nt h6) (zk_i ?_)
          refine eX3_reasonBehind_19 hC ?_
          refine eX3_reasonBehind_20 hC ?_
          refine eX3_reasonBehind_21 hC ?_
          rw [e2, nI_add]
          refine eX3_reasonBehind_22 hC (fun _ => ?_) (fun zz => absurd (by rw [c1]) zz)
          refine eX3_reasonBehind_27 hC ?_
          refine eX3_reasonBehind_28 hC (by assumption) (by assumption) ?_
          refine eX3_reasonBehind_31 hC ?_
          refine eX3_reasonBehind_32 hC (Nat.le_of_ble_eq_true rfl) (Nat.le_of_ble_eq_true rfl) (Nat.le_of_ble_eq_true rfl) (by first | assumption | exact zTxt.o (by assumption)) (vX7_endsParagraph hC.nt hT hv ho hw) (zk_i ?_)
          rw [zBv_f c2]
          refine eX3_reasonBehind_35 hC (fun _ => ?_) (fun zz => absurd zn00 zz)
          refine eX3_reasonBehind_40 hC ?_
          refine eX3_reasonBehind_41 hC (by assumption) (by assumption) ?_
          refine eX3_reasonBehind_44 hC (by assumption) (by assumption) ?_
          refine eX3_reasonBehind_47 hC ?_
          refine eX3_reasonBehind_48 hC (Nat.le_of_ble_eq_true rfl) (Nat.le_of_ble_eq_true rfl) (Nat.le_of_ble_eq_true rfl) (by first | assumption | exact zRow.o (by assumption)) (vX6_at hC.nt t4) (zk_i ?_)
          refine eX3_reasonBehind_51 hC ?_
          rw [e4]
          refine eX3_reasonBehind_52 hC (fun _ => ?_) (fun zz => absurd zz (fun q => c3 (nI_inj (by omega) (by omega) q)))
          refine eX3_reasonBehind_57 hC ?_
          refine eX3_reasonBehind_58 hC (by assumption) (by assumption) ?_
          refine eX3_reasonBehind_61 hC ?_
          refine eX3_reasonBehind_62 hC (by assumption) (by assumption) ?_
          refine eX3_reasonBehind_65 hC ?_
          refine eX3_reasonBehind_66 hC (Nat.le_of_ble_eq_true rfl) (Nat.le_of_ble_eq_true rfl) (Nat.le_of_ble_eq_true rfl) (by first | assumption | exact zRow.o (by assumption)) (vX6_at hC.nt h6) (zk_i ?_)
          refine eX3_reasonBehind_69 hC ?_
          refine eX3_reasonBehind_70 hC ?_
          refine eX3_reasonBehind_71 hC ?_
          rw [e3, nI_add]
          refine eX3_reasonBehind_72 hC (Nat.le_of_ble_eq_true rfl) (Nat.le_of_ble_eq_true rfl) (Nat.le_of_ble_eq_true rfl) (by first | assumption | exact zFit.o (by assumption)) (vX1_widthBetween hC.nt h8 hT hv l4 o1 (by omega) (by omega)) (zk_i ?_)
          refine eX3_reasonBehind_75 hC ?_
          refine eX3_reasonBehind_76 hC (by assumption) (by assumption) ?_
          refine eX3_reasonBehind_79 hC (by assumption) ?_
          rw [zwi_eq (by omega), hc]
          refine eX3_reasonBehind_82 hC (fun _ => ?_) (fun zz => absurd (nI_le c4 (by omega)) zz)
          refine eX3_reasonBehind_89 hC ?_
          refine eX3_reasonBehind_90 hC hQ (Nat.le_of_ble_eq_true rfl) (Nat.le_of_ble_eq_true rfl) ?_
          rw [hz]
          exact ⟨rfl, rfl, rfl⟩
        · have hz : zre τ m w = 3 := by unfold zre; rw [if_pos c1, zif_f c2, if_neg c3, if_neg c4]
          refine eX3_reasonBehind_0 hC ?_
          refine eX3_reasonBehind_1 hC (by assumption) (by assumption) ?_
          refine eX3_reasonBehind_4 hC ?_
          refine eX3_reasonBehind_5 hC (Nat.le_of_ble_eq_true rfl) (Nat.le_of_ble_eq_true rfl) (Nat.le_of_ble_eq_true rfl) (by first | assumption | exact zRow.o (by assumption)) (vX6_at hC.nt h7) (zk_i ?_)
          rw [e1]
          refine eX3_reasonBehind_8 hC ?_
          refine eX3_reasonBehind_9 hC ?_
          refine eX3_reasonBehind_10 hC (by assumption) (by assumption) ?_
          refine eX3_reasonBehind_13 hC ?_
          refine eX3_reasonBehind_14 hC ?_
          refine eX3_reasonBehind_15 hC ?_
          rw [nI_add]
          refine eX3_reasonBehind_16 hC (Nat.le_of_ble_eq_true rfl) (Nat.le_of_ble_eq_true rfl) (Nat.le_of_ble_eq_true rfl) (by first | assumption | exact zRow.o (by assumption)) (vX6_at hC.nt h6) (zk_i ?_)
          refine eX3_reasonBehind_19 hC ?_
          refine eX3_reasonBehind_20 hC ?_
          refine eX3_reasonBehind_21 hC ?_
          rw [e2, nI_add]
          refine eX3_reasonBehind_22 hC (fun _ => ?_) (fun zz => absurd (by rw [c1]) zz)
          refine eX3_reasonBehind_27 hC ?_
          refine eX3_reasonBehind_28 hC (by assumption) (by assumption) ?_
          refine eX3_reasonBehind_31 hC ?_
          refine eX3_reasonBehind_32 hC (Nat.le_of_ble_eq_true rfl) (Nat.le_of_ble_eq_true rfl) (Nat.le_of_ble_eq_true rfl) (by first | assumption | exact zTxt.o (by assumption)) (vX7_endsParagraph hC.nt hT hv ho hw) (zk_i ?_)
          rw [zBv_f c2]
          refine eX3_reasonBehind_35 hC (fun _ => ?_) (fun zz => absurd zn00 zz)
          refine eX3_reasonBehind_40 hC ?_
          refine eX3_reasonBehind_41 hC (by assumption) (by assumption) ?_
          refine eX3_reasonBehind_44 hC (by assumption) (by assumption) ?_
          refine eX3_reasonBehind_47 hC ?_
          refine eX3_reasonBehind_48 hC (Nat.le_of_ble_eq_true rfl) (Nat.le_of_ble_eq_true rfl) (Nat.le_of_ble_eq_true rfl) (by first | assumption | exact zRow.o (by assumption)) (vX6_at hC.nt t4) (zk_i ?_)
          refine eX3_reasonBehind_51 hC ?_
          rw [e4]
          refine eX3_reasonBehind_52 hC (fun _ => ?_) (fun zz => absurd zz (fun q => c3 (nI_inj (by omega) (by omega) q)))
          refine eX3_reasonBehind_57 hC ?_
          refine eX3_reasonBehind_58 hC (by assumption) (by assumption) ?_
          refine eX3_reasonBehind_61 hC ?_
          refine eX3_reasonBehind_62 hC (by assumption) (by assumption) ?_
          refine eX3_reasonBehind_65 hC ?_
          refine eX3_reasonBehind_66 hC (Nat.le_of_ble_eq_true rfl) (Nat.le_of_ble_eq_true rfl) (Nat.le_of_ble_eq_true rfl) (by first | assumption | exact zRow.o (by assumption)) (vX6_at hC.nt h6) (zk_i ?_)
          refine eX3_reasonBehind_69 hC ?_
          refine eX3_reasonBehind_70 hC ?_
          refine eX3_reasonBehind_71 hC ?_
          rw [e3, nI_add]
          refine eX3_reasonBehind_72 hC (Nat.le_of_ble_eq_true rfl) (Nat.le_of_ble_eq_true rfl) (Nat.le_of_ble_eq_true rfl) (by first | assumption | exact zFit.o (by assumption)) (vX1_widthBetween hC.nt h8 hT hv l4 o1 (by omega) (by omega)) (zk_i ?_)
          refine eX3_reasonBehind_75 hC ?_
          refine eX3_reasonBehind_76 hC (by assumption) (by assumption) ?_
          refine eX3_reasonBehind_79 hC (by assumption) ?_
          rw [zwi_eq (by omega), hc]
          refine eX3_reasonBehind_82 hC (fun zz => absurd zz (nI_ge (by omega) (by omega))) (fun _ => ?_)
          refine eX3_reasonBehind_85 hC ?_
          refine eX3_reasonBehind_86 hC ?_
          refine eX3_reasonBehind_90 hC hQ (Nat.le_of_ble_eq_true rfl) (Nat.le_of_ble_eq_true rfl) ?_
          rw [hz]
          exact ⟨rfl, rfl, rfl⟩
  · have hz : zre τ m w = 0 := by unfold zre; rw [if_neg c1]
    refine eX3_reasonBehind_0 hC ?_
    refine eX3_reasonBehind_1 hC (by assumption) (by assumption) ?_
    refine eX3_reasonBehind_4 hC ?_
    refine eX3_reasonBehind_5 hC (Nat.le_of_ble_eq_true rfl) (Nat.le_of_ble_eq_true rfl) (Nat.le_of_ble_eq_true rfl) (by first | assumption | exact zRow.o (by assumption)) (vX6_at hC.nt h7) (zk_i ?_)
    rw [e1]
    refine eX3_reasonBehind_8 hC ?_
    refine eX3_reasonBehind_9 hC ?_
    refine eX3_reasonBehind_10 hC (by assumption) (by assumption) ?_
    refine eX3_reasonBehind_13 hC ?_
    refine eX3_reasonBehind_14 hC ?_
    refine eX3_reasonBehind_15 hC ?_
    rw [nI_add]
    refine eX3_reasonBehind_16 hC (Nat.le_of_ble_eq_true rfl) (Nat.le_of_ble_eq_true rfl) (Nat.le_of_ble_eq_true rfl) (by first | assumption | exact zRow.o (by assumption)) (vX6_at hC.nt h6) (zk_i ?_)
    refine eX3_reasonBehind_19 hC ?_
    refine eX3_reasonBehind_20 hC ?_
    refine eX3_reasonBehind_21 hC ?_
    rw [e2, nI_add]
    refine eX3_reasonBehind_22 hC (fun zz => absurd zz (fun q => c1 (nI_inj (by omega) (by omega) q))) (fun _ => ?_)
    refine eX3_reasonBehind_25 hC ?_
    refine eX3_reasonBehind_26 hC hQ (Nat.le_of_ble_eq_true rfl) (Nat.le_of_ble_eq_true rfl) ?_
    rw [hz]
    exact ⟨rfl, rfl, rfl⟩
