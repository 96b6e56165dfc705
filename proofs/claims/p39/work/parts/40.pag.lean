/-! ===== pages ===== -/
set_option maxHeartbeats 8000000 in
theorem vX5_fill {l : Launch} {g : zG} (hl : l.stackTraces = false) {K : zK} {μ : zF} {p y t m : Nat} {τ : Nat → Nat} (h : zPag K p t y) (hLy : zLay K y t) (hT : zTxt K t) (hv : zTv μ t τ) (ho : zOk τ) (hy : zLv μ y τ m) (hpy : y + 17 ≤ p) (hpt : t + 5 ≤ p) : EX5_fill l g 0 0 [.ref p] K μ (zPw K (fun μ' => zPgv μ' p τ m ∧ zAg μ μ' p (p + 5))) := by
  obtain ⟨h0, h1, h2, h3, h4, h5, h6⟩ := h
  obtain ⟨y0, -⟩ := id hLy
  obtain ⟨t0, -⟩ := id hT
  have o1 := ho.1
  have h86 := ho.2.2.2.2.2.2.2.2.1
  have hmm := (zm_is τ m).1
  have hg := zpx_ok ho m
  obtain ⟨m1, m2, m3⟩ := gM_is hg
  have hP0 : zP τ m 0 = 0 := rfl
  have hPle : ∀ k, zP τ m k ≤ zm τ m := fun k => gC_le hg k
  refine nX5_fill hl (fun x hC hQ => ?_)
  have loop : ∀ (d w k nx : Nat) (μ1 : zF), w + d = zm τ m → w ≤ zP τ m k → (nx < zm τ m → nx = zP τ m k) → (zm τ m ≤ nx → zP τ m k = zm τ m) → nx < 100 → k ≤ zpm τ m → (k = 0 → w = 0) → (∀ j, j < k → zP τ m j < w) → zAg μ μ1 p (p + 5) → μ1 p 4 = nI k → (∀ j, j < k → μ1 (p + 2) j = nI (zP τ m j)) → (∀ v, v < w → μ1 (p + 4) v = nI (zpo τ m v)) →
      zV x 0 0 9 [some (.ref p), some (.int (nI nx)), some (.int (nI w)), none] [] K μ1 := by
    intro d
    induction d with
    | zero =>
      intro w k nx μ1 hw hwk hx1 hx2 hx3 hkm hk0 hkl hag h51 hst hlo
      have hw : w = zm τ m := by omega
      subst hw
      have hy1 := hy.ag hag (by omega)
      have hn := hy1.1
      have hkm2 : k = zpm τ m := by
        rcases Nat.lt_or_ge k (zpm τ m) with q | q
        · have := m3 k q
          have : zP τ m k < zm τ m := this
          omega
        · omega
      refine eX5_fill_9 hC ?_
      refine eX5_fill_10 hC ?_
      refine eX5_fill_11 hC (by assumption) (by assumption) ?_
      refine eX5_fill_14 hC (by assumption) ?_
      rw [hn]
      refine eX5_fill_17 hC (fun _ => ?_) (fun zz => absurd (nI_le (Nat.le_refl _) (by omega)) zz)
      refine eX5_fill_130 hC ?_
      refine eX5_fill_131 hC (by assumption) (by assumption) ?_
      refine eX5_fill_134 hC ?_
      refine eX5_fill_135 hC (by assumption) ?_
      refine eX5_fill_138 hC ?_
      refine eX5_fill_139 hC (by assumption) (by assumption) ?_
      refine eX5_fill_142 hC (by assumption) ?_
      rw [hn, h51]
      refine eX5_fill_145 hC (Nat.le_of_ble_eq_true rfl) (Nat.le_of_ble_eq_true rfl) (Nat.le_of_ble_eq_true rfl) (by first | assumption | exact zRow.o (by assumption)) (vX6_put hC.nt h5) (zk_w (fun μ_145 m_145 => ?_))
      refine eX5_fill_148 hC hQ (Nat.le_of_ble_eq_true rfl) (Nat.le_of_ble_eq_true rfl) ?_
      rw [zpt_in (by unfold zpm at hkm; omega) (by omega)] at m_145
      subst m_145
      refine ⟨rfl, rfl, ⟨?_, fun j hj => ?_, fun v hv => ?_⟩, hag.trans (zAg.up (by omega))⟩
      · rw [zup_a _ _ _ _ (by omega), h51, hkm2]
      · by_cases c : j = k
        · subst c
          rw [zup_self, hkm2]
          show nI (zm τ m) = nI (gC (zpx τ m) (zm τ m) (gM (zpx τ m) (zm τ m)))
          rw [m2]
        · rw [show p + 2 = p + 1 + 1 by omega, zup_k _ _ _ c]
          exact hst j (by omega)
      · rw [zup_a _ _ _ _ (by omega)]; exact hlo v hv
    | succ d ih =>
      intro w k nx μ1 hw hwk hx1 hx2 hx3 hkm hk0 hkl hag h51 hst hlo
      have hy1 := hy.ag hag (by omega)
      have hn := hy1.1
      have hk40 : k ≤ 40 := by unfold zpm at hkm; omega
      -- behind the choice of the next page: the line's page is noted
      have c110 : ∀ (k' nx' : Nat) (x3 : Option Value) (μ2 : zF), w + 1 ≤ zP τ m k' → (nx' < zm τ m → nx' = zP τ m k') → (zm τ m ≤ nx' → zP τ m k' = zm τ m) → nx' < 100 → k' ≤ zpm τ m → 0 < k' → (∀ j, j < k' → zP τ m j < w + 1) → zAg μ μ2 p (p + 5) → μ2 p 4 = nI k' → (∀ j, j < k' → μ2 (p + 2) j = nI (zP τ m j)) → (∀ v, v < w → μ2 (p + 4) v = nI (zpo τ m v)) →
          zV x 0 0 110 [some (.ref p), some (.int (nI nx')), some (.int (nI w)), x3] [] K μ2 := by
        intro k' nx' x3 μ2 a1 a2 a3 a4 a5 a6 a7 a8 a9 a10 a11
        have hpo : zpo τ m w = k' - 1 := gO_eq hg (by omega) (by have : zP τ m (k' - 1) < w + 1 := a7 (k' - 1) (by omega); exact Nat.le_of_lt_succ this) (by rw [show k' - 1 + 1 = k' by omega]; exact a1)
        have hk40' : k' ≤ 40 := by unfold zpm at a5; omega
        refine eX5_fill_110 hC ?_
        refine eX5_fill_111 hC (by assumption) (by assumption) ?_
        refine eX5_fill_114 hC ?_
        refine eX5_fill_115 hC ?_
        refine eX5_fill_116 hC (by assumption) ?_
        refine eX5_fill_119 hC ?_
        refine eX5_fill_120 hC ?_
        rw [a9, nI_sub (by omega)]
        refine eX5_fill_121 hC (Nat.le_of_ble_eq_true rfl) (Nat.le_of_ble_eq_true rfl) (Nat.le_of_ble_eq_true rfl) (by first | assumption | exact zRow.o (by assumption)) (vX6_put hC.nt h6) (zk_w (fun μ_121 m_121 => ?_))
        rw [zpt_in (by omega) (by omega)] at m_121
        refine eX5_fill_124 hC ?_
        rw [nI_add]
        refine eX5_fill_127 hC ?_
        refine zV.fg (ls' := [some (.ref p), some (.int (nI nx')), some (.int (nI (w + 1))), none]) (by cases x3 <;> simp [zFg]) (ih (w + 1) k' nx' μ_121 (by omega) a1 a2 a3 a4 a5 (by omega) a7 ?_ ?_ (fun j hj => ?_) (fun v hv => ?_))
        · rw [m_121]; exact a8.trans (zAg.up (by omega))
        · rw [m_121, zup_a _ _ _ _ (by omega)]; exact a9
        · rw [m_121, zup_a _ _ _ _ (by omega)]; exact a10 j hj
        · rw [m_121]
          by_cases c : v = w
          · subst c
            rw [show p + 4 = p + 3 + 1 by omega, zup_self, hpo]
          · rw [show p + 4 = p + 3 + 1 by omega, zup_k _ _ _ c]; exact a11 v (by omega)
      by_cases cw : w = zP τ m k
      · have hnx : nx = w := by
          rcases Nat.lt_or_ge nx (zm τ m) with q | q
          · rw [hx1 q]; exact cw.symm
          · have := hx2 q; omega
        subst hnx
        have hlk : gC (zpx τ m) (zm τ m) k < zm τ m := by show zP τ m k < zm τ m; omega
        have hkz : k < zpm τ m := (gM_iff hg).mpr hlk
        have hnext : zP τ m (k + 1) = zpx τ m nx := by
          show gC (zpx τ m) (zm τ m) (k + 1) = _
          rw [gC_next hlk]
          show zpx τ m (zP τ m k) = _
          rw [← cw]
        have hltx := (hg nx (by omega)).1
        have go : ∀ (nx' : Nat) (x3 : Option Value) (μ2 : zF), (nx' < zm τ m → nx' = zpx τ m nx) → (zm τ m ≤ nx' → zpx τ m nx = zm τ m) → nx' < 100 → μ2 = zup (zup μ1 (p + 2) k (nI nx)) p 4 (nI (k + 1)) → zV x 0 0 110 [some (.ref p), some (.int (nI nx')), some (.int (nI nx)), x3] [] K μ2 := by
          intro nx' x3 μ2 b1 b2 b3 b4
          refine c110 (k + 1) nx' x3 μ2 (by rw [hnext]; omega) (by rw [hnext]; exact b1) (by rw [hnext]; exact b2) b3 (by omega) (by omega) (fun j hj => ?_) ?_ ?_ (fun j hj => ?_) (fun v hv => ?_)
          · rcases Nat.eq_or_lt_of_le (show j ≤ k by omega) with z | z
            · subst z; omega
            · have := hkl j z; omega
          · rw [b4]; exact (hag.trans (zAg.up (by omega))).trans (zAg.up (by omega))
          · rw [b4, zup_self]
          · rw [b4, zup_a _ _ _ _ (by omega)]
            by_cases c : j = k
            · subst c
              rw [zup_self, cw]
            · rw [zup_k _ _ _ c]; exact hst j (by omega)
          · rw [b4, zup_a _ _ _ _ (by omega), zup_a _ _ _ _ (by omega)]; exact hlo v hv
        have pre : ∀ μ2 : zF, μ2 = zup (zup μ1 (p + 2) k (nI nx)) p 4 (nI (k + 1)) → zV x 0 0 47 [some (.ref p), some (.int (nI nx)), some (.int (nI nx)), none] [] K μ2 := by
          intro μ2 b4
          have hag2 : zAg μ μ2 p (p + 5) := by rw [b4]; exact (hag.trans (zAg.up (by omega))).trans (zAg.up (by omega))
          have hv2 := hv.ag hag2 (by omega)
          have hy2 := hy.ag hag2 (by omega)
          have hn2 := hy2.1
          have hpg : μ2 t 8 = nI (τ 86) := hv2.2.2 8 (by omega) (by omega)
          by_cases d1 : nx + τ 86 < zm τ m
          · by_cases d2 : zop τ m (nx + τ 86 - 1)
            · have e : zpx τ m nx = nx + τ 86 - 1 := by unfold zpx; rw [if_pos d1, zif_t (Or.inl d2)]
              refine eX5_fill_47 hC ?_
              refine eX5_fill_48 hC ?_
              refine eX5_fill_49 hC (by assumption) (by assumption) ?_
              refine eX5_fill_52 hC (by assumption) ?_
              refine eX5_fill_55 hC ?_
              rw [hpg, nI_add]
              refine eX5_fill_56 hC ?_
              refine eX5_fill_57 hC ?_
              refine eX5_fill_58 hC ?_
              refine eX5_fill_59 hC (by assumption) (by assumption) ?_
              refine eX5_fill_62 hC (by assumption) ?_
              rw [hn2]
              refine eX5_fill_65 hC (fun zz => absurd zz (nI_ge d1 (by omega))) (fun _ => ?_)
              refine eX5_fill_68 hC ?_
              refine eX5_fill_69 hC (by assumption) (by assumption) ?_
              refine eX5_fill_72 hC ?_
              refine eX5_fill_73 hC ?_
              refine eX5_fill_74 hC ?_
              rw [nI_sub (by omega)]
              refine eX5_fill_75 hC (Nat.le_of_ble_eq_true rfl) (Nat.le_of_ble_eq_true rfl) (Nat.le_of_ble_eq_true rfl) (by first | assumption | exact zLay.o (by assumption)) (vX3_opensParagraph hC.nt hLy hT hv2 ho hy2 (by omega)) (zk_i ?_)
              rw [show zBv (zfp τ m (nx + τ 86 - 1) ∧ ¬ zlp τ m (nx + τ 86 - 1)) = nI 1 from zBv_t d2]
              refine eX5_fill_78 hC (fun _ => ?_) (fun zz => absurd zz zn10)
              refine eX5_fill_92 hC ?_
              refine eX5_fill_93 hC ?_
              refine eX5_fill_97 hC ?_
              refine eX5_fill_98 hC ?_
              refine eX5_fill_99 hC (fun zz => absurd zz zn10) (fun _ => ?_)
              refine eX5_fill_102 hC ?_
              refine eX5_fill_103 hC ?_
              refine eX5_fill_104 hC ?_
              refine eX5_fill_105 hC ?_
              rw [nI_sub (by omega)]
              refine eX5_fill_109 hC ?_
              exact go _ _ _ (fun _ => e.symm) (fun q => by omega) (by omega) b4
            · by_cases d3 : zcl τ m (nx + τ 86)
              · have e : zpx τ m nx = nx + τ 86 - 1 := by unfold zpx; rw [if_pos d1, zif_t (Or.inr d3)]
                refine eX5_fill_47 hC ?_
                refine eX5_fill_48 hC ?_
                refine eX5_fill_49 hC (by assumption) (by assumption) ?_
                refine eX5_fill_52 hC (by assumption) ?_
                refine eX5_fill_55 hC ?_
                rw [hpg, nI_add]
                refine eX5_fill_56 hC ?_
                refine eX5_fill_57 hC ?_
                refine eX5_fill_58 hC ?_
                refine eX5_fill_59 hC (by assumption) (by assumption) ?_
                refine eX5_fill_62 hC (by assumption) ?_
                rw [hn2]
                refine eX5_fill_65 hC (fun zz => absurd zz (nI_ge d1 (by omega))) (fun _ => ?_)
                refine eX5_fill_68 hC ?_
                refine eX5_fill_69 hC (by assumption) (by assumption) ?_
                refine eX5_fill_72 hC ?_
                refine eX5_fill_73 hC ?_
                refine eX5_fill_74 hC ?_
                rw [nI_sub (by omega)]
                refine eX5_fill_75 hC (Nat.le_of_ble_eq_true rfl) (Nat.le_of_ble_eq_true rfl) (Nat.le_of_ble_eq_true rfl) (by first | assumption | exact zLay.o (by assumption)) (vX3_opensParagraph hC.nt hLy hT hv2 ho hy2 (by omega)) (zk_i ?_)
                rw [show zBv (zfp τ m (nx + τ 86 - 1) ∧ ¬ zlp τ m (nx + τ 86 - 1)) = nI 0 from zBv_f d2]
                refine eX5_fill_78 hC (fun zz => absurd zn00 zz) (fun _ => ?_)
                refine eX5_fill_81 hC ?_
                refine eX5_fill_82 hC (by assumption) (by assumption) ?_
                refine eX5_fill_85 hC ?_
                refine eX5_fill_86 hC (Nat.le_of_ble_eq_true rfl) (Nat.le_of_ble_eq_true rfl) (Nat.le_of_ble_eq_true rfl) (by first | assumption | exact zLay.o (by assumption)) (vX3_closesParagraph hC.nt hLy hT hv2 ho hy2 (by omega)) (zk_i ?_)
                rw [show zBv (zlp τ m (nx + τ 86) ∧ ¬ zfp τ m (nx + τ 86)) = nI 1 from zBv_t d3]
                refine eX5_fill_89 hC (fun zz => absurd zz zn10) (fun _ => ?_)
                refine eX5_fill_92 hC ?_
                refine eX5_fill_93 hC ?_
                refine eX5_fill_97 hC ?_
                refine eX5_fill_98 hC ?_
                refine eX5_fill_99 hC (fun zz => absurd zz zn10) (fun _ => ?_)
                refine eX5_fill_102 hC ?_
                refine eX5_fill_103 hC ?_
                refine eX5_fill_104 hC ?_
                refine eX5_fill_105 hC ?_
                rw [nI_sub (by omega)]
                refine eX5_fill_109 hC ?_
                exact go _ _ _ (fun _ => e.symm) (fun q => by omega) (by omega) b4
              · have e : zpx τ m nx = nx + τ 86 := by unfold zpx; rw [if_pos d1, zif_f (fun q => q.elim d2 d3)]
                refine eX5_fill_47 hC ?_
                refine eX5_fill_48 hC ?_
                refine eX5_fill_49 hC (by assumption) (by assumption) ?_
                refine eX5_fill_52 hC (by assumption) ?_
                refine eX5_fill_55 hC ?_
                rw [hpg, nI_add]
                refine eX5_fill_56 hC ?_
                refine eX5_fill_57 hC ?_
                refine eX5_fill_58 hC ?_
                refine eX5_fill_59 hC (by assumption) (by assumption) ?_
                refine eX5_fill_62 hC (by assumption) ?_
                rw [hn2]
                refine eX5_fill_65 hC (fun zz => absurd zz (nI_ge d1 (by omega))) (fun _ => ?_)
                refine eX5_fill_68 hC ?_
                refine eX5_fill_69 hC (by assumption) (by assumption) ?_
                refine eX5_fill_72 hC ?_
                refine eX5_fill_73 hC ?_
                refine eX5_fill_74 hC ?_
                rw [nI_sub (by omega)]
                refine eX5_fill_75 hC (Nat.le_of_ble_eq_true rfl) (Nat.le_of_ble_eq_true rfl) (Nat.le_of_ble_eq_true rfl) (by first | assumption | exact zLay.o (by assumption)) (vX3_opensParagraph hC.nt hLy hT hv2 ho hy2 (by omega)) (zk_i ?_)
                rw [show zBv (zfp τ m (nx + τ 86 - 1) ∧ ¬ zlp τ m (nx + τ 86 - 1)) = nI 0 from zBv_f d2]
                refine eX5_fill_78 hC (fun zz => absurd zn00 zz) (fun _ => ?_)
                refine eX5_fill_81 hC ?_
                refine eX5_fill_82 hC (by assumption) (by assumption) ?_
                refine eX5_fill_85 hC ?_
                refine eX5_fill_86 hC (Nat.le_of_ble_eq_true rfl) (Nat.le_of_ble_eq_true rfl) (Nat.le_of_ble_eq_true rfl) (by first | assumption | exact zLay.o (by assumption)) (vX3_closesParagraph hC.nt hLy hT hv2 ho hy2 (by omega)) (zk_i ?_)
                rw [show zBv (zlp τ m (nx + τ 86) ∧ ¬ zfp τ m (nx + τ 86)) = nI 0 from zBv_f d3]
                refine eX5_fill_89 hC (fun _ => ?_) (fun zz => absurd zn00 zz)
                refine eX5_fill_96 hC ?_
                refine eX5_fill_97 hC ?_
                refine eX5_fill_98 hC ?_
                refine eX5_fill_99 hC (fun _ => ?_) (fun zz => absurd zn00 zz)
                refine eX5_fill_108 hC ?_
                refine eX5_fill_109 hC ?_
                exact go _ _ _ (fun _ => e.symm) (fun q => by omega) (by omega) b4
          · have e : zpx τ m nx = zm τ m := by unfold zpx; rw [if_neg d1]
            refine eX5_fill_47 hC ?_
            refine eX5_fill_48 hC ?_
            refine eX5_fill_49 hC (by assumption) (by assumption) ?_
            refine eX5_fill_52 hC (by assumption) ?_
            refine eX5_fill_55 hC ?_
            rw [hpg, nI_add]
            refine eX5_fill_56 hC ?_
            refine eX5_fill_57 hC ?_
            refine eX5_fill_58 hC ?_
            refine eX5_fill_59 hC (by assumption) (by assumption) ?_
            refine eX5_fill_62 hC (by assumption) ?_
            rw [hn2]
            refine eX5_fill_65 hC (fun _ => ?_) (fun zz => absurd (nI_le (by omega) (by omega)) zz)
            refine eX5_fill_96 hC ?_
            refine eX5_fill_97 hC ?_
            refine eX5_fill_98 hC ?_
            refine eX5_fill_99 hC (fun _ => ?_) (fun zz => absurd zn00 zz)
            refine eX5_fill_108 hC ?_
            refine eX5_fill_109 hC ?_
            exact go _ _ _ (fun q => by omega) (fun _ => e) (by omega) b4
        refine eX5_fill_9 hC ?_
        refine eX5_fill_10 hC ?_
        refine eX5_fill_11 hC (by assumption) (by assumption) ?_
        refine eX5_fill_14 hC (by assumption) ?_
        rw [hn]
        refine eX5_fill_17 hC (fun zz => absurd zz (nI_ge (by omega) (by omega))) (fun _ => ?_)
        refine eX5_fill_20 hC ?_
        refine eX5_fill_21 hC ?_
        refine eX5_fill_22 hC (fun zz => absurd rfl zz) (fun _ => ?_)
        refine eX5_fill_25 hC ?_
        refine eX5_fill_26 hC (by assumption) (by assumption) ?_
        refine eX5_fill_29 hC ?_
        refine eX5_fill_30 hC (by assumption) ?_
        refine eX5_fill_33 hC ?_
        rw [h51]
        refine eX5_fill_34 hC (Nat.le_of_ble_eq_true rfl) (Nat.le_of_ble_eq_true rfl) (Nat.le_of_ble_eq_true rfl) (by first | assumption | exact zRow.o (by assumption)) (vX6_put hC.nt h5) (zk_w (fun μ_34 m_34 => ?_))
        rw [zpt_in (by omega) (by omega)] at m_34
        refine eX5_fill_37 hC ?_
        refine eX5_fill_38 hC ?_
        refine eX5_fill_39 hC (by assumption) ?_
        refine eX5_fill_42 hC ?_
        refine eX5_fill_43 hC ?_
        rw [show μ_34 p 4 = nI k by rw [m_34, zup_a _ _ _ _ (by omega)]; exact h51, nI_add]
        refine eX5_fill_44 hC (by assumption) ?_
        exact pre _ (by rw [m_34])
      · have hk1 : 0 < k := by
          rcases Nat.eq_zero_or_pos k with q | q
          · subst q; have := hk0 rfl; omega
          · exact q
        have hne : w ≠ nx := fun q => by
          rcases Nat.lt_or_ge nx (zm τ m) with z | z
          · have := hx1 z; omega
          · omega
        refine eX5_fill_9 hC ?_
        refine eX5_fill_10 hC ?_
        refine eX5_fill_11 hC (by assumption) (by assumption) ?_
        refine eX5_fill_14 hC (by assumption) ?_
        rw [hn]
        refine eX5_fill_17 hC (fun zz => absurd zz (nI_ge (by omega) (by omega))) (fun _ => ?_)
        refine eX5_fill_20 hC ?_
        refine eX5_fill_21 hC ?_
        refine eX5_fill_22 hC (fun _ => ?_) (fun zz => absurd zz (fun q => hne (nI_inj (by omega) (by omega) q)))
        exact c110 k nx none μ1 (by omega) hx1 hx2 hx3 hkm hk1 (fun j hj => by have := hkl j hj; omega) hag h51 hst hlo
  refine eX5_fill_0 hC ?_
  refine eX5_fill_1 hC ?_
  refine eX5_fill_2 hC (by assumption) ?_
  refine eX5_fill_5 hC ?_
  refine eX5_fill_6 hC ?_
  refine eX5_fill_7 hC ?_
  refine eX5_fill_8 hC ?_
  exact loop (zm τ m) 0 0 0 _ (by omega) (by omega) (fun _ => hP0.symm) (fun q => by omega) (by omega) (by omega) (fun _ => rfl) (fun j hj => by omega) (zAg.up (by omega)) (zup_self _ _ _ _) (fun j hj => by omega) (fun v hv => by omega)
set_option maxHeartbeats 4000000 in
theorem vX5_countWidows {l : Launch} {g : zG} (hl : l.stackTraces = false) {K : zK} {μ : zF} {p y t m : Nat} {τ : Nat → Nat} (h : zPag K p t y) (hLy : zLay K y t) (hT : zTxt K t) (hv : zTv μ t τ) (ho : zOk τ) (hy : zLv μ y τ m) (hp : zPgv μ p τ m) : EX5_countWidows l g 0 0 [.ref p] K μ (zPi (nI (zwn τ m)) K μ) := by
  obtain ⟨h0, h1, h2, h3, h4, h5, h6⟩ := h
  obtain ⟨p1, p2, p3⟩ := hp
  have o1 := ho.1
  have hmm := (zm_is τ m).1
  have hg := zpx_ok ho m
  obtain ⟨m1, m2, m3⟩ := gM_is hg
  have hpm : zpm τ m ≤ 40 := by unfold zpm; omega
  refine nX5_countWidows hl (fun x hC hQ => ?_)
  have loop : ∀ d k : Nat, zpm τ m ≤ k + d → k ≤ 41 → (k ≤ zpm τ m ∨ k = 1) → zV x 0 0 4 [some (.ref p), some (.int (nI (zct (fun k => k ≠ 0 ∧ zcl τ m (zP τ m k)) k))), some (.int (nI k))] [] K μ := by
    intro d
    induction d with
    | zero =>
      intro k hk hk2 hk3
      have he : zct (fun k => k ≠ 0 ∧ zcl τ m (zP τ m k)) k = zwn τ m := by
        unfold zwn
        rcases hk3 with q | q
        · rw [show k = zpm τ m by omega]
        · subst q
          rcases Nat.eq_zero_or_pos (zpm τ m) with z | z
          · rw [z, zct_f (p := fun k => k ≠ 0 ∧ zcl τ m (zP τ m k)) (fun q => q.1 rfl)]
          · rw [show zpm τ m = 1 by omega]
      refine eX5_countWidows_4 hC ?_
      refine eX5_countWidows_5 hC ?_
      refine eX5_countWidows_6 hC (by assumption) ?_
      rw [p1]
      refine eX5_countWidows_9 hC (fun _ => ?_) (fun zz => absurd (nI_le (by omega) (by omega)) zz)
      refine eX5_countWidows_39 hC ?_
      refine eX5_countWidows_40 hC hQ (Nat.le_of_ble_eq_true rfl) (Nat.le_of_ble_eq_true rfl) ?_
      rw [he]
      exact ⟨rfl, rfl, rfl⟩
    | succ d ih =>
      intro k hk hk2 hk3
      rcases Nat.lt_or_ge k (zpm τ m) with hlt | hge
      · have e1 : zrd 41 (μ (p + 1 + 1)) (nI k) = nI (zP τ m k) := by rw [zrd_in (by omega) (by omega)]; exact p2 k (by omega)
        have hPk : zP τ m k < zm τ m := m3 k hlt
        by_cases ck : k ≠ 0 ∧ zcl τ m (zP τ m k)
        · have ih' := ih (k + 1) (by omega) (by omega) (by omega)
          rw [zct_t (p := fun k => k ≠ 0 ∧ zcl τ m (zP τ m k)) ck] at ih'
          refine eX5_countWidows_4 hC ?_
          refine eX5_countWidows_5 hC ?_
          refine eX5_countWidows_6 hC (by assumption) ?_
          rw [p1]
          refine eX5_countWidows_9 hC (fun zz => absurd zz (nI_ge hlt (by omega))) (fun _ => ?_)
          refine eX5_countWidows_12 hC ?_
          refine eX5_countWidows_13 hC (by assumption) (by assumption) ?_
          refine eX5_countWidows_16 hC ?_
          refine eX5_countWidows_17 hC (by assumption) (by assumption) ?_
          refine eX5_countWidows_20 hC ?_
          refine eX5_countWidows_21 hC (Nat.le_of_ble_eq_true rfl) (Nat.le_of_ble_eq_true rfl) (Nat.le_of_ble_eq_true rfl) (by first | assumption | exact zRow.o (by assumption)) (vX6_at hC.nt h5) (zk_i ?_)
          rw [e1]
          refine eX5_countWidows_24 hC (Nat.le_of_ble_eq_true rfl) (Nat.le_of_ble_eq_true rfl) (Nat.le_of_ble_eq_true rfl) (by first | assumption | exact zLay.o (by assumption)) (vX3_closesParagraph hC.nt hLy hT hv ho hy hPk) (zk_i ?_)
          rw [show zBv (zlp τ m (zP τ m k) ∧ ¬ zfp τ m (zP τ m k)) = nI 1 from zBv_t ck.2]
          refine eX5_countWidows_27 hC (fun zz => absurd zz zn10) (fun _ => ?_)
          refine eX5_countWidows_30 hC ?_
          rw [nI_add]
          refine eX5_countWidows_33 hC ?_
          rw [nI_add]
          refine eX5_countWidows_36 hC ?_
          exact ih'
        · have ih' := ih (k + 1) (by omega) (by omega) (by omega)
          rw [zct_f (p := fun k => k ≠ 0 ∧ zcl τ m (zP τ m k)) ck] at ih'
          by_cases ck2 : zcl τ m (zP τ m k)
          · exfalso
            refine ck ⟨?_, ck2⟩
            rcases hk3 with q | q
            · intro z
              subst z
              exact ck2.2 (Or.inl rfl)
            · omega
          · refine eX5_countWidows_4 hC ?_
            refine eX5_countWidows_5 hC ?_
            refine eX5_countWidows_6 hC (by assumption) ?_
            rw [p1]
            refine eX5_countWidows_9 hC (fun zz => absurd zz (nI_ge hlt (by omega))) (fun _ => ?_)
            refine eX5_countWidows_12 hC ?_
            refine eX5_countWidows_13 hC (by assumption) (by assumption) ?_
            refine eX5_countWidows_16 hC ?_
            refine eX5_countWidows_17 hC (by assumption) (by assumption) ?_
            refine eX5_countWidows_20 hC ?_
            refine eX5_countWidows_21 hC (Nat.le_of_ble_eq_true rfl) (Nat.le_of_ble_eq_true rfl) (Nat.le_of_ble_eq_true rfl) (by first | assumption | exact zRow.o (by assumption)) (vX6_at hC.nt h5) (zk_i ?_)
            rw [e1]
            refine eX5_countWidows_24 hC (Nat.le_of_ble_eq_true rfl) (Nat.le_of_ble_eq_true rfl) (Nat.le_of_ble_eq_true rfl) (by first | assumption | exact zLay.o (by assumption)) (vX3_closesParagraph hC.nt hLy hT hv ho hy hPk) (zk_i ?_)
            rw [zBv_f (p := zlp τ m (zP τ m k) ∧ ¬ zfp τ m (zP τ m k)) ck2]
            refine eX5_countWidows_27 hC (fun _ => ?_) (fun zz => absurd zn00 zz)
            refine eX5_countWidows_33 hC ?_
            rw [nI_add]
            refine eX5_countWidows_36 hC ?_
            exact ih'
      · have he : zct (fun k => k ≠ 0 ∧ zcl τ m (zP τ m k)) k = zwn τ m := by
          unfold zwn
          rcases hk3 with q | q
          · rw [show k = zpm τ m by omega]
          · subst q
            rcases Nat.eq_zero_or_pos (zpm τ m) with z | z
            · rw [z, zct_f (p := fun k => k ≠ 0 ∧ zcl τ m (zP τ m k)) (fun q => q.1 rfl)]
            · rw [show zpm τ m = 1 by omega]
        refine eX5_countWidows_4 hC ?_
        refine eX5_countWidows_5 hC ?_
        refine eX5_countWidows_6 hC (by assumption) ?_
        rw [p1]
        refine eX5_countWidows_9 hC (fun _ => ?_) (fun zz => absurd (nI_le (by omega) (by omega)) zz)
        refine eX5_countWidows_39 hC ?_
        refine eX5_countWidows_40 hC hQ (Nat.le_of_ble_eq_true rfl) (Nat.le_of_ble_eq_true rfl) ?_
        rw [he]
        exact ⟨rfl, rfl, rfl⟩
  have e1 : zct (fun k => k ≠ 0 ∧ zcl τ m (zP τ m k)) 1 = 0 := zct_f (p := fun k => k ≠ 0 ∧ zcl τ m (zP τ m k)) (fun q => q.1 rfl)
  have l1 := loop 41 1 (by omega) (by omega) (Or.inr rfl)
  rw [e1] at l1
  refine eX5_countWidows_0 hC ?_
  refine eX5_countWidows_1 hC ?_
  refine eX5_countWidows_2 hC ?_
  refine eX5_countWidows_3 hC ?_
  exact l1
set_option maxHeartbeats 4000000 in
theorem vX5_countOrphans {l : Launch} {g : zG} (hl : l.stackTraces = false) {K : zK} {μ : zF} {p y t m : Nat} {τ : Nat → Nat} (h : zPag K p t y) (hLy : zLay K y t) (hT : zTxt K t) (hv : zTv μ t τ) (ho : zOk τ) (hy : zLv μ y τ m) (hp : zPgv μ p τ m) : EX5_countOrphans l g 0 0 [.ref p] K μ (zPi (nI (zon τ m)) K μ) := by
  obtain ⟨h0, h1, h2, h3, h4, h5, h6⟩ := h
  obtain ⟨p1, p2, p3⟩ := hp
  have o1 := ho.1
  have hmm := (zm_is τ m).1
  have hg := zpx_ok ho m
  obtain ⟨m1, m2, m3⟩ := gM_is hg
  have hpm : zpm τ m ≤ 40 := by unfold zpm; omega
  refine nX5_countOrphans hl (fun x hC hQ => ?_)
  rcases Nat.eq_zero_or_pos (zpm τ m) with hz | hz
  · have he : zon τ m = 0 := by unfold zon; rw [hz]; rfl
    refine eX5_countOrphans_0 hC ?_
    refine eX5_countOrphans_1 hC ?_
    refine eX5_countOrphans_2 hC ?_
    refine eX5_countOrphans_3 hC ?_
    refine eX5_countOrphans_4 hC ?_
    refine eX5_countOrphans_5 hC ?_
    refine eX5_countOrphans_6 hC (by assumption) ?_
    refine eX5_countOrphans_9 hC ?_
    refine eX5_countOrphans_10 hC ?_
    rw [p1, hz]
    refine eX5_countOrphans_11 hC (fun _ => ?_) (fun zz => absurd (by decide) zz)
    refine eX5_countOrphans_45 hC ?_
    refine eX5_countOrphans_46 hC hQ (Nat.le_of_ble_eq_true rfl) (Nat.le_of_ble_eq_true rfl) ?_
    rw [he]
    exact ⟨rfl, rfl, rfl⟩
  · have loop : ∀ d k : Nat, k + d = zpm τ m - 1 → zV x 0 0 4 [some (.ref p), some (.int (nI (zct (fun k => zop τ m (zP τ m (k + 1) - 1)) k))), some (.int (nI k))] [] K μ := by
      intro d
      induction d with
      | zero =>
        intro k hk
        have hk : k = zpm τ m - 1 := by omega
        subst hk
        refine eX5_countOrphans_4 hC ?_
        refine eX5_countOrphans_5 hC ?_
        refine eX5_countOrphans_6 hC (by assumption) ?_
        refine eX5_countOrphans_9 hC ?_
        refine eX5_countOrphans_10 hC ?_
        rw [p1, nI_sub (by omega)]
        refine eX5_countOrphans_11 hC (fun _ => ?_) (fun zz => absurd (nI_le (by omega) (by omega)) zz)
        refine eX5_countOrphans_45 hC ?_
        refine eX5_countOrphans_46 hC hQ (Nat.le_of_ble_eq_true rfl) (Nat.le_of_ble_eq_true rfl) ?_
        exact ⟨rfl, rfl, rfl⟩
      | succ d ih =>
        intro k hk
        have ih' := ih (k + 1) (by omega)
        have e1 : zrd 41 (μ (p + 1 + 1)) (nI (k + 1)) = nI (zP τ m (k + 1)) := by rw [zrd_in (by omega) (by omega)]; exact p2 (k + 1) (by omega)
        have hPk0 : zP τ m k < zP τ m (k + 1) := gC_lt hg (m3 k (by unfold zpm at hk hz; omega))
        have hPk : zP τ m (k + 1) ≤ zm τ m := gC_le hg (k + 1)
        by_cases ck : zop τ m (zP τ m (k + 1) - 1)
        · rw [zct_t (p := fun k => zop τ m (zP τ m (k + 1) - 1)) ck] at ih'
          refine eX5_countOrphans_4 hC ?_
          refine eX5_countOrphans_5 hC ?_
          refine eX5_countOrphans_6 hC (by assumption) ?_
          refine eX5_countOrphans_9 hC ?_
          refine eX5_countOrphans_10 hC ?_
          rw [p1, nI_sub (by omega)]
          refine eX5_countOrphans_11 hC (fun zz => absurd zz (nI_ge (by omega) (by omega))) (fun _ => ?_)
          refine eX5_countOrphans_14 hC ?_
          refine eX5_countOrphans_15 hC (by assumption) (by assumption) ?_
          refine eX5_countOrphans_18 hC ?_
          refine eX5_countOrphans_19 hC (by assumption) (by assumption) ?_
          refine eX5_countOrphans_22 hC ?_
          refine eX5_countOrphans_23 hC ?_
          refine eX5_countOrphans_24 hC ?_
          rw [nI_add]
          refine eX5_countOrphans_25 hC (Nat.le_of_ble_eq_true rfl) (Nat.le_of_ble_eq_true rfl) (Nat.le_of_ble_eq_true rfl) (by first | assumption | exact zRow.o (by assumption)) (vX6_at hC.nt h5) (zk_i ?_)
          rw [e1]
          refine eX5_countOrphans_28 hC ?_
          refine eX5_countOrphans_29 hC ?_
          rw [nI_sub (by omega)]
          refine eX5_countOrphans_30 hC (Nat.le_of_ble_eq_true rfl) (Nat.le_of_ble_eq_true rfl) (Nat.le_of_ble_eq_true rfl) (by first | assumption | exact zLay.o (by assumption)) (vX3_opensParagraph hC.nt hLy hT hv ho hy (by omega)) (zk_i ?_)
          rw [zBv_t (p := zfp τ m (zP τ m (k + 1) - 1) ∧ ¬ zlp τ m (zP τ m (k + 1) - 1)) ck]
          refine eX5_countOrphans_33 hC (fun zz => absurd zz zn10) (fun _ => ?_)
          refine eX5_countOrphans_36 hC ?_
          rw [nI_add]
          refine eX5_countOrphans_39 hC ?_
          rw [nI_add]
          refine eX5_countOrphans_42 hC ?_
          exact ih'
        · rw [zct_f (p := fun k => zop τ m (zP τ m (k + 1) - 1)) ck] at ih'
          refine eX5_countOrphans_4 hC ?_
          refine eX5_countOrphans_5 hC ?_
          refine eX5_countOrphans_6 hC (by assumption) ?_
          refine eX5_countOrphans_9 hC ?_
          refine eX5_countOrphans_10 hC ?_
          rw [p1, nI_sub (by omega)]
          refine eX5_countOrphans_11 hC (fun zz => absurd zz (nI_ge (by omega) (by omega))) (fun _ => ?_)
          refine eX5_countOrphans_14 hC ?_
          refine eX5_countOrphans_15 hC (by assumption) (by assumption) ?_
          refine eX5_countOrphans_18 hC ?_
          refine eX5_countOrphans_19 hC (by assumption) (by assumption) ?_
          refine eX5_countOrphans_22 hC ?_
          refine eX5_countOrphans_23 hC ?_
          refine eX5_countOrphans_24 hC ?_
          rw [nI_add]
          refine eX5_countOrphans_25 hC (Nat.le_of_ble_eq_true rfl) (Nat.le_of_ble_eq_true rfl) (Nat.le_of_ble_eq_true rfl) (by first | assumption | exact zRow.o (by assumption)) (vX6_at hC.nt h5) (zk_i ?_)
          rw [e1]
          refine eX5_countOrphans_28 hC ?_
          refine eX5_countOrphans_29 hC ?_
          rw [nI_sub (by omega)]
          refine eX5_countOrphans_30 hC (Nat.le_of_ble_eq_true rfl) (Nat.le_of_ble_eq_true rfl) (Nat.le_of_ble_eq_true rfl) (by first | assumption | exact zLay.o (by assumption)) (vX3_opensParagraph hC.nt hLy hT hv ho hy (by omega)) (zk_i ?_)
          rw [zBv_f (p := zfp τ m (zP τ m (k + 1) - 1) ∧ ¬ zlp τ m (zP τ m (k + 1) - 1)) ck]
          refine eX5_countOrphans_33 hC (fun _ => ?_) (fun zz => absurd zn00 zz)
          refine eX5_countOrphans_39 hC ?_
          rw [nI_add]
          refine eX5_countOrphans_42 hC ?_
          exact ih'
    refine eX5_countOrphans_0 hC ?_
    refine eX5_countOrphans_1 hC ?_
    refine eX5_countOrphans_2 hC ?_
    refine eX5_countOrphans_3 hC ?_
    exact loop (zpm τ m - 1) 0 (by omega)
