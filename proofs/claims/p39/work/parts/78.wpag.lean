/-! ===== the law's method pages ===== -/
theorem zpg_b {τ : Nat → Nat} (ho : zOk τ) {m p : Nat} (h : p < zpm τ m) : zP τ m p < zm τ m ∧ zP τ m p < zP τ m (p + 1) ∧ zP τ m (p + 1) ≤ zm τ m ∧ zP τ m (p + 1) ≤ zP τ m p + τ 86 ∧ (p + 1 < zpm τ m → zP τ m p + τ 86 ≤ zP τ m (p + 1) + 1) := by
  have hg := zpx_ok ho m
  have h1 : zP τ m p < zm τ m := (gM_iff hg).mp h
  have h2 : zP τ m (p + 1) = zpx τ m (zP τ m p) := gC_next h1
  have h3 := hg _ h1
  have h4 : zP τ m (p + 1) ≤ zP τ m p + τ 86 := by
    rw [h2]
    unfold zpx
    by_cases c : zP τ m p + τ 86 < zm τ m
    · rw [if_pos c]
      by_cases c2 : zop τ m (zP τ m p + τ 86 - 1) ∨ zcl τ m (zP τ m p + τ 86)
      · rw [zif_t c2]; omega
      · rw [zif_f c2]; omega
    · rw [if_neg c]; omega
  refine ⟨h1, by omega, by omega, h4, fun hn => ?_⟩
  have h5 : zP τ m (p + 1) < zm τ m := (gM_iff hg).mp hn
  rw [h2] at h5 ⊢
  unfold zpx at h5 ⊢
  by_cases c : zP τ m p + τ 86 < zm τ m
  · rw [if_pos c]
    by_cases c2 : zop τ m (zP τ m p + τ 86 - 1) ∨ zcl τ m (zP τ m p + τ 86)
    · rw [zif_t c2]; omega
    · rw [zif_f c2]; omega
  · rw [if_neg c] at h5; omega
theorem zpg_o {τ : Nat → Nat} (ho : zOk τ) {m p w : Nat} (h : p < zpm τ m) (h1 : zP τ m p ≤ w) (h2 : w < zP τ m (p + 1)) : zpo τ m w = p := gO_eq (zpx_ok ho m) (by have := (zpg_b ho h).2.2.1; omega) h1 h2
theorem zwn_le (τ : Nat → Nat) (m : Nat) : zwn τ m ≤ zpm τ m := zct_le _ _
theorem zon_le (τ : Nat → Nat) (m : Nat) : zon τ m ≤ zpm τ m - 1 := zct_le _ _
theorem zwn_0 {τ : Nat → Nat} {m : Nat} (h : zpm τ m ≤ 1) : zwn τ m = 0 := by
  unfold zwn
  rcases (show zpm τ m = 0 ∨ zpm τ m = 1 by omega) with q | q
  · rw [q]; rfl
  · rw [q, zct_f (fun z => z.1 rfl)]
    rfl
set_option maxHeartbeats 4000000 in
theorem vL_pages {l : Launch} {g : zG} (hl : l.stackTraces = false) {K : zK} {μ : zF} {x a : Nat} {S : zMs} (h : zX8 K μ x S) (ha : x + 89 ≤ a) (hG : zGa K μ a S.1) : EL_pages l g 90 540 [.ref x, .ref a] K μ (zAi (nI 1) S K μ x) := by
  obtain ⟨hI, hg0, hg1, hg2, hg3, hg4, hg5⟩ := hG
  have hok := h.k
  have o1 := hok.1.1
  have o86 := hok.1.2.2.2.2.2.2.2.2.1
  have hmz := (zm_is S.1 (S.1 87)).1
  have hpm := zpm_le hok.1 (S.1 87)
  have hB := zBd.rf h
  have hend : zP S.1 (S.1 87) (zpm S.1 (S.1 87)) = zm S.1 (S.1 87) := (gM_is (zpx_ok hok.1 (S.1 87))).2.1
  have hw := zwn_le S.1 (S.1 87)
  have hon := zon_le S.1 (S.1 87)
  refine nL_pages hl (fun q hC hQ => ?_)
  have outer : ∀ (d p cs sl : Nat) (K1 : zK) (μ1 : zF) (x5 x6 : Option Value), p + d = zpm S.1 (S.1 87) → cs ≤ p + zP S.1 (S.1 87) p → sl ≤ 6 * p + 6 * zP S.1 (S.1 87) p → zBd K μ K1 μ1 x S → zV q cs sl 10 [some (.ref x), some (.ref a), some (.int (nI (zpm S.1 (S.1 87)))), some (.int (nI (zP S.1 (S.1 87) p))), some (.int (nI p)), x5, x6] [] K1 μ1 := by
    intro d
    induction d with
    | zero =>
      intro p cs sl K1 μ1 x5 x6 hp hcs hsl hB
      have hp : p = zpm S.1 (S.1 87) := by omega
      have hz : zP S.1 (S.1 87) p = zm S.1 (S.1 87) := by rw [hp]; exact hend
      rw [hz] at hcs hsl ⊢
      subst hp
      by_cases c : 1 < zpm S.1 (S.1 87)
      · refine eL_pages_10 hC ?_
        refine eL_pages_12 hC ?_
        refine eL_pages_13 hC (fun _ => ?_) (fun zz => absurd (nI_le (Nat.le_refl _) (by omega)) zz)
        refine eL_pages_95 hC ?_
        refine eL_pages_96 hC ?_
        refine eL_pages_97 hC (Nat.le_of_ble_eq_true rfl) (by omega) (by omega) hB.o (vX8_lines hC.nt hB.x) (zk_q hB rfl (fun K_97 μ_97 hB => ?_))
        refine eL_pages_100 hC (fun zz => absurd rfl zz) (fun _ => ?_)
        refine eL_pages_103 hC ?_
        refine eL_pages_104 hC (Nat.le_of_ble_eq_true rfl) (by omega) (by omega) hB.o (vX8_widows hC.nt hB.x) (zk_q hB rfl (fun K_104 μ_104 hB => ?_))
        refine eL_pages_107 hC (fun zz => absurd zz (nI_pos (by omega))) (fun _ => ?_)
        refine eL_pages_110 hC ?_
        refine eL_pages_111 hC (Nat.le_of_ble_eq_true rfl) (by omega) (by omega) hB.o (vX8_orphans hC.nt hB.x) (zk_q hB rfl (fun K_111 μ_111 hB => ?_))
        refine eL_pages_114 hC (fun zz => absurd zz (nI_pos (by omega))) (fun _ => ?_)
        refine eL_pages_117 hC ?_
        refine eL_pages_118 hC (Nat.le_of_ble_eq_true rfl) (by omega) (by omega) hB.o (vX8_widows hC.nt hB.x) (zk_q hB rfl (fun K_118 μ_118 hB => ?_))
        refine eL_pages_121 hC ?_
        refine eL_pages_122 hC (Nat.le_of_ble_eq_true rfl) (by omega) (by omega) hB.o (vX8_orphans hC.nt hB.x) (zk_q hB rfl (fun K_122 μ_122 hB => ?_))
        refine eL_pages_125 hC ?_
        rw [nI_add]
        refine eL_pages_126 hC ?_
        refine eL_pages_127 hC ?_
        refine eL_pages_128 hC ?_
        rw [pk_mul]
        refine eL_pages_129 hC (fun zz => absurd zz (nI_nlt (by omega) (by omega))) (fun _ => ?_)
        refine eL_pages_132 hC ?_
        refine eL_pages_133 hC ?_
        refine eL_pages_134 hC (fun _ => ?_) (fun zz => absurd (nI_lt c (by omega)) zz)
        refine eL_pages_149 hC ?_
        refine eL_pages_150 hC ?_
        refine eL_pages_154 hC hQ (by omega) (by omega) (by first | (left; rfl) | (right; rfl) | assumption) ?_
        exact hB.ai
      · have e1 := zwn_0 (τ := S.1) (m := (S.1 87)) (by omega)
        have e2 : zon S.1 (S.1 87) = 0 := by omega
        refine eL_pages_10 hC ?_
        refine eL_pages_12 hC ?_
        refine eL_pages_13 hC (fun _ => ?_) (fun zz => absurd (nI_le (Nat.le_refl _) (by omega)) zz)
        refine eL_pages_95 hC ?_
        refine eL_pages_96 hC ?_
        refine eL_pages_97 hC (Nat.le_of_ble_eq_true rfl) (by omega) (by omega) hB.o (vX8_lines hC.nt hB.x) (zk_q hB rfl (fun K_97 μ_97 hB => ?_))
        refine eL_pages_100 hC (fun zz => absurd rfl zz) (fun _ => ?_)
        refine eL_pages_103 hC ?_
        refine eL_pages_104 hC (Nat.le_of_ble_eq_true rfl) (by omega) (by omega) hB.o (vX8_widows hC.nt hB.x) (zk_q hB rfl (fun K_104 μ_104 hB => ?_))
        refine eL_pages_107 hC (fun zz => absurd zz (nI_pos (by omega))) (fun _ => ?_)
        refine eL_pages_110 hC ?_
        refine eL_pages_111 hC (Nat.le_of_ble_eq_true rfl) (by omega) (by omega) hB.o (vX8_orphans hC.nt hB.x) (zk_q hB rfl (fun K_111 μ_111 hB => ?_))
        refine eL_pages_114 hC (fun zz => absurd zz (nI_pos (by omega))) (fun _ => ?_)
        refine eL_pages_117 hC ?_
        refine eL_pages_118 hC (Nat.le_of_ble_eq_true rfl) (by omega) (by omega) hB.o (vX8_widows hC.nt hB.x) (zk_q hB rfl (fun K_118 μ_118 hB => ?_))
        refine eL_pages_121 hC ?_
        refine eL_pages_122 hC (Nat.le_of_ble_eq_true rfl) (by omega) (by omega) hB.o (vX8_orphans hC.nt hB.x) (zk_q hB rfl (fun K_122 μ_122 hB => ?_))
        refine eL_pages_125 hC ?_
        rw [nI_add]
        refine eL_pages_126 hC ?_
        refine eL_pages_127 hC ?_
        refine eL_pages_128 hC ?_
        rw [pk_mul]
        refine eL_pages_129 hC (fun zz => absurd zz (nI_nlt (by omega) (by omega))) (fun _ => ?_)
        refine eL_pages_132 hC ?_
        refine eL_pages_133 hC ?_
        refine eL_pages_134 hC (fun zz => absurd zz (nI_nlt (by omega) (by omega))) (fun _ => ?_)
        refine eL_pages_137 hC ?_
        refine eL_pages_138 hC (Nat.le_of_ble_eq_true rfl) (by omega) (by omega) hB.o (vX8_widows hC.nt hB.x) (zk_q hB rfl (fun K_138 μ_138 hB => ?_))
        refine eL_pages_141 hC ?_
        refine eL_pages_142 hC (Nat.le_of_ble_eq_true rfl) (by omega) (by omega) hB.o (vX8_orphans hC.nt hB.x) (zk_q hB rfl (fun K_142 μ_142 hB => ?_))
        refine eL_pages_145 hC ?_
        rw [nI_add, e1, e2]
        refine eL_pages_146 hC (fun zz => absurd zn00 zz) (fun _ => ?_)
        refine eL_pages_149 hC ?_
        refine eL_pages_150 hC ?_
        refine eL_pages_154 hC hQ (by omega) (by omega) (by first | (left; rfl) | (right; rfl) | assumption) ?_
        exact hB.ai
    | succ d ih =>
      intro p cs sl K1 μ1 x5 x6 hp hcs hsl hB
      have hpp : p < zpm S.1 (S.1 87) := by omega
      obtain ⟨b1, b2, b3, b4, b5⟩ := zpg_b hok.1 hpp
      have inner : ∀ (e j cs sl : Nat) (K1 : zK) (μ1 : zF), zP S.1 (S.1 87) p + j + e = zP S.1 (S.1 87) (p + 1) → cs ≤ p + 1 + (zP S.1 (S.1 87) p + j) → sl ≤ 6 * p + 6 + 6 * (zP S.1 (S.1 87) p + j) → zBd K μ K1 μ1 x S → zV q cs sl 61 [some (.ref x), some (.ref a), some (.int (nI (zpm S.1 (S.1 87)))), some (.int (nI (zP S.1 (S.1 87) p + j))), some (.int (nI p)), some (.int (nI (zP S.1 (S.1 87) (p + 1) - zP S.1 (S.1 87) p))), some (.int (nI j))] [] K1 μ1 := by
        intro e
        induction e with
        | zero =>
          intro j cs sl K1 μ1 hj hcs hsl hB
          have nx := fun cs sl K1 μ1 y5 y6 => ih (p + 1) cs sl K1 μ1 y5 y6 (by omega)
          rw [show zP S.1 (S.1 87) p + j = zP S.1 (S.1 87) (p + 1) by omega]
          refine eL_pages_61 hC ?_
          refine eL_pages_63 hC ?_
          refine eL_pages_65 hC (fun _ => ?_) (fun zz => absurd (nI_le (by omega) (by omega)) zz)
          refine eL_pages_89 hC ?_
          rw [nI_add]
          refine eL_pages_92 hC ?_
          exact nx _ _ _ _ _ _ (by omega) (by omega) hB
        | succ e ih2 =>
          intro j cs sl K1 μ1 hj hcs hsl hB
          have nx := fun cs sl K1 μ1 => ih2 (j + 1) cs sl K1 μ1 (by omega)
          have hpo := zpg_o hok.1 (w := zP S.1 (S.1 87) p + j) hpp (by omega) (by omega)
          refine eL_pages_61 hC ?_
          refine eL_pages_63 hC ?_
          refine eL_pages_65 hC (fun zz => absurd zz (nI_ge (by omega) (by omega))) (fun _ => ?_)
          refine eL_pages_68 hC ?_
          refine eL_pages_69 hC ?_
          refine eL_pages_70 hC (Nat.le_of_ble_eq_true rfl) (by omega) (by omega) (vL_pageOf hC.nt hB.x (zo_pageOf (by omega) hok)) (zk_a hB (fun K_70 μ_70 hB => ?_))
          refine eL_pages_73 hC ?_
          refine eL_pages_75 hC (fun _ => ?_) (fun zz => absurd (by rw [hpo]) zz)
          refine eL_pages_80 hC ?_
          rw [nI_add]
          refine eL_pages_83 hC ?_
          rw [nI_add]
          refine eL_pages_86 hC ?_
          exact nx _ _ _ _ (by omega) (by omega) hB
      have nx := fun cs sl K1 μ1 => inner (zP S.1 (S.1 87) (p + 1) - zP S.1 (S.1 87) p) 0 cs sl K1 μ1 (by omega)
      by_cases c : p + 1 < zpm S.1 (S.1 87)
      · have b6 := b5 c
        refine eL_pages_10 hC ?_
        refine eL_pages_12 hC ?_
        refine eL_pages_13 hC (fun zz => absurd zz (nI_ge hpp (by omega))) (fun _ => ?_)
        refine eL_pages_16 hC ?_
        refine eL_pages_17 hC ?_
        refine eL_pages_19 hC (Nat.le_of_ble_eq_true rfl) (by omega) (by omega) (vL_linesOn hC.nt hB.x (zo_linesOn (by omega) hok)) (zk_a hB (fun K_19 μ_19 hB => ?_))
        rw [nI_sub (a := zP S.1 (S.1 87) (p + 1)) (b := zP S.1 (S.1 87) p) (by omega)]
        refine eL_pages_22 hC ?_
        refine eL_pages_24 hC ?_
        refine eL_pages_26 hC ?_
        refine eL_pages_27 hC (fun zz => absurd zz (nI_nlt (by omega) (by omega))) (fun _ => ?_)
        refine eL_pages_30 hC ?_
        refine eL_pages_32 hC ?_
        refine eL_pages_33 hC ?_
        refine eL_pages_34 hC (hB.i hI) (vp_in_nI (by omega) (by omega)) ?_
        rw [nI_clamp (by omega), hB.g ha, hg5]
        refine eL_pages_35 hC (fun zz => absurd zz (nI_nlt (by omega) (by omega))) (fun _ => ?_)
        refine eL_pages_38 hC ?_
        refine eL_pages_40 hC ?_
        refine eL_pages_41 hC ?_
        refine eL_pages_42 hC ?_
        rw [nI_sub (a := zpm S.1 (S.1 87)) (b := 1) (by omega)]
        refine eL_pages_43 hC (fun zz => absurd zz (nI_ge (by omega) (by omega))) (fun _ => ?_)
        refine eL_pages_46 hC ?_
        refine eL_pages_48 hC ?_
        refine eL_pages_49 hC ?_
        refine eL_pages_50 hC (hB.i hI) (vp_in_nI (by omega) (by omega)) ?_
        rw [nI_clamp (by omega), hB.g ha, hg5]
        refine eL_pages_51 hC ?_
        refine eL_pages_52 hC ?_
        rw [nI_sub (a := S.1 86) (b := 1) (by omega)]
        refine eL_pages_53 hC (fun _ => ?_) (fun zz => absurd (nI_le (by omega) (by omega)) zz)
        refine eL_pages_58 hC ?_
        refine eL_pages_59 hC ?_
        exact nx _ _ _ _ (by omega) (by omega) hB
      · refine eL_pages_10 hC ?_
        refine eL_pages_12 hC ?_
        refine eL_pages_13 hC (fun zz => absurd zz (nI_ge hpp (by omega))) (fun _ => ?_)
        refine eL_pages_16 hC ?_
        refine eL_pages_17 hC ?_
        refine eL_pages_19 hC (Nat.le_of_ble_eq_true rfl) (by omega) (by omega) (vL_linesOn hC.nt hB.x (zo_linesOn (by omega) hok)) (zk_a hB (fun K_19 μ_19 hB => ?_))
        rw [nI_sub (a := zP S.1 (S.1 87) (p + 1)) (b := zP S.1 (S.1 87) p) (by omega)]
        refine eL_pages_22 hC ?_
        refine eL_pages_24 hC ?_
        refine eL_pages_26 hC ?_
        refine eL_pages_27 hC (fun zz => absurd zz (nI_nlt (by omega) (by omega))) (fun _ => ?_)
        refine eL_pages_30 hC ?_
        refine eL_pages_32 hC ?_
        refine eL_pages_33 hC ?_
        refine eL_pages_34 hC (hB.i hI) (vp_in_nI (by omega) (by omega)) ?_
        rw [nI_clamp (by omega), hB.g ha, hg5]
        refine eL_pages_35 hC (fun zz => absurd zz (nI_nlt (by omega) (by omega))) (fun _ => ?_)
        refine eL_pages_38 hC ?_
        refine eL_pages_40 hC ?_
        refine eL_pages_41 hC ?_
        refine eL_pages_42 hC ?_
        rw [nI_sub (a := zpm S.1 (S.1 87)) (b := 1) (by omega)]
        refine eL_pages_43 hC (fun _ => ?_) (fun zz => absurd (nI_le (by omega) (by omega)) zz)
        refine eL_pages_58 hC ?_
        refine eL_pages_59 hC ?_
        exact nx _ _ _ _ (by omega) (by omega) hB
  have nx := fun cs sl K1 μ1 => outer (zpm S.1 (S.1 87)) 0 cs sl K1 μ1 none none (by omega)
  refine eL_pages_0 hC ?_
  refine eL_pages_1 hC (Nat.le_of_ble_eq_true rfl) (by omega) (by omega) hB.o (vX8_pages hC.nt hB.x) (zk_q hB rfl (fun K_1 μ_1 hB => ?_))
  refine eL_pages_4 hC ?_
  refine eL_pages_5 hC ?_
  refine eL_pages_6 hC ?_
  refine eL_pages_7 hC ?_
  refine eL_pages_8 hC ?_
  exact nx _ _ _ _ (by omega) (by omega) hB
