/-! ===== the best column ===== -/
theorem zuf_self (τ : Nat → Nat) (j : Nat) : zuf τ j (τ j) = τ := by
  funext k
  unfold zuf
  split
  · rename_i c; rw [c]
  · rfl
theorem zuf_zuf (τ : Nat → Nat) (j v w : Nat) : zuf (zuf τ j v) j w = zuf τ j w := by
  funext k
  unfold zuf
  split
  · rfl
  · rfl
/-- the least number from p to p + d whose cost is least -/
def zbw (c : Nat → Nat) (p : Nat) : Nat → Nat
  | 0 => p
  | d + 1 => if c (p + d + 1) < c (zbw c p d) then p + d + 1 else zbw c p d
theorem zbw_0 {c : Nat → Nat} {p d : Nat} (h : c (zbw c p d) = 0) : ∀ e, zbw c p (d + e) = zbw c p d
  | 0 => rfl
  | e + 1 => by
    show (if c (p + (d + e) + 1) < c (zbw c p (d + e)) then p + (d + e) + 1 else zbw c p (d + e)) = _
    rw [zbw_0 h e, h, if_neg (by omega)]
noncomputable def zbc (τ : Nat → Nat) (k : Nat) : Nat := zct1 (zuf τ 81 k) 1
theorem zct1_lt {τ : Nat → Nat} {m : Nat} (h : zOk τ) : zct1 τ m < 2147483647 := by
  have q := ztc_le h m (zm τ m)
  have q2 := (zm_is τ m).1
  have q3 := h.1
  unfold zct1
  omega
theorem zbw_in {c : Nat → Nat} {p d : Nat} (h : 30 ≤ p ∧ p + d ≤ 100) : 30 ≤ zbw c p d ∧ zbw c p d ≤ 100 := by
  have q : ∀ e, p ≤ zbw c p e ∧ zbw c p e ≤ p + e := by
    intro e
    induction e with
    | zero => exact ⟨Nat.le_refl _, Nat.le_refl _⟩
    | succ e ih =>
      show p ≤ (if c (p + e + 1) < c (zbw c p e) then p + e + 1 else zbw c p e) ∧ (if c (p + e + 1) < c (zbw c p e) then p + e + 1 else zbw c p e) ≤ p + (e + 1)
      split <;> omega
  have := q d
  omega
theorem zbc_lt {τ : Nat → Nat} {k : Nat} (h : zOk τ) (hk : 30 ≤ k ∧ k ≤ 100) : zbc τ k < 2147483647 := zct1_lt (zOk_81 h hk)
theorem zlt_of {a b : Nat} (h : nI a < nI b) (ha : a < 2147483647) (hb : b < 2147483647) : a < b := (nI_ltI (by omega) (by omega)).mp h
noncomputable def zdo_bestColumn (i j : Int32) (S : zMs) : zOu := zrg i 30 100 (fun p => zrg j p 100 (fun b => .inl (nI (zbw (zbc S.1) p (b - p)), S)))
set_option maxHeartbeats 8000000 in
theorem vX8_bestColumn {l : Launch} {g : zG} (hl : l.stackTraces = false) {K : zK} {μ : zF} {x : Nat} {S : zMs} {i j : Int32} (h : zX8 K μ x S) : QX8_bestColumn l g 2 12 [.ref x, .int i, .int j] K μ (zRP (zdo_bestColumn i j S) K μ x) (zRX (zdo_bestColumn i j S) K μ x S) := by
  obtain ⟨s, hR, hv, ho⟩ := id h
  obtain ⟨h0, h1, h2, h3, h4, h5, h6, h7, h8, h9, h10, h11, h12, h13, h14⟩ := id hR
  obtain ⟨v1, v2, v3, v4, v5⟩ := id hv.1
  obtain ⟨t0, t1, t2, t3, t4⟩ := id h8
  have b0 := h13.1
  have q0 := h14.1
  have o1 := ho.1.1
  have e8 : μ (x + 1) 2 = nI (S.1 80) := v1.2.2 2 (by omega) (by omega)
  obtain ⟨d0, d1, d2, d3, d4⟩ := id h11
  have z0 := h12.1
  refine nxX8_bestColumn hl (fun q hC hQ hQx => ?_)
  have loop : ∀ (p b : Nat), 30 ≤ p → p ≤ b → b ≤ 100 → zdo_bestColumn i j S = .inl (nI (zbw (zbc S.1) p (b - p)), S) → ∀ (d w u r : Nat) (least : Int32) (l6 : Option Value) (μ1 : zF), w + d = b + 1 → p ≤ w → zAg μ μ1 (x + 28) (x + 50) → μ1 (x + 40) 0 = nI 0 → zTv μ1 (x + 28) (zuf S.1 81 u) → (w = p ∧ r = p ∧ least = 2147483647 ∨ p < w ∧ r = zbw (zbc S.1) p (w - 1 - p) ∧ least = nI (zbc S.1 r)) → zV q 2 12 35 [some (.ref x), some (.int (nI p)), some (.int (nI b)), some (.int (nI r)), some (.int least), some (.int (nI w)), l6] [] K μ1 := by
    intro p b hp1 hb1 hb2 e1 d
    induction d with
    | zero =>
      intro w u r least l6 μ1 hd hpw hag hzz hT hI
      rcases hI with ⟨z1, -, -⟩ | ⟨z1, z2, z3⟩
      · omega
      have hr : zbw (zbc S.1) p (b - p) = r := by rw [z2, show w - 1 - p = b - p by omega]
      refine eX8_bestColumn_35 hC ?_
      refine eX8_bestColumn_37 hC ?_
      refine eX8_bestColumn_38 hC (fun _ => ?_) (fun zz => absurd (nI_lt (by omega) (by omega)) zz)
      refine eX8_bestColumn_92 hC ?_
      refine eX8_bestColumn_93 hC hQ (Nat.le_of_ble_eq_true rfl) (Nat.le_of_ble_eq_true rfl) ?_
      exact ⟨_, _, e1.trans (by rw [hr]), rfl, zKe.refl _ _, ⟨s, hR, hv.dr hR hag hzz, ho⟩, zAg.wide hag (by omega) (by omega)⟩
    | succ d ih =>
      intro w u r least l6 μ1 hd hpw hag hzz hT hI
      have okw : zOk (zuf S.1 81 w) := zOk_81 ho.1 (by omega)
      have hbd : zbc S.1 w < 2147483647 := zct1_lt okw
      -- the rest is tried
      have go : ¬ least ≤ 0 → zV q 2 12 46 [some (.ref x), some (.int (nI p)), some (.int (nI b)), some (.int (nI r)), some (.int least), some (.int (nI w)), l6] [] K μ1 := by
        intro hl0
        have nx : ∀ (r' : Nat) (l6' : Option Value) (μ2 : zF) , zAg μ μ2 (x + 28) (x + 50) → μ2 (x + 40) 0 = nI 0 → zTv μ2 (x + 28) (zuf S.1 81 w) → r' = zbw (zbc S.1) p (w - p) → zV q 2 12 86 [some (.ref x), some (.int (nI p)), some (.int (nI b)), some (.int (nI r')), some (.int (nI (zbc S.1 r'))), some (.int (nI w)), l6'] [] K μ2 := by
          intro r' l6' μ2 a1 a2 a3 a4
          refine eX8_bestColumn_86 hC ?_
          rw [nI_add]
          refine eX8_bestColumn_89 hC ?_
          exact ih (w + 1) w r' _ l6' μ2 (by omega) (by omega) a1 a2 a3 (Or.inr ⟨by omega, by rw [a4, show w + 1 - 1 - p = w - p by omega], rfl⟩)
        have ew : zuf (zuf S.1 81 u) 81 w = zuf S.1 81 w := zuf_zuf _ _ _ _
        have k3 : zTv (zup μ1 (x + 28) 3 (nI w)) (x + 28) (zuf S.1 81 w) := by rw [← ew]; exact hT.set (by omega) (by omega)
        have k4 : zAg μ (zup μ1 (x + 28) 3 (nI w)) (x + 28) (x + 50) := hag.trans (zAg.up (by omega))
        have pre : zV q 2 12 46 [some (.ref x), some (.int (nI p)), some (.int (nI b)), some (.int (nI r)), some (.int least), some (.int (nI w)), l6] [] K μ1 := by
          by_cases cl : nI (zbc S.1 w) < least
          · refine eX8_bestColumn_46 hC ?_
            refine eX8_bestColumn_47 hC (by assumption) (by assumption) ?_
            refine eX8_bestColumn_50 hC ?_
            refine eX8_bestColumn_52 hC (by assumption) ?_
            refine eX8_bestColumn_55 hC ?_
            refine eX8_bestColumn_56 hC (by assumption) (by assumption) ?_
            refine eX8_bestColumn_59 hC ?_
            refine eX8_bestColumn_60 hC (Nat.le_of_ble_eq_true rfl) (Nat.le_of_ble_eq_true rfl) (Nat.le_of_ble_eq_true rfl) (by first | assumption | exact zLay.o (by assumption)) (vX3_arrange hC.nt h12 h11 k3 okw (by omega) (by rw [zup_a _ _ _ _ (by omega)]; exact hzz) (Nat.le_refl 1) rfl) (zk_w (fun μ_60 m_60 => ?_))
            obtain ⟨w1, w2, w3⟩ := m_60
            have k5 := k3.ag w2 (by omega)
            refine eX8_bestColumn_63 hC ?_
            refine eX8_bestColumn_64 hC (by assumption) (by assumption) ?_
            refine eX8_bestColumn_67 hC (Nat.le_of_ble_eq_true rfl) (Nat.le_of_ble_eq_true rfl) (Nat.le_of_ble_eq_true rfl) (by first | assumption | exact zLay.o (by assumption)) (vX3_totalCost hC.nt h12 h11 k5 okw w1) (zk_i ?_)
            refine eX8_bestColumn_70 hC ?_
            refine eX8_bestColumn_72 hC ?_
            refine eX8_bestColumn_74 hC ?_
            refine eX8_bestColumn_76 hC (fun zz => absurd zz (Int32.not_le.mpr cl)) (fun _ => ?_)
            refine eX8_bestColumn_79 hC ?_
            refine eX8_bestColumn_81 hC ?_
            refine eX8_bestColumn_83 hC ?_
            refine eX8_bestColumn_85 hC ?_
            refine nx w _ μ_60 (k4.trans (zAg.wide w2 (by omega) (by omega))) w3 k5 ?_
            rcases hI with ⟨z1, z2, z3⟩ | ⟨z1, z2, z3⟩
            · rw [z1, Nat.sub_self]; rfl
            · obtain ⟨n, hn⟩ : ∃ n, w - p = n + 1 := ⟨w - p - 1, by omega⟩
              have en : w - 1 - p = n := by omega
              have ep : p + n + 1 = w := by omega
              rw [hn]
              show w = if zbc S.1 (p + n + 1) < zbc S.1 (zbw (zbc S.1) p n) then p + n + 1 else zbw (zbc S.1) p n
              rw [z3, z2, en] at cl
              rw [ep, if_pos (zlt_of cl hbd (zbc_lt ho.1 (zbw_in (by omega))))]
          · refine eX8_bestColumn_46 hC ?_
            refine eX8_bestColumn_47 hC (by assumption) (by assumption) ?_
            refine eX8_bestColumn_50 hC ?_
            refine eX8_bestColumn_52 hC (by assumption) ?_
            refine eX8_bestColumn_55 hC ?_
            refine eX8_bestColumn_56 hC (by assumption) (by assumption) ?_
            refine eX8_bestColumn_59 hC ?_
            refine eX8_bestColumn_60 hC (Nat.le_of_ble_eq_true rfl) (Nat.le_of_ble_eq_true rfl) (Nat.le_of_ble_eq_true rfl) (by first | assumption | exact zLay.o (by assumption)) (vX3_arrange hC.nt h12 h11 k3 okw (by omega) (by rw [zup_a _ _ _ _ (by omega)]; exact hzz) (Nat.le_refl 1) rfl) (zk_w (fun μ_60 m_60 => ?_))
            obtain ⟨w1, w2, w3⟩ := m_60
            have k5 := k3.ag w2 (by omega)
            refine eX8_bestColumn_63 hC ?_
            refine eX8_bestColumn_64 hC (by assumption) (by assumption) ?_
            refine eX8_bestColumn_67 hC (Nat.le_of_ble_eq_true rfl) (Nat.le_of_ble_eq_true rfl) (Nat.le_of_ble_eq_true rfl) (by first | assumption | exact zLay.o (by assumption)) (vX3_totalCost hC.nt h12 h11 k5 okw w1) (zk_i ?_)
            refine eX8_bestColumn_70 hC ?_
            refine eX8_bestColumn_72 hC ?_
            refine eX8_bestColumn_74 hC ?_
            refine eX8_bestColumn_76 hC (fun _ => ?_) (fun zz => absurd (Int32.not_lt.mp cl) zz)
            rcases hI with ⟨z1, z2, z3⟩ | ⟨z1, z2, z3⟩
            · exact absurd (by rw [z3]; exact nI_lt hbd (by decide)) cl
            · obtain ⟨n, hn⟩ : ∃ n, w - p = n + 1 := ⟨w - p - 1, by omega⟩
              have en : w - 1 - p = n := by omega
              have ep : p + n + 1 = w := by omega
              have hr : r = zbw (zbc S.1) p (w - p) := by
                rw [hn]
                show r = if zbc S.1 (p + n + 1) < zbc S.1 (zbw (zbc S.1) p n) then p + n + 1 else zbw (zbc S.1) p n
                rw [← en, ← z2, show p + (w - 1 - p) + 1 = w by omega, if_neg]
                intro qq
                exact cl (by rw [z3]; exact nI_lt qq (by have := zbc_lt ho.1 (k := r) (by rw [z2]; exact zbw_in (by omega)); omega))
              subst z3
              exact nx r _ μ_60 (k4.trans (zAg.wide w2 (by omega) (by omega))) w3 k5 hr
        exact pre
      by_cases cz : least ≤ 0
      · rcases hI with ⟨z1, z2, z3⟩ | ⟨z1, z2, z3⟩
        · rw [z3] at cz
          exact absurd cz (by decide)
        have h0 : zbc S.1 r = 0 := by
          rcases Nat.eq_zero_or_pos (zbc S.1 r) with qz | qz
          · exact qz
          · rw [z3] at cz
            exact absurd cz (nI_nle qz (by have := zbc_lt ho.1 (k := r) (by rw [z2]; exact zbw_in (by omega)); omega))
        have hr : zbw (zbc S.1) p (b - p) = r := by
          rw [show b - p = (w - 1 - p) + (b - (w - 1)) by omega, zbw_0 (by rw [← z2]; exact h0), z2]
        refine eX8_bestColumn_35 hC ?_
        refine eX8_bestColumn_37 hC ?_
        refine eX8_bestColumn_38 hC (fun zz => absurd zz (nI_nlt (by omega) (by omega))) (fun _ => ?_)
        refine eX8_bestColumn_41 hC ?_
        refine eX8_bestColumn_43 hC (fun _ => ?_) (fun zz => absurd cz zz)
        refine eX8_bestColumn_92 hC ?_
        refine eX8_bestColumn_93 hC hQ (Nat.le_of_ble_eq_true rfl) (Nat.le_of_ble_eq_true rfl) ?_
        exact ⟨_, _, e1.trans (by rw [hr]), rfl, zKe.refl _ _, ⟨s, hR, hv.dr hR hag hzz, ho⟩, zAg.wide hag (by omega) (by omega)⟩
      · refine eX8_bestColumn_35 hC ?_
        refine eX8_bestColumn_37 hC ?_
        refine eX8_bestColumn_38 hC (fun zz => absurd zz (nI_nlt (by omega) (by omega))) (fun _ => ?_)
        refine eX8_bestColumn_41 hC ?_
        refine eX8_bestColumn_43 hC (fun zz => absurd zz cz) (fun _ => ?_)
        exact go cz

  refine eX8_bestColumn_0 hC ?_
  refine eX8_bestColumn_1 hC ?_
  refine eX8_bestColumn_3 hC ?_
  refine eX8_bestColumn_5x hC (Nat.le_of_ble_eq_true rfl) (Nat.le_of_ble_eq_true rfl) (Nat.le_of_ble_eq_true rfl) (vX8_requireRange hC.nt) (zXo.of hQx (Nat.le_of_ble_eq_true rfl) (Nat.le_of_ble_eq_true rfl) (zRX.rg rfl h (zKe.refl _ _) (zAg.refl _ _ _))) (zk_x (fun m_5 => ?_))
  obtain ⟨p, rfl, hp1, hp2, e1⟩ := zrg_in (f := fun p => zrg j p 100 (fun b => .inl (nI (zbw (zbc S.1) p (b - p)), S))) (by omega) (by omega) m_5
  refine eX8_bestColumn_8 hC ?_
  refine eX8_bestColumn_9 hC ?_
  refine eX8_bestColumn_10 hC ?_
  refine eX8_bestColumn_12x hC (Nat.le_of_ble_eq_true rfl) (Nat.le_of_ble_eq_true rfl) (Nat.le_of_ble_eq_true rfl) (vX8_requireRange hC.nt) (zXo.of hQx (Nat.le_of_ble_eq_true rfl) (Nat.le_of_ble_eq_true rfl) (zRX.rg e1 h (zKe.refl _ _) (zAg.refl _ _ _))) (zk_x (fun m_12 => ?_))
  obtain ⟨b, rfl, hb1, hb2, e2⟩ := zrg_in (f := fun b => .inl (nI (zbw (zbc S.1) p (b - p)), S)) (by omega) (by omega) m_12
  refine eX8_bestColumn_15 hC ?_
  refine eX8_bestColumn_16 hC (by assumption) (by assumption) ?_
  refine eX8_bestColumn_19 hC ?_
  refine eX8_bestColumn_20 hC (by assumption) (by assumption) ?_
  refine eX8_bestColumn_23 hC (Nat.le_of_ble_eq_true rfl) (Nat.le_of_ble_eq_true rfl) (Nat.le_of_ble_eq_true rfl) (by first | assumption | exact zTxt.o (by assumption)) (vX7_copyFrom hC.nt h11 h8 v1 (by omega) ho.1.2.2.2.2.2.2.2.2.2) (zk_w (fun μ_23 m_23 => ?_))
  refine eX8_bestColumn_26 hC ?_
  refine eX8_bestColumn_27 hC ?_
  refine eX8_bestColumn_28 hC ?_
  refine eX8_bestColumn_30 hC ?_
  refine eX8_bestColumn_32 hC ?_
  refine eX8_bestColumn_33 hC ?_
  obtain ⟨g1, g2⟩ := m_23
  exact loop p b hp1 hb1 hb2 (e1.trans e2) (b + 1 - p) p (S.1 81) p _ _ μ_23 (by omega) (Nat.le_refl _) (zAg.wide g2 (by omega) (by omega)) (by rw [g2 _ _ (by omega)]; exact v5) (by rw [zuf_self]; exact g1) (Or.inl ⟨rfl, rfl, rfl⟩)
