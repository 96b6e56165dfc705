/-! ===== load ===== -/
theorem zrun_mono {β : Nat → Nat} {i : Nat} (h : zrun β i = none) : ∀ d, zrun β (i + d) = none
  | 0 => h
  | d + 1 => by
    show (zrun β (i + d)).bind (fun s => zstp (β (i + d)) s.1 s.2.1 s.2.2) = none
    rw [zrun_mono h d]; rfl
theorem zfe_full {β : Nat → Nat} {L : Nat} (h : zfe β L = L) : ∃ s, zrun β L = some s := by
  obtain ⟨h1, h2, h3⟩ := zfe_is β L
  rw [h] at h3
  cases L with
  | zero => exact ⟨_, rfl⟩
  | succ n =>
    cases hr : zrun β (n + 1) with
    | none => exact absurd hr (h3 n (by omega))
    | some s => exact ⟨s, rfl⟩
theorem zfe_part {β : Nat → Nat} {L : Nat} (h : zfe β L < L) : zrun β L = none := by
  obtain ⟨h1, h2, h3⟩ := zfe_is β L
  have q := h2.resolve_left (by omega)
  have := zrun_mono q (L - (zfe β L + 1))
  rw [show zfe β L + 1 + (L - (zfe β L + 1)) = L by omega] at this
  exact this
/-- the words of the buffer, k of them, behind those of the text -/
def zapp (τ W M : Nat → Nat) : Nat → Nat → Nat
  | 0 => τ
  | k + 1 => zIns (zapp τ W M k) (τ 80 + k) (W k) (M k)
theorem zapp_80 (τ W M : Nat → Nat) : ∀ k, zapp τ W M k 80 = τ 80 + k
  | 0 => rfl
  | k + 1 => by
    show zapp τ W M k 80 + 1 = _
    rw [zapp_80 τ W M k]; omega
theorem zapp_ok {τ W M : Nat → Nat} (h : zOk τ) : ∀ {k : Nat}, τ 80 + k ≤ 40 → (∀ q, q < k → 1 ≤ W q ∧ W q ≤ 30 ∧ M q ≤ 2) → zOk (zapp τ W M k)
  | 0, _, _ => h
  | k + 1, h1, h2 => zIns_ok (zapp_ok h (k := k) (by omega) (fun q hq => h2 q (by omega))) (by rw [zapp_80]; omega) (by rw [zapp_80]; omega) ⟨(h2 k (by omega)).1, (h2 k (by omega)).2.1⟩ (h2 k (by omega)).2.2
noncomputable def zdo_load (S : zMs) : zOu := match zrun S.2.2.2.2 S.2.2.2.1 with
  | none => .inr zxA
  | some s => if s.2.1 s.1 = 0 then .inr zxA else if 40 < S.1 80 + (s.1 + 1) then .inr zxS else .inl (nI (S.1 80 + (s.1 + 1)), (zapp S.1 s.2.1 s.2.2 (s.1 + 1), zsvn S.2.1, zsvr S.2.1 S.2.2.1 S.1, 0, S.2.2.2.2))
theorem zBst.eq {μ μ' : zF} {b : Nat} {s : zBS} (h : zBst μ b s) (he : ∀ a j, b ≤ a → a < b + 7 → μ' a j = μ a j) : zBst μ' b s := ⟨by rw [he _ _ (by omega) (by omega)]; exact h.1, fun q hq => ⟨by rw [he _ _ (by omega) (by omega)]; exact (h.2 q hq).1, by rw [he _ _ (by omega) (by omega)]; exact (h.2 q hq).2⟩⟩
set_option maxHeartbeats 8000000 in
theorem vX8_load {l : Launch} {g : zG} (hl : l.stackTraces = false) {K : zK} {μ : zF} {x : Nat} {S : zMs} (h : zX8 K μ x S) : QX8_load l g 2 12 [.ref x] K μ (zRP (zdo_load S) K μ x) (zRX (zdo_load S) K μ x S) := by
  obtain ⟨s, hR, hv, ho⟩ := id h
  obtain ⟨h0, h1, h2, h3, h4, h5, h6, h7, h8, h9, h10, h11, h12, h13, h14⟩ := id hR
  obtain ⟨v1, v2, v3, v4, v5⟩ := id hv.1
  obtain ⟨t0, t1, t2, t3, t4⟩ := id h8
  have b0 := h13.1
  have q0 := h14.1
  have o1 := ho.1.1
  have e8 : μ (x + 1) 2 = nI (S.1 80) := v1.2.2 2 (by omega) (by omega)
  have l60 := ho.2.2.2.1
  have hβ : ∀ i, i < S.2.2.2.1 → S.2.2.2.2 i < 128 := fun i hi => by have := (ho.2.2.2.2 i hi).2; omega
  have hle := (zfe_is S.2.2.2.2 S.2.2.2.1).1
  refine nxX8_load hl (fun q hC hQ hQx => ?_)
  by_cases c0 : zfe S.2.2.2.2 S.2.2.2.1 < S.2.2.2.1
  · have hz := zfe_part c0
    have e : zdo_load S = .inr zxA := by unfold zdo_load; rw [hz]
    refine eX8_load_0 hC ?_
    refine eX8_load_1 hC (by assumption) (by assumption) ?_
    refine eX8_load_4 hC (Nat.le_of_ble_eq_true rfl) (Nat.le_of_ble_eq_true rfl) (Nat.le_of_ble_eq_true rfl) (by first | assumption | exact zBuf.o (by assumption)) (vX0_scan hC.nt h13 v2 l60 hβ) (zk_v (fun μ_4 m_4 => ?_))
    obtain ⟨g1, g2⟩ := m_4
    have g3 := g1.ag
    have v2' := v2.fr g1
    have hX : zX8 K μ_4 x S := ⟨s, hR, hv.buf hR g3 v2', ho⟩
    have hA : zAg μ μ_4 x (x + 89) := zAg.wide g3 (by omega) (by omega)
    have e9 : μ_4 (x + 1) 2 = nI (S.1 80) := by rw [g3 _ _ (by omega)]; exact e8
    refine eX8_load_7 hC ?_
    refine eX8_load_8 hC (by assumption) (by assumption) ?_
    refine eX8_load_11 hC (by assumption) ?_
    rw [v2'.1]
    refine eX8_load_14 hC (fun _ => ?_) (fun zz => absurd (nI_lt c0 (by omega)) zz)
    exact eX8_load_27 hC hQx (Nat.le_of_ble_eq_true rfl) (Nat.le_of_ble_eq_true rfl) (Nat.le_of_ble_eq_true rfl) (Nat.le_of_ble_eq_true rfl) (Nat.le_of_ble_eq_true rfl) ⟨e, zKe.refl _ _, hX, hA⟩
  · have hfe : zfe S.2.2.2.2 S.2.2.2.1 = S.2.2.2.1 := by omega
    obtain ⟨u, hu⟩ := zfe_full hfe
    have ok := zrun_ok hu
    have hk30 : u.1 < 60 := by have := ok.1; omega
    by_cases c1 : u.2.1 u.1 = 0
    · have e : zdo_load S = .inr zxA := by unfold zdo_load; rw [hu]; exact if_pos c1
      refine eX8_load_0 hC ?_
      refine eX8_load_1 hC (by assumption) (by assumption) ?_
      refine eX8_load_4 hC (Nat.le_of_ble_eq_true rfl) (Nat.le_of_ble_eq_true rfl) (Nat.le_of_ble_eq_true rfl) (by first | assumption | exact zBuf.o (by assumption)) (vX0_scan hC.nt h13 v2 l60 hβ) (zk_v (fun μ_4 m_4 => ?_))
      obtain ⟨g1, g2⟩ := m_4
      have g3 := g1.ag
      have v2' := v2.fr g1
      have hX : zX8 K μ_4 x S := ⟨s, hR, hv.buf hR g3 v2', ho⟩
      have hA : zAg μ μ_4 x (x + 89) := zAg.wide g3 (by omega) (by omega)
      have e9 : μ_4 (x + 1) 2 = nI (S.1 80) := by rw [g3 _ _ (by omega)]; exact e8
      refine eX8_load_7 hC ?_
      refine eX8_load_8 hC (by assumption) (by assumption) ?_
      refine eX8_load_11 hC (by assumption) ?_
      rw [v2'.1]
      have hb := g2 u (by rw [hfe]; exact hu) hfe
      refine eX8_load_14 hC (fun zz => absurd zz (nI_nlt (by omega) (by omega))) (fun _ => ?_)
      refine eX8_load_17 hC ?_
      refine eX8_load_18 hC (by assumption) (by assumption) ?_
      refine eX8_load_21 hC (Nat.le_of_ble_eq_true rfl) (Nat.le_of_ble_eq_true rfl) (Nat.le_of_ble_eq_true rfl) (by first | assumption | exact zBuf.o (by assumption)) (vX0_endsInWord hC.nt h13 hb hk30 (ok.2.1 _ (Nat.le_refl _)).1) (zk_i ?_)
      rw [zBv_f (p := u.2.1 u.1 ≠ 0) (fun qq => qq c1)]
      refine eX8_load_24 hC (fun zz => absurd zn00 zz) (fun _ => ?_)
      exact eX8_load_27 hC hQx (Nat.le_of_ble_eq_true rfl) (Nat.le_of_ble_eq_true rfl) (Nat.le_of_ble_eq_true rfl) (Nat.le_of_ble_eq_true rfl) (Nat.le_of_ble_eq_true rfl) ⟨e, zKe.refl _ _, hX, hA⟩
    · have hwm : ∀ j, j < u.1 + 1 → 1 ≤ u.2.1 j ∧ u.2.1 j ≤ 30 ∧ u.2.2 j ≤ 2 := fun j hj => by
        have h1 := ok.2.1 j (by omega)
        refine ⟨?_, h1.1, h1.2⟩
        rcases Nat.eq_or_lt_of_le (show j ≤ u.1 by omega) with z | z
        · subst z; omega
        · exact ok.2.2 j z
      by_cases c2 : 40 < S.1 80 + (u.1 + 1)
      · have e : zdo_load S = .inr zxS := by unfold zdo_load; rw [hu]; exact (if_neg c1).trans (if_pos c2)
        refine eX8_load_0 hC ?_
        refine eX8_load_1 hC (by assumption) (by assumption) ?_
        refine eX8_load_4 hC (Nat.le_of_ble_eq_true rfl) (Nat.le_of_ble_eq_true rfl) (Nat.le_of_ble_eq_true rfl) (by first | assumption | exact zBuf.o (by assumption)) (vX0_scan hC.nt h13 v2 l60 hβ) (zk_v (fun μ_4 m_4 => ?_))
        obtain ⟨g1, g2⟩ := m_4
        have g3 := g1.ag
        have v2' := v2.fr g1
        have hX : zX8 K μ_4 x S := ⟨s, hR, hv.buf hR g3 v2', ho⟩
        have hA : zAg μ μ_4 x (x + 89) := zAg.wide g3 (by omega) (by omega)
        have e9 : μ_4 (x + 1) 2 = nI (S.1 80) := by rw [g3 _ _ (by omega)]; exact e8
        refine eX8_load_7 hC ?_
        refine eX8_load_8 hC (by assumption) (by assumption) ?_
        refine eX8_load_11 hC (by assumption) ?_
        rw [v2'.1]
        have hb := g2 u (by rw [hfe]; exact hu) hfe
        refine eX8_load_14 hC (fun zz => absurd zz (nI_nlt (by omega) (by omega))) (fun _ => ?_)
        refine eX8_load_17 hC ?_
        refine eX8_load_18 hC (by assumption) (by assumption) ?_
        refine eX8_load_21 hC (Nat.le_of_ble_eq_true rfl) (Nat.le_of_ble_eq_true rfl) (Nat.le_of_ble_eq_true rfl) (by first | assumption | exact zBuf.o (by assumption)) (vX0_endsInWord hC.nt h13 hb hk30 (ok.2.1 _ (Nat.le_refl _)).1) (zk_i ?_)
        rw [zBv_t (p := u.2.1 u.1 ≠ 0) c1]
        refine eX8_load_24 hC (fun _ => ?_) (fun zz => absurd zz zn10)
        refine eX8_load_37 hC ?_
        refine eX8_load_38 hC (by assumption) (by assumption) ?_
        refine eX8_load_41 hC (by assumption) ?_
        refine eX8_load_44 hC ?_
        refine eX8_load_45 hC (by assumption) (by assumption) ?_
        refine eX8_load_48 hC (Nat.le_of_ble_eq_true rfl) (Nat.le_of_ble_eq_true rfl) (Nat.le_of_ble_eq_true rfl) (by first | assumption | exact zBuf.o (by assumption)) (vX0_countWords hC.nt h13 hb) (zk_i ?_)
        rw [e9]
        refine eX8_load_51 hC ?_
        rw [nI_add]
        refine eX8_load_52 hC ?_
        refine eX8_load_54 hC (fun zz => absurd zz (nI_ge c2 (by omega))) (fun _ => ?_)
        exact eX8_load_57 hC hQx (Nat.le_of_ble_eq_true rfl) (Nat.le_of_ble_eq_true rfl) (Nat.le_of_ble_eq_true rfl) (Nat.le_of_ble_eq_true rfl) (Nat.le_of_ble_eq_true rfl) ⟨e, zKe.refl _ _, hX, hA⟩
      · have e : zdo_load S = .inl (nI (S.1 80 + (u.1 + 1)), (zapp S.1 u.2.1 u.2.2 (u.1 + 1), zsvn S.2.1, zsvr S.2.1 S.2.2.1 S.1, 0, S.2.2.2.2)) := by unfold zdo_load; rw [hu]; exact (if_neg c1).trans (if_neg c2)
        have ok1 : ∀ i, i ≤ u.1 + 1 → zOk (zapp S.1 u.2.1 u.2.2 i) := fun i hi => zapp_ok ho.1 (by omega) (fun j hj => hwm j (by omega))
        have e80 := zapp_80 S.1 u.2.1 u.2.2
        have loop : ∀ (d i : Nat) (K1 : zK) (μ1 : zF) (s' : Nat → Nat), i + d = u.1 + 1 → zKe K K1 (x + 58) → zAg μ μ1 x (x + 89) → μ1 x 7 = nI 1 → zRag K1 x s' → zRc μ1 x s' (zcg S (zapp S.1 u.2.1 u.2.2 i)) → zBst μ1 (x + 50) u → zV q 0 0 73 [some (.ref x), some (.int (nI i))] [] K1 μ1 := by
          intro d
          induction d with
          | zero =>
            intro i K1 μ1 s' hd hK ha hst hR' hc' hb
            have hi : i = u.1 + 1 := by omega
            subst hi
            obtain ⟨h0, h1, h2, h3, h4, h5, h6, h7, h8, h9, h10, h11, h12, h13, h14⟩ := id hR'
            obtain ⟨t0, t1, t2, t3, t4⟩ := id h8
            have b0 := h13.1
            obtain ⟨w1, w2, w3, w4, w5⟩ := id hc'
            refine eX8_load_73 hC ?_
            refine eX8_load_74 hC ?_
            refine eX8_load_75 hC (by assumption) (by assumption) ?_
            refine eX8_load_78 hC (Nat.le_of_ble_eq_true rfl) (Nat.le_of_ble_eq_true rfl) (Nat.le_of_ble_eq_true rfl) (by first | assumption | exact zBuf.o (by assumption)) (vX0_countWords hC.nt h13 hb) (zk_i ?_)
            refine eX8_load_81 hC (fun _ => ?_) (fun zz => absurd (nI_le (Nat.le_refl _) (by omega)) zz)
            refine eX8_load_126 hC ?_
            refine eX8_load_127 hC (by assumption) (by assumption) ?_
            refine eX8_load_130 hC ?_
            refine eX8_load_131 hC (by assumption) ?_
            refine eX8_load_134 hC ?_
            refine eX8_load_135 hC (by assumption) (by assumption) ?_
            refine eX8_load_138 hC (by assumption) ?_
            rw [zup_a _ _ _ _ (by omega), show μ1 (x + 1) 2 = nI (S.1 80 + (u.1 + 1)) from by rw [← e80]; exact w1.2.2 2 (by omega) (by omega)]
            refine eX8_load_141 hC hQ (Nat.le_of_ble_eq_true rfl) (Nat.le_of_ble_eq_true rfl) ?_
            have hu2 : zAg μ1 (zup μ1 (x + 50) 3 (nI 0)) (x + 50) (x + 57) := zAg.up (by omega)
            have hv' : zRv μ1 x s' (zcg S (zapp S.1 u.2.1 u.2.2 (u.1 + 1))) := ⟨hc', Or.inl hst⟩
            exact ⟨_, _, e, rfl, hK, ⟨s', hR', hv'.buf hR' hu2 ⟨zup_self _ _ _ _, fun i hi => absurd hi (Nat.not_lt_zero _)⟩, ⟨ok1 _ (Nat.le_refl _), (zsv_ok ho).2.1, (zsv_ok ho).2.2.1, (by show 0 ≤ 60; omega), fun i hi => absurd hi (Nat.not_lt_zero _)⟩⟩, ha.trans (zAg.wide hu2 (by omega) (by omega))⟩
          | succ d ih =>
            intro i K1 μ1 s' hd hK ha hst hR' hc' hb
            obtain ⟨h0, h1, h2, h3, h4, h5, h6, h7, h8, h9, h10, h11, h12, h13, h14⟩ := id hR'
            obtain ⟨t0, t1, t2, t3, t4⟩ := id h8
            obtain ⟨b0, b1, b2, b3, b4, b5, b6⟩ := id h13
            obtain ⟨w1, w2, w3, w4, w5⟩ := id hc'
            have w1 : zTv μ1 (x + 1) (zapp S.1 u.2.1 u.2.2 i) := w1
            have ei := e80 i
            refine eX8_load_73 hC ?_
            refine eX8_load_74 hC ?_
            refine eX8_load_75 hC (by assumption) (by assumption) ?_
            refine eX8_load_78 hC (Nat.le_of_ble_eq_true rfl) (Nat.le_of_ble_eq_true rfl) (Nat.le_of_ble_eq_true rfl) (by first | assumption | exact zBuf.o (by assumption)) (vX0_countWords hC.nt h13 hb) (zk_i ?_)
            refine eX8_load_81 hC (fun zz => absurd zz (nI_ge (show i < u.1 + 1 by omega) (by omega))) (fun _ => ?_)
            refine eX8_load_84 hC ?_
            refine eX8_load_85 hC (by assumption) (by assumption) ?_
            refine eX8_load_88 hC ?_
            refine eX8_load_89 hC (by assumption) (by assumption) ?_
            refine eX8_load_92 hC (by assumption) ?_
            rw [show μ1 (x + 1) 2 = nI (zapp S.1 u.2.1 u.2.2 i 80) from w1.2.2 2 (by omega) (by omega)]
            refine eX8_load_95 hC ?_
            refine eX8_load_96 hC (by assumption) (by assumption) ?_
            refine eX8_load_99 hC (by assumption) (by assumption) ?_
            refine eX8_load_102 hC ?_
            refine eX8_load_103 hC (Nat.le_of_ble_eq_true rfl) (Nat.le_of_ble_eq_true rfl) (Nat.le_of_ble_eq_true rfl) (by first | assumption | exact zRow.o (by assumption)) (vX6_at hC.nt b5) (zk_i ?_)
            rw [zrd_in (by omega) (by omega), show μ1 _ i = nI (u.2.1 i) from (hb.2 i (by omega)).1]
            refine eX8_load_106 hC ?_
            refine eX8_load_107 hC (by assumption) (by assumption) ?_
            refine eX8_load_110 hC (by assumption) (by assumption) ?_
            refine eX8_load_113 hC ?_
            refine eX8_load_114 hC (Nat.le_of_ble_eq_true rfl) (Nat.le_of_ble_eq_true rfl) (Nat.le_of_ble_eq_true rfl) (by first | assumption | exact zRow.o (by assumption)) (vX6_at hC.nt b6) (zk_i ?_)
            rw [zrd_in (by omega) (by omega), show μ1 _ i = nI (u.2.2 i) from (hb.2 i (by omega)).2]
            refine eX8_load_117 hC (Nat.le_of_ble_eq_true rfl) (Nat.le_of_ble_eq_true rfl) (Nat.le_of_ble_eq_true rfl) (by first | assumption | exact zTxt.o (by assumption)) (vX7_putWord hC.nt h8 w1 (by omega) (Nat.le_refl _)) (zk_w (fun μ_117 m_117 => ?_))
            obtain ⟨g1, g2⟩ := m_117
            refine eX8_load_120 hC ?_
            rw [nI_add]
            refine eX8_load_123 hC ?_
            have g3 : zTv μ_117 (x + 1) (zapp S.1 u.2.1 u.2.2 (i + 1)) := by show zTv μ_117 (x + 1) (zIns (zapp S.1 u.2.1 u.2.2 i) (S.1 80 + i) (u.2.1 i) (u.2.2 i)); rw [← ei]; exact g1
            exact ih (i + 1) K1 μ_117 s' (by omega) hK (ha.trans (zAg.wide g2 (by omega) (by omega))) (by rw [g2 _ _ (by omega)]; exact hst) hR' (hc'.txt hR' g3 g2) (hb.eq (fun a j q1 q2 => g2 _ _ (by omega)))
        refine eX8_load_0 hC ?_
        refine eX8_load_1 hC (by assumption) (by assumption) ?_
        refine eX8_load_4 hC (Nat.le_of_ble_eq_true rfl) (Nat.le_of_ble_eq_true rfl) (Nat.le_of_ble_eq_true rfl) (by first | assumption | exact zBuf.o (by assumption)) (vX0_scan hC.nt h13 v2 l60 hβ) (zk_v (fun μ_4 m_4 => ?_))
        obtain ⟨g1, g2⟩ := m_4
        have g3 := g1.ag
        have v2' := v2.fr g1
        have hX : zX8 K μ_4 x S := ⟨s, hR, hv.buf hR g3 v2', ho⟩
        have hA : zAg μ μ_4 x (x + 89) := zAg.wide g3 (by omega) (by omega)
        have e9 : μ_4 (x + 1) 2 = nI (S.1 80) := by rw [g3 _ _ (by omega)]; exact e8
        refine eX8_load_7 hC ?_
        refine eX8_load_8 hC (by assumption) (by assumption) ?_
        refine eX8_load_11 hC (by assumption) ?_
        rw [v2'.1]
        have hb := g2 u (by rw [hfe]; exact hu) hfe
        have hv2 := hv.buf hR g3 v2'
        refine eX8_load_14 hC (fun zz => absurd zz (nI_nlt (by omega) (by omega))) (fun _ => ?_)
        refine eX8_load_17 hC ?_
        refine eX8_load_18 hC (by assumption) (by assumption) ?_
        refine eX8_load_21 hC (Nat.le_of_ble_eq_true rfl) (Nat.le_of_ble_eq_true rfl) (Nat.le_of_ble_eq_true rfl) (by first | assumption | exact zBuf.o (by assumption)) (vX0_endsInWord hC.nt h13 hb hk30 (ok.2.1 _ (Nat.le_refl _)).1) (zk_i ?_)
        rw [zBv_t (p := u.2.1 u.1 ≠ 0) c1]
        refine eX8_load_24 hC (fun _ => ?_) (fun zz => absurd zz zn10)
        refine eX8_load_37 hC ?_
        refine eX8_load_38 hC (by assumption) (by assumption) ?_
        refine eX8_load_41 hC (by assumption) ?_
        refine eX8_load_44 hC ?_
        refine eX8_load_45 hC (by assumption) (by assumption) ?_
        refine eX8_load_48 hC (Nat.le_of_ble_eq_true rfl) (Nat.le_of_ble_eq_true rfl) (Nat.le_of_ble_eq_true rfl) (by first | assumption | exact zBuf.o (by assumption)) (vX0_countWords hC.nt h13 hb) (zk_i ?_)
        rw [e9]
        refine eX8_load_51 hC ?_
        rw [nI_add]
        refine eX8_load_52 hC ?_
        refine eX8_load_54 hC (fun _ => ?_) (fun zz => absurd (nI_le (by omega) (by omega)) zz)
        refine eX8_load_67 hC ?_
        refine eX8_load_68 hC (Nat.le_of_ble_eq_true rfl) (Nat.le_of_ble_eq_true rfl) (Nat.le_of_ble_eq_true rfl) (by assumption) (vX8_prepareChange hC.nt hR hv2 ho) (fun v_68 K_68 μ_68 m_68 => ?_)
        obtain ⟨rfl, hK, ha, hst, s', hR', hc', hfr⟩ := m_68
        show zV q _ _ 71 _ [] K_68 μ_68
        refine eX8_load_71 hC ?_
        refine eX8_load_72 hC ?_
        exact loop (u.1 + 1) 0 K_68 μ_68 s' (by omega) hK (hA.trans ha) hst hR' hc' (hb.eq (fun a j q1 q2 => hfr a j (by omega) (by omega)))
