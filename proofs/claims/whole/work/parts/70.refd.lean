/-! ===== the reference: load, the hash ===== -/
theorem zM9.clr {μ : zF} {m : Nat} {S : zMs} (h : zM9 μ m S) (ho : zMok S) : zM9 (zup μ m 3 (nI 0)) m (S.1, S.2.1, S.2.2.1, 0, S.2.2.2.2) := by
  obtain ⟨a1, a2, a3, a4, a5, a6⟩ := h
  exact ⟨a1.of ho.1.1 (fun j hj => zup_a _ _ _ _ (by omega)), (zup_k _ _ _ (by omega)).trans a2, fun i hi => (a3 i hi).of (ho.2.2.1 i hi).1 (fun j hj => zup_a _ _ _ _ (by omega)), zup_self _ _ _ _, fun i hi => absurd hi (Nat.not_lt_zero i), (zup_a _ _ _ _ (by omega)).trans a6⟩
theorem zM9.f11u {μ : zF} {m k : Nat} {S : zMs} {v : Int32} (h : zM9 μ m S) (hk : 11 ≤ k) : zM9 (zup μ m k v) m S := h.f11 (fun a j z => by
  unfold zup
  rw [if_neg (by omega)])
set_option maxHeartbeats 16000000 in
theorem vX9_load {l : Launch} {g : zG} (hl : l.stackTraces = false) {K : zK} {μ : zF} {m : Nat} {S : zMs} (hR : zRef K m) (hM : zM9 μ m S) (ho : zMok S) : EX9_load l g 0 0 [.ref m] K μ (zN9 zcAS (zdo_load S) K μ m S) := by
  obtain ⟨h0, h1, h2, h3, h4, h5, h6, h7, h8, i1, i2, i3, i4, i5, i6, i7, i8⟩ := id hR
  obtain ⟨a1, a2, a3, a4, a5, a6⟩ := id hM
  have o80 := ho.1.1
  have e80 : μ (m + 1) 80 = nI (S.1 80) := by have := a1.2 80 (by omega) (by omega); rwa [Nat.zero_add] at this
  refine nX9_load hl (fun x hC hQ => ?_)
  generalize hL : S.2.2.2.1 = L at *
  generalize hβ : S.2.2.2.2 = β at *
  have l60 : L ≤ 60 := by rw [← hL]; exact ho.2.2.2.1
  have hB : zBq K μ m L β := by rw [← hL, ← hβ]; exact hM.bq hR ho
  have bad : zrN β L = -1 → zdo_load S = .inr zxA → zV x 0 0 0 [some (.ref m), none] [] K μ := by
    intro en e
    refine eX9_load_0 hC ?_
    refine eX9_load_1 hC (Nat.le_of_ble_eq_true rfl) (Nat.le_of_ble_eq_true rfl) (Nat.le_of_ble_eq_true rfl) (by assumption) (vX9_reads hC.nt hB) (zk_v (fun μ_1 m_1 => ?_))
    obtain ⟨y1, y2⟩ := m_1
    have g1 := hM.f11 y2
    rw [en]
    refine eX9_load_4 hC ?_
    refine eX9_load_5 hC ?_
    refine eX9_load_6 hC ?_
    refine eX9_load_7 hC ?_
    refine eX9_load_8 hC (fun _ => ?_) (fun zz => absurd rfl zz)
    refine eX9_load_15 hC ?_
    refine eX9_load_16 hC ?_
    refine eX9_load_17 hC (by assumption) (by assumption) ?_
    refine eX9_load_20 hC ?_
    refine eX9_load_22 hC (by assumption) (vp_in_nI (by omega) (by omega)) ?_
    rw [nI_clamp (by omega), g1.c (k := 80) (by omega) (by omega)]
    refine eX9_load_23 hC ?_
    refine eX9_load_24 hC ?_
    refine eX9_load_25 hC ?_
    refine eX9_load_27 hC (fun c_27 => ?_) (fun c_27 => ?_)
    · refine eX9_load_34 hC ?_
      refine eX9_load_35 hC ?_
      refine eX9_load_36 hC (Nat.le_of_ble_eq_true rfl) (Nat.le_of_ble_eq_true rfl) (Nat.le_of_ble_eq_true rfl) (by assumption) (vX9_goV hC.nt h0 (a := 0) (r := 0) (t := 1) rfl rfl (by omega) (by omega) (by omega)) (zk_v (fun μ_36 m_36 => ?_))
      subst m_36
      refine eX9_load_39 hC (fun zz => absurd zn00 zz) (fun _ => ?_)
      refine eX9_load_42 hC ?_
      refine eX9_load_43 hC hQ (Nat.le_of_ble_eq_true rfl) (Nat.le_of_ble_eq_true rfl) ?_
      exact zN9.nx e (by decide) g1 (zag11 y2)
    · refine eX9_load_30 hC ?_
      refine eX9_load_31 hC ?_
      refine eX9_load_35 hC ?_
      refine eX9_load_36 hC (Nat.le_of_ble_eq_true rfl) (Nat.le_of_ble_eq_true rfl) (Nat.le_of_ble_eq_true rfl) (by assumption) (vX9_goV hC.nt h0 (a := 0) (r := 0) (t := 1) rfl rfl (by omega) (by omega) (by omega)) (zk_v (fun μ_36 m_36 => ?_))
      subst m_36
      refine eX9_load_39 hC (fun zz => absurd zn00 zz) (fun _ => ?_)
      refine eX9_load_42 hC ?_
      refine eX9_load_43 hC hQ (Nat.le_of_ble_eq_true rfl) (Nat.le_of_ble_eq_true rfl) ?_
      exact zN9.nx e (by decide) g1 (zag11 y2)
  cases hr : zrun β L with
  | none =>
    refine bad (by unfold zrN; rw [hr]) ?_
    unfold zdo_load
    rw [hβ, hL, hr]
  | some s =>
    by_cases c0 : s.2.1 s.1 = 0
    · refine bad (by unfold zrN; rw [hr]; exact if_pos c0) ?_
      unfold zdo_load
      rw [hβ, hL, hr]
      exact if_pos c0
    · have en : zrN β L = nI (s.1 + 1) := by unfold zrN; rw [hr]; exact if_neg c0
      have hbk := zrun_ok hr
      have hk30 : s.1 ≤ 30 := by have := hbk.1; omega
      by_cases c1 : 40 < S.1 80 + (s.1 + 1)
      · have e : zdo_load S = .inr zxS := by
          unfold zdo_load
          rw [hβ, hL, hr]
          show (if s.2.1 s.1 = 0 then _ else _) = _
          rw [if_neg c0, if_pos c1]
        refine eX9_load_0 hC ?_
        refine eX9_load_1 hC (Nat.le_of_ble_eq_true rfl) (Nat.le_of_ble_eq_true rfl) (Nat.le_of_ble_eq_true rfl) (by assumption) (vX9_reads hC.nt hB) (zk_v (fun μ_1 m_1 => ?_))
        obtain ⟨y1, y2⟩ := m_1
        have g1 := hM.f11 y2
        rw [en]
        refine eX9_load_4 hC ?_
        refine eX9_load_5 hC ?_
        refine eX9_load_6 hC ?_
        refine eX9_load_7 hC ?_
        refine eX9_load_8 hC (fun zz => absurd zz (zne_m1 (by omega))) (fun _ => ?_)
        refine eX9_load_11 hC ?_
        refine eX9_load_12 hC ?_
        refine eX9_load_16 hC ?_
        refine eX9_load_17 hC (by assumption) (by assumption) ?_
        refine eX9_load_20 hC ?_
        refine eX9_load_22 hC (by assumption) (vp_in_nI (by omega) (by omega)) ?_
        rw [nI_clamp (by omega), g1.c (k := 80) (by omega) (by omega)]
        refine eX9_load_23 hC ?_
        refine eX9_load_24 hC ?_
        rw [nI_add]
        refine eX9_load_25 hC ?_
        refine eX9_load_27 hC (fun _ => ?_) (fun zz => absurd (nI_lt c1 (by omega)) zz)
        refine eX9_load_34 hC ?_
        refine eX9_load_35 hC ?_
        refine eX9_load_36 hC (Nat.le_of_ble_eq_true rfl) (Nat.le_of_ble_eq_true rfl) (Nat.le_of_ble_eq_true rfl) (by assumption) (vX9_goV hC.nt h0 (b := 0) (r := 0) (t := 2) rfl rfl (by omega) (by omega) (by omega)) (zk_v (fun μ_36 m_36 => ?_))
        subst m_36
        refine eX9_load_39 hC (fun zz => absurd zn00 zz) (fun _ => ?_)
        refine eX9_load_42 hC ?_
        refine eX9_load_43 hC hQ (Nat.le_of_ble_eq_true rfl) (Nat.le_of_ble_eq_true rfl) ?_
        exact zN9.nx e (by decide) g1 (zag11 y2)
      · have e : zdo_load S = .inl (nI (S.1 80 + (s.1 + 1)), (zapp S.1 s.2.1 s.2.2 (s.1 + 1), zsvn S.2.1, zsvr S.2.1 S.2.2.1 S.1, 0, β)) := by
          unfold zdo_load
          rw [hβ, hL, hr]
          show (if s.2.1 s.1 = 0 then _ else _) = _
          rw [if_neg c0, if_neg c1]
        have okj : ∀ j, j ≤ s.1 + 1 → zMok ((zapp S.1 s.2.1 s.2.2 j, (zsv S).2) : zMs) := fun j hj => ⟨zapp_ok ho.1 (by omega) (fun q hq => ⟨by
          rcases Nat.eq_or_lt_of_le (show q ≤ s.1 by omega) with z | z
          · subst z; omega
          · exact hbk.2.2 q z, (hbk.2.1 q (by omega)).1, (hbk.2.1 q (by omega)).2⟩), (zsv_ok ho).2⟩
        have loop : ∀ (d j p : Nat) (μ2 : zF), L + 1 - p ≤ d → ((j = s.1 + 1 ∧ p = L + 1) ∨ (j ≤ s.1 ∧ p < L ∧ ∃ s0 : zBS, zrun β p = some s0 ∧ s0.1 = j ∧ s0.2.1 j = 0 ∧ s0.2.2 j = 0)) → μ2 m 11 = nI p → zM9 μ2 m (zapp S.1 s.2.1 s.2.2 j, (zsv S).2) → zAg μ μ2 m (m + 9) → μ2 m 4 = nI 0 → ∀ l1 : Option Value, zV x 0 0 53 [some (.ref m), l1] [] K μ2 := by
          intro d
          have fin : ∀ (μ2 : zF), μ2 m 11 = nI (L + 1) → zM9 μ2 m (zapp S.1 s.2.1 s.2.2 (s.1 + 1), (zsv S).2) → zAg μ μ2 m (m + 9) → μ2 m 4 = nI 0 → ∀ l1 : Option Value, zV x 0 0 53 [some (.ref m), l1] [] K μ2 := by
            intro μ2 e11 hM2 ha h4' l1
            have hB2 : zBq K μ2 m L β := by rw [← hL, ← hβ]; exact hM2.bq hR (okj _ (Nat.le_refl _))
            have g3 := (hM2.f11u (k := 13) (v := nI 0) (by omega)).clr (okj _ (Nat.le_refl _))
            have e80' := g3.c (k := 80) (by omega) (by omega)
            have ez : zapp S.1 s.2.1 s.2.2 (s.1 + 1) 80 = S.1 80 + (s.1 + 1) := zapp_80 _ _ _ _
            refine eX9_load_53 hC ?_
            refine eX9_load_54 hC (Nat.le_of_ble_eq_true rfl) (Nat.le_of_ble_eq_true rfl) (Nat.le_of_ble_eq_true rfl) (by assumption) (vX9_readsNo hC.nt hB2 e11 (by omega) (fun z => by omega)) (zk_v (fun μ_54 m_54 => ?_))
            subst m_54
            refine eX9_load_57 hC (fun _ => ?_) (fun zz => absurd zn00 zz)
            refine eX9_load_92 hC ?_
            refine eX9_load_93 hC ?_
            refine eX9_load_94 hC (by assumption) ?_
            refine eX9_load_97 hC ?_
            refine eX9_load_98 hC (by assumption) (by assumption) ?_
            refine eX9_load_101 hC ?_
            refine eX9_load_103 hC (by assumption) (vp_in_nI (by omega) (by omega)) ?_
            rw [nI_clamp (by omega), e80']
            refine eX9_load_104 hC hQ (Nat.le_of_ble_eq_true rfl) (Nat.le_of_ble_eq_true rfl) ?_
            refine zN9.ok (e.trans ?_) (fun a j z => ?_) ?_ g3
            · show (Sum.inl (nI (S.1 80 + (s.1 + 1)), (zapp S.1 s.2.1 s.2.2 (s.1 + 1), zsvn S.2.1, zsvr S.2.1 S.2.2.1 S.1, 0, β)) : zOu) = Sum.inl (nI (zapp S.1 s.2.1 s.2.2 (s.1 + 1) 80), (zapp S.1 s.2.1 s.2.2 (s.1 + 1), zsvn S.2.1, zsvr S.2.1 S.2.2.1 S.1, 0, S.2.2.2.2))
              rw [ez, hβ]
            · rw [zup_a _ _ _ _ (by omega), zup_a _ _ _ _ (by omega)]; exact ha a j z
            · rw [zup_k _ _ _ (by omega), zup_k _ _ _ (by omega)]; exact h4'
          induction d with
          | zero =>
            intro j p μ2 hd hjp e11 hM2 ha h4' l1
            rcases hjp with ⟨rfl, rfl⟩ | ⟨_, z, _⟩
            · exact fin μ2 e11 hM2 ha h4' l1
            · omega
          | succ d ih =>
            intro j p μ2 hd hjp e11 hM2 ha h4' l1
            rcases hjp with ⟨rfl, rfl⟩ | ⟨hj, hpL, s0, q1, rfl, q3, q4⟩
            · exact fin μ2 e11 hM2 ha h4' l1
            · have hB2 : zBq K μ2 m L β := by rw [← hL, ← hβ]; exact hM2.bq hR (okj _ (by omega))
              have hdig : 49 ≤ β p ∧ β p ≤ 57 := by
                by_cases z : 49 ≤ β p ∧ β p ≤ 57
                · exact z
                · exact absurd (zrw_bad (L := L) q1 q3 q4 z) (zrun_some hr hpL)
              obtain ⟨⟨s', r1, r2, r3, r4⟩, r5⟩ := zrw_run q1 q3 q4 hpL hdig
              obtain ⟨w1, w2⟩ := zrW_in (L := L) hdig
              obtain ⟨g1, g2⟩ := zrE_in (β := β) hpL
              have mk2 := zrM_le β L (zrF β L p)
              generalize hE : zrE β L (zrF β L p) = E at *
              generalize hW : zrW β L p = wd at *
              generalize hMk : zrM β L (zrF β L p) = mk at *
              have nxt : s.2.1 s0.1 = wd ∧ s.2.2 s0.1 = mk ∧ ((s0.1 + 1 = s.1 + 1 ∧ E + 1 = L + 1) ∨ (s0.1 + 1 ≤ s.1 ∧ E + 1 < L ∧ ∃ s1 : zBS, zrun β (E + 1) = some s1 ∧ s1.1 = s0.1 + 1 ∧ s1.2.1 (s0.1 + 1) = 0 ∧ s1.2.2 (s0.1 + 1) = 0)) := by
                by_cases cE : E = L
                · rw [cE, hr] at r1
                  cases r1
                  exact ⟨r3, r4, Or.inl ⟨by rw [r2], by omega⟩⟩
                · have hEL : E < L := by omega
                  have hc : β E = 44 := by
                    by_cases z : β E = 44
                    · exact z
                    · exact absurd (r5 hEL z) (zrun_some hr hEL)
                  have r6 := zrw_comma r1 (by rw [r2, r3]; omega) hc
                  rw [r2] at r6
                  obtain ⟨k1, k2⟩ := zrun_keep r6 (L - (E + 1)) s (by rw [show E + 1 + (L - (E + 1)) = L by omega]; exact hr)
                  have k1 : s0.1 + 1 ≤ s.1 := k1
                  obtain ⟨k3, k4⟩ := k2 s0.1 (Nat.lt_succ_self s0.1)
                  have k5 : zuf s'.2.1 (s0.1 + 1) 0 s0.1 = s'.2.1 s0.1 := if_neg (by omega)
                  have k6 : zuf s'.2.2 (s0.1 + 1) 0 s0.1 = s'.2.2 s0.1 := if_neg (by omega)
                  refine ⟨k3.trans (k5.trans r3), k4.trans (k6.trans r4), Or.inr ⟨k1, ?_, _, r6, rfl, zuf_eq _ _ _, zuf_eq _ _ _⟩⟩
                  rcases Nat.eq_or_lt_of_le (show E + 1 ≤ L from hEL) with z | z
                  · rw [z, hr] at r6
                    cases r6
                    exact absurd (zuf_eq _ _ _) c0
                  · exact z
              obtain ⟨n1, n2, n3⟩ := nxt
              have ez : zapp S.1 s.2.1 s.2.2 s0.1 80 = S.1 80 + s0.1 := zapp_80 _ _ _ _
              have eins : zIns (zapp S.1 s.2.1 s.2.2 s0.1) (zapp S.1 s.2.1 s.2.2 s0.1 80) wd mk = zapp S.1 s.2.1 s.2.2 (s0.1 + 1) := by
                rw [ez, ← n1, ← n2]; rfl
              refine eX9_load_53 hC ?_
              refine eX9_load_54 hC (Nat.le_of_ble_eq_true rfl) (Nat.le_of_ble_eq_true rfl) (Nat.le_of_ble_eq_true rfl) (by assumption) (vX9_readsYes hC.nt hB2 e11 hpL hdig) (zk_v (fun μ_54 m_54 => ?_))
              obtain ⟨y1, y2, y3, y4⟩ := m_54
              rw [hE] at y1
              rw [hW] at y2
              rw [hMk] at y3
              have hM3 := hM2.f11 y4
              have e80' := hM3.c (k := 80) (by omega) (by omega)
              refine eX9_load_57 hC (fun zz => absurd zz zn10) (fun _ => ?_)
              refine eX9_load_60 hC ?_
              refine eX9_load_61 hC ?_
              refine eX9_load_62 hC (by assumption) (by assumption) ?_
              refine eX9_load_65 hC ?_
              refine eX9_load_67 hC (by assumption) (vp_in_nI (by omega) (by omega)) ?_
              rw [nI_clamp (by omega), e80']
              refine eX9_load_68 hC ?_
              refine eX9_load_69 hC (by assumption) ?_
              rw [y2]
              refine eX9_load_72 hC ?_
              refine eX9_load_73 hC (by assumption) ?_
              rw [y3]
              refine eX9_load_76 hC (Nat.le_of_ble_eq_true rfl) (Nat.le_of_ble_eq_true rfl) (Nat.le_of_ble_eq_true rfl) (by assumption) (vX9_puts hC.nt hR e80' (by show zapp S.1 s.2.1 s.2.2 s0.1 80 < 40; omega) (Nat.le_refl _)) (zk_w (fun μ_76 m_76 => ?_))
              subst m_76
              have hM4 := hM3.puts (w := zapp S.1 s.2.1 s.2.2 s0.1 80) (v1 := wd) (v2 := mk) (okj _ (by omega)) (by show zapp S.1 s.2.1 s.2.2 s0.1 80 < 40; omega) (Nat.le_refl _)
              have far : ∀ j, zpu μ_54 m (zapp S.1 s.2.1 s.2.2 s0.1 80) (zapp S.1 s.2.1 s.2.2 s0.1 80) (nI wd) (nI mk) m j = μ_54 m j := fun j => zpu_far (by omega) (Nat.le_refl _) (Or.inl (by omega))
              refine eX9_load_79 hC ?_
              refine eX9_load_80 hC ?_
              refine eX9_load_81 hC (by assumption) ?_
              rw [show ∀ j, zpu μ_54 m (((zapp S.1 s.2.1 s.2.2 s0.1, (zsv S).2) : zMs).1 80) (((zapp S.1 s.2.1 s.2.2 s0.1, (zsv S).2) : zMs).1 80) (nI wd) (nI mk) m j = μ_54 m j from far, y1]
              refine eX9_load_84 hC ?_
              refine eX9_load_85 hC ?_
              rw [nI_add]
              refine eX9_load_86 hC (by assumption) ?_
              refine eX9_load_89 hC ?_
              refine ih (s0.1 + 1) (E + 1) _ (by omega) n3 (zup_self _ _ _ _) ?_ (fun a j z => ?_) ?_ _
              · have hM4 : zM9 (zpu μ_54 m (zapp S.1 s.2.1 s.2.2 s0.1 80) (zapp S.1 s.2.1 s.2.2 s0.1 80) (nI wd) (nI mk)) m (zIns (zapp S.1 s.2.1 s.2.2 s0.1) (zapp S.1 s.2.1 s.2.2 s0.1 80) wd mk, (zsv S).2) := hM4
                rw [eins] at hM4
                exact hM4.f11u (by omega)
              · rw [zup_a _ _ _ _ (by omega)]
                exact (zpu_far (by show zapp S.1 s.2.1 s.2.2 s0.1 80 < 40; omega) (Nat.le_refl _) (Or.inl (by omega))).trans ((y4 a j (by omega)).trans (ha a j z))
              · rw [zup_k _ _ _ (by omega)]
                exact (far 4).trans ((y4 _ _ (by omega)).trans h4')
        refine eX9_load_0 hC ?_
        refine eX9_load_1 hC (Nat.le_of_ble_eq_true rfl) (Nat.le_of_ble_eq_true rfl) (Nat.le_of_ble_eq_true rfl) (by assumption) (vX9_reads hC.nt hB) (zk_v (fun μ_1 m_1 => ?_))
        obtain ⟨y1, y2⟩ := m_1
        have g1 := hM.f11 y2
        rw [en]
        refine eX9_load_4 hC ?_
        refine eX9_load_5 hC ?_
        refine eX9_load_6 hC ?_
        refine eX9_load_7 hC ?_
        refine eX9_load_8 hC (fun zz => absurd zz (zne_m1 (by omega))) (fun _ => ?_)
        refine eX9_load_11 hC ?_
        refine eX9_load_12 hC ?_
        refine eX9_load_16 hC ?_
        refine eX9_load_17 hC (by assumption) (by assumption) ?_
        refine eX9_load_20 hC ?_
        refine eX9_load_22 hC (by assumption) (vp_in_nI (by omega) (by omega)) ?_
        rw [nI_clamp (by omega), g1.c (k := 80) (by omega) (by omega)]
        refine eX9_load_23 hC ?_
        refine eX9_load_24 hC ?_
        rw [nI_add]
        refine eX9_load_25 hC ?_
        refine eX9_load_27 hC (fun zz => absurd zz (nI_nlt (by omega) (by omega))) (fun _ => ?_)
        refine eX9_load_30 hC ?_
        refine eX9_load_31 hC ?_
        refine eX9_load_35 hC ?_
        refine eX9_load_36 hC (Nat.le_of_ble_eq_true rfl) (Nat.le_of_ble_eq_true rfl) (Nat.le_of_ble_eq_true rfl) (by assumption) (vX9_goV hC.nt h0 (r := 1) (t := 0) rfl rfl (by omega) (by omega) (by omega)) (zk_v (fun μ_36 m_36 => ?_))
        subst m_36
        refine eX9_load_39 hC (fun _ => ?_) (fun zz => absurd zz zn10)
        refine eX9_load_44 hC ?_
        refine eX9_load_45 hC (Nat.le_of_ble_eq_true rfl) (Nat.le_of_ble_eq_true rfl) (Nat.le_of_ble_eq_true rfl) (by assumption) (vX9_saves hC.nt hR g1.up4 ho) (zk_w (fun μ_45 m_45 => ?_))
        refine eX9_load_48 hC ?_
        refine eX9_load_49 hC ?_
        refine eX9_load_50 hC (by assumption) ?_
        obtain ⟨b1, b2⟩ := m_45
        have hL0 : 0 < L := by
          rcases Nat.eq_zero_or_pos L with z | z
          · rw [z] at hr
            cases hr
            exact absurd rfl c0
          · exact z
        refine loop (L + 1) 0 0 _ (by omega) (Or.inr ⟨Nat.zero_le _, hL0, _, rfl, rfl, rfl, rfl⟩) (zup_self _ _ _ _) (b1.f11u (by omega)) (fun a j z => ?_) ?_ _
        · rw [zup_a _ _ _ _ (by omega), b2 a j (by omega) (by omega), zup_a _ _ _ _ (by omega)]
          exact y2 a j (by omega)
        · rw [zup_k _ _ _ (by omega), b2 m 4 (by omega) (by omega), zup_self]
set_option maxHeartbeats 16000000 in
theorem vX9_digest {l : Launch} {g : zG} (hl : l.stackTraces = false) {K : zK} {μ : zF} {m : Nat} {S : zMs} (hR : zRef K m) (hM : zM9 μ m S) (ho : zMok S) : EX9_digest l g 0 0 [.ref m] K μ (fun v K' μ' => v = some (.long (zdo_digest S)) ∧ K' = K ∧ zAg μ μ' m (m + 9) ∧ zM9 μ' m S) := by
  obtain ⟨h0, h1, h2, h3, h4, h5, h6, h7, h8, i1, i2, i3, i4, i5, i6, i7, i8⟩ := id hR
  obtain ⟨a1, a2, a3, a4, a5, a6⟩ := id hM
  have o80 := ho.1.1
  have e80 : μ (m + 1) 80 = nI (S.1 80) := by have := a1.2 80 (by omega) (by omega); rwa [Nat.zero_add] at this
  have hzm := (zm_is S.1 (S.1 87)).1
  refine nX9_digest hl (fun x hC hQ => ?_)
  have loop2 : ∀ (μ1 : zF), zM9 μ1 m S → zNw μ1 m S.1 (S.1 87) → (∀ j, j < zm S.1 (S.1 87) → μ1 (m + 8) j = nI (zpo S.1 (S.1 87) j)) → zAg μ μ1 m (m + 9) → ∀ (l3 l4 l5 : Option Value) (d k : Nat), k + d = zm S.1 (S.1 87) → zV x 0 0 216 [some (.ref m), some (.long (zdl S k)), none, l3, l4, l5, some (.int (nI (zm S.1 (S.1 87)))), some (.int (nI k))] [] K μ1 := by
    intro μ1 M1 N1 T1 A1 l3 l4 l5 d
    induction d with
    | zero =>
      intro k hk
      obtain rfl : k = zm S.1 (S.1 87) := by omega
      refine eX9_digest_216 hC ?_
      refine eX9_digest_218 hC ?_
      refine eX9_digest_220 hC (fun _ => ?_) (fun zz => absurd (nI_le (Nat.le_refl _) (by omega)) zz)
      refine eX9_digest_270 hC ?_
      refine eX9_digest_271 hC hQ (Nat.le_of_ble_eq_true rfl) (Nat.le_of_ble_eq_true rfl) ?_
      exact ⟨rfl, rfl, A1, M1⟩
    | succ d ih =>
      intro k hk
      have hkm : k < zm S.1 (S.1 87) := by omega
      refine eX9_digest_216 hC ?_
      refine eX9_digest_218 hC ?_
      refine eX9_digest_220 hC (fun zz => absurd zz (nI_ge hkm (by omega))) (fun _ => ?_)
      refine eX9_digest_223 hC ?_
      refine eX9_digest_226 hC ?_
      refine eX9_digest_227 hC ?_
      refine eX9_digest_228 hC ?_
      refine eX9_digest_229 hC ?_
      refine eX9_digest_230 hC ?_
      refine eX9_digest_232 hC (Nat.le_of_ble_eq_true rfl) (Nat.le_of_ble_eq_true rfl) (Nat.le_of_ble_eq_true rfl) (by assumption) (vX9_first hC.nt hR ho.1 N1 (by omega)) (zk_i ?_)
      refine eX9_digest_235 hC ?_
      refine eX9_digest_236 hC ?_
      refine eX9_digest_238 hC ?_
      refine eX9_digest_239 hC ?_
      rw [nI_add]
      refine eX9_digest_240 hC (Nat.le_of_ble_eq_true rfl) (Nat.le_of_ble_eq_true rfl) (Nat.le_of_ble_eq_true rfl) (by assumption) (vX9_first hC.nt hR ho.1 N1 (by omega)) (zk_i ?_)
      refine eX9_digest_243 hC (Nat.le_of_ble_eq_true rfl) (Nat.le_of_ble_eq_true rfl) (Nat.le_of_ble_eq_true rfl) (by assumption) (vX9_width hC.nt hR M1.x N1.1 ho.1 (zL_lt (zm_iff.mp hkm)) (zL_le _ _ _)) (zk_i ?_)
      refine eX9_digest_246 hC ?_
      refine eX9_digest_247 hC ?_
      refine eX9_digest_248 hC ?_
      refine eX9_digest_249 hC ?_
      refine eX9_digest_252 hC ?_
      refine eX9_digest_253 hC ?_
      refine eX9_digest_254 hC ?_
      refine eX9_digest_255 hC (by assumption) (by assumption) ?_
      refine eX9_digest_258 hC ?_
      refine eX9_digest_260 hC (by assumption) (vp_in_nI (by omega) (by omega)) ?_
      rw [nI_clamp (by omega), T1 k hkm]
      refine eX9_digest_261 hC ?_
      refine eX9_digest_262 hC ?_
      refine eX9_digest_263 hC ?_
      refine eX9_digest_264 hC ?_
      rw [nI_add]
      refine eX9_digest_267 hC ?_
      exact ih (k + 1) (by omega)
  have loop1 : ∀ (μ1 : zF), zM9 μ1 m S → zNw μ1 m S.1 (S.1 87) → (∀ j, j < zm S.1 (S.1 87) → μ1 (m + 8) j = nI (zpo S.1 (S.1 87) j)) → zAg μ μ1 m (m + 9) → ∀ (l3 l4 l5 : Option Value) (d k : Nat), k + d = S.1 80 → zV x 0 0 134 [some (.ref m), some (.long (zdw S k)), none, l3, l4, l5, some (.int (nI (zm S.1 (S.1 87)))), some (.int (nI k))] [] K μ1 := by
    intro μ1 M1 N1 T1 A1 l3 l4 l5 d
    have e80' := M1.c (k := 80) (by omega) (by omega)
    induction d with
    | zero =>
      intro k hk
      obtain rfl : k = S.1 80 := by omega
      refine eX9_digest_134 hC ?_
      refine eX9_digest_136 hC ?_
      refine eX9_digest_137 hC (by assumption) (by assumption) ?_
      refine eX9_digest_140 hC ?_
      refine eX9_digest_142 hC (by assumption) (vp_in_nI (by omega) (by omega)) ?_
      rw [nI_clamp (by omega), e80']
      refine eX9_digest_143 hC (fun _ => ?_) (fun zz => absurd (nI_le (Nat.le_refl _) (by omega)) zz)
      refine eX9_digest_213 hC ?_
      refine eX9_digest_214 hC ?_
      exact loop2 μ1 M1 N1 T1 A1 l3 l4 l5 (zm S.1 (S.1 87)) 0 (by omega)
    | succ d ih =>
      intro k hk
      have hkn : k < S.1 80 := by omega
      refine eX9_digest_134 hC ?_
      refine eX9_digest_136 hC ?_
      refine eX9_digest_137 hC (by assumption) (by assumption) ?_
      refine eX9_digest_140 hC ?_
      refine eX9_digest_142 hC (by assumption) (vp_in_nI (by omega) (by omega)) ?_
      rw [nI_clamp (by omega), e80']
      refine eX9_digest_143 hC (fun zz => absurd zz (nI_ge hkn (by omega))) (fun _ => ?_)
      refine eX9_digest_146 hC ?_
      refine eX9_digest_149 hC ?_
      refine eX9_digest_150 hC ?_
      refine eX9_digest_151 hC ?_
      refine eX9_digest_152 hC (by assumption) (by assumption) ?_
      refine eX9_digest_155 hC ?_
      refine eX9_digest_157 hC (by assumption) (vp_in_nI (by omega) (by omega)) ?_
      rw [nI_clamp (by omega), (M1.x.1 k hkn).1]
      refine eX9_digest_158 hC ?_
      refine eX9_digest_159 hC ?_
      refine eX9_digest_160 hC ?_
      refine eX9_digest_161 hC ?_
      refine eX9_digest_164 hC ?_
      refine eX9_digest_165 hC ?_
      refine eX9_digest_166 hC ?_
      refine eX9_digest_167 hC (by assumption) (by assumption) ?_
      refine eX9_digest_170 hC ?_
      refine eX9_digest_172 hC ?_
      refine eX9_digest_174 hC ?_
      rw [nI_add]
      refine eX9_digest_175 hC (by assumption) (vp_in_nI (by omega) (by omega)) ?_
      rw [nI_clamp (by omega), (M1.x.1 k hkn).2]
      refine eX9_digest_176 hC ?_
      refine eX9_digest_177 hC ?_
      refine eX9_digest_178 hC ?_
      refine eX9_digest_179 hC ?_
      refine eX9_digest_182 hC ?_
      refine eX9_digest_183 hC ?_
      refine eX9_digest_184 hC ?_
      refine eX9_digest_185 hC ?_
      refine eX9_digest_187 hC (Nat.le_of_ble_eq_true rfl) (Nat.le_of_ble_eq_true rfl) (Nat.le_of_ble_eq_true rfl) (by assumption) (vX9_lineAt hC.nt hR ho.1 N1 hkn) (zk_i ?_)
      refine eX9_digest_190 hC ?_
      refine eX9_digest_191 hC ?_
      refine eX9_digest_192 hC ?_
      refine eX9_digest_193 hC ?_
      refine eX9_digest_196 hC ?_
      refine eX9_digest_197 hC ?_
      refine eX9_digest_198 hC ?_
      refine eX9_digest_199 hC ?_
      refine eX9_digest_201 hC (Nat.le_of_ble_eq_true rfl) (Nat.le_of_ble_eq_true rfl) (Nat.le_of_ble_eq_true rfl) (by assumption) (vX9_reasonOf hC.nt hR M1.x (M1.c (by omega) (by omega)) ho.1 N1 hkn) (zk_i ?_)
      refine eX9_digest_204 hC ?_
      refine eX9_digest_205 hC ?_
      refine eX9_digest_206 hC ?_
      refine eX9_digest_207 hC ?_
      rw [nI_add]
      refine eX9_digest_210 hC ?_
      exact ih (k + 1) (by omega)
  refine eX9_digest_0 hC ?_
  refine eX9_digest_3 hC ?_
  refine eX9_digest_4 hC ?_
  refine eX9_digest_5 hC (Nat.le_of_ble_eq_true rfl) (Nat.le_of_ble_eq_true rfl) (Nat.le_of_ble_eq_true rfl) (by assumption) (vX9_saving0 hC.nt hR hM ho) (zk_v (fun μ_5 m_5 => ?_))
  obtain ⟨s1, s2, s3⟩ := m_5
  refine eX9_digest_8 hC ?_
  refine eX9_digest_9 hC ?_
  refine eX9_digest_10 hC (Nat.le_of_ble_eq_true rfl) (Nat.le_of_ble_eq_true rfl) (Nat.le_of_ble_eq_true rfl) (by assumption) (vX9_now hC.nt hR s1 ho) (zk_v (fun μ_10 m_10 => ?_))
  obtain ⟨n1, n2, n3⟩ := m_10
  refine eX9_digest_13 hC ?_
  refine eX9_digest_15 hC ?_
  refine eX9_digest_16 hC (Nat.le_of_ble_eq_true rfl) (Nat.le_of_ble_eq_true rfl) (Nat.le_of_ble_eq_true rfl) (by assumption) (vX9_turns hC.nt hR n2.x ho.1 n1) (zk_v (fun μ_16 m_16 => ?_))
  obtain ⟨t1, t2⟩ := m_16
  have M1 := n2.t8 t2
  have N1 := n1.eq (μ' := μ_16) (fun j => t2 _ _ (by omega)) (fun j => t2 _ _ (by omega))
  have A1 := (s2.trans (zagnw n3)).trans (zag8 t2)
  refine eX9_digest_19 hC ?_
  refine eX9_digest_21 hC ?_
  refine eX9_digest_22 hC (Nat.le_of_ble_eq_true rfl) (Nat.le_of_ble_eq_true rfl) (Nat.le_of_ble_eq_true rfl) (by assumption) (vX9_manyLines hC.nt hR M1.x ho.1 N1) (zk_i ?_)
  refine eX9_digest_25 hC ?_
  refine eX9_digest_27 hC ?_
  refine eX9_digest_30 hC ?_
  refine eX9_digest_31 hC ?_
  refine eX9_digest_32 hC ?_
  refine eX9_digest_33 hC (by assumption) (by assumption) ?_
  refine eX9_digest_36 hC ?_
  refine eX9_digest_38 hC (by assumption) (vp_in_nI (by omega) (by omega)) ?_
  rw [nI_clamp (by omega), M1.c (k := 80) (by omega) (by omega)]
  refine eX9_digest_39 hC ?_
  refine eX9_digest_40 hC ?_
  refine eX9_digest_41 hC ?_
  refine eX9_digest_42 hC ?_
  refine eX9_digest_45 hC ?_
  refine eX9_digest_46 hC ?_
  refine eX9_digest_47 hC ?_
  refine eX9_digest_49 hC ?_
  refine eX9_digest_50 hC ?_
  refine eX9_digest_51 hC ?_
  refine eX9_digest_52 hC ?_
  refine eX9_digest_55 hC ?_
  refine eX9_digest_56 hC ?_
  refine eX9_digest_57 hC ?_
  refine eX9_digest_58 hC (Nat.le_of_ble_eq_true rfl) (Nat.le_of_ble_eq_true rfl) (Nat.le_of_ble_eq_true rfl) (by assumption) (vX9_manyParagraphs hC.nt hR M1.x ho.1) (zk_i ?_)
  refine eX9_digest_61 hC ?_
  refine eX9_digest_62 hC ?_
  refine eX9_digest_63 hC ?_
  refine eX9_digest_64 hC ?_
  refine eX9_digest_67 hC ?_
  refine eX9_digest_68 hC ?_
  refine eX9_digest_69 hC ?_
  refine eX9_digest_70 hC (Nat.le_of_ble_eq_true rfl) (Nat.le_of_ble_eq_true rfl) (Nat.le_of_ble_eq_true rfl) (by assumption) (vX9_manyStairs hC.nt hR M1.x ho.1 N1) (zk_i ?_)
  refine eX9_digest_73 hC ?_
  refine eX9_digest_74 hC ?_
  refine eX9_digest_75 hC ?_
  refine eX9_digest_76 hC ?_
  refine eX9_digest_79 hC ?_
  refine eX9_digest_80 hC ?_
  refine eX9_digest_81 hC ?_
  refine eX9_digest_83 hC ?_
  refine eX9_digest_84 hC ?_
  refine eX9_digest_85 hC ?_
  refine eX9_digest_86 hC ?_
  refine eX9_digest_89 hC ?_
  refine eX9_digest_90 hC ?_
  refine eX9_digest_91 hC ?_
  refine eX9_digest_93 hC ?_
  refine eX9_digest_94 hC ?_
  refine eX9_digest_95 hC ?_
  refine eX9_digest_96 hC ?_
  refine eX9_digest_99 hC ?_
  refine eX9_digest_100 hC ?_
  refine eX9_digest_101 hC ?_
  refine eX9_digest_102 hC ?_
  refine eX9_digest_103 hC (Nat.le_of_ble_eq_true rfl) (Nat.le_of_ble_eq_true rfl) (Nat.le_of_ble_eq_true rfl) (by assumption) (vX9_badW hC.nt hR M1.x ho.1 N1 t1) (zk_i ?_)
  refine eX9_digest_106 hC ?_
  refine eX9_digest_107 hC ?_
  refine eX9_digest_108 hC ?_
  refine eX9_digest_109 hC ?_
  refine eX9_digest_112 hC ?_
  refine eX9_digest_113 hC ?_
  refine eX9_digest_114 hC ?_
  refine eX9_digest_115 hC ?_
  refine eX9_digest_116 hC (Nat.le_of_ble_eq_true rfl) (Nat.le_of_ble_eq_true rfl) (Nat.le_of_ble_eq_true rfl) (by assumption) (vX9_badO hC.nt hR M1.x ho.1 N1 t1) (zk_i ?_)
  refine eX9_digest_119 hC ?_
  refine eX9_digest_120 hC ?_
  refine eX9_digest_121 hC ?_
  refine eX9_digest_122 hC ?_
  refine eX9_digest_125 hC ?_
  refine eX9_digest_126 hC ?_
  refine eX9_digest_127 hC ?_
  refine eX9_digest_128 hC ?_
  refine eX9_digest_129 hC ?_
  refine eX9_digest_130 hC ?_
  refine eX9_digest_131 hC ?_
  refine eX9_digest_132 hC ?_
  exact loop1 μ_16 M1 N1 t1 A1 _ _ _ (S.1 80) 0 (by omega)
