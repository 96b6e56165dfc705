/-! ===== the buffer ===== -/
set_option maxHeartbeats 4000000 in
theorem vX0_beginWord {l : Launch} {g : zG} (hl : l.stackTraces = false) {K : zK} {μ : zF} {b k : Nat} (h : zBuf K b) (hk : k < 60) : EX0_beginWord l g 0 0 [.ref b, .int (nI k)] K μ (zPw K (fun μ' => zBfr μ μ' b ∧ μ' b 4 = nI k ∧ μ' (b + 4) k = nI 0 ∧ μ' (b + 6) k = nI 0 ∧ ∀ q, q ≠ k → μ' (b + 4) q = μ (b + 4) q ∧ μ' (b + 6) q = μ (b + 6) q)) := by
  obtain ⟨h0, h1, h2, h3, h4, h5, h6⟩ := h
  refine nX0_beginWord hl (fun x hC hQ => ?_)
  refine eX0_beginWord_0 hC ?_
  refine eX0_beginWord_1 hC ?_
  refine eX0_beginWord_2 hC (by assumption) ?_
  refine eX0_beginWord_5 hC ?_
  refine eX0_beginWord_6 hC (by assumption) (by assumption) ?_
  refine eX0_beginWord_9 hC ?_
  refine eX0_beginWord_10 hC ?_
  refine eX0_beginWord_11 hC (Nat.le_of_ble_eq_true rfl) (Nat.le_of_ble_eq_true rfl) (Nat.le_of_ble_eq_true rfl) (by first | assumption | exact zRow.o (by assumption)) (vX6_put hC.nt h5) (zk_w (fun μ_11 m_11 => ?_))
  refine eX0_beginWord_14 hC ?_
  refine eX0_beginWord_15 hC (by assumption) (by assumption) ?_
  refine eX0_beginWord_18 hC ?_
  refine eX0_beginWord_19 hC ?_
  refine eX0_beginWord_20 hC (Nat.le_of_ble_eq_true rfl) (Nat.le_of_ble_eq_true rfl) (Nat.le_of_ble_eq_true rfl) (by first | assumption | exact zRow.o (by assumption)) (vX6_put hC.nt h6) (zk_w (fun μ_20 m_20 => ?_))
  refine eX0_beginWord_23 hC hQ (Nat.le_of_ble_eq_true rfl) (Nat.le_of_ble_eq_true rfl) ?_
  rw [zpt_in hk (by omega)] at m_11
  subst m_11
  rw [zpt_in hk (by omega)] at m_20
  subst m_20
  refine ⟨rfl, rfl, fun a j q1 q2 q3 => ?_, ?_, ?_, ?_, fun q hq => ⟨?_, ?_⟩⟩
  · rw [zup_a _ _ _ _ (show a ≠ b + 5 + 1 by omega), zup_a _ _ _ _ (show a ≠ b + 3 + 1 by omega)]
    simp only [zup]; rw [if_neg q1]
  · rw [zup_a _ _ _ _ (by omega), zup_a _ _ _ _ (by omega), zup_self]
  · rw [zup_a _ _ _ _ (by omega), show b + 4 = b + 3 + 1 by omega, zup_self]
  · rw [show b + 6 = b + 5 + 1 by omega, zup_self]
  · rw [zup_a _ _ _ _ (by omega), show b + 4 = b + 3 + 1 by omega, zup_k _ _ _ hq, zup_a _ _ _ _ (by omega)]
  · rw [show b + 6 = b + 5 + 1 by omega, zup_k _ _ _ hq, zup_a _ _ _ _ (by omega), zup_a _ _ _ _ (by omega)]
set_option maxHeartbeats 4000000 in
theorem vX0_endsInWord {l : Launch} {g : zG} (hl : l.stackTraces = false) {K : zK} {μ : zF} {b : Nat} {s : zBS} (h : zBuf K b) (hs : zBst μ b s) (hk : s.1 < 60) (hw : s.2.1 s.1 ≤ 30) : EX0_endsInWord l g 0 0 [.ref b] K μ (zPi (zBv (s.2.1 s.1 ≠ 0)) K μ) := by
  obtain ⟨h0, h1, h2, h3, h4, h5, h6⟩ := h
  obtain ⟨s1, s2⟩ := hs
  have e1 : zrd 60 (μ (b + 3 + 1)) (nI s.1) = nI (s.2.1 s.1) := by rw [zrd_in hk (by omega)]; exact (s2 _ (Nat.le_refl _)).1
  refine nX0_endsInWord hl (fun x hC hQ => ?_)
  by_cases c : s.2.1 s.1 = 0
  · refine eX0_endsInWord_0 hC ?_
    refine eX0_endsInWord_1 hC (by assumption) (by assumption) ?_
    refine eX0_endsInWord_4 hC ?_
    refine eX0_endsInWord_5 hC (by assumption) ?_
    rw [s1]
    refine eX0_endsInWord_8 hC (Nat.le_of_ble_eq_true rfl) (Nat.le_of_ble_eq_true rfl) (Nat.le_of_ble_eq_true rfl) (by first | assumption | exact zRow.o (by assumption)) (vX6_at hC.nt h5) (zk_i ?_)
    rw [e1, c]
    refine eX0_endsInWord_11 hC (fun _ => ?_) (fun zz => absurd (by decide) zz)
    refine eX0_endsInWord_18 hC ?_
    refine eX0_endsInWord_19 hC hQ (Nat.le_of_ble_eq_true rfl) (Nat.le_of_ble_eq_true rfl) (Or.inl rfl) ?_
    rw [zBv_f (p := s.2.1 s.1 ≠ 0) (fun q => q c)]
    exact ⟨rfl, rfl, rfl⟩
  · refine eX0_endsInWord_0 hC ?_
    refine eX0_endsInWord_1 hC (by assumption) (by assumption) ?_
    refine eX0_endsInWord_4 hC ?_
    refine eX0_endsInWord_5 hC (by assumption) ?_
    rw [s1]
    refine eX0_endsInWord_8 hC (Nat.le_of_ble_eq_true rfl) (Nat.le_of_ble_eq_true rfl) (Nat.le_of_ble_eq_true rfl) (by first | assumption | exact zRow.o (by assumption)) (vX6_at hC.nt h5) (zk_i ?_)
    rw [e1]
    refine eX0_endsInWord_11 hC (fun zz => absurd zz (nI_nle (by omega) (by omega))) (fun _ => ?_)
    refine eX0_endsInWord_14 hC ?_
    refine eX0_endsInWord_15 hC ?_
    refine eX0_endsInWord_19 hC hQ (Nat.le_of_ble_eq_true rfl) (Nat.le_of_ble_eq_true rfl) (Or.inr rfl) ?_
    rw [zBv_t (p := s.2.1 s.1 ≠ 0) c]
    exact ⟨rfl, rfl, rfl⟩
set_option maxHeartbeats 4000000 in
theorem vX0_takeMark {l : Launch} {g : zG} (hl : l.stackTraces = false) {K : zK} {μ : zF} {b v : Nat} {s : zBS} (h : zBuf K b) (hs : zBst μ b s) (hk : s.1 < 60) (hm : s.2.2 s.1 ≤ 2) : EX0_takeMark l g 0 0 [.ref b, .int (nI v)] K μ (zPv (zBv (s.2.2 s.1 = 0)) K (fun μ' => zBfr μ μ' b ∧ (s.2.2 s.1 = 0 → zBst μ' b (s.1, s.2.1, zuf s.2.2 s.1 v)))) := by
  obtain ⟨h0, h1, h2, h3, h4, h5, h6⟩ := h
  obtain ⟨s1, s2⟩ := hs
  have e1 : zrd 60 (μ (b + 5 + 1)) (nI s.1) = nI (s.2.2 s.1) := by rw [zrd_in hk (by omega)]; exact (s2 _ (Nat.le_refl _)).2
  refine nX0_takeMark hl (fun x hC hQ => ?_)
  by_cases c : s.2.2 s.1 = 0
  · refine eX0_takeMark_0 hC ?_
    refine eX0_takeMark_1 hC (by assumption) (by assumption) ?_
    refine eX0_takeMark_4 hC ?_
    refine eX0_takeMark_5 hC (by assumption) ?_
    rw [s1]
    refine eX0_takeMark_8 hC (Nat.le_of_ble_eq_true rfl) (Nat.le_of_ble_eq_true rfl) (Nat.le_of_ble_eq_true rfl) (by first | assumption | exact zRow.o (by assumption)) (vX6_at hC.nt h6) (zk_i ?_)
    rw [e1, c]
    refine eX0_takeMark_11 hC (fun _ => ?_) (fun zz => absurd zn00 zz)
    refine eX0_takeMark_16 hC ?_
    refine eX0_takeMark_17 hC (by assumption) (by assumption) ?_
    refine eX0_takeMark_20 hC ?_
    refine eX0_takeMark_21 hC (by assumption) ?_
    refine eX0_takeMark_24 hC ?_
    rw [s1]
    refine eX0_takeMark_25 hC (Nat.le_of_ble_eq_true rfl) (Nat.le_of_ble_eq_true rfl) (Nat.le_of_ble_eq_true rfl) (by first | assumption | exact zRow.o (by assumption)) (vX6_put hC.nt h6) (zk_w (fun μ_25 m_25 => ?_))
    refine eX0_takeMark_28 hC ?_
    refine eX0_takeMark_29 hC hQ (Nat.le_of_ble_eq_true rfl) (Nat.le_of_ble_eq_true rfl) (Or.inr rfl) ?_
    rw [zpt_in hk (by omega)] at m_25
    subst m_25
    refine ⟨by rw [zBv_t c], rfl, fun a j q1 q2 q3 => zup_a _ _ _ _ (by omega), fun _ => ⟨?_, fun q hq => ⟨?_, ?_⟩⟩⟩
    · rw [zup_a _ _ _ _ (by omega)]; exact s1
    · rw [zup_a _ _ _ _ (by omega)]; exact (s2 q hq).1
    · simp only [zuf]
      by_cases cq : q = s.1
      · subst cq
        rw [if_pos rfl, show b + 6 = b + 5 + 1 by omega, zup_self]
      · rw [if_neg cq, show b + 6 = b + 5 + 1 by omega, zup_k _ _ _ cq]; exact (s2 q hq).2
  · refine eX0_takeMark_0 hC ?_
    refine eX0_takeMark_1 hC (by assumption) (by assumption) ?_
    refine eX0_takeMark_4 hC ?_
    refine eX0_takeMark_5 hC (by assumption) ?_
    rw [s1]
    refine eX0_takeMark_8 hC (Nat.le_of_ble_eq_true rfl) (Nat.le_of_ble_eq_true rfl) (Nat.le_of_ble_eq_true rfl) (by first | assumption | exact zRow.o (by assumption)) (vX6_at hC.nt h6) (zk_i ?_)
    rw [e1]
    refine eX0_takeMark_11 hC (fun zz => absurd zz (nI_ne0 (by omega) (by omega))) (fun _ => ?_)
    refine eX0_takeMark_14 hC ?_
    refine eX0_takeMark_15 hC hQ (Nat.le_of_ble_eq_true rfl) (Nat.le_of_ble_eq_true rfl) (Or.inl rfl) ?_
    exact ⟨by rw [zBv_f c], rfl, zBfr.refl _ _, fun q => absurd q c⟩
set_option maxHeartbeats 4000000 in
theorem vX0_takeDigit {l : Launch} {g : zG} (hl : l.stackTraces = false) {K : zK} {μ : zF} {b d : Nat} {s : zBS} (h : zBuf K b) (hs : zBst μ b s) (hk : s.1 < 60) (hw : s.2.1 s.1 ≤ 30) (hm : s.2.2 s.1 ≤ 2) (hd : d ≤ 9) : EX0_takeDigit l g 0 0 [.ref b, .int (nI d)] K μ (zPv (zBv (s.2.2 s.1 = 0 ∧ 1 ≤ 10 * s.2.1 s.1 + d ∧ 10 * s.2.1 s.1 + d ≤ 30)) K (fun μ' => zBfr μ μ' b ∧ (s.2.2 s.1 = 0 ∧ 1 ≤ 10 * s.2.1 s.1 + d ∧ 10 * s.2.1 s.1 + d ≤ 30 → zBst μ' b (s.1, zuf s.2.1 s.1 (10 * s.2.1 s.1 + d), s.2.2)))) := by
  obtain ⟨h0, h1, h2, h3, h4, h5, h6⟩ := h
  obtain ⟨s1, s2⟩ := hs
  have e1 : zrd 60 (μ (b + 5 + 1)) (nI s.1) = nI (s.2.2 s.1) := by rw [zrd_in hk (by omega)]; exact (s2 _ (Nat.le_refl _)).2
  have e2 : zrd 60 (μ (b + 3 + 1)) (nI s.1) = nI (s.2.1 s.1) := by rw [zrd_in hk (by omega)]; exact (s2 _ (Nat.le_refl _)).1
  refine nX0_takeDigit hl (fun x hC hQ => ?_)
  by_cases c1 : s.2.2 s.1 = 0
  · by_cases c2 : 1 ≤ 10 * s.2.1 s.1 + d
    · by_cases c3 : 10 * s.2.1 s.1 + d ≤ 30
      · refine eX0_takeDigit_0 hC ?_
        refine eX0_takeDigit_2 hC ?_
        refine eX0_takeDigit_3 hC (by assumption) (by assumption) ?_
        refine eX0_takeDigit_6 hC ?_
        refine eX0_takeDigit_7 hC (by assumption) ?_
        rw [s1]
        refine eX0_takeDigit_10 hC (Nat.le_of_ble_eq_true rfl) (Nat.le_of_ble_eq_true rfl) (Nat.le_of_ble_eq_true rfl) (by first | assumption | exact zRow.o (by assumption)) (vX6_at hC.nt h5) (zk_i ?_)
        rw [e2]
        refine eX0_takeDigit_13 hC ?_
        rw [pk_mul]
        refine eX0_takeDigit_14 hC ?_
        refine eX0_takeDigit_15 hC ?_
        rw [nI_add]
        refine eX0_takeDigit_16 hC ?_
        refine eX0_takeDigit_17 hC ?_
        refine eX0_takeDigit_18 hC (by assumption) (by assumption) ?_
        refine eX0_takeDigit_21 hC ?_
        refine eX0_takeDigit_22 hC (by assumption) ?_
        rw [s1]
        refine eX0_takeDigit_25 hC (Nat.le_of_ble_eq_true rfl) (Nat.le_of_ble_eq_true rfl) (Nat.le_of_ble_eq_true rfl) (by first | assumption | exact zRow.o (by assumption)) (vX6_at hC.nt h6) (zk_i ?_)
        rw [e1, c1]
        refine eX0_takeDigit_28 hC (fun zz => absurd zn00 zz) (fun _ => ?_)
        refine eX0_takeDigit_31 hC ?_
        refine eX0_takeDigit_32 hC ?_
        refine eX0_takeDigit_33 hC (fun zz => absurd zz (nI_nlt c2 (by omega))) (fun _ => ?_)
        refine eX0_takeDigit_36 hC ?_
        refine eX0_takeDigit_37 hC ?_
        refine eX0_takeDigit_39 hC (fun _ => ?_) (fun zz => absurd (nI_le c3 (by omega)) zz)
        refine eX0_takeDigit_44 hC ?_
        refine eX0_takeDigit_45 hC (by assumption) (by assumption) ?_
        refine eX0_takeDigit_48 hC ?_
        refine eX0_takeDigit_49 hC (by assumption) ?_
        refine eX0_takeDigit_52 hC ?_
        rw [s1]
        refine eX0_takeDigit_53 hC (Nat.le_of_ble_eq_true rfl) (Nat.le_of_ble_eq_true rfl) (Nat.le_of_ble_eq_true rfl) (by first | assumption | exact zRow.o (by assumption)) (vX6_put hC.nt h5) (zk_w (fun μ_53 m_53 => ?_))
        refine eX0_takeDigit_56 hC ?_
        refine eX0_takeDigit_57 hC hQ (Nat.le_of_ble_eq_true rfl) (Nat.le_of_ble_eq_true rfl) (Or.inr rfl) ?_
        rw [zpt_in hk (by omega)] at m_53
        subst m_53
        refine ⟨by rw [zBv_t ⟨c1, c2, c3⟩], rfl, fun a j q1 q2 q3 => zup_a _ _ _ _ (by omega), fun _ => ⟨?_, fun q hq => ⟨?_, ?_⟩⟩⟩
        · rw [zup_a _ _ _ _ (by omega)]; exact s1
        · simp only [zuf]
          by_cases cq : q = s.1
          · subst cq
            rw [if_pos rfl, show b + 4 = b + 3 + 1 by omega, zup_self]
          · rw [if_neg cq, show b + 4 = b + 3 + 1 by omega, zup_k _ _ _ cq]; exact (s2 q hq).1
        · rw [zup_a _ _ _ _ (by omega)]; exact (s2 q hq).2
      · refine eX0_takeDigit_0 hC ?_
        refine eX0_takeDigit_2 hC ?_
        refine eX0_takeDigit_3 hC (by assumption) (by assumption) ?_
        refine eX0_takeDigit_6 hC ?_
        refine eX0_takeDigit_7 hC (by assumption) ?_
        rw [s1]
        refine eX0_takeDigit_10 hC (Nat.le_of_ble_eq_true rfl) (Nat.le_of_ble_eq_true rfl) (Nat.le_of_ble_eq_true rfl) (by first | assumption | exact zRow.o (by assumption)) (vX6_at hC.nt h5) (zk_i ?_)
        rw [e2]
        refine eX0_takeDigit_13 hC ?_
        rw [pk_mul]
        refine eX0_takeDigit_14 hC ?_
        refine eX0_takeDigit_15 hC ?_
        rw [nI_add]
        refine eX0_takeDigit_16 hC ?_
        refine eX0_takeDigit_17 hC ?_
        refine eX0_takeDigit_18 hC (by assumption) (by assumption) ?_
        refine eX0_takeDigit_21 hC ?_
        refine eX0_takeDigit_22 hC (by assumption) ?_
        rw [s1]
        refine eX0_takeDigit_25 hC (Nat.le_of_ble_eq_true rfl) (Nat.le_of_ble_eq_true rfl) (Nat.le_of_ble_eq_true rfl) (by first | assumption | exact zRow.o (by assumption)) (vX6_at hC.nt h6) (zk_i ?_)
        rw [e1, c1]
        refine eX0_takeDigit_28 hC (fun zz => absurd zn00 zz) (fun _ => ?_)
        refine eX0_takeDigit_31 hC ?_
        refine eX0_takeDigit_32 hC ?_
        refine eX0_takeDigit_33 hC (fun zz => absurd zz (nI_nlt c2 (by omega))) (fun _ => ?_)
        refine eX0_takeDigit_36 hC ?_
        refine eX0_takeDigit_37 hC ?_
        refine eX0_takeDigit_39 hC (fun zz => absurd zz (nI_ge (by omega) (by omega))) (fun _ => ?_)
        refine eX0_takeDigit_42 hC ?_
        refine eX0_takeDigit_43 hC hQ (Nat.le_of_ble_eq_true rfl) (Nat.le_of_ble_eq_true rfl) (Or.inl rfl) ?_
        exact ⟨by rw [zBv_f (fun q => c3 q.2.2)], rfl, zBfr.refl _ _, fun q => absurd q.2.2 c3⟩
    · refine eX0_takeDigit_0 hC ?_
      refine eX0_takeDigit_2 hC ?_
      refine eX0_takeDigit_3 hC (by assumption) (by assumption) ?_
      refine eX0_takeDigit_6 hC ?_
      refine eX0_takeDigit_7 hC (by assumption) ?_
      rw [s1]
      refine eX0_takeDigit_10 hC (Nat.le_of_ble_eq_true rfl) (Nat.le_of_ble_eq_true rfl) (Nat.le_of_ble_eq_true rfl) (by first | assumption | exact zRow.o (by assumption)) (vX6_at hC.nt h5) (zk_i ?_)
      rw [e2]
      refine eX0_takeDigit_13 hC ?_
      rw [pk_mul]
      refine eX0_takeDigit_14 hC ?_
      refine eX0_takeDigit_15 hC ?_
      rw [nI_add]
      refine eX0_takeDigit_16 hC ?_
      refine eX0_takeDigit_17 hC ?_
      refine eX0_takeDigit_18 hC (by assumption) (by assumption) ?_
      refine eX0_takeDigit_21 hC ?_
      refine eX0_takeDigit_22 hC (by assumption) ?_
      rw [s1]
      refine eX0_takeDigit_25 hC (Nat.le_of_ble_eq_true rfl) (Nat.le_of_ble_eq_true rfl) (Nat.le_of_ble_eq_true rfl) (by first | assumption | exact zRow.o (by assumption)) (vX6_at hC.nt h6) (zk_i ?_)
      rw [e1, c1]
      refine eX0_takeDigit_28 hC (fun zz => absurd zn00 zz) (fun _ => ?_)
      refine eX0_takeDigit_31 hC ?_
      refine eX0_takeDigit_32 hC ?_
      refine eX0_takeDigit_33 hC (fun _ => ?_) (fun zz => absurd (nI_lt (by omega) (by omega)) zz)
      refine eX0_takeDigit_42 hC ?_
      refine eX0_takeDigit_43 hC hQ (Nat.le_of_ble_eq_true rfl) (Nat.le_of_ble_eq_true rfl) (Or.inl rfl) ?_
      exact ⟨by rw [zBv_f (fun q => c2 q.2.1)], rfl, zBfr.refl _ _, fun q => absurd q.2.1 c2⟩
  · refine eX0_takeDigit_0 hC ?_
    refine eX0_takeDigit_2 hC ?_
    refine eX0_takeDigit_3 hC (by assumption) (by assumption) ?_
    refine eX0_takeDigit_6 hC ?_
    refine eX0_takeDigit_7 hC (by assumption) ?_
    rw [s1]
    refine eX0_takeDigit_10 hC (Nat.le_of_ble_eq_true rfl) (Nat.le_of_ble_eq_true rfl) (Nat.le_of_ble_eq_true rfl) (by first | assumption | exact zRow.o (by assumption)) (vX6_at hC.nt h5) (zk_i ?_)
    rw [e2]
    refine eX0_takeDigit_13 hC ?_
    rw [pk_mul]
    refine eX0_takeDigit_14 hC ?_
    refine eX0_takeDigit_15 hC ?_
    rw [nI_add]
    refine eX0_takeDigit_16 hC ?_
    refine eX0_takeDigit_17 hC ?_
    refine eX0_takeDigit_18 hC (by assumption) (by assumption) ?_
    refine eX0_takeDigit_21 hC ?_
    refine eX0_takeDigit_22 hC (by assumption) ?_
    rw [s1]
    refine eX0_takeDigit_25 hC (Nat.le_of_ble_eq_true rfl) (Nat.le_of_ble_eq_true rfl) (Nat.le_of_ble_eq_true rfl) (by first | assumption | exact zRow.o (by assumption)) (vX6_at hC.nt h6) (zk_i ?_)
    rw [e1]
    refine eX0_takeDigit_28 hC (fun _ => ?_) (fun zz => absurd zz (nI_ne0 (by omega) (by omega)))
    refine eX0_takeDigit_42 hC ?_
    refine eX0_takeDigit_43 hC hQ (Nat.le_of_ble_eq_true rfl) (Nat.le_of_ble_eq_true rfl) (Or.inl rfl) ?_
    exact ⟨by rw [zBv_f (fun q => c1 q.1)], rfl, zBfr.refl _ _, fun q => absurd q.1 c1⟩
theorem nI_inj_ne {a b : Nat} (h : a ≠ b) (ha : a < 2 ^ 31) (hb : b < 2 ^ 31) : ¬ nI a = nI b := fun q => h (nI_inj ha hb q)
theorem zBst.W {μ : zF} {b : Nat} {s : zBS} (h : zBst μ b s) : μ b 4 = nI s.1 := h.1
set_option maxHeartbeats 8000000 in
theorem vX0_take {l : Launch} {g : zG} (hl : l.stackTraces = false) {K : zK} {μ : zF} {b c : Nat} {s : zBS} (h : zBuf K b) (hs : zBst μ b s) (hk : s.1 + 1 < 60) (hw : s.2.1 s.1 ≤ 30) (hm : s.2.2 s.1 ≤ 2) (hc : c < 128) : EX0_take l g 0 0 [.ref b, .int (nI c)] K μ (zPv (zBv (zstp c s.1 s.2.1 s.2.2 ≠ none)) K (fun μ' => zBfr μ μ' b ∧ ∀ s', zstp c s.1 s.2.1 s.2.2 = some s' → zBst μ' b s')) := by
  have h0 := h.o
  have s1 := hs.1
  refine nX0_take hl (fun x hC hQ => ?_)
  have at21 : ¬ (48 ≤ c ∧ c ≤ 57) → zV x 0 0 21 [some (.ref b), some (.int (nI c))] [] K μ := by
    intro hcd
    by_cases c0 : s.2.1 s.1 = 0
    · have e : zstp c s.1 s.2.1 s.2.2 = none := by unfold zstp; rw [if_neg hcd, if_pos c0]
      refine eX0_take_21 hC ?_
      refine eX0_take_22 hC (Nat.le_of_ble_eq_true rfl) (Nat.le_of_ble_eq_true rfl) (Nat.le_of_ble_eq_true rfl) (by first | assumption | exact zBuf.o (by assumption)) (vX0_endsInWord hC.nt h hs (by omega) hw) (zk_i ?_)
      rw [zBv_f (p := s.2.1 s.1 ≠ 0) (fun q => q c0)]
      refine eX0_take_25 hC (fun zz => absurd zn00 zz) (fun _ => ?_)
      refine eX0_take_28 hC ?_
      refine eX0_take_29 hC hQ (Nat.le_of_ble_eq_true rfl) (Nat.le_of_ble_eq_true rfl) (Or.inl rfl) ?_
      exact ⟨by rw [zBv_f (fun q => q e)], rfl, zBfr.refl _ _, fun s' q => by rw [e] at q; cases q⟩
    · have at30 : zV x 0 0 30 [some (.ref b), some (.int (nI c))] [] K μ := by
        by_cases c1 : c = 44
        · have e : zstp c s.1 s.2.1 s.2.2 = some (s.1 + 1, zuf s.2.1 (s.1 + 1) 0, zuf s.2.2 (s.1 + 1) 0) := by unfold zstp; rw [if_neg hcd, if_neg c0, if_pos c1]
          refine eX0_take_30 hC ?_
          refine eX0_take_31 hC ?_
          rw [c1]
          refine eX0_take_33 hC (fun zz => absurd rfl zz) (fun _ => ?_)
          refine eX0_take_36 hC ?_
          refine eX0_take_37 hC ?_
          refine eX0_take_38 hC (by assumption) ?_
          refine eX0_take_41 hC ?_
          refine eX0_take_42 hC ?_
          rw [s1, nI_add]
          refine eX0_take_43 hC (Nat.le_of_ble_eq_true rfl) (Nat.le_of_ble_eq_true rfl) (Nat.le_of_ble_eq_true rfl) (by first | assumption | exact zBuf.o (by assumption)) (vX0_beginWord hC.nt h hk) (zk_w (fun μ_43 m_43 => ?_))
          refine eX0_take_46 hC ?_
          refine eX0_take_47 hC hQ (Nat.le_of_ble_eq_true rfl) (Nat.le_of_ble_eq_true rfl) (Or.inr rfl) ?_
          obtain ⟨w1, w2, w3, w4, w5⟩ := m_43
          refine ⟨by rw [zBv_t (by rw [e]; exact Option.some_ne_none _)], rfl, w1, fun s' q => ?_⟩
          rw [e] at q
          simp only [Option.some.injEq] at q
          subst q
          refine ⟨w2, fun q hq => ?_⟩
          simp only [zuf] at hq ⊢
          by_cases cq : q = s.1 + 1
          · subst cq
            rw [if_pos rfl, if_pos rfl]
            exact ⟨w3, w4⟩
          · rw [if_neg cq, if_neg cq, (w5 q cq).1, (w5 q cq).2]
            exact hs.2 q (by omega)
        · by_cases c2 : c = 33
          · have e : zstp c s.1 s.2.1 s.2.2 = if s.2.2 s.1 = 0 then some (s.1, s.2.1, zuf s.2.2 s.1 1) else none := by unfold zstp; rw [if_neg hcd, if_neg c0, if_neg c1, if_pos c2]
            refine eX0_take_30 hC ?_
            refine eX0_take_31 hC ?_
            refine eX0_take_33 hC (fun _ => ?_) (fun zz => absurd zz (nI_inj_ne c1 (by omega) (by omega)))
            refine eX0_take_48 hC ?_
            refine eX0_take_49 hC ?_
            rw [c2]
            refine eX0_take_51 hC (fun zz => absurd rfl zz) (fun _ => ?_)
            refine eX0_take_54 hC ?_
            refine eX0_take_55 hC ?_
            refine eX0_take_56 hC (Nat.le_of_ble_eq_true rfl) (Nat.le_of_ble_eq_true rfl) (Nat.le_of_ble_eq_true rfl) (by first | assumption | exact zBuf.o (by assumption)) (vX0_takeMark (v := 1) hC.nt h hs (by omega) hm) (zk_v (fun μ_56 m_56 => ?_))
            refine eX0_take_59 hC hQ (Nat.le_of_ble_eq_true rfl) (Nat.le_of_ble_eq_true rfl) (zBv_01 _) ?_
            obtain ⟨w1, w2⟩ := m_56
            by_cases cm : s.2.2 s.1 = 0
            · rw [if_pos cm] at e
              refine ⟨by rw [zBv_t cm, zBv_t (by rw [e]; exact Option.some_ne_none _)], rfl, w1, fun s' q => ?_⟩
              rw [e] at q
              simp only [Option.some.injEq] at q
              subst q
              exact w2 cm
            · rw [if_neg cm] at e
              exact ⟨by rw [zBv_f cm, zBv_f (fun q => q e)], rfl, w1, fun s' q => by rw [e] at q; cases q⟩
          · by_cases c3 : c = 47
            · have e : zstp c s.1 s.2.1 s.2.2 = if s.2.2 s.1 = 0 then some (s.1, s.2.1, zuf s.2.2 s.1 2) else none := by unfold zstp; rw [if_neg hcd, if_neg c0, if_neg c1, if_neg c2, if_pos c3]
              by_cases cm : s.2.2 s.1 = 0
              · rw [if_pos cm] at e
                refine eX0_take_30 hC ?_
                refine eX0_take_31 hC ?_
                refine eX0_take_33 hC (fun _ => ?_) (fun zz => absurd zz (nI_inj_ne c1 (by omega) (by omega)))
                refine eX0_take_48 hC ?_
                refine eX0_take_49 hC ?_
                refine eX0_take_51 hC (fun _ => ?_) (fun zz => absurd zz (nI_inj_ne c2 (by omega) (by omega)))
                refine eX0_take_60 hC ?_
                refine eX0_take_61 hC ?_
                rw [c3]
                refine eX0_take_63 hC (fun zz => absurd rfl zz) (fun _ => ?_)
                refine eX0_take_66 hC ?_
                refine eX0_take_67 hC ?_
                refine eX0_take_68 hC (Nat.le_of_ble_eq_true rfl) (Nat.le_of_ble_eq_true rfl) (Nat.le_of_ble_eq_true rfl) (by first | assumption | exact zBuf.o (by assumption)) (vX0_takeMark (v := 2) hC.nt h hs (by omega) hm) (zk_v (fun μ_68 m_68 => ?_))
                rw [zBv_t cm]
                refine eX0_take_71 hC (fun zz => absurd zz zn10) (fun _ => ?_)
                refine eX0_take_74 hC ?_
                refine eX0_take_75 hC ?_
                refine eX0_take_79 hC hQ (Nat.le_of_ble_eq_true rfl) (Nat.le_of_ble_eq_true rfl) (Or.inr rfl) ?_
                obtain ⟨w1, w2⟩ := m_68
                refine ⟨by rw [zBv_t (by rw [e]; exact Option.some_ne_none _)], rfl, w1, fun s' q => ?_⟩
                rw [e] at q
                simp only [Option.some.injEq] at q
                subst q
                exact w2 cm
              · rw [if_neg cm] at e
                refine eX0_take_30 hC ?_
                refine eX0_take_31 hC ?_
                refine eX0_take_33 hC (fun _ => ?_) (fun zz => absurd zz (nI_inj_ne c1 (by omega) (by omega)))
                refine eX0_take_48 hC ?_
                refine eX0_take_49 hC ?_
                refine eX0_take_51 hC (fun _ => ?_) (fun zz => absurd zz (nI_inj_ne c2 (by omega) (by omega)))
                refine eX0_take_60 hC ?_
                refine eX0_take_61 hC ?_
                rw [c3]
                refine eX0_take_63 hC (fun zz => absurd rfl zz) (fun _ => ?_)
                refine eX0_take_66 hC ?_
                refine eX0_take_67 hC ?_
                refine eX0_take_68 hC (Nat.le_of_ble_eq_true rfl) (Nat.le_of_ble_eq_true rfl) (Nat.le_of_ble_eq_true rfl) (by first | assumption | exact zBuf.o (by assumption)) (vX0_takeMark (v := 2) hC.nt h hs (by omega) hm) (zk_v (fun μ_68 m_68 => ?_))
                rw [zBv_f cm]
                refine eX0_take_71 hC (fun _ => ?_) (fun zz => absurd zn00 zz)
                refine eX0_take_78 hC ?_
                refine eX0_take_79 hC hQ (Nat.le_of_ble_eq_true rfl) (Nat.le_of_ble_eq_true rfl) (Or.inl rfl) ?_
                exact ⟨by rw [zBv_f (fun q => q e)], rfl, m_68.1, fun s' q => by rw [e] at q; cases q⟩
            · have e : zstp c s.1 s.2.1 s.2.2 = none := by unfold zstp; rw [if_neg hcd, if_neg c0, if_neg c1, if_neg c2, if_neg c3]
              refine eX0_take_30 hC ?_
              refine eX0_take_31 hC ?_
              refine eX0_take_33 hC (fun _ => ?_) (fun zz => absurd zz (nI_inj_ne c1 (by omega) (by omega)))
              refine eX0_take_48 hC ?_
              refine eX0_take_49 hC ?_
              refine eX0_take_51 hC (fun _ => ?_) (fun zz => absurd zz (nI_inj_ne c2 (by omega) (by omega)))
              refine eX0_take_60 hC ?_
              refine eX0_take_61 hC ?_
              refine eX0_take_63 hC (fun _ => ?_) (fun zz => absurd zz (nI_inj_ne c3 (by omega) (by omega)))
              refine eX0_take_78 hC ?_
              refine eX0_take_79 hC hQ (Nat.le_of_ble_eq_true rfl) (Nat.le_of_ble_eq_true rfl) (Or.inl rfl) ?_
              exact ⟨by rw [zBv_f (fun q => q e)], rfl, zBfr.refl _ _, fun s' q => by rw [e] at q; cases q⟩
      refine eX0_take_21 hC ?_
      refine eX0_take_22 hC (Nat.le_of_ble_eq_true rfl) (Nat.le_of_ble_eq_true rfl) (Nat.le_of_ble_eq_true rfl) (by first | assumption | exact zBuf.o (by assumption)) (vX0_endsInWord hC.nt h hs (by omega) hw) (zk_i ?_)
      rw [zBv_t (p := s.2.1 s.1 ≠ 0) c0]
      refine eX0_take_25 hC (fun _ => ?_) (fun zz => absurd zz zn10)
      exact at30
  by_cases d1 : 48 ≤ c
  · by_cases d2 : c ≤ 57
    · have e : zstp c s.1 s.2.1 s.2.2 = if s.2.2 s.1 = 0 ∧ 1 ≤ 10 * s.2.1 s.1 + (c - 48) ∧ 10 * s.2.1 s.1 + (c - 48) ≤ 30 then some (s.1, zuf s.2.1 s.1 (10 * s.2.1 s.1 + (c - 48)), s.2.2) else none := by unfold zstp; rw [if_pos ⟨d1, d2⟩]
      refine eX0_take_0 hC ?_
      refine eX0_take_1 hC ?_
      refine eX0_take_3 hC (fun zz => absurd zz (nI_nlt d1 (by omega))) (fun _ => ?_)
      refine eX0_take_6 hC ?_
      refine eX0_take_7 hC ?_
      refine eX0_take_9 hC (fun zz => absurd zz (nI_nlt d2 (by omega))) (fun _ => ?_)
      refine eX0_take_12 hC ?_
      refine eX0_take_13 hC ?_
      refine eX0_take_14 hC ?_
      refine eX0_take_16 hC ?_
      rw [nI_sub d1]
      refine eX0_take_17 hC (Nat.le_of_ble_eq_true rfl) (Nat.le_of_ble_eq_true rfl) (Nat.le_of_ble_eq_true rfl) (by first | assumption | exact zBuf.o (by assumption)) (vX0_takeDigit hC.nt h hs (by omega) hw hm (by omega)) (zk_v (fun μ_17 m_17 => ?_))
      refine eX0_take_20 hC hQ (Nat.le_of_ble_eq_true rfl) (Nat.le_of_ble_eq_true rfl) (zBv_01 _) ?_
      obtain ⟨w1, w2⟩ := m_17
      by_cases cm : s.2.2 s.1 = 0 ∧ 1 ≤ 10 * s.2.1 s.1 + (c - 48) ∧ 10 * s.2.1 s.1 + (c - 48) ≤ 30
      · rw [if_pos cm] at e
        refine ⟨by rw [zBv_t cm, zBv_t (by rw [e]; exact Option.some_ne_none _)], rfl, w1, fun s' q => ?_⟩
        rw [e] at q
        simp only [Option.some.injEq] at q
        subst q
        exact w2 cm
      · rw [if_neg cm] at e
        exact ⟨by rw [zBv_f cm, zBv_f (fun q => q e)], rfl, w1, fun s' q => by rw [e] at q; cases q⟩
    · refine eX0_take_0 hC ?_
      refine eX0_take_1 hC ?_
      refine eX0_take_3 hC (fun zz => absurd zz (nI_nlt d1 (by omega))) (fun _ => ?_)
      refine eX0_take_6 hC ?_
      refine eX0_take_7 hC ?_
      refine eX0_take_9 hC (fun _ => ?_) (fun zz => absurd (nI_lt (by omega) (by omega)) zz)
      exact at21 (fun q => d2 q.2)
  · refine eX0_take_0 hC ?_
    refine eX0_take_1 hC ?_
    refine eX0_take_3 hC (fun _ => ?_) (fun zz => absurd (nI_lt (by omega) (by omega)) zz)
    exact at21 (fun q => d1 q.1)
set_option maxHeartbeats 8000000 in
theorem vX0_scan {l : Launch} {g : zG} (hl : l.stackTraces = false) {K : zK} {μ : zF} {b L : Nat} {β : Nat → Nat} (h : zBuf K b) (hv : zBuv μ b β L) (hL : L ≤ 60) (hβ : ∀ i, i < L → β i < 128) : EX0_scan l g 0 0 [.ref b] K μ (zPv (nI (zfe β L)) K (fun μ' => zBfr μ μ' b ∧ ∀ s, zrun β (zfe β L) = some s → zfe β L = L → zBst μ' b s)) := by
  have h0 := h.o
  obtain ⟨-, h1, h2, h3, h4, h5, h6⟩ := id h
  refine nX0_scan hl (fun x hC hQ => ?_)
  have loop : ∀ (d i : Nat) (s : zBS) (μ1 : zF), i + d = L → zBfr μ μ1 b → zrun β i = some s → zBst μ1 b s → (∀ j, j < i → zrun β (j + 1) ≠ none) → zV x 0 0 7 [some (.ref b), some (.int (nI i))] [] K μ1 := by
    intro d
    induction d with
    | zero =>
      intro i s μ1 hd hf hr hs hp
      have hd : i = L := by omega
      subst hd
      have hlen := (hv.fr hf).1
      have e : zfe β i = i := zfe_eq (Nat.le_refl _) (Or.inl rfl) hp
      refine eX0_scan_7 hC ?_
      refine eX0_scan_8 hC ?_
      refine eX0_scan_9 hC (by assumption) ?_
      rw [hlen]
      refine eX0_scan_12 hC (fun _ => ?_) (fun zz => absurd (nI_le (Nat.le_refl _) (by omega)) zz)
      refine eX0_scan_38 hC ?_
      refine eX0_scan_39 hC (by assumption) ?_
      refine eX0_scan_42 hC hQ (Nat.le_of_ble_eq_true rfl) (Nat.le_of_ble_eq_true rfl) ?_
      exact ⟨by rw [e, hlen], rfl, hf, fun s' q _ => by rw [e, hr] at q; simp only [Option.some.injEq] at q; subst q; exact hs⟩
    | succ d ih =>
      intro i s μ1 hd hf hr hs hp
      have hv1 := hv.fr hf
      have hlen := hv1.1
      have ok := zrun_ok hr
      have e1 : zrd 60 (μ1 (b + 1 + 1)) (nI i) = nI (β i) := by rw [zrd_in (by omega) (by omega)]; exact hv1.2 i (by omega)
      have hi30 : s.1 + 1 < 60 := by have := ok.1; omega
      have hn := zrun_next hr
      cases hz : zstp (β i) s.1 s.2.1 s.2.2 with
      | none =>
        have e : zfe β L = i := zfe_eq (by omega) (Or.inr (by rw [hn, hz])) hp
        refine eX0_scan_7 hC ?_
        refine eX0_scan_8 hC ?_
        refine eX0_scan_9 hC (by assumption) ?_
        rw [hlen]
        refine eX0_scan_12 hC (fun zz => absurd zz (nI_ge (show i < L by omega) (by omega))) (fun _ => ?_)
        refine eX0_scan_15 hC ?_
        refine eX0_scan_16 hC ?_
        refine eX0_scan_17 hC (by assumption) (by assumption) ?_
        refine eX0_scan_20 hC ?_
        refine eX0_scan_21 hC (Nat.le_of_ble_eq_true rfl) (Nat.le_of_ble_eq_true rfl) (Nat.le_of_ble_eq_true rfl) (by first | assumption | exact zRow.o (by assumption)) (vX6_at hC.nt h4) (zk_i ?_)
        rw [e1]
        refine eX0_scan_24 hC (Nat.le_of_ble_eq_true rfl) (Nat.le_of_ble_eq_true rfl) (Nat.le_of_ble_eq_true rfl) (by first | assumption | exact zBuf.o (by assumption)) (vX0_take hC.nt h hs hi30 (ok.2.1 _ (Nat.le_refl _)).1 (ok.2.1 _ (Nat.le_refl _)).2 (hβ i (by omega))) (zk_v (fun μ_24 m_24 => ?_))
        rw [zBv_f (fun q => q hz)]
        refine eX0_scan_27 hC (fun zz => absurd zn00 zz) (fun _ => ?_)
        refine eX0_scan_30 hC ?_
        refine eX0_scan_31 hC hQ (Nat.le_of_ble_eq_true rfl) (Nat.le_of_ble_eq_true rfl) ?_
        exact ⟨by rw [e], rfl, hf.trans m_24.1, fun s' q q2 => absurd q2 (by rw [e]; omega)⟩
      | some s' =>
        refine eX0_scan_7 hC ?_
        refine eX0_scan_8 hC ?_
        refine eX0_scan_9 hC (by assumption) ?_
        rw [hlen]
        refine eX0_scan_12 hC (fun zz => absurd zz (nI_ge (show i < L by omega) (by omega))) (fun _ => ?_)
        refine eX0_scan_15 hC ?_
        refine eX0_scan_16 hC ?_
        refine eX0_scan_17 hC (by assumption) (by assumption) ?_
        refine eX0_scan_20 hC ?_
        refine eX0_scan_21 hC (Nat.le_of_ble_eq_true rfl) (Nat.le_of_ble_eq_true rfl) (Nat.le_of_ble_eq_true rfl) (by first | assumption | exact zRow.o (by assumption)) (vX6_at hC.nt h4) (zk_i ?_)
        rw [e1]
        refine eX0_scan_24 hC (Nat.le_of_ble_eq_true rfl) (Nat.le_of_ble_eq_true rfl) (Nat.le_of_ble_eq_true rfl) (by first | assumption | exact zBuf.o (by assumption)) (vX0_take hC.nt h hs hi30 (ok.2.1 _ (Nat.le_refl _)).1 (ok.2.1 _ (Nat.le_refl _)).2 (hβ i (by omega))) (zk_v (fun μ_24 m_24 => ?_))
        rw [zBv_t (by rw [hz]; exact Option.some_ne_none _)]
        refine eX0_scan_27 hC (fun _ => ?_) (fun zz => absurd zz zn10)
        refine eX0_scan_32 hC ?_
        rw [nI_add]
        refine eX0_scan_35 hC ?_
        refine ih (i + 1) s' μ_24 (by omega) (hf.trans m_24.1) (by rw [hn, hz]) (m_24.2 s' hz) (fun j hj => ?_)
        rcases Nat.eq_or_lt_of_le (show j ≤ i by omega) with z | z
        · subst z; rw [hn, hz]; exact Option.some_ne_none _
        · exact hp j z
  refine eX0_scan_0 hC ?_
  refine eX0_scan_1 hC ?_
  refine eX0_scan_2 hC (Nat.le_of_ble_eq_true rfl) (Nat.le_of_ble_eq_true rfl) (Nat.le_of_ble_eq_true rfl) (by first | assumption | exact zBuf.o (by assumption)) (vX0_beginWord hC.nt h (k := 0) (by omega)) (zk_w (fun μ_2 m_2 => ?_))
  refine eX0_scan_5 hC ?_
  refine eX0_scan_6 hC ?_
  obtain ⟨w1, w2, w3, w4, w5⟩ := m_2
  refine loop L 0 (0, fun _ => 0, fun _ => 0) μ_2 (by omega) w1 rfl ⟨w2, fun q hq => ?_⟩ (fun j hj => absurd hj (by omega))
  have hq0 : q = 0 := Nat.le_zero.mp hq
  rw [hq0]
  exact ⟨w3, w4⟩
theorem vX0_countWords {l : Launch} {g : zG} (hl : l.stackTraces = false) {K : zK} {μ : zF} {b : Nat} {s : zBS} (h : zBuf K b) (hs : zBst μ b s) : EX0_countWords l g 0 0 [.ref b] K μ (zPi (nI (s.1 + 1)) K μ) := by
  have h0 := h.o
  have s1 := hs.1
  refine nX0_countWords hl (fun x hC hQ => ?_)
  refine eX0_countWords_0 hC ?_
  refine eX0_countWords_1 hC (by assumption) ?_
  refine eX0_countWords_4 hC ?_
  refine eX0_countWords_5 hC ?_
  rw [s1, nI_add]
  refine eX0_countWords_6 hC hQ (Nat.le_of_ble_eq_true rfl) (Nat.le_of_ble_eq_true rfl) ?_
  exact ⟨rfl, rfl, rfl⟩
theorem vX0_add {l : Launch} {g : zG} (hl : l.stackTraces = false) {K : zK} {μ : zF} {b L c : Nat} {β : Nat → Nat} (h : zBuf K b) (hv : zBuv μ b β L) (hL : L < 60) : EX0_add l g 0 0 [.ref b, .int (nI c)] K μ (zPw K (fun μ' => zBuv μ' b (zuf β L c) (L + 1) ∧ zAg μ μ' b (b + 7))) := by
  have h0 := h.o
  obtain ⟨-, h1, h2, h3, h4, h5, h6⟩ := id h
  refine nX0_add hl (fun x hC hQ => ?_)
  refine eX0_add_0 hC ?_
  refine eX0_add_1 hC (by assumption) ?_
  rw [hv.1]
  refine eX0_add_4 hC ?_
  refine eX0_add_6 hC (fun zz => absurd zz (nI_ge hL (by omega))) (fun _ => ?_)
  refine eX0_add_9 hC ?_
  refine eX0_add_10 hC (by assumption) (by assumption) ?_
  refine eX0_add_13 hC ?_
  refine eX0_add_14 hC (by assumption) ?_
  refine eX0_add_17 hC ?_
  rw [hv.1]
  refine eX0_add_18 hC (Nat.le_of_ble_eq_true rfl) (Nat.le_of_ble_eq_true rfl) (Nat.le_of_ble_eq_true rfl) (by first | assumption | exact zRow.o (by assumption)) (vX6_put hC.nt h4) (zk_w (fun μ_18 m_18 => ?_))
  rw [zpt_in hL (by omega)] at m_18
  subst m_18
  refine eX0_add_21 hC ?_
  refine eX0_add_22 hC ?_
  refine eX0_add_23 hC (by assumption) ?_
  refine eX0_add_26 hC ?_
  rw [zup_a _ _ _ _ (by omega), hv.1]
  refine eX0_add_27 hC ?_
  rw [nI_add]
  refine eX0_add_28 hC (by assumption) ?_
  refine eX0_add_31 hC hQ (Nat.le_of_ble_eq_true rfl) (Nat.le_of_ble_eq_true rfl) ?_
  refine ⟨rfl, rfl, ⟨zup_self _ _ _ _, fun i hi => ?_⟩, (zAg.up (by omega)).trans (zAg.up (by omega))⟩
  rw [zup_a _ _ _ _ (by omega)]
  by_cases ci : i = L
  · subst ci
    simp only [zuf, if_pos]
    exact zup_self _ _ _ _
  · simp only [zuf]
    rw [if_neg ci, show b + 2 = b + 1 + 1 by omega, zup_k _ _ _ ci]
    exact hv.2 i (by omega)
