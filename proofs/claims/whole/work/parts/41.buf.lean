/-! ===== the buffer ===== -/
set_option maxHeartbeats 4000000 in
theorem vX0_beginWord {l : Launch} {g : zG} (hl : l.stackTraces = false) {K : zK} {μ : zF} {b k : Nat} (h : zBuf K b) (hk : k < 60) : EX0_beginWord l g 0 0 [.ref b, .int (nI k)] K μ (zPw K (fun μ' => zBfr μ μ' b ∧ μ' b 4 = nI k ∧ μ' (b + 4) k = nI 0 ∧ μ' (b + 6) k = nI 0 ∧ ∀ q, q ≠ k → μ' (b + 4) q = μ (b + 4) q ∧ μ' (b + 6) q = μ (b + 6) q)) := by
  obtain ⟨h0, h1, h2, h3, h4, h5, h6⟩ := h
  refine nX0_beginWord hl (fun x hC hQ => ?_)
  refine eX0_beginWord_0 hC ?_
  refine eX0_beginWord_1 hC ?_
  refine eX0_beginWord_2 hC (by assumption) ?_
  refine eX0_beginWord_5 hC ?_
  refine eX0_beginWord_6 hC (by assumption) (by assumption) ?_
  refine eX0_beginWord_9 hC ?_
  refine eX0_beginWord_10 hC ?_
  refine eX0_beginWord_11 hC (Nat.le_of_ble_eq_true rfl) (Nat.le_of_ble_eq_true rfl) (Nat.le_of_ble_eq_true rfl) (by first | assumption | exact zRow.o (by assumption)) (vX6_put hC.nt h5) (zk_w (fun μ_11 m_11 => ?_))
  refine eX0_beginWord_14 hC ?_
  refine eX0_beginWord_15 hC (by assumption) (by assumption) ?_
  refine eX0_beginWord_18 hC ?_
  refine eX0_beginWord_19 hC ?_
  refine eX0_beginWord_20 hC (Nat.le_of_ble_eq_true rfl) (Nat.le_of_ble_eq_true rfl) (Nat.le_of_ble_eq_true rfl) (by first | assumption | exact zRow.o (by assumption)) (vX6_put hC.nt h6) (zk_w (fun μ_20 m_20 => ?_))
  refine eX0_beginWord_23 hC hQ (Nat.le_of_ble_eq_true rfl) (Nat.le_of_ble_eq_true rfl) ?_
  rw [zpt_in hk (by omega)] at m_11
  subst m_11
  rw [zpt_in hk (by omega)] at m_20
  subst m_20
  refine ⟨rfl, rfl, fun a j q1 q2 q3 => ?_, ?_, ?_, ?_, fun q hq => ⟨?_, ?_⟩⟩
  · rw [zup_a _ _ _ _ (show a ≠ b + 5 + 1 by omega), zup_a _ _ _ _ (show a ≠ b + 3 + 1 by omega)]
    simp only [zup]; rw [if_neg q1]
  · rw [zup_a _ _ _ _ (by omega), zup_a _ _ _ _ (by omega), zup_self]
  · rw [zup_a _ _ _ _ (by omega), show b + 4 = b + 3 + 1 by omega, zup_self]
  · rw [show b + 6 = b + 5 + 1 by omega, zup_self]
  · rw [zup_a _ _ _ _ (by omega), show b + 4 = b + 3 + 1 by omega, zup_k _ _ _ hq, zup_a _ _ _ _ (by omega)]
  · rw [show b + 6 = b + 5 + 1 by omega, zup_k _ _ _ hq, zup_a _ _ _ _ (by omega), zup_a _ _ _ _ (by omega)]
set_option maxHeartbeats 4000000 in
theorem vX0_endsInWord {l : Launch} {g : zG} (hl : l.stackTraces = false) {K : zK} {μ : zF} {b : Nat} {s : zBS} (h : zBuf K b) (hs : zBst μ b s) (hk : s.1 < 60) (hw : s.2.1 s.1 ≤ 30) : EX0_endsInWord l g 0 0 [.ref b] K μ (zPi (zBv (s.2.1 s.1 ≠ 0)) K μ) := by
  obtain ⟨h0, h1, h2, h3, h4, h5, h6⟩ := h
  obtain ⟨s1, s2⟩ := hs
  have e1 : zrd 60 (μ (b + 3 + 1)) (nI s.1) = nI (s.2.1 s.1) := by rw [zrd_in hk (by omega)]; exact (s2 _ (Nat.le_refl _)).1
  refine nX0_endsInWord hl (fun x hC hQ => ?_)
  by_cases c : s.2.1 s.1 = 0
  · refine eX0_endsInWord_0 hC ?_
    refine eX0_endsInWord_1 hC (by assumption) (by assumption) ?_
    refine eX0_endsInWord_4 hC ?_
    refine eX0_endsInWord_5 hC (by assumption) ?_
    rw [s1]
    refine eX0_endsInWord_8 hC (Nat.le_of_ble_eq_true rfl) (Nat.le_of_ble_eq_true rfl) (Nat.le_of_ble_eq_true rfl) (by first | assumption | exact zRow.o (by assumption)) (vX6_at hC.nt h5) (zk_i ?_)
    rw [e1, c]
    refine eX0_endsInWord_11 hC (fun _ => ?_) (fun zz => absurd (by decide) zz)
    refine eX0_endsInWord_18 hC ?_
    refine eX0_endsInWord_19 hC hQ (Nat.le_of_ble_eq_true rfl) (Nat.le_of_ble_eq_true rfl) (Or.inl rfl) ?_
    rw [zBv_f (p := s.2.1 s.1 ≠ 0) (fun q => q c)]
    exact ⟨rfl, rfl, rfl⟩
  · refine eX0_endsInWord_0 hC ?_
    refine eX0_endsInWord_1 hC (by assumption) (by assumption) ?_
    refine eX0_endsInWord_4 hC ?_
    refine eX0_endsInWord_5 hC (by assumption) ?_
    rw [s1]
    refine eX0_endsInWord_8 hC (Nat.le_of_ble_eq_true rfl) (Nat.le_of_ble_eq_true rfl) (Nat.le_of_ble_eq_true rfl) (by first | assumption | exact zRow.o (by assumption)) (vX6_at hC.nt h5) (zk_i ?_)
    rw [e1]
    refine eX0_endsInWord_11 hC (fun zz => absurd zz (nI_nle (by omega) (by omega))) (fun _ => ?_)
    refine eX0_endsInWord_14 hC ?_
    refine eX0_endsInWord_15 hC ?_
    refine eX0_endsInWord_19 hC hQ (Nat.le_of_ble_eq_true rfl) (Nat.le_of_ble_eq_true rfl) (Or.inr rfl) ?_
    rw [zBv_t (p := s.2.1 s.1 ≠ 0) c]
    exact ⟨rfl, rfl, rfl⟩
set_option maxHeartbeats 4000000 in
theorem vX0_takeMark {l : Launch} {g : zG} (hl : l.stackTraces = false) {K : zK} {μ : zF} {b v : Nat} {s : zBS} (h : zBuf K b) (hs : zBst μ b s) (hk : s.1 < 60) (hm : s.2.2 s.1 ≤ 2) : EX0_takeMark l g 0 0 [.ref b, .int (nI v)] K μ (zPv (zBv (s.2.2 s.1 = 0)) K (fun μ' => zBfr μ μ' b ∧ (s.2.2 s.1 = 0 → zBst μ' b (s.1, s.2.1, zuf s.2.2 s.1 v)))) := by
  obtain ⟨h0, h1, h2, h3, h4, h5, h6⟩ := h
  obtain ⟨s1, s2⟩ := hs
  have e1 : zrd 60 (μ (b + 5 + 1)) (nI s.1) = nI (s.2.2 s.1) := by rw [zrd_in hk (by omega)]; exact (s2 _ (Nat.le_refl _)).2
  refine nX0_takeMark hl (fun x hC hQ => ?_)
  by_cases c : s.2.2 s.1 = 0
  · refine eX0_takeMark_0 hC ?_
    refine eX0_takeMark_1 hC (by assumption) (by assumption) ?_
    refine eX0_takeMark_4 hC ?_
    refine eX0_takeMark_5 hC (by assumption) ?_
    rw [s1]
    refine eX0_takeMark_8 hC (Nat.le_of_ble_eq_true rfl) (Nat.le_of_ble_eq_true rfl) (Nat.le_of_ble_eq_true rfl) (by first | assumption | exact zRow.o (by assumption)) (vX6_at hC.nt h6) (zk_i ?_)
    rw [e1, c]
    refine eX0_takeMark_11 hC (fun _ => ?_) (fun zz => absurd zn00 zz)
    refine eX0_takeMark_16 hC ?_
    refine eX0_takeMark_17 hC (by assumption) (by assumption) ?_
    refine eX0_takeMark_20 hC ?_
    refine eX0_takeMark_21 hC (by assumption) ?_
    refine eX0_takeMark_24 hC ?_
    rw [s1]
    refine eX0_takeMark_25 hC (Nat.le_of_ble_eq_true rfl) (Nat.le_of_ble_eq_true rfl) (Nat.le_of_ble_eq_true rfl) (by first | assumption | exact zRow.o (by assumption)) (vX6_put hC.nt h6) (zk_w (fun μ_25 m_25 => ?_))
    refine eX0_takeMark_28 hC ?_
    refine eX0_takeMark_29 hC hQ (Nat.le_of_ble_eq_true rfl) (Nat.le_of_ble_eq_true rfl) (Or.inr rfl) ?_
    rw [zpt_in hk (by omega)] at m_25
    subst m_25
    refine ⟨by rw [zBv_t c], rfl, fun a j q1 q2 q3 => zup_a _ _ _ _ (by omega), fun _ => ⟨?_, fun q hq => ⟨?_, ?_⟩⟩⟩
    · rw [zup_a _ _ _ _ (by omega)]; exact s1
    · rw [zup_a _ _ _ _ (by omega)]; exact (s2 q hq).1
    · simp only [zuf]
      by_cases cq : q = s.1
      · subst cq
        rw [if_pos rfl, show b + 6 = b + 5 + 1 by omega, zup_self]
      · rw [if_neg cq, show b + 6 = b + 5 + 1 by omega, zup_k _ _ _ cq]; exact (s2 q hq).2
  · refine eX0_takeMark_0 hC ?_
    refine eX0_takeMark_1 hC (by assumption) (by assumption) ?_
    refine eX0_takeMark_4 hC ?_
    refine eX0_takeMark_5 hC (by assumption) ?_
    rw [s1]
    refine eX0_takeMark_8 hC (Nat.le_of_ble_eq_true rfl) (Nat.le_of_ble_eq_true rfl) (Nat.le_of_ble_eq_true rfl) (by first | assumption | exact zRow.o (by assumption)) (vX6_at hC.nt h6) (zk_i ?_)
    rw [e1]
    refine eX0_takeMark_11 hC (fun zz => absurd zz (nI_ne0 (by omega) (by omega))) (fun _ => ?_)
    refine eX0_takeMark_14 hC ?_
    refine eX0_takeMark_15 hC hQ (Nat.le_of_ble_eq_true rfl) (Nat.le_of_ble_eq_true rfl) (Or.inl rfl) ?_
    exact ⟨by rw [zBv_f c], rfl, zBfr.refl _ _, fun q => absurd q c⟩
set_option maxHeartbeats 4000000 in
theorem vX0_takeDigit {l : Launch} {g : zG} (hl : l.stackTraces = false) {K : zK} {μ : zF} {b d : Nat} {s : zBS} (h : zBuf K b) (hs : zBst μ b s) (hk : s.1 < 60) (hw : s.2.1 s.1 ≤ 30) (hm : s.2.2 s.1 ≤ 2) (hd : d ≤ 9) : EX0_takeDigit l g 0 0 [.ref b, .int (nI d)] K μ (zPv (zBv (s.2.2 s.1 = 0 ∧ 1 ≤ 10 * s.2.1 s.1 + d ∧ 10 * s.2.1 s.1 + d ≤ 30)) K (fun μ' => zBfr μ μ' b ∧ (s.2.2 s.1 = 0 ∧ 1 ≤ 10 * s.2.1 s.1 + d ∧ 10 * s.2.1 s.1 + d ≤ 30 → zBst μ' b (s.1, zuf s.2.1 s.1 (10 * s.2.1 s.1 + d), s.2.2)))) := by
  obtain ⟨h0, h1, h2, h3, h4, h5, h6⟩ := h
  obtain ⟨s1, s2⟩ := hs
  have e1 : zrd 60 (μ (b + 5 + 1)) (nI s.1) = nI (s.2.2 s.1) := by rw [zrd_in hk (by omega)]; exact (s2 _ (Nat.le_refl _)).2
  have e2 : zrd 60 (μ (b + 3 + 1)) (nI s.1) = nI (s.2.1 s.1) := by rw [zrd_in hk (by omega)]; exact (s2 _ (Nat.le_refl _)).1
  refine nX0_takeDigit hl (fun x hC hQ => ?_)
  by_cases c1 : s.2.2 s.1 = 0
  · by_cases c2 : 1 ≤ 10 * s.2.1 s.1 + d
    · by_cases c3 : 10 * s.2.1 s.1 + d ≤ 30
      · refine eX0_takeDigit_0 hC ?_
        refine eX0_takeDigit_2 hC ?_
        refine eX0_takeDigit_3 hC (by assumption) (by assumption) ?_
        refine eX0_takeDigit_6 hC ?_
        refine eX0_takeDigit_7 hC (by assumption) ?_
        rw [s1]
        refine eX0_takeDigit_10 hC (Nat.le_of_ble_eq_true rfl) (Nat.le_of_ble_eq_true rfl) (Nat.le_of_ble_eq_true rfl) (by first | assumption | exact zRow.o (by assumption)) (vX6_at hC.nt h5) (zk_i ?_)
        rw [e2]
        refine eX0_takeDigit_13 hC ?_
        rw [pk_mul]
        refine eX0_takeDigit_14 hC ?_
        refine eX0_takeDigit_15 hC ?_
        rw [nI_add]
        refine eX0_takeDigit_16 hC ?_
        refine eX0_takeDigit_17 hC ?_
        refine eX0_takeDigit_18 hC (by assumption) (by assumption) ?_
        refine eX0_takeDigit_21 hC ?_
        refine eX0_takeDigit_22 hC (by assumption) ?_
        rw [s1]
        refine eX0_takeDigit_25 hC (Nat.le_of_ble_eq_true rfl) (Nat.le_of_ble_eq_true rfl) (Nat.le_of_ble_eq_true rfl) (by first | assumption | exact zRow.o (by assumption)) (vX6_at hC.nt h6) (zk_i ?_)
        rw [e1, c1]
        refine eX0_takeDigit_28 hC (fun zz => absurd zn00 zz) (fun _ => ?_)
        refine eX0_takeDigit_31 hC ?_
        refine eX0_takeDigit_32 hC ?_
        refine eX0_takeDigit_33 hC (fun zz => absurd zz (nI_nlt c2 (by omega))) (fun _ => ?_)
        refine eX0_takeDigit_36 hC ?_
        refine eX0_takeDigit_37 hC ?_
        refine eX0_takeDigit_39 hC (fun _ => ?_) (fun zz => absurd (nI_le c3 (by omega)) zz)
        refine eX0_takeDigit_44 hC ?_
        refine eX0_takeDigit_45 hC (by assumption) (by assumption) ?_
        refine eX0_takeDigit_48 hC ?_
        refine eX0_takeDigit_49 hC (by assumption) ?_
        refine eX0_takeDigit_52 hC ?_
        rw [s1]
        refine eX0_takeDigit_53 hC (Nat.le_of_ble_eq_true rfl) (Nat.le_of_ble_eq_true rfl) (Nat.le_of_ble_eq_true rfl) (by first | assumption | exact zRow.o (by assumption)) (vX6_put hC.nt h5) (zk_w (fun μ_53 m_53 => ?_))
        refine eX0_takeDigit_56 hC ?_
        refine eX0_takeDigit_57 hC hQ (Nat.le_of_ble_eq_true rfl) (Nat.le_of_ble_eq_true rfl) (Or.inr rfl) ?_
        rw [zpt_in hk (by omega)] at m_53
        subst m_53
        refine ⟨by rw [zBv_t ⟨c1, c2, c3⟩], rfl, fun a j q1 q2 q3 => zup_a _ _ _ _ (by omega), fun _ => ⟨?_, fun q hq => ⟨?_, ?_⟩⟩⟩
        · rw [zup_a _ _ _ _ (by omega)]; exact s1
        · simp only [zuf]
          by_cases cq : q = s.1
          · subst cq
            rw [if_pos rfl, show b + 4 = b + 3 + 1 by omega, zup_self]
          · rw [if_neg cq, show b + 4 = b + 3 + 1 by omega, zup_k _ _ _ cq]; exact (s2 q hq).1
        · rw [zup_a _ _ _ _ (by omega)]; exact (s2 q hq).2
      · refine eX0_takeDigit_0 hC ?_
        refine eX0_takeDigit_2 hC ?_
        refine eX0_takeDigit_3 hC (by assumption) (by assumption) ?_
        refine eX0_takeDigit_6 hC ?_
        refine eX0_takeDigit_7 hC (by assumption) ?_
        rw [s1]
        refine eX0_takeDigit_10 hC (Nat.le_of_ble_eq_true rfl) (Nat.le_of_ble_eq_true rfl) (Nat.le_of_ble_eq_true rfl) (by first | assumption | exact zRow.o (by assumption)) (vX6_at hC.nt h5) (zk_i ?_)
        rw [e2]
        refine eX0_takeDigit_13 hC ?_
        rw [pk_mul]
        refine eX0_takeDigit_14 hC ?_
        refine eX0_takeDigit_15 hC ?_
        rw [nI_add]
        refine eX0_takeDigit_16 hC ?_
        refine eX0_takeDigit_17 hC ?_
        refine eX0_takeDigit_18 hC (by assumption) (by assumption) ?_
        refine eX0_takeDigit_21 hC ?_
        refine eX0_takeDigit_22 hC (by assumption) ?_
        rw [s1]
        refine eX0_takeDigit_25 hC (Nat.le_of_ble_eq_true rfl) (Nat.le_of_ble_eq_true rfl) (Nat.le_of_ble_eq_true rfl) (by first | assumption | exact zRow.o (by assumption)) (vX6_at hC.nt h6) (zk_i ?_)
        rw [e1, c1]
        refine eX0_takeDigit_28 hC (fun zz => absurd zn00 zz) (fun _ => ?_)
        refine eX0_takeDigit_31 hC ?_
        refine eX0_takeDigit_32 hC ?_
        refine eX0_takeDigit_33 hC (fun zz => absurd zz (nI_nlt c2 (by omega))) (fun _ => ?_)
        refine eX0_takeDigit_36 hC ?_
        refine eX0_takeDigit_37 hC ?_
        refine eX0_takeDigit_39 hC (fun zz => absurd zz (nI_ge (by omega) (by omega))) (fun _ => ?_)
        refine eX0_takeDigit_42 hC ?_
        refine eX0_takeDigit_43 hC hQ (Nat.le_of_ble_eq_true rfl) (Nat.le_of_ble_eq_true rfl) (Or.inl rfl) ?_
        exact ⟨by rw [zBv_f (fun q => c3 q.2.2)], rfl, zBfr.refl _ _, fun q => absurd q.2.2 c3⟩
    · refine eX0_takeDigit_0 hC ?_
      refine eX0_takeDigit_2 hC ?_
      refine eX0_takeDigit_3 hC (by assumption) (by assumption) ?_
      refine eX0_takeDigit_6 hC ?_
      refine eX0_takeDigit_7 hC (by assumption) ?_
      rw [s1]
      refine eX0_takeDigit_10 hC (Nat.le_of_ble_eq_true rfl) (Nat.le_of_ble_eq_true rfl) (Nat.le_of_ble_eq_true rfl) (by first | assumption | exact zRow.o (by assumption)) (vX6_at hC.nt h5) (zk_i ?_)
      rw [e2]
      refine eX0_takeDigit_13 hC ?_
      rw [pk_mul]
      refine eX0_takeDigit_14 hC ?_
      refine eX0_takeDigit_15 hC ?_
      rw [nI_add]
      refine eX0_takeDigit_16 hC ?_
      refine eX0_takeDigit_17 hC ?_
      refine eX0_takeDigit_18 hC (by assumption) (by assumption) ?_
      refine eX0_takeDigit_21 hC ?_
      refine eX0_takeDigit_22 hC (by assumption) ?_
      rw [s1]
      refine eX0_takeDigit_25 hC (Nat.le_of_ble_eq_true rfl) (Nat.le_of_ble_eq_true rfl) (Nat.le_of_ble_eq_true rfl) (by first | assumption | exact zRow.o (by assumption)) (vX6_at hC.nt h6) (zk_i ?_)
      rw [e1, c1]
      refine eX0_takeDigit_28 hC (fun zz => absurd zn00 zz) (fun _ => ?_)
      refine eX0_takeDigit_31 hC ?_
      refine eX0_takeDigit_32 hC ?_
      refine eX0_takeDigit_33 hC (fun _ => ?_) (fun zz => absurd (nI_lt (by omega) (by omega)) zz)
      refine eX0_takeDigit_42 hC ?_
      refine eX0_takeDigit_43 hC hQ (Nat.le_of_ble_eq_true rfl) (Nat.le_of_ble_eq_true rfl) (Or.inl rfl) ?_
      exact ⟨by rw [zBv_f (fun q => c2 q.2.1)], rfl, zBfr.refl _ _, fun q => absurd q.2.1 c2⟩
  · refine eX0_takeDigit_0 hC ?_
    refine eX0_takeDigit_2 hC ?_
    refine eX0_takeDigit_3 hC (by assumption) (by assumption) ?_
    refine eX0_takeDigit_6 hC ?_
    refine eX0_takeDigit_7 hC (by assumption) ?_
    rw [s1]
    refine eX0_takeDigit_10 hC (Nat.le_of_ble_eq_true rfl) (Nat.le_of_ble_eq_true rfl) (Nat.le_of_ble_eq_true rfl) (by first | assumption | exact zRow.o (by assumption)) (vX6_at hC.nt h5) (zk_i ?_)
    rw [e2]
    refine eX0_takeDigit_13 hC ?_
    rw [pk_mul]
    refine eX0_takeDigit_14 hC ?_
    refine eX0_takeDigit_15 hC ?_
    rw [nI_add]
    refine eX0_takeDigit_16 hC ?_
    refine eX0_takeDigit_17 hC ?_
    refine eX0_takeDigit_18 hC (by assumption) (by assumption) ?_
    refine eX0_takeDigit_21 hC ?_
    refine eX0_takeDigit_22 hC (by assumption) ?_
    rw [s1]
    refine eX0_takeDigit_25 hC (Nat.le_of_ble_eq_true rfl) (Nat.le_of_ble_eq_true rfl) (Nat.le_of_ble_eq_true rfl) (by first | assumption | exact zRow.o (by assumption)) (vX6_at hC.nt h6) (zk_i ?_)
    rw [e1]
    refine eX0_takeDigit_28 hC (fun _ => ?_) (fun zz => absurd zz (nI_ne0 (by omega) (by omega)))
    refine eX0_takeDigit_42 hC ?_
    refine eX0_takeDigit_43 hC hQ (Nat.le_of_ble_eq_true rfl) (Nat.le_of_ble_eq_true rfl) (Or.inl rfl) ?_
    exact ⟨by rw [zBv_f (fun q => c1 q.1)], rfl, zBfr.refl _ _, fun q => absurd q.1 c1⟩
