/-! ===== what a layout tells ===== -/
set_option maxHeartbeats 4000000 in
theorem vX3_widthOfLine {l : Launch} {g : zG} (hl : l.stackTraces = false) {K : zK} {μ : zF} {y t m j : Nat} {τ : Nat → Nat} (h : zLay K y t) (hT : zTxt K t) (hv : zTv μ t τ) (ho : zOk τ) (hy : zLv μ y τ m) (hj : j < zm τ m) : EX3_widthOfLine l g 0 0 [.ref y, .int (nI j)] K μ (zPi (nI (zlw τ m j)) K μ) := by
  obtain ⟨h0, h1, h2, h3, h4, h5, h6, h7, h8, h9⟩ := h
  obtain ⟨l1, l2, l3, l4⟩ := hy
  have o1 := ho.1
  obtain ⟨m1, m2, m3⟩ := zm_is τ m
  have e1 : zrd 41 (μ (y + 1 + 1)) (nI j) = nI (zL τ m j) := by rw [zrd_in (by omega) (by omega)]; exact l2 j (by omega)
  have e2 : zrd 41 (μ (y + 1 + 1)) (nI (j + 1)) = nI (zL τ m (j + 1)) := by rw [zrd_in (by omega) (by omega)]; exact l2 (j + 1) (by omega)
  have hlt := zL_lt (m3 j hj)
  have hle := zL_le τ m (j + 1)
  refine nX3_widthOfLine hl (fun x hC hQ => ?_)
  refine eX3_widthOfLine_0 hC ?_
  refine eX3_widthOfLine_1 hC (by assumption) (by assumption) ?_
  refine eX3_widthOfLine_4 hC ?_
  refine eX3_widthOfLine_5 hC (by assumption) (by assumption) ?_
  refine eX3_widthOfLine_8 hC ?_
  refine eX3_widthOfLine_9 hC (Nat.le_of_ble_eq_true rfl) (Nat.le_of_ble_eq_true rfl) (Nat.le_of_ble_eq_true rfl) (by first | assumption | exact zRow.o (by assumption)) (vX6_at hC.nt h6) (zk_i ?_)
  refine eX3_widthOfLine_12 hC ?_
  refine eX3_widthOfLine_13 hC (by assumption) (by assumption) ?_
  refine eX3_widthOfLine_16 hC ?_
  refine eX3_widthOfLine_17 hC ?_
  refine eX3_widthOfLine_18 hC ?_
  rw [nI_add]
  refine eX3_widthOfLine_19 hC (Nat.le_of_ble_eq_true rfl) (Nat.le_of_ble_eq_true rfl) (Nat.le_of_ble_eq_true rfl) (by first | assumption | exact zRow.o (by assumption)) (vX6_at hC.nt h6) (zk_i ?_)
  rw [e1, e2]
  refine eX3_widthOfLine_22 hC (Nat.le_of_ble_eq_true rfl) (Nat.le_of_ble_eq_true rfl) (Nat.le_of_ble_eq_true rfl) (by first | assumption | exact zFit.o (by assumption)) (vX1_widthBetween hC.nt h8 hT hv l4 o1 (by omega) hle) (zk_i ?_)
  rw [zwi_eq hlt]
  refine eX3_widthOfLine_25 hC hQ (Nat.le_of_ble_eq_true rfl) (Nat.le_of_ble_eq_true rfl) ?_
  exact ⟨rfl, rfl, rfl⟩
set_option maxHeartbeats 4000000 in
theorem vX3_isFirstOfParagraph {l : Launch} {g : zG} (hl : l.stackTraces = false) {K : zK} {μ : zF} {y t m j : Nat} {τ : Nat → Nat} (h : zLay K y t) (hT : zTxt K t) (hv : zTv μ t τ) (ho : zOk τ) (hy : zLv μ y τ m) (hj : j < zm τ m) : EX3_isFirstOfParagraph l g 0 0 [.ref y, .int (nI j)] K μ (zPi (zBv (zfp τ m j)) K μ) := by
  obtain ⟨h0, h1, h2, h3, h4, h5, h6, h7, h8, h9⟩ := h
  obtain ⟨l1, l2, l3, l4⟩ := hy
  have o1 := ho.1
  obtain ⟨m1, m2, m3⟩ := zm_is τ m
  have hn := m3 j hj
  have e1 : zrd 41 (μ (y + 1 + 1)) (nI j) = nI (zL τ m j) := by rw [zrd_in (by omega) (by omega)]; exact l2 j (by omega)
  refine nX3_isFirstOfParagraph hl (fun x hC hQ => ?_)
  by_cases c0 : zL τ m j = 0
  · refine eX3_isFirstOfParagraph_0 hC ?_
    refine eX3_isFirstOfParagraph_1 hC (by assumption) (by assumption) ?_
    refine eX3_isFirstOfParagraph_4 hC ?_
    refine eX3_isFirstOfParagraph_5 hC (Nat.le_of_ble_eq_true rfl) (Nat.le_of_ble_eq_true rfl) (Nat.le_of_ble_eq_true rfl) (by first | assumption | exact zRow.o (by assumption)) (vX6_at hC.nt h6) (zk_i ?_)
    rw [e1, c0]
    refine eX3_isFirstOfParagraph_8 hC ?_
    refine eX3_isFirstOfParagraph_9 hC ?_
    refine eX3_isFirstOfParagraph_10 hC (fun _ => ?_) (fun zz => absurd zn00 zz)
    refine eX3_isFirstOfParagraph_26 hC ?_
    refine eX3_isFirstOfParagraph_27 hC ?_
    refine eX3_isFirstOfParagraph_31 hC hQ (Nat.le_of_ble_eq_true rfl) (Nat.le_of_ble_eq_true rfl) (Or.inr rfl) ?_
    rw [zBv_t (p := zfp τ m j) (Or.inl c0)]
    exact ⟨rfl, rfl, rfl⟩
  · by_cases c1 : zpe τ (zL τ m j - 1)
    · refine eX3_isFirstOfParagraph_0 hC ?_
      refine eX3_isFirstOfParagraph_1 hC (by assumption) (by assumption) ?_
      refine eX3_isFirstOfParagraph_4 hC ?_
      refine eX3_isFirstOfParagraph_5 hC (Nat.le_of_ble_eq_true rfl) (Nat.le_of_ble_eq_true rfl) (Nat.le_of_ble_eq_true rfl) (by first | assumption | exact zRow.o (by assumption)) (vX6_at hC.nt h6) (zk_i ?_)
      rw [e1]
      refine eX3_isFirstOfParagraph_8 hC ?_
      refine eX3_isFirstOfParagraph_9 hC ?_
      refine eX3_isFirstOfParagraph_10 hC (fun zz => absurd zz (nI_ne0 (by omega) (by omega))) (fun _ => ?_)
      refine eX3_isFirstOfParagraph_13 hC ?_
      refine eX3_isFirstOfParagraph_14 hC (by assumption) (by assumption) ?_
      refine eX3_isFirstOfParagraph_17 hC ?_
      refine eX3_isFirstOfParagraph_18 hC ?_
      refine eX3_isFirstOfParagraph_19 hC ?_
      rw [nI_sub (by omega)]
      refine eX3_isFirstOfParagraph_20 hC (Nat.le_of_ble_eq_true rfl) (Nat.le_of_ble_eq_true rfl) (Nat.le_of_ble_eq_true rfl) (by first | assumption | exact zTxt.o (by assumption)) (vX7_endsParagraph hC.nt hT hv ho (by omega)) (zk_i ?_)
      rw [zBv_t c1]
      refine eX3_isFirstOfParagraph_23 hC (fun zz => absurd zz zn10) (fun _ => ?_)
      refine eX3_isFirstOfParagraph_26 hC ?_
      refine eX3_isFirstOfParagraph_27 hC ?_
      refine eX3_isFirstOfParagraph_31 hC hQ (Nat.le_of_ble_eq_true rfl) (Nat.le_of_ble_eq_true rfl) (Or.inr rfl) ?_
      rw [zBv_t (p := zfp τ m j) (Or.inr c1)]
      exact ⟨rfl, rfl, rfl⟩
    · refine eX3_isFirstOfParagraph_0 hC ?_
      refine eX3_isFirstOfParagraph_1 hC (by assumption) (by assumption) ?_
      refine eX3_isFirstOfParagraph_4 hC ?_
      refine eX3_isFirstOfParagraph_5 hC (Nat.le_of_ble_eq_true rfl) (Nat.le_of_ble_eq_true rfl) (Nat.le_of_ble_eq_true rfl) (by first | assumption | exact zRow.o (by assumption)) (vX6_at hC.nt h6) (zk_i ?_)
      rw [e1]
      refine eX3_isFirstOfParagraph_8 hC ?_
      refine eX3_isFirstOfParagraph_9 hC ?_
      refine eX3_isFirstOfParagraph_10 hC (fun zz => absurd zz (nI_ne0 (by omega) (by omega))) (fun _ => ?_)
      refine eX3_isFirstOfParagraph_13 hC ?_
      refine eX3_isFirstOfParagraph_14 hC (by assumption) (by assumption) ?_
      refine eX3_isFirstOfParagraph_17 hC ?_
      refine eX3_isFirstOfParagraph_18 hC ?_
      refine eX3_isFirstOfParagraph_19 hC ?_
      rw [nI_sub (by omega)]
      refine eX3_isFirstOfParagraph_20 hC (Nat.le_of_ble_eq_true rfl) (Nat.le_of_ble_eq_true rfl) (Nat.le_of_ble_eq_true rfl) (by first | assumption | exact zTxt.o (by assumption)) (vX7_endsParagraph hC.nt hT hv ho (by omega)) (zk_i ?_)
      rw [zBv_f c1]
      refine eX3_isFirstOfParagraph_23 hC (fun _ => ?_) (fun zz => absurd zn00 zz)
      refine eX3_isFirstOfParagraph_30 hC ?_
      refine eX3_isFirstOfParagraph_31 hC hQ (Nat.le_of_ble_eq_true rfl) (Nat.le_of_ble_eq_true rfl) (Or.inl rfl) ?_
      rw [zBv_f (p := zfp τ m j) (fun q => q.elim c0 c1)]
      exact ⟨rfl, rfl, rfl⟩
set_option maxHeartbeats 4000000 in
theorem vX3_isLastOfParagraph {l : Launch} {g : zG} (hl : l.stackTraces = false) {K : zK} {μ : zF} {y t m j : Nat} {τ : Nat → Nat} (h : zLay K y t) (hT : zTxt K t) (hv : zTv μ t τ) (ho : zOk τ) (hy : zLv μ y τ m) (hj : j < zm τ m) : EX3_isLastOfParagraph l g 0 0 [.ref y, .int (nI j)] K μ (zPi (zBv (zlp τ m j)) K μ) := by
  obtain ⟨h0, h1, h2, h3, h4, h5, h6, h7, h8, h9⟩ := h
  obtain ⟨l1, l2, l3, l4⟩ := hy
  have o1 := ho.1
  obtain ⟨m1, m2, m3⟩ := zm_is τ m
  have hlt := zL_lt (m3 j hj)
  have hle := zL_le τ m (j + 1)
  have e1 : zrd 41 (μ (y + 1 + 1)) (nI (j + 1)) = nI (zL τ m (j + 1)) := by rw [zrd_in (by omega) (by omega)]; exact l2 (j + 1) (by omega)
  refine nX3_isLastOfParagraph hl (fun x hC hQ => ?_)
  refine eX3_isLastOfParagraph_0 hC ?_
  refine eX3_isLastOfParagraph_1 hC (by assumption) (by assumption) ?_
  refine eX3_isLastOfParagraph_4 hC ?_
  refine eX3_isLastOfParagraph_5 hC (by assumption) (by assumption) ?_
  refine eX3_isLastOfParagraph_8 hC ?_
  refine eX3_isLastOfParagraph_9 hC ?_
  refine eX3_isLastOfParagraph_10 hC ?_
  rw [nI_add]
  refine eX3_isLastOfParagraph_11 hC (Nat.le_of_ble_eq_true rfl) (Nat.le_of_ble_eq_true rfl) (Nat.le_of_ble_eq_true rfl) (by first | assumption | exact zRow.o (by assumption)) (vX6_at hC.nt h6) (zk_i ?_)
  rw [e1]
  refine eX3_isLastOfParagraph_14 hC ?_
  refine eX3_isLastOfParagraph_15 hC ?_
  rw [nI_sub (by omega)]
  refine eX3_isLastOfParagraph_16 hC (Nat.le_of_ble_eq_true rfl) (Nat.le_of_ble_eq_true rfl) (Nat.le_of_ble_eq_true rfl) (by first | assumption | exact zTxt.o (by assumption)) (vX7_endsParagraph hC.nt hT hv ho (by omega)) (zk_i ?_)
  refine eX3_isLastOfParagraph_19 hC hQ (Nat.le_of_ble_eq_true rfl) (Nat.le_of_ble_eq_true rfl) (zBv_01 _) ?_
  exact ⟨rfl, rfl, rfl⟩
set_option maxHeartbeats 4000000 in
theorem vX3_opensParagraph {l : Launch} {g : zG} (hl : l.stackTraces = false) {K : zK} {μ : zF} {y t m j : Nat} {τ : Nat → Nat} (h : zLay K y t) (hT : zTxt K t) (hv : zTv μ t τ) (ho : zOk τ) (hy : zLv μ y τ m) (hj : j < zm τ m) : EX3_opensParagraph l g 0 0 [.ref y, .int (nI j)] K μ (zPi (zBv (zfp τ m j ∧ ¬ zlp τ m j)) K μ) := by
  have h0 := h.1
  refine nX3_opensParagraph hl (fun x hC hQ => ?_)
  by_cases c1 : zfp τ m j
  · by_cases c2 : zlp τ m j
    · refine eX3_opensParagraph_0 hC ?_
      refine eX3_opensParagraph_1 hC ?_
      refine eX3_opensParagraph_2 hC (Nat.le_of_ble_eq_true rfl) (Nat.le_of_ble_eq_true rfl) (Nat.le_of_ble_eq_true rfl) (by first | assumption | exact zLay.o (by assumption)) (vX3_isFirstOfParagraph hC.nt (by assumption) (by assumption) (by assumption) (by assumption) (by assumption) (by omega)) (zk_i ?_)
      rw [zBv_t c1]
      refine eX3_opensParagraph_5 hC (fun zz => absurd zz zn10) (fun _ => ?_)
      refine eX3_opensParagraph_8 hC ?_
      refine eX3_opensParagraph_9 hC ?_
      refine eX3_opensParagraph_10 hC (Nat.le_of_ble_eq_true rfl) (Nat.le_of_ble_eq_true rfl) (Nat.le_of_ble_eq_true rfl) (by first | assumption | exact zLay.o (by assumption)) (vX3_isLastOfParagraph hC.nt (by assumption) (by assumption) (by assumption) (by assumption) (by assumption) (by omega)) (zk_i ?_)
      rw [zBv_t c2]
      refine eX3_opensParagraph_13 hC (fun _ => ?_) (fun zz => absurd zz zn10)
      refine eX3_opensParagraph_20 hC ?_
      refine eX3_opensParagraph_21 hC hQ (Nat.le_of_ble_eq_true rfl) (Nat.le_of_ble_eq_true rfl) (Or.inl rfl) ?_
      rw [zBv_f (p := zfp τ m j ∧ ¬ zlp τ m j) (fun q => q.2 c2)]
      exact ⟨rfl, rfl, rfl⟩
    · refine eX3_opensParagraph_0 hC ?_
      refine eX3_opensParagraph_1 hC ?_
      refine eX3_opensParagraph_2 hC (Nat.le_of_ble_eq_true rfl) (Nat.le_of_ble_eq_true rfl) (Nat.le_of_ble_eq_true rfl) (by first | assumption | exact zLay.o (by assumption)) (vX3_isFirstOfParagraph hC.nt (by assumption) (by assumption) (by assumption) (by assumption) (by assumption) (by omega)) (zk_i ?_)
      rw [zBv_t c1]
      refine eX3_opensParagraph_5 hC (fun zz => absurd zz zn10) (fun _ => ?_)
      refine eX3_opensParagraph_8 hC ?_
      refine eX3_opensParagraph_9 hC ?_
      refine eX3_opensParagraph_10 hC (Nat.le_of_ble_eq_true rfl) (Nat.le_of_ble_eq_true rfl) (Nat.le_of_ble_eq_true rfl) (by first | assumption | exact zLay.o (by assumption)) (vX3_isLastOfParagraph hC.nt (by assumption) (by assumption) (by assumption) (by assumption) (by assumption) (by omega)) (zk_i ?_)
      rw [zBv_f c2]
      refine eX3_opensParagraph_13 hC (fun zz => absurd zn00 zz) (fun _ => ?_)
      refine eX3_opensParagraph_16 hC ?_
      refine eX3_opensParagraph_17 hC ?_
      refine eX3_opensParagraph_21 hC hQ (Nat.le_of_ble_eq_true rfl) (Nat.le_of_ble_eq_true rfl) (Or.inr rfl) ?_
      rw [zBv_t (p := zfp τ m j ∧ ¬ zlp τ m j) ⟨c1, c2⟩]
      exact ⟨rfl, rfl, rfl⟩
  · refine eX3_opensParagraph_0 hC ?_
    refine eX3_opensParagraph_1 hC ?_
    refine eX3_opensParagraph_2 hC (Nat.le_of_ble_eq_true rfl) (Nat.le_of_ble_eq_true rfl) (Nat.le_of_ble_eq_true rfl) (by first | assumption | exact zLay.o (by assumption)) (vX3_isFirstOfParagraph hC.nt (by assumption) (by assumption) (by assumption) (by assumption) (by assumption) (by omega)) (zk_i ?_)
    rw [zBv_f c1]
    refine eX3_opensParagraph_5 hC (fun _ => ?_) (fun zz => absurd zn00 zz)
    refine eX3_opensParagraph_20 hC ?_
    refine eX3_opensParagraph_21 hC hQ (Nat.le_of_ble_eq_true rfl) (Nat.le_of_ble_eq_true rfl) (Or.inl rfl) ?_
    rw [zBv_f (p := zfp τ m j ∧ ¬ zlp τ m j) (fun q => c1 q.1)]
    exact ⟨rfl, rfl, rfl⟩
set_option maxHeartbeats 4000000 in
theorem vX3_closesParagraph {l : Launch} {g : zG} (hl : l.stackTraces = false) {K : zK} {μ : zF} {y t m j : Nat} {τ : Nat → Nat} (h : zLay K y t) (hT : zTxt K t) (hv : zTv μ t τ) (ho : zOk τ) (hy : zLv μ y τ m) (hj : j < zm τ m) : EX3_closesParagraph l g 0 0 [.ref y, .int (nI j)] K μ (zPi (zBv (zlp τ m j ∧ ¬ zfp τ m j)) K μ) := by
  have h0 := h.1
  refine nX3_closesParagraph hl (fun x hC hQ => ?_)
  by_cases c1 : zlp τ m j
  · by_cases c2 : zfp τ m j
    · refine eX3_closesParagraph_0 hC ?_
      refine eX3_closesParagraph_1 hC ?_
      refine eX3_closesParagraph_2 hC (Nat.le_of_ble_eq_true rfl) (Nat.le_of_ble_eq_true rfl) (Nat.le_of_ble_eq_true rfl) (by first | assumption | exact zLay.o (by assumption)) (vX3_isLastOfParagraph hC.nt (by assumption) (by assumption) (by assumption) (by assumption) (by assumption) (by omega)) (zk_i ?_)
      rw [zBv_t c1]
      refine eX3_closesParagraph_5 hC (fun zz => absurd zz zn10) (fun _ => ?_)
      refine eX3_closesParagraph_8 hC ?_
      refine eX3_closesParagraph_9 hC ?_
      refine eX3_closesParagraph_10 hC (Nat.le_of_ble_eq_true rfl) (Nat.le_of_ble_eq_true rfl) (Nat.le_of_ble_eq_true rfl) (by first | assumption | exact zLay.o (by assumption)) (vX3_isFirstOfParagraph hC.nt (by assumption) (by assumption) (by assumption) (by assumption) (by assumption) (by omega)) (zk_i ?_)
      rw [zBv_t c2]
      refine eX3_closesParagraph_13 hC (fun _ => ?_) (fun zz => absurd zz zn10)
      refine eX3_closesParagraph_20 hC ?_
      refine eX3_closesParagraph_21 hC hQ (Nat.le_of_ble_eq_true rfl) (Nat.le_of_ble_eq_true rfl) (Or.inl rfl) ?_
      rw [zBv_f (p := zlp τ m j ∧ ¬ zfp τ m j) (fun q => q.2 c2)]
      exact ⟨rfl, rfl, rfl⟩
    · refine eX3_closesParagraph_0 hC ?_
      refine eX3_closesParagraph_1 hC ?_
      refine eX3_closesParagraph_2 hC (Nat.le_of_ble_eq_true rfl) (Nat.le_of_ble_eq_true rfl) (Nat.le_of_ble_eq_true rfl) (by first | assumption | exact zLay.o (by assumption)) (vX3_isLastOfParagraph hC.nt (by assumption) (by assumption) (by assumption) (by assumption) (by assumption) (by omega)) (zk_i ?_)
      rw [zBv_t c1]
      refine eX3_closesParagraph_5 hC (fun zz => absurd zz zn10) (fun _ => ?_)
      refine eX3_closesParagraph_8 hC ?_
      refine eX3_closesParagraph_9 hC ?_
      refine eX3_closesParagraph_10 hC (Nat.le_of_ble_eq_true rfl) (Nat.le_of_ble_eq_true rfl) (Nat.le_of_ble_eq_true rfl) (by first | assumption | exact zLay.o (by assumption)) (vX3_isFirstOfParagraph hC.nt (by assumption) (by assumption) (by assumption) (by assumption) (by assumption) (by omega)) (zk_i ?_)
      rw [zBv_f c2]
      refine eX3_closesParagraph_13 hC (fun zz => absurd zn00 zz) (fun _ => ?_)
      refine eX3_closesParagraph_16 hC ?_
      refine eX3_closesParagraph_17 hC ?_
      refine eX3_closesParagraph_21 hC hQ (Nat.le_of_ble_eq_true rfl) (Nat.le_of_ble_eq_true rfl) (Or.inr rfl) ?_
      rw [zBv_t (p := zlp τ m j ∧ ¬ zfp τ m j) ⟨c1, c2⟩]
      exact ⟨rfl, rfl, rfl⟩
  · refine eX3_closesParagraph_0 hC ?_
    refine eX3_closesParagraph_1 hC ?_
    refine eX3_closesParagraph_2 hC (Nat.le_of_ble_eq_true rfl) (Nat.le_of_ble_eq_true rfl) (Nat.le_of_ble_eq_true rfl) (by first | assumption | exact zLay.o (by assumption)) (vX3_isLastOfParagraph hC.nt (by assumption) (by assumption) (by assumption) (by assumption) (by assumption) (by omega)) (zk_i ?_)
    rw [zBv_f c1]
    refine eX3_closesParagraph_5 hC (fun _ => ?_) (fun zz => absurd zn00 zz)
    refine eX3_closesParagraph_20 hC ?_
    refine eX3_closesParagraph_21 hC hQ (Nat.le_of_ble_eq_true rfl) (Nat.le_of_ble_eq_true rfl) (Or.inl rfl) ?_
    rw [zBv_f (p := zlp τ m j ∧ ¬ zfp τ m j) (fun q => c1 q.1)]
    exact ⟨rfl, rfl, rfl⟩
set_option maxHeartbeats 4000000 in
theorem vX3_stairAround {l : Launch} {g : zG} (hl : l.stackTraces = false) {K : zK} {μ : zF} {y t m j : Nat} {τ : Nat → Nat} (h : zLay K y t) (hT : zTxt K t) (hv : zTv μ t τ) (ho : zOk τ) (hy : zLv μ y τ m) (hj : j < zm τ m) : EX3_stairAround l g 0 0 [.ref y, .int (nI j)] K μ (zPi (nI (zsa τ m j) - nI 1) K μ) := by
  have hLy := h
  obtain ⟨h0, h1, h2, h3, h4, h5, h6, h7, h8, h9⟩ := h
  have hcol := ho.2.2.2.1
  have hstp := ho.2.2.2.2.2.1
  have hmm := (zm_is τ m).1
  have o1 := ho.1
  have z0 : nI 0 = nI 1 - nI 1 := by decide
  refine nX3_stairAround hl (fun x hC hQ => ?_)
  by_cases c1 : zfp τ m j
  · refine eX3_stairAround_0 hC ?_
    refine eX3_stairAround_1 hC ?_
    refine eX3_stairAround_2 hC (Nat.le_of_ble_eq_true rfl) (Nat.le_of_ble_eq_true rfl) (Nat.le_of_ble_eq_true rfl) (by first | assumption | exact zLay.o (by assumption)) (vX3_isFirstOfParagraph hC.nt (by assumption) (by assumption) (by assumption) (by assumption) (by assumption) (by omega)) (zk_i ?_)
    rw [zBv_t c1]
    refine eX3_stairAround_5 hC (fun _ => ?_) (fun zz => absurd zz zn10)
    refine eX3_stairAround_26 hC ?_
    refine eX3_stairAround_27 hC hQ (Nat.le_of_ble_eq_true rfl) (Nat.le_of_ble_eq_true rfl) ?_
    have hz : zsa τ m j = 1 := by unfold zsa; rw [zif_t (Or.inl c1)]
    rw [hz]
    exact ⟨rfl, rfl, rfl⟩
  · by_cases c2 : zlp τ m j
    · refine eX3_stairAround_0 hC ?_
      refine eX3_stairAround_1 hC ?_
      refine eX3_stairAround_2 hC (Nat.le_of_ble_eq_true rfl) (Nat.le_of_ble_eq_true rfl) (Nat.le_of_ble_eq_true rfl) (by first | assumption | exact zLay.o (by assumption)) (vX3_isFirstOfParagraph hC.nt (by assumption) (by assumption) (by assumption) (by assumption) (by assumption) (by omega)) (zk_i ?_)
      rw [zBv_f c1]
      refine eX3_stairAround_5 hC (fun zz => absurd zn00 zz) (fun _ => ?_)
      refine eX3_stairAround_8 hC ?_
      refine eX3_stairAround_9 hC ?_
      refine eX3_stairAround_10 hC (Nat.le_of_ble_eq_true rfl) (Nat.le_of_ble_eq_true rfl) (Nat.le_of_ble_eq_true rfl) (by first | assumption | exact zLay.o (by assumption)) (vX3_isLastOfParagraph hC.nt (by assumption) (by assumption) (by assumption) (by assumption) (by assumption) (by omega)) (zk_i ?_)
      rw [zBv_t c2]
      refine eX3_stairAround_13 hC (fun _ => ?_) (fun zz => absurd zz zn10)
      refine eX3_stairAround_26 hC ?_
      refine eX3_stairAround_27 hC hQ (Nat.le_of_ble_eq_true rfl) (Nat.le_of_ble_eq_true rfl) ?_
      have hz : zsa τ m j = 1 := by unfold zsa; rw [zif_t (Or.inr (Or.inl c2))]
      rw [hz]
      exact ⟨rfl, rfl, rfl⟩
    · have hj1 := zlp_last hj c2
      by_cases c3 : zlp τ m (j + 1)
      · refine eX3_stairAround_0 hC ?_
        refine eX3_stairAround_1 hC ?_
        refine eX3_stairAround_2 hC (Nat.le_of_ble_eq_true rfl) (Nat.le_of_ble_eq_true rfl) (Nat.le_of_ble_eq_true rfl) (by first | assumption | exact zLay.o (by assumption)) (vX3_isFirstOfParagraph hC.nt (by assumption) (by assumption) (by assumption) (by assumption) (by assumption) (by omega)) (zk_i ?_)
        rw [zBv_f c1]
        refine eX3_stairAround_5 hC (fun zz => absurd zn00 zz) (fun _ => ?_)
        refine eX3_stairAround_8 hC ?_
        refine eX3_stairAround_9 hC ?_
        refine eX3_stairAround_10 hC (Nat.le_of_ble_eq_true rfl) (Nat.le_of_ble_eq_true rfl) (Nat.le_of_ble_eq_true rfl) (by first | assumption | exact zLay.o (by assumption)) (vX3_isLastOfParagraph hC.nt (by assumption) (by assumption) (by assumption) (by assumption) (by assumption) (by omega)) (zk_i ?_)
        rw [zBv_f c2]
        refine eX3_stairAround_13 hC (fun zz => absurd zn00 zz) (fun _ => ?_)
        refine eX3_stairAround_16 hC ?_
        refine eX3_stairAround_17 hC ?_
        refine eX3_stairAround_18 hC ?_
        refine eX3_stairAround_19 hC ?_
        rw [nI_add]
        refine eX3_stairAround_20 hC (Nat.le_of_ble_eq_true rfl) (Nat.le_of_ble_eq_true rfl) (Nat.le_of_ble_eq_true rfl) (by first | assumption | exact zLay.o (by assumption)) (vX3_isLastOfParagraph hC.nt (by assumption) (by assumption) (by assumption) (by assumption) (by assumption) (by omega)) (zk_i ?_)
        rw [zBv_t c3]
        refine eX3_stairAround_23 hC (fun zz => absurd zz zn10) (fun _ => ?_)
        refine eX3_stairAround_26 hC ?_
        refine eX3_stairAround_27 hC hQ (Nat.le_of_ble_eq_true rfl) (Nat.le_of_ble_eq_true rfl) ?_
        have hz : zsa τ m j = 1 := by unfold zsa; rw [zif_t (Or.inr (Or.inr c3))]
        rw [hz]
        exact ⟨rfl, rfl, rfl⟩
      · have hz : zsa τ m j = if ztn τ (zlw τ m (j - 1)) (zlw τ m j) = ztn τ (zlw τ m j) (zlw τ m (j + 1)) then ztn τ (zlw τ m (j - 1)) (zlw τ m j) else 1 := by
          unfold zsa; rw [zif_f (fun q => q.elim c1 (fun q => q.elim c2 c3))]
        have w0 := zlw_col ho (m := m) (k := j - 1) (by omega)
        have w1 := zlw_col ho hj
        have w2 := zlw_col ho hj1
        have hj0 := zfp_0 c1
        have t1 := ztn_le τ (zlw τ m (j - 1)) (zlw τ m j)
        have t2 := ztn_le τ (zlw τ m j) (zlw τ m (j + 1))
        by_cases c4 : ztn τ (zlw τ m (j - 1)) (zlw τ m j) = ztn τ (zlw τ m j) (zlw τ m (j + 1))
        · rw [if_pos c4] at hz
          refine eX3_stairAround_0 hC ?_
          refine eX3_stairAround_1 hC ?_
          refine eX3_stairAround_2 hC (Nat.le_of_ble_eq_true rfl) (Nat.le_of_ble_eq_true rfl) (Nat.le_of_ble_eq_true rfl) (by first | assumption | exact zLay.o (by assumption)) (vX3_isFirstOfParagraph hC.nt (by assumption) (by assumption) (by assumption) (by assumption) (by assumption) (by omega)) (zk_i ?_)
          rw [zBv_f c1]
          refine eX3_stairAround_5 hC (fun zz => absurd zn00 zz) (fun _ => ?_)
          refine eX3_stairAround_8 hC ?_
          refine eX3_stairAround_9 hC ?_
          refine eX3_stairAround_10 hC (Nat.le_of_ble_eq_true rfl) (Nat.le_of_ble_eq_true rfl) (Nat.le_of_ble_eq_true rfl) (by first | assumption | exact zLay.o (by assumption)) (vX3_isLastOfParagraph hC.nt (by assumption) (by assumption) (by assumption) (by assumption) (by assumption) (by omega)) (zk_i ?_)
          rw [zBv_f c2]
          refine eX3_stairAround_13 hC (fun zz => absurd zn00 zz) (fun _ => ?_)
          refine eX3_stairAround_16 hC ?_
          refine eX3_stairAround_17 hC ?_
          refine eX3_stairAround_18 hC ?_
          refine eX3_stairAround_19 hC ?_
          rw [nI_add]
          refine eX3_stairAround_20 hC (Nat.le_of_ble_eq_true rfl) (Nat.le_of_ble_eq_true rfl) (Nat.le_of_ble_eq_true rfl) (by first | assumption | exact zLay.o (by assumption)) (vX3_isLastOfParagraph hC.nt (by assumption) (by assumption) (by assumption) (by assumption) (by assumption) (by omega)) (zk_i ?_)
          rw [zBv_f c3]
          refine eX3_stairAround_23 hC (fun _ => ?_) (fun zz => absurd zn00 zz)
          refine eX3_stairAround_28 hC ?_
          refine eX3_stairAround_29 hC (by assumption) (by assumption) ?_
          refine eX3_stairAround_32 hC ?_
          refine eX3_stairAround_33 hC ?_
          refine eX3_stairAround_34 hC ?_
          refine eX3_stairAround_35 hC ?_
          rw [nI_sub (by omega)]
          refine eX3_stairAround_36 hC (Nat.le_of_ble_eq_true rfl) (Nat.le_of_ble_eq_true rfl) (Nat.le_of_ble_eq_true rfl) (by first | assumption | exact zLay.o (by assumption)) (vX3_widthOfLine hC.nt (by assumption) (by assumption) (by assumption) (by assumption) (by assumption) (by omega)) (zk_i ?_)
          refine eX3_stairAround_39 hC ?_
          refine eX3_stairAround_40 hC ?_
          refine eX3_stairAround_41 hC (Nat.le_of_ble_eq_true rfl) (Nat.le_of_ble_eq_true rfl) (Nat.le_of_ble_eq_true rfl) (by first | assumption | exact zLay.o (by assumption)) (vX3_widthOfLine hC.nt (by assumption) (by assumption) (by assumption) (by assumption) (by assumption) (by omega)) (zk_i ?_)
          refine eX3_stairAround_44 hC (Nat.le_of_ble_eq_true rfl) (Nat.le_of_ble_eq_true rfl) (Nat.le_of_ble_eq_true rfl) (by first | assumption | exact zTxt.o (by assumption)) (vX7_turn hC.nt (by assumption) (by assumption) (by omega) (by omega) (by omega)) (zk_i ?_)
          refine eX3_stairAround_47 hC ?_
          refine eX3_stairAround_48 hC ?_
          refine eX3_stairAround_49 hC ?_
          refine eX3_stairAround_50 hC (by assumption) (by assumption) ?_
          refine eX3_stairAround_53 hC ?_
          refine eX3_stairAround_54 hC ?_
          refine eX3_stairAround_55 hC (Nat.le_of_ble_eq_true rfl) (Nat.le_of_ble_eq_true rfl) (Nat.le_of_ble_eq_true rfl) (by first | assumption | exact zLay.o (by assumption)) (vX3_widthOfLine hC.nt (by assumption) (by assumption) (by assumption) (by assumption) (by assumption) (by omega)) (zk_i ?_)
          refine eX3_stairAround_58 hC ?_
          refine eX3_stairAround_59 hC ?_
          refine eX3_stairAround_60 hC ?_
          refine eX3_stairAround_61 hC ?_
          rw [nI_add]
          refine eX3_stairAround_62 hC (Nat.le_of_ble_eq_true rfl) (Nat.le_of_ble_eq_true rfl) (Nat.le_of_ble_eq_true rfl) (by first | assumption | exact zLay.o (by assumption)) (vX3_widthOfLine hC.nt (by assumption) (by assumption) (by assumption) (by assumption) (by assumption) (by omega)) (zk_i ?_)
          refine eX3_stairAround_65 hC (Nat.le_of_ble_eq_true rfl) (Nat.le_of_ble_eq_true rfl) (Nat.le_of_ble_eq_true rfl) (by first | assumption | exact zTxt.o (by assumption)) (vX7_turn hC.nt (by assumption) (by assumption) (by omega) (by omega) (by omega)) (zk_i ?_)
          refine eX3_stairAround_68 hC (fun zz => absurd (by rw [c4]) zz) (fun _ => ?_)
          refine eX3_stairAround_71 hC ?_
          refine eX3_stairAround_72 hC ?_
          refine eX3_stairAround_76 hC hQ (Nat.le_of_ble_eq_true rfl) (Nat.le_of_ble_eq_true rfl) ?_
          rw [hz]
          exact ⟨rfl, rfl, rfl⟩
        · rw [if_neg c4] at hz
          refine eX3_stairAround_0 hC ?_
          refine eX3_stairAround_1 hC ?_
          refine eX3_stairAround_2 hC (Nat.le_of_ble_eq_true rfl) (Nat.le_of_ble_eq_true rfl) (Nat.le_of_ble_eq_true rfl) (by first | assumption | exact zLay.o (by assumption)) (vX3_isFirstOfParagraph hC.nt (by assumption) (by assumption) (by assumption) (by assumption) (by assumption) (by omega)) (zk_i ?_)
          rw [zBv_f c1]
          refine eX3_stairAround_5 hC (fun zz => absurd zn00 zz) (fun _ => ?_)
          refine eX3_stairAround_8 hC ?_
          refine eX3_stairAround_9 hC ?_
          refine eX3_stairAround_10 hC (Nat.le_of_ble_eq_true rfl) (Nat.le_of_ble_eq_true rfl) (Nat.le_of_ble_eq_true rfl) (by first | assumption | exact zLay.o (by assumption)) (vX3_isLastOfParagraph hC.nt (by assumption) (by assumption) (by assumption) (by assumption) (by assumption) (by omega)) (zk_i ?_)
          rw [zBv_f c2]
          refine eX3_stairAround_13 hC (fun zz => absurd zn00 zz) (fun _ => ?_)
          refine eX3_stairAround_16 hC ?_
          refine eX3_stairAround_17 hC ?_
          refine eX3_stairAround_18 hC ?_
          refine eX3_stairAround_19 hC ?_
          rw [nI_add]
          refine eX3_stairAround_20 hC (Nat.le_of_ble_eq_true rfl) (Nat.le_of_ble_eq_true rfl) (Nat.le_of_ble_eq_true rfl) (by first | assumption | exact zLay.o (by assumption)) (vX3_isLastOfParagraph hC.nt (by assumption) (by assumption) (by assumption) (by assumption) (by assumption) (by omega)) (zk_i ?_)
          rw [zBv_f c3]
          refine eX3_stairAround_23 hC (fun _ => ?_) (fun zz => absurd zn00 zz)
          refine eX3_stairAround_28 hC ?_
          refine eX3_stairAround_29 hC (by assumption) (by assumption) ?_
          refine eX3_stairAround_32 hC ?_
          refine eX3_stairAround_33 hC ?_
          refine eX3_stairAround_34 hC ?_
          refine eX3_stairAround_35 hC ?_
          rw [nI_sub (by omega)]
          refine eX3_stairAround_36 hC (Nat.le_of_ble_eq_true rfl) (Nat.le_of_ble_eq_true rfl) (Nat.le_of_ble_eq_true rfl) (by first | assumption | exact zLay.o (by assumption)) (vX3_widthOfLine hC.nt (by assumption) (by assumption) (by assumption) (by assumption) (by assumption) (by omega)) (zk_i ?_)
          refine eX3_stairAround_39 hC ?_
          refine eX3_stairAround_40 hC ?_
          refine eX3_stairAround_41 hC (Nat.le_of_ble_eq_true rfl) (Nat.le_of_ble_eq_true rfl) (Nat.le_of_ble_eq_true rfl) (by first | assumption | exact zLay.o (by assumption)) (vX3_widthOfLine hC.nt (by assumption) (by assumption) (by assumption) (by assumption) (by assumption) (by omega)) (zk_i ?_)
          refine eX3_stairAround_44 hC (Nat.le_of_ble_eq_true rfl) (Nat.le_of_ble_eq_true rfl) (Nat.le_of_ble_eq_true rfl) (by first | assumption | exact zTxt.o (by assumption)) (vX7_turn hC.nt (by assumption) (by assumption) (by omega) (by omega) (by omega)) (zk_i ?_)
          refine eX3_stairAround_47 hC ?_
          refine eX3_stairAround_48 hC ?_
          refine eX3_stairAround_49 hC ?_
          refine eX3_stairAround_50 hC (by assumption) (by assumption) ?_
          refine eX3_stairAround_53 hC ?_
          refine eX3_stairAround_54 hC ?_
          refine eX3_stairAround_55 hC (Nat.le_of_ble_eq_true rfl) (Nat.le_of_ble_eq_true rfl) (Nat.le_of_ble_eq_true rfl) (by first | assumption | exact zLay.o (by assumption)) (vX3_widthOfLine hC.nt (by assumption) (by assumption) (by assumption) (by assumption) (by assumption) (by omega)) (zk_i ?_)
          refine eX3_stairAround_58 hC ?_
          refine eX3_stairAround_59 hC ?_
          refine eX3_stairAround_60 hC ?_
          refine eX3_stairAround_61 hC ?_
          rw [nI_add]
          refine eX3_stairAround_62 hC (Nat.le_of_ble_eq_true rfl) (Nat.le_of_ble_eq_true rfl) (Nat.le_of_ble_eq_true rfl) (by first | assumption | exact zLay.o (by assumption)) (vX3_widthOfLine hC.nt (by assumption) (by assumption) (by assumption) (by assumption) (by assumption) (by omega)) (zk_i ?_)
          refine eX3_stairAround_65 hC (Nat.le_of_ble_eq_true rfl) (Nat.le_of_ble_eq_true rfl) (Nat.le_of_ble_eq_true rfl) (by first | assumption | exact zTxt.o (by assumption)) (vX7_turn hC.nt (by assumption) (by assumption) (by omega) (by omega) (by omega)) (zk_i ?_)
          refine eX3_stairAround_68 hC (fun _ => ?_) (fun zz => absurd zz (fun q => c4 (zti_inj t1 t2 q)))
          refine eX3_stairAround_75 hC ?_
          refine eX3_stairAround_76 hC hQ (Nat.le_of_ble_eq_true rfl) (Nat.le_of_ble_eq_true rfl) ?_
          rw [hz]
          exact ⟨rfl, rfl, rfl⟩
set_option maxHeartbeats 4000000 in
theorem vX3_countStairs {l : Launch} {g : zG} (hl : l.stackTraces = false) {K : zK} {μ : zF} {y t m : Nat} {τ : Nat → Nat} (h : zLay K y t) (hT : zTxt K t) (hv : zTv μ t τ) (ho : zOk τ) (hy : zLv μ y τ m) : EX3_countStairs l g 0 0 [.ref y] K μ (zPi (nI (zct (fun j => zsa τ m j ≠ 1) (zm τ m))) K μ) := by
  have h0 := h.1
  have hs := hy.1
  have hmm := (zm_is τ m).1
  have o1 := ho.1
  refine nX3_countStairs hl (fun x hC hQ => ?_)
  have loop : ∀ d k : Nat, k + d = zm τ m → zV x 0 0 4 [some (.ref y), some (.int (nI (zct (fun j => zsa τ m j ≠ 1) k))), some (.int (nI k))] [] K μ := by
    intro d
    induction d with
    | zero =>
      intro k hk
      have hk : k = zm τ m := by omega
      subst hk
      refine eX3_countStairs_4 hC ?_
      refine eX3_countStairs_5 hC ?_
      refine eX3_countStairs_6 hC (by assumption) ?_
      rw [hs]
      refine eX3_countStairs_9 hC (fun _ => ?_) (fun zz => absurd (nI_le (Nat.le_refl _) (by omega)) zz)
      refine eX3_countStairs_29 hC ?_
      refine eX3_countStairs_30 hC hQ (Nat.le_of_ble_eq_true rfl) (Nat.le_of_ble_eq_true rfl) ?_
      exact ⟨rfl, rfl, rfl⟩
    | succ d ih =>
      intro k hk
      have ih' := ih (k + 1) (by omega)
      have hle := zsa_le τ m k
      by_cases c : zsa τ m k = 1
      · rw [zct_f (p := fun j => zsa τ m j ≠ 1) (fun q => q c)] at ih'
        refine eX3_countStairs_4 hC ?_
        refine eX3_countStairs_5 hC ?_
        refine eX3_countStairs_6 hC (by assumption) ?_
        rw [hs]
        refine eX3_countStairs_9 hC (fun zz => absurd zz (nI_ge (by omega) (by omega))) (fun _ => ?_)
        refine eX3_countStairs_12 hC ?_
        refine eX3_countStairs_13 hC ?_
        refine eX3_countStairs_14 hC (Nat.le_of_ble_eq_true rfl) (Nat.le_of_ble_eq_true rfl) (Nat.le_of_ble_eq_true rfl) (by first | assumption | exact zLay.o (by assumption)) (vX3_stairAround hC.nt (by assumption) (by assumption) (by assumption) (by assumption) (by assumption) (by omega)) (zk_i ?_)
        rw [c]
        refine eX3_countStairs_17 hC (fun _ => ?_) (fun zz => absurd (by decide) zz)
        refine eX3_countStairs_23 hC ?_
        rw [nI_add]
        refine eX3_countStairs_26 hC ?_
        exact ih'
      · rw [zct_t (p := fun j => zsa τ m j ≠ 1) c] at ih'
        refine eX3_countStairs_4 hC ?_
        refine eX3_countStairs_5 hC ?_
        refine eX3_countStairs_6 hC (by assumption) ?_
        rw [hs]
        refine eX3_countStairs_9 hC (fun zz => absurd zz (nI_ge (by omega) (by omega))) (fun _ => ?_)
        refine eX3_countStairs_12 hC ?_
        refine eX3_countStairs_13 hC ?_
        refine eX3_countStairs_14 hC (Nat.le_of_ble_eq_true rfl) (Nat.le_of_ble_eq_true rfl) (Nat.le_of_ble_eq_true rfl) (by first | assumption | exact zLay.o (by assumption)) (vX3_stairAround hC.nt (by assumption) (by assumption) (by assumption) (by assumption) (by assumption) (by omega)) (zk_i ?_)
        refine eX3_countStairs_17 hC (fun zz => absurd zz (zti_0 hle c)) (fun _ => ?_)
        refine eX3_countStairs_20 hC ?_
        rw [nI_add]
        refine eX3_countStairs_23 hC ?_
        rw [nI_add]
        refine eX3_countStairs_26 hC ?_
        exact ih'
  refine eX3_countStairs_0 hC ?_
  refine eX3_countStairs_1 hC ?_
  refine eX3_countStairs_2 hC ?_
  refine eX3_countStairs_3 hC ?_
  exact loop (zm τ m) 0 (by omega)
