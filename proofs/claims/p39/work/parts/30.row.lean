/-! ===== rows ===== -/
set_option maxHeartbeats 4000000 in
theorem vX6_at {l : Launch} {g : zG} (hl : l.stackTraces = false) {K : zK} {μ : zF} {r n : Nat} {i : Int32} (h : zRow K r n) : EX6_at l g 0 0 [.ref r, .int i] K μ (zPi (zrd n (μ (r + 1)) i) K μ) := by
  obtain ⟨h0, h1, h2, hn⟩ := h
  refine nX6_at hl (fun x hC hQ => ?_)
  refine eX6_at_0 hC ?_
  refine eX6_at_1 hC (fun c_1 => ?_) (fun c_1 => ?_)
  · refine eX6_at_22 hC ?_
    refine eX6_at_23 hC hQ (Nat.le_of_ble_eq_true rfl) (Nat.le_of_ble_eq_true rfl) ?_
    first
    | exact ⟨by rw [zrd, if_pos (Or.inl c_1)], rfl, rfl⟩
    | exact ⟨by rw [zrd, if_pos (Or.inr c_10)], rfl, rfl⟩
    | exact ⟨by rw [zrd, if_neg (fun h => h.elim c_1 c_10)], rfl, rfl⟩
  · refine eX6_at_4 hC ?_
    refine eX6_at_5 hC ?_
    refine eX6_at_6 hC (by assumption) (by assumption) ?_
    refine eX6_at_9 hC (by assumption) (by decide) ?_
    refine eX6_at_10 hC (fun c_10 => ?_) (fun c_10 => ?_)
    · refine eX6_at_22 hC ?_
      refine eX6_at_23 hC hQ (Nat.le_of_ble_eq_true rfl) (Nat.le_of_ble_eq_true rfl) ?_
      first
      | exact ⟨by rw [zrd, if_pos (Or.inl c_1)], rfl, rfl⟩
      | exact ⟨by rw [zrd, if_pos (Or.inr c_10)], rfl, rfl⟩
      | exact ⟨by rw [zrd, if_neg (fun h => h.elim c_1 c_10)], rfl, rfl⟩
    · refine eX6_at_13 hC ?_
      refine eX6_at_14 hC (by assumption) (by assumption) ?_
      refine eX6_at_17 hC ?_
      refine eX6_at_18 hC (by assumption) (zin_of hn c_1 c_10) ?_
      refine eX6_at_19 hC ?_
      refine eX6_at_23 hC hQ (Nat.le_of_ble_eq_true rfl) (Nat.le_of_ble_eq_true rfl) ?_
      first
      | exact ⟨by rw [zrd, if_pos (Or.inl c_1)], rfl, rfl⟩
      | exact ⟨by rw [zrd, if_pos (Or.inr c_10)], rfl, rfl⟩
      | exact ⟨by rw [zrd, if_neg (fun h => h.elim c_1 c_10)], rfl, rfl⟩
set_option maxHeartbeats 4000000 in
theorem vX6_put {l : Launch} {g : zG} (hl : l.stackTraces = false) {K : zK} {μ : zF} {r n : Nat} {i v : Int32} (h : zRow K r n) : EX6_put l g 0 0 [.ref r, .int i, .int v] K μ (zPw K (fun μ' => μ' = zpt μ (r + 1) n i v)) := by
  obtain ⟨h0, h1, h2, hn⟩ := h
  refine nX6_put hl (fun x hC hQ => ?_)
  refine eX6_put_0 hC ?_
  refine eX6_put_1 hC (fun c_1 => ?_) (fun c_1 => ?_)
  · refine eX6_put_20 hC hQ (Nat.le_of_ble_eq_true rfl) (Nat.le_of_ble_eq_true rfl) ?_
    first
    | exact ⟨rfl, rfl, by rw [zpt, if_pos (Or.inl c_1)]⟩
    | exact ⟨rfl, rfl, by rw [zpt, if_pos (Or.inr c_10)]⟩
    | exact ⟨rfl, rfl, by rw [zpt, if_neg (fun h => h.elim c_1 c_10)]⟩
  · refine eX6_put_4 hC ?_
    refine eX6_put_5 hC ?_
    refine eX6_put_6 hC (by assumption) (by assumption) ?_
    refine eX6_put_9 hC (by assumption) (by decide) ?_
    refine eX6_put_10 hC (fun c_10 => ?_) (fun c_10 => ?_)
    · refine eX6_put_20 hC hQ (Nat.le_of_ble_eq_true rfl) (Nat.le_of_ble_eq_true rfl) ?_
      first
      | exact ⟨rfl, rfl, by rw [zpt, if_pos (Or.inl c_1)]⟩
      | exact ⟨rfl, rfl, by rw [zpt, if_pos (Or.inr c_10)]⟩
      | exact ⟨rfl, rfl, by rw [zpt, if_neg (fun h => h.elim c_1 c_10)]⟩
    · refine eX6_put_13 hC ?_
      refine eX6_put_14 hC (by assumption) (by assumption) ?_
      refine eX6_put_17 hC ?_
      refine eX6_put_18 hC ?_
      refine eX6_put_19 hC (by assumption) (zin_of hn c_1 c_10) ?_
      refine eX6_put_20 hC hQ (Nat.le_of_ble_eq_true rfl) (Nat.le_of_ble_eq_true rfl) ?_
      first
      | exact ⟨rfl, rfl, by rw [zpt, if_pos (Or.inl c_1)]⟩
      | exact ⟨rfl, rfl, by rw [zpt, if_pos (Or.inr c_10)]⟩
      | exact ⟨rfl, rfl, by rw [zpt, if_neg (fun h => h.elim c_1 c_10)]⟩
set_option maxHeartbeats 4000000 in
theorem vX6_copyFrom {l : Launch} {g : zG} (hl : l.stackTraces = false) {K : zK} {μ : zF} {r q n : Nat} (h : zRow K r n) (hq : zRow K q n) (hne : q ≠ r) : EX6_copyFrom l g 0 0 [.ref r, .ref q] K μ (zPw K (fun μ' => μ' = zcp μ (r + 1) (q + 1) n)) := by
  have hr := h
  obtain ⟨h0, h1, h2, hn⟩ := h
  obtain ⟨g0, g1, g2, -⟩ := id hq
  refine nX6_copyFrom hl (fun x hC hQ => ?_)
  have loop : ∀ d i : Nat, i + d = n → zV x 0 0 2 [some (.ref r), some (.ref q), some (.int (nI i))] [] K (zcp μ (r + 1) (q + 1) i) := by
    intro d
    induction d with
    | zero =>
      intro i hi
      have hi : i = n := by omega
      subst hi
      refine eX6_copyFrom_2 hC ?_
      refine eX6_copyFrom_3 hC ?_
      refine eX6_copyFrom_4 hC (by assumption) (by assumption) ?_
      refine eX6_copyFrom_7 hC (by assumption) (by decide) ?_
      refine eX6_copyFrom_8 hC (fun _ => ?_) (fun zz => absurd (nI_le (Nat.le_refl _) hn) zz)
      refine eX6_copyFrom_28 hC hQ (Nat.le_of_ble_eq_true rfl) (Nat.le_of_ble_eq_true rfl) ?_
      exact ⟨rfl, rfl, rfl⟩
    | succ d ih =>
      intro i hi
      refine eX6_copyFrom_2 hC ?_
      refine eX6_copyFrom_3 hC ?_
      refine eX6_copyFrom_4 hC (by assumption) (by assumption) ?_
      refine eX6_copyFrom_7 hC (by assumption) (by decide) ?_
      refine eX6_copyFrom_8 hC (fun zz => absurd zz (nI_ge (by omega) hn)) (fun _ => ?_)
      refine eX6_copyFrom_11 hC ?_
      refine eX6_copyFrom_12 hC (by assumption) (by assumption) ?_
      refine eX6_copyFrom_15 hC ?_
      refine eX6_copyFrom_16 hC ?_
      refine eX6_copyFrom_17 hC ?_
      refine eX6_copyFrom_18 hC (Nat.le_of_ble_eq_true rfl) (Nat.le_of_ble_eq_true rfl) (Nat.le_of_ble_eq_true rfl) (by first | assumption | exact zRow.o (by assumption)) (vX6_at hC.nt hq) (zk_i ?_)
      refine eX6_copyFrom_21 hC (by assumption) (vp_in_nI (by omega) hn) ?_
      refine zV.mu (μ' := zcp μ (r + 1) (q + 1) (i + 1)) ?_ ?_
      · rw [nI_clamp (by omega), zrd_in (by omega) hn]
        funext b j
        grind [zup, zcp]
      refine eX6_copyFrom_22 hC ?_
      rw [nI_add]
      refine eX6_copyFrom_25 hC ?_
      exact ih (i + 1) (by omega)
  refine eX6_copyFrom_0 hC ?_
  refine eX6_copyFrom_1 hC ?_
  exact zV.mu (by funext b j; simp [zcp]) (loop n 0 (by omega))
set_option maxHeartbeats 4000000 in
theorem vX6_putBetween {l : Launch} {g : zG} (hl : l.stackTraces = false) {K : zK} {μ : zF} {r n i : Nat} {v : Int32} (h : zRow K r n) (hi : i < n) : EX6_putBetween l g 0 0 [.ref r, .int (nI i), .int v] K μ (zPw K (fun μ' => μ' = zins μ (r + 1) n i v)) := by
  have hr := h
  obtain ⟨h0, h1, h2, hn⟩ := h
  refine nX6_putBetween hl (fun x hC hQ => ?_)
  have loop : ∀ d k : Nat, i + d = k → k < n → zV x 0 0 8 [some (.ref r), some (.int (nI i)), some (.int v), some (.int (nI k))] [] K (fun c j => if c = r + 1 ∧ k < j ∧ j < n then μ (r + 1) (j - 1) else μ c j) := by
    intro d
    induction d with
    | zero =>
      intro k hk hkn
      have hk : k = i := by omega
      subst hk
      refine eX6_putBetween_8 hC ?_
      refine eX6_putBetween_9 hC ?_
      refine eX6_putBetween_10 hC (fun _ => ?_) (fun zz => absurd (nI_le (Nat.le_refl _) (by omega)) zz)
      refine eX6_putBetween_31 hC ?_
      refine eX6_putBetween_32 hC ?_
      refine eX6_putBetween_33 hC ?_
      refine eX6_putBetween_34 hC (Nat.le_of_ble_eq_true rfl) (Nat.le_of_ble_eq_true rfl) (Nat.le_of_ble_eq_true rfl) (by first | assumption | exact zRow.o (by assumption)) (vX6_put hC.nt hr) (zk_w (fun μ_34 m_34 => ?_))
      refine eX6_putBetween_37 hC hQ (Nat.le_of_ble_eq_true rfl) (Nat.le_of_ble_eq_true rfl) ?_
      refine ⟨rfl, rfl, ?_⟩
      rw [m_34, zpt_in hi hn]
      funext c j
      grind [zup, zins]
    | succ d ih =>
      intro k hk hkn
      refine eX6_putBetween_8 hC ?_
      refine eX6_putBetween_9 hC ?_
      refine eX6_putBetween_10 hC (fun zz => absurd zz (nI_ge (by omega) (by omega))) (fun _ => ?_)
      refine eX6_putBetween_13 hC ?_
      refine eX6_putBetween_14 hC ?_
      refine eX6_putBetween_15 hC ?_
      refine eX6_putBetween_16 hC ?_
      refine eX6_putBetween_17 hC ?_
      refine eX6_putBetween_18 hC ?_
      rw [nI_sub (by omega)]
      refine eX6_putBetween_19 hC (Nat.le_of_ble_eq_true rfl) (Nat.le_of_ble_eq_true rfl) (Nat.le_of_ble_eq_true rfl) (by first | assumption | exact zRow.o (by assumption)) (vX6_at hC.nt hr) (zk_i ?_)
      refine eX6_putBetween_22 hC (Nat.le_of_ble_eq_true rfl) (Nat.le_of_ble_eq_true rfl) (Nat.le_of_ble_eq_true rfl) (by first | assumption | exact zRow.o (by assumption)) (vX6_put hC.nt hr) (zk_w (fun μ_22 m_22 => ?_))
      refine zV.mu (μ' := fun c j => if c = r + 1 ∧ k - 1 < j ∧ j < n then μ (r + 1) (j - 1) else μ c j) ?_ ?_
      · rw [m_22, zpt_in hkn hn, zrd_in (by omega) hn]
        funext c j
        grind [zup]
      refine eX6_putBetween_25 hC ?_
      rw [nI_sub (by omega)]
      refine eX6_putBetween_28 hC ?_
      exact ih (k - 1) (by omega) (by omega)
  refine eX6_putBetween_0 hC ?_
  refine eX6_putBetween_1 hC (by assumption) (by assumption) ?_
  refine eX6_putBetween_4 hC (by assumption) (by decide) ?_
  refine eX6_putBetween_5 hC ?_
  refine eX6_putBetween_6 hC ?_
  rw [nI_sub (by omega)]
  refine eX6_putBetween_7 hC ?_
  refine zV.mu ?_ (loop (n - 1 - i) (n - 1) (by omega) (by omega))
  funext c j
  rw [if_neg (by omega)]
set_option maxHeartbeats 4000000 in
theorem vX6_dropAt {l : Launch} {g : zG} (hl : l.stackTraces = false) {K : zK} {μ : zF} {r n i : Nat} (h : zRow K r n) (hi : i < n) : EX6_dropAt l g 0 0 [.ref r, .int (nI i)] K μ (zPw K (fun μ' => μ' = zdrp μ (r + 1) n i)) := by
  have hr := h
  obtain ⟨h0, h1, h2, hn⟩ := h
  refine nX6_dropAt hl (fun x hC hQ => ?_)
  have loop : ∀ d k : Nat, k + d = n → i ≤ k → zV x 0 0 2 [some (.ref r), some (.int (nI i)), some (.int (nI k))] [] K (fun c j => if c = r + 1 ∧ i ≤ j ∧ j < k then (if j + 1 < n then μ (r + 1) (j + 1) else nI 0) else μ c j) := by
    intro d
    induction d with
    | zero =>
      intro k hk hik
      have hk : k = n := by omega
      subst hk
      refine eX6_dropAt_2 hC ?_
      refine eX6_dropAt_3 hC ?_
      refine eX6_dropAt_4 hC (by assumption) (by assumption) ?_
      refine eX6_dropAt_7 hC (by assumption) (by decide) ?_
      refine eX6_dropAt_8 hC (fun _ => ?_) (fun zz => absurd (nI_le (Nat.le_refl _) (by omega)) zz)
      refine eX6_dropAt_29 hC hQ (Nat.le_of_ble_eq_true rfl) (Nat.le_of_ble_eq_true rfl) ?_
      exact ⟨rfl, rfl, rfl⟩
    | succ d ih =>
      intro k hk hik
      refine eX6_dropAt_2 hC ?_
      refine eX6_dropAt_3 hC ?_
      refine eX6_dropAt_4 hC (by assumption) (by assumption) ?_
      refine eX6_dropAt_7 hC (by assumption) (by decide) ?_
      refine eX6_dropAt_8 hC (fun zz => absurd zz (nI_ge (by omega) (by omega))) (fun _ => ?_)
      refine eX6_dropAt_11 hC ?_
      refine eX6_dropAt_12 hC ?_
      refine eX6_dropAt_13 hC ?_
      refine eX6_dropAt_14 hC ?_
      refine eX6_dropAt_15 hC ?_
      refine eX6_dropAt_16 hC ?_
      rw [nI_add]
      refine eX6_dropAt_17 hC (Nat.le_of_ble_eq_true rfl) (Nat.le_of_ble_eq_true rfl) (Nat.le_of_ble_eq_true rfl) (by first | assumption | exact zRow.o (by assumption)) (vX6_at hC.nt hr) (zk_i ?_)
      refine eX6_dropAt_20 hC (Nat.le_of_ble_eq_true rfl) (Nat.le_of_ble_eq_true rfl) (Nat.le_of_ble_eq_true rfl) (by first | assumption | exact zRow.o (by assumption)) (vX6_put hC.nt hr) (zk_w (fun μ_20 m_20 => ?_))
      refine zV.mu (μ' := fun c j => if c = r + 1 ∧ i ≤ j ∧ j < k + 1 then (if j + 1 < n then μ (r + 1) (j + 1) else nI 0) else μ c j) ?_ ?_
      · rw [m_20, zpt_in (by omega) hn]
        have hv : zrd n (fun j => if r + 1 = r + 1 ∧ i ≤ j ∧ j < k then (if j + 1 < n then μ (r + 1) (j + 1) else nI 0) else μ (r + 1) j) (nI (k + 1)) = if k + 1 < n then μ (r + 1) (k + 1) else nI 0 := by
          by_cases hkn : k + 1 < n
          · rw [zrd_in hkn hn, if_neg (by omega), if_pos hkn]
          · rw [zrd_out (by omega) (by omega), if_neg hkn]
        rw [hv]
        funext c j
        grind [zup]
      refine eX6_dropAt_23 hC ?_
      rw [nI_add]
      refine eX6_dropAt_26 hC ?_
      exact ih (k + 1) (by omega) (by omega)
  refine eX6_dropAt_0 hC ?_
  refine eX6_dropAt_1 hC ?_
  refine zV.mu ?_ (loop (n - i) i (by omega) (Nat.le_refl _))
  funext c j
  rw [if_neg (by omega)]
