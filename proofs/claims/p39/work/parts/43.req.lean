/-! ===== the whole object ===== -/
abbrev zxI : String := "java/lang/IndexOutOfBoundsException"
abbrev zxA : String := "java/lang/IllegalArgumentException"
abbrev zxS : String := "java/lang/IllegalStateException"
theorem zk_x {x : zX} {ls : List (Option Value)} {rest : List Value} {K : zK} {μ : zF} {A : Prop} {c1 s1 p1 : Nat} (kk : A → zV x c1 s1 p1 ls rest K μ) : ∀ (v : Option Value) (K' : zK) (μ' : zF), (v = none ∧ K' = K ∧ μ' = μ ∧ A) → zV x c1 s1 p1 ls (v.toList ++ rest) K' μ' := by
  rintro v K' μ' ⟨rfl, rfl, rfl, hA⟩
  exact kk hA
/-- the state: the text, how many are saved, these, the buffer's length, the buffer -/
abbrev zMs : Type := (Nat → Nat) × Nat × (Nat → Nat → Nat) × Nat × (Nat → Nat)
def zMok (S : zMs) : Prop := zOk S.1 ∧ S.2.1 ≤ 6 ∧ (∀ i, i < S.2.1 → zOk (S.2.2.1 i)) ∧ S.2.2.2.1 ≤ 60 ∧ ∀ i, i < S.2.2.2.1 → 33 ≤ S.2.2.2.2 i ∧ S.2.2.2.2 i ≤ 126
def zRag (K : zK) (x : Nat) (s : Nat → Nat) : Prop := zO K x 8 ∧ zr K x 0 (x + 1) ∧ zr K x 1 (x + 6) ∧ zr K x 2 (x + 23) ∧ zr K x 3 (x + 28) ∧ zr K x 4 (x + 33) ∧ zr K x 5 (x + 50) ∧ zr K x 6 (x + 57) ∧ zTxt K (x + 1) ∧ zLay K (x + 6) (x + 1) ∧ zPag K (x + 23) (x + 1) (x + 6) ∧ zTxt K (x + 28) ∧ zLay K (x + 33) (x + 28) ∧ zBuf K (x + 50) ∧ zHis K (x + 57) s
theorem zRag.o {K : zK} {x : Nat} {s : Nat → Nat} (h : zRag K x s) : zO K x 8 := h.1
theorem zRag.ke {K K' : zK} {x : Nat} {s s' : Nat → Nat} (h : zRag K x s) (p : zKe K K' (x + 58)) (q : zHis K' (x + 57) s') : zRag K' x s' := by
  obtain ⟨h0, h1, h2, h3, h4, h5, h6, h7, h8, h9, h10, h11, h12, h13, h14⟩ := h
  exact ⟨p.o h0, p.r (by omega) h1, p.r (by omega) h2, p.r (by omega) h3, p.r (by omega) h4, p.r (by omega) h5, p.r (by omega) h6, p.r (by omega) h7, p.txt (by omega) h8, p.lay (by omega) h9, p.pag (by omega) h10, p.txt (by omega) h11, p.lay (by omega) h12, p.buf (by omega) h13, q⟩
/-- what is noted of the text, whether the lines are stale or not -/
def zRc (μ : zF) (x : Nat) (s : Nat → Nat) (S : zMs) : Prop := zTv μ (x + 1) S.1 ∧ zBuv μ (x + 50) S.2.2.2.2 S.2.2.2.1 ∧ zHv μ (x + 57) s S.2.1 S.2.2.1 ∧ μ (x + 13) 0 = nI 0 ∧ μ (x + 40) 0 = nI 0
def zRf (μ : zF) (x : Nat) (τ : Nat → Nat) : Prop := μ x 7 = nI 0 ∧ zLv μ (x + 6) τ (τ 87) ∧ zPgv μ (x + 23) τ (τ 87)
def zRv (μ : zF) (x : Nat) (s : Nat → Nat) (S : zMs) : Prop := zRc μ x s S ∧ (μ x 7 = nI 1 ∨ zRf μ x S.1)
def zX8 (K : zK) (μ : zF) (x : Nat) (S : zMs) : Prop := ∃ s, zRag K x s ∧ zRv μ x s S ∧ zMok S
theorem zHv.ag {K : zK} {μ μ' : zF} {p lo hi n : Nat} {s : Nat → Nat} {ρ : Nat → Nat → Nat} (h : zHv μ p s n ρ) (hH : zHis K p s) (ha : zAg μ μ' lo hi) (hd : p + 32 ≤ lo ∨ hi ≤ p) : zHv μ' p s n ρ := ⟨by rw [ha _ _ (by omega)]; exact h.1, h.2.1, fun i hi => (h.2.2 i hi).ag ha (by have := (hH.2.2.2.1 i (by have := h.2.1; omega)).2.2; omega)⟩
theorem zBuv.ag {μ μ' : zF} {b lo hi L : Nat} {β : Nat → Nat} (h : zBuv μ b β L) (ha : zAg μ μ' lo hi) (hd : b + 7 ≤ lo ∨ hi ≤ b) : zBuv μ' b β L := ⟨by rw [ha _ _ (by omega)]; exact h.1, fun i hi => by rw [ha _ _ (by omega)]; exact h.2 i hi⟩
set_option maxHeartbeats 4000000 in
theorem vX8_requireIndex {l : Launch} {g : zG} (hl : l.stackTraces = false) {K : zK} {μ : zF} {i c : Int32} : QX8_requireIndex l g 1 6 [.int i, .int c] K μ (fun v K' μ' => v = none ∧ K' = K ∧ μ' = μ ∧ ¬ i < 0 ∧ i < c) (fun E K' μ' => E = zxI ∧ K' = K ∧ μ' = μ ∧ ¬ (¬ i < 0 ∧ i < c)) := by
  refine nxX8_requireIndex hl (fun x hC hQ hQx => ?_)
  by_cases c1 : i < 0
  · refine eX8_requireIndex_0 hC ?_
    refine eX8_requireIndex_1 hC (fun _ => ?_) (fun zz => absurd c1 zz)
    exact eX8_requireIndex_9 hC hQx (Nat.le_of_ble_eq_true rfl) (Nat.le_of_ble_eq_true rfl) (Nat.le_of_ble_eq_true rfl) (Nat.le_of_ble_eq_true rfl) (Nat.le_of_ble_eq_true rfl) ⟨rfl, rfl, rfl, fun q => q.1 c1⟩
  · by_cases c2 : i < c
    · refine eX8_requireIndex_0 hC ?_
      refine eX8_requireIndex_1 hC (fun zz => absurd zz c1) (fun _ => ?_)
      refine eX8_requireIndex_4 hC ?_
      refine eX8_requireIndex_5 hC ?_
      refine eX8_requireIndex_6 hC (fun _ => ?_) (fun zz => absurd c2 zz)
      refine eX8_requireIndex_19 hC hQ (Nat.le_of_ble_eq_true rfl) (Nat.le_of_ble_eq_true rfl) ?_
      exact ⟨rfl, rfl, rfl, c1, c2⟩
    · refine eX8_requireIndex_0 hC ?_
      refine eX8_requireIndex_1 hC (fun zz => absurd zz c1) (fun _ => ?_)
      refine eX8_requireIndex_4 hC ?_
      refine eX8_requireIndex_5 hC ?_
      refine eX8_requireIndex_6 hC (fun zz => absurd zz c2) (fun _ => ?_)
      exact eX8_requireIndex_9 hC hQx (Nat.le_of_ble_eq_true rfl) (Nat.le_of_ble_eq_true rfl) (Nat.le_of_ble_eq_true rfl) (Nat.le_of_ble_eq_true rfl) (Nat.le_of_ble_eq_true rfl) ⟨rfl, rfl, rfl, fun q => c2 q.2⟩
set_option maxHeartbeats 4000000 in
theorem vX8_requireRange {l : Launch} {g : zG} (hl : l.stackTraces = false) {K : zK} {μ : zF} {i c d : Int32} : QX8_requireRange l g 1 6 [.int i, .int c, .int d] K μ (fun v K' μ' => v = none ∧ K' = K ∧ μ' = μ ∧ ¬ i < c ∧ i ≤ d) (fun E K' μ' => E = zxA ∧ K' = K ∧ μ' = μ ∧ ¬ (¬ i < c ∧ i ≤ d)) := by
  refine nxX8_requireRange hl (fun x hC hQ hQx => ?_)
  by_cases c1 : i < c
  · refine eX8_requireRange_0 hC ?_
    refine eX8_requireRange_1 hC ?_
    refine eX8_requireRange_2 hC (fun _ => ?_) (fun zz => absurd c1 zz)
    exact eX8_requireRange_10 hC hQx (Nat.le_of_ble_eq_true rfl) (Nat.le_of_ble_eq_true rfl) (Nat.le_of_ble_eq_true rfl) (Nat.le_of_ble_eq_true rfl) (Nat.le_of_ble_eq_true rfl) ⟨rfl, rfl, rfl, fun q => q.1 c1⟩
  · by_cases c2 : i ≤ d
    · refine eX8_requireRange_0 hC ?_
      refine eX8_requireRange_1 hC ?_
      refine eX8_requireRange_2 hC (fun zz => absurd zz c1) (fun _ => ?_)
      refine eX8_requireRange_5 hC ?_
      refine eX8_requireRange_6 hC ?_
      refine eX8_requireRange_7 hC (fun _ => ?_) (fun zz => absurd c2 zz)
      refine eX8_requireRange_20 hC hQ (Nat.le_of_ble_eq_true rfl) (Nat.le_of_ble_eq_true rfl) ?_
      exact ⟨rfl, rfl, rfl, c1, c2⟩
    · refine eX8_requireRange_0 hC ?_
      refine eX8_requireRange_1 hC ?_
      refine eX8_requireRange_2 hC (fun zz => absurd zz c1) (fun _ => ?_)
      refine eX8_requireRange_5 hC ?_
      refine eX8_requireRange_6 hC ?_
      refine eX8_requireRange_7 hC (fun zz => absurd zz c2) (fun _ => ?_)
      exact eX8_requireRange_10 hC hQx (Nat.le_of_ble_eq_true rfl) (Nat.le_of_ble_eq_true rfl) (Nat.le_of_ble_eq_true rfl) (Nat.le_of_ble_eq_true rfl) (Nat.le_of_ble_eq_true rfl) ⟨rfl, rfl, rfl, fun q => c2 q.2⟩
/-- one more state is saved; the lines are stale -/
def zsv (S : zMs) : zMs := (S.1, zsvn S.2.1, zsvr S.2.1 S.2.2.1 S.1, S.2.2.2)
theorem zsv_ok {S : zMs} (h : zMok S) : zMok (zsv S) := by
  obtain ⟨h1, h2, h3, h4⟩ := h
  refine ⟨h1, ?_, fun i hi => ?_, h4⟩
  · show zsvn S.2.1 ≤ 6
    unfold zsvn; split <;> omega
  · have hi : i < zsvn S.2.1 := hi
    show zOk (zsvr S.2.1 S.2.2.1 S.1 i)
    unfold zsvn at hi
    unfold zsvr
    by_cases c : S.2.1 < 6
    · rw [if_pos c] at hi ⊢
      show zOk (if i = S.2.1 then S.1 else S.2.2.1 i)
      split
      · exact h1
      · exact h3 i (by omega)
    · rw [if_neg c] at hi ⊢
      show zOk (if i = 5 then S.1 else S.2.2.1 (i + 1))
      split
      · exact h1
      · exact h3 (i + 1) (by omega)
set_option maxHeartbeats 4000000 in
theorem vX8_prepareChange {l : Launch} {g : zG} (hl : l.stackTraces = false) {K : zK} {μ : zF} {x : Nat} {s : Nat → Nat} {S : zMs} (h : zRag K x s) (hv : zRv μ x s S) (ho : zMok S) : EX8_prepareChange l g 0 0 [.ref x] K μ (fun v K' μ' => v = none ∧ zKe K K' (x + 58) ∧ zAg μ μ' x (x + 89) ∧ μ' x 7 = nI 1 ∧ ∃ s', zRag K' x s' ∧ zRc μ' x s' (zsv S) ∧ ∀ a j, x < a → a < x + 57 → μ' a j = μ a j) := by
  obtain ⟨h0, h1, h2, h3, h4, h5, h6, h7, h8, h9, h10, h11, h12, h13, h14⟩ := id h
  obtain ⟨⟨v1, v2, v3, v4, v5⟩, -⟩ := hv
  refine nX8_prepareChange hl (fun q hC hQ => ?_)
  refine eX8_prepareChange_0 hC ?_
  refine eX8_prepareChange_1 hC (by assumption) (by assumption) ?_
  refine eX8_prepareChange_4 hC ?_
  refine eX8_prepareChange_5 hC (by assumption) (by assumption) ?_
  refine eX8_prepareChange_8 hC (Nat.le_of_ble_eq_true rfl) (Nat.le_of_ble_eq_true rfl) (Nat.le_of_ble_eq_true rfl) (by first | assumption | exact zHis.o (by assumption)) (vX2_save hC.nt h14 v3 h8 v1 (by omega) ho.1.2.2.2.2.2.2.2.2.2) (fun v_8 K_8 μ_8 m_8 => ?_)
  obtain ⟨rfl, hK, ⟨s', hH, hw⟩, ha⟩ := m_8
  show zV q _ _ 11 _ [] K_8 μ_8
  have hR := h.ke hK hH
  have h0' := hR.o
  refine eX8_prepareChange_11 hC ?_
  refine eX8_prepareChange_12 hC ?_
  refine eX8_prepareChange_13 hC (Or.inr rfl) (by assumption) ?_
  refine eX8_prepareChange_16 hC hQ (Nat.le_of_ble_eq_true rfl) (Nat.le_of_ble_eq_true rfl) ?_
  have hu : zAg μ_8 (zup μ_8 x 7 (nI 1)) x (x + 1) := zAg.up (by omega)
  refine ⟨rfl, hK, (zAg.wide ha (by omega) (by omega)).trans (zAg.wide hu (by omega) (by omega)), zup_self _ _ _ _, s', hR, ⟨(v1.ag ha (by omega)).ag hu (by omega), (v2.ag ha (by omega)).ag hu (by omega), hw.ag hH hu (by omega), ?_, ?_⟩, fun a j q1 q2 => by rw [hu _ _ (by omega), ha _ _ (by omega)]⟩
  · rw [hu _ _ (by omega), ha _ _ (by omega)]; exact v4
  · rw [hu _ _ (by omega), ha _ _ (by omega)]; exact v5
set_option maxHeartbeats 4000000 in
theorem vX8_refresh {l : Launch} {g : zG} (hl : l.stackTraces = false) {K : zK} {μ : zF} {x : Nat} {s : Nat → Nat} {S : zMs} (h : zRag K x s) (hv : zRv μ x s S) (ho : zMok S) : EX8_refresh l g 0 0 [.ref x] K μ (zPw K (fun μ' => zRc μ' x s S ∧ zRf μ' x S.1 ∧ zAg μ μ' x (x + 89))) := by
  obtain ⟨h0, h1, h2, h3, h4, h5, h6, h7, h8, h9, h10, h11, h12, h13, h14⟩ := id h
  obtain ⟨hc, hf⟩ := hv
  obtain ⟨v1, v2, v3, v4, v5⟩ := id hc
  have o9 := ho.1.2.2.2.2.2.2.2.2.2
  have t0 := h8.1
  refine nX8_refresh hl (fun q hC hQ => ?_)
  by_cases c : μ x 7 = nI 1
  · have e9 : μ (x + 1) 9 = nI (S.1 87) := v1.2.2 9 (by omega) (by omega)
    refine eX8_refresh_0 hC ?_
    refine eX8_refresh_1 hC (by assumption) ?_
    rw [c]
    refine eX8_refresh_4 hC (fun zz => absurd zz zn10) (fun _ => ?_)
    refine eX8_refresh_7 hC ?_
    refine eX8_refresh_8 hC (by assumption) (by assumption) ?_
    refine eX8_refresh_11 hC ?_
    refine eX8_refresh_12 hC (by assumption) (by assumption) ?_
    refine eX8_refresh_15 hC (by assumption) ?_
    rw [e9]
    refine eX8_refresh_18 hC (Nat.le_of_ble_eq_true rfl) (Nat.le_of_ble_eq_true rfl) (Nat.le_of_ble_eq_true rfl) (by first | assumption | exact zLay.o (by assumption)) (vX3_arrange hC.nt h9 h8 v1 ho.1 (by omega) v4 o9 rfl) (zk_w (fun μ_18 m_18 => ?_))
    obtain ⟨w1, w2, w3⟩ := m_18
    have v1' := v1.ag w2 (by omega)
    refine eX8_refresh_21 hC ?_
    refine eX8_refresh_22 hC (by assumption) (by assumption) ?_
    refine eX8_refresh_25 hC (Nat.le_of_ble_eq_true rfl) (Nat.le_of_ble_eq_true rfl) (Nat.le_of_ble_eq_true rfl) (by first | assumption | exact zPag.o (by assumption)) (vX5_fill hC.nt h10 h9 h8 v1' ho.1 w1 (by omega) (by omega)) (zk_w (fun μ_25 m_25 => ?_))
    refine eX8_refresh_28 hC ?_
    refine eX8_refresh_29 hC ?_
    refine eX8_refresh_30 hC (Or.inl rfl) (by assumption) ?_
    refine eX8_refresh_33 hC hQ (Nat.le_of_ble_eq_true rfl) (Nat.le_of_ble_eq_true rfl) ?_
    obtain ⟨u1, u2⟩ := m_25
    have hu : zAg μ_25 (zup μ_25 x 7 (nI 0)) x (x + 1) := zAg.up (by omega)
    refine ⟨rfl, rfl, ⟨(v1'.ag u2 (by omega)).ag hu (by omega), ((v2.ag w2 (by omega)).ag u2 (by omega)).ag hu (by omega), ((v3.ag h14 w2 (by omega)).ag h14 u2 (by omega)).ag h14 hu (by omega), ?_, ?_⟩, ⟨zup_self _ _ _ _, (w1.ag u2 (by omega)).ag hu (by omega), u1.ag hu (by omega)⟩, ((zAg.wide w2 (by omega) (by omega)).trans (zAg.wide u2 (by omega) (by omega))).trans (zAg.wide hu (by omega) (by omega))⟩
    · rw [hu _ _ (by omega), u2 _ _ (by omega)]; exact w3
    · rw [hu _ _ (by omega), u2 _ _ (by omega), w2 _ _ (by omega)]; exact v5
  · have hf := hf.resolve_left c
    refine eX8_refresh_0 hC ?_
    refine eX8_refresh_1 hC (by assumption) ?_
    rw [hf.1]
    refine eX8_refresh_4 hC (fun _ => ?_) (fun zz => absurd zn00 zz)
    refine eX8_refresh_33 hC hQ (Nat.le_of_ble_eq_true rfl) (Nat.le_of_ble_eq_true rfl) ?_
    exact ⟨rfl, rfl, hc, hf, zAg.refl _ _ _⟩
