/-! ===== saved states: references that move ===== -/
def zPr (r : Nat) (K : zK) (μ : zF) : Option Value → zK → zF → Prop := fun v K' μ' => v = some (.ref r) ∧ K' = K ∧ μ' = μ
theorem zk_r {x : zX} {ls : List (Option Value)} {rest : List Value} {K : zK} {μ : zF} {r : Nat} {c1 s1 p1 : Nat} (kk : zV x c1 s1 p1 ls (.ref r :: rest) K μ) : ∀ (v : Option Value) (K' : zK) (μ' : zF), zPr r K μ v K' μ' → zV x c1 s1 p1 ls (v.toList ++ rest) K' μ' := by
  rintro v K' μ' ⟨rfl, rfl, rfl⟩
  exact kk
/-- only the references of a differ -/
def zKe (K K' : zK) (a : Nat) : Prop := K'.1 = K.1 ∧ K'.2.1 = K.2.1 ∧ (∀ c, c ≠ a → K'.2.2.1 c = K.2.2.1 c) ∧ K'.2.2.2 = K.2.2.2
theorem zKe.refl (K : zK) (a : Nat) : zKe K K a := ⟨rfl, rfl, fun _ _ => rfl, rfl⟩
theorem zKe.trans {K K1 K2 : zK} {a : Nat} (p : zKe K K1 a) (q : zKe K1 K2 a) : zKe K K2 a := ⟨q.1.trans p.1, q.2.1.trans p.2.1, fun c hc => (q.2.2.1 c hc).trans (p.2.2.1 c hc), q.2.2.2.trans p.2.2.2⟩
theorem zKe.kr (K : zK) (a i b : Nat) : zKe K (zKr K a i b) a := ⟨rfl, rfl, fun c hc => by simp [zKr, hc], rfl⟩
theorem zKe.o {K K' : zK} {a c n : Nat} (p : zKe K K' a) (q : zO K c n) : zO K' c n := by unfold zO at q ⊢; rw [p.1, p.2.1]; exact q
theorem zKe.i {K K' : zK} {a c n m : Nat} (p : zKe K K' a) (q : zI K c n m) : zI K' c n m := by unfold zI at q ⊢; rw [p.1, p.2.1]; exact q
theorem zKe.r {K K' : zK} {a c n m : Nat} (p : zKe K K' a) (hc : c ≠ a) (q : zr K c n m) : zr K' c n m := by unfold zr at q ⊢; rw [p.2.2.1 c hc]; exact q
theorem zKe.row {K K' : zK} {a r n : Nat} (p : zKe K K' a) (hc : r ≠ a) (q : zRow K r n) : zRow K' r n := ⟨p.o q.1, p.r hc q.2.1, p.i q.2.2.1, q.2.2.2⟩
theorem zKe.txt {K K' : zK} {a t : Nat} (p : zKe K K' a) (hc : a < t ∨ t + 5 ≤ a) (q : zTxt K t) : zTxt K' t := ⟨p.o q.1, p.r (by omega) q.2.1, p.r (by omega) q.2.2.1, p.row (by omega) q.2.2.2.1, p.row (by omega) q.2.2.2.2⟩
theorem zKe.fit {K K' : zK} {a q t : Nat} (p : zKe K K' a) (hc : a < q ∨ q + 5 ≤ a) (h : zFit K q t) : zFit K' q t := ⟨p.o h.1, p.r (by omega) h.2.1, p.r (by omega) h.2.2.1, p.r (by omega) h.2.2.2.1, p.row (by omega) h.2.2.2.2.1, p.row (by omega) h.2.2.2.2.2⟩
theorem zKe.opt {K K' : zK} {a o t q : Nat} (p : zKe K K' a) (hc : a < o ∨ o + 7 ≤ a) (h : zOpt K o t q) : zOpt K' o t q := by
  obtain ⟨h1, h2, h3, h4, h5, h6, h7, h8, h9⟩ := h
  exact ⟨p.o h1, p.r (by omega) h2, p.r (by omega) h3, p.r (by omega) h4, p.r (by omega) h5, p.r (by omega) h6, p.row (by omega) h7, p.row (by omega) h8, p.row (by omega) h9⟩
theorem zKe.lay {K K' : zK} {a y t : Nat} (p : zKe K K' a) (hc : a < y ∨ y + 17 ≤ a) (h : zLay K y t) : zLay K' y t := by
  obtain ⟨h1, h2, h3, h4, h5, h6, h7, h8, h9, h10⟩ := h
  exact ⟨p.o h1, p.r (by omega) h2, p.r (by omega) h3, p.r (by omega) h4, p.r (by omega) h5, p.r (by omega) h6, p.row (by omega) h7, p.row (by omega) h8, p.fit (by omega) h9, p.opt (by omega) h10⟩
theorem zKe.pag {K K' : zK} {a q t y : Nat} (p : zKe K K' a) (hc : a < q ∨ q + 5 ≤ a) (h : zPag K q t y) : zPag K' q t y := by
  obtain ⟨h1, h2, h3, h4, h5, h6, h7⟩ := h
  exact ⟨p.o h1, p.r (by omega) h2, p.r (by omega) h3, p.r (by omega) h4, p.r (by omega) h5, p.row (by omega) h6, p.row (by omega) h7⟩
theorem zKe.buf {K K' : zK} {a q : Nat} (p : zKe K K' a) (hc : a < q ∨ q + 7 ≤ a) (h : zBuf K q) : zBuf K' q := by
  obtain ⟨h1, h2, h3, h4, h5, h6, h7⟩ := h
  exact ⟨p.o h1, p.r (by omega) h2, p.r (by omega) h3, p.r (by omega) h4, p.row (by omega) h5, p.row (by omega) h6, p.row (by omega) h7⟩
theorem zKr_self (K : zK) (a i b : Nat) : zr (zKr K a i b) a i b := by simp [zr, zKr, va_up]
theorem zKr_ne {K : zK} {a i b k c : Nat} (hk : k ≠ i) (q : zr K a k c) : zr (zKr K a i b) a k c := by
  unfold zr at q ⊢
  simp only [zKr, if_pos, va_up]
  rw [if_neg hk]; exact q
/-- the history p: its row of states is p + 1; the state i is the text s i -/
def zHis (K : zK) (p : Nat) (s : Nat → Nat) : Prop := zO K p 2 ∧ zr K p 0 (p + 1) ∧ zI K (p + 1) 14 6 ∧ (∀ i, i < 6 → zr K (p + 1) i (s i) ∧ zTxt K (s i) ∧ p + 2 ≤ s i ∧ s i + 5 ≤ p + 32) ∧ ∀ i j, i < 6 → j < 6 → i ≠ j → s i + 5 ≤ s j ∨ s j + 5 ≤ s i
theorem zHis.o {K : zK} {p : Nat} {s : Nat → Nat} (q : zHis K p s) : zO K p 2 := q.1
def zHv (μ : zF) (p : Nat) (s : Nat → Nat) (n : Nat) (ρ : Nat → Nat → Nat) : Prop := μ p 1 = nI n ∧ n ≤ 6 ∧ ∀ i, i < n → zTv μ (s i) (ρ i)
/-- the states with one more, without the oldest if there are 6 -/
def zsvn (n : Nat) : Nat := if n < 6 then n + 1 else 6
def zsvr (n : Nat) (ρ : Nat → Nat → Nat) (τ : Nat → Nat) : Nat → Nat → Nat := if n < 6 then (fun i => if i = n then τ else ρ i) else (fun i => if i = 5 then τ else ρ (i + 1))
set_option maxHeartbeats 4000000 in
theorem vX2_stateAt {l : Launch} {g : zG} (hl : l.stackTraces = false) {K : zK} {μ : zF} {p i : Nat} {s : Nat → Nat} (h : zHis K p s) (hi : i < 6) : EX2_stateAt l g 0 0 [.ref p, .int (nI i)] K μ (zPr (s i) K μ) := by
  obtain ⟨h0, h1, h2, h3, h4⟩ := h
  have e : va_rf (K.2.2.1 (p + 1) (nI i).toNatClampNeg) = .ref (s i) := by rw [nI_clamp (by omega), show K.2.2.1 (p + 1) i = some (s i) from (h3 i hi).1]; rfl
  have hin : vp_in (nI i) 6 := by rw [vp_in_iff, nI_toInt (by omega)]; omega
  refine nX2_stateAt hl (fun x hC hQ => ?_)
  refine eX2_stateAt_0 hC ?_
  refine eX2_stateAt_1 hC (fun zz => absurd zz (nI_pos (by omega))) (fun _ => ?_)
  refine eX2_stateAt_4 hC ?_
  refine eX2_stateAt_5 hC ?_
  refine eX2_stateAt_6 hC (by assumption) (by assumption) ?_
  refine eX2_stateAt_9 hC (by assumption) (by decide) ?_
  refine eX2_stateAt_10 hC (fun zz => absurd zz (nI_ge hi (by omega))) (fun _ => ?_)
  refine eX2_stateAt_13 hC ?_
  refine eX2_stateAt_14 hC (by assumption) (by assumption) ?_
  refine eX2_stateAt_17 hC ?_
  refine eX2_stateAt_18 hC (by assumption) (by assumption) ?_
  rw [e]
  refine eX2_stateAt_19 hC ?_
  refine eX2_stateAt_23 hC hQ (Nat.le_of_ble_eq_true rfl) (Nat.le_of_ble_eq_true rfl) ?_
  exact ⟨rfl, rfl, rfl⟩
set_option maxHeartbeats 4000000 in
theorem vX2_restore {l : Launch} {g : zG} (hl : l.stackTraces = false) {K : zK} {μ : zF} {p t n : Nat} {s : Nat → Nat} {ρ : Nat → Nat → Nat} (h : zHis K p s) (hv : zHv μ p s (n + 1) ρ) (hT : zTxt K t) (hd : t + 5 ≤ p ∨ p + 32 ≤ t) (ho : ρ n 87 ≤ 1) : EX2_restore l g 0 0 [.ref p, .ref t] K μ (zPw K (fun μ' => zTv μ' t (ρ n) ∧ μ' p 1 = nI n ∧ ∀ a j, ¬ (a = p ∧ j = 1) → (a < t ∨ t + 5 ≤ a) → μ' a j = μ a j)) := by
  obtain ⟨h0, h1, h2, h3, h4⟩ := id h
  obtain ⟨v1, v2, v3⟩ := hv
  obtain ⟨g1, g2, g3, g4⟩ := h3 n (by omega)
  refine nX2_restore hl (fun x hC hQ => ?_)
  refine eX2_restore_0 hC ?_
  refine eX2_restore_1 hC ?_
  refine eX2_restore_2 hC (by assumption) ?_
  refine eX2_restore_5 hC ?_
  refine eX2_restore_6 hC ?_
  rw [v1, nI_sub (by omega), Nat.add_sub_cancel]
  refine eX2_restore_7 hC (Nat.le_of_ble_eq_true rfl) (Nat.le_of_ble_eq_true rfl) (Nat.le_of_ble_eq_true rfl) (by first | assumption | exact zHis.o (by assumption)) (vX2_stateAt hC.nt h (show n < 6 by omega)) (zk_r ?_)
  refine eX2_restore_10 hC ?_
  refine eX2_restore_11 hC ?_
  refine eX2_restore_12 hC ?_
  refine eX2_restore_15 hC ?_
  refine eX2_restore_16 hC ?_
  refine eX2_restore_17 hC (Nat.le_of_ble_eq_true rfl) (Nat.le_of_ble_eq_true rfl) (Nat.le_of_ble_eq_true rfl) (by first | assumption | exact zTxt.o (by assumption)) (vX7_copyFrom hC.nt hT g2 (v3 n (by omega)) (by omega) ho) (zk_w (fun μ_17 m_17 => ?_))
  refine eX2_restore_20 hC ?_
  refine eX2_restore_21 hC ?_
  refine eX2_restore_22 hC (by assumption) ?_
  refine eX2_restore_25 hC ?_
  rw [m_17.2 _ _ (by omega), v1]
  refine eX2_restore_26 hC ?_
  rw [nI_sub (by omega), Nat.add_sub_cancel]
  refine eX2_restore_27 hC (by assumption) ?_
  refine eX2_restore_30 hC hQ (Nat.le_of_ble_eq_true rfl) (Nat.le_of_ble_eq_true rfl) ?_
  refine ⟨rfl, rfl, m_17.1.ag (lo := p) (hi := p + 1) (zAg.up (by omega)) (by omega), zup_self _ _ _ _, fun a j q1 q2 => ?_⟩
  rw [← m_17.2 a j q2]
  simp only [zup]
  rw [if_neg q1]
/-- the oldest state behind the others -/
def zrot (s : Nat → Nat) : Nat → Nat := fun i => if i = 5 then s 0 else s (i + 1)
set_option maxHeartbeats 4000000 in
theorem vX2_dropOldest {l : Launch} {g : zG} (hl : l.stackTraces = false) {K : zK} {μ : zF} {p : Nat} {s : Nat → Nat} (h : zHis K p s) : EX2_dropOldest l g 0 0 [.ref p] K μ (fun v K' μ' => v = none ∧ zKe K K' (p + 1) ∧ zHis K' p (zrot s) ∧ μ' = zup μ p 1 (nI 5)) := by
  obtain ⟨h0, h1, h2, h3, h4⟩ := id h
  refine nX2_dropOldest hl (fun x hC hQ => ?_)
  have loop : ∀ (d i : Nat) (K1 : zK), i + d = 6 → 1 ≤ i → zKe K K1 (p + 1) → (∀ j, j + 1 < i → zr K1 (p + 1) j (s (j + 1))) → (∀ j, i ≤ j → j < 6 → zr K1 (p + 1) j (s j)) → zV x 0 0 8 [some (.ref p), some (.ref (s 0)), some (.int (nI i))] [] K1 μ := by
    intro d
    induction d with
    | zero =>
      intro i K1 hd h1i hK hlo hhi
      have hi6 : i = 6 := by omega
      subst hi6
      have k0 : zO K1 p 2 := hK.o h0
      have k1 : zr K1 p 0 (p + 1) := hK.r (by omega) h1
      have k2 : zI K1 (p + 1) 14 6 := hK.i h2
      have kt : zO K1 (s 0) 7 := hK.o (h3 0 (by omega)).2.1.1
      have hin : vp_in (nI 5) 6 := by rw [vp_in_iff, nI_toInt (by omega)]; omega
      have hc5 : (nI 5).toNatClampNeg = 5 := nI_clamp (by omega)
      refine eX2_dropOldest_8 hC ?_
      refine eX2_dropOldest_9 hC ?_
      refine eX2_dropOldest_10 hC (by assumption) (by assumption) ?_
      refine eX2_dropOldest_13 hC (by assumption) (by decide) ?_
      refine eX2_dropOldest_14 hC (fun _ => ?_) (fun zz => absurd (nI_le (Nat.le_refl _) (by omega)) zz)
      refine eX2_dropOldest_37 hC ?_
      refine eX2_dropOldest_38 hC (by assumption) (by assumption) ?_
      refine eX2_dropOldest_41 hC (by assumption) (by decide) ?_
      refine eX2_dropOldest_42 hC (fun zz => absurd zz (nI_nle (by omega) (by omega))) (fun _ => ?_)
      refine eX2_dropOldest_45 hC ?_
      refine eX2_dropOldest_46 hC (by assumption) (by assumption) ?_
      refine eX2_dropOldest_49 hC ?_
      refine eX2_dropOldest_50 hC (by assumption) (by assumption) ?_
      refine eX2_dropOldest_53 hC (by assumption) (by decide) ?_
      refine eX2_dropOldest_54 hC ?_
      refine eX2_dropOldest_55 hC ?_
      rw [show nI 6 - nI 1 = nI 5 from nI_sub (by omega)]
      refine eX2_dropOldest_56 hC ?_
      refine eX2_dropOldest_57 hC (by assumption) (by assumption) (by assumption) ?_
      rw [hc5]
      have e0 : zO (zKr K1 (p + 1) 5 (s 0)) p 2 := k0
      have e1 : zr (zKr K1 (p + 1) 5 (s 0)) p 0 (p + 1) := (zKe.kr K1 (p + 1) 5 (s 0)).r (by omega) k1
      have e2 : zI (zKr K1 (p + 1) 5 (s 0)) (p + 1) 14 6 := k2
      refine eX2_dropOldest_58 hC ?_
      refine eX2_dropOldest_59 hC ?_
      refine eX2_dropOldest_60 hC (by assumption) (by assumption) ?_
      refine eX2_dropOldest_63 hC (by assumption) (by decide) ?_
      refine eX2_dropOldest_64 hC ?_
      refine eX2_dropOldest_65 hC ?_
      rw [show nI 6 - nI 1 = nI 5 from nI_sub (by omega)]
      refine eX2_dropOldest_66 hC (by assumption) ?_
      refine eX2_dropOldest_69 hC hQ (Nat.le_of_ble_eq_true rfl) (Nat.le_of_ble_eq_true rfl) ?_
      have hK2 := hK.trans (zKe.kr K1 (p + 1) 5 (s 0))
      refine ⟨rfl, hK2, ⟨e0, e1, e2, fun i hi => ⟨?_, ?_, ?_⟩, fun i j hi hj hij => ?_⟩, rfl⟩
      · by_cases c : i = 5
        · subst c; rw [show zrot s 5 = s 0 from if_pos rfl]; exact zKr_self _ _ _ _
        · rw [show zrot s i = s (i + 1) from if_neg c]; exact zKr_ne c (hlo i (by omega))
      · unfold zrot
        split
        · exact hK2.txt (by have := (h3 0 (by omega)).2.2; omega) (h3 0 (by omega)).2.1
        · exact hK2.txt (by have := (h3 (i + 1) (by omega)).2.2; omega) (h3 (i + 1) (by omega)).2.1
      · unfold zrot
        split
        · exact (h3 0 (by omega)).2.2
        · exact (h3 (i + 1) (by omega)).2.2
      · unfold zrot
        split <;> split <;> exact h4 _ _ (by omega) (by omega) (by omega)
    | succ d ih =>
      intro i K1 hd h1i hK hlo hhi
      have k0 : zO K1 p 2 := hK.o h0
      have k1 : zr K1 p 0 (p + 1) := hK.r (by omega) h1
      have k2 : zI K1 (p + 1) 14 6 := hK.i h2
      have kt : zO K1 (s i) 7 := hK.o (h3 i (by omega)).2.1.1
      have hin : vp_in (nI i) 6 := by rw [vp_in_iff, nI_toInt (by omega)]; omega
      have hin1 : vp_in (nI (i - 1)) 6 := by rw [vp_in_iff, nI_toInt (by omega)]; omega
      have hcl : (nI (i - 1)).toNatClampNeg = i - 1 := nI_clamp (by omega)
      have e : va_rf (K1.2.2.1 (p + 1) (nI i).toNatClampNeg) = .ref (s i) := by rw [nI_clamp (by omega), show K1.2.2.1 (p + 1) i = some (s i) from hhi i (Nat.le_refl _) (by omega)]; rfl
      refine eX2_dropOldest_8 hC ?_
      refine eX2_dropOldest_9 hC ?_
      refine eX2_dropOldest_10 hC (by assumption) (by assumption) ?_
      refine eX2_dropOldest_13 hC (by assumption) (by decide) ?_
      refine eX2_dropOldest_14 hC (fun zz => absurd zz (nI_ge (show i < 6 by omega) (by omega))) (fun _ => ?_)
      refine eX2_dropOldest_17 hC ?_
      refine eX2_dropOldest_18 hC (by assumption) (by assumption) ?_
      refine eX2_dropOldest_21 hC ?_
      refine eX2_dropOldest_22 hC ?_
      refine eX2_dropOldest_23 hC ?_
      rw [nI_sub h1i]
      refine eX2_dropOldest_24 hC ?_
      refine eX2_dropOldest_25 hC (by assumption) (by assumption) ?_
      refine eX2_dropOldest_28 hC ?_
      refine eX2_dropOldest_29 hC (by assumption) (by assumption) ?_
      rw [e]
      refine eX2_dropOldest_30 hC (by assumption) (by assumption) (by assumption) ?_
      rw [hcl]
      refine eX2_dropOldest_31 hC ?_
      rw [nI_add]
      refine eX2_dropOldest_34 hC ?_
      refine ih (i + 1) _ (by omega) (by omega) (hK.trans (zKe.kr _ _ _ _)) (fun j hj => ?_) (fun j hj1 hj2 => ?_)
      · by_cases c : j = i - 1
        · subst c
          rw [show i - 1 + 1 = i by omega]
          exact zKr_self _ _ _ _
        · exact zKr_ne c (hlo j (by omega))
      · exact zKr_ne (by omega) (hhi j (by omega) hj2)
  refine eX2_dropOldest_0 hC ?_
  refine eX2_dropOldest_1 hC ?_
  refine eX2_dropOldest_2 hC (Nat.le_of_ble_eq_true rfl) (Nat.le_of_ble_eq_true rfl) (Nat.le_of_ble_eq_true rfl) (by first | assumption | exact zHis.o (by assumption)) (vX2_stateAt hC.nt h (show 0 < 6 by omega)) (zk_r ?_)
  refine eX2_dropOldest_5 hC ?_
  refine eX2_dropOldest_6 hC ?_
  refine eX2_dropOldest_7 hC ?_
  exact loop 5 1 K (by omega) (by omega) (zKe.refl _ _) (fun j hj => absurd hj (by omega)) (fun j _ hj => (h3 j hj).1)
set_option maxHeartbeats 4000000 in
theorem vX2_save {l : Launch} {g : zG} (hl : l.stackTraces = false) {K : zK} {μ : zF} {p t n : Nat} {s : Nat → Nat} {ρ : Nat → Nat → Nat} {τ : Nat → Nat} (h : zHis K p s) (hv : zHv μ p s n ρ) (hT : zTxt K t) (ht : zTv μ t τ) (hd : t + 5 ≤ p ∨ p + 32 ≤ t) (ho : τ 87 ≤ 1) : EX2_save l g 0 0 [.ref p, .ref t] K μ (fun v K' μ' => v = none ∧ zKe K K' (p + 1) ∧ (∃ s', zHis K' p s' ∧ zHv μ' p s' (zsvn n) (zsvr n ρ τ)) ∧ zAg μ μ' p (p + 32)) := by
  obtain ⟨h0, h1, h2, h3, h4⟩ := id h
  obtain ⟨v1, v2, v3⟩ := hv
  refine nX2_save hl (fun x hC hQ => ?_)
  by_cases c : n < 6
  · obtain ⟨g1, g2, g3, g4⟩ := h3 n c
    refine eX2_save_0 hC ?_
    refine eX2_save_1 hC (by assumption) ?_
    rw [v1]
    refine eX2_save_4 hC ?_
    refine eX2_save_5 hC (by assumption) (by assumption) ?_
    refine eX2_save_8 hC (by assumption) (by decide) ?_
    refine eX2_save_9 hC (fun _ => ?_) (fun zz => absurd (nI_lt c (by omega)) zz)
    refine eX2_save_16 hC ?_
    refine eX2_save_17 hC ?_
    refine eX2_save_18 hC (by assumption) ?_
    rw [v1]
    refine eX2_save_21 hC (Nat.le_of_ble_eq_true rfl) (Nat.le_of_ble_eq_true rfl) (Nat.le_of_ble_eq_true rfl) (by first | assumption | exact zHis.o (by assumption)) (vX2_stateAt hC.nt h c) (zk_r ?_)
    refine eX2_save_24 hC ?_
    refine eX2_save_25 hC ?_
    refine eX2_save_26 hC ?_
    refine eX2_save_29 hC ?_
    refine eX2_save_30 hC ?_
    refine eX2_save_31 hC (Nat.le_of_ble_eq_true rfl) (Nat.le_of_ble_eq_true rfl) (Nat.le_of_ble_eq_true rfl) (by first | assumption | exact zTxt.o (by assumption)) (vX7_copyFrom hC.nt g2 hT ht (by omega) ho) (zk_w (fun μ_31 m_31 => ?_))
    refine eX2_save_34 hC ?_
    refine eX2_save_35 hC ?_
    refine eX2_save_36 hC (by assumption) ?_
    rw [m_31.2 _ _ (by omega), v1]
    refine eX2_save_39 hC ?_
    refine eX2_save_40 hC ?_
    rw [nI_add]
    refine eX2_save_41 hC (by assumption) ?_
    refine eX2_save_44 hC hQ (Nat.le_of_ble_eq_true rfl) (Nat.le_of_ble_eq_true rfl) ?_
    have ha : zAg μ (zup μ_31 p 1 (nI (n + 1))) p (p + 32) := (zAg.wide m_31.2 (by omega) (by omega)).trans (zAg.up (by omega))
    refine ⟨rfl, zKe.refl _ _, ⟨s, h, zup_self _ _ _ _ |>.trans (by rw [show zsvn n = n + 1 from if_pos c]), by unfold zsvn; split <;> omega, fun i hi => ?_⟩, ha⟩
    rw [show zsvn n = n + 1 from if_pos c] at hi
    rw [show zsvr n ρ τ = (fun i => if i = n then τ else ρ i) from if_pos c]
    by_cases ci : i = n
    · subst ci
      simp only [if_pos]
      exact m_31.1.ag (lo := p) (hi := p + 1) (zAg.up (by omega)) (by omega)
    · simp only [if_neg ci]
      exact ((v3 i (by omega)).ag m_31.2 (by have := h4 i n (by omega) c ci; omega)).ag (lo := p) (hi := p + 1) (zAg.up (by omega)) (by have := (h3 i (by omega)).2.2; omega)
  · have hn : n = 6 := by omega
    subst hn
    refine eX2_save_0 hC ?_
    refine eX2_save_1 hC (by assumption) ?_
    rw [v1]
    refine eX2_save_4 hC ?_
    refine eX2_save_5 hC (by assumption) (by assumption) ?_
    refine eX2_save_8 hC (by assumption) (by decide) ?_
    refine eX2_save_9 hC (fun zz => absurd zz (nI_ge (show 5 < 6 by omega) (by omega))) (fun _ => ?_)
    refine eX2_save_12 hC ?_
    refine eX2_save_13 hC (Nat.le_of_ble_eq_true rfl) (Nat.le_of_ble_eq_true rfl) (Nat.le_of_ble_eq_true rfl) (by first | assumption | exact zHis.o (by assumption)) (vX2_dropOldest hC.nt h) (fun v_13 K_13 μ_13 m_13 => ?_)
    obtain ⟨rfl, hK, hH, hm⟩ := m_13
    show zV x _ _ 16 _ [] K_13 μ_13
    have u1 : μ_13 p 1 = nI 5 := by rw [hm]; exact zup_self _ _ _ _
    have ua : zAg μ μ_13 p (p + 1) := by rw [hm]; exact zAg.up (by omega)
    have hT' := hK.txt (by omega) hT
    have ht' := ht.ag ua (by omega)
    obtain ⟨g0, g1, g2, g3, g4⟩ := id hH
    obtain ⟨f1, f2, f3, f4⟩ := g3 5 (by omega)
    refine eX2_save_16 hC ?_
    refine eX2_save_17 hC ?_
    refine eX2_save_18 hC (by assumption) ?_
    rw [u1]
    refine eX2_save_21 hC (Nat.le_of_ble_eq_true rfl) (Nat.le_of_ble_eq_true rfl) (Nat.le_of_ble_eq_true rfl) (by first | assumption | exact zHis.o (by assumption)) (vX2_stateAt hC.nt hH (show 5 < 6 by omega)) (zk_r ?_)
    refine eX2_save_24 hC ?_
    refine eX2_save_25 hC ?_
    refine eX2_save_26 hC ?_
    refine eX2_save_29 hC ?_
    refine eX2_save_30 hC ?_
    refine eX2_save_31 hC (Nat.le_of_ble_eq_true rfl) (Nat.le_of_ble_eq_true rfl) (Nat.le_of_ble_eq_true rfl) (by first | assumption | exact zTxt.o (by assumption)) (vX7_copyFrom hC.nt f2 hT' ht' (by omega) ho) (zk_w (fun μ_31 m_31 => ?_))
    refine eX2_save_34 hC ?_
    refine eX2_save_35 hC ?_
    refine eX2_save_36 hC (by assumption) ?_
    rw [m_31.2 _ _ (by omega), u1]
    refine eX2_save_39 hC ?_
    refine eX2_save_40 hC ?_
    rw [nI_add]
    refine eX2_save_41 hC (by assumption) ?_
    refine eX2_save_44 hC hQ (Nat.le_of_ble_eq_true rfl) (Nat.le_of_ble_eq_true rfl) ?_
    have ha : zAg μ_13 (zup μ_31 p 1 (nI (5 + 1))) p (p + 32) := (zAg.wide m_31.2 (by omega) (by omega)).trans (zAg.up (by omega))
    refine ⟨rfl, hK, ⟨zrot s, hH, zup_self _ _ _ _ |>.trans (by rw [show zsvn 6 = 6 from rfl]), by unfold zsvn; split <;> omega, fun i hi => ?_⟩, (zAg.wide ua (by omega) (by omega)).trans ha⟩
    rw [show zsvn 6 = 6 from rfl] at hi
    rw [show zsvr 6 ρ τ = (fun i => if i = 5 then τ else ρ (i + 1)) from rfl]
    by_cases ci : i = 5
    · subst ci
      simp only [if_pos]
      exact m_31.1.ag (lo := p) (hi := p + 1) (zAg.up (by omega)) (by omega)
    · simp only [if_neg ci]
      have q1 := (v3 (i + 1) (by omega)).ag ua (by have := (h3 (i + 1) (by omega)).2.2; omega)
      have q2 : zrot s i = s (i + 1) := if_neg ci
      have q3 := g4 i 5 hi (by omega) ci
      rw [q2] at q3 ⊢
      exact (q1.ag m_31.2 (by omega)).ag (lo := p) (hi := p + 1) (zAg.up (by omega)) (by have := (h3 (i + 1) (by omega)).2.2; omega)
