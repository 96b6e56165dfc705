/-! ===== constructors: layouts, histories ===== -/
theorem zGr.fit {K K1 : zK} {μ μ1 : zF} {r q t : Nat} (h : zGr K K1 μ μ1 r) (ha : q + 5 ≤ r) (p : zFit K q t) : zFit K1 q t := ⟨h.o (by omega) p.1, h.r (by omega) p.2.1, h.r (by omega) p.2.2.1, h.r (by omega) p.2.2.2.1, h.row (by omega) p.2.2.2.2.1, h.row (by omega) p.2.2.2.2.2⟩
theorem zGr.opt {K K1 : zK} {μ μ1 : zF} {r o t q : Nat} (h : zGr K K1 μ μ1 r) (ha : o + 7 ≤ r) (p : zOpt K o t q) : zOpt K1 o t q := by
  obtain ⟨p1, p2, p3, p4, p5, p6, p7, p8, p9⟩ := p
  exact ⟨h.o (by omega) p1, h.r (by omega) p2, h.r (by omega) p3, h.r (by omega) p4, h.r (by omega) p5, h.r (by omega) p6, h.row (by omega) p7, h.row (by omega) p8, h.row (by omega) p9⟩
theorem zGr.txt {K K1 : zK} {μ μ1 : zF} {r t : Nat} (h : zGr K K1 μ μ1 r) (ha : t + 5 ≤ r) (p : zTxt K t) : zTxt K1 t := ⟨h.o (by omega) p.1, h.r (by omega) p.2.1, h.r (by omega) p.2.2.1, h.row (by omega) p.2.2.2.1, h.row (by omega) p.2.2.2.2⟩
theorem zGr.lay {K K1 : zK} {μ μ1 : zF} {r y t : Nat} (h : zGr K K1 μ μ1 r) (ha : y + 17 ≤ r) (p : zLay K y t) : zLay K1 y t := by
  obtain ⟨p1, p2, p3, p4, p5, p6, p7, p8, p9, p10⟩ := p
  exact ⟨h.o (by omega) p1, h.r (by omega) p2, h.r (by omega) p3, h.r (by omega) p4, h.r (by omega) p5, h.r (by omega) p6, h.row (by omega) p7, h.row (by omega) p8, h.fit (by omega) p9, h.opt (by omega) p10⟩
theorem zGr.pag {K K1 : zK} {μ μ1 : zF} {r q t y : Nat} (h : zGr K K1 μ μ1 r) (ha : q + 5 ≤ r) (p : zPag K q t y) : zPag K1 q t y := by
  obtain ⟨p1, p2, p3, p4, p5, p6, p7⟩ := p
  exact ⟨h.o (by omega) p1, h.r (by omega) p2, h.r (by omega) p3, h.r (by omega) p4, h.r (by omega) p5, h.row (by omega) p6, h.row (by omega) p7⟩
theorem zGr.buf {K K1 : zK} {μ μ1 : zF} {r q : Nat} (h : zGr K K1 μ μ1 r) (ha : q + 7 ≤ r) (p : zBuf K q) : zBuf K1 q := by
  obtain ⟨p1, p2, p3, p4, p5, p6, p7⟩ := p
  exact ⟨h.o (by omega) p1, h.r (by omega) p2, h.r (by omega) p3, h.r (by omega) p4, h.row (by omega) p5, h.row (by omega) p6, h.row (by omega) p7⟩
theorem zGr.mu {K K1 : zK} {μ μ1 : zF} {r a k : Nat} (h : zGr K K1 μ μ1 r) (ha : a < r) : μ1 a k = μ a k := (h.2 a ha).2.2.2 k
theorem zTv.gr {K K1 : zK} {μ μ1 : zF} {r t : Nat} {τ : Nat → Nat} (v : zTv μ t τ) (h : zGr K K1 μ μ1 r) (ha : t + 5 ≤ r) : zTv μ1 t τ := ⟨fun k hk => by rw [h.mu (by omega)]; exact v.1 k hk, fun k hk => by rw [h.mu (by omega)]; exact v.2.1 k hk, fun k h1 h2 => by rw [h.mu (by omega)]; exact v.2.2 k h1 h2⟩
theorem zVn.cs {x : zX} {cells slots cells' slots' pc N N' : Nat} {ls : List (Option Value)} {st : List Value} {K : zK} {μ : zF} (h1 : cells = cells') (h2 : slots = slots') (h3 : N = N') (k : zVn x cells' slots' pc ls st K μ N') : zVn x cells slots pc ls st K μ N := by subst h1; subst h2; subst h3; exact k
set_option maxHeartbeats 4000000 in
theorem vX3_init {l : Launch} {g : zG} (hl : l.stackTraces = false) {K : zK} {μ : zF} {t u : Nat} (h : zO K t 3) : JX3_init l g 16 5138 [.ref t, .ref u] K μ (t + 1) (fun K' μ' N' => N' = t + 17 ∧ zGr K K' μ μ' t ∧ zLay K' t u ∧ μ' (t + 7) 0 = nI 0) := by
  refine mX3_init hl (fun x hC hQ => ?_)
  refine jX3_init_0 hC ?_
  refine jX3_init_1 hC (Nat.le_of_ble_eq_true rfl) ?_
  refine jX3_init_4 hC ?_
  refine jX3_init_5 hC (Nat.le_of_ble_eq_true rfl) (Nat.le_of_ble_eq_true rfl) ?_
  refine jX3_init_8 hC ?_
  refine jX3_init_9 hC ?_
  refine jX3_init_11 hC (Nat.le_of_ble_eq_true rfl) (Nat.le_of_ble_eq_true rfl) (Nat.le_of_ble_eq_true rfl) (vX6_init hC.nt (n := 41) (zKn_o _ _ _ _) (by omega)) (fun K_11 μ_11 N_11 m_11 => ?_)
  obtain ⟨rfl, a1, a2, a3, a4⟩ := m_11
  have w1 : zGr K K_11 μ μ_11 (t + 1) := (zGr.new (Nat.le_refl (t + 1))).trans a1
  have o1 : zO K_11 t 3 := w1.o (by omega) h
  refine jX3_init_14 hC hQ.2.1 (by assumption) ?_
  have o2 : zO (zKr K_11 t 3 (t + 1)) t 3 := o1
  refine jX3_init_17 hC ?_
  refine jX3_init_18 hC (Nat.le_of_ble_eq_true rfl) (Nat.le_of_ble_eq_true rfl) ?_
  refine jX3_init_21 hC ?_
  refine jX3_init_22 hC ?_
  refine jX3_init_24 hC (Nat.le_of_ble_eq_true rfl) (Nat.le_of_ble_eq_true rfl) (Nat.le_of_ble_eq_true rfl) (vX6_init hC.nt (n := 40) (zKn_o _ _ _ _) (by omega)) (fun K_24 μ_24 N_24 m_24 => ?_)
  obtain ⟨rfl, b1, b2, b3, b4⟩ := m_24
  have w2 : zGr (zKr K_11 t 3 (t + 1)) K_24 μ_11 μ_24 (t + 3) := (zGr.new (Nat.le_refl (t + 1 + 2))).trans b1
  have o3 : zO K_24 t 3 := w2.o (by omega) o2
  refine jX3_init_27 hC hQ.2.1 (by assumption) ?_
  refine jX3_init_30 hC ?_
  refine jX3_init_31 hC ?_
  have o4 : zO (zKr K_24 t 4 (t + 1 + 2)) t 3 := o3
  refine jX3_init_32 hC (by assumption) ?_
  refine jX3_init_35 hC ?_
  refine jX3_init_36 hC ?_
  refine jX3_init_37 hC hQ.2.1 (by assumption) ?_
  have o5 : zO (zKr (zKr K_24 t 4 (t + 1 + 2)) t 0 u) t 3 := o4
  refine jX3_init_40 hC ?_
  refine jX3_init_41 hC (Nat.le_of_ble_eq_true rfl) (Nat.le_of_ble_eq_true rfl) ?_
  refine jX3_init_44 hC ?_
  refine jX3_init_45 hC ?_
  refine jX3_init_46 hC (Nat.le_of_ble_eq_true rfl) (Nat.le_of_ble_eq_true rfl) (Nat.le_of_ble_eq_true rfl) (vX1_init hC.nt (zKn_o _ _ _ _)) (fun K_46 μ_46 N_46 m_46 => ?_)
  obtain ⟨rfl, c1, c2, c3⟩ := m_46
  have w3 : zGr (zKr (zKr K_24 t 4 (t + 1 + 2)) t 0 u) K_46 (zup μ_24 t 5 (nI 0)) μ_46 (t + 5) := (zGr.new (Nat.le_refl (t + 1 + 2 + 2))).trans c1
  have o6 : zO K_46 t 3 := w3.o (by omega) o5
  refine jX3_init_49 hC hQ.2.1 (by assumption) ?_
  have o7 : zO (zKr K_46 t 1 (t + 1 + 2 + 2)) t 3 := o6
  refine jX3_init_52 hC ?_
  refine jX3_init_53 hC (Nat.le_of_ble_eq_true rfl) (Nat.le_of_ble_eq_true rfl) ?_
  refine jX3_init_56 hC ?_
  refine jX3_init_57 hC ?_
  refine jX3_init_58 hC ?_
  have w4 : zGr (zKr K_46 t 1 (t + 1 + 2 + 2)) (zKn (zKr K_46 t 1 (t + 1 + 2 + 2)) (t + 1 + 2 + 2 + 5) 4 0) μ_46 (zmn μ_46 (t + 1 + 2 + 2 + 5)) (t + 10) := zGr.new (Nat.le_refl (t + 1 + 2 + 2 + 5))
  have o8 : zO (zKn (zKr K_46 t 1 (t + 1 + 2 + 2)) (t + 1 + 2 + 2 + 5) 4 0) t 3 := w4.o (by omega) o7
  have f8 : zr (zKn (zKr K_46 t 1 (t + 1 + 2 + 2)) (t + 1 + 2 + 2 + 5) 4 0) t 1 (t + 1 + 2 + 2) := w4.r (by omega) (zKr_self _ _ _ _)
  refine jX3_init_59 hC (by assumption) (by assumption) ?_
  refine jX3_init_62 hC (Nat.le_of_ble_eq_true rfl) (Nat.le_of_ble_eq_true rfl) (Nat.le_of_ble_eq_true rfl) (vX4_init hC.nt (zKn_o _ _ _ _)) (fun K_62 μ_62 N_62 m_62 => ?_)
  obtain ⟨rfl, d1, d2⟩ := m_62
  have w5 : zGr (zKr K_46 t 1 (t + 1 + 2 + 2)) K_62 μ_46 μ_62 (t + 10) := w4.trans d1
  have o9 : zO K_62 t 3 := w5.o (by omega) o7
  refine jX3_init_65 hC hQ.2.1 (by assumption) ?_
  refine jX3_init_68 hC hQ (Nat.le_of_ble_eq_true rfl) (Nat.le_of_ble_eq_true rfl) ?_
  have r1 : zRow K_24 (t + 1) 41 := w2.row (by omega) (a2.kr (by omega))
  have r2 : zRow K_46 (t + 1) 41 := w3.row (by omega) ((r1.kr (by omega)).kr (by omega))
  have r3 : zRow K_62 (t + 1) 41 := w5.row (by omega) (r2.kr (by omega))
  have s2 : zRow K_46 (t + 1 + 2) 40 := w3.row (by omega) ((b2.kr (by omega)).kr (by omega))
  have s3 : zRow K_62 (t + 1 + 2) 40 := w5.row (by omega) (s2.kr (by omega))
  have q3 : zFit K_62 (t + 1 + 2 + 2) u := w5.fit (by omega) ((zKe.kr _ _ _ _).fit (by omega) c2)
  have f3 : zr K_62 t 3 (t + 1) := w5.r (by omega) (zr.kr (w3.r (by omega) (zr.kr (zr.kr (w2.r (by omega) (zKr_self _ _ _ _)) (Or.inr (by omega))) (Or.inr (by omega)))) (Or.inr (by omega)))
  have f4 : zr K_62 t 4 (t + 1 + 2) := w5.r (by omega) (zr.kr (w3.r (by omega) (zr.kr (zKr_self _ _ _ _) (Or.inr (by omega)))) (Or.inr (by omega)))
  have f0 : zr K_62 t 0 u := w5.r (by omega) (zr.kr (w3.r (by omega) (zKr_self _ _ _ _)) (Or.inr (by omega)))
  have f1 : zr K_62 t 1 (t + 1 + 2 + 2) := w5.r (by omega) (zKr_self _ _ _ _)
  have g1 := ((((w1.low (Nat.le_succ t)).trans (zGr.kr (i := 3) (b := t + 1) (Nat.le_refl t))).trans (w2.low (by omega))).trans (zGr.kr (i := 4) (b := t + 1 + 2) (Nat.le_refl t))).trans (zGr.up (k := 5) (v := nI 0) (Nat.le_refl t))
  have g2 := (((g1.trans (zGr.kr (i := 0) (b := u) (Nat.le_refl t))).trans (w3.low (by omega))).trans (zGr.kr (i := 1) (b := t + 1 + 2 + 2) (Nat.le_refl t))).trans (w5.low (by omega))
  refine ⟨rfl, g2.trans (zGr.kr (i := 2) (b := t + 1 + 2 + 2 + 5) (Nat.le_refl t)), ⟨o9, f0.kr (Or.inr (by omega)), f1.kr (Or.inr (by omega)), zKr_self _ _ _ _, f3.kr (Or.inr (by omega)), f4.kr (Or.inr (by omega)), r3.kr (by omega), s3.kr (by omega), (zKe.kr _ _ _ _).fit (by omega) q3, (zKe.kr _ _ _ _).opt (by omega) d2⟩, ?_⟩
  rw [w5.mu (by omega)]
  exact c3 0
/-- a history in the making: i texts stand -/
def zHi (K : zK) (p i : Nat) : Prop := zO K p 2 ∧ zr K p 0 (p + 1) ∧ zI K (p + 1) 14 6 ∧ ∀ j, j < i → zr K (p + 1) j (p + 2 + 5 * j) ∧ zTxt K (p + 2 + 5 * j)
set_option maxHeartbeats 4000000 in
theorem zX2_loop {x : zX} (hC : hX2_init x 31 570) {K : zK} {μ : zF} {p : Nat} (hQ : zQn x (fun K' μ' N' => N' = p + 32 ∧ zGr K K' μ μ' p ∧ zHis K' p (fun i => p + 2 + 5 * i) ∧ μ' p 1 = nI 0) 31 570) : ∀ (d i : Nat) (K1 : zK) (μ1 : zF), i + d = 6 → zGr K K1 μ μ1 p → zHi K1 p i → μ1 p 1 = nI 0 → zVn x (1 + 5 * i) (6 + 94 * i) 20 [some (.ref p), some (.int (nI i))] [] K1 μ1 (p + 2 + 5 * i)
  | 0, i, K1, μ1, hi, hG, hH, h1 => by
    obtain rfl : i = 6 := by omega
    obtain ⟨h0, hr, hI, hT⟩ := hH
    refine jX2_init_20 hC ?_
    refine jX2_init_21 hC ?_
    refine jX2_init_22 hC (by assumption) (by assumption) ?_
    refine jX2_init_25 hC (by assumption) ?_
    refine jX2_init_26 hC (fun _ => ?_) (fun zz => absurd (Int32.le_refl _) zz)
    refine jX2_init_48 hC hQ (Nat.le_of_ble_eq_true rfl) (Nat.le_of_ble_eq_true rfl) ?_
    refine ⟨rfl, hG, ⟨h0, hr, hI, fun j hj => ⟨(hT j hj).1, (hT j hj).2, ?_, ?_⟩, fun a b ha hb hn => ?_⟩, h1⟩
    · show p + 2 ≤ p + 2 + 5 * j; omega
    · show p + 2 + 5 * j + 5 ≤ p + 32; omega
    · show p + 2 + 5 * a + 5 ≤ p + 2 + 5 * b ∨ p + 2 + 5 * b + 5 ≤ p + 2 + 5 * a; omega
  | d + 1, i, K1, μ1, hi, hG, hH, h1 => by
    obtain ⟨h0, hr, hI, hT⟩ := hH
    have hin : vp_in (nI i) 6 := by rw [vp_in_iff, nI_toInt (by omega)]; omega
    refine jX2_init_20 hC ?_
    refine jX2_init_21 hC ?_
    refine jX2_init_22 hC (by assumption) (by assumption) ?_
    refine jX2_init_25 hC (by assumption) ?_
    refine jX2_init_26 hC (fun zz => absurd zz (nI_ge (by omega) (by omega))) (fun _ => ?_)
    refine jX2_init_29 hC ?_
    refine jX2_init_30 hC (by assumption) (by assumption) ?_
    refine jX2_init_33 hC ?_
    refine jX2_init_34 hC (by omega) (by omega) ?_
    refine jX2_init_37 hC ?_
    refine jX2_init_38 hC (Nat.le_of_ble_eq_true rfl) (by omega) (by omega) (vX7_init hC.nt (zKn_o _ _ _ _)) (fun K_38 μ_38 N_38 m_38 => ?_)
    obtain ⟨rfl, a1, a2, a3⟩ := m_38
    have w1 : zGr K1 K_38 μ1 μ_38 (p + 2 + 5 * i) := (zGr.new (Nat.le_refl _)).trans a1
    have hI' : zI K_38 (p + 1) 14 6 := w1.i (by omega) hI
    refine jX2_init_41 hC hI' hin a2.1 ?_
    rw [nI_clamp (by omega)]
    refine jX2_init_42 hC ?_
    refine jX2_init_45 hC ?_
    refine zVn.cs (cells' := 1 + 5 * (i + 1)) (slots' := 6 + 94 * (i + 1)) (N' := p + 2 + 5 * (i + 1)) (by omega) (by omega) (by omega) ?_
    rw [nI_add]
    refine zX2_loop hC hQ d (i + 1) _ _ (by omega) ((hG.trans (w1.low (by omega))).trans (zGr.kr (by omega))) ⟨w1.o (by omega) h0, zr.kr (w1.r (by omega) hr) (Or.inl (by omega)), hI', fun j hj => ?_⟩ (by rw [w1.mu (by omega)]; exact h1)
    rcases Nat.eq_or_lt_of_le (show j ≤ i by omega) with q | q
    · subst q
      exact ⟨zKr_self _ _ _ _, (zKe.kr _ _ _ _).txt (by omega) a2⟩
    · exact ⟨zKr_ne (by omega) (w1.r (by omega) (hT j q).1), (zKe.kr _ _ _ _).txt (by omega) (w1.txt (by omega) (hT j q).2)⟩
set_option maxHeartbeats 4000000 in
theorem vX2_init {l : Launch} {g : zG} (hl : l.stackTraces = false) {K : zK} {μ : zF} {p : Nat} (h : zO K p 2) : JX2_init l g 31 570 [.ref p] K μ (p + 1) (fun K' μ' N' => N' = p + 32 ∧ zGr K K' μ μ' p ∧ zHis K' p (fun i => p + 2 + 5 * i) ∧ μ' p 1 = nI 0) := by
  refine mX2_init hl (fun x hC hQ => ?_)
  have o1 : zO (zKn K (p + 1) 14 6) p 2 := (zGr.new (μ := μ) (Nat.le_refl (p + 1))).o (by omega) h
  refine jX2_init_0 hC ?_
  refine jX2_init_1 hC (Nat.le_of_ble_eq_true rfl) ?_
  refine jX2_init_4 hC ?_
  refine jX2_init_5 hC ?_
  refine jX2_init_7 hC (va_AO.use hC.zs.2.2.2.2.2.2.2.2.2) (nI_pos (by omega)) (nI_clamp (by omega)) (by omega) (Nat.le_of_ble_eq_true rfl) (Nat.le_of_ble_eq_true rfl) ?_
  refine jX2_init_10 hC hQ.2.1 (by assumption) ?_
  have o2 : zO (zKr (zKn K (p + 1) 14 6) p 0 (p + 1)) p 2 := o1
  refine jX2_init_13 hC ?_
  refine jX2_init_14 hC ?_
  refine jX2_init_15 hC (by assumption) ?_
  refine jX2_init_18 hC ?_
  refine jX2_init_19 hC ?_
  refine zX2_loop hC hQ 6 0 _ _ rfl ((((zGr.new (μ := μ) (Nat.le_refl (p + 1))).low (Nat.le_succ p)).trans (zGr.kr (Nat.le_refl p))).trans (zGr.up (Nat.le_refl p))) ⟨o2, zKr_self _ _ _ _, ⟨List.mem_append_right _ (List.mem_singleton.mpr rfl), if_pos rfl⟩, fun j hj => absurd hj (Nat.not_lt_zero j)⟩ (zup_self _ _ _ _)
/-- the empty state -/
def zS0 : zMs := (zt0, 0, (fun _ _ => 0), 0, fun _ => 0)
theorem zt0_ok : zOk zt0 := by
  refine ⟨by decide, fun k hk => absurd hk (Nat.not_lt_zero k), fun k hk => absurd hk (Nat.not_lt_zero k), by decide, by decide, by decide, by decide, by decide, by decide, by decide⟩
theorem zS0_ok : zMok zS0 := ⟨zt0_ok, Nat.zero_le _, fun i hi => absurd hi (Nat.not_lt_zero i), Nat.zero_le _, fun i hi => absurd hi (Nat.not_lt_zero i)⟩
set_option maxHeartbeats 8000000 in
theorem vX8_init {l : Launch} {g : zG} (hl : l.stackTraces = false) {K : zK} {μ : zF} {x : Nat} (h : zO K x 8) : JX8_init l g 88 11325 [.ref x] K μ (x + 1) (fun K' μ' N' => N' = x + 89 ∧ zGr K K' μ μ' x ∧ zX8 K' μ' x zS0) := by
  refine mX8_init hl (fun z hC hQ => ?_)
  refine jX8_init_0 hC ?_
  refine jX8_init_1 hC (Nat.le_of_ble_eq_true rfl) ?_
  refine jX8_init_4 hC ?_
  refine jX8_init_5 hC (Nat.le_of_ble_eq_true rfl) (Nat.le_of_ble_eq_true rfl) ?_
  refine jX8_init_8 hC ?_
  refine jX8_init_9 hC (Nat.le_of_ble_eq_true rfl) (Nat.le_of_ble_eq_true rfl) (Nat.le_of_ble_eq_true rfl) (vX7_init hC.nt (zKn_o _ _ _ _)) (fun K_9 μ_9 N_9 m_9 => ?_)
  obtain ⟨rfl, q1, t1, v1⟩ := m_9
  have w0 : zGr K K_9 μ μ_9 (x + 1) := (zGr.new (Nat.le_refl (x + 1))).trans q1
  have u0 : zO K_9 x 8 := w0.o (by omega) h
  refine jX8_init_12 hC hQ.2.1 (by assumption) ?_
  have o1 : zO (zKr K_9 x 0 (x + 1)) x 8 := u0
  have r0_1 : zr (zKr K_9 x 0 (x + 1)) x 0 (x + 1) := zKr_self _ _ _ _
  refine jX8_init_15 hC ?_
  refine jX8_init_16 hC (Nat.le_of_ble_eq_true rfl) (Nat.le_of_ble_eq_true rfl) ?_
  refine jX8_init_19 hC ?_
  refine jX8_init_20 hC ?_
  have n1 := zGr.new (K := (zKr K_9 x 0 (x + 1))) (μ := μ_9) (N := x + 1 + 5) (c := 3) (n := 0) (Nat.le_refl (x + 1 + 5))
  have p1 := n1.o (by omega) o1
  have s0_1 := n1.r (by omega) r0_1
  refine jX8_init_21 hC (by assumption) (by assumption) ?_
  refine jX8_init_24 hC (Nat.le_of_ble_eq_true rfl) (Nat.le_of_ble_eq_true rfl) (Nat.le_of_ble_eq_true rfl) (vX3_init hC.nt (zKn_o _ _ _ _)) (fun K_24 μ_24 N_24 m_24 => ?_)
  obtain ⟨rfl, q2, y2, z2⟩ := m_24
  have w1 : zGr (zKr K_9 x 0 (x + 1)) K_24 μ_9 μ_24 (x + 1 + 5) := (zGr.new (Nat.le_refl (x + 1 + 5))).trans q2
  have u1 : zO K_24 x 8 := w1.o (by omega) o1
  refine jX8_init_27 hC hQ.2.1 (by assumption) ?_
  have o2 : zO (zKr K_24 x 1 (x + 1 + 5)) x 8 := u1
  have r0_2 : zr (zKr K_24 x 1 (x + 1 + 5)) x 0 (x + 1) := zr.kr (w1.r (by omega) r0_1) (Or.inr (by omega))
  have r1_2 : zr (zKr K_24 x 1 (x + 1 + 5)) x 1 (x + 1 + 5) := zKr_self _ _ _ _
  refine jX8_init_30 hC ?_
  refine jX8_init_31 hC (Nat.le_of_ble_eq_true rfl) (Nat.le_of_ble_eq_true rfl) ?_
  refine jX8_init_34 hC ?_
  refine jX8_init_35 hC ?_
  have n2 := zGr.new (K := (zKr K_24 x 1 (x + 1 + 5))) (μ := μ_24) (N := x + 1 + 5 + 17) (c := 5) (n := 0) (Nat.le_refl (x + 1 + 5 + 17))
  have p2 := n2.o (by omega) o2
  have s0_2 := n2.r (by omega) r0_2
  have s1_2 := n2.r (by omega) r1_2
  refine jX8_init_36 hC (by assumption) (by assumption) ?_
  refine jX8_init_39 hC ?_
  refine jX8_init_40 hC (by assumption) (by assumption) ?_
  refine jX8_init_43 hC (Nat.le_of_ble_eq_true rfl) (Nat.le_of_ble_eq_true rfl) (Nat.le_of_ble_eq_true rfl) (vX5_init hC.nt (zKn_o _ _ _ _)) (fun K_43 μ_43 N_43 m_43 => ?_)
  obtain ⟨rfl, q3, g3, -⟩ := m_43
  have w2 : zGr (zKr K_24 x 1 (x + 1 + 5)) K_43 μ_24 μ_43 (x + 1 + 5 + 17) := (zGr.new (Nat.le_refl (x + 1 + 5 + 17))).trans q3
  have u2 : zO K_43 x 8 := w2.o (by omega) o2
  refine jX8_init_46 hC hQ.2.1 (by assumption) ?_
  have o3 : zO (zKr K_43 x 2 (x + 1 + 5 + 17)) x 8 := u2
  have r0_3 : zr (zKr K_43 x 2 (x + 1 + 5 + 17)) x 0 (x + 1) := zr.kr (w2.r (by omega) r0_2) (Or.inr (by omega))
  have r1_3 : zr (zKr K_43 x 2 (x + 1 + 5 + 17)) x 1 (x + 1 + 5) := zr.kr (w2.r (by omega) r1_2) (Or.inr (by omega))
  have r2_3 : zr (zKr K_43 x 2 (x + 1 + 5 + 17)) x 2 (x + 1 + 5 + 17) := zKr_self _ _ _ _
  refine jX8_init_49 hC ?_
  refine jX8_init_50 hC (Nat.le_of_ble_eq_true rfl) (Nat.le_of_ble_eq_true rfl) ?_
  refine jX8_init_53 hC ?_
  refine jX8_init_54 hC (Nat.le_of_ble_eq_true rfl) (Nat.le_of_ble_eq_true rfl) (Nat.le_of_ble_eq_true rfl) (vX7_init hC.nt (zKn_o _ _ _ _)) (fun K_54 μ_54 N_54 m_54 => ?_)
  obtain ⟨rfl, q4, t4, v4⟩ := m_54
  have w3 : zGr (zKr K_43 x 2 (x + 1 + 5 + 17)) K_54 μ_43 μ_54 (x + 1 + 5 + 17 + 5) := (zGr.new (Nat.le_refl (x + 1 + 5 + 17 + 5))).trans q4
  have u3 : zO K_54 x 8 := w3.o (by omega) o3
  refine jX8_init_57 hC hQ.2.1 (by assumption) ?_
  have o4 : zO (zKr K_54 x 3 (x + 1 + 5 + 17 + 5)) x 8 := u3
  have r0_4 : zr (zKr K_54 x 3 (x + 1 + 5 + 17 + 5)) x 0 (x + 1) := zr.kr (w3.r (by omega) r0_3) (Or.inr (by omega))
  have r1_4 : zr (zKr K_54 x 3 (x + 1 + 5 + 17 + 5)) x 1 (x + 1 + 5) := zr.kr (w3.r (by omega) r1_3) (Or.inr (by omega))
  have r2_4 : zr (zKr K_54 x 3 (x + 1 + 5 + 17 + 5)) x 2 (x + 1 + 5 + 17) := zr.kr (w3.r (by omega) r2_3) (Or.inr (by omega))
  have r3_4 : zr (zKr K_54 x 3 (x + 1 + 5 + 17 + 5)) x 3 (x + 1 + 5 + 17 + 5) := zKr_self _ _ _ _
  refine jX8_init_60 hC ?_
  refine jX8_init_61 hC (Nat.le_of_ble_eq_true rfl) (Nat.le_of_ble_eq_true rfl) ?_
  refine jX8_init_64 hC ?_
  refine jX8_init_65 hC ?_
  have n4 := zGr.new (K := (zKr K_54 x 3 (x + 1 + 5 + 17 + 5))) (μ := μ_54) (N := x + 1 + 5 + 17 + 5 + 5) (c := 3) (n := 0) (Nat.le_refl (x + 1 + 5 + 17 + 5 + 5))
  have p4 := n4.o (by omega) o4
  have s3_4 := n4.r (by omega) r3_4
  refine jX8_init_66 hC (by assumption) (by assumption) ?_
  refine jX8_init_69 hC (Nat.le_of_ble_eq_true rfl) (Nat.le_of_ble_eq_true rfl) (Nat.le_of_ble_eq_true rfl) (vX3_init hC.nt (zKn_o _ _ _ _)) (fun K_69 μ_69 N_69 m_69 => ?_)
  obtain ⟨rfl, q5, y5, z5⟩ := m_69
  have w4 : zGr (zKr K_54 x 3 (x + 1 + 5 + 17 + 5)) K_69 μ_54 μ_69 (x + 1 + 5 + 17 + 5 + 5) := (zGr.new (Nat.le_refl (x + 1 + 5 + 17 + 5 + 5))).trans q5
  have u4 : zO K_69 x 8 := w4.o (by omega) o4
  refine jX8_init_72 hC hQ.2.1 (by assumption) ?_
  have o5 : zO (zKr K_69 x 4 (x + 1 + 5 + 17 + 5 + 5)) x 8 := u4
  have r0_5 : zr (zKr K_69 x 4 (x + 1 + 5 + 17 + 5 + 5)) x 0 (x + 1) := zr.kr (w4.r (by omega) r0_4) (Or.inr (by omega))
  have r1_5 : zr (zKr K_69 x 4 (x + 1 + 5 + 17 + 5 + 5)) x 1 (x + 1 + 5) := zr.kr (w4.r (by omega) r1_4) (Or.inr (by omega))
  have r2_5 : zr (zKr K_69 x 4 (x + 1 + 5 + 17 + 5 + 5)) x 2 (x + 1 + 5 + 17) := zr.kr (w4.r (by omega) r2_4) (Or.inr (by omega))
  have r3_5 : zr (zKr K_69 x 4 (x + 1 + 5 + 17 + 5 + 5)) x 3 (x + 1 + 5 + 17 + 5) := zr.kr (w4.r (by omega) r3_4) (Or.inr (by omega))
  have r4_5 : zr (zKr K_69 x 4 (x + 1 + 5 + 17 + 5 + 5)) x 4 (x + 1 + 5 + 17 + 5 + 5) := zKr_self _ _ _ _
  refine jX8_init_75 hC ?_
  refine jX8_init_76 hC (Nat.le_of_ble_eq_true rfl) (Nat.le_of_ble_eq_true rfl) ?_
  refine jX8_init_79 hC ?_
  refine jX8_init_80 hC (Nat.le_of_ble_eq_true rfl) (Nat.le_of_ble_eq_true rfl) (Nat.le_of_ble_eq_true rfl) (vX0_init hC.nt (zKn_o _ _ _ _)) (fun K_80 μ_80 N_80 m_80 => ?_)
  obtain ⟨rfl, q6, b6, z6⟩ := m_80
  have w5 : zGr (zKr K_69 x 4 (x + 1 + 5 + 17 + 5 + 5)) K_80 μ_69 μ_80 (x + 1 + 5 + 17 + 5 + 5 + 17) := (zGr.new (Nat.le_refl (x + 1 + 5 + 17 + 5 + 5 + 17))).trans q6
  have u5 : zO K_80 x 8 := w5.o (by omega) o5
  refine jX8_init_83 hC hQ.2.1 (by assumption) ?_
  have o6 : zO (zKr K_80 x 5 (x + 1 + 5 + 17 + 5 + 5 + 17)) x 8 := u5
  have r0_6 : zr (zKr K_80 x 5 (x + 1 + 5 + 17 + 5 + 5 + 17)) x 0 (x + 1) := zr.kr (w5.r (by omega) r0_5) (Or.inr (by omega))
  have r1_6 : zr (zKr K_80 x 5 (x + 1 + 5 + 17 + 5 + 5 + 17)) x 1 (x + 1 + 5) := zr.kr (w5.r (by omega) r1_5) (Or.inr (by omega))
  have r2_6 : zr (zKr K_80 x 5 (x + 1 + 5 + 17 + 5 + 5 + 17)) x 2 (x + 1 + 5 + 17) := zr.kr (w5.r (by omega) r2_5) (Or.inr (by omega))
  have r3_6 : zr (zKr K_80 x 5 (x + 1 + 5 + 17 + 5 + 5 + 17)) x 3 (x + 1 + 5 + 17 + 5) := zr.kr (w5.r (by omega) r3_5) (Or.inr (by omega))
  have r4_6 : zr (zKr K_80 x 5 (x + 1 + 5 + 17 + 5 + 5 + 17)) x 4 (x + 1 + 5 + 17 + 5 + 5) := zr.kr (w5.r (by omega) r4_5) (Or.inr (by omega))
  have r5_6 : zr (zKr K_80 x 5 (x + 1 + 5 + 17 + 5 + 5 + 17)) x 5 (x + 1 + 5 + 17 + 5 + 5 + 17) := zKr_self _ _ _ _
  refine jX8_init_86 hC ?_
  refine jX8_init_87 hC (Nat.le_of_ble_eq_true rfl) (Nat.le_of_ble_eq_true rfl) ?_
  refine jX8_init_90 hC ?_
  refine jX8_init_91 hC (Nat.le_of_ble_eq_true rfl) (Nat.le_of_ble_eq_true rfl) (Nat.le_of_ble_eq_true rfl) (vX2_init hC.nt (zKn_o _ _ _ _)) (fun K_91 μ_91 N_91 m_91 => ?_)
  obtain ⟨rfl, q7, h7, z7⟩ := m_91
  have w6 : zGr (zKr K_80 x 5 (x + 1 + 5 + 17 + 5 + 5 + 17)) K_91 μ_80 μ_91 (x + 1 + 5 + 17 + 5 + 5 + 17 + 7) := (zGr.new (Nat.le_refl (x + 1 + 5 + 17 + 5 + 5 + 17 + 7))).trans q7
  have u6 : zO K_91 x 8 := w6.o (by omega) o6
  refine jX8_init_94 hC hQ.2.1 (by assumption) ?_
  have o7 : zO (zKr K_91 x 6 (x + 1 + 5 + 17 + 5 + 5 + 17 + 7)) x 8 := u6
  have r0_7 : zr (zKr K_91 x 6 (x + 1 + 5 + 17 + 5 + 5 + 17 + 7)) x 0 (x + 1) := zr.kr (w6.r (by omega) r0_6) (Or.inr (by omega))
  have r1_7 : zr (zKr K_91 x 6 (x + 1 + 5 + 17 + 5 + 5 + 17 + 7)) x 1 (x + 1 + 5) := zr.kr (w6.r (by omega) r1_6) (Or.inr (by omega))
  have r2_7 : zr (zKr K_91 x 6 (x + 1 + 5 + 17 + 5 + 5 + 17 + 7)) x 2 (x + 1 + 5 + 17) := zr.kr (w6.r (by omega) r2_6) (Or.inr (by omega))
  have r3_7 : zr (zKr K_91 x 6 (x + 1 + 5 + 17 + 5 + 5 + 17 + 7)) x 3 (x + 1 + 5 + 17 + 5) := zr.kr (w6.r (by omega) r3_6) (Or.inr (by omega))
  have r4_7 : zr (zKr K_91 x 6 (x + 1 + 5 + 17 + 5 + 5 + 17 + 7)) x 4 (x + 1 + 5 + 17 + 5 + 5) := zr.kr (w6.r (by omega) r4_6) (Or.inr (by omega))
  have r5_7 : zr (zKr K_91 x 6 (x + 1 + 5 + 17 + 5 + 5 + 17 + 7)) x 5 (x + 1 + 5 + 17 + 5 + 5 + 17) := zr.kr (w6.r (by omega) r5_6) (Or.inr (by omega))
  have r6_7 : zr (zKr K_91 x 6 (x + 1 + 5 + 17 + 5 + 5 + 17 + 7)) x 6 (x + 1 + 5 + 17 + 5 + 5 + 17 + 7) := zKr_self _ _ _ _
  refine jX8_init_97 hC ?_
  refine jX8_init_98 hC ?_
  refine jX8_init_99 hC (Or.inr rfl) (by assumption) ?_
  refine jX8_init_102 hC hQ (Nat.le_of_ble_eq_true rfl) (Nat.le_of_ble_eq_true rfl) ?_
  have e1 := t1
  have t1k0 := (zKe.kr K_9 x 0 (x + 1)).txt (Or.inl (by omega)) t1
  have t1w0 := w1.txt (by omega) t1k0
  have t1k1 := (zKe.kr K_24 x 1 (x + 1 + 5)).txt (Or.inl (by omega)) t1w0
  have t1w1 := w2.txt (by omega) t1k1
  have t1k2 := (zKe.kr K_43 x 2 (x + 1 + 5 + 17)).txt (Or.inl (by omega)) t1w1
  have t1w2 := w3.txt (by omega) t1k2
  have t1k3 := (zKe.kr K_54 x 3 (x + 1 + 5 + 17 + 5)).txt (Or.inl (by omega)) t1w2
  have t1w3 := w4.txt (by omega) t1k3
  have t1k4 := (zKe.kr K_69 x 4 (x + 1 + 5 + 17 + 5 + 5)).txt (Or.inl (by omega)) t1w3
  have t1w4 := w5.txt (by omega) t1k4
  have t1k5 := (zKe.kr K_80 x 5 (x + 1 + 5 + 17 + 5 + 5 + 17)).txt (Or.inl (by omega)) t1w4
  have t1w5 := w6.txt (by omega) t1k5
  have t1k6 := (zKe.kr K_91 x 6 (x + 1 + 5 + 17 + 5 + 5 + 17 + 7)).txt (Or.inl (by omega)) t1w5
  have y2k1 := (zKe.kr K_24 x 1 (x + 1 + 5)).lay (Or.inl (by omega)) y2
  have y2w1 := w2.lay (by omega) y2k1
  have y2k2 := (zKe.kr K_43 x 2 (x + 1 + 5 + 17)).lay (Or.inl (by omega)) y2w1
  have y2w2 := w3.lay (by omega) y2k2
  have y2k3 := (zKe.kr K_54 x 3 (x + 1 + 5 + 17 + 5)).lay (Or.inl (by omega)) y2w2
  have y2w3 := w4.lay (by omega) y2k3
  have y2k4 := (zKe.kr K_69 x 4 (x + 1 + 5 + 17 + 5 + 5)).lay (Or.inl (by omega)) y2w3
  have y2w4 := w5.lay (by omega) y2k4
  have y2k5 := (zKe.kr K_80 x 5 (x + 1 + 5 + 17 + 5 + 5 + 17)).lay (Or.inl (by omega)) y2w4
  have y2w5 := w6.lay (by omega) y2k5
  have y2k6 := (zKe.kr K_91 x 6 (x + 1 + 5 + 17 + 5 + 5 + 17 + 7)).lay (Or.inl (by omega)) y2w5
  have g3k2 := (zKe.kr K_43 x 2 (x + 1 + 5 + 17)).pag (Or.inl (by omega)) g3
  have g3w2 := w3.pag (by omega) g3k2
  have g3k3 := (zKe.kr K_54 x 3 (x + 1 + 5 + 17 + 5)).pag (Or.inl (by omega)) g3w2
  have g3w3 := w4.pag (by omega) g3k3
  have g3k4 := (zKe.kr K_69 x 4 (x + 1 + 5 + 17 + 5 + 5)).pag (Or.inl (by omega)) g3w3
  have g3w4 := w5.pag (by omega) g3k4
  have g3k5 := (zKe.kr K_80 x 5 (x + 1 + 5 + 17 + 5 + 5 + 17)).pag (Or.inl (by omega)) g3w4
  have g3w5 := w6.pag (by omega) g3k5
  have g3k6 := (zKe.kr K_91 x 6 (x + 1 + 5 + 17 + 5 + 5 + 17 + 7)).pag (Or.inl (by omega)) g3w5
  have t4k3 := (zKe.kr K_54 x 3 (x + 1 + 5 + 17 + 5)).txt (Or.inl (by omega)) t4
  have t4w3 := w4.txt (by omega) t4k3
  have t4k4 := (zKe.kr K_69 x 4 (x + 1 + 5 + 17 + 5 + 5)).txt (Or.inl (by omega)) t4w3
  have t4w4 := w5.txt (by omega) t4k4
  have t4k5 := (zKe.kr K_80 x 5 (x + 1 + 5 + 17 + 5 + 5 + 17)).txt (Or.inl (by omega)) t4w4
  have t4w5 := w6.txt (by omega) t4k5
  have t4k6 := (zKe.kr K_91 x 6 (x + 1 + 5 + 17 + 5 + 5 + 17 + 7)).txt (Or.inl (by omega)) t4w5
  have y5k4 := (zKe.kr K_69 x 4 (x + 1 + 5 + 17 + 5 + 5)).lay (Or.inl (by omega)) y5
  have y5w4 := w5.lay (by omega) y5k4
  have y5k5 := (zKe.kr K_80 x 5 (x + 1 + 5 + 17 + 5 + 5 + 17)).lay (Or.inl (by omega)) y5w4
  have y5w5 := w6.lay (by omega) y5k5
  have y5k6 := (zKe.kr K_91 x 6 (x + 1 + 5 + 17 + 5 + 5 + 17 + 7)).lay (Or.inl (by omega)) y5w5
  have b6k5 := (zKe.kr K_80 x 5 (x + 1 + 5 + 17 + 5 + 5 + 17)).buf (Or.inl (by omega)) b6
  have b6w5 := w6.buf (by omega) b6k5
  have b6k6 := (zKe.kr K_91 x 6 (x + 1 + 5 + 17 + 5 + 5 + 17 + 7)).buf (Or.inl (by omega)) b6w5
  have hh : zHis (zKr K_91 x 6 (x + 1 + 5 + 17 + 5 + 5 + 17 + 7)) (x + 1 + 5 + 17 + 5 + 5 + 17 + 7) (fun i => x + 1 + 5 + 17 + 5 + 5 + 17 + 7 + 2 + 5 * i) := by
    obtain ⟨a0, a1, a2, a3, a4⟩ := h7
    refine ⟨a0, a1.kr (Or.inl (by omega)), a2, fun i hi => ⟨(a3 i hi).1.kr (Or.inl (by omega)), (zKe.kr K_91 x 6 (x + 1 + 5 + 17 + 5 + 5 + 17 + 7)).txt (Or.inl (by have := (a3 i hi).2.2.1; omega)) (a3 i hi).2.1, (a3 i hi).2.2⟩, a4⟩
  have v1g1 := v1.gr w1 (by omega)
  have v1g2 := v1g1.gr w2 (by omega)
  have v1g3 := v1g2.gr w3 (by omega)
  have v1g4 := v1g3.gr w4 (by omega)
  have v1g5 := v1g4.gr w5 (by omega)
  have v1g6 := v1g5.gr w6 (by omega)
  have hu : zAg μ_91 (zup μ_91 x 7 (nI 1)) x (x + 1) := zAg.up (by omega)
  have c13 : μ_91 (x + 13) 0 = nI 0 := by rw [w6.mu (by omega), w5.mu (by omega), w4.mu (by omega), w3.mu (by omega), w2.mu (by omega)]; exact z2
  have c40 : μ_91 (x + 40) 0 = nI 0 := by rw [w6.mu (by omega), w5.mu (by omega)]; exact z5
  have c53 : μ_91 (x + 50) 3 = nI 0 := by rw [w6.mu (by omega)]; exact z6
  refine ⟨rfl, ((((((((((((((w0.low (Nat.le_succ x)).trans (zGr.kr (i := 0) (b := x + 1) (Nat.le_refl x))).trans (w1.low (by omega))).trans (zGr.kr (i := 1) (b := x + 1 + 5) (Nat.le_refl x))).trans (w2.low (by omega))).trans (zGr.kr (i := 2) (b := x + 1 + 5 + 17) (Nat.le_refl x))).trans (w3.low (by omega))).trans (zGr.kr (i := 3) (b := x + 1 + 5 + 17 + 5) (Nat.le_refl x))).trans (w4.low (by omega))).trans (zGr.kr (i := 4) (b := x + 1 + 5 + 17 + 5 + 5) (Nat.le_refl x))).trans (w5.low (by omega))).trans (zGr.kr (i := 5) (b := x + 1 + 5 + 17 + 5 + 5 + 17) (Nat.le_refl x))).trans (w6.low (by omega))).trans (zGr.kr (i := 6) (b := x + 1 + 5 + 17 + 5 + 5 + 17 + 7) (Nat.le_refl x))).trans (zGr.up (Nat.le_refl x)), fun i => x + 1 + 5 + 17 + 5 + 5 + 17 + 7 + 2 + 5 * i, ⟨o7, r0_7, r1_7, r2_7, r3_7, r4_7, r5_7, r6_7, t1k6, y2k6, g3k6, t4k6, y5k6, b6k6, hh⟩, ⟨⟨v1g6.ag hu (by omega), ⟨?_, fun i hi => absurd hi (Nat.not_lt_zero i)⟩, ⟨?_, Nat.zero_le _, fun i hi => absurd hi (Nat.not_lt_zero i)⟩, ?_, ?_⟩, Or.inl (zup_self _ _ _ _)⟩, zS0_ok⟩
  · rw [hu _ _ (by omega)]; exact c53
  · rw [hu _ _ (by omega)]; exact z7
  · rw [hu _ _ (by omega)]; exact c13
  · rw [hu _ _ (by omega)]; exact c40
