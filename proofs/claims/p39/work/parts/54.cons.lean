/-! ===== constructors ===== -/
/-- below r nothing differs -/
def zGr (K K' : zK) (μ μ' : zF) (r : Nat) : Prop := (∀ a, a < r → a ∈ K.1 → a ∈ K'.1) ∧ ∀ a, a < r → K'.2.1 a = K.2.1 a ∧ K'.2.2.1 a = K.2.2.1 a ∧ K'.2.2.2 a = K.2.2.2 a ∧ ∀ k, μ' a k = μ a k
set_option maxHeartbeats 4000000 in
theorem vX6_init {l : Launch} {g : zG} (hl : l.stackTraces = false) {K : zK} {μ : zF} {r n : Nat} (h : zO K r 6) (hn : n ≤ 10000) : JX6_init l g 1 n [.ref r, .int (nI n)] K μ (r + 1) (fun K' μ' N' => N' = r + 2 ∧ zGr K K' μ μ' r ∧ zRow K' r n ∧ (∀ k, μ' r k = μ r k) ∧ ∀ k, μ' (r + 1) k = 0) := by
  refine mX6_init hl (fun x hC hQ => ?_)
  have h' : zO (zKn K (r + 1) 10 n) r 6 := by
    refine ⟨List.mem_append_left _ h.1, ?_⟩
    show (if r = r + 1 then _ else K.2.1 r).1 = 6
    rw [if_neg (by omega)]; exact h.2
  refine jX6_init_0 hC ?_
  refine jX6_init_1 hC (Nat.le_of_ble_eq_true rfl) ?_
  refine jX6_init_4 hC ?_
  refine jX6_init_5 hC ?_
  refine jX6_init_6 hC ?_
  refine jX6_init_7 hC (Nat.le_of_ble_eq_true rfl) (by omega) (by omega) ?_
  rw [show (if nI n < nI 0 then nI 0 else nI n) = nI n from if_neg (nI_nlt (by omega) (by omega))]
  refine jX6_init_10 hC (nI_pos (by omega)) (nI_clamp (by omega)) (by omega) (by omega) (by omega) ?_
  refine jX6_init_12 hC hQ.2.1 (by assumption) ?_
  refine jX6_init_15 hC hQ (by omega) (by omega) ?_
  refine ⟨rfl, ⟨fun a ha hm => List.mem_append_left _ hm, fun a ha => ⟨?_, ?_, ?_, fun k => ?_⟩⟩, ⟨h', ?_, ?_, by omega⟩, fun k => ?_, fun k => ?_⟩
  · show (if a = r + 1 then _ else K.2.1 a) = _
    rw [if_neg (by omega)]
  · simp only [zKr, zKn]
    rw [if_neg (by omega), if_neg (by omega)]
  · show (if a = r + 1 then _ else K.2.2.2 a) = _
    rw [if_neg (by omega)]
  · show (if a = r + 1 then _ else μ a k) = _
    rw [if_neg (by omega)]
  · exact zKr_self _ _ _ _
  · exact ⟨List.mem_append_right _ (List.mem_singleton.mpr rfl), by show (if r + 1 = r + 1 then _ else _) = _; rw [if_pos rfl]⟩
  · show (if r = r + 1 then _ else μ r k) = _
    rw [if_neg (by omega)]
  · show (if r + 1 = r + 1 then _ else μ (r + 1) k) = _
    rw [if_pos rfl]
theorem zGr.refl (K : zK) (μ : zF) (r : Nat) : zGr K K μ μ r := ⟨fun _ _ h => h, fun _ _ => ⟨rfl, rfl, rfl, fun _ => rfl⟩⟩
theorem zGr.trans {K K1 K2 : zK} {μ μ1 μ2 : zF} {r : Nat} (h : zGr K K1 μ μ1 r) (q : zGr K1 K2 μ1 μ2 r) : zGr K K2 μ μ2 r := ⟨fun a ha hm => q.1 a ha (h.1 a ha hm), fun a ha => ⟨(q.2 a ha).1.trans (h.2 a ha).1, (q.2 a ha).2.1.trans (h.2 a ha).2.1, (q.2 a ha).2.2.1.trans (h.2 a ha).2.2.1, fun k => ((q.2 a ha).2.2.2 k).trans ((h.2 a ha).2.2.2 k)⟩⟩
theorem zGr.low {K K1 : zK} {μ μ1 : zF} {r r' : Nat} (h : zGr K K1 μ μ1 r) (hr : r' ≤ r) : zGr K K1 μ μ1 r' := ⟨fun a ha => h.1 a (by omega), fun a ha => h.2 a (by omega)⟩
theorem zGr.new {K : zK} {μ : zF} {N c n r : Nat} (h : r ≤ N) : zGr K (zKn K N c n) μ (zmn μ N) r := ⟨fun a _ hm => List.mem_append_left _ hm, fun a ha => ⟨if_neg (by omega), if_neg (by omega), if_neg (by omega), fun k => if_neg (by omega)⟩⟩
theorem zGr.kr {K : zK} {μ : zF} {a i b r : Nat} (h : r ≤ a) : zGr K (zKr K a i b) μ μ r := ⟨fun _ _ hm => hm, fun c hc => ⟨rfl, if_neg (by omega), rfl, fun _ => rfl⟩⟩
theorem zGr.up {K : zK} {μ : zF} {a k r : Nat} {v : Int32} (h : r ≤ a) : zGr K K μ (zup μ a k v) r := ⟨fun _ _ hm => hm, fun c hc => ⟨rfl, rfl, rfl, fun j => zup_a μ k j v (by omega)⟩⟩
theorem zGr.o {K K1 : zK} {μ μ1 : zF} {r a c : Nat} (h : zGr K K1 μ μ1 r) (ha : a < r) (q : zO K a c) : zO K1 a c := ⟨h.1 a ha q.1, by rw [(h.2 a ha).1]; exact q.2⟩
theorem zGr.i {K K1 : zK} {μ μ1 : zF} {r a c n : Nat} (h : zGr K K1 μ μ1 r) (ha : a < r) (q : zI K a c n) : zI K1 a c n := ⟨h.1 a ha q.1, by rw [(h.2 a ha).1]; exact q.2⟩
theorem zGr.r {K K1 : zK} {μ μ1 : zF} {r a k b : Nat} (h : zGr K K1 μ μ1 r) (ha : a < r) (q : zr K a k b) : zr K1 a k b := by unfold zr at q ⊢; rw [(h.2 a ha).2.1]; exact q
theorem zGr.row {K K1 : zK} {μ μ1 : zF} {r a n : Nat} (h : zGr K K1 μ μ1 r) (ha : a + 2 ≤ r) (q : zRow K a n) : zRow K1 a n := ⟨h.o (by omega) q.1, h.r (by omega) q.2.1, h.i (by omega) q.2.2.1, q.2.2.2⟩
theorem zKn_o (K : zK) (N c n : Nat) : zO (zKn K N c n) N c := ⟨List.mem_append_right _ (List.mem_singleton.mpr rfl), by show (if N = N then ((c, n) : Nat × Nat) else K.2.1 N).1 = c; rw [if_pos rfl]⟩
theorem zO.kr {K : zK} {a c a' i b : Nat} (h : zO K a c) : zO (zKr K a' i b) a c := h
theorem zr.kr {K : zK} {a k b a' i b' : Nat} (h : zr K a k b) (hn : a ≠ a' ∨ k ≠ i) : zr (zKr K a' i b') a k b := by
  by_cases c : a = a'
  · subst c; exact zKr_ne (hn.resolve_left (fun q => q rfl)) h
  · unfold zr at h ⊢; simp only [zKr]; rw [if_neg c]; exact h
theorem zRow.kr {K : zK} {a n a' i b : Nat} (h : zRow K a n) (hn : a ≠ a') : zRow (zKr K a' i b) a n := ⟨h.1, h.2.1.kr (Or.inl hn), h.2.2.1, h.2.2.2⟩
/-- the empty text -/
def zt0 : Nat → Nat := fun k => if k = 81 then 60 else if k = 82 then 2 else if k = 83 then 3 else if k = 84 then 500 else if k = 85 then 300 else if k = 86 then 6 else if k = 87 then 1 else 0
set_option maxHeartbeats 4000000 in
theorem vX7_init {l : Launch} {g : zG} (hl : l.stackTraces = false) {K : zK} {μ : zF} {t : Nat} (h : zO K t 7) : JX7_init l g 4 84 [.ref t] K μ (t + 1) (fun K' μ' N' => N' = t + 5 ∧ zGr K K' μ μ' t ∧ zTxt K' t ∧ zTv μ' t zt0) := by
  refine mX7_init hl (fun x hC hQ => ?_)
  refine jX7_init_0 hC ?_
  refine jX7_init_1 hC (Nat.le_of_ble_eq_true rfl) ?_
  refine jX7_init_4 hC ?_
  refine jX7_init_5 hC (Nat.le_of_ble_eq_true rfl) (Nat.le_of_ble_eq_true rfl) ?_
  refine jX7_init_8 hC ?_
  refine jX7_init_9 hC ?_
  refine jX7_init_11 hC (Nat.le_of_ble_eq_true rfl) (Nat.le_of_ble_eq_true rfl) (Nat.le_of_ble_eq_true rfl) (vX6_init hC.nt (n := 40) (zKn_o _ _ _ _) (by omega)) (fun K_11 μ_11 N_11 m_11 => ?_)
  obtain ⟨rfl, a1, a2, a3, a4⟩ := m_11
  have o1 : zO K_11 t 7 := a1.o (by omega) ((zGr.new (μ := μ) (Nat.le_refl (t + 1))).o (by omega) h)
  refine jX7_init_14 hC hQ.2.1 (by assumption) ?_
  have o2 : zO (zKr K_11 t 0 (t + 1)) t 7 := o1
  refine jX7_init_17 hC ?_
  refine jX7_init_18 hC (Nat.le_of_ble_eq_true rfl) (Nat.le_of_ble_eq_true rfl) ?_
  refine jX7_init_21 hC ?_
  refine jX7_init_22 hC ?_
  refine jX7_init_24 hC (Nat.le_of_ble_eq_true rfl) (Nat.le_of_ble_eq_true rfl) (Nat.le_of_ble_eq_true rfl) (vX6_init hC.nt (n := 40) (zKn_o _ _ _ _) (by omega)) (fun K_24 μ_24 N_24 m_24 => ?_)
  obtain ⟨rfl, b1, b2, b3, b4⟩ := m_24
  have o3 : zO K_24 t 7 := b1.o (by omega) ((zGr.new (μ := μ_11) (Nat.le_refl (t + 1 + 2))).o (by omega) o2)
  refine jX7_init_27 hC hQ.2.1 (by assumption) ?_
  refine jX7_init_30 hC ?_
  refine jX7_init_31 hC ?_
  have o4 : zO (zKr K_24 t 1 (t + 1 + 2)) t 7 := o3
  refine jX7_init_32 hC (by assumption) ?_
  refine jX7_init_35 hC ?_
  refine jX7_init_36 hC ?_
  refine jX7_init_38 hC (by assumption) ?_
  refine jX7_init_41 hC ?_
  refine jX7_init_42 hC ?_
  refine jX7_init_43 hC (by assumption) ?_
  refine jX7_init_46 hC ?_
  refine jX7_init_47 hC ?_
  refine jX7_init_48 hC (by assumption) ?_
  refine jX7_init_51 hC ?_
  refine jX7_init_52 hC ?_
  refine jX7_init_55 hC (by assumption) ?_
  refine jX7_init_58 hC ?_
  refine jX7_init_59 hC ?_
  refine jX7_init_62 hC (by assumption) ?_
  refine jX7_init_65 hC ?_
  refine jX7_init_66 hC ?_
  refine jX7_init_68 hC (by assumption) ?_
  refine jX7_init_71 hC ?_
  refine jX7_init_72 hC ?_
  refine jX7_init_73 hC (Or.inr rfl) (by assumption) ?_
  refine jX7_init_76 hC hQ (Nat.le_of_ble_eq_true rfl) (Nat.le_of_ble_eq_true rfl) ?_
  have r1 : zRow (zKr K_11 t 0 (t + 1)) (t + 1) 40 := a2.kr (by omega)
  have r2 : zRow K_24 (t + 1) 40 := b1.row (by omega) ((zGr.new (μ := μ_11) (Nat.le_refl (t + 1 + 2))).row (by omega) r1)
  have f0 : zr K_24 t 0 (t + 1) := b1.r (by omega) ((zGr.new (μ := μ_11) (Nat.le_refl (t + 1 + 2))).r (by omega) (zKr_self _ _ _ _))
  have g1 := ((zGr.new (K := K) (μ := μ) (N := t + 1) (c := 6) (n := 0) (Nat.le_refl (t + 1))).trans a1).low (Nat.le_succ t)
  have g2 := (g1.trans (zGr.kr (i := 0) (b := t + 1) (Nat.le_refl t))).trans (((zGr.new (μ := μ_11) (N := t + 1 + 2) (c := 6) (n := 0) (Nat.le_refl (t + 1 + 2))).trans b1).low (by omega))
  have g3 := g2.trans (zGr.kr (i := 1) (b := t + 1 + 2) (Nat.le_refl t))
  refine ⟨rfl, g3.trans ?_, ⟨o4, zr.kr f0 (Or.inr (by omega)), zKr_self _ _ _ _, r2.kr (by omega), b2.kr (by omega)⟩, fun k hk => ?_, fun k hk => ?_, fun k k1 k2 => ?_⟩
  · exact (((((((zGr.up (Nat.le_refl t)).trans (zGr.up (Nat.le_refl t))).trans (zGr.up (Nat.le_refl t))).trans (zGr.up (Nat.le_refl t))).trans (zGr.up (Nat.le_refl t))).trans (zGr.up (Nat.le_refl t))).trans (zGr.up (Nat.le_refl t))).trans (zGr.up (Nat.le_refl t))
  · have q : μ_24 (t + 2) k = 0 := by
      rw [(b1.2 (t + 2) (by omega)).2.2.2 k, show zmn μ_11 (t + 1 + 2) (t + 2) k = μ_11 (t + 2) k from if_neg (by omega)]; exact a4 k
    simp [zup, q, zt0, show k ≠ 81 by omega, show k ≠ 82 by omega, show k ≠ 83 by omega, show k ≠ 84 by omega, show k ≠ 85 by omega, show k ≠ 86 by omega, show k ≠ 87 by omega]
    rfl
  · have q : μ_24 (t + 4) k = 0 := b4 k
    simp [zup, q, zt0, show 40 + k ≠ 81 by omega, show 40 + k ≠ 82 by omega, show 40 + k ≠ 83 by omega, show 40 + k ≠ 84 by omega, show 40 + k ≠ 85 by omega, show 40 + k ≠ 86 by omega, show 40 + k ≠ 87 by omega]
    rfl
  · rcases (show k = 2 ∨ k = 3 ∨ k = 4 ∨ k = 5 ∨ k = 6 ∨ k = 7 ∨ k = 8 ∨ k = 9 by omega) with rfl | rfl | rfl | rfl | rfl | rfl | rfl | rfl <;> simp [zup, zt0]
set_option maxHeartbeats 4000000 in
theorem vX1_init {l : Launch} {g : zG} (hl : l.stackTraces = false) {K : zK} {μ : zF} {t u : Nat} (h : zO K t 1) : JX1_init l g 4 84 [.ref t, .ref u] K μ (t + 1) (fun K' μ' N' => N' = t + 5 ∧ zGr K K' μ μ' t ∧ zFit K' t u ∧ ∀ k, μ' (t + 2) k = 0) := by
  refine mX1_init hl (fun x hC hQ => ?_)
  refine jX1_init_0 hC ?_
  refine jX1_init_1 hC (Nat.le_of_ble_eq_true rfl) ?_
  refine jX1_init_4 hC ?_
  refine jX1_init_5 hC (Nat.le_of_ble_eq_true rfl) (Nat.le_of_ble_eq_true rfl) ?_
  refine jX1_init_8 hC ?_
  refine jX1_init_9 hC ?_
  refine jX1_init_11 hC (Nat.le_of_ble_eq_true rfl) (Nat.le_of_ble_eq_true rfl) (Nat.le_of_ble_eq_true rfl) (vX6_init hC.nt (n := 41) (zKn_o _ _ _ _) (by omega)) (fun K_11 μ_11 N_11 m_11 => ?_)
  obtain ⟨rfl, a1, a2, a3, a4⟩ := m_11
  have o1 : zO K_11 t 1 := a1.o (by omega) ((zGr.new (μ := μ) (Nat.le_refl (t + 1))).o (by omega) h)
  refine jX1_init_14 hC hQ.2.1 (by assumption) ?_
  have o2 : zO (zKr K_11 t 1 (t + 1)) t 1 := o1
  refine jX1_init_17 hC ?_
  refine jX1_init_18 hC (Nat.le_of_ble_eq_true rfl) (Nat.le_of_ble_eq_true rfl) ?_
  refine jX1_init_21 hC ?_
  refine jX1_init_22 hC ?_
  refine jX1_init_24 hC (Nat.le_of_ble_eq_true rfl) (Nat.le_of_ble_eq_true rfl) (Nat.le_of_ble_eq_true rfl) (vX6_init hC.nt (n := 40) (zKn_o _ _ _ _) (by omega)) (fun K_24 μ_24 N_24 m_24 => ?_)
  obtain ⟨rfl, b1, b2, b3, b4⟩ := m_24
  have o3 : zO K_24 t 1 := b1.o (by omega) ((zGr.new (μ := μ_11) (Nat.le_refl (t + 1 + 2))).o (by omega) o2)
  refine jX1_init_27 hC hQ.2.1 (by assumption) ?_
  refine jX1_init_30 hC ?_
  refine jX1_init_31 hC ?_
  have o4 : zO (zKr K_24 t 2 (t + 1 + 2)) t 1 := o3
  refine jX1_init_32 hC hQ.2.1 (by assumption) ?_
  refine jX1_init_35 hC hQ (Nat.le_of_ble_eq_true rfl) (Nat.le_of_ble_eq_true rfl) ?_
  have r1 : zRow (zKr K_11 t 1 (t + 1)) (t + 1) 41 := a2.kr (by omega)
  have r2 : zRow K_24 (t + 1) 41 := b1.row (by omega) ((zGr.new (μ := μ_11) (Nat.le_refl (t + 1 + 2))).row (by omega) r1)
  have f0 : zr K_24 t 1 (t + 1) := b1.r (by omega) ((zGr.new (μ := μ_11) (Nat.le_refl (t + 1 + 2))).r (by omega) (zKr_self _ _ _ _))
  have g1 := ((zGr.new (K := K) (μ := μ) (N := t + 1) (c := 6) (n := 0) (Nat.le_refl (t + 1))).trans a1).low (Nat.le_succ t)
  have g2 := (g1.trans (zGr.kr (i := 1) (b := t + 1) (Nat.le_refl t))).trans (((zGr.new (μ := μ_11) (N := t + 1 + 2) (c := 6) (n := 0) (Nat.le_refl (t + 1 + 2))).trans b1).low (by omega))
  have g3 := (g2.trans (zGr.kr (i := 2) (b := t + 1 + 2) (Nat.le_refl t))).trans (zGr.kr (i := 0) (b := u) (Nat.le_refl t))
  refine ⟨rfl, g3, ⟨o4, zKr_self _ _ _ _, (f0.kr (Or.inr (by omega))).kr (Or.inr (by omega)), zr.kr (zKr_self _ _ _ _) (Or.inr (by omega)), (r2.kr (by omega)).kr (by omega), (b2.kr (by omega)).kr (by omega)⟩, fun k => ?_⟩
  rw [(b1.2 (t + 2) (by omega)).2.2.2 k, show zmn μ_11 (t + 1 + 2) (t + 2) k = μ_11 (t + 2) k from if_neg (by omega)]; exact a4 k
set_option maxHeartbeats 4000000 in
theorem vX5_init {l : Launch} {g : zG} (hl : l.stackTraces = false) {K : zK} {μ : zF} {t u w : Nat} (h : zO K t 5) : JX5_init l g 4 84 [.ref t, .ref u, .ref w] K μ (t + 1) (fun K' μ' N' => N' = t + 5 ∧ zGr K K' μ μ' t ∧ zPag K' t u w ∧ ∀ k, μ' (t + 2) k = 0) := by
  refine mX5_init hl (fun x hC hQ => ?_)
  refine jX5_init_0 hC ?_
  refine jX5_init_1 hC (Nat.le_of_ble_eq_true rfl) ?_
  refine jX5_init_4 hC ?_
  refine jX5_init_5 hC (Nat.le_of_ble_eq_true rfl) (Nat.le_of_ble_eq_true rfl) ?_
  refine jX5_init_8 hC ?_
  refine jX5_init_9 hC ?_
  refine jX5_init_11 hC (Nat.le_of_ble_eq_true rfl) (Nat.le_of_ble_eq_true rfl) (Nat.le_of_ble_eq_true rfl) (vX6_init hC.nt (n := 41) (zKn_o _ _ _ _) (by omega)) (fun K_11 μ_11 N_11 m_11 => ?_)
  obtain ⟨rfl, a1, a2, a3, a4⟩ := m_11
  have o1 : zO K_11 t 5 := a1.o (by omega) ((zGr.new (μ := μ) (Nat.le_refl (t + 1))).o (by omega) h)
  refine jX5_init_14 hC hQ.2.1 (by assumption) ?_
  have o2 : zO (zKr K_11 t 2 (t + 1)) t 5 := o1
  refine jX5_init_17 hC ?_
  refine jX5_init_18 hC (Nat.le_of_ble_eq_true rfl) (Nat.le_of_ble_eq_true rfl) ?_
  refine jX5_init_21 hC ?_
  refine jX5_init_22 hC ?_
  refine jX5_init_24 hC (Nat.le_of_ble_eq_true rfl) (Nat.le_of_ble_eq_true rfl) (Nat.le_of_ble_eq_true rfl) (vX6_init hC.nt (n := 40) (zKn_o _ _ _ _) (by omega)) (fun K_24 μ_24 N_24 m_24 => ?_)
  obtain ⟨rfl, b1, b2, b3, b4⟩ := m_24
  have o3 : zO K_24 t 5 := b1.o (by omega) ((zGr.new (μ := μ_11) (Nat.le_refl (t + 1 + 2))).o (by omega) o2)
  refine jX5_init_27 hC hQ.2.1 (by assumption) ?_
  refine jX5_init_30 hC ?_
  refine jX5_init_31 hC ?_
  have o4 : zO (zKr K_24 t 3 (t + 1 + 2)) t 5 := o3
  refine jX5_init_32 hC (by assumption) ?_
  refine jX5_init_35 hC ?_
  refine jX5_init_36 hC ?_
  refine jX5_init_37 hC hQ.2.1 (by assumption) ?_
  refine jX5_init_40 hC ?_
  refine jX5_init_41 hC ?_
  have o5 : zO (zKr (zKr K_24 t 3 (t + 1 + 2)) t 0 u) t 5 := o3
  refine jX5_init_42 hC hQ.2.1 (by assumption) ?_
  refine jX5_init_45 hC hQ (Nat.le_of_ble_eq_true rfl) (Nat.le_of_ble_eq_true rfl) ?_
  have r1 : zRow (zKr K_11 t 2 (t + 1)) (t + 1) 41 := a2.kr (by omega)
  have r2 : zRow K_24 (t + 1) 41 := b1.row (by omega) ((zGr.new (μ := μ_11) (Nat.le_refl (t + 1 + 2))).row (by omega) r1)
  have f0 : zr K_24 t 2 (t + 1) := b1.r (by omega) ((zGr.new (μ := μ_11) (Nat.le_refl (t + 1 + 2))).r (by omega) (zKr_self _ _ _ _))
  have g1 := ((zGr.new (K := K) (μ := μ) (N := t + 1) (c := 6) (n := 0) (Nat.le_refl (t + 1))).trans a1).low (Nat.le_succ t)
  have g2 := (g1.trans (zGr.kr (i := 2) (b := t + 1) (Nat.le_refl t))).trans (((zGr.new (μ := μ_11) (N := t + 1 + 2) (c := 6) (n := 0) (Nat.le_refl (t + 1 + 2))).trans b1).low (by omega))
  have g3 := (((g2.trans (zGr.kr (i := 3) (b := t + 1 + 2) (Nat.le_refl t))).trans (zGr.up (k := 4) (v := nI 0) (Nat.le_refl t))).trans (zGr.kr (i := 0) (b := u) (Nat.le_refl t))).trans (zGr.kr (i := 1) (b := w) (Nat.le_refl t))
  refine ⟨rfl, g3, ⟨o5, zr.kr (zKr_self _ _ _ _) (Or.inr (by omega)), zKr_self _ _ _ _, ((f0.kr (Or.inr (by omega))).kr (Or.inr (by omega))).kr (Or.inr (by omega)), (zr.kr (zKr_self _ _ _ _) (Or.inr (by omega))).kr (Or.inr (by omega)), ((r2.kr (by omega)).kr (by omega)).kr (by omega), ((b2.kr (by omega)).kr (by omega)).kr (by omega)⟩, fun k => ?_⟩
  rw [zup_a _ _ _ _ (by omega), (b1.2 (t + 2) (by omega)).2.2.2 k, show zmn μ_11 (t + 1 + 2) (t + 2) k = μ_11 (t + 2) k from if_neg (by omega)]; exact a4 k
set_option maxHeartbeats 4000000 in
theorem vX0_init {l : Launch} {g : zG} (hl : l.stackTraces = false) {K : zK} {μ : zF} {t : Nat} (h : zO K t 0) : JX0_init l g 6 183 [.ref t] K μ (t + 1) (fun K' μ' N' => N' = t + 7 ∧ zGr K K' μ μ' t ∧ zBuf K' t ∧ μ' t 3 = nI 0) := by
  refine mX0_init hl (fun x hC hQ => ?_)
  refine jX0_init_0 hC ?_
  refine jX0_init_1 hC (Nat.le_of_ble_eq_true rfl) ?_
  refine jX0_init_4 hC ?_
  refine jX0_init_5 hC (Nat.le_of_ble_eq_true rfl) (Nat.le_of_ble_eq_true rfl) ?_
  refine jX0_init_8 hC ?_
  refine jX0_init_9 hC ?_
  refine jX0_init_11 hC (Nat.le_of_ble_eq_true rfl) (Nat.le_of_ble_eq_true rfl) (Nat.le_of_ble_eq_true rfl) (vX6_init hC.nt (n := 60) (zKn_o _ _ _ _) (by omega)) (fun K_11 μ_11 N_11 m_11 => ?_)
  obtain ⟨rfl, a1, a2, a3, a4⟩ := m_11
  have o1 : zO K_11 t 0 := a1.o (by omega) ((zGr.new (μ := μ) (Nat.le_refl (t + 1))).o (by omega) h)
  refine jX0_init_14 hC hQ.2.1 (by assumption) ?_
  have o2 : zO (zKr K_11 t 0 (t + 1)) t 0 := o1
  refine jX0_init_17 hC ?_
  refine jX0_init_18 hC (Nat.le_of_ble_eq_true rfl) (Nat.le_of_ble_eq_true rfl) ?_
  refine jX0_init_21 hC ?_
  refine jX0_init_22 hC ?_
  refine jX0_init_24 hC (Nat.le_of_ble_eq_true rfl) (Nat.le_of_ble_eq_true rfl) (Nat.le_of_ble_eq_true rfl) (vX6_init hC.nt (n := 60) (zKn_o _ _ _ _) (by omega)) (fun K_24 μ_24 N_24 m_24 => ?_)
  obtain ⟨rfl, b1, b2, b3, b4⟩ := m_24
  have o3 : zO K_24 t 0 := b1.o (by omega) ((zGr.new (μ := μ_11) (Nat.le_refl (t + 1 + 2))).o (by omega) o2)
  refine jX0_init_27 hC hQ.2.1 (by assumption) ?_
  have o4 : zO (zKr K_24 t 1 (t + 1 + 2)) t 0 := o3
  refine jX0_init_30 hC ?_
  refine jX0_init_31 hC (Nat.le_of_ble_eq_true rfl) (Nat.le_of_ble_eq_true rfl) ?_
  refine jX0_init_34 hC ?_
  refine jX0_init_35 hC ?_
  refine jX0_init_37 hC (Nat.le_of_ble_eq_true rfl) (Nat.le_of_ble_eq_true rfl) (Nat.le_of_ble_eq_true rfl) (vX6_init hC.nt (n := 60) (zKn_o _ _ _ _) (by omega)) (fun K_37 μ_37 N_37 m_37 => ?_)
  obtain ⟨rfl, c1, c2, c3, c4⟩ := m_37
  have nw : zGr (zKr K_24 t 1 (t + 1 + 2)) K_37 μ_24 μ_37 (t + 5) := (zGr.new (μ := μ_24) (Nat.le_refl (t + 1 + 2 + 2))).trans c1
  have o5 : zO K_37 t 0 := nw.o (by omega) o4
  refine jX0_init_40 hC hQ.2.1 (by assumption) ?_
  have o6 : zO (zKr K_37 t 2 (t + 1 + 2 + 2)) t 0 := o5
  refine jX0_init_43 hC ?_
  refine jX0_init_44 hC ?_
  refine jX0_init_45 hC (by assumption) ?_
  refine jX0_init_48 hC ?_
  refine jX0_init_49 hC ?_
  refine jX0_init_50 hC (by assumption) ?_
  refine jX0_init_53 hC hQ (Nat.le_of_ble_eq_true rfl) (Nat.le_of_ble_eq_true rfl) ?_
  have r1 : zRow (zKr K_11 t 0 (t + 1)) (t + 1) 60 := a2.kr (by omega)
  have r2 : zRow K_24 (t + 1) 60 := b1.row (by omega) ((zGr.new (μ := μ_11) (Nat.le_refl (t + 1 + 2))).row (by omega) r1)
  have r3 : zRow K_37 (t + 1) 60 := nw.row (by omega) (r2.kr (by omega))
  have r4 : zRow K_37 (t + 1 + 2) 60 := nw.row (by omega) (b2.kr (by omega))
  have f0 : zr K_24 t 0 (t + 1) := b1.r (by omega) ((zGr.new (μ := μ_11) (Nat.le_refl (t + 1 + 2))).r (by omega) (zKr_self _ _ _ _))
  have f1 : zr K_37 t 0 (t + 1) := nw.r (by omega) (f0.kr (Or.inr (by omega)))
  have f2 : zr K_37 t 1 (t + 1 + 2) := nw.r (by omega) (zKr_self _ _ _ _)
  have g1 := ((zGr.new (K := K) (μ := μ) (N := t + 1) (c := 6) (n := 0) (Nat.le_refl (t + 1))).trans a1).low (Nat.le_succ t)
  have g2 := (g1.trans (zGr.kr (i := 0) (b := t + 1) (Nat.le_refl t))).trans (((zGr.new (μ := μ_11) (N := t + 1 + 2) (c := 6) (n := 0) (Nat.le_refl (t + 1 + 2))).trans b1).low (by omega))
  have g3 := ((g2.trans (zGr.kr (i := 1) (b := t + 1 + 2) (Nat.le_refl t))).trans (nw.low (by omega))).trans (zGr.kr (i := 2) (b := t + 1 + 2 + 2) (Nat.le_refl t))
  refine ⟨rfl, g3.trans ((zGr.up (Nat.le_refl t)).trans (zGr.up (Nat.le_refl t))), ⟨o6, f1.kr (Or.inr (by omega)), f2.kr (Or.inr (by omega)), zKr_self _ _ _ _, r3.kr (by omega), r4.kr (by omega), c2.kr (by omega)⟩, ?_⟩
  rw [zup_k _ _ _ (by omega), zup_self]
set_option maxHeartbeats 4000000 in
theorem vX4_init {l : Launch} {g : zG} (hl : l.stackTraces = false) {K : zK} {μ : zF} {t u w : Nat} (h : zO K t 4) : JX4_init l g 6 4963 [.ref t, .ref u, .ref w] K μ (t + 1) (fun K' μ' N' => N' = t + 7 ∧ zGr K K' μ μ' t ∧ zOpt K' t u w) := by
  refine mX4_init hl (fun x hC hQ => ?_)
  refine jX4_init_0 hC ?_
  refine jX4_init_1 hC (Nat.le_of_ble_eq_true rfl) ?_
  refine jX4_init_4 hC ?_
  refine jX4_init_5 hC (Nat.le_of_ble_eq_true rfl) (Nat.le_of_ble_eq_true rfl) ?_
  refine jX4_init_8 hC ?_
  refine jX4_init_9 hC ?_
  refine jX4_init_12 hC (Nat.le_of_ble_eq_true rfl) (Nat.le_of_ble_eq_true rfl) (Nat.le_of_ble_eq_true rfl) (vX6_init hC.nt (n := 2460) (zKn_o _ _ _ _) (by omega)) (fun K_12 μ_12 N_12 m_12 => ?_)
  obtain ⟨rfl, a1, a2, a3, a4⟩ := m_12
  have o1 : zO K_12 t 4 := a1.o (by omega) ((zGr.new (μ := μ) (Nat.le_refl (t + 1))).o (by omega) h)
  refine jX4_init_15 hC hQ.2.1 (by assumption) ?_
  have o2 : zO (zKr K_12 t 2 (t + 1)) t 4 := o1
  refine jX4_init_18 hC ?_
  refine jX4_init_19 hC (Nat.le_of_ble_eq_true rfl) (Nat.le_of_ble_eq_true rfl) ?_
  refine jX4_init_22 hC ?_
  refine jX4_init_23 hC ?_
  refine jX4_init_26 hC (Nat.le_of_ble_eq_true rfl) (Nat.le_of_ble_eq_true rfl) (Nat.le_of_ble_eq_true rfl) (vX6_init hC.nt (n := 2460) (zKn_o _ _ _ _) (by omega)) (fun K_26 μ_26 N_26 m_26 => ?_)
  obtain ⟨rfl, b1, b2, b3, b4⟩ := m_26
  have o3 : zO K_26 t 4 := b1.o (by omega) ((zGr.new (μ := μ_12) (Nat.le_refl (t + 1 + 2))).o (by omega) o2)
  refine jX4_init_29 hC hQ.2.1 (by assumption) ?_
  have o4 : zO (zKr K_26 t 3 (t + 1 + 2)) t 4 := o3
  refine jX4_init_32 hC ?_
  refine jX4_init_33 hC (Nat.le_of_ble_eq_true rfl) (Nat.le_of_ble_eq_true rfl) ?_
  refine jX4_init_36 hC ?_
  refine jX4_init_37 hC ?_
  refine jX4_init_39 hC (Nat.le_of_ble_eq_true rfl) (Nat.le_of_ble_eq_true rfl) (Nat.le_of_ble_eq_true rfl) (vX6_init hC.nt (n := 40) (zKn_o _ _ _ _) (by omega)) (fun K_39 μ_39 N_39 m_39 => ?_)
  obtain ⟨rfl, c1, c2, c3, c4⟩ := m_39
  have nw : zGr (zKr K_26 t 3 (t + 1 + 2)) K_39 μ_26 μ_39 (t + 5) := (zGr.new (μ := μ_26) (Nat.le_refl (t + 1 + 2 + 2))).trans c1
  have o5 : zO K_39 t 4 := nw.o (by omega) o4
  refine jX4_init_42 hC hQ.2.1 (by assumption) ?_
  have o6 : zO (zKr K_39 t 4 (t + 1 + 2 + 2)) t 4 := o5
  refine jX4_init_45 hC ?_
  refine jX4_init_46 hC ?_
  refine jX4_init_47 hC hQ.2.1 (by assumption) ?_
  have o7 : zO (zKr (zKr K_39 t 4 (t + 1 + 2 + 2)) t 0 u) t 4 := o5
  refine jX4_init_50 hC ?_
  refine jX4_init_51 hC ?_
  refine jX4_init_52 hC hQ.2.1 (by assumption) ?_
  refine jX4_init_55 hC hQ (Nat.le_of_ble_eq_true rfl) (Nat.le_of_ble_eq_true rfl) ?_
  have r1 : zRow (zKr K_12 t 2 (t + 1)) (t + 1) 2460 := a2.kr (by omega)
  have r2 : zRow K_26 (t + 1) 2460 := b1.row (by omega) ((zGr.new (μ := μ_12) (Nat.le_refl (t + 1 + 2))).row (by omega) r1)
  have r3 : zRow K_39 (t + 1) 2460 := nw.row (by omega) (r2.kr (by omega))
  have r4 : zRow K_39 (t + 1 + 2) 2460 := nw.row (by omega) (b2.kr (by omega))
  have f0 : zr K_26 t 2 (t + 1) := b1.r (by omega) ((zGr.new (μ := μ_12) (Nat.le_refl (t + 1 + 2))).r (by omega) (zKr_self _ _ _ _))
  have f1 : zr K_39 t 2 (t + 1) := nw.r (by omega) (f0.kr (Or.inr (by omega)))
  have f2 : zr K_39 t 3 (t + 1 + 2) := nw.r (by omega) (zKr_self _ _ _ _)
  have g1 := ((zGr.new (K := K) (μ := μ) (N := t + 1) (c := 6) (n := 0) (Nat.le_refl (t + 1))).trans a1).low (Nat.le_succ t)
  have g2 := (g1.trans (zGr.kr (i := 2) (b := t + 1) (Nat.le_refl t))).trans (((zGr.new (μ := μ_12) (N := t + 1 + 2) (c := 6) (n := 0) (Nat.le_refl (t + 1 + 2))).trans b1).low (by omega))
  have g3 := ((g2.trans (zGr.kr (i := 3) (b := t + 1 + 2) (Nat.le_refl t))).trans (nw.low (by omega))).trans (zGr.kr (i := 4) (b := t + 1 + 2 + 2) (Nat.le_refl t))
  refine ⟨rfl, (g3.trans (zGr.kr (i := 0) (b := u) (Nat.le_refl t))).trans (zGr.kr (i := 1) (b := w) (Nat.le_refl t)), o7, zr.kr (zKr_self _ _ _ _) (Or.inr (by omega)), zKr_self _ _ _ _, ((f1.kr (Or.inr (by omega))).kr (Or.inr (by omega))).kr (Or.inr (by omega)), ((f2.kr (Or.inr (by omega))).kr (Or.inr (by omega))).kr (Or.inr (by omega)), (zr.kr (zKr_self _ _ _ _) (Or.inr (by omega))).kr (Or.inr (by omega)), ((r3.kr (by omega)).kr (by omega)).kr (by omega), ((r4.kr (by omega)).kr (by omega)).kr (by omega), ((c2.kr (by omega)).kr (by omega)).kr (by omega)⟩
