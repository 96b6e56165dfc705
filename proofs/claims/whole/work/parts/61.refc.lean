/-! ===== the reference: words, settings ===== -/
theorem zle1 {i : Int32} {n : Nat} (hn : n < 2 ^ 30) : i ≤ nI n - nI 1 ↔ i < nI n := by
  rw [Int32.le_iff_toInt_le, Int32.lt_iff_toInt_lt, pk_sub_toInt hn (by omega), nI_toInt (by omega)]
  omega
theorem zle2 {i : Int32} {n : Nat} (hn : n < 2 ^ 30) : i ≤ nI n ↔ i < nI (n + 1) := by
  rw [Int32.le_iff_toInt_le, Int32.lt_iff_toInt_lt, nI_toInt (by omega), nI_toInt (by omega)]
  omega
theorem zBv_n (p : Prop) : ∃ b : Nat, b ≤ 1 ∧ zBv p = nI b := by
  by_cases h : p
  · exact ⟨1, Nat.le_refl _, zBv_t h⟩
  · exact ⟨0, Nat.zero_le _, zBv_f h⟩
theorem zM9.up4 {μ : zF} {m : Nat} {S : zMs} {v : Int32} (h : zM9 μ m S) : zM9 (zup μ m 4 v) m S := h.fr (fun j => zup_a _ _ _ _ (by omega)) (zup_k _ _ _ (by omega)) (zup_k _ _ _ (by omega)) (fun j => zup_a _ _ _ _ (by omega)) ((zup_a _ _ _ _ (by omega)).trans h.2.2.2.2.2)
section ZN9
variable {c : String → Nat} {o : zOu} {K : zK} {μ μ' : zF} {m t : Nat} {S S' : zMs} {E : String} {v r : Int32}
theorem zN9.ex (e : o = .inr E) (ht : c E = t) (hM : zM9 μ m S) : zN9 c o K μ m S (some (.int v)) K (zup μ m 4 (nI t)) := ⟨rfl, zAg.up (by omega), Or.inr ⟨E, v, e, rfl, by rw [zup_self, ht], hM.up4⟩⟩
theorem zN9.q (e : o = .inl (r, S)) (hM : zM9 μ m S) : zN9 c o K μ m S (some (.int r)) K (zup μ m 4 (nI 0)) := ⟨rfl, zAg.up (by omega), Or.inl ⟨r, S, e, rfl, zup_self _ _ _ _, hM.up4⟩⟩
theorem zN9.ok (e : o = .inl (r, S')) (ha : zAg μ μ' m (m + 9)) (h4 : μ' m 4 = nI 0) (hM : zM9 μ' m S') : zN9 c o K μ m S (some (.int r)) K μ' := ⟨rfl, ha, Or.inl ⟨r, S', e, rfl, h4, hM⟩⟩
end ZN9
theorem vX9_goV {l : Launch} {g : zG} (hl : l.stackTraces = false) {K : zK} {μ : zF} {m a b c r t : Nat} (h : zO K m 9) (hr : (if zgo3 a b c = 0 then 1 else 0) = r) (ht : zgo3 a b c = t) (ha : a ≤ 1) (hb : b ≤ 1) (hc : c ≤ 1) : EX9_goes l g 0 0 [.ref m, .int (nI a), .int (nI b), .int (nI c)] K μ (zPv (nI r) K (fun μ' => μ' = zup μ m 4 (nI t))) := by
  subst hr; subst ht; exact vX9_goes hl h ha hb hc
set_option maxHeartbeats 4000000 in
theorem vX9_isWord {l : Launch} {g : zG} (hl : l.stackTraces = false) {K : zK} {μ : zF} {m n : Nat} {i : Int32} (h : zRef K m) (e80 : μ (m + 1) 80 = nI n) (hn : n ≤ 40) : EX9_isWord l g 0 0 [.ref m, .int i] K μ (zPi (zBv (¬ i < 0 ∧ i < nI n)) K μ) := by
  obtain ⟨h0, h1, h2, h3, h4, h5, h6, h7, h8, i1, i2, i3, i4, i5, i6, i7, i8⟩ := h
  refine nX9_isWord hl (fun x hC hQ => ?_)
  refine eX9_isWord_0 hC ?_
  refine eX9_isWord_1 hC ?_
  refine eX9_isWord_2 hC ?_
  refine eX9_isWord_3 hC (by assumption) (by assumption) ?_
  refine eX9_isWord_6 hC ?_
  refine eX9_isWord_8 hC (by assumption) (vp_in_nI (by omega) (by omega)) ?_
  rw [nI_clamp (by omega), e80]
  refine eX9_isWord_9 hC ?_
  refine eX9_isWord_10 hC ?_
  refine eX9_isWord_11 hC (Nat.le_of_ble_eq_true rfl) (Nat.le_of_ble_eq_true rfl) (Nat.le_of_ble_eq_true rfl) (vX9_in hC.nt) (zk_i ?_)
  refine eX9_isWord_14 hC hQ (Nat.le_of_ble_eq_true rfl) (Nat.le_of_ble_eq_true rfl) (zBv_01 _) ?_
  refine ⟨?_, rfl, rfl⟩
  rw [zBv_congr (q := ¬ i < 0 ∧ i < nI n) (by rw [nI_0, zle1 (by omega)])]
set_option maxHeartbeats 4000000 in
theorem vX9_wordWidth {l : Launch} {g : zG} (hl : l.stackTraces = false) {K : zK} {μ : zF} {m : Nat} {S : zMs} {i : Int32} (hR : zRef K m) (hM : zM9 μ m S) (ho : zMok S) : EX9_wordWidth l g 0 0 [.ref m, .int i] K μ (zN9 zc1 (zdo_wordWidth i S) K μ m S) := by
  obtain ⟨h0, h1, h2, h3, h4, h5, h6, h7, h8, i1, i2, i3, i4, i5, i6, i7, i8⟩ := id hR
  obtain ⟨a1, a2, a3, a4, a5, a6⟩ := id hM
  have o80 := ho.1.1
  have e80 : μ (m + 1) 80 = nI (S.1 80) := by have := a1.2 80 (by omega) (by omega); rwa [Nat.zero_add] at this
  refine nX9_wordWidth hl (fun x hC hQ => ?_)
  by_cases q : ¬ i < 0 ∧ i < nI (S.1 80)
  · obtain ⟨k, rfl, hk, e⟩ := zix_in (f := fun k => .inl (nI (S.1 k), S)) (by omega) q
    have ek : μ (m + 1) (k) = nI (S.1 k) := by have := (a1.1 k hk).1; rwa [Nat.zero_add] at this
    refine eX9_wordWidth_0 hC ?_
    refine eX9_wordWidth_1 hC ?_
    refine eX9_wordWidth_2 hC ?_
    refine eX9_wordWidth_3 hC (Nat.le_of_ble_eq_true rfl) (Nat.le_of_ble_eq_true rfl) (Nat.le_of_ble_eq_true rfl) (by assumption) (vX9_isWord hC.nt hR e80 (by omega)) (zk_i ?_)
    rw [zBv_t q]
    refine eX9_wordWidth_6 hC ?_
    refine eX9_wordWidth_7 hC ?_
    refine eX9_wordWidth_8 hC (Nat.le_of_ble_eq_true rfl) (Nat.le_of_ble_eq_true rfl) (Nat.le_of_ble_eq_true rfl) (by assumption) (vX9_goV hC.nt h0 (r := 1) (t := 0) rfl rfl (by omega) (by omega) (by omega)) (zk_v (fun μ_8 m_8 => ?_))
    subst m_8
    refine eX9_wordWidth_11 hC (fun zz => absurd zz zn10) (fun _ => ?_)
    refine eX9_wordWidth_14 hC ?_
    refine eX9_wordWidth_15 hC (by assumption) (by assumption) ?_
    refine eX9_wordWidth_18 hC ?_
    refine eX9_wordWidth_19 hC (by assumption) (vp_in_nI (by omega) (by omega)) ?_
    rw [nI_clamp (by omega), (zup_a _ _ _ _ (by omega) : zup μ m 4 (nI 0) (m + 1) _ = _), ek]
    refine eX9_wordWidth_20 hC ?_
    refine eX9_wordWidth_24 hC hQ (Nat.le_of_ble_eq_true rfl) (Nat.le_of_ble_eq_true rfl) ?_
    exact zN9.q e hM
  · refine eX9_wordWidth_0 hC ?_
    refine eX9_wordWidth_1 hC ?_
    refine eX9_wordWidth_2 hC ?_
    refine eX9_wordWidth_3 hC (Nat.le_of_ble_eq_true rfl) (Nat.le_of_ble_eq_true rfl) (Nat.le_of_ble_eq_true rfl) (by assumption) (vX9_isWord hC.nt hR e80 (by omega)) (zk_i ?_)
    rw [zBv_f q]
    refine eX9_wordWidth_6 hC ?_
    refine eX9_wordWidth_7 hC ?_
    refine eX9_wordWidth_8 hC (Nat.le_of_ble_eq_true rfl) (Nat.le_of_ble_eq_true rfl) (Nat.le_of_ble_eq_true rfl) (by assumption) (vX9_goV hC.nt h0 (a := 0) (r := 0) (t := 1) rfl rfl (by omega) (by omega) (by omega)) (zk_v (fun μ_8 m_8 => ?_))
    subst m_8
    refine eX9_wordWidth_11 hC (fun _ => ?_) (fun zz => absurd zn00 zz)
    refine eX9_wordWidth_23 hC ?_
    refine eX9_wordWidth_24 hC hQ (Nat.le_of_ble_eq_true rfl) (Nat.le_of_ble_eq_true rfl) ?_
    exact zN9.ex (if_neg q) rfl hM
set_option maxHeartbeats 4000000 in
theorem vX9_mark {l : Launch} {g : zG} (hl : l.stackTraces = false) {K : zK} {μ : zF} {m : Nat} {S : zMs} {i : Int32} (hR : zRef K m) (hM : zM9 μ m S) (ho : zMok S) : EX9_mark l g 0 0 [.ref m, .int i] K μ (zN9 zc1 (zdo_mark i S) K μ m S) := by
  obtain ⟨h0, h1, h2, h3, h4, h5, h6, h7, h8, i1, i2, i3, i4, i5, i6, i7, i8⟩ := id hR
  obtain ⟨a1, a2, a3, a4, a5, a6⟩ := id hM
  have o80 := ho.1.1
  have e80 : μ (m + 1) 80 = nI (S.1 80) := by have := a1.2 80 (by omega) (by omega); rwa [Nat.zero_add] at this
  refine nX9_mark hl (fun x hC hQ => ?_)
  by_cases q : ¬ i < 0 ∧ i < nI (S.1 80)
  · obtain ⟨k, rfl, hk, e⟩ := zix_in (f := fun k => .inl (nI (S.1 (40 + k)), S)) (by omega) q
    have ek : μ (m + 1) (40 + k) = nI (S.1 (40 + k)) := by have := (a1.1 k hk).2; rwa [Nat.zero_add] at this
    refine eX9_mark_0 hC ?_
    refine eX9_mark_1 hC ?_
    refine eX9_mark_2 hC ?_
    refine eX9_mark_3 hC (Nat.le_of_ble_eq_true rfl) (Nat.le_of_ble_eq_true rfl) (Nat.le_of_ble_eq_true rfl) (by assumption) (vX9_isWord hC.nt hR e80 (by omega)) (zk_i ?_)
    rw [zBv_t q]
    refine eX9_mark_6 hC ?_
    refine eX9_mark_7 hC ?_
    refine eX9_mark_8 hC (Nat.le_of_ble_eq_true rfl) (Nat.le_of_ble_eq_true rfl) (Nat.le_of_ble_eq_true rfl) (by assumption) (vX9_goV hC.nt h0 (r := 1) (t := 0) rfl rfl (by omega) (by omega) (by omega)) (zk_v (fun μ_8 m_8 => ?_))
    subst m_8
    refine eX9_mark_11 hC (fun zz => absurd zz zn10) (fun _ => ?_)
    refine eX9_mark_14 hC ?_
    refine eX9_mark_15 hC (by assumption) (by assumption) ?_
    refine eX9_mark_18 hC ?_
    refine eX9_mark_20 hC ?_
    refine eX9_mark_21 hC ?_
    rw [nI_add]
    refine eX9_mark_22 hC (by assumption) (vp_in_nI (by omega) (by omega)) ?_
    rw [nI_clamp (by omega), (zup_a _ _ _ _ (by omega) : zup μ m 4 (nI 0) (m + 1) _ = _), ek]
    refine eX9_mark_23 hC ?_
    refine eX9_mark_27 hC hQ (Nat.le_of_ble_eq_true rfl) (Nat.le_of_ble_eq_true rfl) ?_
    exact zN9.q e hM
  · refine eX9_mark_0 hC ?_
    refine eX9_mark_1 hC ?_
    refine eX9_mark_2 hC ?_
    refine eX9_mark_3 hC (Nat.le_of_ble_eq_true rfl) (Nat.le_of_ble_eq_true rfl) (Nat.le_of_ble_eq_true rfl) (by assumption) (vX9_isWord hC.nt hR e80 (by omega)) (zk_i ?_)
    rw [zBv_f q]
    refine eX9_mark_6 hC ?_
    refine eX9_mark_7 hC ?_
    refine eX9_mark_8 hC (Nat.le_of_ble_eq_true rfl) (Nat.le_of_ble_eq_true rfl) (Nat.le_of_ble_eq_true rfl) (by assumption) (vX9_goV hC.nt h0 (a := 0) (r := 0) (t := 1) rfl rfl (by omega) (by omega) (by omega)) (zk_v (fun μ_8 m_8 => ?_))
    subst m_8
    refine eX9_mark_11 hC (fun _ => ?_) (fun zz => absurd zn00 zz)
    refine eX9_mark_26 hC ?_
    refine eX9_mark_27 hC hQ (Nat.le_of_ble_eq_true rfl) (Nat.le_of_ble_eq_true rfl) ?_
    exact zN9.ex (if_neg q) rfl hM
set_option maxHeartbeats 4000000 in
theorem vX9_words {l : Launch} {g : zG} (hl : l.stackTraces = false) {K : zK} {μ : zF} {m : Nat} {S : zMs} (hR : zRef K m) (hM : zM9 μ m S) (ho : zMok S) : EX9_words l g 0 0 [.ref m] K μ (zN9 zc1 (zdo_words S) K μ m S) := by
  obtain ⟨h0, h1, h2, h3, h4, h5, h6, h7, h8, i1, i2, i3, i4, i5, i6, i7, i8⟩ := id hR
  obtain ⟨a1, a2, a3, a4, a5, a6⟩ := id hM
  have o80 := ho.1.1
  have e80 : μ (m + 1) 80 = nI (S.1 80) := by have := a1.2 80 (by omega) (by omega); rwa [Nat.zero_add] at this
  refine nX9_words hl (fun x hC hQ => ?_)
  refine eX9_words_0 hC ?_
  refine eX9_words_1 hC ?_
  refine eX9_words_2 hC (by assumption) ?_
  refine eX9_words_5 hC ?_
  refine eX9_words_6 hC (by assumption) (by assumption) ?_
  refine eX9_words_9 hC ?_
  refine eX9_words_11 hC (by assumption) (vp_in_nI (by omega) (by omega)) ?_
  rw [nI_clamp (by omega), (zup_a _ _ _ _ (by omega) : zup μ m 4 (nI 0) (m + 1) _ = _), e80]
  refine eX9_words_12 hC hQ (Nat.le_of_ble_eq_true rfl) (Nat.le_of_ble_eq_true rfl) ?_
  exact zN9.q rfl hM
set_option maxHeartbeats 4000000 in
theorem vX9_savedStates {l : Launch} {g : zG} (hl : l.stackTraces = false) {K : zK} {μ : zF} {m : Nat} {S : zMs} (hR : zRef K m) (hM : zM9 μ m S) (ho : zMok S) : EX9_savedStates l g 0 0 [.ref m] K μ (zN9 zc1 (zdo_savedStates S) K μ m S) := by
  obtain ⟨h0, h1, h2, h3, h4, h5, h6, h7, h8, i1, i2, i3, i4, i5, i6, i7, i8⟩ := id hR
  obtain ⟨a1, a2, a3, a4, a5, a6⟩ := id hM
  have o80 := ho.1.1
  have e80 : μ (m + 1) 80 = nI (S.1 80) := by have := a1.2 80 (by omega) (by omega); rwa [Nat.zero_add] at this
  refine nX9_savedStates hl (fun x hC hQ => ?_)
  refine eX9_savedStates_0 hC ?_
  refine eX9_savedStates_1 hC ?_
  refine eX9_savedStates_2 hC (by assumption) ?_
  refine eX9_savedStates_5 hC ?_
  refine eX9_savedStates_6 hC (by assumption) ?_
  rw [zup_k _ _ _ (by omega), a2]
  refine eX9_savedStates_9 hC hQ (Nat.le_of_ble_eq_true rfl) (Nat.le_of_ble_eq_true rfl) ?_
  exact zN9.q rfl hM
theorem zSb.upg {μ : zF} {a k v : Nat} {τ : Nat → Nat} (h : zSb μ a 0 τ) (hk : 40 ≤ k) (hk0 : k ≠ 80) (h80 : τ 80 ≤ 40) : zSb (zup μ a k (nI v)) a 0 (zuf τ k v) := by
  have e80 : zuf τ k v 80 = τ 80 := by unfold zuf; rw [if_neg (by omega)]
  have ev : ∀ j, (j < τ 80 ∨ 40 ≤ j) → μ a j = nI (τ j) → zup μ a k (nI v) a j = nI (zuf τ k v j) := fun j _ e => by
    unfold zuf
    by_cases c : j = k
    · subst c; rw [zup_self, if_pos rfl]
    · rw [zup_k _ _ _ c, if_neg c, e]
  refine ⟨fun j hj => ⟨?_, ?_⟩, fun j j1 j2 => ?_⟩
  · rw [e80] at hj
    rw [Nat.zero_add]
    have := (h.1 j hj).1
    rw [Nat.zero_add] at this
    exact ev j (Or.inl hj) this
  · rw [e80] at hj
    rw [Nat.zero_add]
    have := (h.1 j hj).2
    rw [Nat.zero_add] at this
    exact ev (40 + j) (Or.inr (by omega)) this
  · rw [Nat.zero_add]
    have := h.2 j j1 j2
    rw [Nat.zero_add] at this
    exact ev j (Or.inr (by omega)) this
theorem zSb.far {μ : zF} {a o k : Nat} {v : Int32} {τ : Nat → Nat} (h : zSb μ a o τ) (h80 : τ 80 ≤ 40) (hk : k < o ∨ o + 88 ≤ k) : zSb (zup μ a k v) a o τ := h.of h80 (fun j hj => zup_k _ _ _ (by omega))
theorem zM9.set {μ : zF} {m k v : Nat} {S : zMs} (h : zM9 μ m S) (ho : zMok S) (hk : 40 ≤ k) (hk0 : k ≠ 80) (hk2 : k < 88) : zM9 (zup μ (m + 1) k (nI v)) m (zuf S.1 k v, S.2) := by
  obtain ⟨a1, a2, a3, a4, a5, a6⟩ := h
  exact ⟨a1.upg hk hk0 ho.1.1, (zup_a _ _ _ _ (by omega)).trans a2, fun i hi => (a3 i hi).far (ho.2.2.1 i hi).1 (by omega), (zup_a _ _ _ _ (by omega)).trans a4, fun i hi => (zup_a _ _ _ _ (by omega)).trans (a5 i hi), (zup_a _ _ _ _ (by omega)).trans a6⟩
set_option maxHeartbeats 4000000 in
theorem vX9_sets {l : Launch} {g : zG} (hl : l.stackTraces = false) {K : zK} {μ : zF} {m k v : Nat} {S : zMs} (hR : zRef K m) (hM : zM9 μ m S) (ho : zMok S) (hk : 81 ≤ k) (hk2 : k < 88) : EX9_sets l g 0 0 [.ref m, .int (nI k), .int (nI v)] K μ (zPv (nI (S.1 k)) K (fun μ' => zM9 μ' m (zcg S (zuf S.1 k v)) ∧ zAg μ μ' m (m + 9) ∧ μ' m 4 = μ m 4)) := by
  obtain ⟨h0, h1, h2, h3, h4, h5, h6, h7, h8, i1, i2, i3, i4, i5, i6, i7, i8⟩ := id hR
  obtain ⟨a1, a2, a3, a4, a5, a6⟩ := id hM
  have o80 := ho.1.1
  have e80 : μ (m + 1) 80 = nI (S.1 80) := by have := a1.2 80 (by omega) (by omega); rwa [Nat.zero_add] at this
  refine nX9_sets hl (fun x hC hQ => ?_)
  refine eX9_sets_0 hC ?_
  refine eX9_sets_1 hC (Nat.le_of_ble_eq_true rfl) (Nat.le_of_ble_eq_true rfl) (Nat.le_of_ble_eq_true rfl) (by assumption) (vX9_saves hC.nt (by assumption) (by assumption) (by assumption)) (zk_w (fun μ_1 m_1 => ?_))
  obtain ⟨b1, b2⟩ := m_1
  have ek : μ_1 (m + 1) k = nI (S.1 k) := by have := b1.1.2 k (by omega) (by omega); rw [Nat.zero_add] at this; exact this
  refine eX9_sets_4 hC ?_
  refine eX9_sets_5 hC (by assumption) (by assumption) ?_
  refine eX9_sets_8 hC ?_
  refine eX9_sets_9 hC (by assumption) (vp_in_nI (by omega) (by omega)) ?_
  rw [nI_clamp (by omega), ek]
  refine eX9_sets_10 hC ?_
  refine eX9_sets_11 hC ?_
  refine eX9_sets_12 hC (by assumption) (by assumption) ?_
  refine eX9_sets_15 hC ?_
  refine eX9_sets_16 hC ?_
  refine eX9_sets_17 hC (by assumption) (vp_in_nI (by omega) (by omega)) ?_
  rw [nI_clamp (by omega)]
  refine eX9_sets_18 hC ?_
  refine eX9_sets_19 hC hQ (Nat.le_of_ble_eq_true rfl) (Nat.le_of_ble_eq_true rfl) ?_
  refine ⟨rfl, rfl, b1.set (zsv_ok ho) (by omega) (by omega) (by omega), fun a j q => ?_, ?_⟩
  · rw [zup_a _ _ _ _ (by omega)]; exact b2 a j (by omega) (by omega)
  · rw [zup_a _ _ _ _ (by omega)]; exact b2 m 4 (by omega) (by omega)
set_option maxHeartbeats 4000000 in
theorem vX9_setColumn {l : Launch} {g : zG} (hl : l.stackTraces = false) {K : zK} {μ : zF} {m : Nat} {S : zMs} {i : Int32} (hR : zRef K m) (hM : zM9 μ m S) (ho : zMok S) : EX9_setColumn l g 0 0 [.ref m, .int i] K μ (zN9 zc1 (zdo_setColumn i S) K μ m S) := by
  obtain ⟨h0, h1, h2, h3, h4, h5, h6, h7, h8, i1, i2, i3, i4, i5, i6, i7, i8⟩ := id hR
  obtain ⟨a1, a2, a3, a4, a5, a6⟩ := id hM
  have o80 := ho.1.1
  have e80 : μ (m + 1) 80 = nI (S.1 80) := by have := a1.2 80 (by omega) (by omega); rwa [Nat.zero_add] at this
  refine nX9_setColumn hl (fun x hC hQ => ?_)
  by_cases q : ¬ i < nI 30 ∧ i ≤ nI 100
  · obtain ⟨k, rfl, k1, k2, e⟩ := zrg_in (f := fun k => .inl (nI (S.1 81), zcg S (zuf S.1 81 k))) (by omega) (by omega) q
    refine eX9_setColumn_0 hC ?_
    refine eX9_setColumn_1 hC ?_
    refine eX9_setColumn_2 hC ?_
    refine eX9_setColumn_4 hC ?_
    refine eX9_setColumn_6 hC (Nat.le_of_ble_eq_true rfl) (Nat.le_of_ble_eq_true rfl) (Nat.le_of_ble_eq_true rfl) (vX9_in hC.nt) (zk_i ?_)
    rw [zBv_t q]
    refine eX9_setColumn_9 hC ?_
    refine eX9_setColumn_10 hC ?_
    refine eX9_setColumn_11 hC (Nat.le_of_ble_eq_true rfl) (Nat.le_of_ble_eq_true rfl) (Nat.le_of_ble_eq_true rfl) (by assumption) (vX9_goV hC.nt h0 (r := 1) (t := 0) rfl rfl (by omega) (by omega) (by omega)) (zk_v (fun μ_11 m_11 => ?_))
    subst m_11
    refine eX9_setColumn_14 hC (fun zz => absurd zz zn10) (fun _ => ?_)
    refine eX9_setColumn_17 hC ?_
    refine eX9_setColumn_18 hC ?_
    refine eX9_setColumn_20 hC ?_
    refine eX9_setColumn_21 hC (Nat.le_of_ble_eq_true rfl) (Nat.le_of_ble_eq_true rfl) (Nat.le_of_ble_eq_true rfl) (by assumption) (vX9_sets hC.nt hR hM.up4 ho (by omega) (by omega)) (zk_v (fun μ_21 m_21 => ?_))
    refine eX9_setColumn_24 hC ?_
    refine eX9_setColumn_28 hC hQ (Nat.le_of_ble_eq_true rfl) (Nat.le_of_ble_eq_true rfl) ?_
    obtain ⟨b1, b2, b3⟩ := m_21
    exact zN9.ok e ((zAg.up (by omega)).trans b2) (b3.trans (zup_self _ _ _ _)) b1
  · refine eX9_setColumn_0 hC ?_
    refine eX9_setColumn_1 hC ?_
    refine eX9_setColumn_2 hC ?_
    refine eX9_setColumn_4 hC ?_
    refine eX9_setColumn_6 hC (Nat.le_of_ble_eq_true rfl) (Nat.le_of_ble_eq_true rfl) (Nat.le_of_ble_eq_true rfl) (vX9_in hC.nt) (zk_i ?_)
    rw [zBv_f q]
    refine eX9_setColumn_9 hC ?_
    refine eX9_setColumn_10 hC ?_
    refine eX9_setColumn_11 hC (Nat.le_of_ble_eq_true rfl) (Nat.le_of_ble_eq_true rfl) (Nat.le_of_ble_eq_true rfl) (by assumption) (vX9_goV hC.nt h0 (a := 0) (r := 0) (t := 1) rfl rfl (by omega) (by omega) (by omega)) (zk_v (fun μ_11 m_11 => ?_))
    subst m_11
    refine eX9_setColumn_14 hC (fun _ => ?_) (fun zz => absurd zn00 zz)
    refine eX9_setColumn_27 hC ?_
    refine eX9_setColumn_28 hC hQ (Nat.le_of_ble_eq_true rfl) (Nat.le_of_ble_eq_true rfl) ?_
    exact zN9.ex (if_neg q) rfl hM
set_option maxHeartbeats 4000000 in
theorem vX9_setSpace {l : Launch} {g : zG} (hl : l.stackTraces = false) {K : zK} {μ : zF} {m : Nat} {S : zMs} {i : Int32} (hR : zRef K m) (hM : zM9 μ m S) (ho : zMok S) : EX9_setSpace l g 0 0 [.ref m, .int i] K μ (zN9 zc1 (zdo_setSpace i S) K μ m S) := by
  obtain ⟨h0, h1, h2, h3, h4, h5, h6, h7, h8, i1, i2, i3, i4, i5, i6, i7, i8⟩ := id hR
  obtain ⟨a1, a2, a3, a4, a5, a6⟩ := id hM
  have o80 := ho.1.1
  have e80 : μ (m + 1) 80 = nI (S.1 80) := by have := a1.2 80 (by omega) (by omega); rwa [Nat.zero_add] at this
  refine nX9_setSpace hl (fun x hC hQ => ?_)
  by_cases q : ¬ i < nI 1 ∧ i ≤ nI 5
  · obtain ⟨k, rfl, k1, k2, e⟩ := zrg_in (f := fun k => .inl (nI (S.1 82), zcg S (zuf S.1 82 k))) (by omega) (by omega) q
    refine eX9_setSpace_0 hC ?_
    refine eX9_setSpace_1 hC ?_
    refine eX9_setSpace_2 hC ?_
    refine eX9_setSpace_3 hC ?_
    refine eX9_setSpace_4 hC (Nat.le_of_ble_eq_true rfl) (Nat.le_of_ble_eq_true rfl) (Nat.le_of_ble_eq_true rfl) (vX9_in hC.nt) (zk_i ?_)
    rw [zBv_t q]
    refine eX9_setSpace_7 hC ?_
    refine eX9_setSpace_8 hC ?_
    refine eX9_setSpace_9 hC (Nat.le_of_ble_eq_true rfl) (Nat.le_of_ble_eq_true rfl) (Nat.le_of_ble_eq_true rfl) (by assumption) (vX9_goV hC.nt h0 (r := 1) (t := 0) rfl rfl (by omega) (by omega) (by omega)) (zk_v (fun μ_9 m_9 => ?_))
    subst m_9
    refine eX9_setSpace_12 hC (fun zz => absurd zz zn10) (fun _ => ?_)
    refine eX9_setSpace_15 hC ?_
    refine eX9_setSpace_16 hC ?_
    refine eX9_setSpace_18 hC ?_
    refine eX9_setSpace_19 hC (Nat.le_of_ble_eq_true rfl) (Nat.le_of_ble_eq_true rfl) (Nat.le_of_ble_eq_true rfl) (by assumption) (vX9_sets hC.nt hR hM.up4 ho (by omega) (by omega)) (zk_v (fun μ_19 m_19 => ?_))
    refine eX9_setSpace_22 hC ?_
    refine eX9_setSpace_26 hC hQ (Nat.le_of_ble_eq_true rfl) (Nat.le_of_ble_eq_true rfl) ?_
    obtain ⟨b1, b2, b3⟩ := m_19
    exact zN9.ok e ((zAg.up (by omega)).trans b2) (b3.trans (zup_self _ _ _ _)) b1
  · refine eX9_setSpace_0 hC ?_
    refine eX9_setSpace_1 hC ?_
    refine eX9_setSpace_2 hC ?_
    refine eX9_setSpace_3 hC ?_
    refine eX9_setSpace_4 hC (Nat.le_of_ble_eq_true rfl) (Nat.le_of_ble_eq_true rfl) (Nat.le_of_ble_eq_true rfl) (vX9_in hC.nt) (zk_i ?_)
    rw [zBv_f q]
    refine eX9_setSpace_7 hC ?_
    refine eX9_setSpace_8 hC ?_
    refine eX9_setSpace_9 hC (Nat.le_of_ble_eq_true rfl) (Nat.le_of_ble_eq_true rfl) (Nat.le_of_ble_eq_true rfl) (by assumption) (vX9_goV hC.nt h0 (a := 0) (r := 0) (t := 1) rfl rfl (by omega) (by omega) (by omega)) (zk_v (fun μ_9 m_9 => ?_))
    subst m_9
    refine eX9_setSpace_12 hC (fun _ => ?_) (fun zz => absurd zn00 zz)
    refine eX9_setSpace_25 hC ?_
    refine eX9_setSpace_26 hC hQ (Nat.le_of_ble_eq_true rfl) (Nat.le_of_ble_eq_true rfl) ?_
    exact zN9.ex (if_neg q) rfl hM
set_option maxHeartbeats 4000000 in
theorem vX9_setPage {l : Launch} {g : zG} (hl : l.stackTraces = false) {K : zK} {μ : zF} {m : Nat} {S : zMs} {i : Int32} (hR : zRef K m) (hM : zM9 μ m S) (ho : zMok S) : EX9_setPage l g 0 0 [.ref m, .int i] K μ (zN9 zc1 (zdo_setPage i S) K μ m S) := by
  obtain ⟨h0, h1, h2, h3, h4, h5, h6, h7, h8, i1, i2, i3, i4, i5, i6, i7, i8⟩ := id hR
  obtain ⟨a1, a2, a3, a4, a5, a6⟩ := id hM
  have o80 := ho.1.1
  have e80 : μ (m + 1) 80 = nI (S.1 80) := by have := a1.2 80 (by omega) (by omega); rwa [Nat.zero_add] at this
  refine nX9_setPage hl (fun x hC hQ => ?_)
  by_cases q : ¬ i < nI 2 ∧ i ≤ nI 20
  · obtain ⟨k, rfl, k1, k2, e⟩ := zrg_in (f := fun k => .inl (nI (S.1 86), zcg S (zuf S.1 86 k))) (by omega) (by omega) q
    refine eX9_setPage_0 hC ?_
    refine eX9_setPage_1 hC ?_
    refine eX9_setPage_2 hC ?_
    refine eX9_setPage_3 hC ?_
    refine eX9_setPage_5 hC (Nat.le_of_ble_eq_true rfl) (Nat.le_of_ble_eq_true rfl) (Nat.le_of_ble_eq_true rfl) (vX9_in hC.nt) (zk_i ?_)
    rw [zBv_t q]
    refine eX9_setPage_8 hC ?_
    refine eX9_setPage_9 hC ?_
    refine eX9_setPage_10 hC (Nat.le_of_ble_eq_true rfl) (Nat.le_of_ble_eq_true rfl) (Nat.le_of_ble_eq_true rfl) (by assumption) (vX9_goV hC.nt h0 (r := 1) (t := 0) rfl rfl (by omega) (by omega) (by omega)) (zk_v (fun μ_10 m_10 => ?_))
    subst m_10
    refine eX9_setPage_13 hC (fun zz => absurd zz zn10) (fun _ => ?_)
    refine eX9_setPage_16 hC ?_
    refine eX9_setPage_17 hC ?_
    refine eX9_setPage_19 hC ?_
    refine eX9_setPage_20 hC (Nat.le_of_ble_eq_true rfl) (Nat.le_of_ble_eq_true rfl) (Nat.le_of_ble_eq_true rfl) (by assumption) (vX9_sets hC.nt hR hM.up4 ho (by omega) (by omega)) (zk_v (fun μ_20 m_20 => ?_))
    refine eX9_setPage_23 hC ?_
    refine eX9_setPage_27 hC hQ (Nat.le_of_ble_eq_true rfl) (Nat.le_of_ble_eq_true rfl) ?_
    obtain ⟨b1, b2, b3⟩ := m_20
    exact zN9.ok e ((zAg.up (by omega)).trans b2) (b3.trans (zup_self _ _ _ _)) b1
  · refine eX9_setPage_0 hC ?_
    refine eX9_setPage_1 hC ?_
    refine eX9_setPage_2 hC ?_
    refine eX9_setPage_3 hC ?_
    refine eX9_setPage_5 hC (Nat.le_of_ble_eq_true rfl) (Nat.le_of_ble_eq_true rfl) (Nat.le_of_ble_eq_true rfl) (vX9_in hC.nt) (zk_i ?_)
    rw [zBv_f q]
    refine eX9_setPage_8 hC ?_
    refine eX9_setPage_9 hC ?_
    refine eX9_setPage_10 hC (Nat.le_of_ble_eq_true rfl) (Nat.le_of_ble_eq_true rfl) (Nat.le_of_ble_eq_true rfl) (by assumption) (vX9_goV hC.nt h0 (a := 0) (r := 0) (t := 1) rfl rfl (by omega) (by omega) (by omega)) (zk_v (fun μ_10 m_10 => ?_))
    subst m_10
    refine eX9_setPage_13 hC (fun _ => ?_) (fun zz => absurd zn00 zz)
    refine eX9_setPage_26 hC ?_
    refine eX9_setPage_27 hC hQ (Nat.le_of_ble_eq_true rfl) (Nat.le_of_ble_eq_true rfl) ?_
    exact zN9.ex (if_neg q) rfl hM
set_option maxHeartbeats 4000000 in
theorem vX9_setOptimal {l : Launch} {g : zG} (hl : l.stackTraces = false) {K : zK} {μ : zF} {m b : Nat} {S : zMs} (hR : zRef K m) (hM : zM9 μ m S) (ho : zMok S) (hb : b ≤ 1) : EX9_setOptimal l g 0 0 [.ref m, .int (nI b)] K μ (zN9 zc1 (zdo_setOptimal b S) K μ m S) := by
  obtain ⟨h0, h1, h2, h3, h4, h5, h6, h7, h8, i1, i2, i3, i4, i5, i6, i7, i8⟩ := id hR
  obtain ⟨a1, a2, a3, a4, a5, a6⟩ := id hM
  have o80 := ho.1.1
  have e80 : μ (m + 1) 80 = nI (S.1 80) := by have := a1.2 80 (by omega) (by omega); rwa [Nat.zero_add] at this
  have o87 := ho.1.2.2.2.2.2.2.2.2.2
  refine nX9_setOptimal hl (fun x hC hQ => ?_)
  rcases (show b = 0 ∨ b = 1 by omega) with rfl | rfl
  · rcases (show S.1 87 = 0 ∨ S.1 87 = 1 by omega) with c | c
    · refine eX9_setOptimal_0 hC ?_
      refine eX9_setOptimal_1 hC ?_
      refine eX9_setOptimal_2 hC (by assumption) ?_
      refine eX9_setOptimal_5 hC ?_
      refine eX9_setOptimal_6 hC ?_
      refine eX9_setOptimal_8 hC ?_
      refine eX9_setOptimal_9 hC (fun _ => ?_) (fun zz => absurd zn00 zz)
      refine eX9_setOptimal_16 hC ?_
      refine eX9_setOptimal_17 hC (Nat.le_of_ble_eq_true rfl) (Nat.le_of_ble_eq_true rfl) (Nat.le_of_ble_eq_true rfl) (by assumption) (vX9_sets hC.nt hR hM.up4 ho (by omega) (by omega)) (zk_v (fun μ_17 m_17 => ?_))
      refine eX9_setOptimal_20 hC ?_
      rw [c]
      refine eX9_setOptimal_21 hC (fun _ => ?_) (fun zz => absurd zz (by decide))
      refine eX9_setOptimal_28 hC ?_
      refine eX9_setOptimal_29 hC hQ (Nat.le_of_ble_eq_true rfl) (Nat.le_of_ble_eq_true rfl) (by first | (left; rfl) | (right; rfl) | assumption) ?_
      obtain ⟨b1, b2, b3⟩ := m_17
      exact zN9.ok (by unfold zdo_setOptimal; rw [c]) ((zAg.up (by omega)).trans b2) (b3.trans (zup_self _ _ _ _)) b1
    · refine eX9_setOptimal_0 hC ?_
      refine eX9_setOptimal_1 hC ?_
      refine eX9_setOptimal_2 hC (by assumption) ?_
      refine eX9_setOptimal_5 hC ?_
      refine eX9_setOptimal_6 hC ?_
      refine eX9_setOptimal_8 hC ?_
      refine eX9_setOptimal_9 hC (fun _ => ?_) (fun zz => absurd zn00 zz)
      refine eX9_setOptimal_16 hC ?_
      refine eX9_setOptimal_17 hC (Nat.le_of_ble_eq_true rfl) (Nat.le_of_ble_eq_true rfl) (Nat.le_of_ble_eq_true rfl) (by assumption) (vX9_sets hC.nt hR hM.up4 ho (by omega) (by omega)) (zk_v (fun μ_17 m_17 => ?_))
      refine eX9_setOptimal_20 hC ?_
      rw [c]
      refine eX9_setOptimal_21 hC (fun zz => absurd rfl zz) (fun _ => ?_)
      refine eX9_setOptimal_24 hC ?_
      refine eX9_setOptimal_25 hC ?_
      refine eX9_setOptimal_29 hC hQ (Nat.le_of_ble_eq_true rfl) (Nat.le_of_ble_eq_true rfl) (by first | (left; rfl) | (right; rfl) | assumption) ?_
      obtain ⟨b1, b2, b3⟩ := m_17
      exact zN9.ok (by unfold zdo_setOptimal; rw [c]) ((zAg.up (by omega)).trans b2) (b3.trans (zup_self _ _ _ _)) b1
  · rcases (show S.1 87 = 0 ∨ S.1 87 = 1 by omega) with c | c
    · refine eX9_setOptimal_0 hC ?_
      refine eX9_setOptimal_1 hC ?_
      refine eX9_setOptimal_2 hC (by assumption) ?_
      refine eX9_setOptimal_5 hC ?_
      refine eX9_setOptimal_6 hC ?_
      refine eX9_setOptimal_8 hC ?_
      refine eX9_setOptimal_9 hC (fun zz => absurd zz zn10) (fun _ => ?_)
      refine eX9_setOptimal_12 hC ?_
      refine eX9_setOptimal_13 hC ?_
      refine eX9_setOptimal_17 hC (Nat.le_of_ble_eq_true rfl) (Nat.le_of_ble_eq_true rfl) (Nat.le_of_ble_eq_true rfl) (by assumption) (vX9_sets hC.nt hR hM.up4 ho (by omega) (by omega)) (zk_v (fun μ_17 m_17 => ?_))
      refine eX9_setOptimal_20 hC ?_
      rw [c]
      refine eX9_setOptimal_21 hC (fun _ => ?_) (fun zz => absurd zz (by decide))
      refine eX9_setOptimal_28 hC ?_
      refine eX9_setOptimal_29 hC hQ (Nat.le_of_ble_eq_true rfl) (Nat.le_of_ble_eq_true rfl) (by first | (left; rfl) | (right; rfl) | assumption) ?_
      obtain ⟨b1, b2, b3⟩ := m_17
      exact zN9.ok (by unfold zdo_setOptimal; rw [c]) ((zAg.up (by omega)).trans b2) (b3.trans (zup_self _ _ _ _)) b1
    · refine eX9_setOptimal_0 hC ?_
      refine eX9_setOptimal_1 hC ?_
      refine eX9_setOptimal_2 hC (by assumption) ?_
      refine eX9_setOptimal_5 hC ?_
      refine eX9_setOptimal_6 hC ?_
      refine eX9_setOptimal_8 hC ?_
      refine eX9_setOptimal_9 hC (fun zz => absurd zz zn10) (fun _ => ?_)
      refine eX9_setOptimal_12 hC ?_
      refine eX9_setOptimal_13 hC ?_
      refine eX9_setOptimal_17 hC (Nat.le_of_ble_eq_true rfl) (Nat.le_of_ble_eq_true rfl) (Nat.le_of_ble_eq_true rfl) (by assumption) (vX9_sets hC.nt hR hM.up4 ho (by omega) (by omega)) (zk_v (fun μ_17 m_17 => ?_))
      refine eX9_setOptimal_20 hC ?_
      rw [c]
      refine eX9_setOptimal_21 hC (fun zz => absurd rfl zz) (fun _ => ?_)
      refine eX9_setOptimal_24 hC ?_
      refine eX9_setOptimal_25 hC ?_
      refine eX9_setOptimal_29 hC hQ (Nat.le_of_ble_eq_true rfl) (Nat.le_of_ble_eq_true rfl) (by first | (left; rfl) | (right; rfl) | assumption) ?_
      obtain ⟨b1, b2, b3⟩ := m_17
      exact zN9.ok (by unfold zdo_setOptimal; rw [c]) ((zAg.up (by omega)).trans b2) (b3.trans (zup_self _ _ _ _)) b1
set_option maxHeartbeats 4000000 in
theorem vX9_setPenalties {l : Launch} {g : zG} (hl : l.stackTraces = false) {K : zK} {μ : zF} {m : Nat} {S : zMs} {i : Int32} {j : Int32} {k : Int32} (hR : zRef K m) (hM : zM9 μ m S) (ho : zMok S) : EX9_setPenalties l g 0 0 [.ref m, .int i, .int j, .int k] K μ (zN9 zc1 (zdo_setPenalties i j k S) K μ m S) := by
  obtain ⟨h0, h1, h2, h3, h4, h5, h6, h7, h8, i1, i2, i3, i4, i5, i6, i7, i8⟩ := id hR
  obtain ⟨a1, a2, a3, a4, a5, a6⟩ := id hM
  have o80 := ho.1.1
  have e80 : μ (m + 1) 80 = nI (S.1 80) := by have := a1.2 80 (by omega) (by omega); rwa [Nat.zero_add] at this
  refine nX9_setPenalties hl (fun x hC hQ => ?_)
  by_cases q1 : ¬ i < nI 1 ∧ i ≤ nI 20
  · obtain ⟨a, rfl, r1, r2, e1⟩ := zrg_in (f := fun a => zrg j 0 9999 (fun b => zrg k 0 9999 (fun c => .inl (nI (S.1 83), zcg S (zuf (zuf (zuf S.1 83 a) 84 b) 85 c))))) (by omega) (by omega) q1
    by_cases q2 : ¬ j < nI 0 ∧ j ≤ nI 9999
    · obtain ⟨b, rfl, r3, r4, e2⟩ := zrg_in (f := fun b => zrg k 0 9999 (fun c => .inl (nI (S.1 83), zcg S (zuf (zuf (zuf S.1 83 a) 84 b) 85 c)))) (by omega) (by omega) q2
      by_cases q3 : ¬ k < nI 0 ∧ k ≤ nI 9999
      · obtain ⟨c, rfl, r5, r6, e3⟩ := zrg_in (f := fun c => .inl (nI (S.1 83), zcg S (zuf (zuf (zuf S.1 83 a) 84 b) 85 c))) (by omega) (by omega) q3
        refine eX9_setPenalties_0 hC ?_
        refine eX9_setPenalties_1 hC ?_
        refine eX9_setPenalties_2 hC ?_
        refine eX9_setPenalties_3 hC ?_
        refine eX9_setPenalties_5 hC (Nat.le_of_ble_eq_true rfl) (Nat.le_of_ble_eq_true rfl) (Nat.le_of_ble_eq_true rfl) (vX9_in hC.nt) (zk_i ?_)
        rw [zBv_t q1]
        refine eX9_setPenalties_8 hC (fun zz => absurd zz zn10) (fun _ => ?_)
        refine eX9_setPenalties_11 hC ?_
        refine eX9_setPenalties_12 hC ?_
        refine eX9_setPenalties_13 hC ?_
        refine eX9_setPenalties_16 hC (Nat.le_of_ble_eq_true rfl) (Nat.le_of_ble_eq_true rfl) (Nat.le_of_ble_eq_true rfl) (vX9_in hC.nt) (zk_i ?_)
        rw [zBv_t q2]
        refine eX9_setPenalties_19 hC (fun zz => absurd zz zn10) (fun _ => ?_)
        refine eX9_setPenalties_22 hC ?_
        refine eX9_setPenalties_23 hC ?_
        refine eX9_setPenalties_24 hC ?_
        refine eX9_setPenalties_27 hC (Nat.le_of_ble_eq_true rfl) (Nat.le_of_ble_eq_true rfl) (Nat.le_of_ble_eq_true rfl) (vX9_in hC.nt) (zk_i ?_)
        rw [zBv_t q3]
        refine eX9_setPenalties_30 hC (fun zz => absurd zz zn10) (fun _ => ?_)
        refine eX9_setPenalties_33 hC ?_
        refine eX9_setPenalties_34 hC ?_
        refine eX9_setPenalties_38 hC ?_
        refine eX9_setPenalties_39 hC ?_
        refine eX9_setPenalties_40 hC (Nat.le_of_ble_eq_true rfl) (Nat.le_of_ble_eq_true rfl) (Nat.le_of_ble_eq_true rfl) (by assumption) (vX9_goV hC.nt h0 (r := 1) (t := 0) rfl rfl (by omega) (by omega) (by omega)) (zk_v (fun μ_40 m_40 => ?_))
        subst m_40
        refine eX9_setPenalties_43 hC (fun _ => ?_) (fun zz => absurd zz zn10)
        refine eX9_setPenalties_48 hC ?_
        refine eX9_setPenalties_49 hC ?_
        refine eX9_setPenalties_51 hC ?_
        refine eX9_setPenalties_52 hC (Nat.le_of_ble_eq_true rfl) (Nat.le_of_ble_eq_true rfl) (Nat.le_of_ble_eq_true rfl) (by assumption) (vX9_sets hC.nt hR hM.up4 ho (by omega) (by omega)) (zk_v (fun μ_52 m_52 => ?_))
        refine eX9_setPenalties_55 hC ?_
        refine eX9_setPenalties_57 hC ?_
        refine eX9_setPenalties_58 hC (by assumption) (by assumption) ?_
        refine eX9_setPenalties_61 hC ?_
        refine eX9_setPenalties_63 hC ?_
        refine eX9_setPenalties_64 hC (by assumption) (vp_in_nI (by omega) (by omega)) ?_
        rw [nI_clamp (by omega)]
        refine eX9_setPenalties_65 hC ?_
        refine eX9_setPenalties_66 hC (by assumption) (by assumption) ?_
        refine eX9_setPenalties_69 hC ?_
        refine eX9_setPenalties_71 hC ?_
        refine eX9_setPenalties_72 hC (by assumption) (vp_in_nI (by omega) (by omega)) ?_
        rw [nI_clamp (by omega)]
        refine eX9_setPenalties_73 hC ?_
        refine eX9_setPenalties_75 hC hQ (Nat.le_of_ble_eq_true rfl) (Nat.le_of_ble_eq_true rfl) ?_
        obtain ⟨b1, b2, b3⟩ := m_52
        have ok1 : zMok (zcg S (zuf S.1 83 a)) := zcg_ok ho (zOk_83 ho.1 ⟨by omega, by omega⟩)
        have g1 := b1.set (k := 84) (v := b) ok1 (by omega) (by omega) (by omega)
        have ok2 : zMok (zuf (zuf S.1 83 a) 84 b, (zcg S (zuf S.1 83 a)).2) := ⟨zOk_84 ok1.1 r4, ok1.2⟩
        have g2 := g1.set (k := 85) (v := c) ok2 (by omega) (by omega) (by omega)
        refine zN9.ok ((e1.trans e2).trans e3) (fun a j q => ?_) ?_ g2
        · rw [zup_a _ _ _ _ (by omega), zup_a _ _ _ _ (by omega), b2 a j q, zup_a _ _ _ _ (by omega)]
        · rw [zup_a _ _ _ _ (by omega), zup_a _ _ _ _ (by omega), b3, zup_self]
      · refine eX9_setPenalties_0 hC ?_
        refine eX9_setPenalties_1 hC ?_
        refine eX9_setPenalties_2 hC ?_
        refine eX9_setPenalties_3 hC ?_
        refine eX9_setPenalties_5 hC (Nat.le_of_ble_eq_true rfl) (Nat.le_of_ble_eq_true rfl) (Nat.le_of_ble_eq_true rfl) (vX9_in hC.nt) (zk_i ?_)
        rw [zBv_t q1]
        refine eX9_setPenalties_8 hC (fun zz => absurd zz zn10) (fun _ => ?_)
        refine eX9_setPenalties_11 hC ?_
        refine eX9_setPenalties_12 hC ?_
        refine eX9_setPenalties_13 hC ?_
        refine eX9_setPenalties_16 hC (Nat.le_of_ble_eq_true rfl) (Nat.le_of_ble_eq_true rfl) (Nat.le_of_ble_eq_true rfl) (vX9_in hC.nt) (zk_i ?_)
        rw [zBv_t q2]
        refine eX9_setPenalties_19 hC (fun zz => absurd zz zn10) (fun _ => ?_)
        refine eX9_setPenalties_22 hC ?_
        refine eX9_setPenalties_23 hC ?_
        refine eX9_setPenalties_24 hC ?_
        refine eX9_setPenalties_27 hC (Nat.le_of_ble_eq_true rfl) (Nat.le_of_ble_eq_true rfl) (Nat.le_of_ble_eq_true rfl) (vX9_in hC.nt) (zk_i ?_)
        rw [zBv_f q3]
        refine eX9_setPenalties_30 hC (fun _ => ?_) (fun zz => absurd zn00 zz)
        refine eX9_setPenalties_37 hC ?_
        refine eX9_setPenalties_38 hC ?_
        refine eX9_setPenalties_39 hC ?_
        refine eX9_setPenalties_40 hC (Nat.le_of_ble_eq_true rfl) (Nat.le_of_ble_eq_true rfl) (Nat.le_of_ble_eq_true rfl) (by assumption) (vX9_goV hC.nt h0 (a := 0) (r := 0) (t := 1) rfl rfl (by omega) (by omega) (by omega)) (zk_v (fun μ_40 m_40 => ?_))
        subst m_40
        refine eX9_setPenalties_43 hC (fun zz => absurd zn00 zz) (fun _ => ?_)
        refine eX9_setPenalties_46 hC ?_
        refine eX9_setPenalties_47 hC hQ (Nat.le_of_ble_eq_true rfl) (Nat.le_of_ble_eq_true rfl) ?_
        exact zN9.ex ((e1.trans e2).trans (if_neg q3)) rfl hM
    · refine eX9_setPenalties_0 hC ?_
      refine eX9_setPenalties_1 hC ?_
      refine eX9_setPenalties_2 hC ?_
      refine eX9_setPenalties_3 hC ?_
      refine eX9_setPenalties_5 hC (Nat.le_of_ble_eq_true rfl) (Nat.le_of_ble_eq_true rfl) (Nat.le_of_ble_eq_true rfl) (vX9_in hC.nt) (zk_i ?_)
      rw [zBv_t q1]
      refine eX9_setPenalties_8 hC (fun zz => absurd zz zn10) (fun _ => ?_)
      refine eX9_setPenalties_11 hC ?_
      refine eX9_setPenalties_12 hC ?_
      refine eX9_setPenalties_13 hC ?_
      refine eX9_setPenalties_16 hC (Nat.le_of_ble_eq_true rfl) (Nat.le_of_ble_eq_true rfl) (Nat.le_of_ble_eq_true rfl) (vX9_in hC.nt) (zk_i ?_)
      rw [zBv_f q2]
      refine eX9_setPenalties_19 hC (fun _ => ?_) (fun zz => absurd zn00 zz)
      refine eX9_setPenalties_37 hC ?_
      refine eX9_setPenalties_38 hC ?_
      refine eX9_setPenalties_39 hC ?_
      refine eX9_setPenalties_40 hC (Nat.le_of_ble_eq_true rfl) (Nat.le_of_ble_eq_true rfl) (Nat.le_of_ble_eq_true rfl) (by assumption) (vX9_goV hC.nt h0 (a := 0) (r := 0) (t := 1) rfl rfl (by omega) (by omega) (by omega)) (zk_v (fun μ_40 m_40 => ?_))
      subst m_40
      refine eX9_setPenalties_43 hC (fun zz => absurd zn00 zz) (fun _ => ?_)
      refine eX9_setPenalties_46 hC ?_
      refine eX9_setPenalties_47 hC hQ (Nat.le_of_ble_eq_true rfl) (Nat.le_of_ble_eq_true rfl) ?_
      exact zN9.ex (e1.trans (if_neg q2)) rfl hM
  · refine eX9_setPenalties_0 hC ?_
    refine eX9_setPenalties_1 hC ?_
    refine eX9_setPenalties_2 hC ?_
    refine eX9_setPenalties_3 hC ?_
    refine eX9_setPenalties_5 hC (Nat.le_of_ble_eq_true rfl) (Nat.le_of_ble_eq_true rfl) (Nat.le_of_ble_eq_true rfl) (vX9_in hC.nt) (zk_i ?_)
    rw [zBv_f q1]
    refine eX9_setPenalties_8 hC (fun _ => ?_) (fun zz => absurd zn00 zz)
    refine eX9_setPenalties_37 hC ?_
    refine eX9_setPenalties_38 hC ?_
    refine eX9_setPenalties_39 hC ?_
    refine eX9_setPenalties_40 hC (Nat.le_of_ble_eq_true rfl) (Nat.le_of_ble_eq_true rfl) (Nat.le_of_ble_eq_true rfl) (by assumption) (vX9_goV hC.nt h0 (a := 0) (r := 0) (t := 1) rfl rfl (by omega) (by omega) (by omega)) (zk_v (fun μ_40 m_40 => ?_))
    subst m_40
    refine eX9_setPenalties_43 hC (fun zz => absurd zn00 zz) (fun _ => ?_)
    refine eX9_setPenalties_46 hC ?_
    refine eX9_setPenalties_47 hC hQ (Nat.le_of_ble_eq_true rfl) (Nat.le_of_ble_eq_true rfl) ?_
    exact zN9.ex (if_neg q1) rfl hM
set_option maxHeartbeats 4000000 in
theorem vX9_setMark {l : Launch} {g : zG} (hl : l.stackTraces = false) {K : zK} {μ : zF} {m : Nat} {S : zMs} {i : Int32} {w : Int32} (hR : zRef K m) (hM : zM9 μ m S) (ho : zMok S) : EX9_setMark l g 0 0 [.ref m, .int i, .int w] K μ (zN9 zcIA (zdo_setMark i w S) K μ m S) := by
  obtain ⟨h0, h1, h2, h3, h4, h5, h6, h7, h8, i1, i2, i3, i4, i5, i6, i7, i8⟩ := id hR
  obtain ⟨a1, a2, a3, a4, a5, a6⟩ := id hM
  have o80 := ho.1.1
  have e80 : μ (m + 1) 80 = nI (S.1 80) := by have := a1.2 80 (by omega) (by omega); rwa [Nat.zero_add] at this
  refine nX9_setMark hl (fun x hC hQ => ?_)
  by_cases q1 : ¬ i < 0 ∧ i < nI (S.1 80)
  · obtain ⟨k, rfl, hk, e1⟩ := zix_in (f := fun k => zrg w 0 2 (fun v => .inl (nI (S.1 (40 + k)), zcg S (zuf S.1 (40 + k) v)))) (by omega) q1
    by_cases q2 : ¬ w < nI 0 ∧ w ≤ nI 2
    · obtain ⟨v, rfl, v1, v2, e2⟩ := zrg_in (f := fun v => .inl (nI (S.1 (40 + k)), zcg S (zuf S.1 (40 + k) v))) (by omega) (by omega) q2
      refine eX9_setMark_0 hC ?_
      refine eX9_setMark_1 hC ?_
      refine eX9_setMark_2 hC ?_
      refine eX9_setMark_3 hC (Nat.le_of_ble_eq_true rfl) (Nat.le_of_ble_eq_true rfl) (Nat.le_of_ble_eq_true rfl) (by assumption) (vX9_isWord hC.nt hR e80 (by omega)) (zk_i ?_)
      rw [zBv_t q1]
      refine eX9_setMark_6 hC ?_
      refine eX9_setMark_7 hC ?_
      refine eX9_setMark_8 hC ?_
      refine eX9_setMark_9 hC (Nat.le_of_ble_eq_true rfl) (Nat.le_of_ble_eq_true rfl) (Nat.le_of_ble_eq_true rfl) (vX9_in hC.nt) (zk_i ?_)
      rw [zBv_t q2]
      refine eX9_setMark_12 hC ?_
      refine eX9_setMark_13 hC (Nat.le_of_ble_eq_true rfl) (Nat.le_of_ble_eq_true rfl) (Nat.le_of_ble_eq_true rfl) (by assumption) (vX9_goV hC.nt h0 (r := 1) (t := 0) rfl rfl (by omega) (by omega) (by omega)) (zk_v (fun μ_13 m_13 => ?_))
      subst m_13
      refine eX9_setMark_16 hC (fun _ => ?_) (fun zz => absurd zz zn10)
      refine eX9_setMark_21 hC ?_
      refine eX9_setMark_22 hC (Nat.le_of_ble_eq_true rfl) (Nat.le_of_ble_eq_true rfl) (Nat.le_of_ble_eq_true rfl) (by assumption) (vX9_saves hC.nt hR hM.up4 ho) (zk_w (fun μ_22 m_22 => ?_))
      obtain ⟨b1, b2⟩ := m_22
      have ek : μ_22 (m + 1) (40 + k) = nI (S.1 (40 + k)) := by have := (b1.1.1 k hk).2; rw [Nat.zero_add] at this; exact this
      refine eX9_setMark_25 hC ?_
      refine eX9_setMark_26 hC (by assumption) (by assumption) ?_
      refine eX9_setMark_29 hC ?_
      refine eX9_setMark_31 hC ?_
      refine eX9_setMark_32 hC ?_
      rw [nI_add]
      refine eX9_setMark_33 hC (by assumption) (vp_in_nI (by omega) (by omega)) ?_
      rw [nI_clamp (by omega), ek]
      refine eX9_setMark_34 hC ?_
      refine eX9_setMark_35 hC ?_
      refine eX9_setMark_36 hC (by assumption) (by assumption) ?_
      refine eX9_setMark_39 hC ?_
      refine eX9_setMark_41 hC ?_
      refine eX9_setMark_42 hC ?_
      rw [nI_add]
      refine eX9_setMark_43 hC ?_
      refine eX9_setMark_44 hC (by assumption) (vp_in_nI (by omega) (by omega)) ?_
      rw [nI_clamp (by omega)]
      refine eX9_setMark_45 hC ?_
      refine eX9_setMark_46 hC hQ (Nat.le_of_ble_eq_true rfl) (Nat.le_of_ble_eq_true rfl) ?_
      refine zN9.ok (e1.trans e2) (fun a j q => ?_) ?_ (b1.set (zsv_ok ho) (by omega) (by omega) (by omega))
      · rw [zup_a _ _ _ _ (by omega), b2 a j (by omega) (by omega), zup_a _ _ _ _ (by omega)]
      · rw [zup_a _ _ _ _ (by omega), b2 m 4 (by omega) (by omega), zup_self]
    · refine eX9_setMark_0 hC ?_
      refine eX9_setMark_1 hC ?_
      refine eX9_setMark_2 hC ?_
      refine eX9_setMark_3 hC (Nat.le_of_ble_eq_true rfl) (Nat.le_of_ble_eq_true rfl) (Nat.le_of_ble_eq_true rfl) (by assumption) (vX9_isWord hC.nt hR e80 (by omega)) (zk_i ?_)
      rw [zBv_t q1]
      refine eX9_setMark_6 hC ?_
      refine eX9_setMark_7 hC ?_
      refine eX9_setMark_8 hC ?_
      refine eX9_setMark_9 hC (Nat.le_of_ble_eq_true rfl) (Nat.le_of_ble_eq_true rfl) (Nat.le_of_ble_eq_true rfl) (vX9_in hC.nt) (zk_i ?_)
      rw [zBv_f q2]
      refine eX9_setMark_12 hC ?_
      refine eX9_setMark_13 hC (Nat.le_of_ble_eq_true rfl) (Nat.le_of_ble_eq_true rfl) (Nat.le_of_ble_eq_true rfl) (by assumption) (vX9_goV hC.nt h0 (b := 0) (r := 0) (t := 2) rfl rfl (by omega) (by omega) (by omega)) (zk_v (fun μ_13 m_13 => ?_))
      subst m_13
      refine eX9_setMark_16 hC (fun zz => absurd zn00 zz) (fun _ => ?_)
      refine eX9_setMark_19 hC ?_
      refine eX9_setMark_20 hC hQ (Nat.le_of_ble_eq_true rfl) (Nat.le_of_ble_eq_true rfl) ?_
      exact zN9.ex (e1.trans (if_neg q2)) (by decide) hM
  · obtain ⟨z, hz, ez⟩ := zBv_n (¬ w < nI 0 ∧ w ≤ nI 2)
    refine eX9_setMark_0 hC ?_
    refine eX9_setMark_1 hC ?_
    refine eX9_setMark_2 hC ?_
    refine eX9_setMark_3 hC (Nat.le_of_ble_eq_true rfl) (Nat.le_of_ble_eq_true rfl) (Nat.le_of_ble_eq_true rfl) (by assumption) (vX9_isWord hC.nt hR e80 (by omega)) (zk_i ?_)
    rw [zBv_f q1]
    refine eX9_setMark_6 hC ?_
    refine eX9_setMark_7 hC ?_
    refine eX9_setMark_8 hC ?_
    refine eX9_setMark_9 hC (Nat.le_of_ble_eq_true rfl) (Nat.le_of_ble_eq_true rfl) (Nat.le_of_ble_eq_true rfl) (vX9_in hC.nt) (zk_i ?_)
    rw [ez]
    refine eX9_setMark_12 hC ?_
    refine eX9_setMark_13 hC (Nat.le_of_ble_eq_true rfl) (Nat.le_of_ble_eq_true rfl) (Nat.le_of_ble_eq_true rfl) (by assumption) (vX9_goV hC.nt h0 (a := 0) (r := 0) (t := 1) rfl rfl (by omega) hz (by omega)) (zk_v (fun μ_13 m_13 => ?_))
    subst m_13
    refine eX9_setMark_16 hC (fun zz => absurd zn00 zz) (fun _ => ?_)
    refine eX9_setMark_19 hC ?_
    refine eX9_setMark_20 hC hQ (Nat.le_of_ble_eq_true rfl) (Nat.le_of_ble_eq_true rfl) ?_
    exact zN9.ex (if_neg q1) (by decide) hM
/-- a word put in: as far as k; whole -/
def zpl (μ : zF) (m n k : Nat) : zF := fun c j => if c = m + 1 ∧ ((k < j ∧ j ≤ n) ∨ (40 + k < j ∧ j ≤ 40 + n)) then μ c (j - 1) else μ c j
theorem zpl_step {μ : zF} {m n k : Nat} (h1 : 1 ≤ k) (h2 : k ≤ n) : zup (zup (zpl μ m n k) (m + 1) k (μ (m + 1) (k - 1))) (m + 1) (40 + k) (μ (m + 1) (40 + k - 1)) = zpl μ m n (k - 1) := by
  funext c j
  by_cases c1 : c = m + 1 ∧ j = 40 + k
  · obtain ⟨rfl, rfl⟩ := c1
    rw [zup_self]
    unfold zpl
    rw [if_pos (by omega)]
  · unfold zup
    rw [if_neg c1]
    by_cases c2 : c = m + 1 ∧ j = k
    · rw [if_pos c2]
      obtain ⟨rfl, rfl⟩ := c2
      unfold zpl
      rw [if_pos (by omega)]
    · rw [if_neg c2]
      unfold zpl
      by_cases c3 : c = m + 1 ∧ ((k < j ∧ j ≤ n) ∨ (40 + k < j ∧ j ≤ 40 + n))
      · rw [if_pos c3, if_pos (by omega)]
      · rw [if_neg c3, if_neg (by omega)]
def zpu (μ : zF) (m n w : Nat) (v1 v2 : Int32) : zF := zup (zup (zup (zpl μ m n w) (m + 1) w v1) (m + 1) (40 + w) v2) (m + 1) 80 (nI (n + 1))
set_option maxHeartbeats 4000000 in
theorem vX9_puts {l : Launch} {g : zG} (hl : l.stackTraces = false) {K : zK} {μ : zF} {m n w : Nat} {v1 v2 : Int32} (hR : zRef K m) (e80 : μ (m + 1) 80 = nI n) (hn : n < 40) (hw : w ≤ n) : EX9_puts l g 0 0 [.ref m, .int (nI w), .int v1, .int v2] K μ (zPw K (fun μ' => μ' = zpu μ m n w v1 v2)) := by
  obtain ⟨h0, h1, h2, h3, h4, h5, h6, h7, h8, i1, i2, i3, i4, i5, i6, i7, i8⟩ := id hR
  refine nX9_puts hl (fun x hC hQ => ?_)
  have loop : ∀ d k : Nat, w + d = k → k ≤ n → zV x 0 0 9 [some (.ref m), some (.int (nI w)), some (.int v1), some (.int v2), some (.int (nI k))] [] K (zpl μ m n k) := by
    intro d
    induction d with
    | zero =>
      intro k hk hkn
      obtain rfl : k = w := by omega
      have e80' : zup (zup (zpl μ m n k) (m + 1) k v1) (m + 1) (40 + k) v2 (m + 1) 80 = nI n := by
        rw [zup_k _ _ _ (by omega), zup_k _ _ _ (by omega)]
        unfold zpl
        rw [if_neg (by omega)]; exact e80
      refine eX9_puts_9 hC ?_
      refine eX9_puts_11 hC ?_
      refine eX9_puts_12 hC (fun _ => ?_) (fun zz => absurd (nI_le (Nat.le_refl _) (by omega)) zz)
      refine eX9_puts_59 hC ?_
      refine eX9_puts_60 hC (by assumption) (by assumption) ?_
      refine eX9_puts_63 hC ?_
      refine eX9_puts_64 hC ?_
      refine eX9_puts_65 hC (by assumption) (vp_in_nI (by omega) (by omega)) ?_
      rw [nI_clamp (by omega)]
      refine eX9_puts_66 hC ?_
      refine eX9_puts_67 hC (by assumption) (by assumption) ?_
      refine eX9_puts_70 hC ?_
      refine eX9_puts_72 hC ?_
      refine eX9_puts_73 hC ?_
      rw [nI_add]
      refine eX9_puts_74 hC ?_
      refine eX9_puts_75 hC (by assumption) (vp_in_nI (by omega) (by omega)) ?_
      rw [nI_clamp (by omega)]
      refine eX9_puts_76 hC ?_
      refine eX9_puts_77 hC (by assumption) (by assumption) ?_
      refine eX9_puts_80 hC ?_
      refine eX9_puts_82 hC ?_
      refine eX9_puts_83 hC (by assumption) (vp_in_nI (by omega) (by omega)) ?_
      rw [nI_clamp (by omega), e80']
      refine eX9_puts_84 hC ?_
      refine eX9_puts_85 hC ?_
      rw [nI_add]
      refine eX9_puts_86 hC (by assumption) (vp_in_nI (by omega) (by omega)) ?_
      rw [nI_clamp (by omega)]
      refine eX9_puts_87 hC hQ (Nat.le_of_ble_eq_true rfl) (Nat.le_of_ble_eq_true rfl) ?_
      exact ⟨rfl, rfl, rfl⟩
    | succ d ih =>
      intro k hk hkn
      have r1 : zpl μ m n k (m + 1) (k - 1) = μ (m + 1) (k - 1) := by
        unfold zpl
        rw [if_neg (by omega)]
      have r2 : zup (zpl μ m n k) (m + 1) k (μ (m + 1) (k - 1)) (m + 1) (40 + k - 1) = μ (m + 1) (40 + k - 1) := by
        rw [zup_k _ _ _ (by omega)]
        unfold zpl
        rw [if_neg (by omega)]
      have r3 := zpl_step (μ := μ) (m := m) (n := n) (k := k) (by omega) hkn
      refine eX9_puts_9 hC ?_
      refine eX9_puts_11 hC ?_
      refine eX9_puts_12 hC (fun zz => absurd zz (nI_ge (by omega) (by omega))) (fun _ => ?_)
      refine eX9_puts_15 hC ?_
      refine eX9_puts_16 hC (by assumption) (by assumption) ?_
      refine eX9_puts_19 hC ?_
      refine eX9_puts_21 hC ?_
      refine eX9_puts_22 hC (by assumption) (by assumption) ?_
      refine eX9_puts_25 hC ?_
      refine eX9_puts_27 hC ?_
      refine eX9_puts_28 hC ?_
      rw [nI_sub (by omega)]
      refine eX9_puts_29 hC (by assumption) (vp_in_nI (by omega) (by omega)) ?_
      rw [nI_clamp (by omega), r1]
      refine eX9_puts_30 hC (by assumption) (vp_in_nI (by omega) (by omega)) ?_
      rw [nI_clamp (by omega)]
      refine eX9_puts_31 hC ?_
      refine eX9_puts_32 hC (by assumption) (by assumption) ?_
      refine eX9_puts_35 hC ?_
      refine eX9_puts_37 hC ?_
      refine eX9_puts_39 hC ?_
      rw [nI_add]
      refine eX9_puts_40 hC ?_
      refine eX9_puts_41 hC (by assumption) (by assumption) ?_
      refine eX9_puts_44 hC ?_
      refine eX9_puts_46 hC ?_
      refine eX9_puts_48 hC ?_
      rw [nI_add]
      refine eX9_puts_49 hC ?_
      refine eX9_puts_50 hC ?_
      rw [nI_sub (by omega)]
      refine eX9_puts_51 hC (by assumption) (vp_in_nI (by omega) (by omega)) ?_
      rw [nI_clamp (by omega), r2]
      refine eX9_puts_52 hC (by assumption) (vp_in_nI (by omega) (by omega)) ?_
      rw [nI_clamp (by omega)]
      rw [r3]
      refine eX9_puts_53 hC ?_
      rw [nI_sub (by omega)]
      refine eX9_puts_56 hC ?_
      exact ih (k - 1) (by omega) (by omega)
  refine eX9_puts_0 hC ?_
  refine eX9_puts_1 hC (by assumption) (by assumption) ?_
  refine eX9_puts_4 hC ?_
  refine eX9_puts_6 hC (by assumption) (vp_in_nI (by omega) (by omega)) ?_
  rw [nI_clamp (by omega), e80]
  refine eX9_puts_7 hC ?_
  refine zV.mu ?_ (loop (n - w) n (by omega) (Nat.le_refl _))
  funext c j
  unfold zpl
  rw [if_neg (by omega)]
theorem zpu_sb {μ : zF} {m w v1 v2 : Nat} {τ : Nat → Nat} (h : zSb μ (m + 1) 0 τ) (hn : τ 80 < 40) (hw : w ≤ τ 80) : zSb (zpu μ m (τ 80) w (nI v1) (nI v2)) (m + 1) 0 (zIns τ w v1 v2) := by
  have e80 : zIns τ w v1 v2 80 = τ 80 + 1 := rfl
  refine ⟨fun j hj => ⟨?_, ?_⟩, fun j j1 j2 => ?_⟩
  · rw [e80] at hj
    rw [Nat.zero_add]
    have g1 := fun q => (h.1 j q).1
    have g2 := fun q => (h.1 (j - 1) q).1
    rw [Nat.zero_add] at g1 g2
    unfold zpu
    rw [zup_k _ _ _ (by omega), zup_k _ _ _ (by omega)]
    by_cases c : j = w
    · subst c
      rw [zup_self]
      unfold zIns
      rw [if_pos (by omega), if_neg (by omega), if_pos rfl]
    · rw [zup_k _ _ _ c]
      unfold zpl zIns
      rw [if_pos (show j < 40 by omega)]
      by_cases c2 : j < w
      · rw [if_neg (by omega), if_pos c2]; exact g1 (by omega)
      · rw [if_pos (by omega), if_neg c2, if_neg c]; exact g2 (by omega)
  · rw [e80] at hj
    rw [Nat.zero_add]
    have g1 := fun q => (h.1 j q).2
    have g2 := fun q => (h.1 (j - 1) q).2
    rw [Nat.zero_add] at g1 g2
    unfold zpu
    rw [zup_k _ _ _ (by omega)]
    by_cases c : j = w
    · subst c
      rw [zup_self]
      unfold zIns
      rw [if_neg (by omega), if_pos (by omega), if_neg (by omega), if_pos rfl]
    · rw [zup_k _ _ _ (by omega), zup_k _ _ _ (by omega)]
      unfold zpl zIns
      rw [if_neg (show ¬ 40 + j < 40 by omega), if_pos (show 40 + j < 80 by omega)]
      by_cases c2 : j < w
      · rw [if_neg (by omega), if_pos (by omega)]; exact g1 (by omega)
      · rw [if_pos (by omega), if_neg (by omega), if_neg (by omega), show 40 + j - 1 = 40 + (j - 1) by omega]; exact g2 (by omega)
  · rw [Nat.zero_add]
    have g1 := h.2 j j1 j2
    rw [Nat.zero_add] at g1
    unfold zpu
    by_cases c : j = 80
    · subst c
      rw [zup_self]; rfl
    · rw [zup_k _ _ _ c, zup_k _ _ _ (by omega), zup_k _ _ _ (by omega)]
      unfold zpl zIns
      rw [if_neg (by omega), if_neg (by omega), if_neg (by omega), if_neg c]; exact g1
theorem zpu_far {μ : zF} {m n w a j : Nat} {v1 v2 : Int32} (hn : n < 40) (hw : w ≤ n) (h : a ≠ m + 1 ∨ 81 ≤ j) : zpu μ m n w v1 v2 a j = μ a j := by
  unfold zpu
  have e : ∀ (μ1 : zF) (k : Nat) (v : Int32), k ≤ 80 → zup μ1 (m + 1) k v a j = μ1 a j := fun μ1 k v hk => by
    unfold zup
    rw [if_neg (by omega)]
  rw [e _ _ _ (by omega), e _ _ _ (by omega), e _ _ _ (by omega)]
  unfold zpl
  rw [if_neg (by omega)]
theorem zM9.puts {μ : zF} {m w v1 v2 : Nat} {S : zMs} (h : zM9 μ m S) (ho : zMok S) (hn : S.1 80 < 40) (hw : w ≤ S.1 80) : zM9 (zpu μ m (S.1 80) w (nI v1) (nI v2)) m (zIns S.1 w v1 v2, S.2) := by
  obtain ⟨a1, a2, a3, a4, a5, a6⟩ := h
  exact ⟨zpu_sb a1 hn hw, (zpu_far hn hw (Or.inl (by omega))).trans a2, fun i hi => (a3 i hi).of (ho.2.2.1 i hi).1 (fun j hj => zpu_far hn hw (Or.inr (by omega))), (zpu_far hn hw (Or.inl (by omega))).trans a4, fun i hi => (zpu_far hn hw (Or.inl (by omega))).trans (a5 i hi), (zpu_far hn hw (Or.inl (by omega))).trans a6⟩
set_option maxHeartbeats 4000000 in
theorem vX9_insert {l : Launch} {g : zG} (hl : l.stackTraces = false) {K : zK} {μ : zF} {m : Nat} {S : zMs} {i : Int32} {w : Int32} (hR : zRef K m) (hM : zM9 μ m S) (ho : zMok S) : EX9_insert l g 0 0 [.ref m, .int i, .int w] K μ (zN9 zcIAS (zdo_insert i w S) K μ m S) := by
  obtain ⟨h0, h1, h2, h3, h4, h5, h6, h7, h8, i1, i2, i3, i4, i5, i6, i7, i8⟩ := id hR
  obtain ⟨a1, a2, a3, a4, a5, a6⟩ := id hM
  have o80 := ho.1.1
  have e80 : μ (m + 1) 80 = nI (S.1 80) := by have := a1.2 80 (by omega) (by omega); rwa [Nat.zero_add] at this
  refine nX9_insert hl (fun x hC hQ => ?_)
  have ei : ∀ f, zix i (S.1 80 + 1) f = zix i (S.1 80 + 1) f := fun _ => rfl
  by_cases q1 : ¬ i < nI 0 ∧ i ≤ nI (S.1 80)
  · have q1' : ¬ i < 0 ∧ i < nI (S.1 80 + 1) := ⟨by have := q1.1; rwa [nI_0] at this, (zle2 (by omega)).mp q1.2⟩
    obtain ⟨k, rfl, hk, e1⟩ := zix_in (f := fun k => zrg w 1 30 (fun v => if 40 ≤ S.1 80 then .inr zxS else .inl (nI (S.1 80 + 1), zcg S (zIns S.1 k v 0)))) (by omega) q1'
    by_cases q2 : ¬ w < nI 1 ∧ w ≤ nI 30
    · obtain ⟨v, rfl, v1, v2, e2⟩ := zrg_in (f := fun v => if 40 ≤ S.1 80 then (.inr zxS : zOu) else .inl (nI (S.1 80 + 1), zcg S (zIns S.1 k v 0))) (by omega) (by omega) q2
      by_cases q3 : 40 ≤ S.1 80
      · refine eX9_insert_0 hC ?_
        refine eX9_insert_1 hC ?_
        refine eX9_insert_2 hC ?_
        refine eX9_insert_3 hC ?_
        refine eX9_insert_4 hC (by assumption) (by assumption) ?_
        refine eX9_insert_7 hC ?_
        refine eX9_insert_9 hC (by assumption) (vp_in_nI (by omega) (by omega)) ?_
        rw [nI_clamp (by omega), e80]
        refine eX9_insert_10 hC (Nat.le_of_ble_eq_true rfl) (Nat.le_of_ble_eq_true rfl) (Nat.le_of_ble_eq_true rfl) (vX9_in hC.nt) (zk_i ?_)
        rw [zBv_t q1]
        refine eX9_insert_13 hC ?_
        refine eX9_insert_14 hC ?_
        refine eX9_insert_15 hC ?_
        refine eX9_insert_17 hC (Nat.le_of_ble_eq_true rfl) (Nat.le_of_ble_eq_true rfl) (Nat.le_of_ble_eq_true rfl) (vX9_in hC.nt) (zk_i ?_)
        rw [zBv_t q2]
        refine eX9_insert_20 hC ?_
        refine eX9_insert_21 hC (by assumption) (by assumption) ?_
        refine eX9_insert_24 hC ?_
        refine eX9_insert_26 hC (by assumption) (vp_in_nI (by omega) (by omega)) ?_
        rw [nI_clamp (by omega), e80]
        refine eX9_insert_27 hC ?_
        refine eX9_insert_29 hC (fun _ => ?_) (fun zz => absurd (nI_le q3 (by omega)) zz)
        refine eX9_insert_36 hC ?_
        refine eX9_insert_37 hC (Nat.le_of_ble_eq_true rfl) (Nat.le_of_ble_eq_true rfl) (Nat.le_of_ble_eq_true rfl) (by assumption) (vX9_goV hC.nt h0 (c := 0) (r := 0) (t := 3) rfl rfl (by omega) (by omega) (by omega)) (zk_v (fun μ_37 m_37 => ?_))
        subst m_37
        refine eX9_insert_40 hC (fun zz => absurd zn00 zz) (fun _ => ?_)
        refine eX9_insert_43 hC ?_
        refine eX9_insert_44 hC hQ (Nat.le_of_ble_eq_true rfl) (Nat.le_of_ble_eq_true rfl) ?_
        exact zN9.ex ((e1.trans e2).trans (if_pos q3)) (by decide) hM
      · have e80s : ∀ μ1, zM9 μ1 m (zsv S) → μ1 (m + 1) 80 = nI (S.1 80) := fun μ1 b => by have := b.1.2 80 (by omega) (by omega); rw [Nat.zero_add] at this; exact this
        refine eX9_insert_0 hC ?_
        refine eX9_insert_1 hC ?_
        refine eX9_insert_2 hC ?_
        refine eX9_insert_3 hC ?_
        refine eX9_insert_4 hC (by assumption) (by assumption) ?_
        refine eX9_insert_7 hC ?_
        refine eX9_insert_9 hC (by assumption) (vp_in_nI (by omega) (by omega)) ?_
        rw [nI_clamp (by omega), e80]
        refine eX9_insert_10 hC (Nat.le_of_ble_eq_true rfl) (Nat.le_of_ble_eq_true rfl) (Nat.le_of_ble_eq_true rfl) (vX9_in hC.nt) (zk_i ?_)
        rw [zBv_t q1]
        refine eX9_insert_13 hC ?_
        refine eX9_insert_14 hC ?_
        refine eX9_insert_15 hC ?_
        refine eX9_insert_17 hC (Nat.le_of_ble_eq_true rfl) (Nat.le_of_ble_eq_true rfl) (Nat.le_of_ble_eq_true rfl) (vX9_in hC.nt) (zk_i ?_)
        rw [zBv_t q2]
        refine eX9_insert_20 hC ?_
        refine eX9_insert_21 hC (by assumption) (by assumption) ?_
        refine eX9_insert_24 hC ?_
        refine eX9_insert_26 hC (by assumption) (vp_in_nI (by omega) (by omega)) ?_
        rw [nI_clamp (by omega), e80]
        refine eX9_insert_27 hC ?_
        refine eX9_insert_29 hC (fun zz => absurd zz (nI_ge (by omega) (by omega))) (fun _ => ?_)
        refine eX9_insert_32 hC ?_
        refine eX9_insert_33 hC ?_
        refine eX9_insert_37 hC (Nat.le_of_ble_eq_true rfl) (Nat.le_of_ble_eq_true rfl) (Nat.le_of_ble_eq_true rfl) (by assumption) (vX9_goV hC.nt h0 (r := 1) (t := 0) rfl rfl (by omega) (by omega) (by omega)) (zk_v (fun μ_37 m_37 => ?_))
        subst m_37
        refine eX9_insert_40 hC (fun _ => ?_) (fun zz => absurd zz zn10)
        refine eX9_insert_45 hC ?_
        refine eX9_insert_46 hC (Nat.le_of_ble_eq_true rfl) (Nat.le_of_ble_eq_true rfl) (Nat.le_of_ble_eq_true rfl) (by assumption) (vX9_saves hC.nt hR hM.up4 ho) (zk_w (fun μ_46 m_46 => ?_))
        obtain ⟨b1, b2⟩ := m_46
        refine eX9_insert_49 hC ?_
        refine eX9_insert_50 hC ?_
        refine eX9_insert_51 hC ?_
        refine eX9_insert_52 hC ?_
        refine eX9_insert_53 hC (Nat.le_of_ble_eq_true rfl) (Nat.le_of_ble_eq_true rfl) (Nat.le_of_ble_eq_true rfl) (by assumption) (vX9_puts hC.nt hR (e80s _ b1) (by omega) (by omega)) (zk_w (fun μ_53 m_53 => ?_))
        subst m_53
        have g1 := b1.puts (w := k) (v1 := v) (v2 := 0) (zsv_ok ho) (show S.1 80 < 40 by omega) (show k ≤ S.1 80 by omega)
        have g2 : zpu μ_46 m (S.1 80) k (nI v) (nI 0) (m + 1) 80 = nI (S.1 80 + 1) := zup_self _ _ _ _
        refine eX9_insert_56 hC ?_
        refine eX9_insert_57 hC (by assumption) (by assumption) ?_
        refine eX9_insert_60 hC ?_
        refine eX9_insert_62 hC (by assumption) (vp_in_nI (by omega) (by omega)) ?_
        rw [nI_clamp (by omega), g2]
        refine eX9_insert_63 hC hQ (Nat.le_of_ble_eq_true rfl) (Nat.le_of_ble_eq_true rfl) ?_
        refine zN9.ok ((e1.trans e2).trans (if_neg q3)) (fun a j q => ?_) ?_ g1
        · rw [zpu_far (by omega) (by omega) (Or.inl (by omega)), b2 a j (by omega) (by omega), zup_a _ _ _ _ (by omega)]
        · rw [zpu_far (by omega) (by omega) (Or.inl (by omega)), b2 m 4 (by omega) (by omega), zup_self]
    · refine eX9_insert_0 hC ?_
      refine eX9_insert_1 hC ?_
      refine eX9_insert_2 hC ?_
      refine eX9_insert_3 hC ?_
      refine eX9_insert_4 hC (by assumption) (by assumption) ?_
      refine eX9_insert_7 hC ?_
      refine eX9_insert_9 hC (by assumption) (vp_in_nI (by omega) (by omega)) ?_
      rw [nI_clamp (by omega), e80]
      refine eX9_insert_10 hC (Nat.le_of_ble_eq_true rfl) (Nat.le_of_ble_eq_true rfl) (Nat.le_of_ble_eq_true rfl) (vX9_in hC.nt) (zk_i ?_)
      rw [zBv_t q1]
      refine eX9_insert_13 hC ?_
      refine eX9_insert_14 hC ?_
      refine eX9_insert_15 hC ?_
      refine eX9_insert_17 hC (Nat.le_of_ble_eq_true rfl) (Nat.le_of_ble_eq_true rfl) (Nat.le_of_ble_eq_true rfl) (vX9_in hC.nt) (zk_i ?_)
      rw [zBv_f q2]
      refine eX9_insert_20 hC ?_
      refine eX9_insert_21 hC (by assumption) (by assumption) ?_
      refine eX9_insert_24 hC ?_
      refine eX9_insert_26 hC (by assumption) (vp_in_nI (by omega) (by omega)) ?_
      rw [nI_clamp (by omega), e80]
      refine eX9_insert_27 hC ?_
      refine eX9_insert_29 hC (fun c_29 => ?_) (fun c_29 => ?_)
      · refine eX9_insert_36 hC ?_
        refine eX9_insert_37 hC (Nat.le_of_ble_eq_true rfl) (Nat.le_of_ble_eq_true rfl) (Nat.le_of_ble_eq_true rfl) (by assumption) (vX9_goV hC.nt h0 (b := 0) (r := 0) (t := 2) rfl rfl (by omega) (by omega) (by omega)) (zk_v (fun μ_37 m_37 => ?_))
        subst m_37
        refine eX9_insert_40 hC (fun zz => absurd zn00 zz) (fun _ => ?_)
        refine eX9_insert_43 hC ?_
        refine eX9_insert_44 hC hQ (Nat.le_of_ble_eq_true rfl) (Nat.le_of_ble_eq_true rfl) ?_
        exact zN9.ex (e1.trans (if_neg q2)) (by decide) hM
      · refine eX9_insert_32 hC ?_
        refine eX9_insert_33 hC ?_
        refine eX9_insert_37 hC (Nat.le_of_ble_eq_true rfl) (Nat.le_of_ble_eq_true rfl) (Nat.le_of_ble_eq_true rfl) (by assumption) (vX9_goV hC.nt h0 (b := 0) (r := 0) (t := 2) rfl rfl (by omega) (by omega) (by omega)) (zk_v (fun μ_37 m_37 => ?_))
        subst m_37
        refine eX9_insert_40 hC (fun zz => absurd zn00 zz) (fun _ => ?_)
        refine eX9_insert_43 hC ?_
        refine eX9_insert_44 hC hQ (Nat.le_of_ble_eq_true rfl) (Nat.le_of_ble_eq_true rfl) ?_
        exact zN9.ex (e1.trans (if_neg q2)) (by decide) hM
  · have q1' : ¬ (¬ i < 0 ∧ i < nI (S.1 80 + 1)) := fun q => q1 ⟨by rw [nI_0]; exact q.1, (zle2 (by omega)).mpr q.2⟩
    obtain ⟨z, hz, ez⟩ := zBv_n (¬ w < nI 1 ∧ w ≤ nI 30)
    refine eX9_insert_0 hC ?_
    refine eX9_insert_1 hC ?_
    refine eX9_insert_2 hC ?_
    refine eX9_insert_3 hC ?_
    refine eX9_insert_4 hC (by assumption) (by assumption) ?_
    refine eX9_insert_7 hC ?_
    refine eX9_insert_9 hC (by assumption) (vp_in_nI (by omega) (by omega)) ?_
    rw [nI_clamp (by omega), e80]
    refine eX9_insert_10 hC (Nat.le_of_ble_eq_true rfl) (Nat.le_of_ble_eq_true rfl) (Nat.le_of_ble_eq_true rfl) (vX9_in hC.nt) (zk_i ?_)
    rw [zBv_f q1]
    refine eX9_insert_13 hC ?_
    refine eX9_insert_14 hC ?_
    refine eX9_insert_15 hC ?_
    refine eX9_insert_17 hC (Nat.le_of_ble_eq_true rfl) (Nat.le_of_ble_eq_true rfl) (Nat.le_of_ble_eq_true rfl) (vX9_in hC.nt) (zk_i ?_)
    rw [ez]
    refine eX9_insert_20 hC ?_
    refine eX9_insert_21 hC (by assumption) (by assumption) ?_
    refine eX9_insert_24 hC ?_
    refine eX9_insert_26 hC (by assumption) (vp_in_nI (by omega) (by omega)) ?_
    rw [nI_clamp (by omega), e80]
    refine eX9_insert_27 hC ?_
    refine eX9_insert_29 hC (fun c_29 => ?_) (fun c_29 => ?_)
    · refine eX9_insert_36 hC ?_
      refine eX9_insert_37 hC (Nat.le_of_ble_eq_true rfl) (Nat.le_of_ble_eq_true rfl) (Nat.le_of_ble_eq_true rfl) (by assumption) (vX9_goV hC.nt h0 (a := 0) (r := 0) (t := 1) rfl rfl (by omega) hz (by omega)) (zk_v (fun μ_37 m_37 => ?_))
      subst m_37
      refine eX9_insert_40 hC (fun zz => absurd zn00 zz) (fun _ => ?_)
      refine eX9_insert_43 hC ?_
      refine eX9_insert_44 hC hQ (Nat.le_of_ble_eq_true rfl) (Nat.le_of_ble_eq_true rfl) ?_
      exact zN9.ex (if_neg q1') (by decide) hM
    · refine eX9_insert_32 hC ?_
      refine eX9_insert_33 hC ?_
      refine eX9_insert_37 hC (Nat.le_of_ble_eq_true rfl) (Nat.le_of_ble_eq_true rfl) (Nat.le_of_ble_eq_true rfl) (by assumption) (vX9_goV hC.nt h0 (a := 0) (r := 0) (t := 1) rfl rfl (by omega) hz (by omega)) (zk_v (fun μ_37 m_37 => ?_))
      subst m_37
      refine eX9_insert_40 hC (fun zz => absurd zn00 zz) (fun _ => ?_)
      refine eX9_insert_43 hC ?_
      refine eX9_insert_44 hC hQ (Nat.le_of_ble_eq_true rfl) (Nat.le_of_ble_eq_true rfl) ?_
      exact zN9.ex (if_neg q1') (by decide) hM
def zrl (μ : zF) (m w k : Nat) : zF := fun c j => if c = m + 1 ∧ ((w ≤ j ∧ j < k) ∨ (40 + w ≤ j ∧ j < 40 + k)) then μ c (j + 1) else μ c j
theorem zrl_step {μ : zF} {m w k : Nat} (h1 : w ≤ k) (h2 : k < 40) : zup (zup (zrl μ m w k) (m + 1) k (μ (m + 1) (k + 1))) (m + 1) (40 + k) (μ (m + 1) (40 + k + 1)) = zrl μ m w (k + 1) := by
  funext c j
  by_cases c1 : c = m + 1 ∧ j = 40 + k
  · obtain ⟨rfl, rfl⟩ := c1
    rw [zup_self]
    unfold zrl
    rw [if_pos (by omega)]
  · unfold zup
    rw [if_neg c1]
    by_cases c2 : c = m + 1 ∧ j = k
    · rw [if_pos c2]
      obtain ⟨rfl, rfl⟩ := c2
      unfold zrl
      rw [if_pos (by omega)]
    · rw [if_neg c2]
      unfold zrl
      by_cases c3 : c = m + 1 ∧ ((w ≤ j ∧ j < k) ∨ (40 + w ≤ j ∧ j < 40 + k))
      · rw [if_pos c3, if_pos (by omega)]
      · rw [if_neg c3, if_neg (by omega)]
theorem zrl_far {μ : zF} {m w k a j : Nat} (hk : k ≤ 40) (h : a ≠ m + 1 ∨ 80 ≤ j) : zrl μ m w k a j = μ a j := by
  unfold zrl
  rw [if_neg (by omega)]
theorem zrl_sb {μ : zF} {m w n : Nat} {τ : Nat → Nat} (h : zSb μ (m + 1) 0 τ) (hn : τ 80 = n + 1) (h40 : τ 80 ≤ 40) (hw : w ≤ n) : zSb (zrl (zup μ (m + 1) 80 (nI n)) m w n) (m + 1) 0 (zDrp τ w) := by
  have e80 : zDrp τ w 80 = n := by
    show τ 80 - 1 = n
    omega
  refine ⟨fun j hj => ⟨?_, ?_⟩, fun j j1 j2 => ?_⟩
  · rw [e80] at hj
    rw [Nat.zero_add]
    have g1 := fun q => (h.1 j q).1
    have g2 := fun q => (h.1 (j + 1) q).1
    rw [Nat.zero_add] at g1 g2
    unfold zrl zDrp
    rw [if_pos (show j < 40 by omega)]
    by_cases c : j < w
    · rw [if_neg (by omega), if_pos c, zup_k _ _ _ (by omega)]; exact g1 (by omega)
    · rw [if_pos (by omega), if_neg c, if_pos (by omega), zup_k _ _ _ (by omega)]; exact g2 (by omega)
  · rw [e80] at hj
    rw [Nat.zero_add]
    have g1 := fun q => (h.1 j q).2
    have g2 := fun q => (h.1 (j + 1) q).2
    rw [Nat.zero_add] at g1 g2
    unfold zrl zDrp
    rw [if_neg (show ¬ 40 + j < 40 by omega), if_pos (show 40 + j < 80 by omega)]
    by_cases c : j < w
    · rw [if_neg (by omega), if_pos (by omega), zup_k _ _ _ (by omega)]; exact g1 (by omega)
    · rw [if_pos (by omega), if_neg (by omega), if_pos (by omega), zup_k _ _ _ (by omega), show 40 + j + 1 = 40 + (j + 1) by omega]; exact g2 (by omega)
  · rw [Nat.zero_add]
    have g1 := h.2 j j1 j2
    rw [Nat.zero_add] at g1
    rw [zrl_far (by omega) (Or.inr (by omega))]
    unfold zDrp
    by_cases c : j = 80
    · subst c
      rw [zup_self, if_neg (by omega), if_neg (by omega), if_pos rfl, show τ 80 - 1 = n by omega]
    · rw [zup_k _ _ _ c, if_neg (by omega), if_neg (by omega), if_neg c]; exact g1
theorem zM9.drop {μ : zF} {m w n : Nat} {S : zMs} (h : zM9 μ m S) (ho : zMok S) (hn : S.1 80 = n + 1) (hw : w ≤ n) : zM9 (zrl (zup μ (m + 1) 80 (nI n)) m w n) m (zDrp S.1 w, S.2) := by
  have h40 := ho.1.1
  obtain ⟨a1, a2, a3, a4, a5, a6⟩ := h
  exact ⟨zrl_sb a1 hn ho.1.1 hw, ((zrl_far (by omega) (Or.inl (by omega))).trans (zup_a _ _ _ _ (by omega))).trans a2, fun i hi => (a3 i hi).of (ho.2.2.1 i hi).1 (fun j hj => (zrl_far (by omega) (Or.inr (by omega))).trans (zup_k _ _ _ (by omega))), ((zrl_far (by omega) (Or.inl (by omega))).trans (zup_a _ _ _ _ (by omega))).trans a4, fun i hi => ((zrl_far (by omega) (Or.inl (by omega))).trans (zup_a _ _ _ _ (by omega))).trans (a5 i hi), ((zrl_far (by omega) (Or.inl (by omega))).trans (zup_a _ _ _ _ (by omega))).trans a6⟩
set_option maxHeartbeats 4000000 in
theorem vX9_remove {l : Launch} {g : zG} (hl : l.stackTraces = false) {K : zK} {μ : zF} {m : Nat} {S : zMs} {i : Int32} (hR : zRef K m) (hM : zM9 μ m S) (ho : zMok S) : EX9_remove l g 0 0 [.ref m, .int i] K μ (zN9 zc1 (zdo_remove i S) K μ m S) := by
  obtain ⟨h0, h1, h2, h3, h4, h5, h6, h7, h8, i1, i2, i3, i4, i5, i6, i7, i8⟩ := id hR
  obtain ⟨a1, a2, a3, a4, a5, a6⟩ := id hM
  have o80 := ho.1.1
  have e80 : μ (m + 1) 80 = nI (S.1 80) := by have := a1.2 80 (by omega) (by omega); rwa [Nat.zero_add] at this
  refine nX9_remove hl (fun x hC hQ => ?_)
  by_cases q : ¬ i < 0 ∧ i < nI (S.1 80)
  · obtain ⟨w, rfl, hw, e⟩ := zix_in (f := fun k => .inl (nI (S.1 k), zcg S (zDrp S.1 k))) (by omega) q
    obtain ⟨n, hn⟩ : ∃ n, S.1 80 = n + 1 := ⟨S.1 80 - 1, by omega⟩
    have loop : ∀ (μ1 : zF), zM9 μ1 m (zsv S) → (∀ a j, ¬ (a = m ∧ j = 1) → ¬ (a = m + 1 ∧ 88 ≤ j) → μ1 a j = zup μ m 4 (nI 0) a j) → ∀ d k : Nat, k + d = n → w ≤ k → zV x 0 0 40 [some (.ref m), some (.int (nI w)), some (.int (nI (S.1 w))), some (.int (nI k))] [] K (zrl (zup μ1 (m + 1) 80 (nI n)) m w k) := by
      intro μ1 b1 b2 d
      induction d with
      | zero =>
        intro k hk hwk
        obtain rfl : k = n := by omega
        have ek : zrl (zup μ1 (m + 1) 80 (nI k)) m w k (m + 1) 80 = nI k := by rw [zrl_far (by omega) (Or.inr (by omega)), zup_self]
        refine eX9_remove_40 hC ?_
        refine eX9_remove_41 hC ?_
        refine eX9_remove_42 hC (by assumption) (by assumption) ?_
        refine eX9_remove_45 hC ?_
        refine eX9_remove_47 hC (by assumption) (vp_in_nI (by omega) (by omega)) ?_
        rw [nI_clamp (by omega), ek]
        refine eX9_remove_48 hC (fun _ => ?_) (fun zz => absurd (nI_le (Nat.le_refl _) (by omega)) zz)
        refine eX9_remove_91 hC ?_
        refine eX9_remove_92 hC hQ (Nat.le_of_ble_eq_true rfl) (Nat.le_of_ble_eq_true rfl) ?_
        refine zN9.ok e (fun a j q => ?_) ?_ (b1.drop (zsv_ok ho) hn (by omega))
        · rw [zrl_far (by omega) (Or.inl (by omega)), zup_a _ _ _ _ (by omega), b2 a j (by omega) (by omega), zup_a _ _ _ _ (by omega)]
        · rw [zrl_far (by omega) (Or.inl (by omega)), zup_a _ _ _ _ (by omega), b2 m 4 (by omega) (by omega), zup_self]
      | succ d ih =>
        intro k hk hwk
        have ek : zrl (zup μ1 (m + 1) 80 (nI n)) m w k (m + 1) 80 = nI n := by rw [zrl_far (by omega) (Or.inr (by omega)), zup_self]
        generalize hμ2 : zup μ1 (m + 1) 80 (nI n) = μ2 at ek
        have r1 : zrl μ2 m w k (m + 1) (k + 1) = μ2 (m + 1) (k + 1) := by
          unfold zrl
          rw [if_neg (by omega)]
        have r2 : zup (zrl μ2 m w k) (m + 1) k (μ2 (m + 1) (k + 1)) (m + 1) (40 + k + 1) = μ2 (m + 1) (40 + k + 1) := by
          rw [zup_k _ _ _ (by omega)]
          unfold zrl
          rw [if_neg (by omega)]
        have r3 := zrl_step (μ := μ2) (m := m) (w := w) (k := k) hwk (by omega)
        refine eX9_remove_40 hC ?_
        refine eX9_remove_41 hC ?_
        refine eX9_remove_42 hC (by assumption) (by assumption) ?_
        refine eX9_remove_45 hC ?_
        refine eX9_remove_47 hC (by assumption) (vp_in_nI (by omega) (by omega)) ?_
        rw [nI_clamp (by omega), ek]
        refine eX9_remove_48 hC (fun zz => absurd zz (nI_ge (by omega) (by omega))) (fun _ => ?_)
        refine eX9_remove_51 hC ?_
        refine eX9_remove_52 hC (by assumption) (by assumption) ?_
        refine eX9_remove_55 hC ?_
        refine eX9_remove_56 hC ?_
        refine eX9_remove_57 hC (by assumption) (by assumption) ?_
        refine eX9_remove_60 hC ?_
        refine eX9_remove_61 hC ?_
        refine eX9_remove_62 hC ?_
        rw [nI_add]
        refine eX9_remove_63 hC (by assumption) (vp_in_nI (by omega) (by omega)) ?_
        rw [nI_clamp (by omega), r1]
        refine eX9_remove_64 hC (by assumption) (vp_in_nI (by omega) (by omega)) ?_
        rw [nI_clamp (by omega)]
        refine eX9_remove_65 hC ?_
        refine eX9_remove_66 hC (by assumption) (by assumption) ?_
        refine eX9_remove_69 hC ?_
        refine eX9_remove_71 hC ?_
        refine eX9_remove_72 hC ?_
        rw [nI_add]
        refine eX9_remove_73 hC ?_
        refine eX9_remove_74 hC (by assumption) (by assumption) ?_
        refine eX9_remove_77 hC ?_
        refine eX9_remove_79 hC ?_
        refine eX9_remove_80 hC ?_
        rw [nI_add]
        refine eX9_remove_81 hC ?_
        refine eX9_remove_82 hC ?_
        rw [nI_add]
        refine eX9_remove_83 hC (by assumption) (vp_in_nI (by omega) (by omega)) ?_
        rw [nI_clamp (by omega), r2]
        refine eX9_remove_84 hC (by assumption) (vp_in_nI (by omega) (by omega)) ?_
        rw [nI_clamp (by omega)]
        rw [r3]
        refine eX9_remove_85 hC ?_
        rw [nI_add]
        refine eX9_remove_88 hC ?_
        rw [← hμ2]
        exact ih (k + 1) (by omega) (by omega)
    refine eX9_remove_0 hC ?_
    refine eX9_remove_1 hC ?_
    refine eX9_remove_2 hC ?_
    refine eX9_remove_3 hC (Nat.le_of_ble_eq_true rfl) (Nat.le_of_ble_eq_true rfl) (Nat.le_of_ble_eq_true rfl) (by assumption) (vX9_isWord hC.nt hR e80 (by omega)) (zk_i ?_)
    rw [zBv_t q]
    refine eX9_remove_6 hC ?_
    refine eX9_remove_7 hC ?_
    refine eX9_remove_8 hC (Nat.le_of_ble_eq_true rfl) (Nat.le_of_ble_eq_true rfl) (Nat.le_of_ble_eq_true rfl) (by assumption) (vX9_goV hC.nt h0 (r := 1) (t := 0) rfl rfl (by omega) (by omega) (by omega)) (zk_v (fun μ_8 m_8 => ?_))
    subst m_8
    refine eX9_remove_11 hC (fun _ => ?_) (fun zz => absurd zz zn10)
    refine eX9_remove_16 hC ?_
    refine eX9_remove_17 hC (Nat.le_of_ble_eq_true rfl) (Nat.le_of_ble_eq_true rfl) (Nat.le_of_ble_eq_true rfl) (by assumption) (vX9_saves hC.nt hR hM.up4 ho) (zk_w (fun μ_17 m_17 => ?_))
    obtain ⟨b1, b2⟩ := m_17
    have ew : μ_17 (m + 1) w = nI (S.1 w) := by have := (b1.1.1 w hw).1; rw [Nat.zero_add] at this; exact this
    have en : μ_17 (m + 1) 80 = nI (n + 1) := by have := b1.1.2 80 (by omega) (by omega); rw [Nat.zero_add] at this; rw [← hn]; exact this
    refine eX9_remove_20 hC ?_
    refine eX9_remove_21 hC (by assumption) (by assumption) ?_
    refine eX9_remove_24 hC ?_
    refine eX9_remove_25 hC (by assumption) (vp_in_nI (by omega) (by omega)) ?_
    rw [nI_clamp (by omega), ew]
    refine eX9_remove_26 hC ?_
    refine eX9_remove_27 hC ?_
    refine eX9_remove_28 hC (by assumption) (by assumption) ?_
    refine eX9_remove_31 hC ?_
    refine eX9_remove_33 hC ?_
    refine eX9_remove_34 hC (by assumption) (vp_in_nI (by omega) (by omega)) ?_
    rw [nI_clamp (by omega), en]
    refine eX9_remove_35 hC ?_
    refine eX9_remove_36 hC ?_
    rw [nI_sub (by omega), Nat.add_sub_cancel]
    refine eX9_remove_37 hC (by assumption) (vp_in_nI (by omega) (by omega)) ?_
    rw [nI_clamp (by omega)]
    refine eX9_remove_38 hC ?_
    refine eX9_remove_39 hC ?_
    refine zV.mu ?_ (loop μ_17 b1 b2 (n - w) w (by omega) (Nat.le_refl _))
    funext c j
    unfold zrl
    rw [if_neg (by omega)]
  · refine eX9_remove_0 hC ?_
    refine eX9_remove_1 hC ?_
    refine eX9_remove_2 hC ?_
    refine eX9_remove_3 hC (Nat.le_of_ble_eq_true rfl) (Nat.le_of_ble_eq_true rfl) (Nat.le_of_ble_eq_true rfl) (by assumption) (vX9_isWord hC.nt hR e80 (by omega)) (zk_i ?_)
    rw [zBv_f q]
    refine eX9_remove_6 hC ?_
    refine eX9_remove_7 hC ?_
    refine eX9_remove_8 hC (Nat.le_of_ble_eq_true rfl) (Nat.le_of_ble_eq_true rfl) (Nat.le_of_ble_eq_true rfl) (by assumption) (vX9_goV hC.nt h0 (a := 0) (r := 0) (t := 1) rfl rfl (by omega) (by omega) (by omega)) (zk_v (fun μ_8 m_8 => ?_))
    subst m_8
    refine eX9_remove_11 hC (fun zz => absurd zn00 zz) (fun _ => ?_)
    refine eX9_remove_14 hC ?_
    refine eX9_remove_15 hC hQ (Nat.le_of_ble_eq_true rfl) (Nat.le_of_ble_eq_true rfl) ?_
    exact zN9.ex (if_neg q) rfl hM
set_option maxHeartbeats 4000000 in
theorem vX9_clearText {l : Launch} {g : zG} (hl : l.stackTraces = false) {K : zK} {μ : zF} {m : Nat} {S : zMs} (hR : zRef K m) (hM : zM9 μ m S) (ho : zMok S) : EX9_clearText l g 0 0 [.ref m] K μ (zN9 zc1 (zdo_clearText S) K μ m S) := by
  obtain ⟨h0, h1, h2, h3, h4, h5, h6, h7, h8, i1, i2, i3, i4, i5, i6, i7, i8⟩ := id hR
  obtain ⟨a1, a2, a3, a4, a5, a6⟩ := id hM
  have o80 := ho.1.1
  have e80 : μ (m + 1) 80 = nI (S.1 80) := by have := a1.2 80 (by omega) (by omega); rwa [Nat.zero_add] at this
  refine nX9_clearText hl (fun x hC hQ => ?_)
  refine eX9_clearText_0 hC ?_
  refine eX9_clearText_1 hC ?_
  refine eX9_clearText_2 hC (by assumption) ?_
  refine eX9_clearText_5 hC ?_
  refine eX9_clearText_6 hC (by assumption) ?_
  rw [zup_k _ _ _ (by omega), a4]
  refine eX9_clearText_9 hC ?_
  refine eX9_clearText_10 hC ?_
  refine eX9_clearText_11 hC ?_
  refine eX9_clearText_12 hC (by assumption) ?_
  refine eX9_clearText_15 hC ?_
  refine eX9_clearText_16 hC hQ (Nat.le_of_ble_eq_true rfl) (Nat.le_of_ble_eq_true rfl) ?_
  refine zN9.ok rfl (fun a j q => ?_) ?_ ⟨a1.of o80 (fun j hj => ?_), ?_, fun i hi => (a3 i hi).of (ho.2.2.1 i hi).1 (fun j hj => ?_), zup_self _ _ _ _, fun i hi => absurd hi (Nat.not_lt_zero i), ?_⟩
  · rw [zup_a _ _ _ _ (by omega), zup_a _ _ _ _ (by omega)]
  · rw [zup_k _ _ _ (by omega), zup_self]
  · rw [zup_a _ _ _ _ (by omega), zup_a _ _ _ _ (by omega)]
  · rw [zup_k _ _ _ (by omega), zup_k _ _ _ (by omega)]; exact a2
  · rw [zup_a _ _ _ _ (by omega), zup_a _ _ _ _ (by omega)]
  · rw [zup_a _ _ _ _ (by omega), zup_a _ _ _ _ (by omega)]; exact a6
theorem zi2c {k : Nat} (h : k < 65536) : ((nI k).toUInt32 % 65536).toInt32 = nI k := by
  rw [pk_char, pk_tn (by omega), Nat.mod_eq_of_lt h]
theorem zncar {k : Nat} (h : k < 65536) : vp_nar .char (nI k) = nI k := by
  have := pk_vc (nI k)
  rw [zi2c h] at this
  exact this
set_option maxHeartbeats 4000000 in
theorem vX9_append {l : Launch} {g : zG} (hl : l.stackTraces = false) {K : zK} {μ : zF} {m : Nat} {S : zMs} {i : Int32} (hR : zRef K m) (hM : zM9 μ m S) (ho : zMok S) : EX9_append l g 0 0 [.ref m, .int i] K μ (zN9 zcAS (zdo_append i S) K μ m S) := by
  obtain ⟨h0, h1, h2, h3, h4, h5, h6, h7, h8, i1, i2, i3, i4, i5, i6, i7, i8⟩ := id hR
  obtain ⟨a1, a2, a3, a4, a5, a6⟩ := id hM
  have o80 := ho.1.1
  have e80 : μ (m + 1) 80 = nI (S.1 80) := by have := a1.2 80 (by omega) (by omega); rwa [Nat.zero_add] at this
  refine nX9_append hl (fun x hC hQ => ?_)
  by_cases q : ¬ i < nI 33 ∧ i ≤ nI 126
  · obtain ⟨k, rfl, k1, k2, e⟩ := zrg_in (f := fun k => if 60 ≤ S.2.2.2.1 then (.inr zxS : zOu) else .inl (nI (S.2.2.2.1 + 1), (S.1, S.2.1, S.2.2.1, S.2.2.2.1 + 1, zuf S.2.2.2.2 S.2.2.2.1 k))) (by omega) (by omega) q
    have t60 := ho.2.2.2.1
    by_cases q3 : 60 ≤ S.2.2.2.1
    · refine eX9_append_0 hC ?_
      refine eX9_append_1 hC ?_
      refine eX9_append_2 hC ?_
      refine eX9_append_4 hC ?_
      refine eX9_append_6 hC (Nat.le_of_ble_eq_true rfl) (Nat.le_of_ble_eq_true rfl) (Nat.le_of_ble_eq_true rfl) (vX9_in hC.nt) (zk_i ?_)
      rw [zBv_t q]
      refine eX9_append_9 hC ?_
      refine eX9_append_10 hC (by assumption) ?_
      rw [a4]
      refine eX9_append_13 hC ?_
      refine eX9_append_15 hC (fun _ => ?_) (fun zz => absurd (nI_le q3 (by omega)) zz)
      refine eX9_append_22 hC ?_
      refine eX9_append_23 hC ?_
      refine eX9_append_24 hC (Nat.le_of_ble_eq_true rfl) (Nat.le_of_ble_eq_true rfl) (Nat.le_of_ble_eq_true rfl) (by assumption) (vX9_goV hC.nt h0 (b := 0) (r := 0) (t := 2) rfl rfl (by omega) (by omega) (by omega)) (zk_v (fun μ_24 m_24 => ?_))
      subst m_24
      refine eX9_append_27 hC (fun zz => absurd zn00 zz) (fun _ => ?_)
      refine eX9_append_30 hC ?_
      refine eX9_append_31 hC hQ (Nat.le_of_ble_eq_true rfl) (Nat.le_of_ble_eq_true rfl) ?_
      exact zN9.ex (e.trans (if_pos q3)) (by decide) hM
    · have e3 : zup μ m 4 (nI 0) m 3 = nI S.2.2.2.1 := (zup_k _ _ _ (by omega)).trans a4
      have e3' : ∀ v, zup (zup μ m 4 (nI 0)) (m + 2) S.2.2.2.1 v m 3 = nI S.2.2.2.1 := fun v => (zup_a _ _ _ _ (by omega)).trans e3
      refine eX9_append_0 hC ?_
      refine eX9_append_1 hC ?_
      refine eX9_append_2 hC ?_
      refine eX9_append_4 hC ?_
      refine eX9_append_6 hC (Nat.le_of_ble_eq_true rfl) (Nat.le_of_ble_eq_true rfl) (Nat.le_of_ble_eq_true rfl) (vX9_in hC.nt) (zk_i ?_)
      rw [zBv_t q]
      refine eX9_append_9 hC ?_
      refine eX9_append_10 hC (by assumption) ?_
      rw [a4]
      refine eX9_append_13 hC ?_
      refine eX9_append_15 hC (fun zz => absurd zz (nI_ge (by omega) (by omega))) (fun _ => ?_)
      refine eX9_append_18 hC ?_
      refine eX9_append_19 hC ?_
      refine eX9_append_23 hC ?_
      refine eX9_append_24 hC (Nat.le_of_ble_eq_true rfl) (Nat.le_of_ble_eq_true rfl) (Nat.le_of_ble_eq_true rfl) (by assumption) (vX9_goV hC.nt h0 (r := 1) (t := 0) rfl rfl (by omega) (by omega) (by omega)) (zk_v (fun μ_24 m_24 => ?_))
      subst m_24
      refine eX9_append_27 hC (fun _ => ?_) (fun zz => absurd zz zn10)
      refine eX9_append_32 hC ?_
      refine eX9_append_33 hC (by assumption) (by assumption) ?_
      refine eX9_append_36 hC ?_
      refine eX9_append_37 hC (by assumption) ?_
      rw [e3]
      refine eX9_append_40 hC ?_
      refine eX9_append_41 hC ?_
      rw [zi2c (by omega)]
      refine eX9_append_42 hC (by assumption) (vp_in_nI (by omega) (by omega)) (zncar (by omega)) ?_
      rw [nI_clamp (by omega)]
      refine eX9_append_43 hC ?_
      refine eX9_append_44 hC ?_
      refine eX9_append_45 hC (by assumption) ?_
      rw [e3']
      refine eX9_append_48 hC ?_
      refine eX9_append_49 hC ?_
      rw [nI_add]
      refine eX9_append_50 hC (by assumption) ?_
      refine eX9_append_53 hC ?_
      refine eX9_append_54 hC (by assumption) ?_
      rw [zup_self]
      refine eX9_append_57 hC hQ (Nat.le_of_ble_eq_true rfl) (Nat.le_of_ble_eq_true rfl) ?_
      refine zN9.ok (e.trans (if_neg q3)) (fun a j q => ?_) ?_ ⟨a1.of o80 (fun j hj => ?_), ?_, fun i hi => (a3 i hi).of (ho.2.2.1 i hi).1 (fun j hj => ?_), zup_self _ _ _ _, fun i hi => ?_, ?_⟩
      · rw [zup_a _ _ _ _ (by omega), zup_a _ _ _ _ (by omega), zup_a _ _ _ _ (by omega)]
      · rw [zup_k _ _ _ (by omega), zup_a _ _ _ _ (by omega), zup_self]
      · rw [zup_a _ _ _ _ (by omega), zup_a _ _ _ _ (by omega), zup_a _ _ _ _ (by omega)]
      · rw [zup_k _ _ _ (by omega), zup_a _ _ _ _ (by omega), zup_k _ _ _ (by omega)]; exact a2
      · rw [zup_a _ _ _ _ (by omega), zup_a _ _ _ _ (by omega), zup_a _ _ _ _ (by omega)]
      · have hi : i < S.2.2.2.1 + 1 := hi
        rw [zup_a _ _ _ _ (by omega)]
        show _ = nI (zuf S.2.2.2.2 S.2.2.2.1 k i)
        unfold zuf
        by_cases ci : i = S.2.2.2.1
        · rw [if_pos ci, ci, zup_self]
        · rw [if_neg ci, zup_k _ _ _ ci, zup_a _ _ _ _ (by omega)]; exact a5 i (by omega)
      · rw [zup_a _ _ _ _ (by omega), zup_a _ _ _ _ (by omega), zup_a _ _ _ _ (by omega)]; exact a6
  · refine eX9_append_0 hC ?_
    refine eX9_append_1 hC ?_
    refine eX9_append_2 hC ?_
    refine eX9_append_4 hC ?_
    refine eX9_append_6 hC (Nat.le_of_ble_eq_true rfl) (Nat.le_of_ble_eq_true rfl) (Nat.le_of_ble_eq_true rfl) (vX9_in hC.nt) (zk_i ?_)
    rw [zBv_f q]
    refine eX9_append_9 hC ?_
    refine eX9_append_10 hC (by assumption) ?_
    rw [a4]
    refine eX9_append_13 hC ?_
    refine eX9_append_15 hC (fun c_15 => ?_) (fun c_15 => ?_)
    · refine eX9_append_22 hC ?_
      refine eX9_append_23 hC ?_
      refine eX9_append_24 hC (Nat.le_of_ble_eq_true rfl) (Nat.le_of_ble_eq_true rfl) (Nat.le_of_ble_eq_true rfl) (by assumption) (vX9_goV hC.nt h0 (a := 0) (r := 0) (t := 1) rfl rfl (by omega) (by omega) (by omega)) (zk_v (fun μ_24 m_24 => ?_))
      subst m_24
      refine eX9_append_27 hC (fun zz => absurd zn00 zz) (fun _ => ?_)
      refine eX9_append_30 hC ?_
      refine eX9_append_31 hC hQ (Nat.le_of_ble_eq_true rfl) (Nat.le_of_ble_eq_true rfl) ?_
      exact zN9.ex (if_neg q) (by decide) hM
    · refine eX9_append_18 hC ?_
      refine eX9_append_19 hC ?_
      refine eX9_append_23 hC ?_
      refine eX9_append_24 hC (Nat.le_of_ble_eq_true rfl) (Nat.le_of_ble_eq_true rfl) (Nat.le_of_ble_eq_true rfl) (by assumption) (vX9_goV hC.nt h0 (a := 0) (r := 0) (t := 1) rfl rfl (by omega) (by omega) (by omega)) (zk_v (fun μ_24 m_24 => ?_))
      subst m_24
      refine eX9_append_27 hC (fun zz => absurd zn00 zz) (fun _ => ?_)
      refine eX9_append_30 hC ?_
      refine eX9_append_31 hC hQ (Nat.le_of_ble_eq_true rfl) (Nat.le_of_ble_eq_true rfl) ?_
      exact zN9.ex (if_neg q) (by decide) hM
set_option maxHeartbeats 4000000 in
theorem vX9_undo {l : Launch} {g : zG} (hl : l.stackTraces = false) {K : zK} {μ : zF} {m : Nat} {S : zMs} (hR : zRef K m) (hM : zM9 μ m S) (ho : zMok S) : EX9_undo l g 0 0 [.ref m] K μ (zN9 zc1 (zdo_undo S) K μ m S) := by
  obtain ⟨h0, h1, h2, h3, h4, h5, h6, h7, h8, i1, i2, i3, i4, i5, i6, i7, i8⟩ := id hR
  obtain ⟨a1, a2, a3, a4, a5, a6⟩ := id hM
  have o80 := ho.1.1
  have e80 : μ (m + 1) 80 = nI (S.1 80) := by have := a1.2 80 (by omega) (by omega); rwa [Nat.zero_add] at this
  refine nX9_undo hl (fun x hC hQ => ?_)
  have n6 := ho.2.1
  by_cases q : S.2.1 = 0
  · refine eX9_undo_0 hC ?_
    refine eX9_undo_1 hC ?_
    refine eX9_undo_2 hC (by assumption) ?_
    rw [a2, q]
    refine eX9_undo_5 hC (fun _ => ?_) (fun zz => absurd (by decide) zz)
    refine eX9_undo_12 hC ?_
    refine eX9_undo_13 hC ?_
    refine eX9_undo_14 hC ?_
    refine eX9_undo_15 hC (Nat.le_of_ble_eq_true rfl) (Nat.le_of_ble_eq_true rfl) (Nat.le_of_ble_eq_true rfl) (by assumption) (vX9_goV hC.nt h0 (a := 0) (r := 0) (t := 1) rfl rfl (by omega) (by omega) (by omega)) (zk_v (fun μ_15 m_15 => ?_))
    subst m_15
    refine eX9_undo_18 hC (fun zz => absurd zn00 zz) (fun _ => ?_)
    refine eX9_undo_21 hC ?_
    refine eX9_undo_22 hC hQ (Nat.le_of_ble_eq_true rfl) (Nat.le_of_ble_eq_true rfl) ?_
    exact zN9.ex (if_pos q) rfl hM
  · have e1 : zup μ m 4 (nI 0) m 1 = nI S.2.1 := (zup_k _ _ _ (by omega)).trans a2
    refine eX9_undo_0 hC ?_
    refine eX9_undo_1 hC ?_
    refine eX9_undo_2 hC (by assumption) ?_
    rw [a2]
    refine eX9_undo_5 hC (fun zz => absurd zz (nI_nle (by omega) (by omega))) (fun _ => ?_)
    refine eX9_undo_8 hC ?_
    refine eX9_undo_9 hC ?_
    refine eX9_undo_13 hC ?_
    refine eX9_undo_14 hC ?_
    refine eX9_undo_15 hC (Nat.le_of_ble_eq_true rfl) (Nat.le_of_ble_eq_true rfl) (Nat.le_of_ble_eq_true rfl) (by assumption) (vX9_goV hC.nt h0 (r := 1) (t := 0) rfl rfl (by omega) (by omega) (by omega)) (zk_v (fun μ_15 m_15 => ?_))
    subst m_15
    refine eX9_undo_18 hC (fun _ => ?_) (fun zz => absurd zz zn10)
    refine eX9_undo_23 hC ?_
    refine eX9_undo_24 hC ?_
    refine eX9_undo_25 hC (by assumption) ?_
    rw [e1]
    refine eX9_undo_28 hC ?_
    refine eX9_undo_29 hC (Nat.le_of_ble_eq_true rfl) (Nat.le_of_ble_eq_true rfl) (Nat.le_of_ble_eq_true rfl) (by assumption) (vX9_copies hC.nt hR (by omega) (by omega)) (zk_w (fun μ_29 m_29 => ?_))
    subst m_29
    refine eX9_undo_32 hC ?_
    refine eX9_undo_33 hC ?_
    refine eX9_undo_34 hC (by assumption) ?_
    rw [show zcb (zup μ m 4 (nI 0)) m S.2.1 0 88 m 1 = nI S.2.1 by unfold zcb; rw [if_neg (by omega)]; exact e1]
    refine eX9_undo_37 hC ?_
    refine eX9_undo_38 hC ?_
    rw [nI_sub (by omega)]
    refine eX9_undo_39 hC (by assumption) ?_
    refine eX9_undo_42 hC ?_
    refine eX9_undo_43 hC (by assumption) ?_
    rw [zup_self]
    refine eX9_undo_46 hC hQ (Nat.le_of_ble_eq_true rfl) (Nat.le_of_ble_eq_true rfl) ?_
    refine zN9.ok (if_neg q) (fun a j q => ?_) ?_ ⟨?_, zup_self _ _ _ _, fun i hi => ?_, ?_, fun i hi => ?_, ?_⟩
    · rw [zup_a _ _ _ _ (by omega)]
      unfold zcb
      rw [if_neg (by omega), zup_a _ _ _ _ (by omega)]
    · rw [zup_k _ _ _ (by omega)]
      unfold zcb
      rw [if_neg (by omega), zup_self]
    · refine (a3 (S.2.1 - 1) (by omega)).of (ho.2.2.1 _ (by omega)).1 (fun j hj => ?_)
      rw [zup_a _ _ _ _ (by omega)]
      unfold zcb
      rw [if_pos (by omega), zup_a _ _ _ _ (by omega), show 88 * S.2.1 + (0 + j - 88 * 0) = 88 * (S.2.1 - 1 + 1) + j by omega]
    · have hi : i < S.2.1 - 1 := hi
      refine (a3 i (by omega)).of (ho.2.2.1 i (by omega)).1 (fun j hj => ?_)
      rw [zup_a _ _ _ _ (by omega)]
      unfold zcb
      rw [if_neg (by omega), zup_a _ _ _ _ (by omega)]
    · rw [zup_k _ _ _ (by omega)]
      unfold zcb
      rw [if_neg (by omega), zup_k _ _ _ (by omega)]; exact a4
    · rw [zup_a _ _ _ _ (by omega)]
      unfold zcb
      rw [if_neg (by omega), zup_a _ _ _ _ (by omega)]; exact a5 i hi
    · rw [zup_a _ _ _ _ (by omega)]
      unfold zcb
      rw [if_neg (by omega), zup_a _ _ _ _ (by omega)]; exact a6
