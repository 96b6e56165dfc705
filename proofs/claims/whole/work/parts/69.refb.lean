/-! ===== the reference: input texts ===== -/
def zrT (β : Nat → Nat) (L p : Nat) : Prop := p + 1 < L ∧ (48 ≤ β (p + 1) ∧ β (p + 1) ≤ 57) ∧ 10 * (β p - 48) + (β (p + 1) - 48) ≤ 30
noncomputable def zrW (β : Nat → Nat) (L p : Nat) : Nat := zif (zrT β L p) (10 * (β p - 48) + (β (p + 1) - 48)) (β p - 48)
noncomputable def zrF (β : Nat → Nat) (L p : Nat) : Nat := zif (zrT β L p) (p + 2) (p + 1)
def zrM (β : Nat → Nat) (L f : Nat) : Nat := if f < L ∧ β f = 33 then 1 else if f < L ∧ β f = 47 then 2 else 0
def zrE (β : Nat → Nat) (L f : Nat) : Nat := if zrM β L f = 0 then f else f + 1
theorem zstp_dig {c k : Nat} {W M : Nat → Nat} (h : 48 ≤ c ∧ c ≤ 57) : zstp c k W M = if M k = 0 ∧ 1 ≤ 10 * W k + (c - 48) ∧ 10 * W k + (c - 48) ≤ 30 then some (k, zuf W k (10 * W k + (c - 48)), M) else none := if_pos h
theorem zstp_non {c k : Nat} {W M : Nat → Nat} (h : ¬ (48 ≤ c ∧ c ≤ 57)) : zstp c k W M = if W k = 0 then none else if c = 44 then some (k + 1, zuf W (k + 1) 0, zuf M (k + 1) 0) else if c = 33 then (if M k = 0 then some (k, W, zuf M k 1) else none) else if c = 47 then (if M k = 0 then some (k, W, zuf M k 2) else none) else none := if_neg h
theorem zuf_eq (W : Nat → Nat) (k v : Nat) : zuf W k v k = v := if_pos rfl
/-- a word's first digit -/
theorem zrw_bad {β : Nat → Nat} {L p : Nat} {s : zBS} (h : zrun β p = some s) (hW : s.2.1 s.1 = 0) (hM : s.2.2 s.1 = 0) (hd : ¬ (49 ≤ β p ∧ β p ≤ 57)) : zrun β (p + 1) = none := by
  rw [zrun_next h]
  by_cases c : 48 ≤ β p ∧ β p ≤ 57
  · rw [zstp_dig c, if_neg (by rw [hW]; omega)]
  · rw [zstp_non c, if_pos hW]
theorem zrM_le (β : Nat → Nat) (L f : Nat) : zrM β L f ≤ 2 := by
  unfold zrM; split
  · omega
  · split <;> omega
/-- behind a word's digits -/
theorem zrw_mark {β : Nat → Nat} {L f k w : Nat} {W M : Nat → Nat} (h : zrun β f = some (k, W, M)) (hW : W k = w) (hw : 1 ≤ w) (hM : M k = 0) (hn : f < L → (48 ≤ β f ∧ β f ≤ 57) → 30 < 10 * w + (β f - 48)) : (∃ s', zrun β (zrE β L f) = some s' ∧ s'.1 = k ∧ s'.2.1 k = w ∧ s'.2.2 k = zrM β L f) ∧ (zrE β L f < L → β (zrE β L f) ≠ 44 → zrun β (zrE β L f + 1) = none) := by
  have hW0 : ¬ W k = 0 := by omega
  by_cases c1 : f < L ∧ β f = 33
  · have em : zrM β L f = 1 := by unfold zrM; rw [if_pos c1]
    have ee : zrE β L f = f + 1 := by unfold zrE; rw [em, if_neg (by omega)]
    have er : zrun β (f + 1) = some (k, W, zuf M k 1) := by
      rw [zrun_next h]
      show zstp (β f) k W M = _
      rw [c1.2, zstp_non (by omega), if_neg hW0, if_neg (by omega), if_pos rfl, if_pos hM]
    rw [ee, em]
    refine ⟨⟨_, er, rfl, hW, zuf_eq _ _ _⟩, fun q1 q2 => ?_⟩
    rw [zrun_next er]
    show zstp (β (f + 1)) k W (zuf M k 1) = none
    by_cases c : 48 ≤ β (f + 1) ∧ β (f + 1) ≤ 57
    · rw [zstp_dig c, if_neg (by rw [zuf_eq]; omega)]
    · rw [zstp_non c, if_neg hW0, if_neg q2, zuf_eq]
      simp
  · by_cases c2 : f < L ∧ β f = 47
    · have em : zrM β L f = 2 := by unfold zrM; rw [if_neg c1, if_pos c2]
      have ee : zrE β L f = f + 1 := by unfold zrE; rw [em, if_neg (by omega)]
      have er : zrun β (f + 1) = some (k, W, zuf M k 2) := by
        rw [zrun_next h]
        show zstp (β f) k W M = _
        rw [c2.2, zstp_non (by omega), if_neg hW0, if_neg (by omega), if_neg (by omega), if_pos rfl, if_pos hM]
      rw [ee, em]
      refine ⟨⟨_, er, rfl, hW, zuf_eq _ _ _⟩, fun q1 q2 => ?_⟩
      rw [zrun_next er]
      show zstp (β (f + 1)) k W (zuf M k 2) = none
      by_cases c : 48 ≤ β (f + 1) ∧ β (f + 1) ≤ 57
      · rw [zstp_dig c, if_neg (by rw [zuf_eq]; omega)]
      · rw [zstp_non c, if_neg hW0, if_neg q2, zuf_eq]
        simp
    · have em : zrM β L f = 0 := by unfold zrM; rw [if_neg c1, if_neg c2]
      have ee : zrE β L f = f := by unfold zrE; rw [em, if_pos rfl]
      rw [ee, em]
      refine ⟨⟨_, h, rfl, hW, hM⟩, fun q1 q2 => ?_⟩
      rw [zrun_next h]
      show zstp (β f) k W M = none
      by_cases c : 48 ≤ β f ∧ β f ≤ 57
      · have := hn q1 c
        rw [zstp_dig c, if_neg (by rw [hW]; omega)]
      · rw [zstp_non c, if_neg hW0, if_neg q2, if_neg (fun z => c1 ⟨q1, z⟩), if_neg (fun z => c2 ⟨q1, z⟩)]
theorem zrw_run {β : Nat → Nat} {L p : Nat} {s : zBS} (h : zrun β p = some s) (hW : s.2.1 s.1 = 0) (hM : s.2.2 s.1 = 0) (hp : p < L) (hd : 49 ≤ β p ∧ β p ≤ 57) : (∃ s', zrun β (zrE β L (zrF β L p)) = some s' ∧ s'.1 = s.1 ∧ s'.2.1 s.1 = zrW β L p ∧ s'.2.2 s.1 = zrM β L (zrF β L p)) ∧ (zrE β L (zrF β L p) < L → β (zrE β L (zrF β L p)) ≠ 44 → zrun β (zrE β L (zrF β L p) + 1) = none) := by
  obtain ⟨k, W, M⟩ := s
  have hW : W k = 0 := hW
  have hM : M k = 0 := hM
  have h1 : zrun β (p + 1) = some (k, zuf W k (β p - 48), M) := by
    rw [zrun_next h]
    show zstp (β p) k W M = _
    rw [zstp_dig ⟨by omega, hd.2⟩, if_pos ⟨hM, by omega, by omega⟩, hW]
    simp
  by_cases c : zrT β L p
  · have eF : zrF β L p = p + 2 := by unfold zrF; rw [zif_t c]
    have eW : zrW β L p = 10 * (β p - 48) + (β (p + 1) - 48) := by unfold zrW; rw [zif_t c]
    obtain ⟨t1, t2, t3⟩ := c
    have h2 : zrun β (p + 2) = some (k, zuf (zuf W k (β p - 48)) k (10 * (β p - 48) + (β (p + 1) - 48)), M) := by
      rw [show p + 2 = p + 1 + 1 from rfl, zrun_next h1]
      show zstp (β (p + 1)) k (zuf W k (β p - 48)) M = _
      rw [zstp_dig t2, zuf_eq, if_pos ⟨hM, by omega, t3⟩]
    rw [eF, eW]
    exact zrw_mark h2 (zuf_eq _ _ _) (by omega) hM (fun _ _ => by omega)
  · have eF : zrF β L p = p + 1 := by unfold zrF; rw [zif_f c]
    have eW : zrW β L p = β p - 48 := by unfold zrW; rw [zif_f c]
    rw [eF, eW]
    exact zrw_mark h1 (zuf_eq _ _ _) (by omega) hM (fun q1 q2 => by
      rcases Nat.lt_or_ge 30 (10 * (β p - 48) + (β (p + 1) - 48)) with z | z
      · exact z
      · exact absurd ⟨q1, q2, z⟩ c)
theorem zrW_in {β : Nat → Nat} {L p : Nat} (hd : 49 ≤ β p ∧ β p ≤ 57) : 1 ≤ zrW β L p ∧ zrW β L p ≤ 30 := by
  unfold zrW
  by_cases c : zrT β L p
  · rw [zif_t c]; have := c.2.2; omega
  · rw [zif_f c]; omega
theorem zrE_in {β : Nat → Nat} {L p : Nat} (hp : p < L) : p < zrE β L (zrF β L p) ∧ zrE β L (zrF β L p) ≤ L := by
  have hF : p < zrF β L p ∧ zrF β L p ≤ L := by
    unfold zrF
    by_cases c : zrT β L p
    · rw [zif_t c]; have := c.1; omega
    · rw [zif_f c]; omega
  unfold zrE
  split
  · exact hF
  · rename_i h
    have : zrF β L p < L := by
      rcases Nat.lt_or_ge (zrF β L p) L with z | z
      · exact z
      · exact absurd (by unfold zrM; rw [if_neg (fun y => by omega), if_neg (fun y => by omega)]) h
    omega
theorem zstp_keep {c k : Nat} {W M : Nat → Nat} {s' : zBS} (h : zstp c k W M = some s') : k ≤ s'.1 ∧ ∀ q, q < k → s'.2.1 q = W q ∧ s'.2.2 q = M q := by
  by_cases cd : 48 ≤ c ∧ c ≤ 57
  · rw [zstp_dig cd] at h
    split at h
    · cases h
      exact ⟨Nat.le_refl _, fun q hq => ⟨if_neg (by omega), rfl⟩⟩
    · cases h
  · rw [zstp_non cd] at h
    split at h
    · cases h
    · split at h
      · cases h
        exact ⟨Nat.le_succ _, fun q hq => ⟨if_neg (by omega), if_neg (by omega)⟩⟩
      · split at h
        · split at h
          · cases h
            exact ⟨Nat.le_refl _, fun q hq => ⟨rfl, if_neg (by omega)⟩⟩
          · cases h
        · split at h
          · split at h
            · cases h
              exact ⟨Nat.le_refl _, fun q hq => ⟨rfl, if_neg (by omega)⟩⟩
            · cases h
          · cases h
theorem zrun_keep {β : Nat → Nat} {i : Nat} {s : zBS} (h : zrun β i = some s) : ∀ (d : Nat) (s' : zBS), zrun β (i + d) = some s' → s.1 ≤ s'.1 ∧ ∀ q, q < s.1 → s'.2.1 q = s.2.1 q ∧ s'.2.2 q = s.2.2 q
  | 0, s', h' => by
    rw [Nat.add_zero, h] at h'
    cases h'
    exact ⟨Nat.le_refl _, fun q _ => ⟨rfl, rfl⟩⟩
  | d + 1, s', h' => by
    have h' : (zrun β (i + d)).bind (fun s => zstp (β (i + d)) s.1 s.2.1 s.2.2) = some s' := h'
    cases hr : zrun β (i + d) with
    | none => rw [hr] at h'; cases h'
    | some s0 =>
      rw [hr] at h'
      obtain ⟨a1, a2⟩ := zrun_keep h d s0 hr
      obtain ⟨b1, b2⟩ := zstp_keep h'
      exact ⟨Nat.le_trans a1 b1, fun q hq => ⟨((b2 q (by omega)).1).trans (a2 q hq).1, ((b2 q (by omega)).2).trans (a2 q hq).2⟩⟩
/-- a comma behind a word -/
theorem zrw_comma {β : Nat → Nat} {e : Nat} {s : zBS} (h : zrun β e = some s) (hW : s.2.1 s.1 ≠ 0) (hc : β e = 44) : zrun β (e + 1) = some (s.1 + 1, zuf s.2.1 (s.1 + 1) 0, zuf s.2.2 (s.1 + 1) 0) := by
  rw [zrun_next h, hc, zstp_non (by omega), if_neg hW, if_pos rfl]
theorem zrun_some {β : Nat → Nat} {i j : Nat} {s : zBS} (h : zrun β i = some s) (hj : j ≤ i) : zrun β j ≠ none := fun z => by
  have := zrun_mono z (i - j)
  rw [show j + (i - j) = i by omega, h] at this
  cases this
theorem zfe_some {β : Nat → Nat} {L i : Nat} {s : zBS} (h : zrun β i = some s) (hi : i ≤ L) (h2 : i = L ∨ zrun β (i + 1) = none) : zfe β L = i := zfe_eq hi h2 (fun j hj => zrun_some h (show j + 1 ≤ i from hj))
/-! the fields -/
def zBq (K : zK) (μ : zF) (m L : Nat) (β : Nat → Nat) : Prop := zRef K m ∧ μ m 3 = nI L ∧ L ≤ 60 ∧ ∀ i, i < L → μ (m + 2) i = nI (β i) ∧ β i ≤ 126
theorem zBq.fr {K : zK} {μ μ' : zF} {m L : Nat} {β : Nat → Nat} (h : zBq K μ m L β) (h3 : μ' m 3 = μ m 3) (h2 : ∀ j, μ' (m + 2) j = μ (m + 2) j) : zBq K μ' m L β := ⟨h.1, h3.trans h.2.1, h.2.2.1, fun i hi => ⟨(h2 i).trans (h.2.2.2 i hi).1, (h.2.2.2 i hi).2⟩⟩
theorem zBq.up {K : zK} {μ : zF} {m L k : Nat} {β : Nat → Nat} {v : Int32} (h : zBq K μ m L β) (hk : k ≠ 3) : zBq K (zup μ m k v) m L β := h.fr (zup_k _ _ _ (Ne.symm hk)) (fun j => zup_a _ _ _ _ (by omega))
set_option maxHeartbeats 4000000 in
theorem vX9_isHere {l : Launch} {g : zG} (hl : l.stackTraces = false) {K : zK} {μ : zF} {m L p lo hi : Nat} {β : Nat → Nat} (hB : zBq K μ m L β) (hp : μ m 11 = nI p) (hp2 : p ≤ 61) (h1 : lo ≤ 126) (h2' : hi ≤ 126) : EX9_isHere l g 0 0 [.ref m, .int (nI lo), .int (nI hi)] K μ (zPi (zBv (p < L ∧ lo ≤ β p ∧ β p ≤ hi)) K μ) := by
  obtain ⟨hR, e3, l60, hb⟩ := hB
  obtain ⟨h0, h1, h2, h3, h4, h5, h6, h7, h8, i1, i2, i3, i4, i5, i6, i7, i8⟩ := id hR
  refine nX9_isHere hl (fun x hC hQ => ?_)
  by_cases c : p < L
  · obtain ⟨b1, b2⟩ := hb p c
    have ez : zBv (¬ nI (β p) < nI lo ∧ nI (β p) ≤ nI hi) = zBv (p < L ∧ lo ≤ β p ∧ β p ≤ hi) := zBv_congr (by
      rw [nI_ltI (by omega) (by omega), nI_leI (by omega) (by omega)]
      constructor
      · rintro ⟨q1, q2⟩; exact ⟨c, by omega, q2⟩
      · rintro ⟨-, q1, q2⟩; exact ⟨by omega, q2⟩)
    by_cases c2 : p < L ∧ lo ≤ β p ∧ β p ≤ hi
    · refine eX9_isHere_0 hC ?_
      refine eX9_isHere_1 hC (by assumption) ?_
      rw [hp]
      refine eX9_isHere_4 hC ?_
      refine eX9_isHere_5 hC (by assumption) ?_
      rw [e3]
      refine eX9_isHere_8 hC (fun zz => absurd zz (nI_ge c (by omega))) (fun _ => ?_)
      refine eX9_isHere_11 hC ?_
      refine eX9_isHere_12 hC (by assumption) (by assumption) ?_
      refine eX9_isHere_15 hC ?_
      refine eX9_isHere_16 hC (by assumption) ?_
      rw [hp]
      refine eX9_isHere_19 hC (by assumption) (vp_in_nI (by omega) (by omega)) ?_
      rw [nI_clamp (by omega), b1]
      refine eX9_isHere_20 hC ?_
      refine eX9_isHere_21 hC ?_
      refine eX9_isHere_22 hC (Nat.le_of_ble_eq_true rfl) (Nat.le_of_ble_eq_true rfl) (Nat.le_of_ble_eq_true rfl) (vX9_in hC.nt) (zk_i ?_)
      rw [ez, zBv_t c2]
      refine eX9_isHere_25 hC (fun zz => absurd zz zn10) (fun _ => ?_)
      refine eX9_isHere_28 hC ?_
      refine eX9_isHere_29 hC ?_
      refine eX9_isHere_33 hC hQ (Nat.le_of_ble_eq_true rfl) (Nat.le_of_ble_eq_true rfl) (by first | (left; rfl) | (right; rfl) | assumption) ?_
      exact ⟨by rw [zBv_t c2], rfl, rfl⟩
    · refine eX9_isHere_0 hC ?_
      refine eX9_isHere_1 hC (by assumption) ?_
      rw [hp]
      refine eX9_isHere_4 hC ?_
      refine eX9_isHere_5 hC (by assumption) ?_
      rw [e3]
      refine eX9_isHere_8 hC (fun zz => absurd zz (nI_ge c (by omega))) (fun _ => ?_)
      refine eX9_isHere_11 hC ?_
      refine eX9_isHere_12 hC (by assumption) (by assumption) ?_
      refine eX9_isHere_15 hC ?_
      refine eX9_isHere_16 hC (by assumption) ?_
      rw [hp]
      refine eX9_isHere_19 hC (by assumption) (vp_in_nI (by omega) (by omega)) ?_
      rw [nI_clamp (by omega), b1]
      refine eX9_isHere_20 hC ?_
      refine eX9_isHere_21 hC ?_
      refine eX9_isHere_22 hC (Nat.le_of_ble_eq_true rfl) (Nat.le_of_ble_eq_true rfl) (Nat.le_of_ble_eq_true rfl) (vX9_in hC.nt) (zk_i ?_)
      rw [ez, zBv_f c2]
      refine eX9_isHere_25 hC (fun _ => ?_) (fun zz => absurd zn00 zz)
      refine eX9_isHere_32 hC ?_
      refine eX9_isHere_33 hC hQ (Nat.le_of_ble_eq_true rfl) (Nat.le_of_ble_eq_true rfl) (by first | (left; rfl) | (right; rfl) | assumption) ?_
      exact ⟨by rw [zBv_f c2], rfl, rfl⟩
  · refine eX9_isHere_0 hC ?_
    refine eX9_isHere_1 hC (by assumption) ?_
    rw [hp]
    refine eX9_isHere_4 hC ?_
    refine eX9_isHere_5 hC (by assumption) ?_
    rw [e3]
    refine eX9_isHere_8 hC (fun _ => ?_) (fun zz => absurd (nI_le (by omega) (by omega)) zz)
    refine eX9_isHere_32 hC ?_
    refine eX9_isHere_33 hC hQ (Nat.le_of_ble_eq_true rfl) (Nat.le_of_ble_eq_true rfl) (by first | (left; rfl) | (right; rfl) | assumption) ?_
    exact ⟨by rw [zBv_f (p := p < L ∧ lo ≤ β p ∧ β p ≤ hi) (fun z => c z.1)], rfl, rfl⟩
set_option maxHeartbeats 4000000 in
theorem vX9_readsNo {l : Launch} {g : zG} (hl : l.stackTraces = false) {K : zK} {μ : zF} {m L p : Nat} {β : Nat → Nat} (hB : zBq K μ m L β) (hp : μ m 11 = nI p) (hp2 : p ≤ 61) (hd : ¬ (p < L ∧ 49 ≤ β p ∧ β p ≤ 57)) : EX9_readsWord l g 0 0 [.ref m] K μ (zPv (nI 0) K (fun μ' => μ' = zup μ m 13 (nI 0))) := by
  obtain ⟨h0, h1, h2, h3, h4, h5, h6, h7, h8, i1, i2, i3, i4, i5, i6, i7, i8⟩ := id hB.1
  refine nX9_readsWord hl (fun x hC hQ => ?_)
  refine eX9_readsWord_0 hC ?_
  refine eX9_readsWord_1 hC ?_
  refine eX9_readsWord_2 hC (by assumption) ?_
  refine eX9_readsWord_5 hC ?_
  refine eX9_readsWord_6 hC ?_
  refine eX9_readsWord_8 hC ?_
  refine eX9_readsWord_10 hC (Nat.le_of_ble_eq_true rfl) (Nat.le_of_ble_eq_true rfl) (Nat.le_of_ble_eq_true rfl) (by assumption) (vX9_isHere hC.nt (hB.up (by omega)) ((zup_k _ _ _ (by omega)).trans hp) hp2 (by omega) (by omega)) (zk_i ?_)
  rw [zBv_f hd]
  refine eX9_readsWord_13 hC (fun zz => absurd zn00 zz) (fun _ => ?_)
  refine eX9_readsWord_16 hC ?_
  refine eX9_readsWord_17 hC hQ (Nat.le_of_ble_eq_true rfl) (Nat.le_of_ble_eq_true rfl) (by first | (left; rfl) | (right; rfl) | assumption) ?_
  exact ⟨rfl, rfl, rfl⟩
set_option maxHeartbeats 8000000 in
theorem vX9_readsYes {l : Launch} {g : zG} (hl : l.stackTraces = false) {K : zK} {μ : zF} {m L p : Nat} {β : Nat → Nat} (hB : zBq K μ m L β) (hp : μ m 11 = nI p) (hpL : p < L) (hd : 49 ≤ β p ∧ β p ≤ 57) : EX9_readsWord l g 0 0 [.ref m] K μ (zPv (nI 1) K (fun μ' => μ' m 11 = nI (zrE β L (zrF β L p)) ∧ μ' m 12 = nI (zrW β L p) ∧ μ' m 13 = nI (zrM β L (zrF β L p)) ∧ ∀ a j, ¬ (a = m ∧ 11 ≤ j) → μ' a j = μ a j)) := by
  obtain ⟨h0, h1, h2, h3, h4, h5, h6, h7, h8, i1, i2, i3, i4, i5, i6, i7, i8⟩ := id hB.1
  have l60 := hB.2.2.1
  obtain ⟨b1, b2⟩ := hB.2.2.2 p hpL
  refine nX9_readsWord hl (fun x hC hQ => ?_)
  -- the mark
  have B : ∀ (f : Nat) (μ2 : zF), f = zrF β L p → f ≤ L → μ2 m 11 = nI f → μ2 m 12 = nI (zrW β L p) → μ2 m 13 = nI 0 → (∀ a j, ¬ (a = m ∧ 11 ≤ j) → μ2 a j = μ a j) → zV x 0 0 114 [some (.ref m)] [] K μ2 := by
    intro f μ2 hf hfL e11 e12 e13 hfr
    have hB2 : zBq K μ2 m L β := hB.fr (hfr _ _ (by omega)) (fun j => hfr _ _ (by omega))
    by_cases c1 : f < L ∧ β f = 33
    · have em : zrM β L f = 1 := by unfold zrM; rw [if_pos c1]
      have ee : zrE β L f = f + 1 := by unfold zrE; rw [em, if_neg (by omega)]
      have bf := (hB2.2.2.2 f c1.1).1
      have e11' : ∀ v, zup μ2 m 13 v m 11 = nI f := fun v => (zup_k _ _ _ (by omega)).trans e11
      refine eX9_readsWord_114 hC ?_
      refine eX9_readsWord_115 hC ?_
      refine eX9_readsWord_117 hC ?_
      refine eX9_readsWord_119 hC (Nat.le_of_ble_eq_true rfl) (Nat.le_of_ble_eq_true rfl) (Nat.le_of_ble_eq_true rfl) (by assumption) (vX9_isHere hC.nt hB2 e11 (by omega) (by omega) (by omega)) (zk_i ?_)
      rw [zBv_t (p := f < L ∧ 33 ≤ β f ∧ β f ≤ 33) ⟨c1.1, by omega, by omega⟩]
      refine eX9_readsWord_122 hC (fun _ => ?_) (fun zz => absurd zz zn10)
      refine eX9_readsWord_136 hC ?_
      refine eX9_readsWord_137 hC ?_
      refine eX9_readsWord_138 hC (by assumption) (by assumption) ?_
      refine eX9_readsWord_141 hC ?_
      refine eX9_readsWord_142 hC (by assumption) ?_
      rw [e11]
      refine eX9_readsWord_145 hC (by assumption) (vp_in_nI (by omega) (by omega)) ?_
      rw [nI_clamp (by omega), bf]
      refine eX9_readsWord_146 hC ?_
      refine eX9_readsWord_148 hC (fun zz => absurd (by rw [c1.2]) zz) (fun _ => ?_)
      refine eX9_readsWord_151 hC ?_
      refine eX9_readsWord_152 hC ?_
      refine eX9_readsWord_156 hC (by assumption) ?_
      refine eX9_readsWord_159 hC ?_
      refine eX9_readsWord_160 hC ?_
      refine eX9_readsWord_161 hC (by assumption) ?_
      rw [e11']
      refine eX9_readsWord_164 hC ?_
      refine eX9_readsWord_165 hC ?_
      rw [nI_add]
      refine eX9_readsWord_166 hC (by assumption) ?_
      refine eX9_readsWord_169 hC ?_
      refine eX9_readsWord_170 hC hQ (Nat.le_of_ble_eq_true rfl) (Nat.le_of_ble_eq_true rfl) (by first | (left; rfl) | (right; rfl) | assumption) ?_
      rw [← hf, ee, em]
      refine ⟨rfl, rfl, zup_self _ _ _ _, ?_, ?_, fun a j z => ?_⟩
      · rw [zup_k _ _ _ (by omega), zup_k _ _ _ (by omega)]; exact e12
      · rw [zup_k _ _ _ (by omega), zup_self]
      · unfold zup
        rw [if_neg (by omega), if_neg (by omega)]
        exact hfr a j z
    · have n1 : ¬ (f < L ∧ 33 ≤ β f ∧ β f ≤ 33) := fun z => c1 ⟨z.1, by omega⟩
      by_cases c2 : f < L ∧ β f = 47
      · have em : zrM β L f = 2 := by unfold zrM; rw [if_neg c1, if_pos c2]
        have ee : zrE β L f = f + 1 := by unfold zrE; rw [em, if_neg (by omega)]
        have bf := (hB2.2.2.2 f c2.1).1
        have e11' : ∀ v, zup μ2 m 13 v m 11 = nI f := fun v => (zup_k _ _ _ (by omega)).trans e11
        refine eX9_readsWord_114 hC ?_
        refine eX9_readsWord_115 hC ?_
        refine eX9_readsWord_117 hC ?_
        refine eX9_readsWord_119 hC (Nat.le_of_ble_eq_true rfl) (Nat.le_of_ble_eq_true rfl) (Nat.le_of_ble_eq_true rfl) (by assumption) (vX9_isHere hC.nt hB2 e11 (by omega) (by omega) (by omega)) (zk_i ?_)
        rw [zBv_f n1]
        refine eX9_readsWord_122 hC (fun zz => absurd zn00 zz) (fun _ => ?_)
        refine eX9_readsWord_125 hC ?_
        refine eX9_readsWord_126 hC ?_
        refine eX9_readsWord_128 hC ?_
        refine eX9_readsWord_130 hC (Nat.le_of_ble_eq_true rfl) (Nat.le_of_ble_eq_true rfl) (Nat.le_of_ble_eq_true rfl) (by assumption) (vX9_isHere hC.nt hB2 e11 (by omega) (by omega) (by omega)) (zk_i ?_)
        rw [zBv_t (p := f < L ∧ 47 ≤ β f ∧ β f ≤ 47) ⟨c2.1, by omega, by omega⟩]
        refine eX9_readsWord_133 hC (fun zz => absurd zz zn10) (fun _ => ?_)
        refine eX9_readsWord_136 hC ?_
        refine eX9_readsWord_137 hC ?_
        refine eX9_readsWord_138 hC (by assumption) (by assumption) ?_
        refine eX9_readsWord_141 hC ?_
        refine eX9_readsWord_142 hC (by assumption) ?_
        rw [e11]
        refine eX9_readsWord_145 hC (by assumption) (vp_in_nI (by omega) (by omega)) ?_
        rw [nI_clamp (by omega), bf]
        refine eX9_readsWord_146 hC ?_
        refine eX9_readsWord_148 hC (fun _ => ?_) (fun zz => absurd zz (fun z => by have := nI_inj (by omega) (by omega) z; omega))
        refine eX9_readsWord_155 hC ?_
        refine eX9_readsWord_156 hC (by assumption) ?_
        refine eX9_readsWord_159 hC ?_
        refine eX9_readsWord_160 hC ?_
        refine eX9_readsWord_161 hC (by assumption) ?_
        rw [e11']
        refine eX9_readsWord_164 hC ?_
        refine eX9_readsWord_165 hC ?_
        rw [nI_add]
        refine eX9_readsWord_166 hC (by assumption) ?_
        refine eX9_readsWord_169 hC ?_
        refine eX9_readsWord_170 hC hQ (Nat.le_of_ble_eq_true rfl) (Nat.le_of_ble_eq_true rfl) (by first | (left; rfl) | (right; rfl) | assumption) ?_
        rw [← hf, ee, em]
        refine ⟨rfl, rfl, zup_self _ _ _ _, ?_, ?_, fun a j z => ?_⟩
        · rw [zup_k _ _ _ (by omega), zup_k _ _ _ (by omega)]; exact e12
        · rw [zup_k _ _ _ (by omega), zup_self]
        · unfold zup
          rw [if_neg (by omega), if_neg (by omega)]
          exact hfr a j z
      · have n2 : ¬ (f < L ∧ 47 ≤ β f ∧ β f ≤ 47) := fun z => c2 ⟨z.1, by omega⟩
        have em : zrM β L f = 0 := by unfold zrM; rw [if_neg c1, if_neg c2]
        have ee : zrE β L f = f := by unfold zrE; rw [em, if_pos rfl]
        refine eX9_readsWord_114 hC ?_
        refine eX9_readsWord_115 hC ?_
        refine eX9_readsWord_117 hC ?_
        refine eX9_readsWord_119 hC (Nat.le_of_ble_eq_true rfl) (Nat.le_of_ble_eq_true rfl) (Nat.le_of_ble_eq_true rfl) (by assumption) (vX9_isHere hC.nt hB2 e11 (by omega) (by omega) (by omega)) (zk_i ?_)
        rw [zBv_f n1]
        refine eX9_readsWord_122 hC (fun zz => absurd zn00 zz) (fun _ => ?_)
        refine eX9_readsWord_125 hC ?_
        refine eX9_readsWord_126 hC ?_
        refine eX9_readsWord_128 hC ?_
        refine eX9_readsWord_130 hC (Nat.le_of_ble_eq_true rfl) (Nat.le_of_ble_eq_true rfl) (Nat.le_of_ble_eq_true rfl) (by assumption) (vX9_isHere hC.nt hB2 e11 (by omega) (by omega) (by omega)) (zk_i ?_)
        rw [zBv_f n2]
        refine eX9_readsWord_133 hC (fun _ => ?_) (fun zz => absurd zn00 zz)
        refine eX9_readsWord_169 hC ?_
        refine eX9_readsWord_170 hC hQ (Nat.le_of_ble_eq_true rfl) (Nat.le_of_ble_eq_true rfl) (by first | (left; rfl) | (right; rfl) | assumption) ?_
        rw [← hf, ee, em]
        exact ⟨rfl, rfl, e11, e12, e13, hfr⟩
  have f1 : zup μ m 13 (nI 0) m 11 = nI p := (zup_k _ _ _ (by omega)).trans hp
  have f2 : zup (zup μ m 13 (nI 0)) m 12 (nI (β p - 48)) m 11 = nI p := (zup_k _ _ _ (by omega)).trans f1
  have f3 : zup (zup (zup μ m 13 (nI 0)) m 12 (nI (β p - 48))) m 11 (nI (p + 1)) m 12 = nI (β p - 48) := (zup_k _ _ _ (by omega)).trans (zup_self _ _ _ _)
  have fr3 : ∀ a j, ¬ (a = m ∧ 11 ≤ j) → zup (zup (zup μ m 13 (nI 0)) m 12 (nI (β p - 48))) m 11 (nI (p + 1)) a j = μ a j := fun a j z => by
    unfold zup
    rw [if_neg (by omega), if_neg (by omega), if_neg (by omega)]
  have hB3 : zBq K (zup (zup (zup μ m 13 (nI 0)) m 12 (nI (β p - 48))) m 11 (nI (p + 1))) m L β := hB.fr (fr3 _ _ (by omega)) (fun j => fr3 _ _ (by omega))
  by_cases t12 : p + 1 < L ∧ 48 ≤ β (p + 1) ∧ β (p + 1) ≤ 57
  · by_cases t3 : 10 * (β p - 48) + (β (p + 1) - 48) ≤ 30
    · have hT : zrT β L p := ⟨t12.1, t12.2, t3⟩
      have eF : zrF β L p = p + 2 := by unfold zrF; rw [zif_t hT]
      have eW : zrW β L p = 10 * (β p - 48) + (β (p + 1) - 48) := by unfold zrW; rw [zif_t hT]
      refine eX9_readsWord_0 hC ?_
      refine eX9_readsWord_1 hC ?_
      refine eX9_readsWord_2 hC (by assumption) ?_
      refine eX9_readsWord_5 hC ?_
      refine eX9_readsWord_6 hC ?_
      refine eX9_readsWord_8 hC ?_
      refine eX9_readsWord_10 hC (Nat.le_of_ble_eq_true rfl) (Nat.le_of_ble_eq_true rfl) (Nat.le_of_ble_eq_true rfl) (by assumption) (vX9_isHere hC.nt (hB.up (by omega)) f1 (by omega) (by omega) (by omega)) (zk_i ?_)
      rw [zBv_t (p := p < L ∧ 49 ≤ β p ∧ β p ≤ 57) ⟨hpL, hd⟩]
      refine eX9_readsWord_13 hC (fun _ => ?_) (fun zz => absurd zz zn10)
      refine eX9_readsWord_18 hC ?_
      refine eX9_readsWord_19 hC ?_
      refine eX9_readsWord_20 hC (by assumption) (by assumption) ?_
      refine eX9_readsWord_23 hC ?_
      refine eX9_readsWord_24 hC (by assumption) ?_
      rw [f1]
      refine eX9_readsWord_27 hC (by assumption) (vp_in_nI (by omega) (by omega)) ?_
      rw [nI_clamp (by omega), (zup_a _ _ _ _ (by omega) : zup μ m 13 (nI 0) (m + 2) _ = _), b1]
      refine eX9_readsWord_28 hC ?_
      refine eX9_readsWord_30 hC ?_
      rw [nI_sub (by omega)]
      refine eX9_readsWord_31 hC (by assumption) ?_
      refine eX9_readsWord_34 hC ?_
      refine eX9_readsWord_35 hC ?_
      refine eX9_readsWord_36 hC (by assumption) ?_
      rw [f2]
      refine eX9_readsWord_39 hC ?_
      refine eX9_readsWord_40 hC ?_
      rw [nI_add]
      refine eX9_readsWord_41 hC (by assumption) ?_
      refine eX9_readsWord_44 hC ?_
      refine eX9_readsWord_45 hC ?_
      refine eX9_readsWord_47 hC ?_
      refine eX9_readsWord_49 hC (Nat.le_of_ble_eq_true rfl) (Nat.le_of_ble_eq_true rfl) (Nat.le_of_ble_eq_true rfl) (by assumption) (vX9_isHere hC.nt hB3 (zup_self _ _ _ _) (by omega) (by omega) (by omega)) (zk_i ?_)
      rw [zBv_t (p := p + 1 < L ∧ 48 ≤ β (p + 1) ∧ β (p + 1) ≤ 57) t12]
      refine eX9_readsWord_52 hC (fun zz => absurd zz zn10) (fun _ => ?_)
      refine eX9_readsWord_55 hC ?_
      refine eX9_readsWord_57 hC ?_
      refine eX9_readsWord_58 hC (by assumption) ?_
      rw [f3]
      refine eX9_readsWord_61 hC ?_
      rw [pk_mul]
      refine eX9_readsWord_62 hC ?_
      refine eX9_readsWord_63 hC (by assumption) (by assumption) ?_
      refine eX9_readsWord_66 hC ?_
      refine eX9_readsWord_67 hC (by assumption) ?_
      rw [zup_self]
      refine eX9_readsWord_70 hC (by assumption) (vp_in_nI (by omega) (by omega)) ?_
      rw [nI_clamp (by omega), (hB3.2.2.2 (p + 1) t12.1).1]
      refine eX9_readsWord_71 hC ?_
      rw [nI_add]
      refine eX9_readsWord_72 hC ?_
      refine eX9_readsWord_74 hC ?_
      rw [nI_sub (by omega), show 10 * (β p - 48) + β (p + 1) - 48 = 10 * (β p - 48) + (β (p + 1) - 48) by omega]
      refine eX9_readsWord_75 hC ?_
      refine eX9_readsWord_77 hC (fun zz => absurd zz (nI_nlt t3 (by omega))) (fun _ => ?_)
      refine eX9_readsWord_80 hC ?_
      refine eX9_readsWord_81 hC ?_
      refine eX9_readsWord_83 hC ?_
      refine eX9_readsWord_84 hC (by assumption) ?_
      rw [f3]
      refine eX9_readsWord_87 hC ?_
      rw [pk_mul]
      refine eX9_readsWord_88 hC ?_
      refine eX9_readsWord_89 hC (by assumption) (by assumption) ?_
      refine eX9_readsWord_92 hC ?_
      refine eX9_readsWord_93 hC (by assumption) ?_
      rw [zup_self]
      refine eX9_readsWord_96 hC (by assumption) (vp_in_nI (by omega) (by omega)) ?_
      rw [nI_clamp (by omega), (hB3.2.2.2 (p + 1) t12.1).1]
      refine eX9_readsWord_97 hC ?_
      rw [nI_add]
      refine eX9_readsWord_98 hC ?_
      refine eX9_readsWord_100 hC ?_
      rw [nI_sub (by omega), show 10 * (β p - 48) + β (p + 1) - 48 = 10 * (β p - 48) + (β (p + 1) - 48) by omega]
      refine eX9_readsWord_101 hC (by assumption) ?_
      refine eX9_readsWord_104 hC ?_
      refine eX9_readsWord_105 hC ?_
      refine eX9_readsWord_106 hC (by assumption) ?_
      rw [zup_k _ _ _ (show 11 ≠ 12 by omega), zup_self]
      refine eX9_readsWord_109 hC ?_
      refine eX9_readsWord_110 hC ?_
      rw [nI_add]
      refine eX9_readsWord_111 hC (by assumption) ?_
      refine B (p + 2) _ eF.symm (by omega) (zup_self _ _ _ _) ?_ ?_ (fun a j z => ?_)
      · rw [zup_k _ _ _ (by omega), zup_self, eW]
      · rw [zup_k _ _ _ (by omega), zup_k _ _ _ (by omega), zup_k _ _ _ (by omega), zup_k _ _ _ (by omega), zup_self]
      · rw [← fr3 a j z]
        unfold zup
        rw [if_neg (by omega), if_neg (by omega)]
    · have hT : ¬ zrT β L p := fun z => t3 z.2.2
      have eF : zrF β L p = p + 1 := by unfold zrF; rw [zif_f hT]
      have eW : zrW β L p = β p - 48 := by unfold zrW; rw [zif_f hT]
      refine eX9_readsWord_0 hC ?_
      refine eX9_readsWord_1 hC ?_
      refine eX9_readsWord_2 hC (by assumption) ?_
      refine eX9_readsWord_5 hC ?_
      refine eX9_readsWord_6 hC ?_
      refine eX9_readsWord_8 hC ?_
      refine eX9_readsWord_10 hC (Nat.le_of_ble_eq_true rfl) (Nat.le_of_ble_eq_true rfl) (Nat.le_of_ble_eq_true rfl) (by assumption) (vX9_isHere hC.nt (hB.up (by omega)) f1 (by omega) (by omega) (by omega)) (zk_i ?_)
      rw [zBv_t (p := p < L ∧ 49 ≤ β p ∧ β p ≤ 57) ⟨hpL, hd⟩]
      refine eX9_readsWord_13 hC (fun _ => ?_) (fun zz => absurd zz zn10)
      refine eX9_readsWord_18 hC ?_
      refine eX9_readsWord_19 hC ?_
      refine eX9_readsWord_20 hC (by assumption) (by assumption) ?_
      refine eX9_readsWord_23 hC ?_
      refine eX9_readsWord_24 hC (by assumption) ?_
      rw [f1]
      refine eX9_readsWord_27 hC (by assumption) (vp_in_nI (by omega) (by omega)) ?_
      rw [nI_clamp (by omega), (zup_a _ _ _ _ (by omega) : zup μ m 13 (nI 0) (m + 2) _ = _), b1]
      refine eX9_readsWord_28 hC ?_
      refine eX9_readsWord_30 hC ?_
      rw [nI_sub (by omega)]
      refine eX9_readsWord_31 hC (by assumption) ?_
      refine eX9_readsWord_34 hC ?_
      refine eX9_readsWord_35 hC ?_
      refine eX9_readsWord_36 hC (by assumption) ?_
      rw [f2]
      refine eX9_readsWord_39 hC ?_
      refine eX9_readsWord_40 hC ?_
      rw [nI_add]
      refine eX9_readsWord_41 hC (by assumption) ?_
      refine eX9_readsWord_44 hC ?_
      refine eX9_readsWord_45 hC ?_
      refine eX9_readsWord_47 hC ?_
      refine eX9_readsWord_49 hC (Nat.le_of_ble_eq_true rfl) (Nat.le_of_ble_eq_true rfl) (Nat.le_of_ble_eq_true rfl) (by assumption) (vX9_isHere hC.nt hB3 (zup_self _ _ _ _) (by omega) (by omega) (by omega)) (zk_i ?_)
      rw [zBv_t (p := p + 1 < L ∧ 48 ≤ β (p + 1) ∧ β (p + 1) ≤ 57) t12]
      refine eX9_readsWord_52 hC (fun zz => absurd zz zn10) (fun _ => ?_)
      refine eX9_readsWord_55 hC ?_
      refine eX9_readsWord_57 hC ?_
      refine eX9_readsWord_58 hC (by assumption) ?_
      rw [f3]
      refine eX9_readsWord_61 hC ?_
      rw [pk_mul]
      refine eX9_readsWord_62 hC ?_
      refine eX9_readsWord_63 hC (by assumption) (by assumption) ?_
      refine eX9_readsWord_66 hC ?_
      refine eX9_readsWord_67 hC (by assumption) ?_
      rw [zup_self]
      refine eX9_readsWord_70 hC (by assumption) (vp_in_nI (by omega) (by omega)) ?_
      rw [nI_clamp (by omega), (hB3.2.2.2 (p + 1) t12.1).1]
      refine eX9_readsWord_71 hC ?_
      rw [nI_add]
      refine eX9_readsWord_72 hC ?_
      refine eX9_readsWord_74 hC ?_
      rw [nI_sub (by omega), show 10 * (β p - 48) + β (p + 1) - 48 = 10 * (β p - 48) + (β (p + 1) - 48) by omega]
      refine eX9_readsWord_75 hC ?_
      refine eX9_readsWord_77 hC (fun _ => ?_) (fun zz => absurd (nI_lt (by omega) (by omega)) zz)
      refine B (p + 1) _ eF.symm (by omega) (zup_self _ _ _ _) (by rw [eW]; exact f3) ?_ fr3
      rw [zup_k _ _ _ (by omega), zup_k _ _ _ (by omega), zup_self]
  · have hT : ¬ zrT β L p := fun z => t12 ⟨z.1, z.2.1⟩
    have eF : zrF β L p = p + 1 := by unfold zrF; rw [zif_f hT]
    have eW : zrW β L p = β p - 48 := by unfold zrW; rw [zif_f hT]
    refine eX9_readsWord_0 hC ?_
    refine eX9_readsWord_1 hC ?_
    refine eX9_readsWord_2 hC (by assumption) ?_
    refine eX9_readsWord_5 hC ?_
    refine eX9_readsWord_6 hC ?_
    refine eX9_readsWord_8 hC ?_
    refine eX9_readsWord_10 hC (Nat.le_of_ble_eq_true rfl) (Nat.le_of_ble_eq_true rfl) (Nat.le_of_ble_eq_true rfl) (by assumption) (vX9_isHere hC.nt (hB.up (by omega)) f1 (by omega) (by omega) (by omega)) (zk_i ?_)
    rw [zBv_t (p := p < L ∧ 49 ≤ β p ∧ β p ≤ 57) ⟨hpL, hd⟩]
    refine eX9_readsWord_13 hC (fun _ => ?_) (fun zz => absurd zz zn10)
    refine eX9_readsWord_18 hC ?_
    refine eX9_readsWord_19 hC ?_
    refine eX9_readsWord_20 hC (by assumption) (by assumption) ?_
    refine eX9_readsWord_23 hC ?_
    refine eX9_readsWord_24 hC (by assumption) ?_
    rw [f1]
    refine eX9_readsWord_27 hC (by assumption) (vp_in_nI (by omega) (by omega)) ?_
    rw [nI_clamp (by omega), (zup_a _ _ _ _ (by omega) : zup μ m 13 (nI 0) (m + 2) _ = _), b1]
    refine eX9_readsWord_28 hC ?_
    refine eX9_readsWord_30 hC ?_
    rw [nI_sub (by omega)]
    refine eX9_readsWord_31 hC (by assumption) ?_
    refine eX9_readsWord_34 hC ?_
    refine eX9_readsWord_35 hC ?_
    refine eX9_readsWord_36 hC (by assumption) ?_
    rw [f2]
    refine eX9_readsWord_39 hC ?_
    refine eX9_readsWord_40 hC ?_
    rw [nI_add]
    refine eX9_readsWord_41 hC (by assumption) ?_
    refine eX9_readsWord_44 hC ?_
    refine eX9_readsWord_45 hC ?_
    refine eX9_readsWord_47 hC ?_
    refine eX9_readsWord_49 hC (Nat.le_of_ble_eq_true rfl) (Nat.le_of_ble_eq_true rfl) (Nat.le_of_ble_eq_true rfl) (by assumption) (vX9_isHere hC.nt hB3 (zup_self _ _ _ _) (by omega) (by omega) (by omega)) (zk_i ?_)
    rw [zBv_f (p := p + 1 < L ∧ 48 ≤ β (p + 1) ∧ β (p + 1) ≤ 57) t12]
    refine eX9_readsWord_52 hC (fun _ => ?_) (fun zz => absurd zn00 zz)
    refine B (p + 1) _ eF.symm (by omega) (zup_self _ _ _ _) (by rw [eW]; exact f3) ?_ fr3
    rw [zup_k _ _ _ (by omega), zup_k _ _ _ (by omega), zup_self]
/-- how many words the buffer has; -1 if it is not an input text -/
noncomputable def zrN (β : Nat → Nat) (L : Nat) : Int32 := match zrun β L with
  | none => -1
  | some s => if s.2.1 s.1 = 0 then -1 else nI (s.1 + 1)
set_option maxHeartbeats 8000000 in
theorem vX9_reads {l : Launch} {g : zG} (hl : l.stackTraces = false) {K : zK} {μ : zF} {m L : Nat} {β : Nat → Nat} (hB : zBq K μ m L β) : EX9_reads l g 0 0 [.ref m] K μ (zPv (zrN β L) K (fun μ' => μ' m 11 = nI (zfe β L) ∧ ∀ a j, ¬ (a = m ∧ 11 ≤ j) → μ' a j = μ a j)) := by
  obtain ⟨h0, h1, h2, h3, h4, h5, h6, h7, h8, i1, i2, i3, i4, i5, i6, i7, i8⟩ := id hB.1
  have l60 := hB.2.2.1
  refine nX9_reads hl (fun x hC hQ => ?_)
  have loop : ∀ (d p : Nat) (s : zBS) (μ1 : zF), L - p ≤ d → p ≤ L → zrun β p = some s → s.2.1 s.1 = 0 → s.2.2 s.1 = 0 → μ1 m 11 = nI p → (∀ a j, ¬ (a = m ∧ 11 ≤ j) → μ1 a j = μ a j) → zV x 0 0 7 [some (.ref m), some (.int (nI s.1))] [] K μ1 := by
    intro d
    induction d with
    | zero =>
      intro p s μ1 hdp hpL hs sW sM e11 hf
      obtain rfl : p = L := by omega
      have hB1 : zBq K μ1 m p β := hB.fr (hf _ _ (by omega)) (fun j => hf _ _ (by omega))
      have en : zrN β p = -1 := by unfold zrN; rw [hs]; exact if_pos sW
      have ef : zfe β p = p := zfe_some hs (Nat.le_refl _) (Or.inl rfl)
      refine eX9_reads_7 hC ?_
      refine eX9_reads_8 hC (Nat.le_of_ble_eq_true rfl) (Nat.le_of_ble_eq_true rfl) (Nat.le_of_ble_eq_true rfl) (by assumption) (vX9_readsNo hC.nt hB1 e11 (by omega) (fun z => absurd z.1 (Nat.lt_irrefl _))) (zk_v (fun μ_8 m_8 => ?_))
      subst m_8
      refine eX9_reads_11 hC (fun _ => ?_) (fun zz => absurd zn00 zz)
      refine eX9_reads_59 hC ?_
      refine eX9_reads_60 hC hQ (Nat.le_of_ble_eq_true rfl) (Nat.le_of_ble_eq_true rfl) ?_
      refine ⟨by rw [en], rfl, ?_, fun a j z => ?_⟩
      · rw [zup_k _ _ _ (by omega), ef]; exact e11
      · unfold zup
        rw [if_neg (by omega)]
        exact hf a j z
    | succ d ih =>
      intro p s μ1 hdp hpL hs sW sM e11 hf
      have hB1 : zBq K μ1 m L β := hB.fr (hf _ _ (by omega)) (fun j => hf _ _ (by omega))
      by_cases c1 : p < L ∧ 49 ≤ β p ∧ β p ≤ 57
      · obtain ⟨⟨s', r1, r2, r3, r4⟩, r5⟩ := zrw_run hs sW sM c1.1 c1.2
        obtain ⟨w1, w2⟩ := zrW_in (L := L) c1.2
        obtain ⟨g1, g2⟩ := zrE_in (β := β) c1.1
        generalize hE : zrE β L (zrF β L p) = E at *
        have hk40 : s.1 ≤ 60 := by have := (zrun_ok hs).1; omega
        by_cases c2 : E = L
        · have en : zrN β L = nI (s.1 + 1) := by
            unfold zrN
            rw [← c2, r1]
            show (if s'.2.1 s'.1 = 0 then (-1 : Int32) else nI (s'.1 + 1)) = _
            rw [r2, r3, if_neg (by omega)]
          have ef : zfe β L = E := zfe_some r1 g2 (Or.inl c2)
          refine eX9_reads_7 hC ?_
          refine eX9_reads_8 hC (Nat.le_of_ble_eq_true rfl) (Nat.le_of_ble_eq_true rfl) (Nat.le_of_ble_eq_true rfl) (by assumption) (vX9_readsYes hC.nt hB1 e11 c1.1 c1.2) (zk_v (fun μ_8 m_8 => ?_))
          obtain ⟨y1, y2, y3, y4⟩ := m_8
          rw [hE] at y1
          have hB2 : zBq K μ_8 m L β := hB1.fr (y4 _ _ (by omega)) (fun j => y4 _ _ (by omega))
          refine eX9_reads_11 hC (fun zz => absurd zz zn10) (fun _ => ?_)
          refine eX9_reads_14 hC ?_
          rw [nI_add]
          refine eX9_reads_17 hC ?_
          refine eX9_reads_18 hC (by assumption) ?_
          rw [y1]
          refine eX9_reads_21 hC ?_
          refine eX9_reads_22 hC (by assumption) ?_
          rw [hB2.2.1]
          refine eX9_reads_25 hC (fun zz => absurd (by rw [c2]) zz) (fun _ => ?_)
          refine eX9_reads_28 hC ?_
          refine eX9_reads_29 hC hQ (Nat.le_of_ble_eq_true rfl) (Nat.le_of_ble_eq_true rfl) ?_
          exact ⟨by rw [en], rfl, by rw [ef]; exact y1, fun a j z => (y4 a j z).trans (hf a j z)⟩
        · have gL : E < L := by omega
          obtain ⟨bE, bE2⟩ := hB1.2.2.2 E gL
          by_cases c3 : β E = 44
          · have r6 := zrw_comma r1 (by rw [r2, r3]; omega) c3
            rw [r2] at r6
            have bE3 : ∀ μ2 : zF, (∀ a j, ¬ (a = m ∧ 11 ≤ j) → μ2 a j = μ1 a j) → μ2 (m + 2) E = nI (β E) := fun μ2 y => (y _ _ (by omega)).trans bE
            refine eX9_reads_7 hC ?_
            refine eX9_reads_8 hC (Nat.le_of_ble_eq_true rfl) (Nat.le_of_ble_eq_true rfl) (Nat.le_of_ble_eq_true rfl) (by assumption) (vX9_readsYes hC.nt hB1 e11 c1.1 c1.2) (zk_v (fun μ_8 m_8 => ?_))
            obtain ⟨y1, y2, y3, y4⟩ := m_8
            rw [hE] at y1
            have hB2 : zBq K μ_8 m L β := hB1.fr (y4 _ _ (by omega)) (fun j => y4 _ _ (by omega))
            refine eX9_reads_11 hC (fun zz => absurd zz zn10) (fun _ => ?_)
            refine eX9_reads_14 hC ?_
            rw [nI_add]
            refine eX9_reads_17 hC ?_
            refine eX9_reads_18 hC (by assumption) ?_
            rw [y1]
            refine eX9_reads_21 hC ?_
            refine eX9_reads_22 hC (by assumption) ?_
            rw [hB2.2.1]
            refine eX9_reads_25 hC (fun _ => ?_) (fun zz => absurd zz (fun z => c2 (nI_inj (by omega) (by omega) z)))
            refine eX9_reads_30 hC ?_
            refine eX9_reads_31 hC (by assumption) (by assumption) ?_
            refine eX9_reads_34 hC ?_
            refine eX9_reads_35 hC (by assumption) ?_
            rw [y1]
            refine eX9_reads_38 hC (by assumption) (vp_in_nI (by omega) (by omega)) ?_
            rw [nI_clamp (by omega), bE3 _ y4]
            refine eX9_reads_39 hC ?_
            refine eX9_reads_41 hC (fun _ => ?_) (fun zz => absurd (by rw [c3]) zz)
            refine eX9_reads_46 hC ?_
            refine eX9_reads_47 hC ?_
            refine eX9_reads_48 hC (by assumption) ?_
            rw [y1]
            refine eX9_reads_51 hC ?_
            refine eX9_reads_52 hC ?_
            rw [nI_add]
            refine eX9_reads_53 hC (by assumption) ?_
            refine eX9_reads_56 hC ?_
            refine ih (E + 1) (s.1 + 1, zuf s'.2.1 (s.1 + 1) 0, zuf s'.2.2 (s.1 + 1) 0) _ (by omega) (by omega) r6 (zuf_eq _ _ _) (zuf_eq _ _ _) (zup_self _ _ _ _) (fun a j z => ?_)
            unfold zup
            rw [if_neg (by omega)]
            exact (y4 a j z).trans (hf a j z)
          · have r6 := r5 gL c3
            have en : zrN β L = -1 := by
              unfold zrN
              have := zrun_mono r6 (L - (E + 1))
              rw [show E + 1 + (L - (E + 1)) = L by omega] at this
              rw [this]
            have ef : zfe β L = E := zfe_some r1 g2 (Or.inr r6)
            have bE3 : ∀ μ2 : zF, (∀ a j, ¬ (a = m ∧ 11 ≤ j) → μ2 a j = μ1 a j) → μ2 (m + 2) E = nI (β E) := fun μ2 y => (y _ _ (by omega)).trans bE
            refine eX9_reads_7 hC ?_
            refine eX9_reads_8 hC (Nat.le_of_ble_eq_true rfl) (Nat.le_of_ble_eq_true rfl) (Nat.le_of_ble_eq_true rfl) (by assumption) (vX9_readsYes hC.nt hB1 e11 c1.1 c1.2) (zk_v (fun μ_8 m_8 => ?_))
            obtain ⟨y1, y2, y3, y4⟩ := m_8
            rw [hE] at y1
            have hB2 : zBq K μ_8 m L β := hB1.fr (y4 _ _ (by omega)) (fun j => y4 _ _ (by omega))
            refine eX9_reads_11 hC (fun zz => absurd zz zn10) (fun _ => ?_)
            refine eX9_reads_14 hC ?_
            rw [nI_add]
            refine eX9_reads_17 hC ?_
            refine eX9_reads_18 hC (by assumption) ?_
            rw [y1]
            refine eX9_reads_21 hC ?_
            refine eX9_reads_22 hC (by assumption) ?_
            rw [hB2.2.1]
            refine eX9_reads_25 hC (fun _ => ?_) (fun zz => absurd zz (fun z => c2 (nI_inj (by omega) (by omega) z)))
            refine eX9_reads_30 hC ?_
            refine eX9_reads_31 hC (by assumption) (by assumption) ?_
            refine eX9_reads_34 hC ?_
            refine eX9_reads_35 hC (by assumption) ?_
            rw [y1]
            refine eX9_reads_38 hC (by assumption) (vp_in_nI (by omega) (by omega)) ?_
            rw [nI_clamp (by omega), bE3 _ y4]
            refine eX9_reads_39 hC ?_
            refine eX9_reads_41 hC (fun zz => absurd zz (fun z => c3 (nI_inj (by omega) (by omega) z))) (fun _ => ?_)
            refine eX9_reads_44 hC ?_
            refine eX9_reads_45 hC hQ (Nat.le_of_ble_eq_true rfl) (Nat.le_of_ble_eq_true rfl) ?_
            exact ⟨by rw [en], rfl, by rw [ef]; exact y1, fun a j z => (y4 a j z).trans (hf a j z)⟩
      · have hne : p = L ∨ zrun β (p + 1) = none := by
          rcases Nat.eq_or_lt_of_le hpL with z | z
          · exact Or.inl z
          · exact Or.inr (zrw_bad (L := L) hs sW sM (fun y => c1 ⟨z, y⟩))
        have en : zrN β L = -1 := by
          unfold zrN
          rcases hne with z | z
          · rw [← z, hs]; exact if_pos sW
          · rcases Nat.eq_or_lt_of_le hpL with y | y
            · rw [← y, hs]; exact if_pos sW
            · have := zrun_mono z (L - (p + 1))
              rw [show p + 1 + (L - (p + 1)) = L by omega] at this
              rw [this]
        have ef : zfe β L = p := zfe_some hs hpL hne
        refine eX9_reads_7 hC ?_
        refine eX9_reads_8 hC (Nat.le_of_ble_eq_true rfl) (Nat.le_of_ble_eq_true rfl) (Nat.le_of_ble_eq_true rfl) (by assumption) (vX9_readsNo hC.nt hB1 e11 (by omega) c1) (zk_v (fun μ_8 m_8 => ?_))
        subst m_8
        refine eX9_reads_11 hC (fun _ => ?_) (fun zz => absurd zn00 zz)
        refine eX9_reads_59 hC ?_
        refine eX9_reads_60 hC hQ (Nat.le_of_ble_eq_true rfl) (Nat.le_of_ble_eq_true rfl) ?_
        refine ⟨by rw [en], rfl, ?_, fun a j z => ?_⟩
        · rw [zup_k _ _ _ (by omega), ef]; exact e11
        · unfold zup
          rw [if_neg (by omega)]
          exact hf a j z
  refine eX9_reads_0 hC ?_
  refine eX9_reads_1 hC ?_
  refine eX9_reads_2 hC (by assumption) ?_
  refine eX9_reads_5 hC ?_
  refine eX9_reads_6 hC ?_
  refine loop L 0 (0, (fun _ => 0), fun _ => 0) _ (by omega) (by omega) rfl rfl rfl (zup_self _ _ _ _) (fun a j z => ?_)
  unfold zup
  rw [if_neg (by omega)]
theorem zM9.bq {K : zK} {μ : zF} {m : Nat} {S : zMs} (h : zM9 μ m S) (hR : zRef K m) (ho : zMok S) : zBq K μ m S.2.2.2.1 S.2.2.2.2 := ⟨hR, h.2.2.2.1, ho.2.2.2.1, fun i hi => ⟨h.2.2.2.2.1 i hi, (ho.2.2.2.2 i hi).2⟩⟩
theorem zM9.f11 {μ μ' : zF} {m : Nat} {S : zMs} (h : zM9 μ m S) (hf : ∀ a j, ¬ (a = m ∧ 11 ≤ j) → μ' a j = μ a j) : zM9 μ' m S := h.fr (fun j => hf _ _ (by omega)) (hf _ _ (by omega)) (hf _ _ (by omega)) (fun j => hf _ _ (by omega)) ((hf _ _ (by omega)).trans h.2.2.2.2.2)
theorem zag11 {μ μ' : zF} {m : Nat} (hf : ∀ a j, ¬ (a = m ∧ 11 ≤ j) → μ' a j = μ a j) : zAg μ μ' m (m + 9) := fun a j z => hf a j (by omega)
set_option maxHeartbeats 4000000 in
theorem vX9_firstError {l : Launch} {g : zG} (hl : l.stackTraces = false) {K : zK} {μ : zF} {m : Nat} {S : zMs} (hR : zRef K m) (hM : zM9 μ m S) (ho : zMok S) : EX9_firstError l g 0 0 [.ref m] K μ (zN9 zc1 (zdo_firstError S) K μ m S) := by
  obtain ⟨h0, h1, h2, h3, h4, h5, h6, h7, h8, i1, i2, i3, i4, i5, i6, i7, i8⟩ := id hR
  obtain ⟨a1, a2, a3, a4, a5, a6⟩ := id hM
  have o80 := ho.1.1
  have e80 : μ (m + 1) 80 = nI (S.1 80) := by have := a1.2 80 (by omega) (by omega); rwa [Nat.zero_add] at this
  refine nX9_firstError hl (fun x hC hQ => ?_)
  refine eX9_firstError_0 hC ?_
  refine eX9_firstError_1 hC ?_
  refine eX9_firstError_2 hC (by assumption) ?_
  refine eX9_firstError_5 hC ?_
  refine eX9_firstError_6 hC (Nat.le_of_ble_eq_true rfl) (Nat.le_of_ble_eq_true rfl) (Nat.le_of_ble_eq_true rfl) (by assumption) (vX9_reads hC.nt (hM.up4.bq hR ho)) (zk_v (fun μ_6 m_6 => ?_))
  refine eX9_firstError_9 hC ?_
  refine eX9_firstError_10 hC ?_
  refine eX9_firstError_11 hC (by assumption) ?_
  obtain ⟨y1, y2⟩ := m_6
  rw [y1]
  refine eX9_firstError_14 hC hQ (Nat.le_of_ble_eq_true rfl) (Nat.le_of_ble_eq_true rfl) ?_
  exact zN9.ok rfl ((zAg.up (by omega)).trans (zag11 y2)) ((y2 _ _ (by omega)).trans (zup_self _ _ _ _)) (hM.up4.f11 y2)
