/-! ===== chains of blocks: pages ===== -/
def gC (nx : Nat → Nat) (M : Nat) : Nat → Nat
  | 0 => 0
  | k + 1 => if gC nx M k < M then nx (gC nx M k) else gC nx M k
def gOk (nx : Nat → Nat) (M : Nat) : Prop := ∀ l, l < M → l < nx l ∧ nx l ≤ M
theorem gC_next {nx : Nat → Nat} {M k : Nat} (h : gC nx M k < M) : gC nx M (k + 1) = nx (gC nx M k) := by
  show (if gC nx M k < M then nx (gC nx M k) else gC nx M k) = _
  rw [if_pos h]
theorem gC_stop {nx : Nat → Nat} {M k : Nat} (h : ¬ gC nx M k < M) : gC nx M (k + 1) = gC nx M k := by
  show (if gC nx M k < M then nx (gC nx M k) else gC nx M k) = _
  rw [if_neg h]
theorem gC_le {nx : Nat → Nat} {M : Nat} (g : gOk nx M) : ∀ k, gC nx M k ≤ M
  | 0 => Nat.zero_le _
  | k + 1 => by
    have ih := gC_le g k
    by_cases c : gC nx M k < M
    · rw [gC_next c]; exact (g _ c).2
    · rw [gC_stop c]; exact ih
theorem gC_lt {nx : Nat → Nat} {M k : Nat} (g : gOk nx M) (h : gC nx M k < M) : gC nx M k < gC nx M (k + 1) := by
  rw [gC_next h]; exact (g _ h).1
theorem gC_mono {nx : Nat → Nat} {M : Nat} (g : gOk nx M) (k : Nat) : ∀ d, gC nx M k ≤ gC nx M (k + d)
  | 0 => Nat.le_refl _
  | d + 1 => by
    have ih := gC_mono g k d
    by_cases c : gC nx M (k + d) < M
    · have := gC_lt g c
      rw [show k + (d + 1) = k + d + 1 by omega]; omega
    · rw [show k + (d + 1) = k + d + 1 by omega, gC_stop c]; exact ih
theorem gC_mono' {nx : Nat → Nat} {M j k : Nat} (g : gOk nx M) (h : j ≤ k) : gC nx M j ≤ gC nx M k := by
  have := gC_mono g j (k - j)
  rwa [show j + (k - j) = k by omega] at this
theorem gC_smono {nx : Nat → Nat} {M j k : Nat} (g : gOk nx M) (h : j < k) (hj : gC nx M j < M) : gC nx M j < gC nx M k := Nat.lt_of_lt_of_le (gC_lt g hj) (gC_mono' g (show j + 1 ≤ k from h))
theorem gC_ge {nx : Nat → Nat} {M : Nat} (g : gOk nx M) : ∀ k, k ≤ gC nx M k ∨ gC nx M k = M
  | 0 => Or.inl (Nat.zero_le _)
  | k + 1 => by
    by_cases c : gC nx M k < M
    · have := gC_lt g c
      rcases gC_ge g k with q | q
      · exact Or.inl (by omega)
      · omega
    · rw [gC_stop c]; exact Or.inr (by have := gC_le g k; omega)
noncomputable def gM (nx : Nat → Nat) (M : Nat) : Nat := zfst (fun k => gC nx M k = M) 0 M
theorem gM_is {nx : Nat → Nat} {M : Nat} (g : gOk nx M) : gM nx M ≤ M ∧ gC nx M (gM nx M) = M ∧ ∀ k, k < gM nx M → gC nx M k < M := by
  obtain ⟨g1, g2, g3, g4⟩ := zfst_is (fun k => gC nx M k = M) M 0 ⟨M, by omega, by omega, by
    rcases gC_ge g M with q | q
    · have := gC_le g M; omega
    · exact q⟩
  refine ⟨by unfold gM; omega, g3, fun k hk => ?_⟩
  have := gC_le g k
  have := g4 k (by omega) hk
  omega
theorem gM_iff {nx : Nat → Nat} {M k : Nat} (g : gOk nx M) : k < gM nx M ↔ gC nx M k < M := by
  obtain ⟨g1, g2, g3⟩ := gM_is g
  constructor
  · exact g3 k
  · intro h
    rcases Nat.lt_or_ge k (gM nx M) with q | q
    · exact q
    · have := gC_mono' g q; omega
noncomputable def gO (nx : Nat → Nat) (M w : Nat) : Nat := zfst (fun k => w < gC nx M (k + 1)) 0 M
theorem gO_is {nx : Nat → Nat} {M w : Nat} (g : gOk nx M) (h : w < M) : gO nx M w < gM nx M ∧ gC nx M (gO nx M w) ≤ w ∧ w < gC nx M (gO nx M w + 1) := by
  obtain ⟨m1, m2, m3⟩ := gM_is g
  have hm0 : 0 < gM nx M := by
    rcases Nat.eq_zero_or_pos (gM nx M) with q | q
    · rw [q] at m2
      have : gC nx M 0 = 0 := rfl
      omega
    · exact q
  obtain ⟨g1, g2, g3, g4⟩ := zfst_is (fun k => w < gC nx M (k + 1)) M 0 ⟨gM nx M - 1, by omega, by omega, by
    show w < gC nx M (gM nx M - 1 + 1)
    rw [show gM nx M - 1 + 1 = gM nx M by omega, m2]; exact h⟩
  have g5 : gC nx M (gO nx M w) ≤ w := by
    rcases Nat.eq_zero_or_pos (gO nx M w) with q | q
    · rw [q]; exact Nat.zero_le _
    · have := g4 (gO nx M w - 1) (by omega) (by unfold gO at q ⊢; omega)
      rw [show gO nx M w - 1 + 1 = gO nx M w by omega] at this
      omega
  exact ⟨(gM_iff g).mpr (by omega), g5, g3⟩
theorem gO_eq {nx : Nat → Nat} {M w k : Nat} (g : gOk nx M) (h : w < M) (h1 : gC nx M k ≤ w) (h2 : w < gC nx M (k + 1)) : gO nx M w = k := by
  obtain ⟨g1, g2, g3⟩ := gO_is g h
  rcases Nat.lt_trichotomy (gO nx M w) k with q | q | q
  · have := gC_mono' g (show gO nx M w + 1 ≤ k from q); omega
  · exact q
  · have := gC_mono' g (show k + 1 ≤ gO nx M w from q); omega
/-- a line that opens, that closes a paragraph of several lines -/
def zop (τ : Nat → Nat) (m j : Nat) : Prop := zfp τ m j ∧ ¬ zlp τ m j
def zcl (τ : Nat → Nat) (m j : Nat) : Prop := zlp τ m j ∧ ¬ zfp τ m j
/-- the first line that a page from the line l doesn't get -/
noncomputable def zpx (τ : Nat → Nat) (m l : Nat) : Nat := if l + τ 86 < zm τ m then zif (zop τ m (l + τ 86 - 1) ∨ zcl τ m (l + τ 86)) (l + τ 86 - 1) (l + τ 86) else zm τ m
theorem zpx_ok {τ : Nat → Nat} (ho : zOk τ) (m : Nat) : gOk (zpx τ m) (zm τ m) := fun l hl => by
  have h86 := ho.2.2.2.2.2.2.2.2.1
  unfold zpx
  by_cases c : l + τ 86 < zm τ m
  · rw [if_pos c]
    by_cases c2 : zop τ m (l + τ 86 - 1) ∨ zcl τ m (l + τ 86)
    · rw [zif_t c2]; omega
    · rw [zif_f c2]; omega
  · rw [if_neg c]; omega
noncomputable def zP (τ : Nat → Nat) (m k : Nat) : Nat := gC (zpx τ m) (zm τ m) k
noncomputable def zpm (τ : Nat → Nat) (m : Nat) : Nat := gM (zpx τ m) (zm τ m)
noncomputable def zpo (τ : Nat → Nat) (m j : Nat) : Nat := gO (zpx τ m) (zm τ m) j
noncomputable def zwn (τ : Nat → Nat) (m : Nat) : Nat := zct (fun k => k ≠ 0 ∧ zcl τ m (zP τ m k)) (zpm τ m)
noncomputable def zon (τ : Nat → Nat) (m : Nat) : Nat := zct (fun k => zop τ m (zP τ m (k + 1) - 1)) (zpm τ m - 1)
/-! pages in the picture -/
def zPag (K : zK) (p t y : Nat) : Prop := zO K p 5 ∧ zr K p 0 t ∧ zr K p 1 y ∧ zr K p 2 (p + 1) ∧ zr K p 3 (p + 3) ∧ zRow K (p + 1) 41 ∧ zRow K (p + 3) 40
theorem zPag.o {K : zK} {p t y : Nat} (h : zPag K p t y) : zO K p 5 := h.1
def zPgv (μ : zF) (p : Nat) (τ : Nat → Nat) (m : Nat) : Prop := μ p 4 = nI (zpm τ m) ∧ (∀ k, k ≤ zpm τ m → μ (p + 2) k = nI (zP τ m k)) ∧ ∀ j, j < zm τ m → μ (p + 4) j = nI (zpo τ m j)
theorem zPgv.ag {μ μ' : zF} {p lo hi m : Nat} {τ : Nat → Nat} (h : zPgv μ p τ m) (ha : zAg μ μ' lo hi) (hd : p + 5 ≤ lo ∨ hi ≤ p) : zPgv μ' p τ m := by
  refine ⟨?_, fun k hk => ?_, fun j hj => ?_⟩
  · rw [ha _ _ (by omega)]; exact h.1
  · rw [ha _ _ (by omega)]; exact h.2.1 k hk
  · rw [ha _ _ (by omega)]; exact h.2.2 j hj
