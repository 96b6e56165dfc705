/-! ===== lines: of a word; widths, stairs, costs ===== -/
/-- the line of the word w -/
noncomputable def zlo (τ : Nat → Nat) (m w : Nat) : Nat := zfst (fun k => w < zL τ m (k + 1)) 0 (τ 80)
theorem zlo_is {τ : Nat → Nat} {m w : Nat} (h : w < τ 80) : zlo τ m w < zm τ m ∧ zL τ m (zlo τ m w) ≤ w ∧ w < zL τ m (zlo τ m w + 1) := by
  obtain ⟨m1, m2, m3⟩ := zm_is τ m
  have hm0 : 0 < zm τ m := by
    rcases Nat.eq_zero_or_pos (zm τ m) with q | q
    · rw [q] at m2
      have : zL τ m 0 = 0 := rfl
      omega
    · exact q
  obtain ⟨g1, g2, g3, g4⟩ := zfst_is (fun k => w < zL τ m (k + 1)) (τ 80) 0 ⟨zm τ m - 1, by omega, by omega, by
    show w < zL τ m (zm τ m - 1 + 1)
    rw [show zm τ m - 1 + 1 = zm τ m by omega, m2]; exact h⟩
  have g5 : zL τ m (zlo τ m w) ≤ w := by
    rcases Nat.eq_zero_or_pos (zlo τ m w) with q | q
    · rw [q]; exact Nat.zero_le _
    · have := g4 (zlo τ m w - 1) (by omega) (by unfold zlo at q ⊢; omega)
      rw [show zlo τ m w - 1 + 1 = zlo τ m w by omega] at this
      omega
  exact ⟨zm_iff.mpr (by omega), g5, g3⟩
theorem zlo_eq {τ : Nat → Nat} {m w k : Nat} (h : w < τ 80) (h1 : zL τ m k ≤ w) (h2 : w < zL τ m (k + 1)) : zlo τ m w = k := by
  obtain ⟨g1, g2, g3⟩ := zlo_is (m := m) h
  rcases Nat.lt_trichotomy (zlo τ m w) k with q | q | q
  · have := zL_mono' (τ := τ) (m := m) (show zlo τ m w + 1 ≤ k from q); omega
  · exact q
  · have := zL_mono' (τ := τ) (m := m) (show k + 1 ≤ zlo τ m w from q); omega
noncomputable def zlw (τ : Nat → Nat) (m j : Nat) : Nat := zwd τ (zL τ m j) (zL τ m (j + 1))
def zfp (τ : Nat → Nat) (m j : Nat) : Prop := zps τ (zL τ m j)
def zlp (τ : Nat → Nat) (m j : Nat) : Prop := zpe τ (zL τ m (j + 1) - 1)
/-- the stair over the line j: 0 narrower, 2 wider, 1 none -/
noncomputable def zsa (τ : Nat → Nat) (m j : Nat) : Nat := zif (zfp τ m j ∨ zlp τ m j ∨ zlp τ m (j + 1)) 1 (if ztn τ (zlw τ m (j - 1)) (zlw τ m j) = ztn τ (zlw τ m j) (zlw τ m (j + 1)) then ztn τ (zlw τ m (j - 1)) (zlw τ m j) else 1)
theorem zsa_le (τ : Nat → Nat) (m j : Nat) : zsa τ m j ≤ 2 := by
  unfold zsa
  by_cases h : zfp τ m j ∨ zlp τ m j ∨ zlp τ m (j + 1)
  · rw [zif_t h]; omega
  · rw [zif_f h]
    split
    · exact ztn_le _ _ _
    · omega
noncomputable def zlc (τ : Nat → Nat) (m j : Nat) : Nat := zif (zlp τ m j) (zif (¬ zfp τ m j ∧ 4 * zlw τ m j < τ 81) (τ 85) 0) ((τ 81 - zlw τ m j) * (τ 81 - zlw τ m j))
noncomputable def zcs (τ : Nat → Nat) (m j : Nat) : Nat := zlc τ m j + (if zsa τ m j = 1 then 0 else τ 84)
/-- the cost of the first j lines -/
noncomputable def ztc (τ : Nat → Nat) (m : Nat) : Nat → Nat
  | 0 => 0
  | j + 1 => ztc τ m j + zcs τ m j
theorem zL_rc {τ : Nat → Nat} {m k : Nat} (h : k < zm τ m) : zL τ m (k + 1) ≤ zrc τ (zL τ m k) := by
  have := zm_iff.mp h
  rw [zL_next (b := (zst τ m k).1) (i := zL τ m k) (t := (zst τ m k).2.2) rfl this]
  exact (znx_is _ _ _ this).2
theorem zlw_col {τ : Nat → Nat} (ho : zOk τ) {m k : Nat} (h : k < zm τ m) : zlw τ m k ≤ τ 81 := zwd_col ho (zm_iff.mp h) (zL_lt (zm_iff.mp h)) (zL_rc h)
theorem zcs_le {τ : Nat → Nat} (ho : zOk τ) (m j : Nat) : zcs τ m j ≤ 19999 := by
  have h1 := zsq_le (a := τ 81 - zlw τ m j) (c := τ 81) (by omega) ho.2.2.2.1.2
  have h84 := ho.2.2.2.2.2.2.1
  have h85 := ho.2.2.2.2.2.2.2.1
  have h2 : zlc τ m j ≤ 10000 := by
    unfold zlc
    by_cases c : zlp τ m j
    · rw [zif_t c]
      by_cases c2 : ¬ zfp τ m j ∧ 4 * zlw τ m j < τ 81
      · rw [zif_t c2]; omega
      · rw [zif_f c2]; omega
    · rw [zif_f c]; exact h1
  unfold zcs
  split <;> omega
theorem ztc_le {τ : Nat → Nat} (ho : zOk τ) (m : Nat) : ∀ j, ztc τ m j ≤ 19999 * j
  | 0 => Nat.le_refl _
  | j + 1 => by
    have := ztc_le ho m j
    have := zcs_le ho m j
    show ztc τ m j + zcs τ m j ≤ _
    omega
/-! a layout in the picture -/
def zLay (K : zK) (y t : Nat) : Prop := zO K y 3 ∧ zr K y 0 t ∧ zr K y 1 (y + 5) ∧ zr K y 2 (y + 10) ∧ zr K y 3 (y + 1) ∧ zr K y 4 (y + 3) ∧ zRow K (y + 1) 41 ∧ zRow K (y + 3) 40 ∧ zFit K (y + 5) t ∧ zOpt K (y + 10) t (y + 5)
theorem zLay.o {K : zK} {y t : Nat} (h : zLay K y t) : zO K y 3 := h.1
def zLv (μ : zF) (y : Nat) (τ : Nat → Nat) (m : Nat) : Prop := μ y 5 = nI (zm τ m) ∧ (∀ k, k ≤ zm τ m → μ (y + 2) k = nI (zL τ m k)) ∧ (∀ w, w < τ 80 → μ (y + 4) w = nI (zlo τ m w)) ∧ zFs1 μ (y + 5) τ
theorem zLv.ag {μ μ' : zF} {y lo hi m : Nat} {τ : Nat → Nat} (h : zLv μ y τ m) (ha : zAg μ μ' lo hi) (hd : y + 8 ≤ lo ∨ hi ≤ y) : zLv μ' y τ m := by
  refine ⟨?_, fun k hk => ?_, fun w hw => ?_, h.2.2.2.ag ha (by omega)⟩
  · rw [ha _ _ (by omega)]; exact h.1
  · rw [ha _ _ (by omega)]; exact h.2.1 k hk
  · rw [ha _ _ (by omega)]; exact h.2.2.1 w hw
theorem zlp_last {τ : Nat → Nat} {m j : Nat} (hj : j < zm τ m) (h : ¬ zlp τ m j) : j + 1 < zm τ m := by
  have h1 := zm_iff.mp hj
  have h2 := zL_lt h1
  refine zm_iff.mpr ?_
  have h3 := zL_le τ m (j + 1)
  rcases Nat.eq_or_lt_of_le h3 with q | q
  · exact absurd (Or.inr (by omega)) h
  · exact q
theorem zfp_0 {τ : Nat → Nat} {m j : Nat} (h : ¬ zfp τ m j) : 0 < j := by
  rcases Nat.eq_zero_or_pos j with q | q
  · subst q; exact absurd (Or.inl rfl) h
  · exact q
/-- why a line ends behind the word w -/
noncomputable def zre (τ : Nat → Nat) (m w : Nat) : Nat := if zL τ m (zlo τ m w + 1) = w + 1 then zif (zpe τ w) 1 (if τ (40 + w) = 1 then 2 else if zwd τ (zL τ m (zlo τ m w)) (w + 2) ≤ τ 81 then 4 else 3) else 0
