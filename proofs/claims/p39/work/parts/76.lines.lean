/-! ===== the lines: what the law asks of them ===== -/
noncomputable def zLc (τ : Nat → Nat) (m : Nat) : Nat → Nat
  | 0 => 0
  | k + 1 => zLc τ m k + zlc τ m k
theorem ztc_split (τ : Nat → Nat) (m : Nat) : ∀ k, ztc τ m k = zLc τ m k + zct (fun j => zsa τ m j ≠ 1) k * τ 84
  | 0 => by
    show 0 = 0 + 0 * τ 84
    omega
  | k + 1 => by
    have ih := ztc_split τ m k
    show ztc τ m k + zcs τ m k = zLc τ m k + zlc τ m k + _
    rw [ih]
    unfold zcs
    by_cases c : zsa τ m k = 1
    · rw [zct_f (fun q => q c), if_pos c]
      omega
    · rw [zct_t c, if_neg c, Nat.add_mul]
      omega
theorem zct_gap {p : Nat → Prop} {a : Nat} : ∀ d, (∀ w, a ≤ w → w < a + d → ¬ p w) → zct p (a + d) = zct p a
  | 0, _ => rfl
  | d + 1, h => by
    have ih := zct_gap (p := p) (a := a) d (fun w h1 h2 => h w h1 (by omega))
    show zct p (a + d + 1) = _
    rw [zct_f (h (a + d) (by omega) (by omega)), ih]
section ZLN
variable {τ : Nat → Nat} {m k : Nat}
theorem zln_b (h : k < zm τ m) : zL τ m k < τ 80 ∧ zL τ m k < zL τ m (k + 1) ∧ zL τ m (k + 1) ≤ τ 80 ∧ zL τ m (k + 1) ≤ zrc τ (zL τ m k) := ⟨zm_iff.mp h, zL_lt (zm_iff.mp h), zL_le τ m (k + 1), zL_rc h⟩
theorem zln_npe (h : k < zm τ m) {w : Nat} (h1 : zL τ m k ≤ w) (h2 : w + 1 < zL τ m (k + 1)) : ¬ zpe τ w := by
  obtain ⟨a1, a2, a3, a4⟩ := zln_b h
  have a5 := zrc_pd a1
  exact (zpd_is a1).2.2.2 w h1 (by omega)
theorem zln_mark (h : k < zm τ m) {w : Nat} (h1 : zL τ m k ≤ w) (h2 : w + 1 < zL τ m (k + 1)) : τ (40 + w) = 0 := by
  obtain ⟨a1, a2, a3, a4⟩ := zln_b h
  have := ((zrc_is τ (zL τ m k)).2.2 (w + 1) (by omega) (by omega)).2.1
  rwa [Nat.add_sub_cancel] at this
theorem zln_lo (h : k < zm τ m) {w : Nat} (h1 : zL τ m k ≤ w) (h2 : w < zL τ m (k + 1)) : zlo τ m w = k := by
  obtain ⟨a1, a2, a3, a4⟩ := zln_b h
  exact zlo_eq (by omega) h1 h2
theorem zln_re0 (h : k < zm τ m) {w : Nat} (h1 : zL τ m k ≤ w) (h2 : w + 1 < zL τ m (k + 1)) : zre τ m w = 0 := by
  unfold zre
  rw [zln_lo h h1 (by omega), if_neg (by omega)]
theorem zln_re (h : k < zm τ m) {w : Nat} (h2 : w + 1 = zL τ m (k + 1)) : zre τ m w = zif (zlp τ m k) 1 (if τ (40 + w) = 1 then 2 else if zwd τ (zL τ m k) (w + 2) ≤ τ 81 then 4 else 3) := by
  obtain ⟨a1, a2, a3, a4⟩ := zln_b h
  have e : zlp τ m k = zpe τ w := by unfold zlp; rw [← h2, Nat.add_sub_cancel]
  unfold zre
  rw [zln_lo h (by omega) (by omega), if_pos h2.symm, e]
theorem zln_re1 (h : k < zm τ m) {w : Nat} (h2 : w + 1 = zL τ m (k + 1)) : zre τ m w ≠ 0 ∧ zre τ m w ≤ 4 := by
  rw [zln_re h h2]
  by_cases c : zlp τ m k
  · rw [zif_t c]; omega
  · rw [zif_f c]
    split
    · omega
    · split <;> omega
theorem zln_pt (h : k < zm τ m) (c : zlp τ m k) : zct (zpe τ) (zL τ m (k + 1)) = zct (zpe τ) (zL τ m k) + 1 := by
  obtain ⟨a1, a2, a3, a4⟩ := zln_b h
  obtain ⟨d, hd⟩ : ∃ d, zL τ m (k + 1) = zL τ m k + d + 1 := ⟨zL τ m (k + 1) - zL τ m k - 1, by omega⟩
  have e : zpe τ (zL τ m k + d) := by
    have : zpe τ (zL τ m (k + 1) - 1) := c
    rwa [hd, Nat.add_sub_cancel] at this
  rw [hd, zct_t e, zct_gap d (fun w h1 h2 => zln_npe h h1 (by omega))]
theorem zln_pf (h : k < zm τ m) (c : ¬ zlp τ m k) : zct (zpe τ) (zL τ m (k + 1)) = zct (zpe τ) (zL τ m k) := by
  obtain ⟨a1, a2, a3, a4⟩ := zln_b h
  obtain ⟨d, hd⟩ : ∃ d, zL τ m (k + 1) = zL τ m k + d + 1 := ⟨zL τ m (k + 1) - zL τ m k - 1, by omega⟩
  have e : ¬ zpe τ (zL τ m k + d) := fun q => c (by
    unfold zlp
    rw [hd, Nat.add_sub_cancel]
    exact q)
  rw [hd, zct_f e, zct_gap d (fun w h1 h2 => zln_npe h h1 (by omega))]
theorem zln_ps (h : k < zm τ m) : zps τ (zL τ m (k + 1)) ↔ zlp τ m k := by
  obtain ⟨a1, a2, a3, a4⟩ := zln_b h
  exact ⟨fun q => q.elim (fun q => absurd q (by omega)) id, Or.inr⟩
end ZLN
/-- the width as the law counts it -/
def zsu (τ : Nat → Nat) (i w : Nat) : Int32 := if w ≤ i then -(nI (τ 82)) else nI (zwd τ i w)
theorem zsu_step {τ : Nat → Nat} {i w : Nat} (h : i ≤ w) : zsu τ i w + (nI (τ 82) + nI (τ w)) = zsu τ i (w + 1) := by
  unfold zsu
  rw [if_neg (show ¬ w + 1 ≤ i by omega)]
  rcases Nat.eq_or_lt_of_le h with q | q
  · subst q
    rw [if_pos (Nat.le_refl _), zwd_one, ← Int32.add_assoc, Int32.add_left_neg, Int32.zero_add]
  · rw [if_neg (by omega), nI_add, nI_add]
    congr 1
    unfold zwd
    have h1 : zsm τ (w + 1) = zsm τ w + τ w := rfl
    have h2 := zsm_le (τ := τ) h
    have h3 : τ 82 * (w + 1 - i - 1) = τ 82 * (w - i - 1) + τ 82 := by
      rw [show w + 1 - i - 1 = (w - i - 1) + 1 by omega, Nat.mul_add, Nat.mul_one]
    omega
theorem zsu_e {τ : Nat → Nat} {i w : Nat} (h : i < w) : zsu τ i w = nI (zwd τ i w) := if_neg (by omega)
/-- a stair's steps -/
theorem zst_lt {τ : Nat → Nat} {a b u : Nat} (ha : a < 2000) (hb : b < 2000) (hs : τ 83 < 100) (hu : ztn τ b a = u) (h1 : u ≠ 1) : ¬ (nI a - nI b) * (nI u - nI 1) < nI (τ 83) := by
  unfold ztn at hu
  by_cases c : a + τ 83 ≤ b
  · rw [if_pos c] at hu
    subst hu
    rw [show nI 0 - nI 1 = -1 by decide, Int32.mul_neg, Int32.mul_one, Int32.neg_sub, nI_sub (by omega)]
    exact nI_nlt (by omega) (by omega)
  · rw [if_neg c] at hu
    by_cases c2 : b + τ 83 ≤ a
    · rw [if_pos c2] at hu
      subst hu
      rw [show nI 2 - nI 1 = 1 by decide, Int32.mul_one, nI_sub (by omega)]
      exact nI_nlt (by omega) (by omega)
    · rw [if_neg c2] at hu
      exact absurd hu.symm h1
theorem zsa_d {τ : Nat → Nat} {m k : Nat} (h : zsa τ m k ≠ 1) : ¬ zfp τ m k ∧ ¬ zlp τ m k ∧ ¬ zlp τ m (k + 1) ∧ ztn τ (zlw τ m (k - 1)) (zlw τ m k) = zsa τ m k ∧ ztn τ (zlw τ m k) (zlw τ m (k + 1)) = zsa τ m k := by
  unfold zsa at h ⊢
  by_cases c : zfp τ m k ∨ zlp τ m k ∨ zlp τ m (k + 1)
  · rw [zif_t c] at h
    exact absurd rfl h
  · rw [zif_f c] at h ⊢
    by_cases c2 : ztn τ (zlw τ m (k - 1)) (zlw τ m k) = ztn τ (zlw τ m k) (zlw τ m (k + 1))
    · rw [if_pos c2]
      exact ⟨fun q => c (Or.inl q), fun q => c (Or.inr (Or.inl q)), fun q => c (Or.inr (Or.inr q)), rfl, c2.symm⟩
    · rw [if_neg c2] at h
      exact absurd rfl h
