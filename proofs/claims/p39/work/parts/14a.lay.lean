/-! ===== the chain of the lines ===== -/
noncomputable def zif {α : Type} (p : Prop) (a b : α) : α := @ite α p (Classical.propDecidable p) a b
theorem zif_t {α : Type} {p : Prop} {a b : α} (h : p) : zif p a b = a := by unfold zif; rw [if_pos h]
theorem zif_f {α : Type} {p : Prop} {a b : α} (h : ¬ p) : zif p a b = b := by unfold zif; rw [if_neg h]
/-- the word behind the line from i: 1 optimal, 0 greedy; b = i: the first line of its paragraph -/
noncomputable def znx (τ : Nat → Nat) (m b i t : Nat) : Nat := if m = 1 then zch τ (zpd τ i) (decide (b = i)) b i t else zrc τ i
noncomputable def znt (τ : Nat → Nat) (m b i t : Nat) : Nat × Nat × Nat := if i < τ 80 then zif (zps τ (znx τ m b i t)) (znx τ m b i t, znx τ m b i t, 1) (i, znx τ m b i t, if b = i then 1 else ztn τ (zwd τ b i) (zwd τ i (znx τ m b i t))) else (b, i, t)
noncomputable def zst (τ : Nat → Nat) (m : Nat) : Nat → Nat × Nat × Nat
  | 0 => (0, 0, 1)
  | k + 1 => znt τ m (zst τ m k).1 (zst τ m k).2.1 (zst τ m k).2.2
/-- the first word of the line k -/
noncomputable def zL (τ : Nat → Nat) (m k : Nat) : Nat := (zst τ m k).2.1
theorem znx_is {τ : Nat → Nat} (m b t : Nat) {i : Nat} (h : i < τ 80) : i < znx τ m b i t ∧ znx τ m b i t ≤ zrc τ i := by
  obtain ⟨r1, -⟩ := zrc_is τ i
  unfold znx
  split
  · obtain ⟨g1, g2, -⟩ := zch_is (τ := τ) (zpd τ i) (decide (b = i)) b i t
    exact ⟨g1, g2⟩
  · exact ⟨by omega, Nat.le_refl _⟩
theorem zst_next {τ : Nat → Nat} {m k b i t : Nat} (h : zst τ m k = (b, i, t)) (hi : i < τ 80) : zst τ m (k + 1) = zif (zps τ (znx τ m b i t)) (znx τ m b i t, znx τ m b i t, 1) (i, znx τ m b i t, if b = i then 1 else ztn τ (zwd τ b i) (zwd τ i (znx τ m b i t))) := by
  have h1 : zst τ m (k + 1) = znt τ m (zst τ m k).1 (zst τ m k).2.1 (zst τ m k).2.2 := rfl
  rw [h1, h]
  exact if_pos hi
theorem zst_stop {τ : Nat → Nat} {m k : Nat} (h : ¬ (zst τ m k).2.1 < τ 80) : zst τ m (k + 1) = zst τ m k := by
  have h1 : zst τ m (k + 1) = znt τ m (zst τ m k).1 (zst τ m k).2.1 (zst τ m k).2.2 := rfl
  rw [h1]
  exact if_neg h
theorem zL_next {τ : Nat → Nat} {m k b i t : Nat} (h : zst τ m k = (b, i, t)) (hi : i < τ 80) : zL τ m (k + 1) = znx τ m b i t := by
  unfold zL
  rw [zst_next h hi]
  by_cases c : zps τ (znx τ m b i t)
  · rw [zif_t c]
  · rw [zif_f c]
theorem zL_stop {τ : Nat → Nat} {m k : Nat} (h : ¬ zL τ m k < τ 80) : zL τ m (k + 1) = zL τ m k := by
  unfold zL at h ⊢
  rw [zst_stop h]
theorem zL_le (τ : Nat → Nat) (m : Nat) : ∀ k, zL τ m k ≤ τ 80
  | 0 => Nat.zero_le _
  | k + 1 => by
    have ih := zL_le τ m k
    by_cases c : zL τ m k < τ 80
    · rw [zL_next (b := (zst τ m k).1) (i := zL τ m k) (t := (zst τ m k).2.2) rfl c]
      have h1 := (znx_is (τ := τ) m (zst τ m k).1 (zst τ m k).2.2 c).2
      have h2 := zrc_le c
      omega
    · rw [zL_stop c]; exact ih
theorem zL_lt {τ : Nat → Nat} {m k : Nat} (h : zL τ m k < τ 80) : zL τ m k < zL τ m (k + 1) := by
  rw [zL_next (b := (zst τ m k).1) (i := zL τ m k) (t := (zst τ m k).2.2) rfl h]
  exact (znx_is _ _ _ h).1
theorem zL_mono (τ : Nat → Nat) (m k : Nat) : ∀ d, zL τ m k ≤ zL τ m (k + d)
  | 0 => Nat.le_refl _
  | d + 1 => by
    have ih := zL_mono τ m k d
    by_cases c : zL τ m (k + d) < τ 80
    · have := zL_lt c
      rw [show k + (d + 1) = k + d + 1 by omega]; omega
    · rw [show k + (d + 1) = k + d + 1 by omega, zL_stop c]; exact ih
theorem zL_mono' {τ : Nat → Nat} {m j k : Nat} (h : j ≤ k) : zL τ m j ≤ zL τ m k := by
  have := zL_mono τ m j (k - j)
  rwa [show j + (k - j) = k by omega] at this
theorem zL_smono {τ : Nat → Nat} {m j k : Nat} (h : j < k) (hj : zL τ m j < τ 80) : zL τ m j < zL τ m k := Nat.lt_of_lt_of_le (zL_lt hj) (zL_mono' h)
theorem zL_inj {τ : Nat → Nat} {m j k : Nat} (h : zL τ m j = zL τ m k) (hj : zL τ m j < τ 80) : j = k := by
  rcases Nat.lt_trichotomy j k with q | q | q
  · have := zL_smono q hj; omega
  · exact q
  · have := zL_smono (m := m) q (by rw [← h]; exact hj); omega
theorem zL_ge (τ : Nat → Nat) (m : Nat) : ∀ k, k ≤ zL τ m k ∨ zL τ m k = τ 80
  | 0 => Or.inl (Nat.zero_le _)
  | k + 1 => by
    by_cases c : zL τ m k < τ 80
    · have := zL_lt c
      rcases zL_ge τ m k with q | q
      · exact Or.inl (by omega)
      · omega
    · rw [zL_stop c]; exact Or.inr (by have := zL_le τ m k; omega)
