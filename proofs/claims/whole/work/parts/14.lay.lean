/-! ===== the chain of the lines ===== -/
noncomputable def zif {α : Type} (p : Prop) (a b : α) : α := @ite α p (Classical.propDecidable p) a b
theorem zif_t {α : Type} {p : Prop} {a b : α} (h : p) : zif p a b = a := by unfold zif; rw [if_pos h]
theorem zif_f {α : Type} {p : Prop} {a b : α} (h : ¬ p) : zif p a b = b := by unfold zif; rw [if_neg h]
/-- the word behind the line from i: 1 optimal, 0 greedy; b = i: the first line of its paragraph -/
noncomputable def znx (τ : Nat → Nat) (m b i t : Nat) : Nat := if m = 1 then zch τ (zpd τ i) (decide (b = i)) b i t else zrc τ i
noncomputable def znt (τ : Nat → Nat) (m b i t : Nat) : Nat × Nat × Nat := if i < τ 80 then zif (zps τ (znx τ m b i t)) (znx τ m b i t, znx τ m b i t, 1) (i, znx τ m b i t, if b = i then 1 else ztn τ (zwd τ b i) (zwd τ i (znx τ m b i t))) else (b, i, t)
noncomputable def zst (τ : Nat → Nat) (m : Nat) : Nat → Nat × Nat × Nat
  | 0 => (0, 0, 1)
  | k + 1 => znt τ m (zst τ m k).1 (zst τ m k).2.1 (zst τ m k).2.2
/-- the first word of the line k -/
noncomputable def zL (τ : Nat → Nat) (m k : Nat) : Nat := (zst τ m k).2.1
theorem znx_is {τ : Nat → Nat} (m b t : Nat) {i : Nat} (h : i < τ 80) : i < znx τ m b i t ∧ znx τ m b i t ≤ zrc τ i := by
  obtain ⟨r1, -⟩ := zrc_is τ i
  unfold znx
  split
  · obtain ⟨g1, g2, -⟩ := zch_is (τ := τ) (zpd τ i) (decide (b = i)) b i t
    exact ⟨g1, g2⟩
  · exact ⟨by omega, Nat.le_refl _⟩
theorem zst_next {τ : Nat → Nat} {m k b i t : Nat} (h : zst τ m k = (b, i, t)) (hi : i < τ 80) : zst τ m (k + 1) = zif (zps τ (znx τ m b i t)) (znx τ m b i t, znx τ m b i t, 1) (i, znx τ m b i t, if b = i then 1 else ztn τ (zwd τ b i) (zwd τ i (znx τ m b i t))) := by
  have h1 : zst τ m (k + 1) = znt τ m (zst τ m k).1 (zst τ m k).2.1 (zst τ m k).2.2 := rfl
  rw [h1, h]
  exact if_pos hi
theorem zst_stop {τ : Nat → Nat} {m k : Nat} (h : ¬ (zst τ m k).2.1 < τ 80) : zst τ m (k + 1) = zst τ m k := by
  have h1 : zst τ m (k + 1) = znt τ m (zst τ m k).1 (zst τ m k).2.1 (zst τ m k).2.2 := rfl
  rw [h1]
  exact if_neg h
theorem zL_next {τ : Nat → Nat} {m k b i t : Nat} (h : zst τ m k = (b, i, t)) (hi : i < τ 80) : zL τ m (k + 1) = znx τ m b i t := by
  unfold zL
  rw [zst_next h hi]
  by_cases c : zps τ (znx τ m b i t)
  · rw [zif_t c]
  · rw [zif_f c]
theorem zL_stop {τ : Nat → Nat} {m k : Nat} (h : ¬ zL τ m k < τ 80) : zL τ m (k + 1) = zL τ m k := by
  unfold zL at h ⊢
  rw [zst_stop h]
theorem zL_le (τ : Nat → Nat) (m : Nat) : ∀ k, zL τ m k ≤ τ 80
  | 0 => Nat.zero_le _
  | k + 1 => by
    have ih := zL_le τ m k
    by_cases c : zL τ m k < τ 80
    · rw [zL_next (b := (zst τ m k).1) (i := zL τ m k) (t := (zst τ m k).2.2) rfl c]
      have h1 := (znx_is (τ := τ) m (zst τ m k).1 (zst τ m k).2.2 c).2
      have h2 := zrc_le c
      omega
    · rw [zL_stop c]; exact ih
theorem zL_lt {τ : Nat → Nat} {m k : Nat} (h : zL τ m k < τ 80) : zL τ m k < zL τ m (k + 1) := by
  rw [zL_next (b := (zst τ m k).1) (i := zL τ m k) (t := (zst τ m k).2.2) rfl h]
  exact (znx_is _ _ _ h).1
theorem zL_mono (τ : Nat → Nat) (m k : Nat) : ∀ d, zL τ m k ≤ zL τ m (k + d)
  | 0 => Nat.le_refl _
  | d + 1 => by
    have ih := zL_mono τ m k d
    by_cases c : zL τ m (k + d) < τ 80
    · have := zL_lt c
      rw [show k + (d + 1) = k + d + 1 by omega]; omega
    · rw [show k + (d + 1) = k + d + 1 by omega, zL_stop c]; exact ih
theorem zL_mono' {τ : Nat → Nat} {m j k : Nat} (h : j ≤ k) : zL τ m j ≤ zL τ m k := by
  have := zL_mono τ m j (k - j)
  rwa [show j + (k - j) = k by omega] at this
theorem zL_smono {τ : Nat → Nat} {m j k : Nat} (h : j < k) (hj : zL τ m j < τ 80) : zL τ m j < zL τ m k := Nat.lt_of_lt_of_le (zL_lt hj) (zL_mono' h)
theorem zL_inj {τ : Nat → Nat} {m j k : Nat} (h : zL τ m j = zL τ m k) (hj : zL τ m j < τ 80) : j = k := by
  rcases Nat.lt_trichotomy j k with q | q | q
  · have := zL_smono q hj; omega
  · exact q
  · have := zL_smono (m := m) q (by rw [← h]; exact hj); omega
theorem zL_ge (τ : Nat → Nat) (m : Nat) : ∀ k, k ≤ zL τ m k ∨ zL τ m k = τ 80
  | 0 => Or.inl (Nat.zero_le _)
  | k + 1 => by
    by_cases c : zL τ m k < τ 80
    · have := zL_lt c
      rcases zL_ge τ m k with q | q
      · exact Or.inl (by omega)
      · omega
    · rw [zL_stop c]; exact Or.inr (by have := zL_le τ m k; omega)
/-- how many lines -/
noncomputable def zm (τ : Nat → Nat) (m : Nat) : Nat := zfst (fun k => zL τ m k = τ 80) 0 (τ 80)
theorem zm_is (τ : Nat → Nat) (m : Nat) : zm τ m ≤ τ 80 ∧ zL τ m (zm τ m) = τ 80 ∧ ∀ k, k < zm τ m → zL τ m k < τ 80 := by
  obtain ⟨g1, g2, g3, g4⟩ := zfst_is (fun k => zL τ m k = τ 80) (τ 80) 0 ⟨τ 80, by omega, by omega, by
    rcases zL_ge τ m (τ 80) with q | q
    · have := zL_le τ m (τ 80); omega
    · exact q⟩
  refine ⟨by unfold zm; omega, g3, fun k hk => ?_⟩
  have := zL_le τ m k
  have := g4 k (by omega) hk
  omega
theorem zm_iff {τ : Nat → Nat} {m k : Nat} : k < zm τ m ↔ zL τ m k < τ 80 := by
  obtain ⟨g1, g2, g3⟩ := zm_is τ m
  constructor
  · exact g3 k
  · intro h
    rcases Nat.lt_or_ge k (zm τ m) with q | q
    · exact q
    · have := zL_mono' (τ := τ) (m := m) q; omega
theorem zm_eq {τ : Nat → Nat} {m k : Nat} (h : zL τ m k = τ 80) (h2 : ∀ j, j < k → zL τ m j < τ 80) : zm τ m = k := by
  obtain ⟨g1, g2, g3⟩ := zm_is τ m
  rcases Nat.lt_trichotomy (zm τ m) k with q | q | q
  · have := h2 _ q; omega
  · exact q
  · have := g3 _ q; omega
/-- what a state of the chain is -/
theorem zst_inv {τ : Nat → Nat} {m : Nat} : ∀ {k b i t : Nat}, zst τ m k = (b, i, t) → i < τ 80 → t ≤ 2 ∧ ((zps τ i ∧ b = i) ∨ (¬ zps τ i ∧ b < i ∧ i ≤ zrc τ b ∧ zpd τ b = zpd τ i ∧ i < zpd τ i))
  | 0, b, i, t, h, hi => by
    have h : ((0 : Nat), (0 : Nat), (1 : Nat)) = (b, i, t) := h
    cases h
    exact ⟨by omega, Or.inl ⟨Or.inl rfl, rfl⟩⟩
  | k + 1, b, i, t, h, hi => by
    obtain ⟨b0, i0, t0, h0⟩ : ∃ b0 i0 t0, zst τ m k = (b0, i0, t0) := ⟨_, _, _, rfl⟩
    by_cases c : i0 < τ 80
    · rw [zst_next h0 c] at h
      obtain ⟨n1, n2⟩ := znx_is (τ := τ) m b0 t0 c
      by_cases c2 : zps τ (znx τ m b0 i0 t0)
      · rw [zif_t c2] at h
        cases h
        exact ⟨by omega, Or.inl ⟨c2, rfl⟩⟩
      · rw [zif_f c2] at h
        obtain ⟨p1, p2, p3, p4⟩ := zpd_is c
        have n3 := zrc_pd c
        have ht2 : (if b0 = i0 then 1 else ztn τ (zwd τ b0 i0) (zwd τ i0 (znx τ m b0 i0 t0))) ≤ 2 := by
          split
          · omega
          · exact ztn_le _ _ _
        cases h
        refine ⟨ht2, Or.inr ⟨c2, n1, n2, ?_, ?_⟩⟩
        · refine (zpd_mid c (by omega) ?_).symm
          rcases Nat.lt_or_ge (znx τ m b0 i0 t0) (zpd τ i0) with q | q
          · exact q
          · exact absurd (Or.inr (by rw [show znx τ m b0 i0 t0 = zpd τ i0 by omega]; exact p3)) c2
        · exact (zpd_is hi).1
    · rw [zst_stop (by rw [h0]; exact c)] at h
      exact zst_inv h hi
theorem zpd_le {τ : Nat → Nat} {i s : Nat} (hi : i < s) (hs : zps τ s) (hn : s ≤ τ 80) : zpd τ i ≤ s := by
  obtain ⟨p1, p2, p3, p4⟩ := zpd_is (show i < τ 80 by omega)
  rcases hs with h | h
  · omega
  · rcases Nat.lt_or_ge s (zpd τ i) with q | q
    · exact absurd h (p4 (s - 1) (by omega) (by omega))
    · exact q
theorem zps_pd {τ : Nat → Nat} {s : Nat} (h : s < τ 80) : zps τ (zpd τ s) := Or.inr (zpd_is h).2.2.1
theorem zps_in {τ : Nat → Nat} {s i : Nat} (h : s < τ 80) (h1 : s < i) (h2 : i < zpd τ s) : ¬ zps τ i := fun q => by
  have := zpd_le h1 q (by have := (zpd_is h).2.1; omega)
  omega
theorem zrc_par {τ : Nat → Nat} {s : Nat} (h : s < τ 80) (hs : zps τ s) : ∀ k, k < zpd τ s → zrc τ k ≤ zpd τ s := fun k hk => by
  have hp := (zpd_is h).2.1
  have h1 := zrc_pd (τ := τ) (i := k) (by omega)
  rcases Nat.lt_or_ge k s with q | q
  · have := zpd_le q hs (by omega)
    omega
  · rw [zpd_mid h q hk] at h1; exact h1
