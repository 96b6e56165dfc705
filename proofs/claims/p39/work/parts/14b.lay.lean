/-- how many lines -/
noncomputable def zm (τ : Nat → Nat) (m : Nat) : Nat := zfst (fun k => zL τ m k = τ 80) 0 (τ 80)
theorem zm_is (τ : Nat → Nat) (m : Nat) : zm τ m ≤ τ 80 ∧ zL τ m (zm τ m) = τ 80 ∧ ∀ k, k < zm τ m → zL τ m k < τ 80 := by
  obtain ⟨g1, g2, g3, g4⟩ := zfst_is (fun k => zL τ m k = τ 80) (τ 80) 0 ⟨τ 80, by omega, by omega, by
    rcases zL_ge τ m (τ 80) with q | q
    · have := zL_le τ m (τ 80); omega
    · exact q⟩
  refine ⟨by unfold zm; omega, g3, fun k hk => ?_⟩
  have := zL_le τ m k
  have := g4 k (by omega) hk
  omega
theorem zm_iff {τ : Nat → Nat} {m k : Nat} : k < zm τ m ↔ zL τ m k < τ 80 := by
  obtain ⟨g1, g2, g3⟩ := zm_is τ m
  constructor
  · exact g3 k
  · intro h
    rcases Nat.lt_or_ge k (zm τ m) with q | q
    · exact q
    · have := zL_mono' (τ := τ) (m := m) q; omega
theorem zm_eq {τ : Nat → Nat} {m k : Nat} (h : zL τ m k = τ 80) (h2 : ∀ j, j < k → zL τ m j < τ 80) : zm τ m = k := by
  obtain ⟨g1, g2, g3⟩ := zm_is τ m
  rcases Nat.lt_trichotomy (zm τ m) k with q | q | q
  · have := h2 _ q; omega
  · exact q
  · have := g3 _ q; omega
