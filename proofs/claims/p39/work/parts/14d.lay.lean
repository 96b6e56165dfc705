theorem zpd_le {τ : Nat → Nat} {i s : Nat} (hi : i < s) (hs : zps τ s) (hn : s ≤ τ 80) : zpd τ i ≤ s := by
  obtain ⟨p1, p2, p3, p4⟩ := zpd_is (show i < τ 80 by omega)
  rcases hs with h | h
  · omega
  · rcases Nat.lt_or_ge s (zpd τ i) with q | q
    · exact absurd h (p4 (s - 1) (by omega) (by omega))
    · exact q
theorem zps_pd {τ : Nat → Nat} {s : Nat} (h : s < τ 80) : zps τ (zpd τ s) := Or.inr (zpd_is h).2.2.1
theorem zps_in {τ : Nat → Nat} {s i : Nat} (h : s < τ 80) (h1 : s < i) (h2 : i < zpd τ s) : ¬ zps τ i := fun q => by
  have := zpd_le h1 q (by have := (zpd_is h).2.1; omega)
  omega
theorem zrc_par {τ : Nat → Nat} {s : Nat} (h : s < τ 80) (hs : zps τ s) : ∀ k, k < zpd τ s → zrc τ k ≤ zpd τ s := fun k hk => by
  have hp := (zpd_is h).2.1
  have hp0 := (zpd_is h).1
  have h1 := zrc_pd (τ := τ) (i := k) (by omega)
  rcases Nat.lt_or_ge k s with q | q
  · have := zpd_le q hs (by omega)
    omega
  · rw [zpd_mid h q hk] at h1; exact h1
