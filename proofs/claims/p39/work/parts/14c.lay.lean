/-- what a state of the chain is -/
theorem zst_inv {τ : Nat → Nat} {m : Nat} : ∀ {k b i t : Nat}, zst τ m k = (b, i, t) → i < τ 80 → t ≤ 2 ∧ ((zps τ i ∧ b = i) ∨ (¬ zps τ i ∧ b < i ∧ i ≤ zrc τ b ∧ zpd τ b = zpd τ i ∧ i < zpd τ i))
  | 0, b, i, t, h, hi => by
    have h : ((0 : Nat), (0 : Nat), (1 : Nat)) = (b, i, t) := h
    cases h
    exact ⟨by omega, Or.inl ⟨Or.inl rfl, rfl⟩⟩
  | k + 1, b, i, t, h, hi => by
    obtain ⟨b0, i0, t0, h0⟩ : ∃ b0 i0 t0, zst τ m k = (b0, i0, t0) := ⟨_, _, _, rfl⟩
    by_cases c : i0 < τ 80
    · rw [zst_next h0 c] at h
      obtain ⟨n1, n2⟩ := znx_is (τ := τ) m b0 t0 c
      by_cases c2 : zps τ (znx τ m b0 i0 t0)
      · rw [zif_t c2] at h
        cases h
        exact ⟨by omega, Or.inl ⟨c2, rfl⟩⟩
      · rw [zif_f c2] at h
        obtain ⟨p1, p2, p3, p4⟩ := zpd_is c
        have n3 := zrc_pd c
        have ht2 : (if b0 = i0 then 1 else ztn τ (zwd τ b0 i0) (zwd τ i0 (znx τ m b0 i0 t0))) ≤ 2 := by
          split
          · omega
          · exact ztn_le _ _ _
        simp only [Prod.mk.injEq] at h
        obtain ⟨e1, e2, e3⟩ := h
        have hin : znx τ m b0 i0 t0 < τ 80 := by rw [e2]; exact hi
        have hlt : znx τ m b0 i0 t0 < zpd τ i0 := by
          rcases Nat.lt_or_ge (znx τ m b0 i0 t0) (zpd τ i0) with q | q
          · exact q
          · exact absurd (Or.inr (by rw [show znx τ m b0 i0 t0 = zpd τ i0 by omega]; exact p3)) c2
        have hmid := zpd_mid c (Nat.le_of_lt n1) hlt
        rw [← e1, ← e2, ← e3]
        exact ⟨ht2, Or.inr ⟨c2, n1, n2, hmid.symm, by rw [hmid]; exact hlt⟩⟩
    · rw [zst_stop (by rw [h0]; exact c)] at h
      exact zst_inv h hi
