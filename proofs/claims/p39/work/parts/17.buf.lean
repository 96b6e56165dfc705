/-! ===== input texts, character by character ===== -/
def zuf (W : Nat → Nat) (k v : Nat) : Nat → Nat := fun q => if q = k then v else W q
abbrev zBS : Type := Nat × (Nat → Nat) × (Nat → Nat)
/-- the words read so far: the number of the last one, widths, marks; one character more -/
def zstp (c k : Nat) (W M : Nat → Nat) : Option zBS :=
  if 48 ≤ c ∧ c ≤ 57 then (if M k = 0 ∧ 1 ≤ 10 * W k + (c - 48) ∧ 10 * W k + (c - 48) ≤ 30 then some (k, zuf W k (10 * W k + (c - 48)), M) else none)
  else if W k = 0 then none
  else if c = 44 then some (k + 1, zuf W (k + 1) 0, zuf M (k + 1) 0)
  else if c = 33 then (if M k = 0 then some (k, W, zuf M k 1) else none)
  else if c = 47 then (if M k = 0 then some (k, W, zuf M k 2) else none)
  else none
def zrun (β : Nat → Nat) : Nat → Option zBS
  | 0 => some (0, fun _ => 0, fun _ => 0)
  | i + 1 => (zrun β i).bind (fun s => zstp (β i) s.1 s.2.1 s.2.2)
/-- the first error, the length if there is none -/
noncomputable def zfe (β : Nat → Nat) (L : Nat) : Nat := zfst (fun i => i = L ∨ zrun β (i + 1) = none) 0 L
theorem zfe_is (β : Nat → Nat) (L : Nat) : zfe β L ≤ L ∧ (zfe β L = L ∨ zrun β (zfe β L + 1) = none) ∧ ∀ i, i < zfe β L → zrun β (i + 1) ≠ none := by
  obtain ⟨g1, g2, g3, g4⟩ := zfst_is (fun i => i = L ∨ zrun β (i + 1) = none) L 0 ⟨L, by omega, by omega, Or.inl rfl⟩
  refine ⟨by unfold zfe; omega, g3, fun i hi h => g4 i (by omega) hi (Or.inr h)⟩
theorem zfe_eq {β : Nat → Nat} {L i : Nat} (h : i ≤ L) (h1 : i = L ∨ zrun β (i + 1) = none) (h2 : ∀ j, j < i → zrun β (j + 1) ≠ none) : zfe β L = i := by
  refine zfst_eq _ (by omega) (by omega) h1 (fun j _ hj q => ?_)
  rcases q with q | q
  · omega
  · exact h2 j hj q
/-- what a state of the reading is -/
def zBok (i : Nat) (s : zBS) : Prop := 2 * s.1 + (if s.2.1 s.1 = 0 then 0 else 1) ≤ i ∧ (∀ q, q ≤ s.1 → s.2.1 q ≤ 30 ∧ s.2.2 q ≤ 2) ∧ ∀ q, q < s.1 → 1 ≤ s.2.1 q
theorem zBok_step {i c : Nat} {s s' : zBS} (h : zBok i s) (he : zstp c s.1 s.2.1 s.2.2 = some s') : zBok (i + 1) s' := by
  obtain ⟨k, W, M⟩ := s
  obtain ⟨h1, h2, h3⟩ := h
  simp only at h1 h2 h3 he
  unfold zstp at he
  split at he
  · split at he
    · rename_i hc
      simp only [Option.some.injEq] at he
      subst he
      refine ⟨?_, fun q hq => ?_, fun q hq => ?_⟩
      · simp only [zuf, if_pos]
        split at h1 <;> split <;> omega
      · have := h2 q hq
        simp only [zuf]
        split <;> omega
      · simp only [zuf]
        rw [if_neg (by simp only at hq; omega)]
        exact h3 q hq
    · cases he
  · split at he
    · cases he
    · rename_i hw
      rw [if_neg hw] at h1
      split at he
      · simp only [Option.some.injEq] at he
        subst he
        refine ⟨?_, fun q hq => ?_, fun q hq => ?_⟩
        · simp only [zuf, if_pos]
          omega
        · simp only at hq
          simp only [zuf]
          by_cases c : q = k + 1
          · rw [if_pos c, if_pos c]; omega
          · rw [if_neg c, if_neg c]; exact h2 q (by omega)
        · simp only at hq
          simp only [zuf]
          rw [if_neg (by omega)]
          rcases Nat.eq_or_lt_of_le (show q ≤ k by omega) with z | z
          · subst z; omega
          · exact h3 q z
      · split at he
        · split at he
          · simp only [Option.some.injEq] at he
            subst he
            refine ⟨?_, fun q hq => ?_, h3⟩
            · simp only; rw [if_neg hw]; omega
            · have := h2 q hq
              simp only [zuf]
              split <;> omega
          · cases he
        · split at he
          · split at he
            · simp only [Option.some.injEq] at he
              subst he
              refine ⟨?_, fun q hq => ?_, h3⟩
              · simp only; rw [if_neg hw]; omega
              · have := h2 q hq
                simp only [zuf]
                split <;> omega
            · cases he
          · cases he
theorem zrun_ok {β : Nat → Nat} : ∀ {i : Nat} {s : zBS}, zrun β i = some s → zBok i s
  | 0, s, h => by
    have h : some ((0 : Nat), (fun _ => 0 : Nat → Nat), (fun _ => 0 : Nat → Nat)) = some s := h
    simp only [Option.some.injEq] at h
    subst h
    exact ⟨by simp, fun q hq => by simp, fun q hq => by simp at hq⟩
  | i + 1, s, h => by
    have h : (zrun β i).bind (fun s => zstp (β i) s.1 s.2.1 s.2.2) = some s := h
    cases hr : zrun β i with
    | none => rw [hr] at h; cases h
    | some s0 =>
      rw [hr] at h
      exact zBok_step (zrun_ok hr) h
theorem zrun_next {β : Nat → Nat} {i : Nat} {s : zBS} (h : zrun β i = some s) : zrun β (i + 1) = zstp (β i) s.1 s.2.1 s.2.2 := by
  show (zrun β i).bind (fun s => zstp (β i) s.1 s.2.1 s.2.2) = _
  rw [h]; rfl
/-! the buffer in the picture -/
def zBuf (K : zK) (b : Nat) : Prop := zO K b 0 ∧ zr K b 0 (b + 1) ∧ zr K b 1 (b + 3) ∧ zr K b 2 (b + 5) ∧ zRow K (b + 1) 60 ∧ zRow K (b + 3) 60 ∧ zRow K (b + 5) 60
theorem zBuf.o {K : zK} {b : Nat} (h : zBuf K b) : zO K b 0 := h.1
def zBuv (μ : zF) (b : Nat) (β : Nat → Nat) (L : Nat) : Prop := μ b 3 = nI L ∧ ∀ i, i < L → μ (b + 2) i = nI (β i)
def zBst (μ : zF) (b : Nat) (s : zBS) : Prop := μ b 4 = nI s.1 ∧ ∀ q, q ≤ s.1 → μ (b + 4) q = nI (s.2.1 q) ∧ μ (b + 6) q = nI (s.2.2 q)
/-- the reading's own cells -/
def zBfr (μ μ' : zF) (b : Nat) : Prop := ∀ a j, ¬ (a = b ∧ j = 4) → a ≠ b + 4 → a ≠ b + 6 → μ' a j = μ a j
theorem zBfr.refl (μ : zF) (b : Nat) : zBfr μ μ b := fun _ _ _ _ _ => rfl
theorem zBfr.trans {μ μ1 μ2 : zF} {b : Nat} (h1 : zBfr μ μ1 b) (h2 : zBfr μ1 μ2 b) : zBfr μ μ2 b := fun a j q1 q2 q3 => (h2 a j q1 q2 q3).trans (h1 a j q1 q2 q3)
theorem zBfr.ag {μ μ' : zF} {b : Nat} (h : zBfr μ μ' b) : zAg μ μ' b (b + 7) := fun a j q => h a j (by omega) (by omega) (by omega)
theorem zBuv.fr {μ μ' : zF} {b L : Nat} {β : Nat → Nat} (h : zBuv μ b β L) (hf : zBfr μ μ' b) : zBuv μ' b β L := ⟨by rw [hf _ _ (by omega) (by omega) (by omega)]; exact h.1, fun i hi => by rw [hf _ _ (by omega) (by omega) (by omega)]; exact h.2 i hi⟩
