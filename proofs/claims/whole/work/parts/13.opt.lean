/-! ===== slots, bounds of the scores ===== -/
def ztr : Nat → Nat
  | 0 => 0
  | i + 1 => ztr i + i + 1
theorem ztr_two (i : Nat) : 2 * ztr i = i * (i + 1) := by
  induction i with
  | zero => rfl
  | succ i ih =>
    show 2 * (ztr i + i + 1) = (i + 1) * (i + 2)
    rw [Nat.mul_add, Nat.mul_add, ih]
    rw [Nat.add_mul, Nat.mul_add i i 2, Nat.mul_add i i 1]
    omega
theorem ztr_half (i : Nat) : i * (i + 1) / 2 = ztr i := by rw [← ztr_two]; omega
theorem ztr_lt {i j : Nat} (h : i < j) : ztr i + i < ztr j := by
  induction j with
  | zero => omega
  | succ j ih =>
    show _ < ztr j + j + 1
    rcases Nat.lt_or_ge i j with q | q
    · have := ih q; omega
    · rw [show i = j by omega]; omega
theorem ztr_39 {i : Nat} (h : i ≤ 39) : ztr i ≤ 780 := by
  rcases Nat.lt_or_ge i 39 with q | q
  · have := ztr_lt q
    have e : ztr 39 = 780 := by decide
    omega
  · rw [show i = 39 by omega]; decide
def zsl (b i u : Nat) : Nat := (ztr i + b) * 3 + u
theorem zsl_lt {b i u : Nat} (hb : b ≤ i) (hi : i ≤ 39) (hu : u < 3) : zsl b i u < 2460 := by
  have := ztr_39 hi
  unfold zsl; omega
theorem zsl_inj {b i u b' i' u' : Nat} (hb : b ≤ i) (hb' : b' ≤ i') (hu : u < 3) (hu' : u' < 3) (h : zsl b i u = zsl b' i' u') : b = b' ∧ i = i' ∧ u = u' := by
  unfold zsl at h
  have e : u = u' := by omega
  have e2 : ztr i + b = ztr i' + b' := by omega
  rcases Nat.lt_trichotomy i i' with q | q | q
  · have := ztr_lt q; omega
  · subst q; omega
  · have := ztr_lt q; omega
theorem zti_add {u : Nat} (hu : u ≤ 3) : nI u - nI 1 + nI 1 = nI u := by
  rcases (show u = 0 ∨ u = 1 ∨ u = 2 ∨ u = 3 by omega) with rfl | rfl | rfl | rfl <;> decide
theorem zti_succ {u : Nat} (hu : u ≤ 3) : nI u - nI 1 + nI 1 = nI (u + 1) - nI 1 := by
  rcases (show u = 0 ∨ u = 1 ∨ u = 2 ∨ u = 3 by omega) with rfl | rfl | rfl | rfl <;> decide
theorem zti_le {u : Nat} (hu : u ≤ 2) : ¬ nI 1 < nI u - nI 1 := by
  rcases (show u = 0 ∨ u = 1 ∨ u = 2 by omega) with rfl | rfl | rfl <;> decide
theorem zti_gt : nI 1 < nI 3 - nI 1 := by decide
theorem zti_inj {u v : Nat} (hu : u ≤ 2) (hv : v ≤ 2) (h : nI u - nI 1 = nI v - nI 1) : u = v := by
  rcases (show u = 0 ∨ u = 1 ∨ u = 2 by omega) with rfl | rfl | rfl <;> rcases (show v = 0 ∨ v = 1 ∨ v = 2 by omega) with rfl | rfl | rfl <;> first | rfl | (revert h; decide)
theorem zti_0 {u : Nat} (hu : u ≤ 2) (h : u ≠ 1) : ¬ nI u - nI 1 = 0 := by
  rcases (show u = 0 ∨ u = 2 by omega) with rfl | rfl <;> decide
theorem ztn_le (τ : Nat → Nat) (a b : Nat) : ztn τ a b ≤ 2 := by
  unfold ztn; split
  · omega
  · split <;> omega
theorem zwd_one (τ : Nat → Nat) (i : Nat) : zwd τ i (i + 1) = τ i := by
  unfold zwd
  have : zsm τ (i + 1) = zsm τ i + τ i := rfl
  rw [this, show i + 1 - i - 1 = 0 by omega]
  omega
theorem zwd_col {τ : Nat → Nat} (ho : zOk τ) {i j : Nat} (hi : i < τ 80) (h1 : i < j) (h2 : j ≤ zrc τ i) : zwd τ i j ≤ τ 81 := by
  rcases Nat.lt_or_ge (i + 1) j with q | q
  · obtain ⟨-, -, h⟩ := zrc_is τ i
    have := (h (j - 1) (by omega) (by omega)).2.2
    rwa [show j - 1 + 1 = j by omega] at this
  · rw [show j = i + 1 by omega, zwd_one]
    have := (ho.2.1 i hi).2
    have := ho.2.2.2.1
    omega
theorem zsq_le {a c : Nat} (h : a ≤ c) (hc : c ≤ 100) : a * a ≤ 10000 := by
  have := Nat.mul_le_mul (show a ≤ 100 by omega) (show a ≤ 100 by omega)
  omega
theorem zif_le {p : Prop} [Decidable p] {a c : Nat} (h : a ≤ c) : (if p then a else 0) ≤ c := by split <;> omega
theorem zca_bd {τ : Nat → Nat} (ho : zOk τ) {P : Nat} (hP : P ≤ τ 80) (hpd : ∀ i, i < P → zrc τ i ≤ P) : ∀ (q i : Nat) (f : Bool) (b t j : Nat), P - i ≤ q → i < j → j ≤ P → zca τ P f b i t j ≤ 1280001 * (P - i)
  | 0, i, f, b, t, j, h0, h1, h2 => by omega
  | q + 1, i, f, b, t, j, h0, h1, h2 => by
    have hs := zsq_le (a := τ 81 - zwd τ i j) (c := τ 81) (by omega) (ho.2.2.2.1.2)
    have h84 := ho.2.2.2.2.2.2.1
    have h85 := ho.2.2.2.2.2.2.2.1
    unfold zca zcd
    split
    · have := zif_le (p := f = false ∧ 4 * zwd τ i j < τ 81) h85
      omega
    · rename_i hj
      generalize hu : (if f then 1 else ztn τ (zwd τ b i) (zwd τ i j)) = u
      have h3 := zif_le (p := u ≠ 1 ∧ u = t) h84
      have h4 : zsc τ P i j u ≤ 1280001 * (P - j) := by
        rw [zsc_eq hP hpd (show j < P by omega)]
        have hr := hpd j (by omega)
        obtain ⟨r1, -⟩ := zrc_is τ j
        obtain ⟨g1, g2, -⟩ := zbs_is (zca τ P false i j u) j (zrc τ j - j - 1)
        exact zca_bd ho hP hpd q j false i u _ (by omega) g1 (by unfold zch; omega)
      omega
theorem zch_is {τ : Nat → Nat} (P : Nat) (f : Bool) (b i t : Nat) : zisB (zca τ P f b i t) i (zrc τ i) (zch τ P f b i t) := by
  have := zbs_is (zca τ P f b i t) i (zrc τ i - i - 1)
  obtain ⟨r1, -⟩ := zrc_is τ i
  rwa [show i + 1 + (zrc τ i - i - 1) = zrc τ i by omega] at this
/-- the way into a line from i to e; its score without a stair -/
def ztt (τ : Nat → Nat) (P : Nat) (f : Bool) (b i e : Nat) : Nat := if e = P then 1 else if f then 1 else ztn τ (zwd τ b i) (zwd τ i e)
noncomputable def zb0 (τ : Nat → Nat) (P : Nat) (f : Bool) (b i e : Nat) : Nat := if e = P then 64 * (if f = false ∧ 4 * zwd τ i e < τ 81 then τ 85 else 0) + 1 else 64 * ((τ 81 - zwd τ i e) * (τ 81 - zwd τ i e)) + 1 + zsc τ P i e (ztt τ P f b i e)
theorem ztt_le (τ : Nat → Nat) (P : Nat) (f : Bool) (b i e : Nat) : ztt τ P f b i e ≤ 2 := by
  unfold ztt; split
  · omega
  · split
    · omega
    · exact ztn_le _ _ _
theorem zca_b0 {τ : Nat → Nat} {P : Nat} {f : Bool} {b i t e : Nat} : zca τ P f b i t e = zb0 τ P f b i e + (if ztt τ P f b i e ≠ 1 ∧ ztt τ P f b i e = t then 64 * τ 84 else 0) := by
  unfold zca zcd zb0
  by_cases he : e = P
  · rw [if_pos he, if_pos he]
    have hz : ¬ (ztt τ P f b i e ≠ 1 ∧ ztt τ P f b i e = t) := fun h => h.1 (by unfold ztt; rw [if_pos he])
    rw [if_neg hz, Nat.add_zero]
  · rw [if_neg he, if_neg he]
    have hu : ztt τ P f b i e = if f then 1 else ztn τ (zwd τ b i) (zwd τ i e) := by unfold ztt; rw [if_neg he]
    rw [← hu]
    generalize ztt τ P f b i e = u
    split <;> omega
/-! the optimal layouts in the picture -/
def zOpt (K : zK) (o t q : Nat) : Prop := zO K o 4 ∧ zr K o 0 t ∧ zr K o 1 q ∧ zr K o 2 (o + 1) ∧ zr K o 3 (o + 3) ∧ zr K o 4 (o + 5) ∧ zRow K (o + 1) 2460 ∧ zRow K (o + 3) 2460 ∧ zRow K (o + 5) 40
theorem zOpt.o {K : zK} {o t q : Nat} (h : zOpt K o t q) : zO K o 4 := h.1
