/-! ===== slots, bounds of the scores ===== -/
def ztr : Nat → Nat
  | 0 => 0
  | i + 1 => ztr i + i + 1
theorem ztr_two (i : Nat) : 2 * ztr i = i * (i + 1) := by
  induction i with
  | zero => rfl
  | succ i ih =>
    show 2 * (ztr i + i + 1) = (i + 1) * (i + 2)
    rw [Nat.mul_add, Nat.mul_add, ih]
    rw [Nat.add_mul, Nat.mul_add i i 2, Nat.mul_add i i 1]
    omega
theorem ztr_half (i : Nat) : i * (i + 1) / 2 = ztr i := by rw [← ztr_two]; omega
theorem ztr_lt {i j : Nat} (h : i < j) : ztr i + i < ztr j := by
  induction j with
  | zero => omega
  | succ j ih =>
    show _ < ztr j + j + 1
    rcases Nat.lt_or_ge i j with q | q
    · have := ih q; omega
    · rw [show i = j by omega]; omega
theorem ztr_39 {i : Nat} (h : i ≤ 39) : ztr i ≤ 780 := by
  rcases Nat.lt_or_ge i 39 with q | q
  · have := ztr_lt q
    have e : ztr 39 = 780 := by decide
    omega
  · rw [show i = 39 by omega]; decide
def zsl (b i u : Nat) : Nat := (ztr i + b) * 3 + u
theorem zsl_lt {b i u : Nat} (hb : b ≤ i) (hi : i ≤ 39) (hu : u < 3) : zsl b i u < 2460 := by
  have := ztr_39 hi
  unfold zsl; omega
theorem zsl_inj {b i u b' i' u' : Nat} (hb : b ≤ i) (hb' : b' ≤ i') (hu : u < 3) (hu' : u' < 3) (h : zsl b i u = zsl b' i' u') : b = b' ∧ i = i' ∧ u = u' := by
  unfold zsl at h
  have e : u = u' := by omega
  have e2 : ztr i + b = ztr i' + b' := by omega
  rcases Nat.lt_trichotomy i i' with q | q | q
  · have := ztr_lt q; omega
  · subst q; omega
  · have := ztr_lt q; omega
theorem zti_add {u : Nat} (hu : u ≤ 3) : nI u - nI 1 + nI 1 = nI u := by
  rcases (show u = 0 ∨ u = 1 ∨ u = 2 ∨ u = 3 by omega) with rfl | rfl | rfl | rfl <;> decide
theorem zti_succ {u : Nat} (hu : u ≤ 3) : nI u - nI 1 + nI 1 = nI (u + 1) - nI 1 := by
  rcases (show u = 0 ∨ u = 1 ∨ u = 2 ∨ u = 3 by omega) with rfl | rfl | rfl | rfl <;> decide
theorem zti_le {u : Nat} (hu : u ≤ 2) : ¬ nI 1 < nI u - nI 1 := by
  rcases (show u = 0 ∨ u = 1 ∨ u = 2 by omega) with rfl | rfl | rfl <;> decide
theorem zti_gt : nI 1 < nI 3 - nI 1 := by decide
theorem zti_inj {u v : Nat} (hu : u ≤ 2) (hv : v ≤ 2) (h : nI u - nI 1 = nI v - nI 1) : u = v := by
  rcases (show u = 0 ∨ u = 1 ∨ u = 2 by omega) with rfl | rfl | rfl <;> rcases (show v = 0 ∨ v = 1 ∨ v = 2 by omega) with rfl | rfl | rfl <;> first | rfl | (revert h; decide)
theorem zti_0 {u : Nat} (hu : u ≤ 2) (h : u ≠ 1) : ¬ nI u - nI 1 = 0 := by
  rcases (show u = 0 ∨ u = 2 by omega) with rfl | rfl <;> decide
theorem ztn_le (τ : Nat → Nat) (a b : Nat) : ztn τ a b ≤ 2 := by
  unfold ztn; split
  · omega
  · split <;> omega
theorem zwd_one (τ : Nat → Nat) (i : Nat) : zwd τ i (i + 1) = τ i := by
  unfold zwd
  have : zsm τ (i + 1) = zsm τ i + τ i := rfl
  rw [this, show i + 1 - i - 1 = 0 by omega]
  omega
theorem zwd_col {τ : Nat → Nat} (ho : zOk τ) {i j : Nat} (hi : i < τ 80) (h1 : i < j) (h2 : j ≤ zrc τ i) : zwd τ i j ≤ τ 81 := by
  rcases Nat.lt_or_ge (i + 1) j with q | q
  · obtain ⟨-, -, h⟩ := zrc_is τ i
    have := (h (j - 1) (by omega) (by omega)).2.2
    rwa [show j - 1 + 1 = j by omega] at this
  · rw [show j = i + 1 by omega, zwd_one]
    have := (ho.2.1 i hi).2
    have := ho.2.2.2.1
    omega
theorem zsq_le {a c : Nat} (h : a ≤ c) (hc : c ≤ 100) : a * a ≤ 10000 := by
  have := Nat.mul_le_mul (show a ≤ 100 by omega) (show a ≤ 100 by omega)
  omega
theorem zif_le {p : Prop} [Decidable p] {a c : Nat} (h : a ≤ c) : (if p then a else 0) ≤ c := by split <;> omega
theorem zca_bd {τ : Nat → Nat} (ho : zOk τ) {P : Nat} (hP : P ≤ τ 80) (hpd : ∀ i, i < P → zrc τ i ≤ P) : ∀ (q i : Nat) (f : Bool) (b t j : Nat), P - i ≤ q → i < j → j ≤ P → zca τ P f b i t j ≤ 1280001 * (P - i)
  | 0, i, f, b, t, j, h0, h1, h2 => by omega
  | q + 1, i, f, b, t, j, h0, h1, h2 => by
    have hs := zsq_le (a := τ 81 - zwd τ i j) (c := τ 81) (by omega) (ho.2.2.2.1.2)
    have h84 := ho.2.2.2.2.2.2.1
    have h85 := ho.2.2.2.2.2.2.2.1
    unfold zca zcd
    split
    · have := zif_le (p := f = false ∧ 4 * zwd τ i j < τ 81) h85
      omega
    · rename_i hj
      generalize hu : (if f then 1 else ztn τ (zwd τ b i) (zwd τ i j)) = u
      have h3 := zif_le (p := u ≠ 1 ∧ u = t) h84
      have h4 : zsc τ P i j u ≤ 1280001 * (P - j) := by
        rw [zsc_eq hP hpd (show j < P by omega)]
        have hr := hpd j (by omega)
        obtain ⟨r1, -⟩ := zrc_is τ j
        obtain ⟨g1, g2, -⟩ := zbs_is (zca τ P false i j u) j (zrc τ j - j - 1)
        exact zca_bd ho hP hpd q j false i u _ (by omega) g1 (by unfold zch; omega)
      omega
theorem zch_is {τ : Nat → Nat} (P : Nat) (f : Bool) (b i t : Nat) : zisB (zca τ P f b i t) i (zrc τ i) (zch τ P f b i t) := by
  have := zbs_is (zca τ P f b i t) i (zrc τ i - i - 1)
  obtain ⟨r1, -⟩ := zrc_is τ i
  rwa [show i + 1 + (zrc τ i - i - 1) = zrc τ i by omega] at this
/-- the way into a line from i to e; its score without a stair -/
def ztt (τ : Nat → Nat) (P : Nat) (f : Bool) (b i e : Nat) : Nat := if e = P then 1 else if f then 1 else ztn τ (zwd τ b i) (zwd τ i e)
noncomputable def zb0 (τ : Nat → Nat) (P : Nat) (f : Bool) (b i e : Nat) : Nat := if e = P then 64 * (if f = false ∧ 4 * zwd τ i e < τ 81 then τ 85 else 0) + 1 else 64 * ((τ 81 - zwd τ i e) * (τ 81 - zwd τ i e)) + 1 + zsc τ P i e (ztt τ P f b i e)
theorem ztt_le (τ : Nat → Nat) (P : Nat) (f : Bool) (b i e : Nat) : ztt τ P f b i e ≤ 2 := by
  unfold ztt; split
  · omega
  · split
    · omega
    · exact ztn_le _ _ _
theorem zca_b0 {τ : Nat → Nat} {P : Nat} {f : Bool} {b i t e : Nat} : zca τ P f b i t e = zb0 τ P f b i e + (if ztt τ P f b i e ≠ 1 ∧ ztt τ P f b i e = t then 64 * τ 84 else 0) := by
  unfold zca zcd zb0
  by_cases he : e = P
  · rw [if_pos he, if_pos he]
    have hz : ¬ (ztt τ P f b i e ≠ 1 ∧ ztt τ P f b i e = t) := fun h => h.1 (by unfold ztt; rw [if_pos he])
    rw [if_neg hz, Nat.add_zero]
  · rw [if_neg he, if_neg he]
    have hu : ztt τ P f b i e = if f then 1 else ztn τ (zwd τ b i) (zwd τ i e) := by unfold ztt; rw [if_neg he]
    rw [← hu]
    generalize ztt τ P f b i e = u
    split <;> omega
/-! the optimal layouts in the picture -/
def zOpt (K : zK) (o t q : Nat) : Prop := zO K o 4 ∧ zr K o 0 t ∧ zr K o 1 q ∧ zr K o 2 (o + 1) ∧ zr K o 3 (o + 3) ∧ zr K o 4 (o + 5) ∧ zRow K (o + 1) 2460 ∧ zRow K (o + 3) 2460 ∧ zRow K (o + 5) 40
theorem zOpt.o {K : zK} {o t q : Nat} (h : zOpt K o t q) : zO K o 4 := h.1
/-- the best of the ends above e, in a slot -/
def zBt (τ : Nat → Nat) (P : Nat) (f : Bool) (b i u e : Nat) (s c : Int32) : Prop := (e = zrc τ i ∧ s = 2147483647) ∨ ∃ j, e < j ∧ j ≤ zrc τ i ∧ s = nI (zca τ P f b i u j) ∧ c = nI j ∧ ∀ k, e < k → k ≤ zrc τ i → zca τ P f b i u j ≤ zca τ P f b i u k ∧ (j < k → zca τ P f b i u j < zca τ P f b i u k)
theorem zBt_step {τ : Nat → Nat} {P : Nat} {f : Bool} {b i u e : Nat} {s c : Int32} (h : zBt τ P f b i u e s c) (he : 0 < e) (hr : e ≤ zrc τ i) (hb : ∀ k, e ≤ k → k ≤ zrc τ i → zca τ P f b i u k < 2 ^ 30) : zBt τ P f b i u (e - 1) (if nI (zca τ P f b i u e) < s then nI (zca τ P f b i u e) else s) (if nI (zca τ P f b i u e) < s then nI e else c) := by
  have h0 := hb e (Nat.le_refl _) hr
  rcases h with ⟨h1, h2⟩ | ⟨j, h1, h2, h3, h4, h5⟩
  · have hm : (2147483647 : Int32) = nI 2147483647 := by decide
    have hlt : nI (zca τ P f b i u e) < s := by rw [h2, hm]; exact nI_lt (by omega) (by omega)
    rw [if_pos hlt, if_pos hlt]
    exact Or.inr ⟨e, by omega, hr, rfl, rfl, fun k k1 k2 => by
      have : k = e := by omega
      subst this
      exact ⟨Nat.le_refl _, fun q => absurd q (Nat.lt_irrefl _)⟩⟩
  · have hj := hb j (by omega) h2
    by_cases hc : zca τ P f b i u e < zca τ P f b i u j
    · have hlt : nI (zca τ P f b i u e) < s := by rw [h3]; exact nI_lt hc (by omega)
      rw [if_pos hlt, if_pos hlt]
      refine Or.inr ⟨e, by omega, hr, rfl, rfl, fun k k1 k2 => ?_⟩
      rcases Nat.eq_or_lt_of_le (show e ≤ k by omega) with q | q
      · subst q; exact ⟨Nat.le_refl _, fun q => absurd q (Nat.lt_irrefl _)⟩
      · have := (h5 k q k2).1
        exact ⟨by omega, fun _ => by omega⟩
    · have hlt : ¬ nI (zca τ P f b i u e) < s := by rw [h3]; exact nI_nlt (by omega) (by omega)
      rw [if_neg hlt, if_neg hlt]
      refine Or.inr ⟨j, by omega, h2, h3, h4, fun k k1 k2 => ?_⟩
      rcases Nat.eq_or_lt_of_le (show e ≤ k by omega) with q | q
      · subst q; exact ⟨by omega, fun q => by omega⟩
      · exact h5 k q k2
theorem zBt_end {τ : Nat → Nat} {P : Nat} {f : Bool} {b i u : Nat} {s c : Int32} (h : zBt τ P f b i u i s c) : s = nI (zca τ P f b i u (zch τ P f b i u)) ∧ c = nI (zch τ P f b i u) := by
  obtain ⟨r1, -⟩ := zrc_is τ i
  rcases h with ⟨h1, h2⟩ | ⟨j, h1, h2, h3, h4, h5⟩
  · omega
  · have : j = zch τ P f b i u := zisB_one ⟨h1, h2, fun e e1 e2 => (h5 e e1 e2).1, fun e e1 e2 => (h5 e (by omega) e2).2 e1⟩ (zch_is P f b i u)
    subst this
    exact ⟨h3, h4⟩
/-- but for the slots of b, i nothing of the tables differs -/
def zSm (μ μ1 : zF) (o b i : Nat) : Prop := ∀ a j, ¬ ((a = o + 2 ∨ a = o + 4) ∧ ∃ u, u < 3 ∧ j = zsl b i u) → μ1 a j = μ a j
theorem zSm.refl (μ : zF) (o b i : Nat) : zSm μ μ o b i := fun _ _ _ => rfl
theorem zSm.ag {μ μ1 : zF} {o b i : Nat} (h : zSm μ μ1 o b i) : zAg μ μ1 (o + 2) (o + 5) := fun a j ha => h a j (fun q => by omega)
theorem zSm.up {μ μ1 : zF} {o b i u a : Nat} {v : Int32} (h : zSm μ μ1 o b i) (hu : u < 3) (ha : a = o + 2 ∨ a = o + 4) : zSm μ (zup μ1 a (zsl b i u) v) o b i := fun c j hc => by
  by_cases q : c = a ∧ j = zsl b i u
  · exact absurd ⟨by rw [q.1]; exact ha, u, hu, q.2⟩ hc
  · rw [← h c j hc]; simp only [zup]; rw [if_neg q]
theorem zSm.far {μ μ1 : zF} {o b i : Nat} (h : zSm μ μ1 o b i) {a b' i' u' : Nat} (hb : b ≤ i) (hb' : b' ≤ i') (hi : i ≠ i' ∨ b ≠ b') (hu' : u' < 3) : μ1 a (zsl b' i' u') = μ a (zsl b' i' u') := h a _ (fun q => by
  obtain ⟨u, hu, e⟩ := q.2
  have := zsl_inj hb' hb hu' hu e
  omega)
