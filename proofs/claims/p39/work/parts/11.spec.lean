/-! ===== what a text, its lines, their costs are: numbers alone ===== -/
def zsm (τ : Nat → Nat) : Nat → Nat
  | 0 => 0
  | k + 1 => zsm τ k + τ k
/-- the width of a line from the word i to the one before j -/
def zwd (τ : Nat → Nat) (i j : Nat) : Nat := zsm τ j - zsm τ i + τ 82 * (j - i - 1)
/-- a text: 0.. widths, 40.. marks, 80 how many, 81 column, 82 space, 83 step, 84 stair, 85 short, 86 page, 87 mode -/
def zOk (τ : Nat → Nat) : Prop := τ 80 ≤ 40 ∧ (∀ k, k < τ 80 → 1 ≤ τ k ∧ τ k ≤ 30) ∧ (∀ k, k < τ 80 → τ (40 + k) ≤ 2) ∧ (30 ≤ τ 81 ∧ τ 81 ≤ 100) ∧ (1 ≤ τ 82 ∧ τ 82 ≤ 5) ∧ (1 ≤ τ 83 ∧ τ 83 ≤ 20) ∧ τ 84 ≤ 9999 ∧ τ 85 ≤ 9999 ∧ (2 ≤ τ 86 ∧ τ 86 ≤ 20) ∧ τ 87 ≤ 1
/-- a paragraph ends behind the word k -/
def zpe (τ : Nat → Nat) (k : Nat) : Prop := τ (40 + k) = 2 ∨ k + 1 = τ 80
/-- a paragraph begins with the word i -/
def zps (τ : Nat → Nat) (i : Nat) : Prop := i = 0 ∨ zpe τ (i - 1)
/-- a line from i that reaches e may take the word e too -/
def zgo (τ : Nat → Nat) (i e : Nat) : Prop := e < τ 80 ∧ τ (40 + (e - 1)) = 0 ∧ zwd τ i (e + 1) ≤ τ 81
/-- the first e from s on with p, at most d on -/
noncomputable def zfst (p : Nat → Prop) : Nat → Nat → Nat
  | s, 0 => s
  | s, d + 1 => @ite Nat (p s) (Classical.propDecidable _) s (zfst p (s + 1) d)
theorem zfst_is (p : Nat → Prop) : ∀ (d s : Nat), (∃ e, s ≤ e ∧ e ≤ s + d ∧ p e) → s ≤ zfst p s d ∧ zfst p s d ≤ s + d ∧ p (zfst p s d) ∧ ∀ k, s ≤ k → k < zfst p s d → ¬ p k
  | 0, s, ⟨e, h1, h2, h3⟩ => by
    have : e = s := by omega
    subst this
    exact ⟨Nat.le_refl _, Nat.le_refl _, h3, fun k h4 h5 => absurd h5 (by show ¬ k < e; omega)⟩
  | d + 1, s, ⟨e, h1, h2, h3⟩ => by
    unfold zfst
    split
    · rename_i h
      exact ⟨Nat.le_refl _, by omega, h, fun k h4 h5 => by omega⟩
    · rename_i h
      obtain ⟨g1, g2, g3, g4⟩ := zfst_is p d (s + 1) ⟨e, by
        rcases Nat.eq_or_lt_of_le h1 with q | q
        · subst q; exact absurd h3 h
        · omega, by omega, h3⟩
      refine ⟨by omega, by omega, g3, fun k h4 h5 => ?_⟩
      rcases Nat.eq_or_lt_of_le h4 with q | q
      · subst q; exact h
      · exact g4 k q h5
theorem zfst_eq (p : Nat → Prop) {s d e : Nat} (h1 : s ≤ e) (h2 : e ≤ s + d) (h3 : p e) (h4 : ∀ k, s ≤ k → k < e → ¬ p k) : zfst p s d = e := by
  obtain ⟨g1, g2, g3, g4⟩ := zfst_is p d s ⟨e, h1, h2, h3⟩
  rcases Nat.lt_trichotomy (zfst p s d) e with q | q | q
  · exact absurd g3 (h4 _ g1 q)
  · exact q
  · exact absurd h3 (g4 _ h1 q)
/-- how far a line from i may reach -/
noncomputable def zrc (τ : Nat → Nat) (i : Nat) : Nat := zfst (fun e => ¬ zgo τ i e) (i + 1) (τ 80)
theorem zrc_is (τ : Nat → Nat) (i : Nat) : i + 1 ≤ zrc τ i ∧ ¬ zgo τ i (zrc τ i) ∧ ∀ k, i + 1 ≤ k → k < zrc τ i → zgo τ i k := by
  obtain ⟨g1, g2, g3, g4⟩ := zfst_is (fun e => ¬ zgo τ i e) (τ 80) (i + 1) ⟨i + 1 + τ 80, by omega, by omega, fun h => by have := h.1; omega⟩
  refine ⟨g1, g3, fun k h1 h2 => Classical.not_not.mp (g4 k h1 h2)⟩
theorem zrc_eq {τ : Nat → Nat} {i e : Nat} (h1 : i + 1 ≤ e) (h2 : ¬ zgo τ i e) (h3 : ∀ k, i + 1 ≤ k → k < e → zgo τ i k) : zrc τ i = e := by
  obtain ⟨g1, g2, g3⟩ := zrc_is τ i
  rcases Nat.lt_trichotomy (zrc τ i) e with q | q | q
  · exact absurd (h3 _ g1 q) g2
  · exact q
  · exact absurd (g3 _ h1 q) h2
theorem zrc_le {τ : Nat → Nat} {i : Nat} (h : i < τ 80) : zrc τ i ≤ τ 80 := by
  obtain ⟨g1, g2, g3⟩ := zrc_is τ i
  rcases Nat.lt_or_ge (τ 80) (zrc τ i) with q | q
  · have := (g3 (τ 80) (by omega) q).1
    omega
  · exact q
/-- the word behind the paragraph of the word i -/
noncomputable def zpd (τ : Nat → Nat) (i : Nat) : Nat := zfst (zpe τ) i (τ 80) + 1
theorem zpd_is {τ : Nat → Nat} {i : Nat} (h : i < τ 80) : i < zpd τ i ∧ zpd τ i ≤ τ 80 ∧ zpe τ (zpd τ i - 1) ∧ ∀ k, i ≤ k → k + 1 < zpd τ i → ¬ zpe τ k := by
  obtain ⟨g1, g2, g3, g4⟩ := zfst_is (zpe τ) (τ 80) i ⟨τ 80 - 1, by omega, by omega, Or.inr (by omega)⟩
  unfold zpd
  refine ⟨by omega, ?_, by rw [Nat.add_sub_cancel]; exact g3, fun k h1 h2 => g4 k h1 (by omega)⟩
  rcases Nat.lt_or_ge (zfst (zpe τ) i (τ 80)) (τ 80) with q | q
  · omega
  · exact absurd (Or.inr (by omega)) (g4 (τ 80 - 1) (by omega) (by omega))
theorem zpd_eq {τ : Nat → Nat} {i e : Nat} (h0 : i < e) (h1 : e ≤ τ 80) (h2 : zpe τ (e - 1)) (h3 : ∀ k, i ≤ k → k + 1 < e → ¬ zpe τ k) : zpd τ i = e := by
  unfold zpd
  rw [zfst_eq (e := e - 1) (zpe τ) (by omega) (by omega) h2 (fun k h4 h5 => h3 k h4 (by omega))]
  omega
/-- a line reaches no farther than its paragraph -/
theorem zrc_pd {τ : Nat → Nat} {i : Nat} (h : i < τ 80) : zrc τ i ≤ zpd τ i := by
  obtain ⟨g1, g2, g3⟩ := zrc_is τ i
  obtain ⟨p1, p2, p3, p4⟩ := zpd_is h
  rcases Nat.lt_or_ge (zpd τ i) (zrc τ i) with q | q
  · obtain ⟨a1, a2, a3⟩ := g3 (zpd τ i) (by omega) q
    rcases p3 with h | h
    · rw [h] at a2; cases a2
    · omega
  · exact q
theorem zpd_mid {τ : Nat → Nat} {i j : Nat} (h : i < τ 80) (h1 : i ≤ j) (h2 : j < zpd τ i) : zpd τ j = zpd τ i := by
  obtain ⟨p1, p2, p3, p4⟩ := zpd_is h
  exact zpd_eq h2 p2 p3 (fun k h3 h4 => p4 k (by omega) h4)
/-- how the widths go: 0 narrower by the step, 2 wider, 1 neither -/
def ztn (τ : Nat → Nat) (a b : Nat) : Nat := if b + τ 83 ≤ a then 0 else if a + τ 83 ≤ b then 2 else 1
/-- the best of i+1 .. i+1+d by c, the greatest of several -/
def zbs (c : Nat → Nat) (i : Nat) : Nat → Nat
  | 0 => i + 1
  | d + 1 => if c (i + 1 + (d + 1)) ≤ c (zbs c i d) then i + 1 + (d + 1) else zbs c i d
def zisB (c : Nat → Nat) (i hi j : Nat) : Prop := i < j ∧ j ≤ hi ∧ (∀ e, i < e → e ≤ hi → c j ≤ c e) ∧ ∀ e, j < e → e ≤ hi → c j < c e
theorem zbs_is (c : Nat → Nat) (i : Nat) : ∀ d, zisB c i (i + 1 + d) (zbs c i d)
  | 0 => ⟨Nat.lt_succ_self i, Nat.le_refl _, fun e h1 h2 => by rw [show e = i + 1 by omega]; exact Nat.le_refl _, fun e h1 h2 => by simp only [zbs] at h1; omega⟩
  | d + 1 => by
    obtain ⟨g1, g2, g3, g4⟩ := zbs_is c i d
    unfold zbs
    split
    · rename_i h
      refine ⟨by omega, by omega, fun e h1 h2 => ?_, fun e h1 h2 => by omega⟩
      rcases Nat.lt_or_ge (i + 1 + d) e with q | q
      · rw [show e = i + 1 + (d + 1) by omega]; exact Nat.le_refl _
      · exact Nat.le_trans h (g3 e h1 q)
    · rename_i h
      refine ⟨g1, by omega, fun e h1 h2 => ?_, fun e h1 h2 => ?_⟩
      · rcases Nat.lt_or_ge (i + 1 + d) e with q | q
        · rw [show e = i + 1 + (d + 1) by omega]; omega
        · exact g3 e h1 q
      · rcases Nat.lt_or_ge (i + 1 + d) e with q | q
        · rw [show e = i + 1 + (d + 1) by omega]; omega
        · exact g4 e h1 q
theorem zisB_one {c : Nat → Nat} {i hi j k : Nat} (h1 : zisB c i hi j) (h2 : zisB c i hi k) : j = k := by
  rcases Nat.lt_trichotomy j k with q | q | q
  · have a := h1.2.2.2 k q h2.2.1
    have b := h2.2.2.1 j h1.1 h1.2.1
    omega
  · exact q
  · have a := h2.2.2.2 j q h1.2.1
    have b := h1.2.2.1 k h2.1 h2.2.1
    omega
theorem zbs_congr {c c' : Nat → Nat} {i : Nat} : ∀ d, (∀ e, i < e → e ≤ i + 1 + d → c e = c' e) → zbs c i d = zbs c' i d
  | 0, _ => rfl
  | d + 1, h => by
    have ih := zbs_congr (c := c) (c' := c') (i := i) d (fun e h1 h2 => h e h1 (by omega))
    obtain ⟨g1, g2, -⟩ := zbs_is c' i d
    unfold zbs
    rw [ih, h _ (by omega) (Nat.le_refl _), h (zbs c' i d) g1 (by omega)]
/-- what the line from i to j costs with all behind it: 64 times the cost, and the lines; f: it is the paragraph's first one, else the line before it begins with b and the widths went by t into that; s: what the lines behind it cost -/
def zcd (τ : Nat → Nat) (P : Nat) (s : Nat → Nat → Nat → Nat) (f : Bool) (b i t j : Nat) : Nat :=
  if j = P then 64 * (if f = false ∧ 4 * zwd τ i j < τ 81 then τ 85 else 0) + 1
  else 64 * ((τ 81 - zwd τ i j) * (τ 81 - zwd τ i j) + (if (if f then 1 else ztn τ (zwd τ b i) (zwd τ i j)) ≠ 1 ∧ (if f then 1 else ztn τ (zwd τ b i) (zwd τ i j)) = t then τ 84 else 0)) + 1 + s i j (if f then 1 else ztn τ (zwd τ b i) (zwd τ i j))
/-- the least score from the word i on -/
noncomputable def zsr (τ : Nat → Nat) (P : Nat) : Nat → Nat → Nat → Nat → Nat
  | 0, _, _, _ => 0
  | q + 1, b, i, t => zcd τ P (zsr τ P q) false b i t (zbs (zcd τ P (zsr τ P q) false b i t) i (zrc τ i - i - 1))
theorem zcd_congr {τ : Nat → Nat} {P : Nat} {s s' : Nat → Nat → Nat → Nat} {f : Bool} {b i t j : Nat} (h : j ≠ P → ∀ u, s i j u = s' i j u) : zcd τ P s f b i t j = zcd τ P s' f b i t j := by
  unfold zcd
  split
  · rfl
  · rename_i hj; rw [h hj]
theorem zsr_fuel {τ : Nat → Nat} {P : Nat} (hP : P ≤ τ 80) (hpd : ∀ i, i < P → zrc τ i ≤ P) : ∀ (q q' b i t : Nat), i < P → P - i ≤ q → P - i ≤ q' → zsr τ P q b i t = zsr τ P q' b i t
  | 0, q', b, i, t, hi, h1, h2 => by omega
  | q + 1, 0, b, i, t, hi, h1, h2 => by omega
  | q + 1, q' + 1, b, i, t, hi, h1, h2 => by
    have hr := hpd i hi
    obtain ⟨r1, -⟩ := zrc_is τ i
    have hc : ∀ e, i < e → e ≤ i + 1 + (zrc τ i - i - 1) → zcd τ P (zsr τ P q) false b i t e = zcd τ P (zsr τ P q') false b i t e := fun e h3 h4 => zcd_congr (fun hj u => zsr_fuel hP hpd q q' i e u (by omega) (by omega) (by omega))
    unfold zsr
    rw [zbs_congr _ hc]
    obtain ⟨g1, g2, -⟩ := zbs_is (zcd τ P (zsr τ P q') false b i t) i (zrc τ i - i - 1)
    exact hc _ g1 g2
/-- the score of the line from i (not the first one), of all behind it; the candidates' scores; the choice -/
noncomputable def zsc (τ : Nat → Nat) (P b i t : Nat) : Nat := zsr τ P (P - i) b i t
noncomputable def zca (τ : Nat → Nat) (P : Nat) (f : Bool) (b i t j : Nat) : Nat := zcd τ P (zsc τ P) f b i t j
noncomputable def zch (τ : Nat → Nat) (P : Nat) (f : Bool) (b i t : Nat) : Nat := zbs (zca τ P f b i t) i (zrc τ i - i - 1)
theorem zsc_eq {τ : Nat → Nat} {P : Nat} (hP : P ≤ τ 80) (hpd : ∀ i, i < P → zrc τ i ≤ P) {b i t : Nat} (hi : i < P) : zsc τ P b i t = zca τ P false b i t (zch τ P false b i t) := by
  have hr := hpd i hi
  obtain ⟨r1, -⟩ := zrc_is τ i
  obtain ⟨q, hq⟩ : ∃ q, P - i = q + 1 := ⟨P - i - 1, by omega⟩
  have hc : ∀ e, i < e → e ≤ i + 1 + (zrc τ i - i - 1) → zcd τ P (zsr τ P q) false b i t e = zca τ P false b i t e := fun e h3 h4 => zcd_congr (fun hj u => zsr_fuel hP hpd q (P - e) i e u (by omega) (by omega) (by omega))
  unfold zsc
  rw [hq]
  unfold zsr
  rw [zbs_congr _ hc]
  obtain ⟨g1, g2, -⟩ := zbs_is (zca τ P false b i t) i (zrc τ i - i - 1)
  exact hc _ g1 g2
