/-! ===== the optimal layouts cost no more than the greedy ones ===== -/
/-- the least score of what is left of the paragraph -/
noncomputable def zV1 (τ : Nat → Nat) (b i t : Nat) : Nat := zca τ (zpd τ i) (decide (b = i)) b i t (zch τ (zpd τ i) (decide (b = i)) b i t)
/-- the least score of the paragraphs from P on -/
noncomputable def zRq (τ : Nat → Nat) : Nat → Nat → Nat
  | 0, _ => 0
  | q + 1, P => if P < τ 80 then zV1 τ P P 1 + zRq τ q (zpd τ P) else 0
theorem zRq_fuel {τ : Nat → Nat} : ∀ (q q' P : Nat), τ 80 - P ≤ q → τ 80 - P ≤ q' → zRq τ q P = zRq τ q' P
  | 0, 0, P, _, _ => rfl
  | 0, q' + 1, P, h1, h2 => by
    show 0 = (if P < τ 80 then zV1 τ P P 1 + zRq τ q' (zpd τ P) else 0)
    rw [if_neg (by omega)]
  | q + 1, 0, P, h1, h2 => by
    show (if P < τ 80 then zV1 τ P P 1 + zRq τ q (zpd τ P) else 0) = 0
    rw [if_neg (by omega)]
  | q + 1, q' + 1, P, h1, h2 => by
    show (if P < τ 80 then zV1 τ P P 1 + zRq τ q (zpd τ P) else 0) = (if P < τ 80 then zV1 τ P P 1 + zRq τ q' (zpd τ P) else 0)
    by_cases c : P < τ 80
    · have := (zpd_is c).1
      rw [if_pos c, if_pos c, zRq_fuel q q' (zpd τ P) (by omega) (by omega)]
    · rw [if_neg c, if_neg c]
noncomputable def zRr (τ : Nat → Nat) (P : Nat) : Nat := zRq τ (τ 80 - P) P
theorem zRr_eq {τ : Nat → Nat} {P : Nat} (h : P < τ 80) : zRr τ P = zV1 τ P P 1 + zRr τ (zpd τ P) := by
  have := (zpd_is h).1
  unfold zRr
  obtain ⟨q, hq⟩ : ∃ q, τ 80 - P = q + 1 := ⟨τ 80 - P - 1, by omega⟩
  rw [hq]
  show (if P < τ 80 then zV1 τ P P 1 + zRq τ q (zpd τ P) else 0) = _
  rw [if_pos h, zRq_fuel q (τ 80 - zpd τ P) (zpd τ P) (by omega) (Nat.le_refl _)]
theorem zRr_end {τ : Nat → Nat} {P : Nat} (h : ¬ P < τ 80) : zRr τ P = 0 := by
  unfold zRr
  rw [show τ 80 - P = 0 by omega]
  rfl
/-- the least score of all that is left -/
noncomputable def zPh (τ : Nat → Nat) (s : Nat × Nat × Nat) : Nat := if s.2.1 < τ 80 then zV1 τ s.1 s.2.1 s.2.2 + zRr τ (zpd τ s.2.1) else 0
/-- the stair that the line k ends -/
noncomputable def zdu (τ : Nat → Nat) (m k : Nat) : Nat := if (zst τ m k).1 = (zst τ m k).2.1 then 1 else ztn τ (zwd τ (zst τ m k).1 (zst τ m k).2.1) (zlw τ m k)
noncomputable def zds (τ : Nat → Nat) (m k : Nat) : Nat := zif (zlp τ m k) 0 (if zdu τ m k ≠ 1 ∧ zdu τ m k = (zst τ m k).2.2 then τ 84 else 0)
theorem zpd_all {τ : Nat → Nat} {i : Nat} (hi : i < τ 80) : ∀ q, q < zpd τ i → zrc τ q ≤ zpd τ i := fun q hq => by
  have p2 := (zpd_is hi).2.1
  have h1 := zpd_le hq (zps_pd hi) p2
  have h2 := zrc_pd (τ := τ) (i := q) (by omega)
  omega
theorem zPh_step {τ : Nat → Nat} {m k : Nat} (h : k < zm τ m) : zPh τ (zst τ m k) ≤ 64 * (zlc τ m k + zds τ m k) + 1 + zPh τ (zst τ m (k + 1)) ∧ (m = 1 → zPh τ (zst τ m k) = 64 * (zlc τ m k + zds τ m k) + 1 + zPh τ (zst τ m (k + 1))) := by
  have hi := zm_iff.mp h
  obtain ⟨b, i, t, hs⟩ : ∃ b i t, zst τ m k = (b, i, t) := ⟨_, _, _, rfl⟩
  have hiL : zL τ m k = i := by unfold zL; rw [hs]
  rw [hiL] at hi
  have hj : zL τ m (k + 1) = znx τ m b i t := zL_next hs hi
  obtain ⟨n1, n2⟩ := znx_is (τ := τ) m b t hi
  obtain ⟨t2, hinv⟩ := zst_inv hs hi
  obtain ⟨p1, p2, p3, p4⟩ := zpd_is hi
  have hrp := zrc_pd hi
  have hpar := zpd_all hi
  have hmin : zV1 τ b i t ≤ zca τ (zpd τ i) (decide (b = i)) b i t (znx τ m b i t) := (zch_is (τ := τ) (zpd τ i) (decide (b = i)) b i t).2.2.1 _ n1 n2
  have heq : m = 1 → zV1 τ b i t = zca τ (zpd τ i) (decide (b = i)) b i t (znx τ m b i t) := fun hm => by
    unfold zV1 znx
    rw [if_pos hm]
  have hkey : zca τ (zpd τ i) (decide (b = i)) b i t (znx τ m b i t) + zRr τ (zpd τ i) = 64 * (zlc τ m k + zds τ m k) + 1 + zPh τ (zst τ m (k + 1)) := by
    have hnext := zst_next hs hi
    generalize znx τ m b i t = j at hj n1 n2 hnext ⊢
    have hw : zlw τ m k = zwd τ i j := by unfold zlw; rw [hiL, hj]
    by_cases c : j = zpd τ i
    · have hpe : zlp τ m k := by unfold zlp; rw [hj, c]; exact p3
      have hps : zps τ j := Or.inr (by rw [c]; exact p3)
      rw [hnext, zif_t hps]
      have hf : zfp τ m k ↔ b = i := by
        unfold zfp
        rw [hiL]
        rcases hinv with ⟨a1, a2⟩ | ⟨a1, a2, -⟩
        · exact ⟨fun _ => a2, fun _ => a1⟩
        · exact ⟨fun q => absurd q a1, fun q => by omega⟩
      have hP : zPh τ (j, j, 1) = zRr τ j := by
        unfold zPh
        by_cases q : j < τ 80
        · rw [if_pos q]; exact (zRr_eq q).symm
        · rw [if_neg q, zRr_end q]
      rw [hP, ← c]
      unfold zca zcd zds zlc
      rw [if_pos rfl, zif_t hpe, zif_t hpe, hw]
      by_cases c2 : b = i
      · rw [zif_f (fun q => q.1 (hf.mpr c2)), if_neg (fun q => by simp [c2] at q)]
      · by_cases c3 : 4 * zwd τ i j < τ 81
        · rw [zif_t ⟨fun q => c2 (hf.mp q), c3⟩, if_pos ⟨by simp [c2], c3⟩]
          omega
        · rw [zif_f (fun q => c3 q.2), if_neg (fun q => c3 q.2)]
    · have hlt : j < zpd τ i := by omega
      have hnps : ¬ zps τ j := zps_in hi n1 hlt
      have hpe : ¬ zlp τ m k := by unfold zlp; rw [hj]; exact fun q => hnps (Or.inr q)
      rw [hnext, zif_f hnps]
      have hjn : j < τ 80 := by omega
      have hmid : zpd τ j = zpd τ i := zpd_mid hi (Nat.le_of_lt n1) hlt
      have hne : decide (i = j) = false := decide_eq_false (by omega)
      have hdu : zdu τ m k = if b = i then 1 else ztn τ (zwd τ b i) (zwd τ i j) := by
        unfold zdu
        rw [hs, hw]
      have hds : zds τ m k = if (zdu τ m k ≠ 1 ∧ zdu τ m k = t) then τ 84 else 0 := by
        unfold zds
        rw [zif_f hpe, hs]
      have hlc : zlc τ m k = (τ 81 - zwd τ i j) * (τ 81 - zwd τ i j) := by
        unfold zlc
        rw [zif_f hpe, hw]
      rw [← hdu]
      have hP : zPh τ (i, j, zdu τ m k) = zsc τ (zpd τ i) i j (zdu τ m k) + zRr τ (zpd τ i) := by
        unfold zPh
        show (if j < τ 80 then zV1 τ i j (zdu τ m k) + zRr τ (zpd τ j) else 0) = _
        rw [if_pos hjn]
        unfold zV1
        rw [hmid, hne, zsc_eq p2 hpar hlt]
      have hft : (if decide (b = i) = true then 1 else ztn τ (zwd τ b i) (zwd τ i j)) = zdu τ m k := by
        rw [hdu]
        by_cases c2 : b = i
        · rw [if_pos c2, if_pos (decide_eq_true c2)]
        · rw [if_neg c2, if_neg (fun q => c2 (of_decide_eq_true q))]
      rw [hP, hlc, hds]
      unfold zca zcd
      rw [if_neg c, hft]
      omega
  have h0 : zPh τ (zst τ m k) = zV1 τ b i t + zRr τ (zpd τ i) := by
    rw [hs]
    exact if_pos hi
  rw [h0]
  refine ⟨by omega, fun hm => ?_⟩
  have := heq hm
  omega
noncomputable def zDs (τ : Nat → Nat) (m : Nat) : Nat → Nat
  | 0 => 0
  | k + 1 => zDs τ m k + (zlc τ m k + zds τ m k)
theorem zPh_sum {τ : Nat → Nat} {m : Nat} : ∀ k, k ≤ zm τ m → zPh τ (zst τ m 0) ≤ 64 * zDs τ m k + k + zPh τ (zst τ m k) ∧ (m = 1 → zPh τ (zst τ m 0) = 64 * zDs τ m k + k + zPh τ (zst τ m k))
  | 0, _ => by
    have e : zDs τ m 0 = 0 := rfl
    rw [e]
    exact ⟨by omega, fun _ => by omega⟩
  | k + 1, h => by
    obtain ⟨a1, a2⟩ := zPh_sum (τ := τ) (m := m) k (by omega)
    obtain ⟨b1, b2⟩ := zPh_step (τ := τ) (m := m) (k := k) (by omega)
    have e : zDs τ m (k + 1) = zDs τ m k + (zlc τ m k + zds τ m k) := rfl
    rw [e]
    refine ⟨by omega, fun hm => ?_⟩
    have := a2 hm
    have := b2 hm
    omega
theorem zPh_all (τ : Nat → Nat) (m : Nat) : zPh τ (0, 0, 1) ≤ 64 * zDs τ m (zm τ m) + zm τ m ∧ (m = 1 → zPh τ (0, 0, 1) = 64 * zDs τ m (zm τ m) + zm τ m) := by
  have h := zPh_sum (τ := τ) (m := m) (zm τ m) (Nat.le_refl _)
  have e : zPh τ (zst τ m (zm τ m)) = 0 := by
    have h2 := (zm_is τ m).2.1
    unfold zL at h2
    unfold zPh
    rw [if_neg (by omega)]
  rw [e] at h
  exact h
/-- what the state of the chain is -/
theorem zst_desc {τ : Nat → Nat} {m : Nat} : ∀ k, zL τ m k < τ 80 → (zps τ (zL τ m k) → (zst τ m k).1 = zL τ m k) ∧ (¬ zps τ (zL τ m k) → 0 < k ∧ (zst τ m k).1 = zL τ m (k - 1) ∧ (zst τ m k).2.2 = zif (zfp τ m (k - 1)) 1 (ztn τ (zlw τ m (k - 2)) (zlw τ m (k - 1))))
  | 0, _ => ⟨fun _ => rfl, fun q => absurd (Or.inl rfl) q⟩
  | k + 1, h => by
    have hk : zL τ m k < τ 80 := by
      have := zL_mono τ m k 1
      omega
    obtain ⟨d1, d2⟩ := zst_desc (τ := τ) (m := m) k hk
    obtain ⟨b, i, t, hs⟩ : ∃ b i t, zst τ m k = (b, i, t) := ⟨_, _, _, rfl⟩
    have hiL : zL τ m k = i := by unfold zL; rw [hs]
    rw [hiL] at hk
    have hj : zL τ m (k + 1) = znx τ m b i t := zL_next hs hk
    have hnext := zst_next hs hk
    rw [hj]
    by_cases c : zps τ (znx τ m b i t)
    · rw [zif_t c] at hnext
      rw [hnext]
      exact ⟨fun _ => rfl, fun q => absurd c q⟩
    · rw [zif_f c] at hnext
      rw [hnext]
      refine ⟨fun q => absurd q c, fun _ => ⟨by omega, ?_, ?_⟩⟩
      · show i = zL τ m (k + 1 - 1)
        rw [Nat.add_sub_cancel, hiL]
      · show (if b = i then 1 else ztn τ (zwd τ b i) (zwd τ i (znx τ m b i t))) = _
        rw [Nat.add_sub_cancel, show k + 1 - 2 = k - 1 by omega]
        have hf : zfp τ m k ↔ zps τ i := by unfold zfp; rw [hiL]
        by_cases c2 : zps τ i
        · have e := d1 (by rw [hiL]; exact c2)
          rw [hs, hiL] at e
          rw [zif_t (hf.mpr c2)]
          exact if_pos e
        · obtain ⟨k0, e1, -⟩ := d2 (by rw [hiL]; exact c2)
          rw [hs] at e1
          have e1 : b = zL τ m (k - 1) := e1
          have hbi : b < i := by
            rcases (zst_inv hs hk).2 with ⟨a1, -⟩ | ⟨-, a2, -⟩
            · exact absurd a1 c2
            · exact a2
          rw [zif_f (fun q => c2 (hf.mp q)), if_neg (by omega)]
          unfold zlw
          rw [show k - 1 + 1 = k by omega, hiL, hj, e1]
theorem zds_0 (τ : Nat → Nat) (m : Nat) : zds τ m 0 = 0 := by
  unfold zds
  by_cases c : zlp τ m 0
  · rw [zif_t c]
  · rw [zif_f c]
    have e : zdu τ m 0 = 1 := if_pos rfl
    rw [e]
    exact if_neg (fun q => q.1 rfl)
theorem zds_succ {τ : Nat → Nat} {m k : Nat} (h : k + 1 < zm τ m) : zds τ m (k + 1) = if zsa τ m k = 1 then 0 else τ 84 := by
  have hl := zm_iff.mp h
  have hk : zL τ m k < τ 80 := by
    have := zL_mono τ m k 1
    omega
  have hlt := zL_lt hk
  obtain ⟨d1, d2⟩ := zst_desc (τ := τ) (m := m) (k + 1) hl
  unfold zds
  by_cases c1 : zlp τ m (k + 1)
  · have e : zsa τ m k = 1 := by unfold zsa; exact zif_t (Or.inr (Or.inr c1))
    rw [zif_t c1, e]
    rfl
  · rw [zif_f c1]
    by_cases c2 : zps τ (zL τ m (k + 1))
    · have e1 := d1 c2
      have e : zdu τ m (k + 1) = 1 := by
        unfold zdu
        exact if_pos e1
      have hp : zlp τ m k := by
        rcases c2 with q | q
        · omega
        · exact q
      have e2 : zsa τ m k = 1 := by unfold zsa; exact zif_t (Or.inr (Or.inl hp))
      rw [e, e2]
      rfl
    · obtain ⟨-, e1, e2⟩ := d2 c2
      rw [Nat.add_sub_cancel] at e1 e2
      rw [show k + 1 - 2 = k - 1 by omega] at e2
      have hp : ¬ zlp τ m k := fun q => c2 (Or.inr q)
      have hdu : zdu τ m (k + 1) = ztn τ (zlw τ m k) (zlw τ m (k + 1)) := by
        unfold zdu
        rw [e1]
        have e3 : (zst τ m (k + 1)).2.1 = zL τ m (k + 1) := rfl
        rw [e3, if_neg (by omega)]
        rfl
      rw [hdu, e2]
      by_cases c3 : zfp τ m k
      · have e4 : zsa τ m k = 1 := by unfold zsa; exact zif_t (Or.inl c3)
        rw [zif_t c3, e4, if_neg (fun q => q.1 q.2)]
        rfl
      · have e4 : zsa τ m k = if ztn τ (zlw τ m (k - 1)) (zlw τ m k) = ztn τ (zlw τ m k) (zlw τ m (k + 1)) then ztn τ (zlw τ m (k - 1)) (zlw τ m k) else 1 := by
          unfold zsa
          exact zif_f (fun q => by
            rcases q with q | q | q
            · exact c3 q
            · exact hp q
            · exact c1 q)
        rw [zif_f c3, e4]
        generalize ztn τ (zlw τ m (k - 1)) (zlw τ m k) = u
        generalize ztn τ (zlw τ m k) (zlw τ m (k + 1)) = v
        by_cases c4 : u = v
        · subst c4
          rw [if_pos rfl]
          by_cases c5 : u = 1
          · rw [if_pos c5, if_neg (fun q => q.1 c5)]
          · rw [if_neg c5, if_pos ⟨c5, rfl⟩]
        · rw [if_neg c4, if_pos rfl, if_neg (fun q => c4 q.2.symm)]
theorem ztc_D {τ : Nat → Nat} {m : Nat} : ∀ k, k + 1 ≤ zm τ m → ztc τ m (k + 1) = zDs τ m (k + 1) + (if zsa τ m k = 1 then 0 else τ 84)
  | 0, _ => by
    show 0 + zcs τ m 0 = 0 + (zlc τ m 0 + zds τ m 0) + _
    rw [zds_0]
    unfold zcs
    omega
  | k + 1, h => by
    have ih := ztc_D (τ := τ) (m := m) k (by omega)
    have e := zds_succ (τ := τ) (m := m) (k := k) (by omega)
    show ztc τ m (k + 1) + zcs τ m (k + 1) = zDs τ m (k + 1) + (zlc τ m (k + 1) + zds τ m (k + 1)) + _
    rw [ih, e]
    unfold zcs
    omega
theorem ztc_Ds (τ : Nat → Nat) (m : Nat) : ztc τ m (zm τ m) = zDs τ m (zm τ m) := by
  obtain ⟨m1, m2, m3⟩ := zm_is τ m
  rcases Nat.eq_zero_or_pos (zm τ m) with q | q
  · rw [q]; rfl
  · have h := ztc_D (τ := τ) (m := m) (zm τ m - 1) (by omega)
    have hn := m3 (zm τ m - 1) (by omega)
    rw [show zm τ m - 1 + 1 = zm τ m by omega] at h
    have e : zsa τ m (zm τ m - 1) = 1 := by
      unfold zsa
      refine zif_t (Or.inr (Or.inl ?_))
      unfold zlp
      rw [show zm τ m - 1 + 1 = zm τ m by omega, m2]
      exact Or.inr (by omega)
    rw [e] at h
    exact h
theorem zct1_le {τ : Nat → Nat} (ho : zOk τ) : zct1 τ 1 ≤ zct1 τ 0 := by
  have h1 := (zPh_all τ 1).2 rfl
  have h0 := (zPh_all τ 0).1
  have hm := (zm_is τ 0).1
  have := ho.1
  unfold zct1
  rw [ztc_Ds, ztc_Ds]
  omega
