/-! ===== the reference: a paragraph at the least cost ===== -/
def zen (τ : Nat → Nat) (md j : Nat) : Prop := ∃ k, k < zm τ md ∧ zL τ md (k + 1) = j + 1
theorem zen_in {τ : Nat → Nat} {md k j : Nat} (hk : k < zm τ md) (h1 : zL τ md k ≤ j) (h2 : j < zL τ md (k + 1)) : zen τ md j ↔ j + 1 = zL τ md (k + 1) := by
  constructor
  · rintro ⟨k', hk', e⟩
    rcases Nat.lt_trichotomy k' k with q | q | q
    · have := zL_mono' (τ := τ) (m := md) (show k' + 1 ≤ k from q)
      omega
    · subst q; exact e.symm
    · have a1 := zL_mono' (τ := τ) (m := md) (show k + 1 ≤ k' from q)
      have a2 := zL_lt (zm_iff.mp hk')
      omega
  · intro e
    exact ⟨k, hk, e.symm⟩
theorem zpar_end {τ : Nat → Nat} {md s k0 : Nat} (hs : s < τ 80) (hps : zps τ s) (hk0 : zL τ md k0 = s) : ∃ k1, k0 < k1 ∧ zL τ md k1 = zpd τ s ∧ (∀ j, j < k1 → zL τ md j < zpd τ s) ∧ (zpd τ s < τ 80 → zst τ md k1 = (zpd τ s, zpd τ s, 1)) := by
  obtain ⟨p1, p2, p3, p4⟩ := zpd_is hs
  have key : ∀ (d2 k : Nat), k0 ≤ k → zL τ md k < zpd τ s → zpd τ s - zL τ md k ≤ d2 → ∃ k1, k0 < k1 ∧ zL τ md k1 = zpd τ s ∧ (∀ j, j < k1 → zL τ md j < zpd τ s) ∧ (zpd τ s < τ 80 → zst τ md k1 = (zpd τ s, zpd τ s, 1)) := by
    intro d2
    induction d2 with
    | zero => intro k _ a1 a2; omega
    | succ d2 ih2 =>
      intro k a0 a1 a2
      have a3 : zL τ md k < τ 80 := by omega
      have a4 := zL_lt a3
      have a5 : zL τ md (k + 1) ≤ zpd τ s := by
        have b1 := zL_rc (τ := τ) (m := md) (zm_iff.mpr a3)
        have b2 := zrc_par hs hps (zL τ md k) a1
        omega
      rcases Nat.eq_or_lt_of_le a5 with z | z
      · refine ⟨k + 1, by omega, z, fun j hj => ?_, fun q => ?_⟩
        · have := zL_mono' (τ := τ) (m := md) (show j ≤ k by omega)
          omega
        · have e1 := zst_next (m := md) (k := k) (b := (zst τ md k).1) (i := zL τ md k) (t := (zst τ md k).2.2) rfl a3
          have e2 := zL_next (m := md) (k := k) (b := (zst τ md k).1) (i := zL τ md k) (t := (zst τ md k).2.2) rfl a3
          rw [← e2, z, zif_t (zps_pd (by omega))] at e1
          exact e1
      · exact ih2 (k + 1) (by omega) z (by omega)
  exact key (zpd τ s) k0 (Nat.le_refl _) (by omega) (by omega)
theorem zwd_mono {τ : Nat → Nat} {b j j' : Nat} (h : j ≤ j') : zwd τ b j ≤ zwd τ b j' := by
  unfold zwd
  have h1 := zsm_le (τ := τ) h
  have h2 := Nat.mul_le_mul_left (τ 82) (show j - b - 1 ≤ j' - b - 1 by omega)
  omega
theorem zwd_left {τ : Nat → Nat} {b b' j : Nat} (h : b ≤ b') : zwd τ b' j ≤ zwd τ b j := by
  unfold zwd
  have h1 := zsm_le (τ := τ) h
  have h2 := Nat.mul_le_mul_left (τ 82) (show j - b' - 1 ≤ j - b - 1 by omega)
  omega
theorem zrc_anti {τ : Nat → Nat} {b i : Nat} (h : i ≤ zrc τ b) (hb : b + 1 < i) : i ≤ zrc τ (b + 1) := by
  obtain ⟨r1, r2, r3⟩ := zrc_is τ b
  obtain ⟨s1, s2, s3⟩ := zrc_is τ (b + 1)
  rcases Nat.lt_or_ge (zrc τ (b + 1)) i with q | q
  · obtain ⟨g1, g2, g3⟩ := r3 (zrc τ (b + 1)) (by omega) (by omega)
    exact absurd ⟨g1, g2, Nat.le_trans (zwd_left (Nat.le_succ b)) g3⟩ s2
  · exact q
theorem zrc_anti' {τ : Nat → Nat} {b i : Nat} (h : i ≤ zrc τ b) : ∀ d, b + d < i → i ≤ zrc τ (b + d)
  | 0, _ => h
  | d + 1, hd => zrc_anti (zrc_anti' h d (by omega)) hd
theorem zrc_more {τ : Nat → Nat} (ho : zOk τ) {b i : Nat} (hb : b < τ 80) (hi : b + 1 < i) (hiP : i ≤ zpd τ b) (h : i ≤ zrc τ (b + 1)) : i ≤ zrc τ b ↔ (τ (40 + b) ≠ 1 ∧ zwd τ b i ≤ τ 81) := by
  obtain ⟨r1, r2, r3⟩ := zrc_is τ b
  obtain ⟨s1, s2, s3⟩ := zrc_is τ (b + 1)
  obtain ⟨p1, p2, p3, p4⟩ := zpd_is hb
  have m2 := ho.2.2.1 b hb
  have n2 : τ (40 + b) ≠ 2 := fun q => p4 b (Nat.le_refl _) (by omega) (Or.inl q)
  constructor
  · intro q
    have g1 := (r3 (b + 1) (by omega) (by omega)).2.1
    rw [Nat.add_sub_cancel] at g1
    have g2 := (r3 (i - 1) (by omega) (by omega)).2.2
    rw [show i - 1 + 1 = i by omega] at g2
    exact ⟨by omega, g2⟩
  · rintro ⟨q1, q2⟩
    rcases Nat.lt_or_ge (zrc τ b) i with q | q
    · refine absurd ⟨by omega, ?_, Nat.le_trans (zwd_mono (show zrc τ b + 1 ≤ i from q)) q2⟩ r2
      rcases Nat.eq_or_lt_of_le r1 with z | z
      · rw [← z, Nat.add_sub_cancel]; omega
      · exact (s3 (zrc τ b) (by omega) (by omega)).2.1
    · exact q
theorem zlt_m1 {s : Nat} (h : s < 2 ^ 30) : nI s - nI 1 < nI s := by
  rw [Int32.lt_iff_toInt_lt, pk_sub_toInt h (by omega), nI_toInt (by omega)]
  omega
/-- the table's rows of b, i -/
def zTB (μ : zF) (m : Nat) (τ : Nat → Nat) (P b i k : Nat) : Prop := ∀ u, u < k → μ (m + 5) (zat b i u) = nI (zsc τ P b i u / 64) ∧ μ (m + 6) (zat b i u) = nI (zsc τ P b i u % 64) ∧ μ (m + 7) (zat b i u) = nI (zch τ P false b i u)
theorem zTB.far {μ μ' : zF} {m P b i k q : Nat} {τ : Nat → Nat} (h : zTB μ m τ P b i k) (hf : ∀ a j, ¬ ((a = m + 5 ∨ a = m + 6 ∨ a = m + 7) ∧ j = q) → μ' a j = μ a j) (hq : ∀ u, u < k → zat b i u ≠ q) : zTB μ' m τ P b i k := fun u hu => ⟨(hf _ _ (fun w => hq u hu w.2)).trans (h u hu).1, (hf _ _ (fun w => hq u hu w.2)).trans (h u hu).2.1, (hf _ _ (fun w => hq u hu w.2)).trans (h u hu).2.2⟩
set_option maxHeartbeats 16000000 in
theorem vX9_laysBest {l : Launch} {g : zG} (hl : l.stackTraces = false) {K : zK} {μ : zF} {m s k0 P : Nat} {τ : Nat → Nat} (hR : zRef K m) (hx : zSx μ m τ) (hu : zSu μ m τ) (ho : zOk τ) (hk0 : zst τ 1 k0 = (s, s, 1)) (hps : zps τ s) (hsn : s < τ 80) (hP : zpd τ s = P) (hz : ∀ j, s ≤ j → j < 40 → μ (m + 3) j = nI 0) :
    EX9_laysBest l g 0 0 [.ref m, .int (nI s), .int (nI P), .int (nI (τ 81))] K μ (zPw K (fun μ' => (∀ j, s ≤ j → j < P → μ' (m + 3) j = zBv (zen τ 1 j)) ∧ ∀ a j, ¬ (a = m + 3 ∧ s ≤ j ∧ j < P) → ¬ (m + 5 ≤ a ∧ a ≤ m + 7) → μ' a j = μ a j)) := by
  obtain ⟨h0, h1, h2, h3, h4, h5, h6, h7, h8, i1, i2, i3, i4, i5, i6, i7, i8⟩ := id hR
  have o1 := ho.1
  obtain ⟨p1, p2, p3, p4⟩ := zpd_is hsn
  have hpd := zrc_par hsn hps
  have hmid : ∀ j, s ≤ j → j < P → zpd τ j = P := fun j j1 j2 => (zpd_mid hsn j1 (by omega)).trans hP
  have hsin : ∀ j, s < j → j < P → ¬ zps τ j := fun j j1 j2 => zps_in hsn j1 (by omega)
  rw [hP] at p1 p2 p3 hpd
  have hL0 : zL τ 1 k0 = s := by unfold zL; rw [hk0]
  refine nX9_laysBest hl (fun x hC hQ => ?_)
  -- the way along the choices
  have follow : ∀ (μc : zF), (∀ a j, ¬ (m + 5 ≤ a ∧ a ≤ m + 7) → μc a j = μ a j) → (∀ b i u, s ≤ b → b < i → i < P → i ≤ zrc τ b → u < 3 → μc (m + 7) (zat b i u) = nI (zch τ P false b i u)) →
      ∀ (dd w k b t' : Nat) (st bf : Int32) (μ2 : zF), P - w ≤ dd → s ≤ w → w ≤ P → zL τ 1 k = w → (w < P → zst τ 1 k = (b, w, t') ∧ s ≤ b ∧ (∃ q, st = nI q ∧ q < 4921 ∧ μc (m + 7) q = nI (zL τ 1 (k + 1))) ∧ ((b = w ∧ bf = -1) ∨ (b < w ∧ bf = nI b))) →
      (∀ j, s ≤ j → j < w → μ2 (m + 3) j = zBv (zen τ 1 j)) → (∀ j, w ≤ j → j < 40 → μ2 (m + 3) j = nI 0) → (∀ a j, ¬ (a = m + 3 ∧ s ≤ j ∧ j < P) → μ2 a j = μc a j) →
      zV x 0 0 145 [some (.ref m), some (.int (nI s)), some (.int (nI P)), some (.int (nI (τ 81))), some (.int st), some (.int bf), some (.int (nI w)), none, none] [] K μ2 := by
    intro μc hfc hCT dd
    induction dd with
    | zero =>
      intro w k b t' st bf μ2 hd hsw hwP hLk hst hend hz2 hf2
      obtain rfl : w = P := by omega
      refine eX9_laysBest_145 hC ?_
      refine eX9_laysBest_147 hC ?_
      refine eX9_laysBest_148 hC (fun _ => ?_) (fun zz => absurd (nI_le (Nat.le_refl _) (by omega)) zz)
      refine eX9_laysBest_235 hC hQ (Nat.le_of_ble_eq_true rfl) (Nat.le_of_ble_eq_true rfl) ?_
      exact ⟨rfl, rfl, hend, fun a j q1 q2 => (hf2 a j q1).trans (hfc a j q2)⟩
    | succ dd ih =>
      intro w k b t' st bf μ2 hd hsw hwP hLk hst hend hz2 hf2
      by_cases cw : w = P
      · subst cw
        refine eX9_laysBest_145 hC ?_
        refine eX9_laysBest_147 hC ?_
        refine eX9_laysBest_148 hC (fun _ => ?_) (fun zz => absurd (nI_le (Nat.le_refl _) (by omega)) zz)
        refine eX9_laysBest_235 hC hQ (Nat.le_of_ble_eq_true rfl) (Nat.le_of_ble_eq_true rfl) ?_
        exact ⟨rfl, rfl, hend, fun a j q1 q2 => (hf2 a j q1).trans (hfc a j q2)⟩
      · obtain ⟨e1, e2, ⟨q, rfl, hq, ech⟩, e4⟩ := hst (by omega)
        have hkm : k < zm τ 1 := zm_iff.mpr (by omega)
        obtain ⟨nx, hnx⟩ : ∃ nx, nx = zL τ 1 (k + 1) := ⟨_, rfl⟩
        have hn1 : w < nx := by rw [hnx, ← hLk]; exact zL_lt (by omega)
        have hrc : nx ≤ zrc τ w := by rw [hnx, ← hLk]; exact zL_rc hkm
        have hn2 : nx ≤ P := Nat.le_trans hrc (hpd w (by omega))
        have hch : μ2 (m + 7) q = nI nx := by rw [hf2 _ _ (by omega), hnx]; exact ech
        have hx2 : zSx μ2 m τ := hx.eq (fun j => (hf2 _ _ (by omega)).trans (hfc _ _ (by omega)))
        have hu2 : zSu μ2 m τ := hu.eq (fun j => (hf2 _ _ (by omega)).trans (hfc _ _ (by omega)))
        have hx3 : ∀ v, zSx (zup μ2 (m + 3) (nx - 1) v) m τ := fun v => hx2.eq (fun j => zup_a _ _ _ _ (by omega))
        have hu3 : ∀ v, zSu (zup μ2 (m + 3) (nx - 1) v) m τ := fun v => hu2.eq (fun j => zup_a _ _ _ _ (by omega))
        have fin : ∀ (u : Nat) (st' : Int32) (l7 l8 : Option Value), u = (if b = w then 1 else ztn τ (zwd τ b w) (zwd τ w nx)) → u ≤ 2 → (nx < P → st' = nI (zat w nx u)) → zV x 0 0 145 [some (.ref m), some (.int (nI s)), some (.int (nI P)), some (.int (nI (τ 81))), some (.int st'), some (.int (nI w)), some (.int (nI nx)), l7, l8] [] K (zup μ2 (m + 3) (nx - 1) (nI 1)) := by
          intro u st' l7 l8 hu4 u2 hst'
          refine zV.fg (by simp [zFg]) (ih nx (k + 1) w u st' (nI w) _ (by omega) (by omega) hn2 hnx.symm (fun z => ?_) (fun j j1 j2 => ?_) (fun j j1 j2 => ?_) (fun a j z => ?_))
          · have e5 := zst_next e1 (show w < τ 80 by omega)
            have e6 := zL_next e1 (show w < τ 80 by omega)
            rw [← e6, ← hnx, zif_f (hsin nx (by omega) z), ← hu4] at e5
            refine ⟨e5, hsw, ⟨zat w nx u, hst' z, by unfold zat; omega, ?_⟩, Or.inr ⟨hn1, rfl⟩⟩
            rw [hCT w nx u hsw hn1 z hrc (by omega), zL_next e5 (show nx < τ 80 by omega)]
            unfold znx
            rw [if_pos rfl, hmid nx (by omega) z, show decide (w = nx) = false from decide_eq_false (by omega)]
          · by_cases c : j = nx - 1
            · subst c
              rw [zup_self, zBv_t (p := zen τ 1 (nx - 1)) ⟨k, hkm, by rw [← hnx]; omega⟩]
            · rw [zup_k _ _ _ c]
              rcases Nat.lt_or_ge j w with y | y
              · exact hend j j1 y
              · rw [hz2 j y (by omega), zBv_f]
                intro w1
                have := (zen_in hkm (by omega) (by omega)).mp w1
                omega
          · rw [zup_k _ _ _ (by omega)]; exact hz2 j (by omega) j2
          · unfold zup
            rw [if_neg (fun w1 => z ⟨w1.1, by omega, by omega⟩)]
            exact hf2 a j z
        rcases e4 with ⟨rfl, rfl⟩ | ⟨hbw, rfl⟩
        · rw [if_pos rfl] at fin
          by_cases cn : nx < P
          · refine eX9_laysBest_145 hC ?_
            refine eX9_laysBest_147 hC ?_
            refine eX9_laysBest_148 hC (fun zz => absurd zz (nI_ge (by omega) (by omega))) (fun _ => ?_)
            refine eX9_laysBest_151 hC ?_
            refine eX9_laysBest_152 hC (by assumption) (by assumption) ?_
            refine eX9_laysBest_155 hC ?_
            refine eX9_laysBest_157 hC (by assumption) (vp_in_nI (by omega) (by omega)) ?_
            rw [nI_clamp (by omega), hch]
            refine eX9_laysBest_158 hC ?_
            refine eX9_laysBest_160 hC ?_
            refine eX9_laysBest_161 hC (by assumption) (by assumption) ?_
            refine eX9_laysBest_164 hC ?_
            refine eX9_laysBest_166 hC ?_
            refine eX9_laysBest_167 hC ?_
            rw [nI_sub (by omega)]
            refine eX9_laysBest_168 hC ?_
            refine eX9_laysBest_169 hC (by assumption) (vp_in_nI (by omega) (by omega)) (by first | (left; rfl) | (right; rfl) | assumption) ?_
            rw [nI_clamp (by omega)]
            refine eX9_laysBest_170 hC ?_
            refine eX9_laysBest_172 hC ?_
            refine eX9_laysBest_173 hC (fun zz => absurd rfl zz) (fun _ => ?_)
            refine eX9_laysBest_176 hC ?_
            refine eX9_laysBest_177 hC ?_
            refine eX9_laysBest_200 hC ?_
            refine eX9_laysBest_202 hC ?_
            refine eX9_laysBest_204 hC ?_
            refine eX9_laysBest_205 hC (fun zz => absurd zz (nI_ge cn (by omega))) (fun _ => ?_)
            refine eX9_laysBest_208 hC ?_
            refine eX9_laysBest_210 hC ?_
            refine eX9_laysBest_212 hC ?_
            refine eX9_laysBest_214 hC (Nat.le_of_ble_eq_true rfl) (Nat.le_of_ble_eq_true rfl) (Nat.le_of_ble_eq_true rfl) (vX9_at hC.nt) (zk_i ?_)
            refine eX9_laysBest_217 hC ?_
            refine eX9_laysBest_222 hC ?_
            refine eX9_laysBest_224 hC ?_
            refine eX9_laysBest_226 hC ?_
            refine eX9_laysBest_228 hC ?_
            refine eX9_laysBest_230 hC ?_
            refine eX9_laysBest_232 hC ?_
            exact fin 1 _ _ _ rfl (by omega) (fun _ => rfl)
          · refine eX9_laysBest_145 hC ?_
            refine eX9_laysBest_147 hC ?_
            refine eX9_laysBest_148 hC (fun zz => absurd zz (nI_ge (by omega) (by omega))) (fun _ => ?_)
            refine eX9_laysBest_151 hC ?_
            refine eX9_laysBest_152 hC (by assumption) (by assumption) ?_
            refine eX9_laysBest_155 hC ?_
            refine eX9_laysBest_157 hC (by assumption) (vp_in_nI (by omega) (by omega)) ?_
            rw [nI_clamp (by omega), hch]
            refine eX9_laysBest_158 hC ?_
            refine eX9_laysBest_160 hC ?_
            refine eX9_laysBest_161 hC (by assumption) (by assumption) ?_
            refine eX9_laysBest_164 hC ?_
            refine eX9_laysBest_166 hC ?_
            refine eX9_laysBest_167 hC ?_
            rw [nI_sub (by omega)]
            refine eX9_laysBest_168 hC ?_
            refine eX9_laysBest_169 hC (by assumption) (vp_in_nI (by omega) (by omega)) (by first | (left; rfl) | (right; rfl) | assumption) ?_
            rw [nI_clamp (by omega)]
            refine eX9_laysBest_170 hC ?_
            refine eX9_laysBest_172 hC ?_
            refine eX9_laysBest_173 hC (fun zz => absurd rfl zz) (fun _ => ?_)
            refine eX9_laysBest_176 hC ?_
            refine eX9_laysBest_177 hC ?_
            refine eX9_laysBest_200 hC ?_
            refine eX9_laysBest_202 hC ?_
            refine eX9_laysBest_204 hC ?_
            refine eX9_laysBest_205 hC (fun _ => ?_) (fun zz => absurd (nI_le (by omega) (by omega)) zz)
            refine eX9_laysBest_220 hC ?_
            refine eX9_laysBest_222 hC ?_
            refine eX9_laysBest_224 hC ?_
            refine eX9_laysBest_226 hC ?_
            refine eX9_laysBest_228 hC ?_
            refine eX9_laysBest_230 hC ?_
            refine eX9_laysBest_232 hC ?_
            exact fin 1 _ _ _ rfl (by omega) (fun z => absurd z cn)
        · rw [if_neg (by omega)] at fin
          have w1 := zwd_le ho (i := b) (j := w) (by omega)
          have w2 := zwd_le ho (i := w) (j := nx) (by omega)
          by_cases cn : nx < P
          · refine eX9_laysBest_145 hC ?_
            refine eX9_laysBest_147 hC ?_
            refine eX9_laysBest_148 hC (fun zz => absurd zz (nI_ge (by omega) (by omega))) (fun _ => ?_)
            refine eX9_laysBest_151 hC ?_
            refine eX9_laysBest_152 hC (by assumption) (by assumption) ?_
            refine eX9_laysBest_155 hC ?_
            refine eX9_laysBest_157 hC (by assumption) (vp_in_nI (by omega) (by omega)) ?_
            rw [nI_clamp (by omega), hch]
            refine eX9_laysBest_158 hC ?_
            refine eX9_laysBest_160 hC ?_
            refine eX9_laysBest_161 hC (by assumption) (by assumption) ?_
            refine eX9_laysBest_164 hC ?_
            refine eX9_laysBest_166 hC ?_
            refine eX9_laysBest_167 hC ?_
            rw [nI_sub (by omega)]
            refine eX9_laysBest_168 hC ?_
            refine eX9_laysBest_169 hC (by assumption) (vp_in_nI (by omega) (by omega)) (by first | (left; rfl) | (right; rfl) | assumption) ?_
            rw [nI_clamp (by omega)]
            refine eX9_laysBest_170 hC ?_
            refine eX9_laysBest_172 hC ?_
            refine eX9_laysBest_173 hC (fun _ => ?_) (fun zz => absurd zz (zne_m1 (by omega)))
            refine eX9_laysBest_180 hC ?_
            refine eX9_laysBest_181 hC ?_
            refine eX9_laysBest_182 hC ?_
            refine eX9_laysBest_184 hC ?_
            refine eX9_laysBest_186 hC (Nat.le_of_ble_eq_true rfl) (Nat.le_of_ble_eq_true rfl) (Nat.le_of_ble_eq_true rfl) (by assumption) (vX9_width hC.nt hR (hx3 _) (hu3 _) ho (by omega) (by omega)) (zk_i ?_)
            refine eX9_laysBest_189 hC ?_
            refine eX9_laysBest_190 hC ?_
            refine eX9_laysBest_192 hC ?_
            refine eX9_laysBest_194 hC (Nat.le_of_ble_eq_true rfl) (Nat.le_of_ble_eq_true rfl) (Nat.le_of_ble_eq_true rfl) (by assumption) (vX9_width hC.nt hR (hx3 _) (hu3 _) ho (by omega) (by omega)) (zk_i ?_)
            refine eX9_laysBest_197 hC (Nat.le_of_ble_eq_true rfl) (Nat.le_of_ble_eq_true rfl) (Nat.le_of_ble_eq_true rfl) (by assumption) (vX9_trend hC.nt hR (hx3 _) ho (by omega) (by omega)) (zk_i ?_)
            refine eX9_laysBest_200 hC ?_
            refine eX9_laysBest_202 hC ?_
            refine eX9_laysBest_204 hC ?_
            refine eX9_laysBest_205 hC (fun zz => absurd zz (nI_ge cn (by omega))) (fun _ => ?_)
            refine eX9_laysBest_208 hC ?_
            refine eX9_laysBest_210 hC ?_
            refine eX9_laysBest_212 hC ?_
            refine eX9_laysBest_214 hC (Nat.le_of_ble_eq_true rfl) (Nat.le_of_ble_eq_true rfl) (Nat.le_of_ble_eq_true rfl) (vX9_at hC.nt) (zk_i ?_)
            refine eX9_laysBest_217 hC ?_
            refine eX9_laysBest_222 hC ?_
            refine eX9_laysBest_224 hC ?_
            refine eX9_laysBest_226 hC ?_
            refine eX9_laysBest_228 hC ?_
            refine eX9_laysBest_230 hC ?_
            refine eX9_laysBest_232 hC ?_
            exact fin _ _ _ _ rfl (ztn_le _ _ _) (fun _ => rfl)
          · refine eX9_laysBest_145 hC ?_
            refine eX9_laysBest_147 hC ?_
            refine eX9_laysBest_148 hC (fun zz => absurd zz (nI_ge (by omega) (by omega))) (fun _ => ?_)
            refine eX9_laysBest_151 hC ?_
            refine eX9_laysBest_152 hC (by assumption) (by assumption) ?_
            refine eX9_laysBest_155 hC ?_
            refine eX9_laysBest_157 hC (by assumption) (vp_in_nI (by omega) (by omega)) ?_
            rw [nI_clamp (by omega), hch]
            refine eX9_laysBest_158 hC ?_
            refine eX9_laysBest_160 hC ?_
            refine eX9_laysBest_161 hC (by assumption) (by assumption) ?_
            refine eX9_laysBest_164 hC ?_
            refine eX9_laysBest_166 hC ?_
            refine eX9_laysBest_167 hC ?_
            rw [nI_sub (by omega)]
            refine eX9_laysBest_168 hC ?_
            refine eX9_laysBest_169 hC (by assumption) (vp_in_nI (by omega) (by omega)) (by first | (left; rfl) | (right; rfl) | assumption) ?_
            rw [nI_clamp (by omega)]
            refine eX9_laysBest_170 hC ?_
            refine eX9_laysBest_172 hC ?_
            refine eX9_laysBest_173 hC (fun _ => ?_) (fun zz => absurd zz (zne_m1 (by omega)))
            refine eX9_laysBest_180 hC ?_
            refine eX9_laysBest_181 hC ?_
            refine eX9_laysBest_182 hC ?_
            refine eX9_laysBest_184 hC ?_
            refine eX9_laysBest_186 hC (Nat.le_of_ble_eq_true rfl) (Nat.le_of_ble_eq_true rfl) (Nat.le_of_ble_eq_true rfl) (by assumption) (vX9_width hC.nt hR (hx3 _) (hu3 _) ho (by omega) (by omega)) (zk_i ?_)
            refine eX9_laysBest_189 hC ?_
            refine eX9_laysBest_190 hC ?_
            refine eX9_laysBest_192 hC ?_
            refine eX9_laysBest_194 hC (Nat.le_of_ble_eq_true rfl) (Nat.le_of_ble_eq_true rfl) (Nat.le_of_ble_eq_true rfl) (by assumption) (vX9_width hC.nt hR (hx3 _) (hu3 _) ho (by omega) (by omega)) (zk_i ?_)
            refine eX9_laysBest_197 hC (Nat.le_of_ble_eq_true rfl) (Nat.le_of_ble_eq_true rfl) (Nat.le_of_ble_eq_true rfl) (by assumption) (vX9_trend hC.nt hR (hx3 _) ho (by omega) (by omega)) (zk_i ?_)
            refine eX9_laysBest_200 hC ?_
            refine eX9_laysBest_202 hC ?_
            refine eX9_laysBest_204 hC ?_
            refine eX9_laysBest_205 hC (fun _ => ?_) (fun zz => absurd (nI_le (by omega) (by omega)) zz)
            refine eX9_laysBest_220 hC ?_
            refine eX9_laysBest_222 hC ?_
            refine eX9_laysBest_224 hC ?_
            refine eX9_laysBest_226 hC ?_
            refine eX9_laysBest_228 hC ?_
            refine eX9_laysBest_230 hC ?_
            refine eX9_laysBest_232 hC ?_
            exact fin _ _ _ _ rfl (ztn_le _ _ _) (fun z => absurd z cn)
  -- the table, from the paragraph's end
  have outer : ∀ (d i : Nat) (μ1 : zF), s + d = i → i < P → (∀ a j, ¬ (m + 5 ≤ a ∧ a ≤ m + 7) → μ1 a j = μ a j) → (∀ b' i', s ≤ b' → b' < i' → i < i' → i' < P → i' ≤ zrc τ b' → zTB μ1 m τ P b' i' 3) →
      zV x 0 0 5 [some (.ref m), some (.int (nI s)), some (.int (nI P)), some (.int (nI (τ 81))), some (.int (nI i)), none, none, none, none] [] K μ1 := by
    intro d
    induction d with
    | zero =>
      intro i μ1 hi hiP hf1 hTB
      obtain rfl : i = s := by omega
      have hx1 := hx.eq (fun j => hf1 (m + 1) j (by omega))
      have hu1 := hu.eq (fun j => hf1 (m + 4) j (by omega))
      refine eX9_laysBest_5 hC ?_
      refine eX9_laysBest_7 hC ?_
      refine eX9_laysBest_8 hC (fun _ => ?_) (fun zz => absurd (nI_le (Nat.le_refl _) (by omega)) zz)
      refine eX9_laysBest_122 hC ?_
      refine eX9_laysBest_123 hC ?_
      refine eX9_laysBest_126 hC ?_
      refine eX9_laysBest_127 hC ?_
      refine eX9_laysBest_128 hC ?_
      refine eX9_laysBest_129 hC ?_
      refine eX9_laysBest_130 hC ?_
      refine eX9_laysBest_131 hC (Nat.le_of_ble_eq_true rfl) (Nat.le_of_ble_eq_true rfl) (Nat.le_of_ble_eq_true rfl) (by assumption) (vX9_chooses (f := true) (b := i) (t := 1) (q := 4920) hC.nt hR hx1 hu1 ho hsn hP hpd (by omega) (by omega) rfl (fun z => absurd z (by decide)) (fun j u j1 j2 j3 hu5 => ⟨by unfold zat; omega, (hTB i j (Nat.le_refl _) j1 j1 j2 j3 u hu5).1, (hTB i j (Nat.le_refl _) j1 j1 j2 j3 u hu5).2.1⟩)) (zk_w (fun μ_131 m_131 => ?_))
      refine eX9_laysBest_134 hC ?_
      refine eX9_laysBest_137 hC ?_
      refine eX9_laysBest_139 hC ?_
      refine eX9_laysBest_140 hC ?_
      refine eX9_laysBest_142 hC ?_
      refine eX9_laysBest_143 hC ?_
      obtain ⟨g1, g2, g3, g4⟩ := m_131
      have e6 := zL_next hk0 hsn
      refine zV.fg (by simp [zFg]) (follow μ_131 (fun a j z => (g4 a j (by omega)).trans (hf1 a j z)) (fun b i' u b1 b2 b3 b4 b5 => ?_) (P - i) i k0 i 1 (nI 4920) (-1) μ_131 (Nat.le_refl _) (Nat.le_refl _) (by omega) hL0 (fun _ => ⟨hk0, Nat.le_refl _, ⟨4920, rfl, by omega, ?_⟩, Or.inl ⟨rfl, rfl⟩⟩) (fun j j1 j2 => by omega) (fun j j1 j2 => ?_) (fun _ _ _ => rfl))
      · rw [g4 _ _ (fun w => by have := w.2; unfold zat at this; omega)]
        exact (hTB b i' b1 b2 (by omega) b3 b4 u b5).2.2
      · rw [g3, e6]
        unfold znx
        rw [if_pos rfl, hP, show decide (i = i) = true from decide_eq_true rfl]
      · rw [g4 _ _ (by omega), hf1 _ _ (by omega)]; exact hz j j1 j2
    | succ d ih =>
      intro i μ1 hi hiP hf1 hTB
      -- the lines before, from the nearest on
      have inner : ∀ (e bb more : Nat) (μ2 : zF), s + e = bb → bb ≤ i → more ≤ 1 → (∀ a j, ¬ (m + 5 ≤ a ∧ a ≤ m + 7) → μ2 a j = μ a j) → (∀ b' i', s ≤ b' → b' < i' → i < i' → i' < P → i' ≤ zrc τ b' → zTB μ2 m τ P b' i' 3) → (∀ b', bb ≤ b' → b' < i → i ≤ zrc τ b' → zTB μ2 m τ P b' i 3) → ((more = 1 ∧ (s < bb → i ≤ zrc τ (bb - 1))) ∨ (more = 0 ∧ ∀ b', s ≤ b' → b' < bb → zrc τ b' < i)) →
          zV x 0 0 20 [some (.ref m), some (.int (nI s)), some (.int (nI P)), some (.int (nI (τ 81))), some (.int (nI i)), some (.int (nI more)), some (.int (nI bb - nI 1)), none, none] [] K μ2 := by
        intro e
        induction e with
        | zero =>
          intro bb more μ2 hbb hbi hm1 hf2 hT1 hT2 hmo
          obtain rfl : bb = s := by omega
          refine eX9_laysBest_20 hC ?_
          refine eX9_laysBest_22 hC ?_
          refine eX9_laysBest_23 hC (fun _ => ?_) (fun zz => absurd (zlt_m1 (by omega)) zz)
          refine eX9_laysBest_116 hC ?_
          rw [nI_sub (by omega)]
          refine eX9_laysBest_119 hC ?_
          refine zV.fg (by simp [zFg]) (ih (i - 1) μ2 (by omega) (by omega) hf2 (fun b' i' b1 b2 b3 b4 b5 => ?_))
          by_cases c : i' = i
          · subst c; exact hT2 b' b1 b2 b5
          · exact hT1 b' i' b1 b2 (by omega) b4 b5
        | succ e ih2 =>
          intro bb more μ2 hbb hbi hm1 hf2 hT1 hT2 hmo
          rcases hmo with ⟨rfl, hmo⟩ | ⟨rfl, hmo⟩
          · have hrb := hmo (by omega)
            have hx1 := hx.eq (fun j => hf2 (m + 1) j (by omega))
            have hu1 := hu.eq (fun j => hf2 (m + 4) j (by omega))
            have trends : ∀ (e3 u : Nat) (μ3 : zF), u + e3 = 3 → (∀ a j, ¬ (m + 5 ≤ a ∧ a ≤ m + 7) → μ3 a j = μ a j) → (∀ b' i', s ≤ b' → b' < i' → i < i' → i' < P → i' ≤ zrc τ b' → zTB μ3 m τ P b' i' 3) → (∀ b', bb ≤ b' → b' < i → i ≤ zrc τ b' → zTB μ3 m τ P b' i 3) → zTB μ3 m τ P (bb - 1) i u →
                zV x 0 0 34 [some (.ref m), some (.int (nI s)), some (.int (nI P)), some (.int (nI (τ 81))), some (.int (nI i)), some (.int (nI 1)), some (.int (nI (bb - 1))), some (.int (nI u)), none] [] K μ3 := by
              intro e3
              induction e3 with
              | zero =>
                intro u μ3 hu3 hf3 hT3 hT4 hT5
                obtain rfl : u = 3 := by omega
                have hx3 := hx.eq (fun j => hf3 (m + 1) j (by omega))
                have hu4 := hu.eq (fun j => hf3 (m + 4) j (by omega))
                have hT6 : ∀ b', bb - 1 ≤ b' → b' < i → i ≤ zrc τ b' → zTB μ3 m τ P b' i 3 := fun b' b1 b2 b3 => by
                  by_cases c : b' = bb - 1
                  · subst c; exact hT5
                  · exact hT4 b' (by omega) b2 b3
                by_cases cs : bb - 1 = s
                · refine eX9_laysBest_34 hC ?_
                  refine eX9_laysBest_36 hC ?_
                  refine eX9_laysBest_37 hC (fun _ => ?_) (fun zz => absurd (nI_le (Nat.le_refl _) (by omega)) zz)
                  refine eX9_laysBest_67 hC ?_
                  refine eX9_laysBest_69 hC ?_
                  refine eX9_laysBest_70 hC (fun _ => ?_) (fun zz => absurd (by rw [cs]; exact Int32.le_refl _) zz)
                  refine eX9_laysBest_107 hC ?_
                  refine eX9_laysBest_108 hC ?_
                  refine eX9_laysBest_110 hC ?_
                  refine eX9_laysBest_113 hC ?_
                  refine zV.fg (by simp [zFg]) (ih2 (bb - 1) 0 μ3 (by omega) (by omega) (by omega) hf3 hT3 hT6 (Or.inr ⟨rfl, fun b' b1 b2 => by omega⟩))
                · obtain ⟨c, rfl⟩ : ∃ c, bb = c + 2 := ⟨bb - 2, by omega⟩
                  rw [show c + 2 - 1 = c + 1 by omega] at *
                  have hpc : zpd τ c = P := hmid c (by omega) (by omega)
                  have hmr := zrc_more ho (b := c) (i := i) (by omega) (by omega) (by omega) hrb
                  have ek := (hx3.1 c (by omega)).2
                  have m2 := ho.2.2.1 c (by omega)
                  have w1 := zwd_le ho (i := c) (j := i) (by omega)
                  have o81 := ho.2.2.2.1
                  have hno : ¬ i ≤ zrc τ c → ∀ b', s ≤ b' → b' < c + 1 → zrc τ b' < i := fun z b' b1 b2 => by
                    rcases Nat.lt_or_ge (zrc τ b') i with y | y
                    · exact y
                    · have := zrc_anti' y (c - b') (by omega)
                      rw [show b' + (c - b') = c by omega] at this
                      exact absurd this z
                  by_cases k1 : τ (40 + c) = 1
                  · refine eX9_laysBest_34 hC ?_
                    refine eX9_laysBest_36 hC ?_
                    refine eX9_laysBest_37 hC (fun _ => ?_) (fun zz => absurd (nI_le (Nat.le_refl _) (by omega)) zz)
                    refine eX9_laysBest_67 hC ?_
                    refine eX9_laysBest_69 hC ?_
                    refine eX9_laysBest_70 hC (fun zz => absurd zz (nI_ge (by omega) (by omega))) (fun _ => ?_)
                    refine eX9_laysBest_73 hC ?_
                    refine eX9_laysBest_74 hC (by assumption) (by assumption) ?_
                    refine eX9_laysBest_77 hC ?_
                    refine eX9_laysBest_79 hC ?_
                    refine eX9_laysBest_81 hC ?_
                    rw [nI_add]
                    refine eX9_laysBest_82 hC ?_
                    refine eX9_laysBest_83 hC ?_
                    rw [nI_sub (by omega), show 40 + (c + 1) - 1 = 40 + c by omega]
                    refine eX9_laysBest_84 hC (by assumption) (vp_in_nI (by omega) (by omega)) ?_
                    rw [nI_clamp (by omega), ek]
                    refine eX9_laysBest_85 hC ?_
                    refine eX9_laysBest_86 hC (fun _ => ?_) (fun zz => absurd (by rw [k1]) zz)
                    refine eX9_laysBest_107 hC ?_
                    refine eX9_laysBest_108 hC ?_
                    refine eX9_laysBest_110 hC ?_
                    refine eX9_laysBest_113 hC ?_
                    refine zV.fg (by simp [zFg]) (ih2 (c + 1) 0 μ3 (by omega) (by omega) (by omega) hf3 hT3 hT6 (Or.inr ⟨rfl, hno (fun z => (hmr.mp z).1 k1)⟩))
                  · by_cases k2 : zwd τ c i ≤ τ 81
                    · refine eX9_laysBest_34 hC ?_
                      refine eX9_laysBest_36 hC ?_
                      refine eX9_laysBest_37 hC (fun _ => ?_) (fun zz => absurd (nI_le (Nat.le_refl _) (by omega)) zz)
                      refine eX9_laysBest_67 hC ?_
                      refine eX9_laysBest_69 hC ?_
                      refine eX9_laysBest_70 hC (fun zz => absurd zz (nI_ge (by omega) (by omega))) (fun _ => ?_)
                      refine eX9_laysBest_73 hC ?_
                      refine eX9_laysBest_74 hC (by assumption) (by assumption) ?_
                      refine eX9_laysBest_77 hC ?_
                      refine eX9_laysBest_79 hC ?_
                      refine eX9_laysBest_81 hC ?_
                      rw [nI_add]
                      refine eX9_laysBest_82 hC ?_
                      refine eX9_laysBest_83 hC ?_
                      rw [nI_sub (by omega), show 40 + (c + 1) - 1 = 40 + c by omega]
                      refine eX9_laysBest_84 hC (by assumption) (vp_in_nI (by omega) (by omega)) ?_
                      rw [nI_clamp (by omega), ek]
                      refine eX9_laysBest_85 hC ?_
                      refine eX9_laysBest_86 hC (fun zz => absurd zz (fun z => k1 (nI_inj (by omega) (by omega) z))) (fun _ => ?_)
                      refine eX9_laysBest_89 hC ?_
                      refine eX9_laysBest_90 hC ?_
                      refine eX9_laysBest_92 hC ?_
                      refine eX9_laysBest_93 hC ?_
                      rw [nI_sub (by omega), Nat.add_sub_cancel]
                      refine eX9_laysBest_94 hC ?_
                      refine eX9_laysBest_96 hC (Nat.le_of_ble_eq_true rfl) (Nat.le_of_ble_eq_true rfl) (Nat.le_of_ble_eq_true rfl) (by assumption) (vX9_width hC.nt hR hx3 hu4 ho (by omega) (by omega)) (zk_i ?_)
                      refine eX9_laysBest_99 hC ?_
                      refine eX9_laysBest_100 hC (fun zz => absurd zz (nI_nlt k2 (by omega))) (fun _ => ?_)
                      refine eX9_laysBest_103 hC ?_
                      refine eX9_laysBest_104 hC ?_
                      refine eX9_laysBest_108 hC ?_
                      refine eX9_laysBest_110 hC ?_
                      refine eX9_laysBest_113 hC ?_
                      refine zV.fg (by simp [zFg]) (ih2 (c + 1) 1 μ3 (by omega) (by omega) (by omega) hf3 hT3 hT6 (Or.inl ⟨rfl, fun _ => by rw [Nat.add_sub_cancel]; exact hmr.mpr ⟨k1, k2⟩⟩))
                    · refine eX9_laysBest_34 hC ?_
                      refine eX9_laysBest_36 hC ?_
                      refine eX9_laysBest_37 hC (fun _ => ?_) (fun zz => absurd (nI_le (Nat.le_refl _) (by omega)) zz)
                      refine eX9_laysBest_67 hC ?_
                      refine eX9_laysBest_69 hC ?_
                      refine eX9_laysBest_70 hC (fun zz => absurd zz (nI_ge (by omega) (by omega))) (fun _ => ?_)
                      refine eX9_laysBest_73 hC ?_
                      refine eX9_laysBest_74 hC (by assumption) (by assumption) ?_
                      refine eX9_laysBest_77 hC ?_
                      refine eX9_laysBest_79 hC ?_
                      refine eX9_laysBest_81 hC ?_
                      rw [nI_add]
                      refine eX9_laysBest_82 hC ?_
                      refine eX9_laysBest_83 hC ?_
                      rw [nI_sub (by omega), show 40 + (c + 1) - 1 = 40 + c by omega]
                      refine eX9_laysBest_84 hC (by assumption) (vp_in_nI (by omega) (by omega)) ?_
                      rw [nI_clamp (by omega), ek]
                      refine eX9_laysBest_85 hC ?_
                      refine eX9_laysBest_86 hC (fun zz => absurd zz (fun z => k1 (nI_inj (by omega) (by omega) z))) (fun _ => ?_)
                      refine eX9_laysBest_89 hC ?_
                      refine eX9_laysBest_90 hC ?_
                      refine eX9_laysBest_92 hC ?_
                      refine eX9_laysBest_93 hC ?_
                      rw [nI_sub (by omega), Nat.add_sub_cancel]
                      refine eX9_laysBest_94 hC ?_
                      refine eX9_laysBest_96 hC (Nat.le_of_ble_eq_true rfl) (Nat.le_of_ble_eq_true rfl) (Nat.le_of_ble_eq_true rfl) (by assumption) (vX9_width hC.nt hR hx3 hu4 ho (by omega) (by omega)) (zk_i ?_)
                      refine eX9_laysBest_99 hC ?_
                      refine eX9_laysBest_100 hC (fun _ => ?_) (fun zz => absurd (nI_lt (by omega) (by omega)) zz)
                      refine eX9_laysBest_107 hC ?_
                      refine eX9_laysBest_108 hC ?_
                      refine eX9_laysBest_110 hC ?_
                      refine eX9_laysBest_113 hC ?_
                      refine zV.fg (by simp [zFg]) (ih2 (c + 1) 0 μ3 (by omega) (by omega) (by omega) hf3 hT3 hT6 (Or.inr ⟨rfl, hno (fun z => k2 (hmr.mp z).2)⟩))
              | succ e3 ih3 =>
                intro u μ3 hu3 hf3 hT3 hT4 hT5
                have hx3 := hx.eq (fun j => hf3 (m + 1) j (by omega))
                have hu4 := hu.eq (fun j => hf3 (m + 4) j (by omega))
                have hzq : zat (bb - 1) i u < 4921 := by unfold zat; omega
                have esc : zca τ P false (bb - 1) i u (zch τ P false (bb - 1) i u) = zsc τ P (bb - 1) i u := (zsc_eq p2 hpd hiP).symm
                refine eX9_laysBest_34 hC ?_
                refine eX9_laysBest_36 hC ?_
                refine eX9_laysBest_37 hC (fun zz => absurd zz (nI_ge (by omega) (by omega))) (fun _ => ?_)
                refine eX9_laysBest_40 hC ?_
                refine eX9_laysBest_41 hC ?_
                refine eX9_laysBest_43 hC ?_
                refine eX9_laysBest_45 hC ?_
                refine eX9_laysBest_47 hC (Nat.le_of_ble_eq_true rfl) (Nat.le_of_ble_eq_true rfl) (Nat.le_of_ble_eq_true rfl) (vX9_at hC.nt) (zk_i ?_)
                refine eX9_laysBest_50 hC ?_
                refine eX9_laysBest_52 hC ?_
                refine eX9_laysBest_54 hC ?_
                refine eX9_laysBest_56 hC ?_
                refine eX9_laysBest_57 hC ?_
                refine eX9_laysBest_58 hC (Nat.le_of_ble_eq_true rfl) (Nat.le_of_ble_eq_true rfl) (Nat.le_of_ble_eq_true rfl) (by assumption) (vX9_chooses (f := false) (b := bb - 1) (t := u) (q := zat (bb - 1) i u) hC.nt hR hx3 hu4 ho (by omega) (hmid i (by omega) hiP) hpd hzq (by omega) rfl (fun _ => by omega) (fun j u' j1 j2 j3 hu5 => ⟨by unfold zat; omega, (hT3 i j (by omega) j1 j1 j2 j3 u' hu5).1, (hT3 i j (by omega) j1 j1 j2 j3 u' hu5).2.1⟩)) (zk_w (fun μ_58 m_58 => ?_))
                obtain ⟨g1, g2, g3, g4⟩ := m_58
                rw [esc] at g1 g2
                refine eX9_laysBest_61 hC ?_
                rw [nI_add]
                refine eX9_laysBest_64 hC ?_
                refine ih3 (u + 1) μ_58 (by omega) (fun a j z => (g4 a j (by omega)).trans (hf3 a j z)) (fun b' i' b1 b2 b3 b4 b5 => (hT3 b' i' b1 b2 b3 b4 b5).far g4 (fun u' _ => by unfold zat; omega)) (fun b' b1 b2 b3 => (hT4 b' b1 b2 b3).far g4 (fun u' _ => by unfold zat; omega)) (fun u' hu' => ?_)
                by_cases c : u' = u
                · subst c; exact ⟨g1, g2, g3⟩
                · exact (hT5.far g4 (fun u'' _ => by unfold zat; omega)) u' (by omega)
            rw [nI_sub (by omega)]
            refine eX9_laysBest_20 hC ?_
            refine eX9_laysBest_22 hC ?_
            refine eX9_laysBest_23 hC (fun zz => absurd zz (nI_nlt (by omega) (by omega))) (fun _ => ?_)
            refine eX9_laysBest_26 hC ?_
            refine eX9_laysBest_28 hC (fun zz => absurd zz zn10) (fun _ => ?_)
            refine eX9_laysBest_31 hC ?_
            refine eX9_laysBest_32 hC ?_
            refine zV.fg (by simp [zFg]) (trends 3 0 μ2 rfl hf2 hT1 hT2 (fun u hu => absurd hu (Nat.not_lt_zero u)))
          · rw [nI_sub (by omega)]
            refine eX9_laysBest_20 hC ?_
            refine eX9_laysBest_22 hC ?_
            refine eX9_laysBest_23 hC (fun zz => absurd zz (nI_nlt (by omega) (by omega))) (fun _ => ?_)
            refine eX9_laysBest_26 hC ?_
            refine eX9_laysBest_28 hC (fun _ => ?_) (fun zz => absurd zn00 zz)
            refine eX9_laysBest_116 hC ?_
            rw [nI_sub (by omega)]
            refine eX9_laysBest_119 hC ?_
            refine zV.fg (by simp [zFg]) (ih (i - 1) μ2 (by omega) (by omega) hf2 (fun b' i' b1 b2 b3 b4 b5 => ?_))
            by_cases c : i' = i
            · subst c
              rcases Nat.lt_or_ge b' bb with y | y
              · have := hmo b' b1 y; omega
              · exact hT2 b' y b2 b5
            · exact hT1 b' i' b1 b2 (by omega) b4 b5
      refine eX9_laysBest_5 hC ?_
      refine eX9_laysBest_7 hC ?_
      refine eX9_laysBest_8 hC (fun zz => absurd zz (nI_ge (by omega) (by omega))) (fun _ => ?_)
      refine eX9_laysBest_11 hC ?_
      refine eX9_laysBest_12 hC ?_
      refine eX9_laysBest_14 hC ?_
      refine eX9_laysBest_16 hC ?_
      refine eX9_laysBest_17 hC ?_
      refine eX9_laysBest_18 hC ?_
      refine zV.fg (by simp [zFg]) (inner (i - s) i 1 μ1 (by omega) (Nat.le_refl _) (Nat.le_refl _) hf1 hTB (fun b' b1 b2 _ => by omega) (Or.inl ⟨rfl, fun _ => ?_⟩))
      have := (zrc_is τ (i - 1)).1
      omega
  refine eX9_laysBest_0 hC ?_
  refine eX9_laysBest_1 hC ?_
  refine eX9_laysBest_2 hC ?_
  rw [nI_sub (by omega)]
  refine eX9_laysBest_3 hC ?_
  refine outer (P - 1 - s) (P - 1) μ (by omega) (by omega) (fun _ _ _ => rfl) (fun b' i' b1 b2 b3 b4 => by omega)
