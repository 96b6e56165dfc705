/-! ===== the reference: a choice ===== -/
set_option maxHeartbeats 16000000 in
theorem vX9_chooses {l : Launch} {g : zG} (hl : l.stackTraces = false) {K : zK} {μ : zF} {m q i t P b : Nat} {f : Bool} {bf : Int32} {τ : Nat → Nat} (hR : zRef K m) (hx : zSx μ m τ) (hu : zSu μ m τ) (ho : zOk τ) (hi : i < τ 80) (hPi : zpd τ i = P) (hpd : ∀ k, k < P → zrc τ k ≤ P) (hq : q < 4921) (ht : t < 2 ^ 31) (hbf : bf = if f then (-1) else nI b) (hb : f = false → b < i)
    (hT : ∀ j u, i < j → j < P → j ≤ zrc τ i → u < 3 → q ≠ zat i j u ∧ μ (m + 5) (zat i j u) = nI (zsc τ P i j u / 64) ∧ μ (m + 6) (zat i j u) = nI (zsc τ P i j u % 64)) :
    EX9_chooses l g 0 0 [.ref m, .int (nI q), .int bf, .int (nI i), .int (nI t), .int (nI P), .int (nI (τ 81))] K μ (zPw K (fun μ' => μ' (m + 5) q = nI (zca τ P f b i t (zch τ P f b i t) / 64) ∧ μ' (m + 6) q = nI (zca τ P f b i t (zch τ P f b i t) % 64) ∧ μ' (m + 7) q = nI (zch τ P f b i t) ∧ ∀ a j, ¬ ((a = m + 5 ∨ a = m + 6 ∨ a = m + 7) ∧ j = q) → μ' a j = μ a j)) := by
  obtain ⟨h0, h1, h2, h3, h4, h5, h6, h7, h8, i1, i2, i3, i4, i5, i6, i7, i8⟩ := id hR
  have o1 := ho.1
  have o81 := ho.2.2.2.1
  have o84 := ho.2.2.2.2.2.2.1
  have o85 := ho.2.2.2.2.2.2.2.1
  obtain ⟨p1, p2, p3, p4⟩ := zpd_is hi
  rw [hPi] at p1 p2
  obtain ⟨r1, r2, r3⟩ := zrc_is τ i
  have rP := hpd i p1
  have cbd : ∀ j, i < j → j ≤ P → zca τ P f b i t j ≤ 1280001 * 40 := fun j j1 j2 => by
    have := zca_bd ho p2 hpd (P - i) i f b t j (Nat.le_refl _) j1 j2
    omega
  refine nX9_chooses hl (fun x hC hQ => ?_)
  have loop : ∀ (e d : Nat) (μ1 : zF) (bst : Int32), i + 1 + d + e = zrc τ i + 1 → (d = 0 → bst = -1) → (0 < d → bst = nI (zbs (zca τ P f b i t) i (d - 1)) ∧ μ1 (m + 5) q = nI (zca τ P f b i t (zbs (zca τ P f b i t) i (d - 1)) / 64) ∧ μ1 (m + 6) q = nI (zca τ P f b i t (zbs (zca τ P f b i t) i (d - 1)) % 64)) → (∀ a j, ¬ ((a = m + 5 ∨ a = m + 6) ∧ j = q) → μ1 a j = μ a j) →
      zV x 0 0 8 [some (.ref m), some (.int (nI q)), some (.int bf), some (.int (nI i)), some (.int (nI t)), some (.int (nI P)), some (.int (nI (τ 81))), some (.int bst), some (.int (nI (i + 1 + d))), none, none, none, none, none] [] K μ1 := by
    intro e
    induction e with
    | zero =>
      intro d μ1 bst hd hb0 hb1 hf
      obtain ⟨rfl, e5, e6⟩ := hb1 (by omega)
      have hz : zbs (zca τ P f b i t) i (d - 1) = zch τ P f b i t := by
        rw [show d - 1 = zrc τ i - i - 1 by omega]; rfl
      rw [hz] at e5 e6 ⊢
      have hx1 := hx.eq (fun j => hf (m + 1) j (by omega))
      have hu1 := hu.eq (fun j => hf (m + 4) j (by omega))
      have fin : zV x 0 0 289 [some (.ref m), some (.int (nI q)), some (.int bf), some (.int (nI i)), some (.int (nI t)), some (.int (nI P)), some (.int (nI (τ 81))), some (.int (nI (zch τ P f b i t))), some (.int (nI (i + 1 + d))), none, none, none, none, none] [] K μ1 := by
        refine eX9_chooses_289 hC ?_
        refine eX9_chooses_290 hC (by assumption) (by assumption) ?_
        refine eX9_chooses_293 hC ?_
        refine eX9_chooses_294 hC ?_
        refine eX9_chooses_296 hC (by assumption) (vp_in_nI (by omega) (by omega)) ?_
        rw [nI_clamp (by omega)]
        refine eX9_chooses_297 hC hQ (Nat.le_of_ble_eq_true rfl) (Nat.le_of_ble_eq_true rfl) ?_
        refine ⟨rfl, rfl, ?_, ?_, zup_self _ _ _ _, fun a j z => ?_⟩
        · rw [zup_a _ _ _ _ (by omega)]; exact e5
        · rw [zup_a _ _ _ _ (by omega)]; exact e6
        · have : ¬ (a = m + 7 ∧ j = q) := fun w => z ⟨Or.inr (Or.inr w.1), w.2⟩
          unfold zup
          rw [if_neg this]
          exact hf a j (fun w => z ⟨by rcases w.1 with w | w <;> simp [w], w.2⟩)
      by_cases cP : zrc τ i = P
      · refine eX9_chooses_8 hC ?_
        refine eX9_chooses_10 hC ?_
        refine eX9_chooses_12 hC (fun _ => ?_) (fun zz => absurd (nI_lt (by omega) (by omega)) zz)
        exact fin
      · have hng : ¬ (τ (40 + (zrc τ i - 1)) ≠ 1 ∧ zwd τ i (zrc τ i + 1) ≤ τ 81) := fun z => r2 ((zgo_ref ho hi (by omega) (by omega)).mpr z)
        refine eX9_chooses_8 hC ?_
        refine eX9_chooses_10 hC ?_
        refine eX9_chooses_12 hC (fun zz => absurd zz (nI_nlt (by omega) (by omega))) (fun _ => ?_)
        refine eX9_chooses_15 hC ?_
        refine eX9_chooses_17 hC ?_
        refine eX9_chooses_18 hC ?_
        refine eX9_chooses_19 hC ?_
        rw [nI_add]
        refine eX9_chooses_20 hC (fun zz => absurd zz (fun z => by have := nI_inj (by omega) (by omega) z; omega)) (fun _ => ?_)
        refine eX9_chooses_23 hC ?_
        refine eX9_chooses_24 hC ?_
        refine eX9_chooses_25 hC ?_
        refine eX9_chooses_27 hC ?_
        refine eX9_chooses_28 hC ?_
        rw [nI_sub (by omega), show i + 1 + d - 1 = zrc τ i by omega]
        refine eX9_chooses_29 hC ?_
        refine eX9_chooses_31 hC (Nat.le_of_ble_eq_true rfl) (Nat.le_of_ble_eq_true rfl) (Nat.le_of_ble_eq_true rfl) (by assumption) (vX9_goesOn hC.nt hR hx1 hu1 ho (by omega) (by omega)) (zk_i ?_)
        rw [zBv_f hng]
        refine eX9_chooses_34 hC (fun _ => ?_) (fun zz => absurd zn00 zz)
        exact fin
    | succ e ih =>
      intro d μ1 bst hd hb0 hb1 hf
      have hx1 := hx.eq (fun j => hf (m + 1) j (by omega))
      have hu1 := hu.eq (fun j => hf (m + 4) j (by omega))
      have hW1 : zwd τ i (i + 1 + d) ≤ τ 81 := zwd_col ho hi (by omega) (by omega)
      -- the number of cells is right from here on
      have D1 : ∀ (Cc L : Nat) (l9 l12 l13 : Option Value), 64 * Cc + L = zca τ P f b i t (i + 1 + d) → L < 64 → zbs (zca τ P f b i t) i d = i + 1 + d → zV x 0 0 223 [some (.ref m), some (.int (nI q)), some (.int bf), some (.int (nI i)), some (.int (nI t)), some (.int (nI P)), some (.int (nI (τ 81))), some (.int bst), some (.int (nI (i + 1 + d))), l9, some (.int (nI Cc)), some (.int (nI L)), l12, l13] [.int (nI 1)] K μ1 := by
        intro Cc L l9 l12 l13 hc hL hz
        refine eX9_chooses_223 hC ?_
        refine eX9_chooses_225 hC ?_
        refine eX9_chooses_227 hC (fun zz => absurd zz zn10) (fun _ => ?_)
        refine eX9_chooses_230 hC ?_
        refine eX9_chooses_232 hC ?_
        refine eX9_chooses_237 hC ?_
        refine eX9_chooses_239 hC ?_
        refine eX9_chooses_240 hC (by assumption) (by assumption) ?_
        refine eX9_chooses_243 hC ?_
        refine eX9_chooses_244 hC ?_
        refine eX9_chooses_246 hC (fun zz => absurd zz zn10) (fun _ => ?_)
        refine eX9_chooses_249 hC ?_
        refine eX9_chooses_251 hC ?_
        refine eX9_chooses_260 hC (by assumption) (vp_in_nI (by omega) (by omega)) ?_
        rw [nI_clamp (by omega)]
        refine eX9_chooses_261 hC ?_
        refine eX9_chooses_262 hC (by assumption) (by assumption) ?_
        refine eX9_chooses_265 hC ?_
        refine eX9_chooses_266 hC ?_
        refine eX9_chooses_268 hC (fun zz => absurd zz zn10) (fun _ => ?_)
        refine eX9_chooses_271 hC ?_
        refine eX9_chooses_273 hC ?_
        refine eX9_chooses_282 hC (by assumption) (vp_in_nI (by omega) (by omega)) ?_
        rw [nI_clamp (by omega)]
        refine eX9_chooses_283 hC ?_
        rw [nI_add, show i + 1 + d + 1 = i + 1 + (d + 1) from rfl]
        refine eX9_chooses_286 hC ?_
        refine zV.fg (by simp [zFg]) (ih (d + 1) _ (nI (i + 1 + d)) (by omega) (fun z => by omega) (fun _ => ?_) (fun a j z => ?_))
        · rw [show d + 1 - 1 = d by omega, hz, ← hc, show (64 * Cc + L) / 64 = Cc by omega, show (64 * Cc + L) % 64 = L by omega]
          exact ⟨rfl, by rw [zup_a _ _ _ _ (by omega), zup_self], zup_self _ _ _ _⟩
        · have z1 : ¬ (a = m + 6 ∧ j = q) := fun w => z ⟨Or.inr w.1, w.2⟩
          have z2 : ¬ (a = m + 5 ∧ j = q) := fun w => z ⟨Or.inl w.1, w.2⟩
          unfold zup
          rw [if_neg z1, if_neg z2]
          exact hf a j z
      have D0 : ∀ (Cc L : Nat) (l9 l12 l13 : Option Value), 0 < d → zbs (zca τ P f b i t) i d = zbs (zca τ P f b i t) i (d - 1) → zV x 0 0 223 [some (.ref m), some (.int (nI q)), some (.int bf), some (.int (nI i)), some (.int (nI t)), some (.int (nI P)), some (.int (nI (τ 81))), some (.int bst), some (.int (nI (i + 1 + d))), l9, some (.int (nI Cc)), some (.int (nI L)), l12, l13] [.int (nI 0)] K μ1 := by
        intro Cc L l9 l12 l13 hd0 hz
        refine eX9_chooses_223 hC ?_
        refine eX9_chooses_225 hC ?_
        refine eX9_chooses_227 hC (fun _ => ?_) (fun zz => absurd zn00 zz)
        refine eX9_chooses_235 hC ?_
        refine eX9_chooses_237 hC ?_
        refine eX9_chooses_239 hC ?_
        refine eX9_chooses_240 hC (by assumption) (by assumption) ?_
        refine eX9_chooses_243 hC ?_
        refine eX9_chooses_244 hC ?_
        refine eX9_chooses_246 hC (fun _ => ?_) (fun zz => absurd zn00 zz)
        refine eX9_chooses_254 hC ?_
        refine eX9_chooses_255 hC (by assumption) (by assumption) ?_
        refine eX9_chooses_258 hC ?_
        refine eX9_chooses_259 hC (by assumption) (vp_in_nI (by omega) (by omega)) ?_
        rw [nI_clamp (by omega)]
        refine eX9_chooses_260 hC (by assumption) (vp_in_nI (by omega) (by omega)) ?_
        rw [nI_clamp (by omega)]
        rw [zup_id]
        refine eX9_chooses_261 hC ?_
        refine eX9_chooses_262 hC (by assumption) (by assumption) ?_
        refine eX9_chooses_265 hC ?_
        refine eX9_chooses_266 hC ?_
        refine eX9_chooses_268 hC (fun _ => ?_) (fun zz => absurd zn00 zz)
        refine eX9_chooses_276 hC ?_
        refine eX9_chooses_277 hC (by assumption) (by assumption) ?_
        refine eX9_chooses_280 hC ?_
        refine eX9_chooses_281 hC (by assumption) (vp_in_nI (by omega) (by omega)) ?_
        rw [nI_clamp (by omega)]
        refine eX9_chooses_282 hC (by assumption) (vp_in_nI (by omega) (by omega)) ?_
        rw [nI_clamp (by omega)]
        rw [zup_id]
        refine eX9_chooses_283 hC ?_
        rw [nI_add, show i + 1 + d + 1 = i + 1 + (d + 1) from rfl]
        refine eX9_chooses_286 hC ?_
        refine zV.fg (by simp [zFg]) (ih (d + 1) μ1 bst (by omega) (fun z => by omega) (fun _ => ?_) hf)
        rw [show d + 1 - 1 = d by omega, hz]
        exact hb1 hd0
      have fin : ∀ (Cc L : Nat) (l9 l12 l13 : Option Value), 64 * Cc + L = zca τ P f b i t (i + 1 + d) → L < 64 → zV x 0 0 179 [some (.ref m), some (.int (nI q)), some (.int bf), some (.int (nI i)), some (.int (nI t)), some (.int (nI P)), some (.int (nI (τ 81))), some (.int bst), some (.int (nI (i + 1 + d))), l9, some (.int (nI Cc)), some (.int (nI L)), l12, l13] [] K μ1 := by
        intro Cc L l9 l12 l13 hc hL
        have cb1 := cbd (i + 1 + d) (by omega) (by omega)
        by_cases d0 : d = 0
        · subst d0
          obtain rfl := hb0 rfl
          refine eX9_chooses_179 hC ?_
          refine eX9_chooses_181 hC ?_
          refine eX9_chooses_182 hC (fun _ => ?_) (fun zz => absurd rfl zz)
          refine eX9_chooses_218 hC ?_
          refine eX9_chooses_219 hC ?_
          exact D1 Cc L _ _ _ hc hL rfl
        · obtain ⟨d', rfl⟩ : ∃ d', d = d' + 1 := ⟨d - 1, by omega⟩
          obtain ⟨rfl, e5, e6⟩ := hb1 (by omega)
          rw [show d' + 1 - 1 = d' by omega] at e5 e6 hb1 D1 D0 ⊢
          obtain ⟨s1, s2, -⟩ := zbs_is (zca τ P f b i t) i d'
          have cb2 := cbd (zbs (zca τ P f b i t) i d') (by omega) (by omega)
          have zt : zca τ P f b i t (i + 1 + (d' + 1)) ≤ zca τ P f b i t (zbs (zca τ P f b i t) i d') → zbs (zca τ P f b i t) i (d' + 1) = i + 1 + (d' + 1) := fun z => if_pos z
          have zf : ¬ zca τ P f b i t (i + 1 + (d' + 1)) ≤ zca τ P f b i t (zbs (zca τ P f b i t) i d') → zbs (zca τ P f b i t) i (d' + 1) = zbs (zca τ P f b i t) i d' := fun z => if_neg z
          generalize hlc : zca τ P f b i t (zbs (zca τ P f b i t) i d') = vv at *
          by_cases k1 : Cc < vv / 64
          · refine eX9_chooses_179 hC ?_
            refine eX9_chooses_181 hC ?_
            refine eX9_chooses_182 hC (fun zz => absurd zz (zne_m1 (by omega))) (fun _ => ?_)
            refine eX9_chooses_185 hC ?_
            refine eX9_chooses_187 hC ?_
            refine eX9_chooses_188 hC (by assumption) (by assumption) ?_
            refine eX9_chooses_191 hC ?_
            refine eX9_chooses_192 hC (by assumption) (vp_in_nI (by omega) (by omega)) ?_
            rw [nI_clamp (by omega), e5]
            refine eX9_chooses_193 hC (fun _ => ?_) (fun zz => absurd (nI_lt k1 (by omega)) zz)
            refine eX9_chooses_218 hC ?_
            refine eX9_chooses_219 hC ?_
            exact D1 Cc L _ _ _ hc hL (zt (by omega))
          · by_cases k2 : Cc = vv / 64
            · by_cases k3 : L ≤ vv % 64
              · refine eX9_chooses_179 hC ?_
                refine eX9_chooses_181 hC ?_
                refine eX9_chooses_182 hC (fun zz => absurd zz (zne_m1 (by omega))) (fun _ => ?_)
                refine eX9_chooses_185 hC ?_
                refine eX9_chooses_187 hC ?_
                refine eX9_chooses_188 hC (by assumption) (by assumption) ?_
                refine eX9_chooses_191 hC ?_
                refine eX9_chooses_192 hC (by assumption) (vp_in_nI (by omega) (by omega)) ?_
                rw [nI_clamp (by omega), e5]
                refine eX9_chooses_193 hC (fun zz => absurd zz (nI_nlt (by omega) (by omega))) (fun _ => ?_)
                refine eX9_chooses_196 hC ?_
                refine eX9_chooses_198 hC ?_
                refine eX9_chooses_199 hC (by assumption) (by assumption) ?_
                refine eX9_chooses_202 hC ?_
                refine eX9_chooses_203 hC (by assumption) (vp_in_nI (by omega) (by omega)) ?_
                rw [nI_clamp (by omega), e5]
                refine eX9_chooses_204 hC (fun zz => absurd (by rw [k2]) zz) (fun _ => ?_)
                refine eX9_chooses_207 hC ?_
                refine eX9_chooses_209 hC ?_
                refine eX9_chooses_210 hC (by assumption) (by assumption) ?_
                refine eX9_chooses_213 hC ?_
                refine eX9_chooses_214 hC (by assumption) (vp_in_nI (by omega) (by omega)) ?_
                rw [nI_clamp (by omega), e6]
                refine eX9_chooses_215 hC (fun zz => absurd zz (nI_nlt k3 (by omega))) (fun _ => ?_)
                refine eX9_chooses_218 hC ?_
                refine eX9_chooses_219 hC ?_
                exact D1 Cc L _ _ _ hc hL (zt (by omega))
              · refine eX9_chooses_179 hC ?_
                refine eX9_chooses_181 hC ?_
                refine eX9_chooses_182 hC (fun zz => absurd zz (zne_m1 (by omega))) (fun _ => ?_)
                refine eX9_chooses_185 hC ?_
                refine eX9_chooses_187 hC ?_
                refine eX9_chooses_188 hC (by assumption) (by assumption) ?_
                refine eX9_chooses_191 hC ?_
                refine eX9_chooses_192 hC (by assumption) (vp_in_nI (by omega) (by omega)) ?_
                rw [nI_clamp (by omega), e5]
                refine eX9_chooses_193 hC (fun zz => absurd zz (nI_nlt (by omega) (by omega))) (fun _ => ?_)
                refine eX9_chooses_196 hC ?_
                refine eX9_chooses_198 hC ?_
                refine eX9_chooses_199 hC (by assumption) (by assumption) ?_
                refine eX9_chooses_202 hC ?_
                refine eX9_chooses_203 hC (by assumption) (vp_in_nI (by omega) (by omega)) ?_
                rw [nI_clamp (by omega), e5]
                refine eX9_chooses_204 hC (fun zz => absurd (by rw [k2]) zz) (fun _ => ?_)
                refine eX9_chooses_207 hC ?_
                refine eX9_chooses_209 hC ?_
                refine eX9_chooses_210 hC (by assumption) (by assumption) ?_
                refine eX9_chooses_213 hC ?_
                refine eX9_chooses_214 hC (by assumption) (vp_in_nI (by omega) (by omega)) ?_
                rw [nI_clamp (by omega), e6]
                refine eX9_chooses_215 hC (fun _ => ?_) (fun zz => absurd (nI_lt (by omega) (by omega)) zz)
                refine eX9_chooses_222 hC ?_
                exact D0 Cc L _ _ _ (by omega) (zf (by omega))
            · refine eX9_chooses_179 hC ?_
              refine eX9_chooses_181 hC ?_
              refine eX9_chooses_182 hC (fun zz => absurd zz (zne_m1 (by omega))) (fun _ => ?_)
              refine eX9_chooses_185 hC ?_
              refine eX9_chooses_187 hC ?_
              refine eX9_chooses_188 hC (by assumption) (by assumption) ?_
              refine eX9_chooses_191 hC ?_
              refine eX9_chooses_192 hC (by assumption) (vp_in_nI (by omega) (by omega)) ?_
              rw [nI_clamp (by omega), e5]
              refine eX9_chooses_193 hC (fun zz => absurd zz (nI_nlt (by omega) (by omega))) (fun _ => ?_)
              refine eX9_chooses_196 hC ?_
              refine eX9_chooses_198 hC ?_
              refine eX9_chooses_199 hC (by assumption) (by assumption) ?_
              refine eX9_chooses_202 hC ?_
              refine eX9_chooses_203 hC (by assumption) (vp_in_nI (by omega) (by omega)) ?_
              rw [nI_clamp (by omega), e5]
              refine eX9_chooses_204 hC (fun _ => ?_) (fun zz => absurd zz (fun z => k2 (nI_inj (by omega) (by omega) z)))
              refine eX9_chooses_222 hC ?_
              exact D0 Cc L _ _ _ (by omega) (zf (by omega))
      -- the cost of this line and of those behind it
      have B2 : ∀ (u : Nat) (l12 l13 : Option Value), u = (if f then 1 else ztn τ (zwd τ b i) (zwd τ i (i + 1 + d))) → u ≤ 2 → i + 1 + d < P → zV x 0 0 110 [some (.ref m), some (.int (nI q)), some (.int bf), some (.int (nI i)), some (.int (nI t)), some (.int (nI P)), some (.int (nI (τ 81))), some (.int bst), some (.int (nI (i + 1 + d))), some (.int (nI (zwd τ i (i + 1 + d)))), some (.int (nI 0)), some (.int (nI 1)), l12, l13] [.int (nI u)] K μ1 := by
        intro u l12 l13 hu2 u2 hnP
        obtain ⟨t1, t2, t3⟩ := hT (i + 1 + d) u (by omega) hnP (by omega) (by omega)
        have g5 : μ1 (m + 5) (zat i (i + 1 + d) u) = nI (zsc τ P i (i + 1 + d) u / 64) := (hf _ _ (fun w => t1 w.2.symm)).trans t2
        have g6 : μ1 (m + 6) (zat i (i + 1 + d) u) = nI (zsc τ P i (i + 1 + d) u % 64) := (hf _ _ (fun w => t1 w.2.symm)).trans t3
        have hz : zat i (i + 1 + d) u < 4921 := by unfold zat; omega
        obtain ⟨sm, -⟩ := zsc_mod ho p2 hpd (b := i) (t := u) hnP
        have hca : zca τ P f b i t (i + 1 + d) = 64 * ((τ 81 - zwd τ i (i + 1 + d)) * (τ 81 - zwd τ i (i + 1 + d)) + (if u ≠ 1 ∧ u = t then τ 84 else 0)) + 1 + zsc τ P i (i + 1 + d) u := by
          unfold zca zcd
          rw [if_neg (by omega), ← hu2]
        have e84 : μ1 (m + 1) 84 = nI (τ 84) := hx1.2 84 (by omega) (by omega) (by omega)
        generalize hsc : zsc τ P i (i + 1 + d) u = vs at *
        have hs0 := zsq_le (a := τ 81 - zwd τ i (i + 1 + d)) (c := τ 81) (by omega) (by omega)
        generalize hsq : (τ 81 - zwd τ i (i + 1 + d)) * (τ 81 - zwd τ i (i + 1 + d)) = sq at *
        by_cases k1 : t = 1
        · have hif : ¬ (u ≠ 1 ∧ u = t) := fun w => w.1 (w.2.trans k1)
          rw [if_neg hif] at hca
          refine eX9_chooses_110 hC ?_
          refine eX9_chooses_112 hC ?_
          refine eX9_chooses_113 hC ?_
          refine eX9_chooses_115 hC ?_
          refine eX9_chooses_117 hC (Nat.le_of_ble_eq_true rfl) (Nat.le_of_ble_eq_true rfl) (Nat.le_of_ble_eq_true rfl) (vX9_at hC.nt) (zk_i ?_)
          refine eX9_chooses_120 hC ?_
          refine eX9_chooses_122 hC ?_
          refine eX9_chooses_124 hC ?_
          refine eX9_chooses_126 hC ?_
          rw [nI_sub hW1]
          refine eX9_chooses_127 hC ?_
          refine eX9_chooses_129 hC ?_
          refine eX9_chooses_131 hC ?_
          rw [nI_sub hW1]
          refine eX9_chooses_132 hC ?_
          rw [pk_mul, hsq]
          refine eX9_chooses_133 hC ?_
          refine eX9_chooses_135 hC ?_
          refine eX9_chooses_136 hC (fun _ => ?_) (fun zz => absurd (by rw [k1]) zz)
          refine eX9_chooses_156 hC ?_
          refine eX9_chooses_157 hC ?_
          rw [nI_add]
          refine eX9_chooses_158 hC ?_
          refine eX9_chooses_159 hC (by assumption) (by assumption) ?_
          refine eX9_chooses_162 hC ?_
          refine eX9_chooses_164 hC (by assumption) (vp_in_nI (by omega) (by omega)) ?_
          rw [nI_clamp (by omega), g5]
          refine eX9_chooses_165 hC ?_
          rw [nI_add]
          refine eX9_chooses_166 hC ?_
          refine eX9_chooses_168 hC ?_
          refine eX9_chooses_169 hC ?_
          refine eX9_chooses_170 hC (by assumption) (by assumption) ?_
          refine eX9_chooses_173 hC ?_
          refine eX9_chooses_175 hC (by assumption) (vp_in_nI (by omega) (by omega)) ?_
          rw [nI_clamp (by omega), g6]
          refine eX9_chooses_176 hC ?_
          rw [nI_add]
          refine eX9_chooses_177 hC ?_
          exact fin (sq + 0 + vs / 64) (1 + vs % 64) _ _ _ (by omega) (by omega)
        · by_cases k2 : u = t
          · have hif : u ≠ 1 ∧ u = t := ⟨fun w => k1 (k2.symm.trans w), k2⟩
            rw [if_pos hif] at hca
            refine eX9_chooses_110 hC ?_
            refine eX9_chooses_112 hC ?_
            refine eX9_chooses_113 hC ?_
            refine eX9_chooses_115 hC ?_
            refine eX9_chooses_117 hC (Nat.le_of_ble_eq_true rfl) (Nat.le_of_ble_eq_true rfl) (Nat.le_of_ble_eq_true rfl) (vX9_at hC.nt) (zk_i ?_)
            refine eX9_chooses_120 hC ?_
            refine eX9_chooses_122 hC ?_
            refine eX9_chooses_124 hC ?_
            refine eX9_chooses_126 hC ?_
            rw [nI_sub hW1]
            refine eX9_chooses_127 hC ?_
            refine eX9_chooses_129 hC ?_
            refine eX9_chooses_131 hC ?_
            rw [nI_sub hW1]
            refine eX9_chooses_132 hC ?_
            rw [pk_mul, hsq]
            refine eX9_chooses_133 hC ?_
            refine eX9_chooses_135 hC ?_
            refine eX9_chooses_136 hC (fun zz => absurd zz (fun z => k1 (by subst k2; exact nI_inj (by omega) (by omega) z))) (fun _ => ?_)
            refine eX9_chooses_139 hC ?_
            refine eX9_chooses_141 hC ?_
            refine eX9_chooses_143 hC (fun zz => absurd (by rw [k2]) zz) (fun _ => ?_)
            refine eX9_chooses_146 hC ?_
            refine eX9_chooses_147 hC (by assumption) (by assumption) ?_
            refine eX9_chooses_150 hC ?_
            refine eX9_chooses_152 hC (by assumption) (vp_in_nI (by omega) (by omega)) ?_
            rw [nI_clamp (by omega), e84]
            refine eX9_chooses_153 hC ?_
            refine eX9_chooses_157 hC ?_
            rw [nI_add]
            refine eX9_chooses_158 hC ?_
            refine eX9_chooses_159 hC (by assumption) (by assumption) ?_
            refine eX9_chooses_162 hC ?_
            refine eX9_chooses_164 hC (by assumption) (vp_in_nI (by omega) (by omega)) ?_
            rw [nI_clamp (by omega), g5]
            refine eX9_chooses_165 hC ?_
            rw [nI_add]
            refine eX9_chooses_166 hC ?_
            refine eX9_chooses_168 hC ?_
            refine eX9_chooses_169 hC ?_
            refine eX9_chooses_170 hC (by assumption) (by assumption) ?_
            refine eX9_chooses_173 hC ?_
            refine eX9_chooses_175 hC (by assumption) (vp_in_nI (by omega) (by omega)) ?_
            rw [nI_clamp (by omega), g6]
            refine eX9_chooses_176 hC ?_
            rw [nI_add]
            refine eX9_chooses_177 hC ?_
            exact fin (sq + τ 84 + vs / 64) (1 + vs % 64) _ _ _ (by omega) (by omega)
          · have hif : ¬ (u ≠ 1 ∧ u = t) := fun w => k2 w.2
            rw [if_neg hif] at hca
            refine eX9_chooses_110 hC ?_
            refine eX9_chooses_112 hC ?_
            refine eX9_chooses_113 hC ?_
            refine eX9_chooses_115 hC ?_
            refine eX9_chooses_117 hC (Nat.le_of_ble_eq_true rfl) (Nat.le_of_ble_eq_true rfl) (Nat.le_of_ble_eq_true rfl) (vX9_at hC.nt) (zk_i ?_)
            refine eX9_chooses_120 hC ?_
            refine eX9_chooses_122 hC ?_
            refine eX9_chooses_124 hC ?_
            refine eX9_chooses_126 hC ?_
            rw [nI_sub hW1]
            refine eX9_chooses_127 hC ?_
            refine eX9_chooses_129 hC ?_
            refine eX9_chooses_131 hC ?_
            rw [nI_sub hW1]
            refine eX9_chooses_132 hC ?_
            rw [pk_mul, hsq]
            refine eX9_chooses_133 hC ?_
            refine eX9_chooses_135 hC ?_
            refine eX9_chooses_136 hC (fun zz => absurd zz (fun z => k1 (nI_inj ht (by omega) z))) (fun _ => ?_)
            refine eX9_chooses_139 hC ?_
            refine eX9_chooses_141 hC ?_
            refine eX9_chooses_143 hC (fun _ => ?_) (fun zz => absurd zz (fun z => k2 (nI_inj (by omega) ht z)))
            refine eX9_chooses_156 hC ?_
            refine eX9_chooses_157 hC ?_
            rw [nI_add]
            refine eX9_chooses_158 hC ?_
            refine eX9_chooses_159 hC (by assumption) (by assumption) ?_
            refine eX9_chooses_162 hC ?_
            refine eX9_chooses_164 hC (by assumption) (vp_in_nI (by omega) (by omega)) ?_
            rw [nI_clamp (by omega), g5]
            refine eX9_chooses_165 hC ?_
            rw [nI_add]
            refine eX9_chooses_166 hC ?_
            refine eX9_chooses_168 hC ?_
            refine eX9_chooses_169 hC ?_
            refine eX9_chooses_170 hC (by assumption) (by assumption) ?_
            refine eX9_chooses_173 hC ?_
            refine eX9_chooses_175 hC (by assumption) (vp_in_nI (by omega) (by omega)) ?_
            rw [nI_clamp (by omega), g6]
            refine eX9_chooses_176 hC ?_
            rw [nI_add]
            refine eX9_chooses_177 hC ?_
            exact fin (sq + 0 + vs / 64) (1 + vs % 64) _ _ _ (by omega) (by omega)
      have B1 : zV x 0 0 37 [some (.ref m), some (.int (nI q)), some (.int bf), some (.int (nI i)), some (.int (nI t)), some (.int (nI P)), some (.int (nI (τ 81))), some (.int bst), some (.int (nI (i + 1 + d))), none, none, none, none, none] [] K μ1 := by
        have e85 : μ1 (m + 1) 85 = nI (τ 85) := hx1.2 85 (by omega) (by omega) (by omega)
        by_cases cP : i + 1 + d = P
        · have hca : zca τ P f b i t (i + 1 + d) = 64 * (if f = false ∧ 4 * zwd τ i (i + 1 + d) < τ 81 then τ 85 else 0) + 1 := by
            unfold zca zcd
            rw [if_pos cP]
          cases f with
          | true =>
            have hbf' : bf = -1 := hbf
            rw [if_neg (fun w => absurd w.1 (by decide))] at hca
            refine eX9_chooses_37 hC ?_
            refine eX9_chooses_38 hC ?_
            refine eX9_chooses_39 hC ?_
            refine eX9_chooses_41 hC (Nat.le_of_ble_eq_true rfl) (Nat.le_of_ble_eq_true rfl) (Nat.le_of_ble_eq_true rfl) (by assumption) (vX9_width hC.nt hR hx1 hu1 ho (by omega) (by omega)) (zk_i ?_)
            refine eX9_chooses_44 hC ?_
            refine eX9_chooses_46 hC ?_
            refine eX9_chooses_47 hC ?_
            refine eX9_chooses_49 hC ?_
            refine eX9_chooses_50 hC ?_
            refine eX9_chooses_52 hC ?_
            refine eX9_chooses_54 hC ?_
            refine eX9_chooses_56 hC (fun zz => absurd (by rw [cP]) zz) (fun _ => ?_)
            refine eX9_chooses_59 hC ?_
            refine eX9_chooses_60 hC ?_
            refine eX9_chooses_61 hC (fun _ => ?_) (fun zz => absurd hbf' zz)
            refine eX9_chooses_83 hC ?_
            refine eX9_chooses_84 hC ?_
            refine eX9_chooses_86 hC ?_
            exact fin 0 1 _ _ _ (by omega) (by omega)
          | false =>
            have hbf' : bf = nI b := hbf
            have hbi := hb rfl
            by_cases k : 4 * zwd τ i (i + 1 + d) < τ 81
            · rw [if_pos ⟨rfl, k⟩] at hca
              refine eX9_chooses_37 hC ?_
              refine eX9_chooses_38 hC ?_
              refine eX9_chooses_39 hC ?_
              refine eX9_chooses_41 hC (Nat.le_of_ble_eq_true rfl) (Nat.le_of_ble_eq_true rfl) (Nat.le_of_ble_eq_true rfl) (by assumption) (vX9_width hC.nt hR hx1 hu1 ho (by omega) (by omega)) (zk_i ?_)
              refine eX9_chooses_44 hC ?_
              refine eX9_chooses_46 hC ?_
              refine eX9_chooses_47 hC ?_
              refine eX9_chooses_49 hC ?_
              refine eX9_chooses_50 hC ?_
              refine eX9_chooses_52 hC ?_
              refine eX9_chooses_54 hC ?_
              refine eX9_chooses_56 hC (fun zz => absurd (by rw [cP]) zz) (fun _ => ?_)
              refine eX9_chooses_59 hC ?_
              refine eX9_chooses_60 hC ?_
              refine eX9_chooses_61 hC (fun zz => absurd zz (by rw [hbf']; exact zne_m1 (by omega))) (fun _ => ?_)
              refine eX9_chooses_64 hC ?_
              refine eX9_chooses_65 hC ?_
              refine eX9_chooses_67 hC ?_
              rw [pk_mul]
              refine eX9_chooses_68 hC ?_
              refine eX9_chooses_70 hC (fun zz => absurd zz (nI_ge k (by omega))) (fun _ => ?_)
              refine eX9_chooses_73 hC ?_
              refine eX9_chooses_74 hC (by assumption) (by assumption) ?_
              refine eX9_chooses_77 hC ?_
              refine eX9_chooses_79 hC (by assumption) (vp_in_nI (by omega) (by omega)) ?_
              rw [nI_clamp (by omega), e85]
              refine eX9_chooses_80 hC ?_
              refine eX9_chooses_84 hC ?_
              refine eX9_chooses_86 hC ?_
              exact fin (τ 85) 1 _ _ _ (by omega) (by omega)
            · rw [if_neg (fun w => k w.2)] at hca
              refine eX9_chooses_37 hC ?_
              refine eX9_chooses_38 hC ?_
              refine eX9_chooses_39 hC ?_
              refine eX9_chooses_41 hC (Nat.le_of_ble_eq_true rfl) (Nat.le_of_ble_eq_true rfl) (Nat.le_of_ble_eq_true rfl) (by assumption) (vX9_width hC.nt hR hx1 hu1 ho (by omega) (by omega)) (zk_i ?_)
              refine eX9_chooses_44 hC ?_
              refine eX9_chooses_46 hC ?_
              refine eX9_chooses_47 hC ?_
              refine eX9_chooses_49 hC ?_
              refine eX9_chooses_50 hC ?_
              refine eX9_chooses_52 hC ?_
              refine eX9_chooses_54 hC ?_
              refine eX9_chooses_56 hC (fun zz => absurd (by rw [cP]) zz) (fun _ => ?_)
              refine eX9_chooses_59 hC ?_
              refine eX9_chooses_60 hC ?_
              refine eX9_chooses_61 hC (fun zz => absurd zz (by rw [hbf']; exact zne_m1 (by omega))) (fun _ => ?_)
              refine eX9_chooses_64 hC ?_
              refine eX9_chooses_65 hC ?_
              refine eX9_chooses_67 hC ?_
              rw [pk_mul]
              refine eX9_chooses_68 hC ?_
              refine eX9_chooses_70 hC (fun _ => ?_) (fun zz => absurd (nI_le (by omega) (by omega)) zz)
              refine eX9_chooses_83 hC ?_
              refine eX9_chooses_84 hC ?_
              refine eX9_chooses_86 hC ?_
              exact fin 0 1 _ _ _ (by omega) (by omega)
        · cases f with
          | true =>
            have hbf' : bf = -1 := hbf
            refine eX9_chooses_37 hC ?_
            refine eX9_chooses_38 hC ?_
            refine eX9_chooses_39 hC ?_
            refine eX9_chooses_41 hC (Nat.le_of_ble_eq_true rfl) (Nat.le_of_ble_eq_true rfl) (Nat.le_of_ble_eq_true rfl) (by assumption) (vX9_width hC.nt hR hx1 hu1 ho (by omega) (by omega)) (zk_i ?_)
            refine eX9_chooses_44 hC ?_
            refine eX9_chooses_46 hC ?_
            refine eX9_chooses_47 hC ?_
            refine eX9_chooses_49 hC ?_
            refine eX9_chooses_50 hC ?_
            refine eX9_chooses_52 hC ?_
            refine eX9_chooses_54 hC ?_
            refine eX9_chooses_56 hC (fun _ => ?_) (fun zz => absurd zz (fun z => cP (nI_inj (by omega) (by omega) z)))
            refine eX9_chooses_89 hC ?_
            refine eX9_chooses_90 hC ?_
            refine eX9_chooses_91 hC (fun zz => absurd hbf' zz) (fun _ => ?_)
            refine eX9_chooses_94 hC ?_
            refine eX9_chooses_95 hC ?_
            exact B2 1 _ _ rfl (by omega) (by omega)
          | false =>
            have hbf' : bf = nI b := hbf
            have hbi := hb rfl
            have w1 := zwd_le ho (i := b) (j := i) (by omega)
            have w2 := zwd_le ho (i := i) (j := i + 1 + d) (by omega)
            subst hbf'
            refine eX9_chooses_37 hC ?_
            refine eX9_chooses_38 hC ?_
            refine eX9_chooses_39 hC ?_
            refine eX9_chooses_41 hC (Nat.le_of_ble_eq_true rfl) (Nat.le_of_ble_eq_true rfl) (Nat.le_of_ble_eq_true rfl) (by assumption) (vX9_width hC.nt hR hx1 hu1 ho (by omega) (by omega)) (zk_i ?_)
            refine eX9_chooses_44 hC ?_
            refine eX9_chooses_46 hC ?_
            refine eX9_chooses_47 hC ?_
            refine eX9_chooses_49 hC ?_
            refine eX9_chooses_50 hC ?_
            refine eX9_chooses_52 hC ?_
            refine eX9_chooses_54 hC ?_
            refine eX9_chooses_56 hC (fun _ => ?_) (fun zz => absurd zz (fun z => cP (nI_inj (by omega) (by omega) z)))
            refine eX9_chooses_89 hC ?_
            refine eX9_chooses_90 hC ?_
            refine eX9_chooses_91 hC (fun _ => ?_) (fun zz => absurd zz (zne_m1 (by omega)))
            refine eX9_chooses_98 hC ?_
            refine eX9_chooses_99 hC ?_
            refine eX9_chooses_100 hC ?_
            refine eX9_chooses_101 hC ?_
            refine eX9_chooses_102 hC (Nat.le_of_ble_eq_true rfl) (Nat.le_of_ble_eq_true rfl) (Nat.le_of_ble_eq_true rfl) (by assumption) (vX9_width hC.nt hR hx1 hu1 ho (by omega) (by omega)) (zk_i ?_)
            refine eX9_chooses_105 hC ?_
            refine eX9_chooses_107 hC (Nat.le_of_ble_eq_true rfl) (Nat.le_of_ble_eq_true rfl) (Nat.le_of_ble_eq_true rfl) (by assumption) (vX9_trend hC.nt hR hx1 ho (by omega) (by omega)) (zk_i ?_)
            exact B2 _ _ _ rfl (ztn_le _ _ _) (by omega)
      by_cases d0 : d = 0
      · subst d0
        refine eX9_chooses_8 hC ?_
        refine eX9_chooses_10 hC ?_
        refine eX9_chooses_12 hC (fun zz => absurd zz (nI_nlt (by omega) (by omega))) (fun _ => ?_)
        refine eX9_chooses_15 hC ?_
        refine eX9_chooses_17 hC ?_
        refine eX9_chooses_18 hC ?_
        refine eX9_chooses_19 hC ?_
        rw [nI_add]
        refine eX9_chooses_20 hC (fun _ => ?_) (fun zz => absurd rfl zz)
        exact B1
      · have hgo := (zgo_ref ho hi (e := i + d) (by omega) (by omega)).mp (r3 (i + d) (by omega) (by omega))
        refine eX9_chooses_8 hC ?_
        refine eX9_chooses_10 hC ?_
        refine eX9_chooses_12 hC (fun zz => absurd zz (nI_nlt (by omega) (by omega))) (fun _ => ?_)
        refine eX9_chooses_15 hC ?_
        refine eX9_chooses_17 hC ?_
        refine eX9_chooses_18 hC ?_
        refine eX9_chooses_19 hC ?_
        rw [nI_add]
        refine eX9_chooses_20 hC (fun zz => absurd zz (fun z => by have := nI_inj (by omega) (by omega) z; omega)) (fun _ => ?_)
        refine eX9_chooses_23 hC ?_
        refine eX9_chooses_24 hC ?_
        refine eX9_chooses_25 hC ?_
        refine eX9_chooses_27 hC ?_
        refine eX9_chooses_28 hC ?_
        rw [nI_sub (by omega), show i + 1 + d - 1 = i + d by omega]
        refine eX9_chooses_29 hC ?_
        refine eX9_chooses_31 hC (Nat.le_of_ble_eq_true rfl) (Nat.le_of_ble_eq_true rfl) (Nat.le_of_ble_eq_true rfl) (by assumption) (vX9_goesOn hC.nt hR hx1 hu1 ho (by omega) (by omega)) (zk_i ?_)
        rw [zBv_t hgo]
        refine eX9_chooses_34 hC (fun zz => absurd zz zn10) (fun _ => ?_)
        exact B1
  refine eX9_chooses_0 hC ?_
  refine eX9_chooses_1 hC ?_
  refine eX9_chooses_3 hC ?_
  refine eX9_chooses_4 hC ?_
  refine eX9_chooses_5 hC ?_
  rw [nI_add]
  refine eX9_chooses_6 hC ?_
  exact loop (zrc τ i - i) 0 μ (-1) (by omega) (fun _ => rfl) (fun z => by omega) (fun _ _ _ => rfl)
