/-! ===== the law's methods marked, columns ===== -/
theorem lg_cmp_self (a : Int64) : lg_cmp a a = 0 := by
  unfold lg_cmp
  simp
/-- it answers true; the text is as it was -/
def zAe (S : zMs) (K : zK) (μ : zF) (x : Nat) : Option Value → zK → zF → Prop := fun v K' μ' => ∃ S' : zMs, S'.1 = S.1 ∧ zAi (nI 1) S' K μ x v K' μ'
theorem zk_e {z : zX} {c1 s1 p1 x : Nat} {ls : List (Option Value)} {rest : List Value} {K0 K : zK} {μ0 μ : zF} {S : zMs} (hB : zBd K0 μ0 K μ x S) (kk : ∀ (S' : zMs) (K1 : zK) (μ1 : zF), S'.1 = S.1 → zBd K0 μ0 K1 μ1 x S' → zV z c1 s1 p1 ls (.int (nI 1) :: rest) K1 μ1) : ∀ (v : Option Value) (K1 : zK) (μ1 : zF), zAe S K μ x v K1 μ1 → zV z c1 s1 p1 ls (v.toList ++ rest) K1 μ1 := by
  rintro v K1 μ1 ⟨S', e, rfl, e2, e3, e4⟩
  exact kk S' K1 μ1 e ⟨hB.1.trans e2, e3, hB.2.2.trans e4⟩
theorem zuf_ne {τ : Nat → Nat} {j k v : Nat} (h : k ≠ j) : zuf τ j v k = τ k := if_neg h
theorem zuf_at {τ : Nat → Nat} {j v : Nat} : zuf τ j v j = v := if_pos rfl
set_option maxHeartbeats 2000000 in
theorem vL_marked {l : Launch} {g : zG} (hl : l.stackTraces = false) {K : zK} {μ : zF} {x w v : Nat} {S : zMs} (h : zX8 K μ x S) (hw : w ≤ S.1 80) (hv : v ≤ 2) : EL_marked l g 400 2400 [.ref x, .int (nI w), .int (nI v)] K μ (zAe S K μ x) := by
  have hok := h.k
  have o1 := hok.1.1
  have hB := zBd.rf h
  refine nL_marked hl (fun q hC hQ => ?_)
  by_cases c : w < S.1 80
  · have hm2 := hok.1.2.2.1 w c
    have hb := zct1_lt (m := (S.1 87)) (zOk_mark (k := w) hok.1 (by omega) hv)
    have e87 : zuf S.1 (40 + w) v 87 = (S.1 87) := zuf_ne (by omega)
    refine eL_marked_0 hC ?_
    refine eL_marked_1 hC ?_
    refine eL_marked_2 hC ?_
    refine eL_marked_3 hC (Nat.le_of_ble_eq_true rfl) (by omega) (by omega) (vL_costIfMarked hC.nt hB.x (zo_costIfMarked c hv hok)) (zk_a hB (fun K_3 μ_3 hB => ?_))
    refine eL_marked_6 hC ?_
    refine eL_marked_7 hC ?_
    refine eL_marked_8 hC ?_
    refine eL_marked_9 hC (Nat.le_of_ble_eq_true rfl) (by omega) (by omega) hB.o (vX8_words hC.nt hB.x) (zk_q hB rfl (fun K_9 μ_9 hB => ?_))
    refine eL_marked_12 hC (fun _ => ?_) (fun zz => absurd (nI_lt c (by omega)) zz)
    refine eL_marked_27 hC ?_
    refine eL_marked_28 hC (Nat.le_of_ble_eq_true rfl) (by omega) (by omega) (vL_print hC.nt hB.x) (zk_al hB (fun K_28 μ_28 hB => ?_))
    refine eL_marked_31 hC ?_
    refine eL_marked_33 hC ?_
    refine eL_marked_34 hC ?_
    refine eL_marked_35 hC (Nat.le_of_ble_eq_true rfl) (by omega) (by omega) (vL_mark hC.nt hB.x (zo_mark (by omega) hok)) (zk_a hB (fun K_35 μ_35 hB => ?_))
    refine eL_marked_38 hC ?_
    refine eL_marked_40 hC ?_
    refine eL_marked_41 hC (fun zz => absurd zz (nI_pos (by omega))) (fun _ => ?_)
    refine eL_marked_44 hC ?_
    refine eL_marked_45 hC ?_
    refine eL_marked_46 hC ?_
    refine eL_marked_48 hC (Nat.le_of_ble_eq_true rfl) (by omega) (by omega) (vL_costIfMarked hC.nt hB.x (zo_costIfMarked c hm2 hok)) (zk_a hB (fun K_48 μ_48 hB => ?_))
    refine eL_marked_51 hC ?_
    refine eL_marked_52 hC (Nat.le_of_ble_eq_true rfl) (by omega) (by omega) hB.o (vX8_cost hC.nt hB.x) (zk_q hB rfl (fun K_52 μ_52 hB => ?_))
    refine eL_marked_55 hC (fun zz => absurd (by rw [zuf_self]; rfl) zz) (fun _ => ?_)
    refine eL_marked_58 hC ?_
    refine eL_marked_59 hC ?_
    refine eL_marked_60 hC ?_
    refine eL_marked_61 hC (Nat.le_of_ble_eq_true rfl) (by omega) (by omega) (vL_setMark hC.nt hB.x (zo_setMark c hv hok)) (zk_a hB (fun K_61 μ_61 hB => ?_))
    refine eL_marked_64 hC ?_
    refine eL_marked_66 hC (fun zz => absurd rfl zz) (fun _ => ?_)
    refine eL_marked_69 hC ?_
    refine eL_marked_70 hC (Nat.le_of_ble_eq_true rfl) (by omega) (by omega) hB.o (vX8_cost hC.nt hB.x) (zk_q hB rfl (fun K_70 μ_70 hB => ?_))
    refine eL_marked_73 hC ?_
    refine eL_marked_74 hC (fun zz => absurd (by
            show nI (ztc (zuf S.1 (40 + w) v) (zuf S.1 (40 + w) v 87) (zm (zuf S.1 (40 + w) v) (zuf S.1 (40 + w) v 87))) = _
            rw [e87]
            rfl) zz) (fun _ => ?_)
    refine eL_marked_77 hC ?_
    have k6 := hB.x.k.2.1
    refine eL_marked_78 hC (Nat.le_of_ble_eq_true rfl) (by omega) (by omega) (vL_undo hC.nt hB.x (zo_undo (zcg_pos _ _))) (zk_a hB (fun K_78 μ_78 hB => ?_))
    refine eL_marked_81 hC (fun zz => absurd zz (nI_pos (by omega))) (fun _ => ?_)
    refine eL_marked_84 hC ?_
    refine eL_marked_85 hC (Nat.le_of_ble_eq_true rfl) (by omega) (by omega) (vL_print hC.nt hB.x) (zk_al hB (fun K_85 μ_85 hB => ?_))
    rw [zud_1 _ hok]
    refine eL_marked_88 hC ?_
    refine eL_marked_90 hC ?_
    rw [lg_cmp_self]
    refine eL_marked_91 hC (fun zz => absurd rfl zz) (fun _ => ?_)
    refine eL_marked_94 hC ?_
    refine eL_marked_95 hC ?_
    refine eL_marked_99 hC hQ (by omega) (by omega) (by first | (left; rfl) | (right; rfl) | assumption) ?_
    exact ⟨_, zud_1 _ hok, hB.ai⟩
  · refine eL_marked_0 hC ?_
    refine eL_marked_1 hC ?_
    refine eL_marked_2 hC ?_
    refine eL_marked_3 hC (Nat.le_of_ble_eq_true rfl) (by omega) (by omega) (vL_costIfMarked hC.nt hB.x (zo_costIfMarkedX (by omega) (by omega))) (zk_a hB (fun K_3 μ_3 hB => ?_))
    refine eL_marked_6 hC ?_
    refine eL_marked_7 hC ?_
    refine eL_marked_8 hC ?_
    refine eL_marked_9 hC (Nat.le_of_ble_eq_true rfl) (by omega) (by omega) hB.o (vX8_words hC.nt hB.x) (zk_q hB rfl (fun K_9 μ_9 hB => ?_))
    refine eL_marked_12 hC (fun zz => absurd zz (nI_nlt (by omega) (by omega))) (fun _ => ?_)
    refine eL_marked_15 hC ?_
    refine eL_marked_16 hC ?_
    refine eL_marked_18 hC (fun zz => absurd rfl zz) (fun _ => ?_)
    refine eL_marked_21 hC ?_
    refine eL_marked_22 hC ?_
    refine eL_marked_26 hC hQ (by omega) (by omega) (by first | (left; rfl) | (right; rfl) | assumption) ?_
    exact ⟨_, rfl, hB.ai⟩
theorem zbw_is (c : Nat → Nat) (p : Nat) : ∀ d, (p ≤ zbw c p d ∧ zbw c p d ≤ p + d) ∧ (∀ e, p ≤ e → e ≤ p + d → c (zbw c p d) ≤ c e) ∧ ∀ e, p ≤ e → e < zbw c p d → c (zbw c p d) < c e
  | 0 => ⟨⟨Nat.le_refl _, Nat.le_refl _⟩, fun e h1 h2 => by
      rw [show e = p by omega]
      exact Nat.le_refl _, fun e h1 h2 => by
      have h2 : e < p := h2
      omega⟩
  | d + 1 => by
    obtain ⟨⟨a1, a2⟩, a3, a4⟩ := zbw_is c p d
    show (p ≤ (if c (p + d + 1) < c (zbw c p d) then p + d + 1 else zbw c p d) ∧ (if c (p + d + 1) < c (zbw c p d) then p + d + 1 else zbw c p d) ≤ p + (d + 1)) ∧ (∀ e, p ≤ e → e ≤ p + (d + 1) → c (if c (p + d + 1) < c (zbw c p d) then p + d + 1 else zbw c p d) ≤ c e) ∧ ∀ e, p ≤ e → e < (if c (p + d + 1) < c (zbw c p d) then p + d + 1 else zbw c p d) → c (if c (p + d + 1) < c (zbw c p d) then p + d + 1 else zbw c p d) < c e
    by_cases h : c (p + d + 1) < c (zbw c p d)
    · rw [if_pos h]
      refine ⟨by omega, fun e h1 h2 => ?_, fun e h1 h2 => ?_⟩
      · rcases Nat.eq_or_lt_of_le h2 with q | q
        · rw [show e = p + d + 1 by omega]
          exact Nat.le_refl _
        · have := a3 e h1 (by omega)
          omega
      · have := a3 e h1 (by omega)
        omega
    · rw [if_neg h]
      refine ⟨by omega, fun e h1 h2 => ?_, a4⟩
      rcases Nat.eq_or_lt_of_le h2 with q | q
      · rw [show e = p + d + 1 by omega]
        omega
      · exact a3 e h1 (by omega)
set_option maxHeartbeats 4000000 in
theorem vL_columns {l : Launch} {g : zG} (hl : l.stackTraces = false) {K : zK} {μ : zF} {x a : Nat} {v : Int32} {S : zMs} (h : zX8 K μ x S) (ha : x + 89 ≤ a) (hG : zGa K μ a S.1) : EL_columns l g 600 3600 [.ref x, .ref a, .int v] K μ (zAe S K μ x) := by
  obtain ⟨hI, hg0, hg1, hg2, hg3, hg4, hg5⟩ := hG
  have hok := h.k
  have o1 := hok.1.1
  have o81 := hok.1.2.2.2.1
  have o87 := hok.1.2.2.2.2.2.2.2.2.2
  have hB := zBd.rf h
  obtain ⟨P, hP⟩ : ∃ P, P = 30 + zqw v 71 := ⟨_, rfl⟩
  have hP1 := zqw_lt v (n := 71) (by omega)
  refine nL_columns hl (fun q hC hQ => ?_)
  -- behind the search: the text is as it was
  have c258 : ∀ (S4 : zMs) (cs sl : Nat) (K1 : zK) (μ1 : zF) (x5 x6 : Option Value) (B : Nat) (v8 v9 : Int32), S4.1 = S.1 → 30 ≤ B → B ≤ 100 → v8 = nI (zct1 (zuf S.1 81 B) 1) → cs ≤ 200 → sl ≤ 1200 → zBd K μ K1 μ1 x S4 → zV q cs sl 258 [some (.ref x), some (.ref a), some (.int v), some (.long (zpr S.1)), none, x5, x6, some (.int (nI B)), some (.int v8), some (.int v9), some (.int (nI (zct1 S.1 1))), some (.int (nI (zct1 S.1 0))), some (.int (nI (S.1 87)))] [] K1 μ1 := by
    intro S4 cs sl K1 μ1 x5 x6 B v8 v9 e4 hB1 hB2 e8 hcs hsl hB
    have ok4 := hB.x.k
    have e481 : S4.1 81 = S.1 81 := by rw [e4]
    have tl : ∀ (cs sl : Nat) (K1 : zK) (μ1 : zF) (v9 : Int32), cs ≤ 400 → sl ≤ 2400 → zBd K μ K1 μ1 x (zcg S4 (zuf S4.1 81 B)) → zV q cs sl 324 [some (.ref x), some (.ref a), some (.int v), some (.long (zpr S.1)), none, x5, x6, some (.int (nI B)), some (.int v8), some (.int v9), some (.int (nI (zct1 S.1 1))), some (.int (nI (zct1 S.1 0))), some (.int (nI (S.1 87)))] [] K1 μ1 := by
      intro cs sl K1 μ1 v9 hcs hsl hB
      have k6 := hB.x.k.2.1
      have e6 : (zud (zcg S4 (zuf S4.1 81 B))).1 = S.1 := (zud_1 _ ok4).trans e4
      refine eL_columns_324 hC ?_
      refine eL_columns_325 hC (Nat.le_of_ble_eq_true rfl) (by omega) (by omega) (vL_undo hC.nt hB.x (zo_undo (zcg_pos _ _))) (zk_a hB (fun K_325 μ_325 hB => ?_))
      refine eL_columns_328 hC (fun zz => absurd zz (nI_pos (by omega))) (fun _ => ?_)
      refine eL_columns_331 hC ?_
      refine eL_columns_332 hC ?_
      refine eL_columns_336 hC ?_
      refine eL_columns_338 hC ?_
      refine eL_columns_340 hC (fun zz => absurd zz zn10) (fun _ => ?_)
      refine eL_columns_343 hC ?_
      refine eL_columns_344 hC (Nat.le_of_ble_eq_true rfl) (by omega) (by omega) (vL_print hC.nt hB.x) (zk_al hB (fun K_344 μ_344 hB => ?_))
      rw [e6]
      refine eL_columns_347 hC ?_
      refine eL_columns_348 hC ?_
      rw [lg_cmp_self]
      refine eL_columns_349 hC (fun zz => absurd rfl zz) (fun _ => ?_)
      refine eL_columns_352 hC ?_
      refine eL_columns_353 hC ?_
      refine eL_columns_357 hC hQ (by omega) (by omega) (by first | (left; rfl) | (right; rfl) | assumption) ?_
      exact ⟨_, e6, hB.ai⟩
    by_cases m : (S.1 87) = 1
    · have ec : zct1 S.1 (S.1 87) = zct1 S.1 1 := by rw [m]
      have ec4 : nI (ztc S4.1 (S4.1 87) (zm S4.1 (S4.1 87))) = nI (zct1 S.1 1) := by
        rw [e4]
        exact congrArg nI ec
      have e87 : zuf S4.1 81 B 87 = 1 := by rw [zuf_ne (by omega), e4, m]
      have ec5 : nI (ztc (zuf S4.1 81 B) (zuf S4.1 81 B 87) (zm (zuf S4.1 81 B) (zuf S4.1 81 B 87))) = v8 := by
        rw [e87, e8, e4]
        rfl
      refine eL_columns_258 hC ?_
      refine eL_columns_259 hC (Nat.le_of_ble_eq_true rfl) (by omega) (by omega) (vL_print hC.nt hB.x) (zk_al hB (fun K_259 μ_259 hB => ?_))
      rw [e4]
      refine eL_columns_262 hC ?_
      refine eL_columns_263 hC ?_
      rw [lg_cmp_self]
      refine eL_columns_264 hC (fun zz => absurd rfl zz) (fun _ => ?_)
      refine eL_columns_267 hC ?_
      refine eL_columns_268 hC (Nat.le_of_ble_eq_true rfl) (by omega) (by omega) hB.o (vX8_cost hC.nt hB.x) (zk_q hB rfl (fun K_268 μ_268 hB => ?_))
      refine eL_columns_271 hC ?_
      refine eL_columns_273 hC (fun zz => absurd zz (by rw [m]; exact zn10)) (fun _ => ?_)
      refine eL_columns_276 hC ?_
      refine eL_columns_278 hC ?_
      refine eL_columns_283 hC (fun zz => absurd ec4 zz) (fun _ => ?_)
      refine eL_columns_286 hC ?_
      refine eL_columns_287 hC ?_
      refine eL_columns_291 hC ?_
      refine eL_columns_293 hC ?_
      refine eL_columns_295 hC (fun zz => absurd zz zn10) (fun _ => ?_)
      refine eL_columns_298 hC ?_
      refine eL_columns_299 hC ?_
      refine eL_columns_301 hC (Nat.le_of_ble_eq_true rfl) (by omega) (by omega) (vL_setColumn hC.nt hB.x (zo_setColumn hB1 hB2)) (zk_a hB (fun K_301 μ_301 hB => ?_))
      refine eL_columns_304 hC ?_
      refine eL_columns_305 hC ?_
      refine eL_columns_306 hC (hB.i hI) (vp_in_nI (by omega) (by omega)) ?_
      rw [nI_clamp (by omega), hB.g ha, hg0]
      refine eL_columns_307 hC (fun zz => absurd (by rw [e481]) zz) (fun _ => ?_)
      refine eL_columns_310 hC ?_
      refine eL_columns_312 hC (fun zz => absurd zz (by rw [m]; exact zn10)) (fun _ => ?_)
      refine eL_columns_315 hC ?_
      refine eL_columns_316 hC (Nat.le_of_ble_eq_true rfl) (by omega) (by omega) hB.o (vX8_cost hC.nt hB.x) (zk_q hB rfl (fun K_316 μ_316 hB => ?_))
      refine eL_columns_319 hC ?_
      refine eL_columns_321 hC (fun zz => absurd ec5 zz) (fun _ => ?_)
      exact tl _ _ _ _ _ (by omega) (by omega) hB
    · have m0 : (S.1 87) = 0 := by omega
      have ec : zct1 S.1 (S.1 87) = zct1 S.1 0 := by rw [m0]
      have ec4 : nI (ztc S4.1 (S4.1 87) (zm S4.1 (S4.1 87))) = nI (zct1 S.1 0) := by
        rw [e4]
        exact congrArg nI ec
      refine eL_columns_258 hC ?_
      refine eL_columns_259 hC (Nat.le_of_ble_eq_true rfl) (by omega) (by omega) (vL_print hC.nt hB.x) (zk_al hB (fun K_259 μ_259 hB => ?_))
      rw [e4]
      refine eL_columns_262 hC ?_
      refine eL_columns_263 hC ?_
      rw [lg_cmp_self]
      refine eL_columns_264 hC (fun zz => absurd rfl zz) (fun _ => ?_)
      refine eL_columns_267 hC ?_
      refine eL_columns_268 hC (Nat.le_of_ble_eq_true rfl) (by omega) (by omega) hB.o (vX8_cost hC.nt hB.x) (zk_q hB rfl (fun K_268 μ_268 hB => ?_))
      refine eL_columns_271 hC ?_
      refine eL_columns_273 hC (fun _ => ?_) (fun zz => absurd (by rw [m0]; exact zn00) zz)
      refine eL_columns_281 hC ?_
      refine eL_columns_283 hC (fun zz => absurd ec4 zz) (fun _ => ?_)
      refine eL_columns_286 hC ?_
      refine eL_columns_287 hC ?_
      refine eL_columns_291 hC ?_
      refine eL_columns_293 hC ?_
      refine eL_columns_295 hC (fun zz => absurd zz zn10) (fun _ => ?_)
      refine eL_columns_298 hC ?_
      refine eL_columns_299 hC ?_
      refine eL_columns_301 hC (Nat.le_of_ble_eq_true rfl) (by omega) (by omega) (vL_setColumn hC.nt hB.x (zo_setColumn hB1 hB2)) (zk_a hB (fun K_301 μ_301 hB => ?_))
      refine eL_columns_304 hC ?_
      refine eL_columns_305 hC ?_
      refine eL_columns_306 hC (hB.i hI) (vp_in_nI (by omega) (by omega)) ?_
      rw [nI_clamp (by omega), hB.g ha, hg0]
      refine eL_columns_307 hC (fun zz => absurd (by rw [e481]) zz) (fun _ => ?_)
      refine eL_columns_310 hC ?_
      refine eL_columns_312 hC (fun _ => ?_) (fun zz => absurd (by rw [m0]; exact zn00) zz)
      exact tl _ _ _ _ _ (by omega) (by omega) hB
  -- the modes
  have c162 : ∀ (cs sl : Nat) (K1 : zK) (μ1 : zF) (x5 x6 x11 x12 : Option Value) (B : Nat) (v8 v10 : Int32), 30 ≤ B → B ≤ 100 → v8 = nI (zct1 (zuf S.1 81 B) 1) → cs ≤ 195 → sl ≤ 1170 → zBd K μ K1 μ1 x S → zV q cs sl 162 [some (.ref x), some (.ref a), some (.int v), some (.long (zpr S.1)), none, x5, x6, some (.int (nI B)), some (.int v8), some (.int (nI 1)), some (.int v10), x11, x12] [] K1 μ1 := by
    intro cs sl K1 μ1 x5 x6 x11 x12 B v8 v10 hB1 hB2 e8 hcs hsl hB
    have e1 : nI (ztc (zuf S.1 87 1) (zuf S.1 87 1 87) (zm (zuf S.1 87 1) (zuf S.1 87 1 87))) = nI (zct1 S.1 1) := by
      rw [zuf_at]
      exact congrArg nI (zct1_87 o1 1 1)
    have e2 : zuf (zuf S.1 87 1) 87 0 = zuf S.1 87 0 := zuf_zuf _ _ _ _
    have e3 : nI (ztc (zuf (zuf S.1 87 1) 87 0) (zuf (zuf S.1 87 1) 87 0 87) (zm (zuf (zuf S.1 87 1) 87 0) (zuf (zuf S.1 87 1) 87 0 87))) = nI (zct1 S.1 0) := by
      rw [zuf_at, e2]
      exact congrArg nI (zct1_87 o1 0 0)
    have s1 : nI (zct1 (zuf S.1 87 1) 0) - nI (zct1 (zuf S.1 87 1) 1) = nI (zct1 S.1 0) - nI (zct1 S.1 1) := by rw [zct1_87 o1, zct1_87 o1]
    have s2 : nI (zct1 (zuf (zuf S.1 87 1) 87 0) 0) - nI (zct1 (zuf (zuf S.1 87 1) 87 0) 1) = nI (zct1 S.1 0) - nI (zct1 S.1 1) := by rw [e2, zct1_87 o1, zct1_87 o1]
    have t1 : ¬ nI (zuf S.1 87 1 87) = 0 := by rw [zuf_at]; exact zn10
    refine eL_columns_162 hC ?_
    refine eL_columns_163 hC ?_
    refine eL_columns_164 hC ?_
    refine eL_columns_165 hC (hB.i hI) (vp_in_nI (by omega) (by omega)) ?_
    rw [nI_clamp (by omega), hB.g ha, hg0]
    refine eL_columns_166 hC ?_
    refine eL_columns_167 hC (Nat.le_of_ble_eq_true rfl) (by omega) (by omega) (vL_costFor hC.nt hB.x (Nat.le_refl 1) (zo_costFor o81.1 o81.2)) (zk_a hB (fun K_167 μ_167 hB => ?_))
    rw [zuf_self]
    refine eL_columns_170 hC ?_
    refine eL_columns_172 hC ?_
    refine eL_columns_173 hC ?_
    refine eL_columns_174 hC ?_
    refine eL_columns_175 hC (hB.i hI) (vp_in_nI (by omega) (by omega)) ?_
    rw [nI_clamp (by omega), hB.g ha, hg0]
    refine eL_columns_176 hC ?_
    refine eL_columns_177 hC (Nat.le_of_ble_eq_true rfl) (by omega) (by omega) (vL_costFor hC.nt hB.x (Nat.zero_le 1) (zo_costFor o81.1 o81.2)) (zk_a hB (fun K_177 μ_177 hB => ?_))
    rw [zuf_self]
    refine eL_columns_180 hC ?_
    refine eL_columns_182 hC ?_
    refine eL_columns_183 hC ?_
    refine eL_columns_184 hC (Nat.le_of_ble_eq_true rfl) (by omega) (by omega) hB.o (vX8_setOptimal (b := 1) hC.nt hB.x (Nat.le_refl 1)) (zk_q hB rfl (fun K_184 μ_184 hB => ?_))
    refine eL_columns_187 hC ?_
    refine eL_columns_189 hC ?_
    refine eL_columns_191 hC (fun zz => absurd zz zn10) (fun _ => ?_)
    refine eL_columns_194 hC ?_
    refine eL_columns_195 hC (Nat.le_of_ble_eq_true rfl) (by omega) (by omega) hB.o (vX8_cost hC.nt hB.x) (zk_q hB rfl (fun K_195 μ_195 hB => ?_))
    refine eL_columns_198 hC ?_
    refine eL_columns_200 hC (fun zz => absurd e1 zz) (fun _ => ?_)
    refine eL_columns_203 hC ?_
    refine eL_columns_204 hC (Nat.le_of_ble_eq_true rfl) (by omega) (by omega) hB.o (vX8_saving hC.nt hB.x) (zk_q hB rfl (fun K_204 μ_204 hB => ?_))
    refine eL_columns_207 hC ?_
    refine eL_columns_209 hC ?_
    refine eL_columns_211 hC ?_
    refine eL_columns_212 hC (fun zz => absurd s1 zz) (fun _ => ?_)
    refine eL_columns_215 hC ?_
    refine eL_columns_216 hC ?_
    refine eL_columns_217 hC (Nat.le_of_ble_eq_true rfl) (by omega) (by omega) hB.o (vX8_setOptimal (b := 0) hC.nt hB.x (Nat.zero_le 1)) (zk_q hB rfl (fun K_217 μ_217 hB => ?_))
    refine eL_columns_220 hC (fun zz => absurd zz t1) (fun _ => ?_)
    refine eL_columns_223 hC ?_
    refine eL_columns_224 hC (Nat.le_of_ble_eq_true rfl) (by omega) (by omega) hB.o (vX8_cost hC.nt hB.x) (zk_q hB rfl (fun K_224 μ_224 hB => ?_))
    refine eL_columns_227 hC ?_
    refine eL_columns_229 hC (fun zz => absurd e3 zz) (fun _ => ?_)
    refine eL_columns_232 hC ?_
    refine eL_columns_233 hC (Nat.le_of_ble_eq_true rfl) (by omega) (by omega) hB.o (vX8_saving hC.nt hB.x) (zk_q hB rfl (fun K_233 μ_233 hB => ?_))
    refine eL_columns_236 hC ?_
    refine eL_columns_238 hC ?_
    refine eL_columns_240 hC ?_
    refine eL_columns_241 hC (fun zz => absurd s2 zz) (fun _ => ?_)
    refine eL_columns_244 hC ?_
    have k6 := hB.x.k.2.1
    refine eL_columns_245 hC (Nat.le_of_ble_eq_true rfl) (by omega) (by omega) (vL_undo hC.nt hB.x (zo_undo (zcg_pos _ _))) (zk_a hB (fun K_245 μ_245 hB => ?_))
    refine eL_columns_248 hC (fun zz => absurd zz (nI_pos (by omega))) (fun _ => ?_)
    refine eL_columns_251 hC ?_
    have k6 := hB.x.k.2.1
    refine eL_columns_252 hC (Nat.le_of_ble_eq_true rfl) (by omega) (by omega) (vL_undo hC.nt hB.x (zo_undo (zud_2n _ _))) (zk_a hB (fun K_252 μ_252 hB => ?_))
    refine eL_columns_255 hC (fun zz => absurd zz (nI_pos (by omega))) (fun _ => ?_)
    exact c258 _ _ _ _ _ x5 x6 B v8 _ (zud_2 _ _ hok) hB1 hB2 e8 (by omega) (by omega) hB
  -- the search
  have c46 : ∀ (Q cs sl : Nat) (K1 : zK) (μ1 : zF), P ≤ Q → Q ≤ 100 → Q ≤ P + 8 → cs ≤ 170 → sl ≤ 1020 → zBd K μ K1 μ1 x S → zV q cs sl 46 [some (.ref x), some (.ref a), some (.int v), some (.long (zpr S.1)), none, some (.int (nI P)), none, none, none, none, none, none, none] [.int (nI Q)] K1 μ1 := by
    intro Q cs sl K1 μ1 hPQ hQ1 hQ2 hcs hsl hB
    obtain ⟨⟨b1, b2⟩, b3, b4⟩ := zbw_is (zbc S.1) P (Q - P)
    obtain ⟨B, hBB⟩ : ∃ B, B = zbw (zbc S.1) P (Q - P) := ⟨_, rfl⟩
    rw [← hBB] at b1 b2 b3 b4
    have hlt := zbc_lt (k := B) hok.1 (by omega)
    have loop : ∀ (d k cs sl : Nat) (K1 : zK) (μ1 : zF) (x11 x12 : Option Value), k + d = Q + 1 → P ≤ k → cs ≤ 173 + 2 * (k - P) → sl ≤ 1038 + 12 * (k - P) → zBd K μ K1 μ1 x S → zV q cs sl 92 [some (.ref x), some (.ref a), some (.int v), some (.long (zpr S.1)), none, some (.int (nI P)), some (.int (nI Q)), some (.int (nI B)), some (.int (nI (zbc S.1 B))), some (.int (nI 1)), some (.int (nI k)), x11, x12] [] K1 μ1 := by
      intro d
      induction d with
      | zero =>
        intro k cs sl K1 μ1 x11 x12 hk hPk hcs hsl hB
        refine eL_columns_92 hC ?_
        refine eL_columns_94 hC ?_
        refine eL_columns_96 hC (fun _ => ?_) (fun zz => absurd (nI_lt (by omega) (by omega)) zz)
        exact c162 _ _ _ _ _ _ x11 x12 B _ _ (by omega) (by omega) rfl (by omega) (by omega) hB
      | succ d ih =>
        intro k cs sl K1 μ1 x11 x12 hk hPk hcs hsl hB
        have hkk : 30 ≤ k ∧ k ≤ 100 := by omega
        have hk1 := zbc_lt (k := k) hok.1 hkk
        have okw := zOk_81 hok.1 hkk
        have hle := zct1_le okw
        have hl0 := zct1_lt (m := 0) okw
        have e1 : ¬ nI (zct1 (zuf S.1 81 k) 0) < nI (zct1 (zuf S.1 81 k) 1) := nI_nlt hle (by omega)
        have nx := fun cs sl K1 μ1 y11 => ih (k + 1) cs sl K1 μ1 y11 x12 (by omega) (by omega)
        by_cases c : k < B
        · have e2 : ¬ nI (zct1 (zuf S.1 81 k) 1) ≤ nI (zbc S.1 B) := nI_ge (b4 k hPk c) (by unfold zbc at hk1; omega)
          refine eL_columns_92 hC ?_
          refine eL_columns_94 hC ?_
          refine eL_columns_96 hC (fun zz => absurd zz (nI_nlt (by omega) (by omega))) (fun _ => ?_)
          refine eL_columns_99 hC ?_
          refine eL_columns_101 hC (fun zz => absurd zz zn10) (fun _ => ?_)
          refine eL_columns_104 hC ?_
          refine eL_columns_105 hC ?_
          refine eL_columns_107 hC ?_
          refine eL_columns_108 hC (Nat.le_of_ble_eq_true rfl) (by omega) (by omega) (vL_costFor hC.nt hB.x (Nat.le_refl 1) (zo_costFor hkk.1 hkk.2)) (zk_a hB (fun K_108 μ_108 hB => ?_))
          refine eL_columns_111 hC ?_
          refine eL_columns_113 hC ?_
          refine eL_columns_115 hC ?_
          refine eL_columns_116 hC ?_
          refine eL_columns_118 hC ?_
          refine eL_columns_119 hC (Nat.le_of_ble_eq_true rfl) (by omega) (by omega) (vL_costFor hC.nt hB.x (Nat.zero_le 1) (zo_costFor hkk.1 hkk.2)) (zk_a hB (fun K_119 μ_119 hB => ?_))
          refine eL_columns_122 hC (fun zz => absurd zz e1) (fun _ => ?_)
          refine eL_columns_125 hC ?_
          refine eL_columns_127 hC ?_
          refine eL_columns_129 hC (fun zz => absurd zz (nI_ge c (by omega))) (fun _ => ?_)
          refine eL_columns_132 hC ?_
          refine eL_columns_134 hC ?_
          refine eL_columns_136 hC (fun zz => absurd zz e2) (fun _ => ?_)
          refine eL_columns_139 hC ?_
          refine eL_columns_149 hC ?_
          refine eL_columns_150 hC ?_
          refine eL_columns_154 hC ?_
          refine eL_columns_156 hC ?_
          rw [nI_add]
          refine eL_columns_159 hC ?_
          exact nx _ _ _ _ _ (by omega) (by omega) hB
        · have e2 : ¬ nI (zct1 (zuf S.1 81 k) 1) < nI (zbc S.1 B) := nI_nlt (b3 k hPk (by omega)) (by unfold zbc at hk1; omega)
          refine eL_columns_92 hC ?_
          refine eL_columns_94 hC ?_
          refine eL_columns_96 hC (fun zz => absurd zz (nI_nlt (by omega) (by omega))) (fun _ => ?_)
          refine eL_columns_99 hC ?_
          refine eL_columns_101 hC (fun zz => absurd zz zn10) (fun _ => ?_)
          refine eL_columns_104 hC ?_
          refine eL_columns_105 hC ?_
          refine eL_columns_107 hC ?_
          refine eL_columns_108 hC (Nat.le_of_ble_eq_true rfl) (by omega) (by omega) (vL_costFor hC.nt hB.x (Nat.le_refl 1) (zo_costFor hkk.1 hkk.2)) (zk_a hB (fun K_108 μ_108 hB => ?_))
          refine eL_columns_111 hC ?_
          refine eL_columns_113 hC ?_
          refine eL_columns_115 hC ?_
          refine eL_columns_116 hC ?_
          refine eL_columns_118 hC ?_
          refine eL_columns_119 hC (Nat.le_of_ble_eq_true rfl) (by omega) (by omega) (vL_costFor hC.nt hB.x (Nat.zero_le 1) (zo_costFor hkk.1 hkk.2)) (zk_a hB (fun K_119 μ_119 hB => ?_))
          refine eL_columns_122 hC (fun zz => absurd zz e1) (fun _ => ?_)
          refine eL_columns_125 hC ?_
          refine eL_columns_127 hC ?_
          refine eL_columns_129 hC (fun _ => ?_) (fun zz => absurd (nI_le (by omega) (by omega)) zz)
          refine eL_columns_142 hC ?_
          refine eL_columns_144 hC ?_
          refine eL_columns_146 hC (fun zz => absurd zz e2) (fun _ => ?_)
          refine eL_columns_149 hC ?_
          refine eL_columns_150 hC ?_
          refine eL_columns_154 hC ?_
          refine eL_columns_156 hC ?_
          rw [nI_add]
          refine eL_columns_159 hC ?_
          exact nx _ _ _ _ _ (by omega) (by omega) hB
    have nx := fun cs sl K1 μ1 x11 x12 => loop (Q + 1 - P) P cs sl K1 μ1 x11 x12 (by omega) (Nat.le_refl _)
    refine eL_columns_46 hC ?_
    refine eL_columns_48 hC ?_
    refine eL_columns_49 hC ?_
    refine eL_columns_51 hC ?_
    refine eL_columns_53 hC (Nat.le_of_ble_eq_true rfl) (by omega) (by omega) (vL_bestColumn hC.nt hB.x (zo_bestColumn (by omega) hPQ hQ1)) (zk_a hB (fun K_53 μ_53 hB => ?_))
    rw [← hBB]
    refine eL_columns_56 hC ?_
    refine eL_columns_58 hC ?_
    refine eL_columns_59 hC ?_
    refine eL_columns_61 hC ?_
    refine eL_columns_62 hC (Nat.le_of_ble_eq_true rfl) (by omega) (by omega) (vL_costFor hC.nt hB.x (Nat.le_refl 1) (zo_costFor (by omega) (by omega))) (zk_a hB (fun K_62 μ_62 hB => ?_))
    refine eL_columns_65 hC ?_
    refine eL_columns_67 hC ?_
    refine eL_columns_69 hC ?_
    refine eL_columns_71 hC (fun zz => absurd zz (nI_nlt (by omega) (by omega))) (fun _ => ?_)
    refine eL_columns_74 hC ?_
    refine eL_columns_76 hC ?_
    refine eL_columns_78 hC (fun zz => absurd zz (nI_nlt (by omega) (by omega))) (fun _ => ?_)
    refine eL_columns_81 hC ?_
    refine eL_columns_82 hC ?_
    refine eL_columns_86 hC ?_
    refine eL_columns_88 hC ?_
    refine eL_columns_90 hC ?_
    exact nx _ _ _ _ none none (by omega) (by omega) hB
  by_cases c : 9 ≤ 101 - P
  · have hQ1 := zqw_lt (v >>> (nI 7 &&& 31)) (n := 9) (by omega)
    refine eL_columns_0 hC ?_
    refine eL_columns_1 hC (Nat.le_of_ble_eq_true rfl) (by omega) (by omega) (vL_print hC.nt hB.x) (zk_al hB (fun K_1 μ_1 hB => ?_))
    refine eL_columns_4 hC ?_
    refine eL_columns_5 hC ?_
    refine eL_columns_7 hC ?_
    refine eL_columns_8 hC ?_
    refine eL_columns_10 hC (Nat.le_of_ble_eq_true rfl) (by omega) (by omega) (vL_low hC.nt (by omega) (by omega)) (zk_i ?_)
    refine eL_columns_13 hC ?_
    rw [nI_add, ← hP]
    refine eL_columns_14 hC ?_
    refine eL_columns_16 hC ?_
    refine eL_columns_18 hC ?_
    refine eL_columns_19 hC ?_
    refine eL_columns_21 hC ?_
    refine eL_columns_22 hC ?_
    refine eL_columns_24 hC ?_
    refine eL_columns_26 hC ?_
    rw [nI_sub (a := 101) (b := P) (by omega)]
    refine eL_columns_27 hC ?_
    refine eL_columns_29 hC (fun _ => ?_) (fun zz => absurd (nI_le c (by omega)) zz)
    refine eL_columns_40 hC ?_
    refine eL_columns_42 hC (Nat.le_of_ble_eq_true rfl) (by omega) (by omega) (vL_low hC.nt (by omega) (by omega)) (zk_i ?_)
    refine eL_columns_45 hC ?_
    rw [nI_add]
    exact c46 _ _ _ _ _ (by omega) (by omega) (by omega) (by omega) (by omega) hB
  · have hQ1 := zqw_lt (v >>> (nI 7 &&& 31)) (n := 101 - P) (by omega)
    refine eL_columns_0 hC ?_
    refine eL_columns_1 hC (Nat.le_of_ble_eq_true rfl) (by omega) (by omega) (vL_print hC.nt hB.x) (zk_al hB (fun K_1 μ_1 hB => ?_))
    refine eL_columns_4 hC ?_
    refine eL_columns_5 hC ?_
    refine eL_columns_7 hC ?_
    refine eL_columns_8 hC ?_
    refine eL_columns_10 hC (Nat.le_of_ble_eq_true rfl) (by omega) (by omega) (vL_low hC.nt (by omega) (by omega)) (zk_i ?_)
    refine eL_columns_13 hC ?_
    rw [nI_add, ← hP]
    refine eL_columns_14 hC ?_
    refine eL_columns_16 hC ?_
    refine eL_columns_18 hC ?_
    refine eL_columns_19 hC ?_
    refine eL_columns_21 hC ?_
    refine eL_columns_22 hC ?_
    refine eL_columns_24 hC ?_
    refine eL_columns_26 hC ?_
    rw [nI_sub (a := 101) (b := P) (by omega)]
    refine eL_columns_27 hC ?_
    refine eL_columns_29 hC (fun zz => absurd zz (nI_ge (by omega) (by omega))) (fun _ => ?_)
    refine eL_columns_32 hC ?_
    refine eL_columns_34 hC ?_
    refine eL_columns_36 hC ?_
    rw [nI_sub (a := 101) (b := P) (by omega)]
    refine eL_columns_37 hC ?_
    refine eL_columns_42 hC (Nat.le_of_ble_eq_true rfl) (by omega) (by omega) (vL_low hC.nt (by omega) (by omega)) (zk_i ?_)
    refine eL_columns_45 hC ?_
    rw [nI_add]
    exact c46 _ _ _ _ _ (by omega) (by omega) (by omega) (by omega) (by omega) hB
