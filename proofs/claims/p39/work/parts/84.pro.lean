/-! ===== the law: from its entry to its loop ===== -/
theorem zX8.gr {K K1 : zK} {μ μ1 : zF} {x r : Nat} {S : zMs} (h : zX8 K μ x S) (g : zGr K K1 μ μ1 r) (hr : x + 89 ≤ r) : zX8 K1 μ1 x S := by
  obtain ⟨s, ⟨h0, h1, h2, h3, h4, h5, h6, h7, h8, h9, h10, h11, h12, h13, h14⟩, ⟨⟨a1, a2, a3, a4, a5⟩, h2'⟩, ho⟩ := h
  have m : ∀ b j, b < r → μ1 b j = μ b j := fun b j hb => g.mu hb
  refine ⟨s, ⟨g.o (by omega) h0, g.r (by omega) h1, g.r (by omega) h2, g.r (by omega) h3, g.r (by omega) h4, g.r (by omega) h5, g.r (by omega) h6, g.r (by omega) h7, g.txt (by omega) h8, g.lay (by omega) h9, g.pag (by omega) h10, g.txt (by omega) h11, g.lay (by omega) h12, g.buf (by omega) h13, ?_⟩, ⟨⟨a1.gr g (by omega), ⟨by rw [m _ _ (by omega)]; exact a2.1, fun i hi => by rw [m _ _ (by omega)]; exact a2.2 i hi⟩, ⟨by rw [m _ _ (by omega)]; exact a3.1, a3.2.1, fun i hi => ?_⟩, by rw [m _ _ (by omega)]; exact a4, by rw [m _ _ (by omega)]; exact a5⟩, ?_⟩, ho⟩
  · obtain ⟨b0, b1, b2, b3, b4⟩ := h14
    refine ⟨g.o (by omega) b0, g.r (by omega) b1, g.i (by omega) b2, fun i hi => ⟨g.r (by omega) (b3 i hi).1, g.txt (by have := (b3 i hi).2.2.2; omega) (b3 i hi).2.1, (b3 i hi).2.2⟩, b4⟩
  · exact (a3.2.2 i hi).gr g (by have := (h14.2.2.2.1 i (by have := a3.2.1; omega)).2.2.2; omega)
  · rcases h2' with q | ⟨q1, q2, q3⟩
    · exact Or.inl (by rw [m _ _ (by omega)]; exact q)
    · refine Or.inr ⟨by rw [m _ _ (by omega)]; exact q1, ⟨by rw [m _ _ (by omega)]; exact q2.1, fun k hk => by rw [m _ _ (by omega)]; exact q2.2.1 k hk, fun k hk => by rw [m _ _ (by omega)]; exact q2.2.2.1 k hk, fun k hk => by rw [m _ _ (by omega)]; exact q2.2.2.2 k hk⟩, ⟨by rw [m _ _ (by omega)]; exact q3.1, fun k hk => by rw [m _ _ (by omega)]; exact q3.2.1 k hk, fun k hk => by rw [m _ _ (by omega)]; exact q3.2.2 k hk⟩⟩
theorem zKn_i (K : zK) (N c n : Nat) : zI (zKn K N c n) N c n := ⟨List.mem_append_right _ (List.mem_singleton.mpr rfl), if_pos rfl⟩
section ZPRO
variable {x : zX} {Ts : List Cond} {own : String} {cc : ByteArray} {nL F Lc MC MS cells slots pc N : Nat} {ls : List (Option Value)} {st : List Value} {K : zK} {μ : zF}
theorem zn_astore_n (hC : zH x Ts own cc nL F Lc MC MS) {j : Fin 4} {i : Nat} {a : Nat} {ls' : List (Option Value)} (d : decode cc pc = .ok (.astore_n j, 1)) (hi : (j : Nat) = i) (hn : zNl ls i = true) (hlt : i < ls.length) (hs : ls.set i (some (.ref a)) = ls') (k : zVn x cells slots (pc + 1) ls' st K μ N) : zVn x cells slots pc ls (.ref a :: st) K μ N := by
  subst hs
  exact fun H locs la hR hN hS hl => lv_astore_n hC.1 hC.2.1 d hi hl.has hlt rfl (fun la' h' => k H locs la' hR hN hS (zLs.store1 hn hlt h'))
end ZPRO
set_option maxRecDepth 100000 in
set_option maxHeartbeats 4000000 in
theorem zPro {q : zX} {MC MS b L : Nat} {f : Nat → Int32} (hC : hL_law q MC MS) (hs : zScr q b L f) (hMC : 90000 ≤ MC) (hMS : 560000 ≤ MS) (hend : ∀ (cs sl : Nat) (ls : List (Option Value)) (K : zK) (μ : zF), cs ≤ MC → sl ≤ MS → zV q cs sl 493 ls [.int (nI 1)] K μ) {K : zK} {μ : zF} {X : Nat} : zVn q 0 0 0 [some (.ref b), none, none, none, none, none, none, none, none, none, none, none] [] K μ X := by
  have c43 : ∀ (cs sl : Nat) (K1 : zK) (μ1 : zF), cs ≤ 100 → sl ≤ 11400 → zX8 K1 μ1 X zS0 → zGa K1 μ1 (X + 89) zS0.1 → zV q cs sl 43 [some (.ref b), some (.ref X), some (.ref (X + 89)), none, none, none, none, none, none, none, none, none] [] K1 μ1 := by
    intro cs sl K1 μ1 hcs hsl hX hG
    have hB := zBd.rf hX
    have nx := fun cs sl K1 μ1 => zLaw hC hs hMC hMS hend (X := X) 40 0 cs sl K1 μ1 zS0 none none none none none none none (by omega)
    refine eL_law_43 hC ?_
    refine eL_law_44 hC ?_
    refine eL_law_45 hC (Nat.le_of_ble_eq_true rfl) (by omega) (by omega) (vL_lines hC.nt hB.x (Nat.le_refl _) (hG.bd hB (Nat.le_refl _))) (zk_a hB (fun K_45 μ_45 hB => ?_))
    refine eL_law_48 hC (fun zz => absurd zz zn10) (fun _ => ?_)
    refine eL_law_51 hC ?_
    refine eL_law_52 hC ?_
    refine eL_law_53 hC (Nat.le_of_ble_eq_true rfl) (by omega) (by omega) (vL_pages hC.nt hB.x (Nat.le_refl _) (hG.bd hB (Nat.le_refl _))) (zk_a hB (fun K_53 μ_53 hB => ?_))
    refine eL_law_56 hC (fun zz => absurd zz zn10) (fun _ => ?_)
    refine eL_law_59 hC ?_
    refine eL_law_60 hC ?_
    refine eL_law_64 hC ?_
    refine eL_law_65 hC ?_
    refine eL_law_66 hC ?_
    exact nx _ _ _ _ (by omega) (by omega) hB.x (hG.bd hB (Nat.le_refl _))
  have c13 : ∀ (cs sl : Nat) (K1 : zK) (μ1 : zF), cs ≤ 100 → sl ≤ 11400 → zX8 K1 μ1 X zS0 → zI K1 (X + 89) 10 6 → zV q cs sl 13 [some (.ref b), some (.ref X), some (.ref (X + 89)), none, none, none, none, none, none, none, none, none] [] K1 μ1 := by
    intro cs sl K1 μ1 hcs hsl hX hI
    refine eL_law_13 hC ?_
    refine eL_law_14 hC ?_
    refine eL_law_15 hC ?_
    refine eL_law_17 hC (by assumption) (vp_in_nI (by omega) (by omega)) ?_
    rw [nI_clamp (by omega)]
    refine eL_law_18 hC ?_
    refine eL_law_19 hC ?_
    refine eL_law_20 hC ?_
    refine eL_law_21 hC (by assumption) (vp_in_nI (by omega) (by omega)) ?_
    rw [nI_clamp (by omega)]
    refine eL_law_22 hC ?_
    refine eL_law_23 hC ?_
    refine eL_law_24 hC ?_
    refine eL_law_25 hC (by assumption) (vp_in_nI (by omega) (by omega)) ?_
    rw [nI_clamp (by omega)]
    refine eL_law_26 hC ?_
    refine eL_law_27 hC ?_
    refine eL_law_28 hC ?_
    refine eL_law_31 hC (by assumption) (vp_in_nI (by omega) (by omega)) ?_
    rw [nI_clamp (by omega)]
    refine eL_law_32 hC ?_
    refine eL_law_33 hC ?_
    refine eL_law_34 hC ?_
    refine eL_law_37 hC (by assumption) (vp_in_nI (by omega) (by omega)) ?_
    rw [nI_clamp (by omega)]
    refine eL_law_38 hC ?_
    refine eL_law_39 hC ?_
    refine eL_law_40 hC ?_
    refine eL_law_42 hC (by assumption) (vp_in_nI (by omega) (by omega)) ?_
    rw [nI_clamp (by omega)]
    have ag : ∀ (μ2 : zF) (k : Nat) (v : Int32), zAg μ2 (zup μ2 (X + 89) k v) (X + 89) (X + 90) := fun _ _ _ => zAg.up (by omega)
    refine c43 cs sl K1 _ hcs hsl (hX.ag ((((((ag _ _ _).trans (ag _ _ _)).trans (ag _ _ _)).trans (ag _ _ _)).trans (ag _ _ _)).trans (ag _ _ _)) (Nat.le_refl _)) ⟨hI, ?_, ?_, ?_, ?_, ?_, ?_⟩
    · rw [zup_k _ _ _ (by omega), zup_k _ _ _ (by omega), zup_k _ _ _ (by omega), zup_k _ _ _ (by omega), zup_k _ _ _ (by omega), zup_self]; rfl
    · rw [zup_k _ _ _ (by omega), zup_k _ _ _ (by omega), zup_k _ _ _ (by omega), zup_k _ _ _ (by omega), zup_self]; rfl
    · rw [zup_k _ _ _ (by omega), zup_k _ _ _ (by omega), zup_k _ _ _ (by omega), zup_self]; rfl
    · rw [zup_k _ _ _ (by omega), zup_k _ _ _ (by omega), zup_self]; rfl
    · rw [zup_k _ _ _ (by omega), zup_self]; rfl
    · rw [zup_self]; rfl
  refine zn_new hC (ci := 8) rfl (fun w h => List.mem_cons_of_mem _ (inlX8 w h)) (by decide) tyX8 tyX8_ok (List.mem_cons_of_mem _ zw_0) (List.mem_cons_of_mem _ zw_1) (List.mem_cons_of_mem _ zw_2) dfX8 (by omega) (by omega) dL_law_0 ?_
  refine zn_dup hC rfl dL_law_3 ?_
  refine zn_I hC (zgI zw_6) rfl (List.mem_cons_of_mem _ zw_2) (List.mem_cons_of_mem _ zw_4) (List.mem_cons_of_mem _ zw_5) rfl (by decide +kernel) ⟨(Nat.le_of_ble_eq_true rfl), (Nat.le_of_ble_eq_true rfl)⟩ (n := 0) (As := []) rfl dL_law_4 rfl rfl (Nat.le_of_ble_eq_true rfl) (by omega) (by omega) (vX8_init hC.nt (zKn_o _ _ _ _)) (fun K1 μ1 N1 h1 => ?_)
  obtain ⟨rfl, g1, x1⟩ := h1
  refine zn_astore_n hC dL_law_7 rfl rfl (Nat.le_of_ble_eq_true rfl) rfl ?_
  refine zn_bipush hC (v := nI 6) dL_law_8 (by decide) ?_
  refine zn_newa (atype := .int) hC ⟨rfl, rfl⟩ (List.mem_cons_of_mem _ zw_3) (nI_pos (by decide)) (nI_clamp (by decide)) (by decide) (by omega) (by omega) dL_law_10 ?_
  refine zn_astore_n hC dL_law_12 rfl rfl (Nat.le_of_ble_eq_true rfl) rfl ?_
  refine zVn.of ?_
  have g3 : zGr K1 (zKn K1 (X + 89) 10 6) μ1 (zmn μ1 (X + 89)) (X + 89) := zGr.new (Nat.le_refl _)
  exact c13 _ _ _ _ (by omega) (by omega) (x1.gr g3 (Nat.le_refl _)) (zKn_i _ _ _ _)
