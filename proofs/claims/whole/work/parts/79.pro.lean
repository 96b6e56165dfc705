/-! ===== the law: from its entry to its loop ===== -/
section ZPRO
variable {x : zX} {Ts : List Cond} {own : String} {cc : ByteArray} {nL F Lc MC MS cells slots pc N : Nat} {ls : List (Option Value)} {st : List Value} {K : zK} {μ : zF}
theorem zn_astore_n (hC : zH x Ts own cc nL F Lc MC MS) {j : Fin 4} {i : Nat} {a : Nat} {ls' : List (Option Value)} (d : decode cc pc = .ok (.astore_n j, 1)) (hi : (j : Nat) = i) (hn : zNl ls i = true) (hlt : i < ls.length) (hs : ls.set i (some (.ref a)) = ls') (k : zVn x cells slots (pc + 1) ls' st K μ N) : zVn x cells slots pc ls (.ref a :: st) K μ N := by
  subst hs
  exact fun H locs la hR hN hS hl => lv_astore_n hC.1 hC.2.1 d hi hl.has hlt rfl (fun la' h' => k H locs la' hR hN hS (zLs.store1 hn hlt h'))
end ZPRO
theorem zLi.start {K1 K2 : zK} {μ1 μ2 : zF} {N : Nat} (x1 : zX8 K1 μ1 N zS0) (g2 : zGr (zKn K1 (N + 89) 9 0) K2 (zmn μ1 (N + 89)) μ2 (N + 89)) (r2 : zRef K2 (N + 89)) (m2 : zM9 μ2 (N + 89) zS0) : zLi (zKn K2 (N + 98) 13 1) (zmn μ2 (N + 98)) N zS0 := by
  have g1 : zGr K1 (zKn K1 (N + 89) 9 0) μ1 (zmn μ1 (N + 89)) (N + 89) := zGr.new (Nat.le_refl _)
  have g3 : zGr K2 (zKn K2 (N + 98) 13 1) μ2 (zmn μ2 (N + 98)) (N + 98) := zGr.new (Nat.le_refl _)
  exact ⟨((x1.gr g1 (Nat.le_refl _)).gr g2 (Nat.le_refl _)).gr g3 (by omega), r2.gr g3 (by omega), m2.gr g3 (by omega), zKn_i _ _ _ _⟩
set_option maxHeartbeats 2000000 in
theorem zPro {x : zX} {MC MS b L : Nat} {f : Nat → Int32} (hC : hL_law x MC MS) (hs : zScr x b L f) (hend : ∀ (cs sl : Nat) (ls : List (Option Value)) (K : zK) (μ : zF), cs ≤ MC → sl ≤ MS → zV x cs sl 1722 ls [.int (nI 1)] K μ) (hMC : 1650 ≤ MC) (hMS : 36200 ≤ MS) {K : zK} {μ : zF} {N : Nat} : zVn x 0 0 0 [some (.ref b), none, none, none, none, none, none] [] K μ N := by
  have hL := hs.2.2.2
  refine zn_new hC (ci := 8) rfl (fun w h => List.mem_cons_of_mem _ (inlX8 w h)) (by decide) tyX8 tyX8_ok (List.mem_cons_of_mem _ zw_0) (List.mem_cons_of_mem _ zw_1) (List.mem_cons_of_mem _ zw_2) dfX8 (by omega) (by omega) dL_law_0 ?_
  refine zn_dup hC rfl dL_law_3 ?_
  refine zn_I hC (zgI zw_9) rfl (List.mem_cons_of_mem _ zw_2) (List.mem_cons_of_mem _ zw_7) (List.mem_cons_of_mem _ zw_8) rfl (by decide +kernel) ⟨(Nat.le_of_ble_eq_true rfl), (Nat.le_of_ble_eq_true rfl)⟩ (n := 0) (As := []) rfl dL_law_4 rfl rfl (Nat.le_of_ble_eq_true rfl) (by omega) (by omega) (vX8_init hC.nt (zKn_o _ _ _ _)) (fun K1 μ1 N1 h1 => ?_)
  obtain ⟨rfl, g1, x1⟩ := h1
  refine zn_astore_n hC dL_law_7 rfl rfl (Nat.le_of_ble_eq_true rfl) rfl ?_
  refine zn_new hC (ci := 9) rfl (fun w h => List.mem_cons_of_mem _ (inlX9 w h)) (by decide) tyX9 tyX9_ok (List.mem_cons_of_mem _ zw_3) (List.mem_cons_of_mem _ zw_4) (List.mem_cons_of_mem _ zw_5) dfX9 (by omega) (by omega) dL_law_8 ?_
  refine zn_dup hC rfl dL_law_11 ?_
  refine zn_I hC (zgI zw_130) rfl (List.mem_cons_of_mem _ zw_5) (List.mem_cons_of_mem _ zw_128) (List.mem_cons_of_mem _ zw_129) rfl (by decide +kernel) ⟨(Nat.le_of_ble_eq_true rfl), (Nat.le_of_ble_eq_true rfl)⟩ (n := 0) (As := []) rfl dL_law_12 rfl rfl (Nat.le_of_ble_eq_true rfl) (by omega) (by omega) (vX9_init hC.nt (zKn_o _ _ _ _) (fun k => by simp [zmn])) (fun K2 μ2 N2 h2 => ?_)
  obtain ⟨rfl, g2, r2, m2⟩ := h2
  refine zn_astore_n hC dL_law_15 rfl rfl (Nat.le_of_ble_eq_true rfl) rfl ?_
  refine zn_iconst hC (v := nI 1) dL_law_16 (by decide) ?_
  refine zn_newl hC (m := 1) (List.mem_cons_of_mem _ zw_6) (nI_pos (by decide)) (nI_clamp (by decide)) (by decide) (by omega) (by omega) dL_law_17 ?_
  refine zn_astore_n hC dL_law_19 rfl rfl (Nat.le_of_ble_eq_true rfl) rfl ?_
  refine zVn.of ?_
  have e := zLi.start x1 g2 r2 m2
  refine eL_law_20 hC ?_
  refine eL_law_21 hC ?_
  exact zLoop hC hs hend 512 0 _ _ _ _ zS0 (by omega) (Nat.zero_le _) e (by omega) (by omega)
