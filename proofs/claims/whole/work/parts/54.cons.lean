/-! ===== constructors ===== -/
/-- below r nothing differs -/
def zGr (K K' : zK) (μ μ' : zF) (r : Nat) : Prop := (∀ a, a < r → a ∈ K.1 → a ∈ K'.1) ∧ ∀ a, a < r → K'.2.1 a = K.2.1 a ∧ K'.2.2.1 a = K.2.2.1 a ∧ K'.2.2.2 a = K.2.2.2 a ∧ ∀ k, μ' a k = μ a k
set_option maxHeartbeats 4000000 in
theorem vX6_init {l : Launch} {g : zG} (hl : l.stackTraces = false) {K : zK} {μ : zF} {r n : Nat} (h : zO K r 6) (hn : n ≤ 10000) : JX6_init l g 1 n [.ref r, .int (nI n)] K μ (r + 1) (fun K' μ' N' => N' = r + 2 ∧ zGr K K' μ μ' r ∧ zRow K' r n ∧ (∀ k, μ' r k = μ r k) ∧ ∀ k, μ' (r + 1) k = 0) := by
  refine mX6_init hl (fun x hC hQ => ?_)
  have h' : zO (zKn K (r + 1) 10 n) r 6 := by
    refine ⟨List.mem_append_left _ h.1, ?_⟩
    show (if r = r + 1 then _ else K.2.1 r).1 = 6
    rw [if_neg (by omega)]; exact h.2
  refine jX6_init_0 hC ?_
  refine jX6_init_1 hC (Nat.le_of_ble_eq_true rfl) ?_
  refine jX6_init_4 hC ?_
  refine jX6_init_5 hC ?_
  refine jX6_init_6 hC ?_
  refine jX6_init_7 hC (Nat.le_of_ble_eq_true rfl) (by omega) (by omega) ?_
  rw [show (if nI n < nI 0 then nI 0 else nI n) = nI n from if_neg (nI_nlt (by omega) (by omega))]
  refine jX6_init_10 hC (nI_pos (by omega)) (nI_clamp (by omega)) (by omega) (by omega) (by omega) ?_
  refine jX6_init_12 hC hQ.2.1 (by assumption) ?_
  refine jX6_init_15 hC hQ (by omega) (by omega) ?_
  refine ⟨rfl, ⟨fun a ha hm => List.mem_append_left _ hm, fun a ha => ⟨?_, ?_, ?_, fun k => ?_⟩⟩, ⟨h', ?_, ?_, by omega⟩, fun k => ?_, fun k => ?_⟩
  · show (if a = r + 1 then _ else K.2.1 a) = _
    rw [if_neg (by omega)]
  · simp only [zKr, zKn]
    rw [if_neg (by omega), if_neg (by omega)]
  · show (if a = r + 1 then _ else K.2.2.2 a) = _
    rw [if_neg (by omega)]
  · show (if a = r + 1 then _ else μ a k) = _
    rw [if_neg (by omega)]
  · exact zKr_self _ _ _ _
  · exact ⟨List.mem_append_right _ (List.mem_singleton.mpr rfl), by show (if r + 1 = r + 1 then _ else _) = _; rw [if_pos rfl]⟩
  · show (if r = r + 1 then _ else μ r k) = _
    rw [if_neg (by omega)]
  · show (if r + 1 = r + 1 then _ else μ (r + 1) k) = _
    rw [if_pos rfl]
