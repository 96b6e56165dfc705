/-! ===== the law: its loop ===== -/
theorem zX8.gr {K K1 : zK} {μ μ1 : zF} {x r : Nat} {S : zMs} (h : zX8 K μ x S) (g : zGr K K1 μ μ1 r) (hr : x + 89 ≤ r) : zX8 K1 μ1 x S := by
  obtain ⟨s, ⟨h0, h1, h2, h3, h4, h5, h6, h7, h8, h9, h10, h11, h12, h13, h14⟩, ⟨⟨a1, a2, a3, a4, a5⟩, h2'⟩, ho⟩ := h
  have m : ∀ b j, b < r → μ1 b j = μ b j := fun b j hb => g.mu hb
  refine ⟨s, ⟨g.o (by omega) h0, g.r (by omega) h1, g.r (by omega) h2, g.r (by omega) h3, g.r (by omega) h4, g.r (by omega) h5, g.r (by omega) h6, g.r (by omega) h7, g.txt (by omega) h8, g.lay (by omega) h9, g.pag (by omega) h10, g.txt (by omega) h11, g.lay (by omega) h12, g.buf (by omega) h13, ?_⟩, ⟨⟨a1.gr g (by omega), ⟨by rw [m _ _ (by omega)]; exact a2.1, fun i hi => by rw [m _ _ (by omega)]; exact a2.2 i hi⟩, ⟨by rw [m _ _ (by omega)]; exact a3.1, a3.2.1, fun i hi => ?_⟩, by rw [m _ _ (by omega)]; exact a4, by rw [m _ _ (by omega)]; exact a5⟩, ?_⟩, ho⟩
  · obtain ⟨b0, b1, b2, b3, b4⟩ := h14
    refine ⟨g.o (by omega) b0, g.r (by omega) b1, g.i (by omega) b2, fun i hi => ⟨g.r (by omega) (b3 i hi).1, g.txt (by have := (b3 i hi).2.2.2; omega) (b3 i hi).2.1, (b3 i hi).2.2⟩, b4⟩
  · exact (a3.2.2 i hi).gr g (by have := (h14.2.2.2.1 i (by have := a3.2.1; omega)).2.2.2; omega)
  · rcases h2' with q | ⟨q1, q2, q3⟩
    · exact Or.inl (by rw [m _ _ (by omega)]; exact q)
    · refine Or.inr ⟨by rw [m _ _ (by omega)]; exact q1, ⟨by rw [m _ _ (by omega)]; exact q2.1, fun k hk => by rw [m _ _ (by omega)]; exact q2.2.1 k hk, fun k hk => by rw [m _ _ (by omega)]; exact q2.2.2.1 k hk, fun k hk => by rw [m _ _ (by omega)]; exact q2.2.2.2 k hk⟩, ⟨by rw [m _ _ (by omega)]; exact q3.1, fun k hk => by rw [m _ _ (by omega)]; exact q3.2.1 k hk, fun k hk => by rw [m _ _ (by omega)]; exact q3.2.2 k hk⟩⟩
theorem zRef.gr {K K1 : zK} {μ μ1 : zF} {m r : Nat} (h : zRef K m) (g : zGr K K1 μ μ1 r) (hr : m + 9 ≤ r) : zRef K1 m := by
  obtain ⟨a0, a1, a2, a3, a4, a5, a6, a7, a8, i1, i2, i3, i4, i5, i6, i7, i8⟩ := h
  exact ⟨g.o (by omega) a0, g.r (by omega) a1, g.r (by omega) a2, g.r (by omega) a3, g.r (by omega) a4, g.r (by omega) a5, g.r (by omega) a6, g.r (by omega) a7, g.r (by omega) a8, g.i (by omega) i1, g.i (by omega) i2, g.i (by omega) i3, g.i (by omega) i4, g.i (by omega) i5, g.i (by omega) i6, g.i (by omega) i7, g.i (by omega) i8⟩
theorem zM9.gr {K K1 : zK} {μ μ1 : zF} {m r : Nat} {S : zMs} (h : zM9 μ m S) (g : zGr K K1 μ μ1 r) (hr : m + 9 ≤ r) : zM9 μ1 m S := h.fr (fun j => g.mu (by omega)) (g.mu (by omega)) (g.mu (by omega)) (fun j => g.mu (by omega)) ((g.mu (by omega)).trans h.2.2.2.2.2)
theorem zand63 (v : Int32) : ∃ j : Nat, j ≤ 63 ∧ v &&& nI 63 = nI j := by
  refine ⟨(v.toBitVec &&& 63#32).toNat, ?_, ?_⟩
  · rw [BitVec.toNat_and]
    exact Nat.and_le_right
  · apply Int32.toBitVec_inj.mp
    rw [Int32.toBitVec_and]
    show v.toBitVec &&& 63#32 = BitVec.ofNat 32 _
    rw [BitVec.ofNat_toNat, BitVec.setWidth_eq]
section ZLOOP
variable {x : zX} {MC MS b L X : Nat} {f : Nat → Int32}
theorem zCases (hC : hL_law x MC MS) (hs : zScr x b L f) {cs sl i j : Nat} {K : zK} {μ : zF} {S : zMs} (hj : j ≤ 63) (hi : i + 4 ≤ L) (hI : zLi K μ X S) (hcm : cs + 3 ≤ MC) (hsm : sl + 18 ≤ MS) (kk : zCn x b X i cs sl) : zV x cs sl 39 [some (.ref b), some (.ref X), some (.ref (X + 89)), some (.ref (X + 98)), some (.int (nI i)), none, none] [.int (nI j)] K μ := by
  by_cases c : j ≤ 35
  · rcases (show j = 0 ∨ j = 1 ∨ j = 2 ∨ j = 3 ∨ j = 4 ∨ j = 5 ∨ j = 6 ∨ j = 7 ∨ j = 8 ∨ j = 9 ∨ j = 10 ∨ j = 11 ∨ j = 12 ∨ j = 13 ∨ j = 14 ∨ j = 15 ∨ j = 16 ∨ j = 17 ∨ j = 18 ∨ j = 19 ∨ j = 20 ∨ j = 21 ∨ j = 22 ∨ j = 23 ∨ j = 24 ∨ j = 25 ∨ j = 26 ∨ j = 27 ∨ j = 28 ∨ j = 29 ∨ j = 30 ∨ j = 31 ∨ j = 32 ∨ j = 33 ∨ j = 34 ∨ j = 35 by omega) with rfl | rfl | rfl | rfl | rfl | rfl | rfl | rfl | rfl | rfl | rfl | rfl | rfl | rfl | rfl | rfl | rfl | rfl | rfl | rfl | rfl | rfl | rfl | rfl | rfl | rfl | rfl | rfl | rfl | rfl | rfl | rfl | rfl | rfl | rfl | rfl
    · exact zv_sw hC (hi := 35) dL_law_39 (by decide) (by decide) rfl (by decide) (vC_insert hC hs hi hI hcm hsm kk)
    · exact zv_sw hC (hi := 35) dL_law_39 (by decide) (by decide) rfl (by decide) (vC_remove hC hs hi hI hcm hsm kk)
    · exact zv_sw hC (hi := 35) dL_law_39 (by decide) (by decide) rfl (by decide) (vC_setMark hC hs hi hI hcm hsm kk)
    · exact zv_sw hC (hi := 35) dL_law_39 (by decide) (by decide) rfl (by decide) (vC_words hC hs hi hI hcm hsm kk)
    · exact zv_sw hC (hi := 35) dL_law_39 (by decide) (by decide) rfl (by decide) (vC_wordWidth hC hs hi hI hcm hsm kk)
    · exact zv_sw hC (hi := 35) dL_law_39 (by decide) (by decide) rfl (by decide) (vC_mark hC hs hi hI hcm hsm kk)
    · exact zv_sw hC (hi := 35) dL_law_39 (by decide) (by decide) rfl (by decide) (vC_setColumn hC hs hi hI hcm hsm kk)
    · exact zv_sw hC (hi := 35) dL_law_39 (by decide) (by decide) rfl (by decide) (vC_setSpace hC hs hi hI hcm hsm kk)
    · exact zv_sw hC (hi := 35) dL_law_39 (by decide) (by decide) rfl (by decide) (vC_setPenalties hC hs hi hI hcm hsm kk)
    · exact zv_sw hC (hi := 35) dL_law_39 (by decide) (by decide) rfl (by decide) (vC_setPage hC hs hi hI hcm hsm kk)
    · exact zv_sw hC (hi := 35) dL_law_39 (by decide) (by decide) rfl (by decide) (vC_setOptimal hC hs hi hI hcm hsm kk)
    · exact zv_sw hC (hi := 35) dL_law_39 (by decide) (by decide) rfl (by decide) (vC_lines hC hs hi hI hcm hsm kk)
    · exact zv_sw hC (hi := 35) dL_law_39 (by decide) (by decide) rfl (by decide) (vC_lineOf hC hs hi hI hcm hsm kk)
    · exact zv_sw hC (hi := 35) dL_law_39 (by decide) (by decide) rfl (by decide) (vC_firstWord hC hs hi hI hcm hsm kk)
    · exact zv_sw hC (hi := 35) dL_law_39 (by decide) (by decide) rfl (by decide) (vC_lineWidth hC hs hi hI hcm hsm kk)
    · exact zv_sw hC (hi := 35) dL_law_39 (by decide) (by decide) rfl (by decide) (vC_stairAt hC hs hi hI hcm hsm kk)
    · exact zv_sw hC (hi := 35) dL_law_39 (by decide) (by decide) rfl (by decide) (vC_reason hC hs hi hI hcm hsm kk)
    · exact zv_sw hC (hi := 35) dL_law_39 (by decide) (by decide) rfl (by decide) (vC_paragraphs hC hs hi hI hcm hsm kk)
    · exact zv_sw hC (hi := 35) dL_law_39 (by decide) (by decide) rfl (by decide) (vC_stairs hC hs hi hI hcm hsm kk)
    · exact zv_sw hC (hi := 35) dL_law_39 (by decide) (by decide) rfl (by decide) (vC_cost hC hs hi hI hcm hsm kk)
    · exact zv_sw hC (hi := 35) dL_law_39 (by decide) (by decide) rfl (by decide) (vC_pages hC hs hi hI hcm hsm kk)
    · exact zv_sw hC (hi := 35) dL_law_39 (by decide) (by decide) rfl (by decide) (vC_pageOf hC hs hi hI hcm hsm kk)
    · exact zv_sw hC (hi := 35) dL_law_39 (by decide) (by decide) rfl (by decide) (vC_linesOn hC hs hi hI hcm hsm kk)
    · exact zv_sw hC (hi := 35) dL_law_39 (by decide) (by decide) rfl (by decide) (vC_widows hC hs hi hI hcm hsm kk)
    · exact zv_sw hC (hi := 35) dL_law_39 (by decide) (by decide) rfl (by decide) (vC_orphans hC hs hi hI hcm hsm kk)
    · exact zv_sw hC (hi := 35) dL_law_39 (by decide) (by decide) rfl (by decide) (vC_costFor hC hs hi hI hcm hsm kk)
    · exact zv_sw hC (hi := 35) dL_law_39 (by decide) (by decide) rfl (by decide) (vC_bestColumn hC hs hi hI hcm hsm kk)
    · exact zv_sw hC (hi := 35) dL_law_39 (by decide) (by decide) rfl (by decide) (vC_saving hC hs hi hI hcm hsm kk)
    · exact zv_sw hC (hi := 35) dL_law_39 (by decide) (by decide) rfl (by decide) (vC_costIfMarked hC hs hi hI hcm hsm kk)
    · exact zv_sw hC (hi := 35) dL_law_39 (by decide) (by decide) rfl (by decide) (vC_append hC hs hi hI hcm hsm kk)
    · exact zv_sw hC (hi := 35) dL_law_39 (by decide) (by decide) rfl (by decide) (vC_clearText hC hs hi hI hcm hsm kk)
    · exact zv_sw hC (hi := 35) dL_law_39 (by decide) (by decide) rfl (by decide) (vC_firstError hC hs hi hI hcm hsm kk)
    · exact zv_sw hC (hi := 35) dL_law_39 (by decide) (by decide) rfl (by decide) (vC_load hC hs hi hI hcm hsm kk)
    · exact zv_sw hC (hi := 35) dL_law_39 (by decide) (by decide) rfl (by decide) (vC_undo hC hs hi hI hcm hsm kk)
    · exact zv_sw hC (hi := 35) dL_law_39 (by decide) (by decide) rfl (by decide) (vC_savedStates hC hs hi hI hcm hsm kk)
    · exact zv_sw hC (hi := 35) dL_law_39 (by decide) (by decide) rfl (by decide) (vC_digest hC hs hi hI hcm hsm kk)
  · exact zv_swd hC (hi := 35) dL_law_39 (by omega) (by omega) (tgt := 1715) (by decide) (kk.go (by omega) (by omega) hI)
theorem zLoop (hC : hL_law x MC MS) (hs : zScr x b L f) (hend : ∀ (cs sl : Nat) (ls : List (Option Value)) (K : zK) (μ : zF), cs ≤ MC → sl ≤ MS → zV x cs sl 1722 ls [.int (nI 1)] K μ) : ∀ (n i cs sl : Nat) (K : zK) (μ : zF) (S : zMs), L < i + 4 * n + 4 → i ≤ L → zLi K μ X S → cs + 3 * n ≤ MC → sl + 18 * n ≤ MS → zV x cs sl 23 [some (.ref b), some (.ref X), some (.ref (X + 89)), some (.ref (X + 98)), some (.int (nI i)), none, none] [] K μ := by
  intro n
  induction n with
  | zero =>
    intro i cs sl K μ S hn hiL hI hc hsl
    have hL := hs.2.2.2
    refine eL_law_23 hC ?_
    refine eL_law_25 hC ?_
    refine eL_law_26 hC hs ?_
    refine eL_law_27 hC ?_
    refine eL_law_28 hC ?_
    refine eL_law_29 hC (fun _ => ?_) (fun c => absurd ?_ c)
    · refine eL_law_1721 hC ?_
      exact hend _ _ _ _ _ (by omega) (by omega)
    · rw [Int32.lt_iff_toInt_lt, pk_sub_toInt (by omega) (by omega), nI_toInt (by omega)]
      omega
  | succ n ih =>
    intro i cs sl K μ S hn hiL hI hc hsl
    have hL := hs.2.2.2
    refine eL_law_23 hC ?_
    refine eL_law_25 hC ?_
    refine eL_law_26 hC hs ?_
    refine eL_law_27 hC ?_
    refine eL_law_28 hC ?_
    refine eL_law_29 hC (fun _ => ?_) (fun c => ?_)
    · refine eL_law_1721 hC ?_
      exact hend _ _ _ _ _ (by omega) (by omega)
    · rw [Int32.lt_iff_toInt_lt, pk_sub_toInt (by omega) (by omega), nI_toInt (by omega)] at c
      have hi : i + 4 ≤ L := by omega
      refine eL_law_32 hC ?_
      refine eL_law_33 hC ?_
      refine eL_law_35 hC hs (j := i) rfl (by omega) ?_
      refine eL_law_36 hC ?_
      refine eL_law_38 hC ?_
      obtain ⟨j, hj, e⟩ := zand63 (f i)
      rw [e]
      refine zCases hC hs hj hi hI (by omega) (by omega) (fun K1 μ1 S1 h1 => ?_)
      refine eL_law_1715 hC ?_
      rw [nI_add]
      refine eL_law_1718 hC ?_
      exact ih (i + 4) (cs + 3) (sl + 18) K1 μ1 S1 (by omega) hi h1 (by omega) (by omega)
end ZLOOP
