/-! ===== constructors: rows of references ===== -/
section ZVQ
variable {x : zX} {Ts : List Cond} {own : String} {cc : ByteArray} {nL F Lc MC MS cells slots pc N : Nat} {ls : List (Option Value)} {st : List Value} {K : zK} {μ : zF}
theorem zn_aast (hC : zH x Ts own cc nL F Lc MC MS) {a n b : Nat} {i : Int32} (d : decode cc pc = .ok (.aastore, 1)) (hI : zI K a 14 n) (hi : vp_in i n) (hb : zO K b 7) (kk : zVn x cells slots (pc + 1) ls st (zKr K a i.toNatClampNeg b) μ N) : zVn x cells slots pc ls (.ref b :: .int i :: .ref a :: st) K μ N := by
  intro H locs la hR hN hS hl
  obtain ⟨q0, hq0⟩ := zplace (g := xg x) (μ := μ) hI.1
  obtain ⟨q1, hq1⟩ := zplace (g := xg x) (μ := μ) hb.1
  rw [zobj hb (by decide)] at hq1
  have hq := hq0
  rw [zarr hI] at hq
  have hlt : i.toNatClampNeg < n := Nat.not_le.mp fun q => hi (Or.inr q)
  have h0 : ¬ i < 0 := fun q => hi (Or.inl q)
  obtain ⟨r', hr', cellV, g1, g2, g3, -⟩ := hR.1 q1 _ hq1
  have hcls := (hC.kk.1 7 _ rfl).2
  obtain ⟨kA, comp, k1, k2, k3, -⟩ := (hC.kk.2 4 _ rfl).2
  have hcomp : comp = (xg x).1.1 7 := Option.some.inj (k3.symm.trans hcls.1)
  subst hcomp
  obtain ⟨kC, hkC, -⟩ := hcls.2
  refine W.aast hC.1 hC.2.1 (hR.1 q0 _ hq) (fun q h => by cases h) (fun h => by cases h) k1 k2 rfl hkC ⟨h0, by show _ < (arrV _ _ _).slots.size; rw [arrV_size]; exact hlt⟩ g1 (fun q h => by rw [g3] at h; cases h) (by rw [g2]; exact hkC) (by rw [g2]; exact va_assign hcls) rfl rfl d fun H1 e z oq => ?_
  have hP1 : va_P (xg x).1 vwCl ((zW (xg x) K μ).set q0 (a, .inl ((xg x).2.1 4, n, .inr (.inr (.inr (.inr (va_up (K.2.2.1 a) i.toNatClampNeg (some b)))))))) H1 := hR.1.set hR.2 hq (by
    show H1[a]? = some (vp_cell _ _)
    rw [e, vp_cell_q, vp_cell_q, arrV_store]
    congr 2
    funext q
    by_cases hq : q = i.toNatClampNeg
    · subst hq
      simp [updV, va_up, va_rf]
    · simp [updV, va_up, hq]) oq
  have hD1 := hR.2.set (e := .inl ((xg x).2.1 4, n, .inr (.inr (.inr (.inr (va_up (K.2.2.1 a) i.toNatClampNeg (some b))))))) hq
  have he := zsetK (K' := zKr K a i.toNatClampNeg b) hR.2 hI.1 hq0 rfl (fun c hc => by simp [zC, zKr, hc]) (.inl ((xg x).2.1 4, n, .inr (.inr (.inr (.inr (va_up (K.2.2.1 a) i.toNatClampNeg (some b))))))) (by
    have h2 : zI (zKr K a i.toNatClampNeg b) a 14 n := hI
    rw [zarr h2]; simp [zKr, zE])
  rw [he] at hP1 hD1
  exact kk H1 _ la ⟨hP1, hD1⟩ (z.trans hN) (hS.put z oq (hR.2.2 q0 _ hq)) hl
theorem zn_anew (hC : zH x Ts own cc nL F Lc MC MS) {ix m : Nat} {n : Int32} (hcl : Cond.classLink own ix RX7 ∈ Ts) (hov : (Cond.arrayOver (.object RX7)).before (xa x) (xs x) = true) (hn : ¬ n < 0) (hm : n.toNatClampNeg = m) (hb : m ≤ 10000) (hcm : cells + 1 ≤ MC) (hsm : slots + m ≤ MS) (d : decode cc pc = .ok (.anewarray ix, 3))
    (kk : zVn x (cells + 1) (slots + m) (pc + 3) ls (.ref N :: st) (zKn K N 14 m) (zmn μ N) (N + 1)) : zVn x cells slots pc ls (.int n :: st) K μ N := by
  intro H locs la hR hN hS hl
  subst hm
  have hni : N ∉ K.1 := hR.notin (by omega)
  have hb2 : (xg x).2.2 ≤ H.size := Nat.le_trans hC.zs.2.1 hS.1
  subst hN
  refine W.anew hC.1 hC.2.1 hC.ow (hC.hts _ hcl) hov rfl d rfl hn (by omega) (Nat.le_trans hcm hC.2.2.2.2.2.2.2.2.1) (Nat.le_trans hsm hC.2.2.2.2.2.2.2.2.2.1) fun cA kA comp f1 f2 f3 f4 => ?_
  have h1 := (hC.kk.2 4 _ rfl).2
  obtain ⟨kA', comp', k1, k2, k3, k4⟩ := h1
  cases Option.some.inj (f1.symm.trans k4)
  refine kk _ locs la ⟨?_, ?_⟩ (by rw [Array.size_push]) ⟨Nat.le_trans hS.1 (by rw [Array.size_push]; omega), fun q h1 h2 => by rw [Array.getElem?_push, if_neg (Nat.ne_of_lt (Nat.lt_of_lt_of_le h1 hS.1))]; exact hS.2.1 q h1 h2, hS.2.2⟩ hl
  · rw [zW_new hni]
    refine (hR.1.kept (fun k q hq => by rw [Array.getElem?_push, if_neg (Nat.ne_of_lt (hR.1 k q hq).lt)])).app (fun k q hq => ?_)
    have hz : k < 1 := (List.getElem?_eq_some_iff.mp hq).1
    rw [show k = 0 by omega] at hq
    cases hq
    show (H.push _)[H.size]? = some (vp_cell _ _)
    rw [Array.getElem?_push_size, vp_cell_q, arrV_new]
    rfl
  · rw [zW_new hni]
    exact hR.2.push hR.1 rfl (by show (xg x).2.2 ≤ H.size; omega)
end ZVQ
