/-! ===== the reference: what it holds ===== -/
section ZVI
variable {x : zX} {Ts : List Cond} {own : String} {cc : ByteArray} {nL F Lc MC MS cells slots pc N : Nat} {ls : List (Option Value)} {st : List Value} {K : zK} {μ : zF}
theorem zn_iast (hC : zH x Ts own cc nL F Lc MC MS) {a n : Nat} {i v : Int32} (d : decode cc pc = .ok (.iastore, 1)) (hI : zI K a 10 n) (hi : vp_in i n) (kk : zVn x cells slots (pc + 1) ls st K (zup μ a i.toNatClampNeg v) N) : zVn x cells slots pc ls (.int v :: .int i :: .ref a :: st) K μ N := by
  intro H locs la hR hN hS hl
  obtain ⟨q0, hq0⟩ := zplace (g := xg x) (μ := μ) hI.1
  have hq := hq0
  rw [zarr hI] at hq
  refine W.iast hC.1 hC.2.1 (hR.1 q0 _ hq) ((hC.kk.2 0 _ rfl).1 n (fun j => .int (μ a j))) (fun q => by cases q) (by show ¬ (i < 0 ∨ (arrV _ _ _).slots.size ≤ _); rw [arrV_size]; exact hi) rfl rfl d fun H1 e z oq => ?_
  have hP1 : va_P (xg x).1 vwCl ((zW (xg x) K μ).set q0 (a, .inl ((xg x).2.1 0, n, .inl (upd (μ a) i.toNatClampNeg v)))) H1 := hR.1.set hR.2 hq (by
    show H1[a]? = some (vp_cell _ _)
    rw [e, vp_cell_i, vp_cell_i, arrV_store]
    congr 2
    funext q
    by_cases hq : q = i.toNatClampNeg
    · subst hq
      simp [updV, upd]
    · simp [updV, upd, hq]) oq
  have hD1 := hR.2.set (e := .inl ((xg x).2.1 0, n, .inl (upd (μ a) i.toNatClampNeg v))) hq
  have he := zset (i := i.toNatClampNeg) (v := v) hR.2 hI.1 hq0 (.inl ((xg x).2.1 0, n, .inl (upd (μ a) i.toNatClampNeg v))) (by rw [zarr hI, zup_at]; rfl)
  rw [he] at hP1 hD1
  exact kk H1 _ la ⟨hP1, hD1⟩ (z.trans hN) (hS.put z oq (hR.2.2 q0 _ hq)) hl
theorem zVn_have (P : zK → zF → Prop) (h : P K μ) (k : P K μ → zVn x cells slots pc ls st K μ N) : zVn x cells slots pc ls st K μ N := k h
end ZVI
theorem zO.kn {K : zK} {a c N c' n : Nat} (hn : a ≠ N) (h : zO K a c) : zO (zKn K N c' n) a c := ⟨List.mem_append_left _ h.1, by show (if a = N then _ else K.2.1 a).1 = c; rw [if_neg hn]; exact h.2⟩
theorem zI.kn {K : zK} {a c n N c' n' : Nat} (hn : a ≠ N) (h : zI K a c n) : zI (zKn K N c' n') a c n := ⟨List.mem_append_left _ h.1, by show (if a = N then _ else K.2.1 a) = _; rw [if_neg hn]; exact h.2⟩
theorem zI.kr {K : zK} {a c n a' i b : Nat} (h : zI K a c n) : zI (zKr K a' i b) a c n := h
theorem zr.kn {K : zK} {a k b N c' n' : Nat} (hn : a ≠ N) (h : zr K a k b) : zr (zKn K N c' n') a k b := by
  show (if a = N then _ else K.2.2.1 a) k = some b
  rw [if_neg hn]; exact h
theorem zKn_i (K : zK) (N c n : Nat) : zI (zKn K N c n) N c n := ⟨List.mem_append_right _ (List.mem_singleton.mpr rfl), if_pos rfl⟩
def zRef (K : zK) (m : Nat) : Prop := zO K m 9 ∧ zr K m 0 (m + 1) ∧ zr K m 2 (m + 2) ∧ zr K m 5 (m + 3) ∧ zr K m 6 (m + 4) ∧ zr K m 7 (m + 5) ∧ zr K m 8 (m + 6) ∧ zr K m 9 (m + 7) ∧ zr K m 10 (m + 8) ∧ zI K (m + 1) 10 616 ∧ zI K (m + 2) 12 60 ∧ zI K (m + 3) 11 40 ∧ zI K (m + 4) 10 41 ∧ zI K (m + 5) 10 4921 ∧ zI K (m + 6) 10 4921 ∧ zI K (m + 7) 10 4921 ∧ zI K (m + 8) 10 40
theorem zRef.o {K : zK} {m : Nat} (h : zRef K m) : zO K m 9 := h.1
/-- a state's block in the row a from o on -/
def zSb (μ : zF) (a o : Nat) (τ : Nat → Nat) : Prop := (∀ k, k < τ 80 → μ a (o + k) = nI (τ k) ∧ μ a (o + (40 + k)) = nI (τ (40 + k))) ∧ ∀ k, 80 ≤ k → k < 88 → μ a (o + k) = nI (τ k)
theorem zSb.of {μ μ' : zF} {a a' o o' : Nat} {τ : Nat → Nat} (h : zSb μ a o τ) (h80 : τ 80 ≤ 40) (he : ∀ j, j < 88 → μ' a' (o' + j) = μ a (o + j)) : zSb μ' a' o' τ := ⟨fun k hk => ⟨(he k (by omega)).trans (h.1 k hk).1, (he (40 + k) (by omega)).trans (h.1 k hk).2⟩, fun k k1 k2 => (he k k2).trans (h.2 k k1 k2)⟩
/-- the reference's numbers -/
def zM9 (μ : zF) (m : Nat) (S : zMs) : Prop := zSb μ (m + 1) 0 S.1 ∧ μ m 1 = nI S.2.1 ∧ (∀ i, i < S.2.1 → zSb μ (m + 1) (88 * (i + 1)) (S.2.2.1 i)) ∧ μ m 3 = nI S.2.2.2.1 ∧ (∀ i, i < S.2.2.2.1 → μ (m + 2) i = nI (S.2.2.2.2 i)) ∧ μ (m + 4) 0 = nI 0
/-- what a call may write without a change of the state -/
theorem zM9.fr {μ μ' : zF} {m : Nat} {S : zMs} (h : zM9 μ m S) (h1 : ∀ j, μ' (m + 1) j = μ (m + 1) j) (h2 : μ' m 1 = μ m 1) (h3 : μ' m 3 = μ m 3) (h4 : ∀ j, μ' (m + 2) j = μ (m + 2) j) (h5 : μ' (m + 4) 0 = nI 0) : zM9 μ' m S := by
  obtain ⟨a1, a2, a3, a4, a5, a6⟩ := h
  exact ⟨⟨fun k hk => ⟨(h1 _).trans (a1.1 k hk).1, (h1 _).trans (a1.1 k hk).2⟩, fun k k1 k2 => (h1 _).trans (a1.2 k k1 k2)⟩, h2.trans a2, fun i hi => ⟨fun k hk => ⟨(h1 _).trans ((a3 i hi).1 k hk).1, (h1 _).trans ((a3 i hi).1 k hk).2⟩, fun k k1 k2 => (h1 _).trans ((a3 i hi).2 k k1 k2)⟩, h3.trans a4, fun i hi => (h4 i).trans (a5 i hi), h5⟩
theorem zM9.ag {μ μ' : zF} {m lo hi : Nat} {S : zMs} (h : zM9 μ m S) (ha : zAg μ μ' lo hi) (hd : m + 9 ≤ lo ∨ hi ≤ m) : zM9 μ' m S := h.fr (fun j => ha _ _ (by omega)) (ha _ _ (by omega)) (ha _ _ (by omega)) (fun j => ha _ _ (by omega)) ((ha _ _ (by omega)).trans h.2.2.2.2.2)
/-- the numbers of what is thrown -/
def zc1 (_ : String) : Nat := 1
def zcIA (E : String) : Nat := if E = zxI then 1 else 2
def zcAS (E : String) : Nat := if E = zxA then 1 else 2
def zcIAS (E : String) : Nat := if E = zxI then 1 else if E = zxA then 2 else 3
/-- the reference's answer: as the class's -/
def zN9 (c : String → Nat) (o : zOu) (K : zK) (μ : zF) (m : Nat) (S : zMs) : Option Value → zK → zF → Prop := fun v K' μ' => K' = K ∧ zAg μ μ' m (m + 9) ∧ ((∃ r S', o = .inl (r, S') ∧ v = some (.int r) ∧ μ' m 4 = nI 0 ∧ zM9 μ' m S') ∨ (∃ E r, o = .inr E ∧ v = some (.int r) ∧ μ' m 4 = nI (c E) ∧ zM9 μ' m S))
theorem jX9_init_80 {x : zX} {MC MS cs sl N : Nat} {st : List Value} {K : zK} {μ : zF} {l0 : Option Value} {a n : Nat} {i v : Int32} (hC : hX9_init x MC MS) (hI : zI K a 10 n) (hi : vp_in i n) (k : zVn x cs sl 81 [l0] st K (zup μ a i.toNatClampNeg v) N) : zVn x cs sl 80 [l0] (.int v :: .int i :: .ref a :: st) K μ N := zn_iast hC dX9_init_80 hI hi k
theorem jX9_init_88 {x : zX} {MC MS cs sl N : Nat} {st : List Value} {K : zK} {μ : zF} {l0 : Option Value} {a n : Nat} {i v : Int32} (hC : hX9_init x MC MS) (hI : zI K a 10 n) (hi : vp_in i n) (k : zVn x cs sl 89 [l0] st K (zup μ a i.toNatClampNeg v) N) : zVn x cs sl 88 [l0] (.int v :: .int i :: .ref a :: st) K μ N := zn_iast hC dX9_init_88 hI hi k
theorem jX9_init_96 {x : zX} {MC MS cs sl N : Nat} {st : List Value} {K : zK} {μ : zF} {l0 : Option Value} {a n : Nat} {i v : Int32} (hC : hX9_init x MC MS) (hI : zI K a 10 n) (hi : vp_in i n) (k : zVn x cs sl 97 [l0] st K (zup μ a i.toNatClampNeg v) N) : zVn x cs sl 96 [l0] (.int v :: .int i :: .ref a :: st) K μ N := zn_iast hC dX9_init_96 hI hi k
theorem jX9_init_106 {x : zX} {MC MS cs sl N : Nat} {st : List Value} {K : zK} {μ : zF} {l0 : Option Value} {a n : Nat} {i v : Int32} (hC : hX9_init x MC MS) (hI : zI K a 10 n) (hi : vp_in i n) (k : zVn x cs sl 107 [l0] st K (zup μ a i.toNatClampNeg v) N) : zVn x cs sl 106 [l0] (.int v :: .int i :: .ref a :: st) K μ N := zn_iast hC dX9_init_106 hI hi k
theorem jX9_init_116 {x : zX} {MC MS cs sl N : Nat} {st : List Value} {K : zK} {μ : zF} {l0 : Option Value} {a n : Nat} {i v : Int32} (hC : hX9_init x MC MS) (hI : zI K a 10 n) (hi : vp_in i n) (k : zVn x cs sl 117 [l0] st K (zup μ a i.toNatClampNeg v) N) : zVn x cs sl 116 [l0] (.int v :: .int i :: .ref a :: st) K μ N := zn_iast hC dX9_init_116 hI hi k
theorem jX9_init_125 {x : zX} {MC MS cs sl N : Nat} {st : List Value} {K : zK} {μ : zF} {l0 : Option Value} {a n : Nat} {i v : Int32} (hC : hX9_init x MC MS) (hI : zI K a 10 n) (hi : vp_in i n) (k : zVn x cs sl 126 [l0] st K (zup μ a i.toNatClampNeg v) N) : zVn x cs sl 125 [l0] (.int v :: .int i :: .ref a :: st) K μ N := zn_iast hC dX9_init_125 hI hi k
theorem jX9_init_133 {x : zX} {MC MS cs sl N : Nat} {st : List Value} {K : zK} {μ : zF} {l0 : Option Value} {a n : Nat} {i v : Int32} (hC : hX9_init x MC MS) (hI : zI K a 10 n) (hi : vp_in i n) (k : zVn x cs sl 134 [l0] st K (zup μ a i.toNatClampNeg v) N) : zVn x cs sl 133 [l0] (.int v :: .int i :: .ref a :: st) K μ N := zn_iast hC dX9_init_133 hI hi k
set_option maxHeartbeats 8000000 in
theorem vX9_init {l : Launch} {g : zG} (hl : l.stackTraces = false) {K : zK} {μ : zF} {m : Nat} (h : zO K m 9) (hz : ∀ k, μ m k = 0) : JX9_init l g 8 15560 [.ref m] K μ (m + 1) (fun K' μ' N' => N' = m + 9 ∧ zGr K K' μ μ' m ∧ zRef K' m ∧ zM9 μ' m zS0) := by
  refine mX9_init hl (fun x hC hQ => ?_)
  refine jX9_init_0 hC ?_
  refine jX9_init_1 hC (Nat.le_of_ble_eq_true rfl) ?_
  refine jX9_init_4 hC ?_
  refine jX9_init_5 hC ?_
  refine jX9_init_8 hC (nI_pos (by omega)) (nI_clamp (by omega)) (Nat.le_of_ble_eq_true rfl) (Nat.le_of_ble_eq_true rfl) (Nat.le_of_ble_eq_true rfl) ?_
  refine jX9_init_10 hC hQ.2.1 (zO.kn (by omega) h) ?_
  refine jX9_init_13 hC ?_
  refine jX9_init_14 hC ?_
  refine jX9_init_16 hC (nI_pos (by omega)) (nI_clamp (by omega)) (Nat.le_of_ble_eq_true rfl) (Nat.le_of_ble_eq_true rfl) (Nat.le_of_ble_eq_true rfl) ?_
  refine jX9_init_18 hC hQ.2.1 (zO.kn (by omega) (zO.kr (zO.kn (by omega) h))) ?_
  refine jX9_init_21 hC ?_
  refine jX9_init_22 hC ?_
  refine jX9_init_24 hC (nI_pos (by omega)) (nI_clamp (by omega)) (Nat.le_of_ble_eq_true rfl) (Nat.le_of_ble_eq_true rfl) (Nat.le_of_ble_eq_true rfl) ?_
  refine jX9_init_26 hC hQ.2.1 (zO.kn (by omega) (zO.kr (zO.kn (by omega) (zO.kr (zO.kn (by omega) h))))) ?_
  refine jX9_init_29 hC ?_
  refine jX9_init_30 hC ?_
  refine jX9_init_32 hC (nI_pos (by omega)) (nI_clamp (by omega)) (Nat.le_of_ble_eq_true rfl) (Nat.le_of_ble_eq_true rfl) (Nat.le_of_ble_eq_true rfl) ?_
  refine jX9_init_34 hC hQ.2.1 (zO.kn (by omega) (zO.kr (zO.kn (by omega) (zO.kr (zO.kn (by omega) (zO.kr (zO.kn (by omega) h))))))) ?_
  refine jX9_init_37 hC ?_
  refine jX9_init_38 hC ?_
  refine jX9_init_41 hC (nI_pos (by omega)) (nI_clamp (by omega)) (Nat.le_of_ble_eq_true rfl) (Nat.le_of_ble_eq_true rfl) (Nat.le_of_ble_eq_true rfl) ?_
  refine jX9_init_43 hC hQ.2.1 (zO.kn (by omega) (zO.kr (zO.kn (by omega) (zO.kr (zO.kn (by omega) (zO.kr (zO.kn (by omega) (zO.kr (zO.kn (by omega) h))))))))) ?_
  refine jX9_init_46 hC ?_
  refine jX9_init_47 hC ?_
  refine jX9_init_50 hC (nI_pos (by omega)) (nI_clamp (by omega)) (Nat.le_of_ble_eq_true rfl) (Nat.le_of_ble_eq_true rfl) (Nat.le_of_ble_eq_true rfl) ?_
  refine jX9_init_52 hC hQ.2.1 (zO.kn (by omega) (zO.kr (zO.kn (by omega) (zO.kr (zO.kn (by omega) (zO.kr (zO.kn (by omega) (zO.kr (zO.kn (by omega) (zO.kr (zO.kn (by omega) h))))))))))) ?_
  refine jX9_init_55 hC ?_
  refine jX9_init_56 hC ?_
  refine jX9_init_59 hC (nI_pos (by omega)) (nI_clamp (by omega)) (Nat.le_of_ble_eq_true rfl) (Nat.le_of_ble_eq_true rfl) (Nat.le_of_ble_eq_true rfl) ?_
  refine jX9_init_61 hC hQ.2.1 (zO.kn (by omega) (zO.kr (zO.kn (by omega) (zO.kr (zO.kn (by omega) (zO.kr (zO.kn (by omega) (zO.kr (zO.kn (by omega) (zO.kr (zO.kn (by omega) (zO.kr (zO.kn (by omega) h))))))))))))) ?_
  refine jX9_init_64 hC ?_
  refine jX9_init_65 hC ?_
  refine jX9_init_67 hC (nI_pos (by omega)) (nI_clamp (by omega)) (Nat.le_of_ble_eq_true rfl) (Nat.le_of_ble_eq_true rfl) (Nat.le_of_ble_eq_true rfl) ?_
  refine jX9_init_69 hC hQ.2.1 (zO.kn (by omega) (zO.kr (zO.kn (by omega) (zO.kr (zO.kn (by omega) (zO.kr (zO.kn (by omega) (zO.kr (zO.kn (by omega) (zO.kr (zO.kn (by omega) (zO.kr (zO.kn (by omega) (zO.kr (zO.kn (by omega) h))))))))))))))) ?_
  refine zVn_have (P := fun K1 μ1 => zGr K K1 μ μ1 m ∧ zRef K1 m) ⟨(((((((((((((((((zGr.refl K μ m).trans (zGr.new (by omega))).trans (zGr.kr (by omega))).trans (zGr.new (by omega))).trans (zGr.kr (by omega))).trans (zGr.new (by omega))).trans (zGr.kr (by omega))).trans (zGr.new (by omega))).trans (zGr.kr (by omega))).trans (zGr.new (by omega))).trans (zGr.kr (by omega))).trans (zGr.new (by omega))).trans (zGr.kr (by omega))).trans (zGr.new (by omega))).trans (zGr.kr (by omega))).trans (zGr.new (by omega))).trans (zGr.kr (by omega))), (zO.kr (zO.kn (by omega) (zO.kr (zO.kn (by omega) (zO.kr (zO.kn (by omega) (zO.kr (zO.kn (by omega) (zO.kr (zO.kn (by omega) (zO.kr (zO.kn (by omega) (zO.kr (zO.kn (by omega) (zO.kr (zO.kn (by omega) h)))))))))))))))), (zr.kr (zr.kn (by omega) (zr.kr (zr.kn (by omega) (zr.kr (zr.kn (by omega) (zr.kr (zr.kn (by omega) (zr.kr (zr.kn (by omega) (zr.kr (zr.kn (by omega) (zr.kr (zr.kn (by omega) (zKr_self _ _ _ _)) (Or.inr (by omega)))) (Or.inr (by omega)))) (Or.inr (by omega)))) (Or.inr (by omega)))) (Or.inr (by omega)))) (Or.inr (by omega)))) (Or.inr (by omega))), (zr.kr (zr.kn (by omega) (zr.kr (zr.kn (by omega) (zr.kr (zr.kn (by omega) (zr.kr (zr.kn (by omega) (zr.kr (zr.kn (by omega) (zr.kr (zr.kn (by omega) (zKr_self _ _ _ _)) (Or.inr (by omega)))) (Or.inr (by omega)))) (Or.inr (by omega)))) (Or.inr (by omega)))) (Or.inr (by omega)))) (Or.inr (by omega))), (zr.kr (zr.kn (by omega) (zr.kr (zr.kn (by omega) (zr.kr (zr.kn (by omega) (zr.kr (zr.kn (by omega) (zr.kr (zr.kn (by omega) (zKr_self _ _ _ _)) (Or.inr (by omega)))) (Or.inr (by omega)))) (Or.inr (by omega)))) (Or.inr (by omega)))) (Or.inr (by omega))), (zr.kr (zr.kn (by omega) (zr.kr (zr.kn (by omega) (zr.kr (zr.kn (by omega) (zr.kr (zr.kn (by omega) (zKr_self _ _ _ _)) (Or.inr (by omega)))) (Or.inr (by omega)))) (Or.inr (by omega)))) (Or.inr (by omega))), (zr.kr (zr.kn (by omega) (zr.kr (zr.kn (by omega) (zr.kr (zr.kn (by omega) (zKr_self _ _ _ _)) (Or.inr (by omega)))) (Or.inr (by omega)))) (Or.inr (by omega))), (zr.kr (zr.kn (by omega) (zr.kr (zr.kn (by omega) (zKr_self _ _ _ _)) (Or.inr (by omega)))) (Or.inr (by omega))), (zr.kr (zr.kn (by omega) (zKr_self _ _ _ _)) (Or.inr (by omega))), (zKr_self _ _ _ _), (zI.kr (zI.kn (by omega) (zI.kr (zI.kn (by omega) (zI.kr (zI.kn (by omega) (zI.kr (zI.kn (by omega) (zI.kr (zI.kn (by omega) (zI.kr (zI.kn (by omega) (zI.kr (zI.kn (by omega) (zI.kr (zKn_i _ _ _ _)))))))))))))))), (zI.kr (zI.kn (by omega) (zI.kr (zI.kn (by omega) (zI.kr (zI.kn (by omega) (zI.kr (zI.kn (by omega) (zI.kr (zI.kn (by omega) (zI.kr (zI.kn (by omega) (zI.kr (zKn_i _ _ _ _)))))))))))))), (zI.kr (zI.kn (by omega) (zI.kr (zI.kn (by omega) (zI.kr (zI.kn (by omega) (zI.kr (zI.kn (by omega) (zI.kr (zI.kn (by omega) (zI.kr (zKn_i _ _ _ _)))))))))))), (zI.kr (zI.kn (by omega) (zI.kr (zI.kn (by omega) (zI.kr (zI.kn (by omega) (zI.kr (zI.kn (by omega) (zI.kr (zKn_i _ _ _ _)))))))))), (zI.kr (zI.kn (by omega) (zI.kr (zI.kn (by omega) (zI.kr (zI.kn (by omega) (zI.kr (zKn_i _ _ _ _)))))))), (zI.kr (zI.kn (by omega) (zI.kr (zI.kn (by omega) (zI.kr (zKn_i _ _ _ _)))))), (zI.kr (zI.kn (by omega) (zI.kr (zKn_i _ _ _ _)))), (zI.kr (zKn_i _ _ _ _))⟩ (fun hG => ?_)
  obtain ⟨hG, hR⟩ := hG
  have i1 := hR.2.2.2.2.2.2.2.2.2.1
  refine jX9_init_72 hC ?_
  refine jX9_init_73 hC hR.1 hR.2.1 ?_
  refine jX9_init_76 hC ?_
  refine jX9_init_78 hC ?_
  refine jX9_init_80 hC i1 (vp_in_nI (by omega) (by omega)) ?_
  rw [nI_clamp (by omega)]
  refine jX9_init_81 hC ?_
  refine jX9_init_82 hC hR.1 hR.2.1 ?_
  refine jX9_init_85 hC ?_
  refine jX9_init_87 hC ?_
  refine jX9_init_88 hC i1 (vp_in_nI (by omega) (by omega)) ?_
  rw [nI_clamp (by omega)]
  refine jX9_init_89 hC ?_
  refine jX9_init_90 hC hR.1 hR.2.1 ?_
  refine jX9_init_93 hC ?_
  refine jX9_init_95 hC ?_
  refine jX9_init_96 hC i1 (vp_in_nI (by omega) (by omega)) ?_
  rw [nI_clamp (by omega)]
  refine jX9_init_97 hC ?_
  refine jX9_init_98 hC hR.1 hR.2.1 ?_
  refine jX9_init_101 hC ?_
  refine jX9_init_103 hC ?_
  refine jX9_init_106 hC i1 (vp_in_nI (by omega) (by omega)) ?_
  rw [nI_clamp (by omega)]
  refine jX9_init_107 hC ?_
  refine jX9_init_108 hC hR.1 hR.2.1 ?_
  refine jX9_init_111 hC ?_
  refine jX9_init_113 hC ?_
  refine jX9_init_116 hC i1 (vp_in_nI (by omega) (by omega)) ?_
  rw [nI_clamp (by omega)]
  refine jX9_init_117 hC ?_
  refine jX9_init_118 hC hR.1 hR.2.1 ?_
  refine jX9_init_121 hC ?_
  refine jX9_init_123 hC ?_
  refine jX9_init_125 hC i1 (vp_in_nI (by omega) (by omega)) ?_
  rw [nI_clamp (by omega)]
  refine jX9_init_126 hC ?_
  refine jX9_init_127 hC hR.1 hR.2.1 ?_
  refine jX9_init_130 hC ?_
  refine jX9_init_132 hC ?_
  refine jX9_init_133 hC i1 (vp_in_nI (by omega) (by omega)) ?_
  rw [nI_clamp (by omega)]
  refine jX9_init_134 hC hQ (Nat.le_of_ble_eq_true rfl) (Nat.le_of_ble_eq_true rfl) ?_
  refine ⟨rfl, hG.trans (((((((zGr.up (by omega)).trans (zGr.up (by omega))).trans (zGr.up (by omega))).trans (zGr.up (by omega))).trans (zGr.up (by omega))).trans (zGr.up (by omega))).trans (zGr.up (by omega))), hR, ⟨fun k hk => absurd hk (Nat.not_lt_zero k), fun k k1 k2 => ?_⟩, ?_, fun i hi => absurd hi (Nat.not_lt_zero i), ?_, fun i hi => absurd hi (Nat.not_lt_zero i), ?_⟩
  · rcases (show k = 80 ∨ k = 81 ∨ k = 82 ∨ k = 83 ∨ k = 84 ∨ k = 85 ∨ k = 86 ∨ k = 87 by omega) with rfl | rfl | rfl | rfl | rfl | rfl | rfl | rfl <;> simp [zup, zmn, zt0, zS0] <;> rfl
  · have := hz 1
    simp [zup, zmn, zS0, this] <;> rfl
  · have := hz 3
    simp [zup, zmn, zS0, this] <;> rfl
  · simp [zup, zmn] <;> rfl
/-! ===== the reference: small methods ===== -/
set_option maxHeartbeats 4000000 in
theorem vX9_thrown {l : Launch} {g : zG} (hl : l.stackTraces = false) {K : zK} {μ : zF} {m : Nat} (h : zO K m 9) : EX9_thrown l g 0 0 [.ref m] K μ (zPi (μ m 4) K μ) := by
  refine nX9_thrown hl (fun x hC hQ => ?_)
  refine eX9_thrown_0 hC ?_
  refine eX9_thrown_1 hC (by assumption) ?_
  refine eX9_thrown_4 hC hQ (Nat.le_of_ble_eq_true rfl) (Nat.le_of_ble_eq_true rfl) ?_
  exact ⟨rfl, rfl, rfl⟩
set_option maxHeartbeats 4000000 in
theorem vX9_in {l : Launch} {g : zG} (hl : l.stackTraces = false) {K : zK} {μ : zF} {v lo hi : Int32} : EX9_in l g 0 0 [.int v, .int lo, .int hi] K μ (zPi (zBv (¬ v < lo ∧ v ≤ hi)) K μ) := by
  refine nX9_in hl (fun x hC hQ => ?_)
  by_cases c1 : v < lo
  · refine eX9_in_0 hC ?_
    refine eX9_in_1 hC ?_
    refine eX9_in_2 hC (fun _ => ?_) (fun zz => absurd c1 zz)
    refine eX9_in_14 hC ?_
    refine eX9_in_15 hC hQ (Nat.le_of_ble_eq_true rfl) (Nat.le_of_ble_eq_true rfl) (by first | (left; rfl) | (right; rfl) | assumption) ?_
    exact ⟨by rw [zBv_f (p := ¬ v < lo ∧ v ≤ hi) (fun q => q.1 c1)], rfl, rfl⟩
  · by_cases c2 : v ≤ hi
    · refine eX9_in_0 hC ?_
      refine eX9_in_1 hC ?_
      refine eX9_in_2 hC (fun zz => absurd zz c1) (fun _ => ?_)
      refine eX9_in_5 hC ?_
      refine eX9_in_6 hC ?_
      refine eX9_in_7 hC (fun zz => absurd zz (Int32.not_lt.mpr c2)) (fun _ => ?_)
      refine eX9_in_10 hC ?_
      refine eX9_in_11 hC ?_
      refine eX9_in_15 hC hQ (Nat.le_of_ble_eq_true rfl) (Nat.le_of_ble_eq_true rfl) (by first | (left; rfl) | (right; rfl) | assumption) ?_
      exact ⟨by rw [zBv_t (p := ¬ v < lo ∧ v ≤ hi) ⟨c1, c2⟩], rfl, rfl⟩
    · refine eX9_in_0 hC ?_
      refine eX9_in_1 hC ?_
      refine eX9_in_2 hC (fun zz => absurd zz c1) (fun _ => ?_)
      refine eX9_in_5 hC ?_
      refine eX9_in_6 hC ?_
      refine eX9_in_7 hC (fun _ => ?_) (fun zz => absurd (Int32.not_le.mp c2) zz)
      refine eX9_in_14 hC ?_
      refine eX9_in_15 hC hQ (Nat.le_of_ble_eq_true rfl) (Nat.le_of_ble_eq_true rfl) (by first | (left; rfl) | (right; rfl) | assumption) ?_
      exact ⟨by rw [zBv_f (p := ¬ v < lo ∧ v ≤ hi) (fun q => c2 q.2)], rfl, rfl⟩
def zgo3 (a b c : Nat) : Nat := if a = 0 then 1 else if b = 0 then 2 else if c = 0 then 3 else 0
set_option maxHeartbeats 4000000 in
theorem vX9_goes {l : Launch} {g : zG} (hl : l.stackTraces = false) {K : zK} {μ : zF} {m a b c : Nat} (h : zO K m 9) (ha : a ≤ 1) (hb : b ≤ 1) (hc : c ≤ 1) : EX9_goes l g 0 0 [.ref m, .int (nI a), .int (nI b), .int (nI c)] K μ (zPv (nI (if zgo3 a b c = 0 then 1 else 0)) K (fun μ' => μ' = zup μ m 4 (nI (zgo3 a b c)))) := by
  refine nX9_goes hl (fun x hC hQ => ?_)
  by_cases ca : a = 0
  · subst ca
    refine eX9_goes_0 hC ?_
    refine eX9_goes_1 hC ?_
    refine eX9_goes_2 hC (fun zz => absurd zn00 zz) (fun _ => ?_)
    refine eX9_goes_5 hC ?_
    refine eX9_goes_6 hC ?_
    refine eX9_goes_26 hC (by assumption) ?_
    refine eX9_goes_29 hC ?_
    refine eX9_goes_30 hC (by assumption) ?_
    rw [zup_self]
    refine eX9_goes_33 hC (fun _ => ?_) (fun zz => absurd zz zn10)
    refine eX9_goes_40 hC ?_
    refine eX9_goes_41 hC hQ (Nat.le_of_ble_eq_true rfl) (Nat.le_of_ble_eq_true rfl) (by first | (left; rfl) | (right; rfl) | assumption) ?_
    exact ⟨rfl, rfl, rfl⟩
  · obtain rfl : a = 1 := by omega
    by_cases cb : b = 0
    · subst cb
      refine eX9_goes_0 hC ?_
      refine eX9_goes_1 hC ?_
      refine eX9_goes_2 hC (fun _ => ?_) (fun zz => absurd zz zn10)
      refine eX9_goes_9 hC ?_
      refine eX9_goes_10 hC (fun zz => absurd zn00 zz) (fun _ => ?_)
      refine eX9_goes_13 hC ?_
      refine eX9_goes_14 hC ?_
      refine eX9_goes_26 hC (by assumption) ?_
      refine eX9_goes_29 hC ?_
      refine eX9_goes_30 hC (by assumption) ?_
      rw [zup_self]
      refine eX9_goes_33 hC (fun _ => ?_) (fun zz => absurd zz (nI_ne0 (by omega) (by omega)))
      refine eX9_goes_40 hC ?_
      refine eX9_goes_41 hC hQ (Nat.le_of_ble_eq_true rfl) (Nat.le_of_ble_eq_true rfl) (by first | (left; rfl) | (right; rfl) | assumption) ?_
      exact ⟨rfl, rfl, rfl⟩
    · obtain rfl : b = 1 := by omega
      by_cases cc : c = 0
      · subst cc
        refine eX9_goes_0 hC ?_
        refine eX9_goes_1 hC ?_
        refine eX9_goes_2 hC (fun _ => ?_) (fun zz => absurd zz zn10)
        refine eX9_goes_9 hC ?_
        refine eX9_goes_10 hC (fun _ => ?_) (fun zz => absurd zz zn10)
        refine eX9_goes_17 hC ?_
        refine eX9_goes_18 hC (fun zz => absurd zn00 zz) (fun _ => ?_)
        refine eX9_goes_21 hC ?_
        refine eX9_goes_22 hC ?_
        refine eX9_goes_26 hC (by assumption) ?_
        refine eX9_goes_29 hC ?_
        refine eX9_goes_30 hC (by assumption) ?_
        rw [zup_self]
        refine eX9_goes_33 hC (fun _ => ?_) (fun zz => absurd zz (nI_ne0 (by omega) (by omega)))
        refine eX9_goes_40 hC ?_
        refine eX9_goes_41 hC hQ (Nat.le_of_ble_eq_true rfl) (Nat.le_of_ble_eq_true rfl) (by first | (left; rfl) | (right; rfl) | assumption) ?_
        exact ⟨rfl, rfl, rfl⟩
      · obtain rfl : c = 1 := by omega
        refine eX9_goes_0 hC ?_
        refine eX9_goes_1 hC ?_
        refine eX9_goes_2 hC (fun _ => ?_) (fun zz => absurd zz zn10)
        refine eX9_goes_9 hC ?_
        refine eX9_goes_10 hC (fun _ => ?_) (fun zz => absurd zz zn10)
        refine eX9_goes_17 hC ?_
        refine eX9_goes_18 hC (fun _ => ?_) (fun zz => absurd zz zn10)
        refine eX9_goes_25 hC ?_
        refine eX9_goes_26 hC (by assumption) ?_
        refine eX9_goes_29 hC ?_
        refine eX9_goes_30 hC (by assumption) ?_
        rw [zup_self]
        refine eX9_goes_33 hC (fun zz => absurd zn00 zz) (fun _ => ?_)
        refine eX9_goes_36 hC ?_
        refine eX9_goes_37 hC ?_
        refine eX9_goes_41 hC hQ (Nat.le_of_ble_eq_true rfl) (Nat.le_of_ble_eq_true rfl) (by first | (left; rfl) | (right; rfl) | assumption) ?_
        exact ⟨rfl, rfl, rfl⟩
/-- one block of 88 copied, as far as k -/
def zcb (μ : zF) (m p q k : Nat) : zF := fun c j => if c = m + 1 ∧ 88 * q ≤ j ∧ j < 88 * q + k then μ (m + 1) (88 * p + (j - 88 * q)) else μ c j
theorem zcb_0 (μ : zF) (m p q : Nat) : zcb μ m p q 0 = μ := by
  funext c j
  unfold zcb
  rw [if_neg (by omega)]
theorem zcb_rd {μ : zF} {m p q k : Nat} (hk : k < 88) : zcb μ m p q k (m + 1) (88 * p + k) = μ (m + 1) (88 * p + k) := by
  unfold zcb
  rw [if_neg (by omega)]
theorem zcb_step {μ : zF} {m p q k : Nat} : zup (zcb μ m p q k) (m + 1) (88 * q + k) (μ (m + 1) (88 * p + k)) = zcb μ m p q (k + 1) := by
  funext c j
  by_cases hc : c = m + 1 ∧ j = 88 * q + k
  · obtain ⟨rfl, rfl⟩ := hc
    rw [zup_self]
    unfold zcb
    rw [if_pos (by omega), show 88 * q + k - 88 * q = k by omega]
  · unfold zup
    rw [if_neg hc]
    unfold zcb
    by_cases h2 : c = m + 1 ∧ 88 * q ≤ j ∧ j < 88 * q + k
    · rw [if_pos h2, if_pos (by omega)]
    · rw [if_neg h2, if_neg (by omega)]
set_option maxHeartbeats 4000000 in
theorem vX9_copies {l : Launch} {g : zG} (hl : l.stackTraces = false) {K : zK} {μ : zF} {m p q : Nat} (h : zRef K m) (hp : p ≤ 6) (hq : q ≤ 6) : EX9_copies l g 0 0 [.ref m, .int (nI p), .int (nI q)] K μ (zPw K (fun μ' => μ' = zcb μ m p q 88)) := by
  obtain ⟨h0, h1, h2, h3, h4, h5, h6, h7, h8, i1, i2, i3, i4, i5, i6, i7, i8⟩ := h
  refine nX9_copies hl (fun x hC hQ => ?_)
  have loop : ∀ d k : Nat, k + d = 88 → zV x 0 0 2 [some (.ref m), some (.int (nI p)), some (.int (nI q)), some (.int (nI k))] [] K (zcb μ m p q k) := by
    intro d
    induction d with
    | zero =>
      intro k hk
      obtain rfl : k = 88 := by omega
      refine eX9_copies_2 hC ?_
      refine eX9_copies_3 hC ?_
      refine eX9_copies_5 hC (fun _ => ?_) (fun zz => absurd (nI_le (Nat.le_refl _) (by omega)) zz)
      refine eX9_copies_36 hC hQ (Nat.le_of_ble_eq_true rfl) (Nat.le_of_ble_eq_true rfl) ?_
      exact ⟨rfl, rfl, rfl⟩
    | succ d ih =>
      intro k hk
      refine eX9_copies_2 hC ?_
      refine eX9_copies_3 hC ?_
      refine eX9_copies_5 hC (fun zz => absurd zz (nI_ge (by omega) (by omega))) (fun _ => ?_)
      refine eX9_copies_8 hC ?_
      refine eX9_copies_9 hC (by assumption) (by assumption) ?_
      refine eX9_copies_12 hC ?_
      refine eX9_copies_14 hC ?_
      refine eX9_copies_15 hC ?_
      rw [pk_mul]
      refine eX9_copies_16 hC ?_
      refine eX9_copies_17 hC ?_
      rw [nI_add]
      refine eX9_copies_18 hC ?_
      refine eX9_copies_19 hC (by assumption) (by assumption) ?_
      refine eX9_copies_22 hC ?_
      refine eX9_copies_24 hC ?_
      refine eX9_copies_25 hC ?_
      rw [pk_mul]
      refine eX9_copies_26 hC ?_
      refine eX9_copies_27 hC ?_
      rw [nI_add]
      refine eX9_copies_28 hC (by assumption) (vp_in_nI (by omega) (by omega)) ?_
      rw [nI_clamp (by omega), zcb_rd (by omega)]
      refine eX9_copies_29 hC (by assumption) (vp_in_nI (by omega) (by omega)) ?_
      rw [nI_clamp (by omega)]
      rw [zcb_step]
      refine eX9_copies_30 hC ?_
      rw [nI_add]
      refine eX9_copies_33 hC ?_
      exact ih (k + 1) (by omega)
  refine eX9_copies_0 hC ?_
  refine eX9_copies_1 hC ?_
  exact zV.mu (zcb_0 μ m p q).symm (loop 88 0 rfl)
/-- the saved states, one place down, as far as the block k -/
def zsh (μ : zF) (m k : Nat) : zF := fun c j => if c = m + 1 ∧ 88 ≤ j ∧ j < 88 * k then μ (m + 1) (j + 88) else μ c j
theorem zsh_step {μ : zF} {m k : Nat} (hk : 1 ≤ k) : zcb (zsh μ m k) m (k + 1) k 88 = zsh μ m (k + 1) := by
  funext c j
  unfold zcb
  by_cases h1 : c = m + 1 ∧ 88 * k ≤ j ∧ j < 88 * k + 88
  · obtain ⟨rfl, h2, h3⟩ := h1
    rw [if_pos ⟨rfl, h2, h3⟩]
    unfold zsh
    rw [if_neg (by omega), if_pos (by omega)]
    congr 1
    omega
  · rw [if_neg h1]
    unfold zsh
    by_cases h2 : c = m + 1 ∧ 88 ≤ j ∧ j < 88 * k
    · rw [if_pos h2, if_pos (by omega)]
    · rw [if_neg h2, if_neg (by omega)]
set_option maxHeartbeats 4000000 in
theorem vX9_saves {l : Launch} {g : zG} (hl : l.stackTraces = false) {K : zK} {μ : zF} {m : Nat} {S : zMs} (h : zRef K m) (hM : zM9 μ m S) (ho : zMok S) : EX9_saves l g 0 0 [.ref m] K μ (zPw K (fun μ' => zM9 μ' m (zsv S) ∧ ∀ a j, ¬ (a = m ∧ j = 1) → ¬ (a = m + 1 ∧ 88 ≤ j) → μ' a j = μ a j)) := by
  have hR := h
  obtain ⟨h0, h1, h2, h3, h4, h5, h6, h7, h8, i1, i2, i3, i4, i5, i6, i7, i8⟩ := h
  obtain ⟨a1, a2, a3, a4, a5, a6⟩ := hM
  have n6 := ho.2.1
  refine nX9_saves hl (fun x hC hQ => ?_)
  by_cases c6 : S.2.1 = 6
  · have loop : ∀ d k : Nat, k + d = 6 → 1 ≤ k → zV x 0 0 11 [some (.ref m), some (.int (nI k))] [] K (zsh μ m k) := by
      intro d
      induction d with
      | zero =>
        intro k hk hk1
        obtain rfl : k = 6 := by omega
        have e1 : zsh μ m 6 m 1 = nI 6 := by
          unfold zsh
          rw [if_neg (by omega), a2, c6]
        refine eX9_saves_11 hC ?_
        refine eX9_saves_12 hC ?_
        refine eX9_saves_14 hC (fun _ => ?_) (fun zz => absurd (nI_le (Nat.le_refl _) (by omega)) zz)
        refine eX9_saves_31 hC ?_
        refine eX9_saves_32 hC ?_
        refine eX9_saves_33 hC (by assumption) ?_
        rw [e1]
        refine eX9_saves_36 hC ?_
        refine eX9_saves_37 hC ?_
        rw [nI_sub (by omega)]
        refine eX9_saves_38 hC (by assumption) ?_
        refine eX9_saves_41 hC ?_
        refine eX9_saves_42 hC ?_
        refine eX9_saves_43 hC (by assumption) ?_
        rw [zup_self]
        refine eX9_saves_46 hC ?_
        refine eX9_saves_47 hC ?_
        rw [nI_add]
        refine eX9_saves_48 hC (by assumption) ?_
        refine eX9_saves_51 hC ?_
        refine eX9_saves_52 hC ?_
        refine eX9_saves_53 hC ?_
        refine eX9_saves_54 hC (by assumption) ?_
        rw [zup_self]
        refine eX9_saves_57 hC (Nat.le_of_ble_eq_true rfl) (Nat.le_of_ble_eq_true rfl) (Nat.le_of_ble_eq_true rfl) (by assumption) (vX9_copies hC.nt hR (by omega) (by omega)) (zk_w (fun μ_57 m_57 => ?_))
        refine eX9_saves_60 hC hQ (Nat.le_of_ble_eq_true rfl) (Nat.le_of_ble_eq_true rfl) ?_
        subst m_57
        refine ⟨rfl, rfl, ⟨?_, ?_, fun i hi => ?_, ?_, fun i hi => ?_, ?_⟩, fun a j q1 q2 => ?_⟩
        · refine a1.of ho.1.1 (fun j hj => ?_)
          simp only [zcb]
          rw [if_neg (by omega), zup_a _ _ _ _ (by omega), zup_a _ _ _ _ (by omega)]
          unfold zsh
          rw [if_neg (by omega)]
        · simp only [zcb]
          rw [if_neg (by omega), zup_self]
          simp [zsv, zsvn, c6]
        · have hi6 : i < 6 := by simpa [zsv, zsvn, c6] using hi
          show zSb _ _ _ (zsvr S.2.1 S.2.2.1 S.1 i)
          unfold zsvr
          rw [c6, if_neg (by omega)]
          show zSb _ _ _ (if i = 5 then S.1 else S.2.2.1 (i + 1))
          by_cases c5 : i = 5
          · rw [if_pos c5]
            subst c5
            refine a1.of ho.1.1 (fun j hj => ?_)
            unfold zcb
            rw [if_pos (by omega), zup_a _ _ _ _ (by omega), zup_a _ _ _ _ (by omega)]
            unfold zsh
            rw [if_neg (by omega), show 88 * 0 + (88 * (5 + 1) + j - 88 * 6) = 0 + j by omega]
          · rw [if_neg c5]
            refine (a3 (i + 1) (by omega)).of (ho.2.2.1 (i + 1) (by omega)).1 (fun j hj => ?_)
            simp only [zcb]
            rw [if_neg (by omega), zup_a _ _ _ _ (by omega), zup_a _ _ _ _ (by omega)]
            unfold zsh
            rw [if_pos (by omega)]
            congr 1
            omega
        · simp only [zcb]
          rw [if_neg (by omega), zup_k _ _ _ (by omega), zup_k _ _ _ (by omega)]
          unfold zsh
          rw [if_neg (by omega)]; exact a4
        · simp only [zcb]
          rw [if_neg (by omega), zup_a _ _ _ _ (by omega), zup_a _ _ _ _ (by omega)]
          unfold zsh
          rw [if_neg (by omega)]; exact a5 i hi
        · simp only [zcb]
          rw [if_neg (by omega), zup_a _ _ _ _ (by omega), zup_a _ _ _ _ (by omega)]
          unfold zsh
          rw [if_neg (by omega)]; exact a6
        · simp only [zcb]
          rw [if_neg (by omega)]
          simp only [zup]
          rw [if_neg q1, if_neg q1]
          unfold zsh
          rw [if_neg (by omega)]
      | succ d ih =>
        intro k hk hk1
        refine eX9_saves_11 hC ?_
        refine eX9_saves_12 hC ?_
        refine eX9_saves_14 hC (fun zz => absurd zz (nI_ge (by omega) (by omega))) (fun _ => ?_)
        refine eX9_saves_17 hC ?_
        refine eX9_saves_18 hC ?_
        refine eX9_saves_19 hC ?_
        refine eX9_saves_20 hC ?_
        refine eX9_saves_21 hC ?_
        rw [nI_add]
        refine eX9_saves_22 hC (Nat.le_of_ble_eq_true rfl) (Nat.le_of_ble_eq_true rfl) (Nat.le_of_ble_eq_true rfl) (by assumption) (vX9_copies hC.nt hR (by omega) (by omega)) (zk_w (fun μ_22 m_22 => ?_))
        rw [zsh_step hk1] at m_22
        subst m_22
        refine eX9_saves_25 hC ?_
        rw [nI_add]
        refine eX9_saves_28 hC ?_
        exact ih (k + 1) (by omega) (by omega)
    refine eX9_saves_0 hC ?_
    refine eX9_saves_1 hC (by assumption) ?_
    refine eX9_saves_4 hC ?_
    rw [a2, c6]
    refine eX9_saves_6 hC (fun zz => absurd rfl zz) (fun _ => ?_)
    refine eX9_saves_9 hC ?_
    refine eX9_saves_10 hC ?_
    refine zV.mu ?_ (loop 5 1 rfl (Nat.le_refl _))
    funext c j
    unfold zsh
    rw [if_neg (by omega)]
  · have hn : S.2.1 < 6 := by omega
    refine eX9_saves_0 hC ?_
    refine eX9_saves_1 hC (by assumption) ?_
    refine eX9_saves_4 hC ?_
    rw [a2]
    refine eX9_saves_6 hC (fun _ => ?_) (fun zz => absurd zz (fun q => c6 (nI_inj (by omega) (by omega) q)))
    refine eX9_saves_41 hC ?_
    refine eX9_saves_42 hC ?_
    refine eX9_saves_43 hC (by assumption) ?_
    rw [a2]
    refine eX9_saves_46 hC ?_
    refine eX9_saves_47 hC ?_
    rw [nI_add]
    refine eX9_saves_48 hC (by assumption) ?_
    refine eX9_saves_51 hC ?_
    refine eX9_saves_52 hC ?_
    refine eX9_saves_53 hC ?_
    refine eX9_saves_54 hC (by assumption) ?_
    rw [zup_self]
    refine eX9_saves_57 hC (Nat.le_of_ble_eq_true rfl) (Nat.le_of_ble_eq_true rfl) (Nat.le_of_ble_eq_true rfl) (by assumption) (vX9_copies hC.nt hR (by omega) (by omega)) (zk_w (fun μ_57 m_57 => ?_))
    refine eX9_saves_60 hC hQ (Nat.le_of_ble_eq_true rfl) (Nat.le_of_ble_eq_true rfl) ?_
    subst m_57
    refine ⟨rfl, rfl, ⟨?_, ?_, fun i hi => ?_, ?_, fun i hi => ?_, ?_⟩, fun a j q1 q2 => ?_⟩
    · refine a1.of ho.1.1 (fun j hj => ?_)
      simp only [zcb]
      rw [if_neg (by omega), zup_a _ _ _ _ (by omega)]
    · simp only [zcb]
      rw [if_neg (by omega), zup_self]
      simp [zsv, zsvn, hn]
    · have hi6 : i < S.2.1 + 1 := by simpa [zsv, zsvn, hn] using hi
      show zSb _ _ _ (zsvr S.2.1 S.2.2.1 S.1 i)
      unfold zsvr
      rw [if_pos hn]
      show zSb _ _ _ (if i = S.2.1 then S.1 else S.2.2.1 i)
      by_cases c5 : i = S.2.1
      · rw [if_pos c5]
        subst c5
        refine a1.of ho.1.1 (fun j hj => ?_)
        unfold zcb
        rw [if_pos (by omega), zup_a _ _ _ _ (by omega), show 88 * 0 + (88 * (S.2.1 + 1) + j - 88 * (S.2.1 + 1)) = 0 + j by omega]
      · rw [if_neg c5]
        refine (a3 i (by omega)).of (ho.2.2.1 i (by omega)).1 (fun j hj => ?_)
        simp only [zcb]
        rw [if_neg (by omega), zup_a _ _ _ _ (by omega)]
    · simp only [zcb]
      rw [if_neg (by omega), zup_k _ _ _ (by omega)]; exact a4
    · simp only [zcb]
      rw [if_neg (by omega), zup_a _ _ _ _ (by omega)]; exact a5 i hi
    · simp only [zcb]
      rw [if_neg (by omega), zup_a _ _ _ _ (by omega)]; exact a6
    · simp only [zcb]
      rw [if_neg (by omega)]
      simp only [zup]
      rw [if_neg q1]
