/-! ===== the law's helpers: the answer into a long row, or the number of what is thrown ===== -/
theorem zix_r {i : Int32} {c : Nat} {f : Nat → zOu} {E : String} (h : zix i c f = .inr E) : E = zxI ∨ ∃ k, f k = .inr E := by
  unfold zix at h
  split at h
  · exact Or.inr ⟨_, h⟩
  · exact Or.inl (Sum.inr.inj h).symm
theorem zrg_r {i : Int32} {a b : Nat} {f : Nat → zOu} {E : String} (h : zrg i a b f = .inr E) : E = zxA ∨ ∃ k, f k = .inr E := by
  unfold zrg at h
  split at h
  · exact Or.inr ⟨_, h⟩
  · exact Or.inl (Sum.inr.inj h).symm
theorem zix_1 {i : Int32} {c : Nat} {f : Nat → Int32 × zMs} {E : String} (h : zix i c (fun k => .inl (f k)) = .inr E) : E = zxI := by
  rcases zix_r h with h | ⟨k, h⟩
  · exact h
  · cases h
theorem zrg_1 {i : Int32} {a b : Nat} {f : Nat → Int32 × zMs} {E : String} (h : zrg i a b (fun k => .inl (f k)) = .inr E) : E = zxA := by
  rcases zrg_r h with h | ⟨k, h⟩
  · exact h
  · cases h
theorem zxo_remove {i : Int32} {S : zMs} {E : String} (h : zdo_remove i S = .inr E) : E = zxI := zix_1 h
theorem zxo_wordWidth {i : Int32} {S : zMs} {E : String} (h : zdo_wordWidth i S = .inr E) : E = zxI := zix_1 h
theorem zxo_mark {i : Int32} {S : zMs} {E : String} (h : zdo_mark i S = .inr E) : E = zxI := zix_1 h
theorem zxo_lineOf {i : Int32} {S : zMs} {E : String} (h : zdo_lineOf i S = .inr E) : E = zxI := zix_1 h
theorem zxo_firstWord {i : Int32} {S : zMs} {E : String} (h : zdo_firstWord i S = .inr E) : E = zxI := zix_1 h
theorem zxo_lineWidth {i : Int32} {S : zMs} {E : String} (h : zdo_lineWidth i S = .inr E) : E = zxI := zix_1 h
theorem zxo_stairAt {i : Int32} {S : zMs} {E : String} (h : zdo_stairAt i S = .inr E) : E = zxI := zix_1 h
theorem zxo_reason {i : Int32} {S : zMs} {E : String} (h : zdo_reason i S = .inr E) : E = zxI := zix_1 h
theorem zxo_pageOf {i : Int32} {S : zMs} {E : String} (h : zdo_pageOf i S = .inr E) : E = zxI := zix_1 h
theorem zxo_linesOn {i : Int32} {S : zMs} {E : String} (h : zdo_linesOn i S = .inr E) : E = zxI := zix_1 h
theorem zxo_setColumn {i : Int32} {S : zMs} {E : String} (h : zdo_setColumn i S = .inr E) : E = zxA := zrg_1 h
theorem zxo_setSpace {i : Int32} {S : zMs} {E : String} (h : zdo_setSpace i S = .inr E) : E = zxA := zrg_1 h
theorem zxo_setPage {i : Int32} {S : zMs} {E : String} (h : zdo_setPage i S = .inr E) : E = zxA := zrg_1 h
theorem zxo_costFor {i : Int32} {b : Nat} {S : zMs} {E : String} (h : zdo_costFor i b S = .inr E) : E = zxA := zrg_1 h
theorem zxo_setPenalties {i j k : Int32} {S : zMs} {E : String} (h : zdo_setPenalties i j k S = .inr E) : E = zxA := by
  rcases zrg_r h with h | ⟨a, h⟩
  · exact h
  · rcases zrg_r h with h | ⟨b, h⟩
    · exact h
    · exact zrg_1 h
theorem zxo_bestColumn {i j : Int32} {S : zMs} {E : String} (h : zdo_bestColumn i j S = .inr E) : E = zxA := by
  rcases zrg_r h with h | ⟨a, h⟩
  · exact h
  · exact zrg_1 h
theorem zxo_setMark {i w : Int32} {S : zMs} {E : String} (h : zdo_setMark i w S = .inr E) : E = zxI ∨ E = zxA := by
  rcases zix_r h with h | ⟨a, h⟩
  · exact Or.inl h
  · exact Or.inr (zrg_1 h)
theorem zxo_costIfMarked {i w : Int32} {S : zMs} {E : String} (h : zdo_costIfMarked i w S = .inr E) : E = zxI ∨ E = zxA := by
  rcases zix_r h with h | ⟨a, h⟩
  · exact Or.inl h
  · exact Or.inr (zrg_1 h)
theorem zxo_insert {i w : Int32} {S : zMs} {E : String} (h : zdo_insert i w S = .inr E) : E = zxI ∨ E = zxA ∨ E = zxS := by
  rcases zix_r h with h | ⟨a, h⟩
  · exact Or.inl h
  · rcases zrg_r h with h | ⟨b, h⟩
    · exact Or.inr (Or.inl h)
    · split at h
      · exact Or.inr (Or.inr (Sum.inr.inj h).symm)
      · cases h
theorem zxo_append {i : Int32} {S : zMs} {E : String} (h : zdo_append i S = .inr E) : E = zxA ∨ E = zxS := by
  rcases zrg_r h with h | ⟨a, h⟩
  · exact Or.inl h
  · split at h
    · exact Or.inr (Sum.inr.inj h).symm
    · cases h
theorem zxo_undo {S : zMs} {E : String} (h : zdo_undo S = .inr E) : E = zxS := by
  unfold zdo_undo at h
  split at h
  · exact (Sum.inr.inj h).symm
  · cases h
theorem zxo_load {S : zMs} {E : String} (h : zdo_load S = .inr E) : E = zxA ∨ E = zxS := by
  unfold zdo_load at h
  split at h
  · exact Or.inl (Sum.inr.inj h).symm
  · split at h
    · exact Or.inl (Sum.inr.inj h).symm
    · split at h
      · exact Or.inr (Sum.inr.inj h).symm
      · cases h
theorem zX8.o {K : zK} {μ : zF} {x : Nat} {S : zMs} (h : zX8 K μ x S) : zO K x 8 := h.choose_spec.1.o
theorem zX8.k {K : zK} {μ : zF} {x : Nat} {S : zMs} (h : zX8 K μ x S) : zMok S := h.choose_spec.2.2
/-- the helper's answer -/
def zHp (c : String → Nat) (o : zOu) (K : zK) (μ : zF) (x oa : Nat) (S : zMs) : Option Value → zK → zF → Prop := fun v K' μ' => ∃ (k : Nat) (S' : zMs), v = some (.int (nI k)) ∧ k ≤ 3 ∧ K'.1 = K.1 ∧ K'.2.1 = K.2.1 ∧ (∀ a, a ≠ x + 58 → K'.2.2.1 a = K.2.2.1 a) ∧ zX8 K' μ' x S' ∧ zAg μ μ' x (x + 89) ∧ ((k = 0 ∧ ∃ r : Int32, o = .inl (r, S') ∧ K'.2.2.2 oa 0 = r.toInt64) ∨ (k ≠ 0 ∧ ∃ E, o = .inr E ∧ k = c E ∧ S' = S))
theorem zX8.kl {K : zK} {μ : zF} {x a i : Nat} {S : zMs} {v : Int64} (h : zX8 K μ x S) : zX8 (zKl K a i v) μ x S := h
theorem zHp.ok {c : String → Nat} {o : zOu} {K K1 : zK} {μ μ1 : zF} {x oa : Nat} {S S1 : zMs} {r : Int32} (e1 : o = .inl (r, S1)) (e2 : zKe K K1 (x + 58)) (e3 : zX8 K1 μ1 x S1) (e4 : zAg μ μ1 x (x + 89)) : zHp c o K μ x oa S (some (.int (nI 0))) (zKl K1 oa (nI 0).toNatClampNeg r.toInt64) μ1 :=
  ⟨0, S1, rfl, by decide, e2.1, e2.2.1, e2.2.2.1, e3.kl, e4, Or.inl ⟨rfl, r, e1, by
    rw [nI_clamp (by decide)]
    simp [zKl, vp_updL]⟩⟩
theorem zHp.ex {c : String → Nat} {o : zOu} {K K1 : zK} {μ μ1 : zF} {x oa k : Nat} {S : zMs} {E : String} (h : zRX o K μ x S E K1 μ1) (hk : k ≤ 3) (h0 : k ≠ 0) (hc : k = c E) : zHp c o K μ x oa S (some (.int (nI k))) K1 μ1 :=
  ⟨k, S, rfl, hk, h.2.1.1, h.2.1.2.1, h.2.1.2.2.1, h.2.2.1, h.2.2.2, Or.inr ⟨h0, E, h.1, hc, rfl⟩⟩
theorem zk_rp {z : zX} {c1 s1 p1 x : Nat} {ls : List (Option Value)} {rest : List Value} {o : zOu} {K : zK} {μ : zF} (kk : ∀ (r : Int32) (S1 : zMs) (K1 : zK) (μ1 : zF), o = .inl (r, S1) → zKe K K1 (x + 58) → zX8 K1 μ1 x S1 → zAg μ μ1 x (x + 89) → zV z c1 s1 p1 ls (.int r :: rest) K1 μ1) : ∀ (v : Option Value) (K1 : zK) (μ1 : zF), zRP o K μ x v K1 μ1 → zV z c1 s1 p1 ls (v.toList ++ rest) K1 μ1 := by
  rintro v K1 μ1 ⟨r, S1, e1, rfl, e2, e3, e4⟩
  exact kk r S1 K1 μ1 e1 e2 e3 e4
section ZL_insert
abbrev hL_insert (x : zX) (MC MS : Nat) : Prop := zH x (.codeWith yL_insert cL_insert 5 (some .int) [(0, 10, 13, 13), (0, 10, 17, 15), (0, 10, 21, 17)] :: wsL_law) RL cL_insert 5 8 134 MC MS
abbrev EL_insert (l : Launch) (g : zG) (mc ms : Nat) (As : List Value) (K : zK) (μ : zF) (P : Option Value → zK → zF → Prop) : Prop := zEv l g yL_insert (.codeWith yL_insert cL_insert 5 (some .int) [(0, 10, 13, 13), (0, 10, 17, 15), (0, 10, 21, 17)] :: wsL_law) 8 134 mc ms As K μ P
abbrev QL_insert (l : Launch) (g : zG) (mc ms : Nat) (As : List Value) (K : zK) (μ : zF) (P : Option Value → zK → zF → Prop) (PX : String → zK → zF → Prop) : Prop := zEx l g yL_insert (.codeWith yL_insert cL_insert 5 (some .int) [(0, 10, 13, 13), (0, 10, 17, 15), (0, 10, 21, 17)] :: wsL_law) 8 134 mc ms As K μ P PX
theorem nL_insert {l : Launch} {g : zG} {mc ms : Nat} {p1 : Nat} {p2 : Int32} {p3 : Int32} {p4 : Nat} {K : zK} {μ : zF} {P : Option Value → zK → zF → Prop} (hl : l.stackTraces = false) (body : ∀ x : zX, zTb x [(0, 10, 13, 13), (0, 10, 17, 15), (0, 10, 21, 17)] → hL_insert x mc ms → zQg x (some .int) P mc ms → zV x 0 0 0 [some (.ref p1), some (.int p2), some (.int p3), some (.ref p4), none] [] K μ) : EL_insert l g mc ms [.ref p1, .int p2, .int p3, .ref p4] K μ P := zEv.ofW hl (by decide) rfl (Nat.le_of_ble_eq_true rfl) (fun x _ _ => body x)
theorem eL_insert_0 {x : zX} {MC MS cs sl : Nat} {st : List Value} {K : zK} {μ : zF} {l0 l1 l2 l4 : Option Value} {a : Nat} (hC : hL_insert x MC MS) (k : zV x cs sl 1 [l0, l1, l2, some (.ref a), l4] (.ref a :: st) K μ) : zV x cs sl 0 [l0, l1, l2, some (.ref a), l4] st K μ := zv_aload_n hC dL_insert_0 rfl rfl k
theorem eL_insert_1 {x : zX} {MC MS cs sl : Nat} {st : List Value} {K : zK} {μ : zF} {l0 l1 l2 l3 l4 : Option Value} (hC : hL_insert x MC MS) (k : zV x cs sl 2 [l0, l1, l2, l3, l4] (.int (nI 0) :: st) K μ) : zV x cs sl 1 [l0, l1, l2, l3, l4] st K μ := zv_iconst hC dL_insert_1 (by decide) k
theorem eL_insert_2 {x : zX} {MC MS cs sl : Nat} {st : List Value} {K : zK} {μ : zF} {l1 l2 l3 l4 : Option Value} {a : Nat} (hC : hL_insert x MC MS) (k : zV x cs sl 3 [some (.ref a), l1, l2, l3, l4] (.ref a :: st) K μ) : zV x cs sl 2 [some (.ref a), l1, l2, l3, l4] st K μ := zv_aload_n hC dL_insert_2 rfl rfl k
theorem eL_insert_3 {x : zX} {MC MS cs sl : Nat} {st : List Value} {K : zK} {μ : zF} {l0 l2 l3 l4 : Option Value} {v : Int32} (hC : hL_insert x MC MS) (k : zV x cs sl 4 [l0, some (.int v), l2, l3, l4] (.int v :: st) K μ) : zV x cs sl 3 [l0, some (.int v), l2, l3, l4] st K μ := zv_iload_n hC dL_insert_3 rfl rfl k
theorem eL_insert_4 {x : zX} {MC MS cs sl : Nat} {st : List Value} {K : zK} {μ : zF} {l0 l1 l3 l4 : Option Value} {v : Int32} (hC : hL_insert x MC MS) (k : zV x cs sl 5 [l0, l1, some (.int v), l3, l4] (.int v :: st) K μ) : zV x cs sl 4 [l0, l1, some (.int v), l3, l4] st K μ := zv_iload_n hC dL_insert_4 rfl rfl k
theorem eL_insert_5 {x : zX} {MC MS cs sl : Nat} {st : List Value} {K : zK} {μ : zF} {l0 l1 l2 l3 l4 : Option Value} {b : Nat} {q1 q2 : Value} {P : Option Value → zK → zF → Prop} {mc ms : Nat} {PX : String → zK → zF → Prop} (hC : hL_insert x MC MS) (hcat : (st.map fun v => v.category).sum ≤ 8) (hcm : cs + mc ≤ MC) (hsm : sl + ms ≤ MS) (hO : zO K b 8) (hE : QX8_insert (xl x) (xg x) mc ms [.ref b, q1, q2] K μ P PX) (kx : ∀ (E : String) (K1 : zK) (μ1 : zF), PX E K1 μ1 → ∃ h, zHd x RL 5 E h ∧ ∀ q, zV x (cs + mc) (sl + ms) h [l0, l1, l2, l3, l4] [.ref q] K1 μ1) (kk : ∀ (v : Option Value) (K1 : zK) (μ1 : zF), P v K1 μ1 → zV x (cs + mc) (sl + ms) 8 [l0, l1, l2, l3, l4] (v.toList ++ st) K1 μ1) : zV x cs sl 5 [l0, l1, l2, l3, l4] (q2 :: q1 :: .ref b :: st) K μ := zct_V hC (zgV zw_149 zw_150 zw_151 zw_2 zw_152) rfl (by decide +kernel) ⟨Nat.le_of_ble_eq_true rfl, Nat.le_of_ble_eq_true rfl⟩ (ci := 8) rfl rfl (by decide) (n := 2) (As := [q1, q2]) rfl dL_insert_5 rfl rfl hcat hcm hsm hO hE kx kk
theorem eL_insert_8 {x : zX} {MC MS cs sl : Nat} {st : List Value} {K : zK} {μ : zF} {l0 l1 l2 l3 l4 : Option Value} {v : Int32} (hC : hL_insert x MC MS) (k : zV x cs sl 9 [l0, l1, l2, l3, l4] (.long v.toInt64 :: st) K μ) : zV x cs sl 8 [l0, l1, l2, l3, l4] (.int v :: st) K μ := zv_i2l hC rfl dL_insert_8 k
theorem eL_insert_9 {x : zX} {MC MS cs sl : Nat} {st : List Value} {K : zK} {μ : zF} {l0 l1 l2 l3 l4 : Option Value} {a n : Nat} {i : Int32} {v : Int64} (hC : hL_insert x MC MS) (hI : zI K a 13 n) (hi : vp_in i n) (k : zV x cs sl 10 [l0, l1, l2, l3, l4] st (zKl K a i.toNatClampNeg v) μ) : zV x cs sl 9 [l0, l1, l2, l3, l4] (.long v :: .int i :: .ref a :: st) K μ := zv_last hC dL_insert_9 hI hi k
theorem eL_insert_10 {x : zX} {MC MS cs sl : Nat} {st : List Value} {K : zK} {μ : zF} {l0 l1 l2 l3 l4 : Option Value} (hC : hL_insert x MC MS) (k : zV x cs sl 25 [l0, l1, l2, l3, l4] st K μ) : zV x cs sl 10 [l0, l1, l2, l3, l4] st K μ := zv_goto hC dL_insert_10 (by decide) k
theorem eL_insert_13 {x : zX} {MC MS cs sl : Nat} {st : List Value} {K : zK} {μ : zF} {l0 l1 l2 l4 : Option Value} {v : Nat} {u : Nat} (hC : hL_insert x MC MS) (k : zV x cs sl 15 [l0, l1, l2, some (.ref u), some (.ref v)] st K μ) : zV x cs sl 13 [l0, l1, l2, some (.ref u), l4] (.ref v :: st) K μ := zv_astore hC dL_insert_13 rfl (Nat.le_of_ble_eq_true rfl) rfl k
theorem eL_insert_15 {x : zX} {MC MS cs sl : Nat} {st : List Value} {K : zK} {μ : zF} {l0 l1 l2 l3 l4 : Option Value} (hC : hL_insert x MC MS) (k : zV x cs sl 16 [l0, l1, l2, l3, l4] (.int (nI 1) :: st) K μ) : zV x cs sl 15 [l0, l1, l2, l3, l4] st K μ := zv_iconst hC dL_insert_15 (by decide) k
theorem eL_insert_16 {x : zX} {MC MS cs sl : Nat} {K : zK} {μ : zF} {l0 l1 l2 l3 l4 : Option Value} {v : Int32} {P : Option Value → zK → zF → Prop} {mc ms : Nat} (hC : hL_insert x MC MS) (hQ : zQg x (some .int) P mc ms) (hc : cs ≤ mc) (hs : sl ≤ ms) (hp : P (some (.int v)) K μ) : zV x cs sl 16 [l0, l1, l2, l3, l4] [.int v] K μ := zr_i hC hQ dL_insert_16 hc hs hp
theorem eL_insert_17 {x : zX} {MC MS cs sl : Nat} {st : List Value} {K : zK} {μ : zF} {l0 l1 l2 l4 : Option Value} {v : Nat} {u : Nat} (hC : hL_insert x MC MS) (k : zV x cs sl 19 [l0, l1, l2, some (.ref u), some (.ref v)] st K μ) : zV x cs sl 17 [l0, l1, l2, some (.ref u), l4] (.ref v :: st) K μ := zv_astore hC dL_insert_17 rfl (Nat.le_of_ble_eq_true rfl) rfl k
theorem eL_insert_19 {x : zX} {MC MS cs sl : Nat} {st : List Value} {K : zK} {μ : zF} {l0 l1 l2 l3 l4 : Option Value} (hC : hL_insert x MC MS) (k : zV x cs sl 20 [l0, l1, l2, l3, l4] (.int (nI 2) :: st) K μ) : zV x cs sl 19 [l0, l1, l2, l3, l4] st K μ := zv_iconst hC dL_insert_19 (by decide) k
theorem eL_insert_20 {x : zX} {MC MS cs sl : Nat} {K : zK} {μ : zF} {l0 l1 l2 l3 l4 : Option Value} {v : Int32} {P : Option Value → zK → zF → Prop} {mc ms : Nat} (hC : hL_insert x MC MS) (hQ : zQg x (some .int) P mc ms) (hc : cs ≤ mc) (hs : sl ≤ ms) (hp : P (some (.int v)) K μ) : zV x cs sl 20 [l0, l1, l2, l3, l4] [.int v] K μ := zr_i hC hQ dL_insert_20 hc hs hp
theorem eL_insert_21 {x : zX} {MC MS cs sl : Nat} {st : List Value} {K : zK} {μ : zF} {l0 l1 l2 l4 : Option Value} {v : Nat} {u : Nat} (hC : hL_insert x MC MS) (k : zV x cs sl 23 [l0, l1, l2, some (.ref u), some (.ref v)] st K μ) : zV x cs sl 21 [l0, l1, l2, some (.ref u), l4] (.ref v :: st) K μ := zv_astore hC dL_insert_21 rfl (Nat.le_of_ble_eq_true rfl) rfl k
theorem eL_insert_23 {x : zX} {MC MS cs sl : Nat} {st : List Value} {K : zK} {μ : zF} {l0 l1 l2 l3 l4 : Option Value} (hC : hL_insert x MC MS) (k : zV x cs sl 24 [l0, l1, l2, l3, l4] (.int (nI 3) :: st) K μ) : zV x cs sl 23 [l0, l1, l2, l3, l4] st K μ := zv_iconst hC dL_insert_23 (by decide) k
theorem eL_insert_24 {x : zX} {MC MS cs sl : Nat} {K : zK} {μ : zF} {l0 l1 l2 l3 l4 : Option Value} {v : Int32} {P : Option Value → zK → zF → Prop} {mc ms : Nat} (hC : hL_insert x MC MS) (hQ : zQg x (some .int) P mc ms) (hc : cs ≤ mc) (hs : sl ≤ ms) (hp : P (some (.int v)) K μ) : zV x cs sl 24 [l0, l1, l2, l3, l4] [.int v] K μ := zr_i hC hQ dL_insert_24 hc hs hp
theorem eL_insert_25 {x : zX} {MC MS cs sl : Nat} {st : List Value} {K : zK} {μ : zF} {l0 l1 l2 l3 l4 : Option Value} (hC : hL_insert x MC MS) (k : zV x cs sl 26 [l0, l1, l2, l3, l4] (.int (nI 0) :: st) K μ) : zV x cs sl 25 [l0, l1, l2, l3, l4] st K μ := zv_iconst hC dL_insert_25 (by decide) k
theorem eL_insert_26 {x : zX} {MC MS cs sl : Nat} {K : zK} {μ : zF} {l0 l1 l2 l3 l4 : Option Value} {v : Int32} {P : Option Value → zK → zF → Prop} {mc ms : Nat} (hC : hL_insert x MC MS) (hQ : zQg x (some .int) P mc ms) (hc : cs ≤ mc) (hs : sl ≤ ms) (hp : P (some (.int v)) K μ) : zV x cs sl 26 [l0, l1, l2, l3, l4] [.int v] K μ := zr_i hC hQ dL_insert_26 hc hs hp
set_option maxHeartbeats 1000000 in
theorem vL_insert {l : Launch} {g : zG} (hl : l.stackTraces = false) {K : zK} {μ : zF} {x oa : Nat} {S : zMs} {p2 : Int32} {p3 : Int32} (h : zX8 K μ x S) (ho : zI K oa 13 1) : EL_insert l g 3 18 [.ref x, .int p2, .int p3, .ref oa] K μ (zHp zcIAS (zdo_insert p2 p3 S) K μ x oa S) := by
  refine nL_insert hl (fun z hT hC hQ => ?_)
  refine eL_insert_0 hC ?_
  refine eL_insert_1 hC ?_
  refine eL_insert_2 hC ?_
  refine eL_insert_3 hC ?_
  refine eL_insert_4 hC ?_
  refine eL_insert_5 hC (Nat.le_of_ble_eq_true rfl) (Nat.le_of_ble_eq_true rfl) (Nat.le_of_ble_eq_true rfl) h.o (vX8_insert hC.nt h) (fun E K1 μ1 hx => ?_) (zk_rp (fun r S1 K1 μ1 e1 e2 e3 e4 => ?_))
  · rcases zxo_insert hx.1 with rfl | rfl | rfl
    · refine ⟨13, zHd.a0 hC hT (by decide +kernel) (List.mem_cons_of_mem _ zw_146) (by decide) (by decide), fun q => ?_⟩
      refine eL_insert_13 hC ?_
      refine eL_insert_15 hC ?_
      exact eL_insert_16 hC hQ (Nat.le_of_ble_eq_true rfl) (Nat.le_of_ble_eq_true rfl) (zHp.ex (k := 1) hx (by decide) (by decide) (by decide +kernel))
    · refine ⟨17, zHd.a1 hC hT (by decide +kernel) (List.mem_cons_of_mem _ zw_146) (by decide) (by decide +kernel) (List.mem_cons_of_mem _ zw_147) (by decide) (by decide), fun q => ?_⟩
      refine eL_insert_17 hC ?_
      refine eL_insert_19 hC ?_
      exact eL_insert_20 hC hQ (Nat.le_of_ble_eq_true rfl) (Nat.le_of_ble_eq_true rfl) (zHp.ex (k := 2) hx (by decide) (by decide) (by decide +kernel))
    · refine ⟨21, zHd.a2 hC hT (by decide +kernel) (List.mem_cons_of_mem _ zw_146) (by decide) (by decide +kernel) (List.mem_cons_of_mem _ zw_147) (by decide) (by decide +kernel) (List.mem_cons_of_mem _ zw_148) (by decide) (by decide), fun q => ?_⟩
      refine eL_insert_21 hC ?_
      refine eL_insert_23 hC ?_
      exact eL_insert_24 hC hQ (Nat.le_of_ble_eq_true rfl) (Nat.le_of_ble_eq_true rfl) (zHp.ex (k := 3) hx (by decide) (by decide) (by decide +kernel))
  · refine eL_insert_8 hC ?_
    refine eL_insert_9 hC (e2.i ho) (vp_in_nI (by decide) (by decide)) ?_
    refine eL_insert_10 hC ?_
    refine eL_insert_25 hC ?_
    exact eL_insert_26 hC hQ (Nat.le_of_ble_eq_true rfl) (Nat.le_of_ble_eq_true rfl) (zHp.ok e1 e2 e3 e4)
end ZL_insert
section ZL_remove
abbrev hL_remove (x : zX) (MC MS : Nat) : Prop := zH x (.codeWith yL_remove cL_remove 4 (some .int) [(0, 9, 12, 13)] :: wsL_law) RL cL_remove 4 8 133 MC MS
abbrev EL_remove (l : Launch) (g : zG) (mc ms : Nat) (As : List Value) (K : zK) (μ : zF) (P : Option Value → zK → zF → Prop) : Prop := zEv l g yL_remove (.codeWith yL_remove cL_remove 4 (some .int) [(0, 9, 12, 13)] :: wsL_law) 8 133 mc ms As K μ P
abbrev QL_remove (l : Launch) (g : zG) (mc ms : Nat) (As : List Value) (K : zK) (μ : zF) (P : Option Value → zK → zF → Prop) (PX : String → zK → zF → Prop) : Prop := zEx l g yL_remove (.codeWith yL_remove cL_remove 4 (some .int) [(0, 9, 12, 13)] :: wsL_law) 8 133 mc ms As K μ P PX
theorem nL_remove {l : Launch} {g : zG} {mc ms : Nat} {p1 : Nat} {p2 : Int32} {p3 : Nat} {K : zK} {μ : zF} {P : Option Value → zK → zF → Prop} (hl : l.stackTraces = false) (body : ∀ x : zX, zTb x [(0, 9, 12, 13)] → hL_remove x mc ms → zQg x (some .int) P mc ms → zV x 0 0 0 [some (.ref p1), some (.int p2), some (.ref p3), none] [] K μ) : EL_remove l g mc ms [.ref p1, .int p2, .ref p3] K μ P := zEv.ofW hl (by decide) rfl (Nat.le_of_ble_eq_true rfl) (fun x _ _ => body x)
theorem eL_remove_0 {x : zX} {MC MS cs sl : Nat} {st : List Value} {K : zK} {μ : zF} {l0 l1 l3 : Option Value} {a : Nat} (hC : hL_remove x MC MS) (k : zV x cs sl 1 [l0, l1, some (.ref a), l3] (.ref a :: st) K μ) : zV x cs sl 0 [l0, l1, some (.ref a), l3] st K μ := zv_aload_n hC dL_remove_0 rfl rfl k
theorem eL_remove_1 {x : zX} {MC MS cs sl : Nat} {st : List Value} {K : zK} {μ : zF} {l0 l1 l2 l3 : Option Value} (hC : hL_remove x MC MS) (k : zV x cs sl 2 [l0, l1, l2, l3] (.int (nI 0) :: st) K μ) : zV x cs sl 1 [l0, l1, l2, l3] st K μ := zv_iconst hC dL_remove_1 (by decide) k
theorem eL_remove_2 {x : zX} {MC MS cs sl : Nat} {st : List Value} {K : zK} {μ : zF} {l1 l2 l3 : Option Value} {a : Nat} (hC : hL_remove x MC MS) (k : zV x cs sl 3 [some (.ref a), l1, l2, l3] (.ref a :: st) K μ) : zV x cs sl 2 [some (.ref a), l1, l2, l3] st K μ := zv_aload_n hC dL_remove_2 rfl rfl k
theorem eL_remove_3 {x : zX} {MC MS cs sl : Nat} {st : List Value} {K : zK} {μ : zF} {l0 l2 l3 : Option Value} {v : Int32} (hC : hL_remove x MC MS) (k : zV x cs sl 4 [l0, some (.int v), l2, l3] (.int v :: st) K μ) : zV x cs sl 3 [l0, some (.int v), l2, l3] st K μ := zv_iload_n hC dL_remove_3 rfl rfl k
theorem eL_remove_4 {x : zX} {MC MS cs sl : Nat} {st : List Value} {K : zK} {μ : zF} {l0 l1 l2 l3 : Option Value} {b : Nat} {q1 : Value} {P : Option Value → zK → zF → Prop} {mc ms : Nat} {PX : String → zK → zF → Prop} (hC : hL_remove x MC MS) (hcat : (st.map fun v => v.category).sum ≤ 8) (hcm : cs + mc ≤ MC) (hsm : sl + ms ≤ MS) (hO : zO K b 8) (hE : QX8_remove (xl x) (xg x) mc ms [.ref b, q1] K μ P PX) (kx : ∀ (E : String) (K1 : zK) (μ1 : zF), PX E K1 μ1 → ∃ h, zHd x RL 4 E h ∧ ∀ q, zV x (cs + mc) (sl + ms) h [l0, l1, l2, l3] [.ref q] K1 μ1) (kk : ∀ (v : Option Value) (K1 : zK) (μ1 : zF), P v K1 μ1 → zV x (cs + mc) (sl + ms) 7 [l0, l1, l2, l3] (v.toList ++ st) K1 μ1) : zV x cs sl 4 [l0, l1, l2, l3] (q1 :: .ref b :: st) K μ := zct_V hC (zgV zw_237 zw_238 zw_239 zw_2 zw_240) rfl (by decide +kernel) ⟨Nat.le_of_ble_eq_true rfl, Nat.le_of_ble_eq_true rfl⟩ (ci := 8) rfl rfl (by decide) (n := 1) (As := [q1]) rfl dL_remove_4 rfl rfl hcat hcm hsm hO hE kx kk
theorem eL_remove_7 {x : zX} {MC MS cs sl : Nat} {st : List Value} {K : zK} {μ : zF} {l0 l1 l2 l3 : Option Value} {v : Int32} (hC : hL_remove x MC MS) (k : zV x cs sl 8 [l0, l1, l2, l3] (.long v.toInt64 :: st) K μ) : zV x cs sl 7 [l0, l1, l2, l3] (.int v :: st) K μ := zv_i2l hC rfl dL_remove_7 k
theorem eL_remove_8 {x : zX} {MC MS cs sl : Nat} {st : List Value} {K : zK} {μ : zF} {l0 l1 l2 l3 : Option Value} {a n : Nat} {i : Int32} {v : Int64} (hC : hL_remove x MC MS) (hI : zI K a 13 n) (hi : vp_in i n) (k : zV x cs sl 9 [l0, l1, l2, l3] st (zKl K a i.toNatClampNeg v) μ) : zV x cs sl 8 [l0, l1, l2, l3] (.long v :: .int i :: .ref a :: st) K μ := zv_last hC dL_remove_8 hI hi k
theorem eL_remove_9 {x : zX} {MC MS cs sl : Nat} {st : List Value} {K : zK} {μ : zF} {l0 l1 l2 l3 : Option Value} (hC : hL_remove x MC MS) (k : zV x cs sl 15 [l0, l1, l2, l3] st K μ) : zV x cs sl 9 [l0, l1, l2, l3] st K μ := zv_goto hC dL_remove_9 (by decide) k
theorem eL_remove_12 {x : zX} {MC MS cs sl : Nat} {st : List Value} {K : zK} {μ : zF} {l0 l1 l3 : Option Value} {v : Nat} {u : Nat} (hC : hL_remove x MC MS) (k : zV x cs sl 13 [l0, l1, some (.ref u), some (.ref v)] st K μ) : zV x cs sl 12 [l0, l1, some (.ref u), l3] (.ref v :: st) K μ := zv_astore_n hC dL_remove_12 rfl rfl (Nat.le_of_ble_eq_true rfl) rfl k
theorem eL_remove_13 {x : zX} {MC MS cs sl : Nat} {st : List Value} {K : zK} {μ : zF} {l0 l1 l2 l3 : Option Value} (hC : hL_remove x MC MS) (k : zV x cs sl 14 [l0, l1, l2, l3] (.int (nI 1) :: st) K μ) : zV x cs sl 13 [l0, l1, l2, l3] st K μ := zv_iconst hC dL_remove_13 (by decide) k
theorem eL_remove_14 {x : zX} {MC MS cs sl : Nat} {K : zK} {μ : zF} {l0 l1 l2 l3 : Option Value} {v : Int32} {P : Option Value → zK → zF → Prop} {mc ms : Nat} (hC : hL_remove x MC MS) (hQ : zQg x (some .int) P mc ms) (hc : cs ≤ mc) (hs : sl ≤ ms) (hp : P (some (.int v)) K μ) : zV x cs sl 14 [l0, l1, l2, l3] [.int v] K μ := zr_i hC hQ dL_remove_14 hc hs hp
theorem eL_remove_15 {x : zX} {MC MS cs sl : Nat} {st : List Value} {K : zK} {μ : zF} {l0 l1 l2 l3 : Option Value} (hC : hL_remove x MC MS) (k : zV x cs sl 16 [l0, l1, l2, l3] (.int (nI 0) :: st) K μ) : zV x cs sl 15 [l0, l1, l2, l3] st K μ := zv_iconst hC dL_remove_15 (by decide) k
theorem eL_remove_16 {x : zX} {MC MS cs sl : Nat} {K : zK} {μ : zF} {l0 l1 l2 l3 : Option Value} {v : Int32} {P : Option Value → zK → zF → Prop} {mc ms : Nat} (hC : hL_remove x MC MS) (hQ : zQg x (some .int) P mc ms) (hc : cs ≤ mc) (hs : sl ≤ ms) (hp : P (some (.int v)) K μ) : zV x cs sl 16 [l0, l1, l2, l3] [.int v] K μ := zr_i hC hQ dL_remove_16 hc hs hp
set_option maxHeartbeats 1000000 in
theorem vL_remove {l : Launch} {g : zG} (hl : l.stackTraces = false) {K : zK} {μ : zF} {x oa : Nat} {S : zMs} {p2 : Int32} (h : zX8 K μ x S) (ho : zI K oa 13 1) : EL_remove l g 1 6 [.ref x, .int p2, .ref oa] K μ (zHp zc1 (zdo_remove p2 S) K μ x oa S) := by
  refine nL_remove hl (fun z hT hC hQ => ?_)
  refine eL_remove_0 hC ?_
  refine eL_remove_1 hC ?_
  refine eL_remove_2 hC ?_
  refine eL_remove_3 hC ?_
  refine eL_remove_4 hC (Nat.le_of_ble_eq_true rfl) (Nat.le_of_ble_eq_true rfl) (Nat.le_of_ble_eq_true rfl) h.o (vX8_remove hC.nt h) (fun E K1 μ1 hx => ?_) (zk_rp (fun r S1 K1 μ1 e1 e2 e3 e4 => ?_))
  · obtain rfl := zxo_remove hx.1
    refine ⟨12, zHd.a0 hC hT (by decide +kernel) (List.mem_cons_of_mem _ zw_146) (by decide) (by decide), fun q => ?_⟩
    refine eL_remove_12 hC ?_
    refine eL_remove_13 hC ?_
    exact eL_remove_14 hC hQ (Nat.le_of_ble_eq_true rfl) (Nat.le_of_ble_eq_true rfl) (zHp.ex (k := 1) hx (by decide) (by decide) (by decide +kernel))
  · refine eL_remove_7 hC ?_
    refine eL_remove_8 hC (e2.i ho) (vp_in_nI (by decide) (by decide)) ?_
    refine eL_remove_9 hC ?_
    refine eL_remove_15 hC ?_
    exact eL_remove_16 hC hQ (Nat.le_of_ble_eq_true rfl) (Nat.le_of_ble_eq_true rfl) (zHp.ok e1 e2 e3 e4)
end ZL_remove
section ZL_setMark
abbrev hL_setMark (x : zX) (MC MS : Nat) : Prop := zH x (.codeWith yL_setMark cL_setMark 5 (some .int) [(0, 10, 13, 13), (0, 10, 17, 15)] :: wsL_law) RL cL_setMark 5 8 135 MC MS
abbrev EL_setMark (l : Launch) (g : zG) (mc ms : Nat) (As : List Value) (K : zK) (μ : zF) (P : Option Value → zK → zF → Prop) : Prop := zEv l g yL_setMark (.codeWith yL_setMark cL_setMark 5 (some .int) [(0, 10, 13, 13), (0, 10, 17, 15)] :: wsL_law) 8 135 mc ms As K μ P
abbrev QL_setMark (l : Launch) (g : zG) (mc ms : Nat) (As : List Value) (K : zK) (μ : zF) (P : Option Value → zK → zF → Prop) (PX : String → zK → zF → Prop) : Prop := zEx l g yL_setMark (.codeWith yL_setMark cL_setMark 5 (some .int) [(0, 10, 13, 13), (0, 10, 17, 15)] :: wsL_law) 8 135 mc ms As K μ P PX
theorem nL_setMark {l : Launch} {g : zG} {mc ms : Nat} {p1 : Nat} {p2 : Int32} {p3 : Int32} {p4 : Nat} {K : zK} {μ : zF} {P : Option Value → zK → zF → Prop} (hl : l.stackTraces = false) (body : ∀ x : zX, zTb x [(0, 10, 13, 13), (0, 10, 17, 15)] → hL_setMark x mc ms → zQg x (some .int) P mc ms → zV x 0 0 0 [some (.ref p1), some (.int p2), some (.int p3), some (.ref p4), none] [] K μ) : EL_setMark l g mc ms [.ref p1, .int p2, .int p3, .ref p4] K μ P := zEv.ofW hl (by decide) rfl (Nat.le_of_ble_eq_true rfl) (fun x _ _ => body x)
theorem eL_setMark_0 {x : zX} {MC MS cs sl : Nat} {st : List Value} {K : zK} {μ : zF} {l0 l1 l2 l4 : Option Value} {a : Nat} (hC : hL_setMark x MC MS) (k : zV x cs sl 1 [l0, l1, l2, some (.ref a), l4] (.ref a :: st) K μ) : zV x cs sl 0 [l0, l1, l2, some (.ref a), l4] st K μ := zv_aload_n hC dL_setMark_0 rfl rfl k
theorem eL_setMark_1 {x : zX} {MC MS cs sl : Nat} {st : List Value} {K : zK} {μ : zF} {l0 l1 l2 l3 l4 : Option Value} (hC : hL_setMark x MC MS) (k : zV x cs sl 2 [l0, l1, l2, l3, l4] (.int (nI 0) :: st) K μ) : zV x cs sl 1 [l0, l1, l2, l3, l4] st K μ := zv_iconst hC dL_setMark_1 (by decide) k
theorem eL_setMark_2 {x : zX} {MC MS cs sl : Nat} {st : List Value} {K : zK} {μ : zF} {l1 l2 l3 l4 : Option Value} {a : Nat} (hC : hL_setMark x MC MS) (k : zV x cs sl 3 [some (.ref a), l1, l2, l3, l4] (.ref a :: st) K μ) : zV x cs sl 2 [some (.ref a), l1, l2, l3, l4] st K μ := zv_aload_n hC dL_setMark_2 rfl rfl k
theorem eL_setMark_3 {x : zX} {MC MS cs sl : Nat} {st : List Value} {K : zK} {μ : zF} {l0 l2 l3 l4 : Option Value} {v : Int32} (hC : hL_setMark x MC MS) (k : zV x cs sl 4 [l0, some (.int v), l2, l3, l4] (.int v :: st) K μ) : zV x cs sl 3 [l0, some (.int v), l2, l3, l4] st K μ := zv_iload_n hC dL_setMark_3 rfl rfl k
theorem eL_setMark_4 {x : zX} {MC MS cs sl : Nat} {st : List Value} {K : zK} {μ : zF} {l0 l1 l3 l4 : Option Value} {v : Int32} (hC : hL_setMark x MC MS) (k : zV x cs sl 5 [l0, l1, some (.int v), l3, l4] (.int v :: st) K μ) : zV x cs sl 4 [l0, l1, some (.int v), l3, l4] st K μ := zv_iload_n hC dL_setMark_4 rfl rfl k
theorem eL_setMark_5 {x : zX} {MC MS cs sl : Nat} {st : List Value} {K : zK} {μ : zF} {l0 l1 l2 l3 l4 : Option Value} {b : Nat} {q1 q2 : Value} {P : Option Value → zK → zF → Prop} {mc ms : Nat} {PX : String → zK → zF → Prop} (hC : hL_setMark x MC MS) (hcat : (st.map fun v => v.category).sum ≤ 8) (hcm : cs + mc ≤ MC) (hsm : sl + ms ≤ MS) (hO : zO K b 8) (hE : QX8_setMark (xl x) (xg x) mc ms [.ref b, q1, q2] K μ P PX) (kx : ∀ (E : String) (K1 : zK) (μ1 : zF), PX E K1 μ1 → ∃ h, zHd x RL 5 E h ∧ ∀ q, zV x (cs + mc) (sl + ms) h [l0, l1, l2, l3, l4] [.ref q] K1 μ1) (kk : ∀ (v : Option Value) (K1 : zK) (μ1 : zF), P v K1 μ1 → zV x (cs + mc) (sl + ms) 8 [l0, l1, l2, l3, l4] (v.toList ++ st) K1 μ1) : zV x cs sl 5 [l0, l1, l2, l3, l4] (q2 :: q1 :: .ref b :: st) K μ := zct_V hC (zgV zw_261 zw_262 zw_263 zw_2 zw_264) rfl (by decide +kernel) ⟨Nat.le_of_ble_eq_true rfl, Nat.le_of_ble_eq_true rfl⟩ (ci := 8) rfl rfl (by decide) (n := 2) (As := [q1, q2]) rfl dL_setMark_5 rfl rfl hcat hcm hsm hO hE kx kk
theorem eL_setMark_8 {x : zX} {MC MS cs sl : Nat} {st : List Value} {K : zK} {μ : zF} {l0 l1 l2 l3 l4 : Option Value} {v : Int32} (hC : hL_setMark x MC MS) (k : zV x cs sl 9 [l0, l1, l2, l3, l4] (.long v.toInt64 :: st) K μ) : zV x cs sl 8 [l0, l1, l2, l3, l4] (.int v :: st) K μ := zv_i2l hC rfl dL_setMark_8 k
theorem eL_setMark_9 {x : zX} {MC MS cs sl : Nat} {st : List Value} {K : zK} {μ : zF} {l0 l1 l2 l3 l4 : Option Value} {a n : Nat} {i : Int32} {v : Int64} (hC : hL_setMark x MC MS) (hI : zI K a 13 n) (hi : vp_in i n) (k : zV x cs sl 10 [l0, l1, l2, l3, l4] st (zKl K a i.toNatClampNeg v) μ) : zV x cs sl 9 [l0, l1, l2, l3, l4] (.long v :: .int i :: .ref a :: st) K μ := zv_last hC dL_setMark_9 hI hi k
theorem eL_setMark_10 {x : zX} {MC MS cs sl : Nat} {st : List Value} {K : zK} {μ : zF} {l0 l1 l2 l3 l4 : Option Value} (hC : hL_setMark x MC MS) (k : zV x cs sl 21 [l0, l1, l2, l3, l4] st K μ) : zV x cs sl 10 [l0, l1, l2, l3, l4] st K μ := zv_goto hC dL_setMark_10 (by decide) k
theorem eL_setMark_13 {x : zX} {MC MS cs sl : Nat} {st : List Value} {K : zK} {μ : zF} {l0 l1 l2 l4 : Option Value} {v : Nat} {u : Nat} (hC : hL_setMark x MC MS) (k : zV x cs sl 15 [l0, l1, l2, some (.ref u), some (.ref v)] st K μ) : zV x cs sl 13 [l0, l1, l2, some (.ref u), l4] (.ref v :: st) K μ := zv_astore hC dL_setMark_13 rfl (Nat.le_of_ble_eq_true rfl) rfl k
theorem eL_setMark_15 {x : zX} {MC MS cs sl : Nat} {st : List Value} {K : zK} {μ : zF} {l0 l1 l2 l3 l4 : Option Value} (hC : hL_setMark x MC MS) (k : zV x cs sl 16 [l0, l1, l2, l3, l4] (.int (nI 1) :: st) K μ) : zV x cs sl 15 [l0, l1, l2, l3, l4] st K μ := zv_iconst hC dL_setMark_15 (by decide) k
theorem eL_setMark_16 {x : zX} {MC MS cs sl : Nat} {K : zK} {μ : zF} {l0 l1 l2 l3 l4 : Option Value} {v : Int32} {P : Option Value → zK → zF → Prop} {mc ms : Nat} (hC : hL_setMark x MC MS) (hQ : zQg x (some .int) P mc ms) (hc : cs ≤ mc) (hs : sl ≤ ms) (hp : P (some (.int v)) K μ) : zV x cs sl 16 [l0, l1, l2, l3, l4] [.int v] K μ := zr_i hC hQ dL_setMark_16 hc hs hp
theorem eL_setMark_17 {x : zX} {MC MS cs sl : Nat} {st : List Value} {K : zK} {μ : zF} {l0 l1 l2 l4 : Option Value} {v : Nat} {u : Nat} (hC : hL_setMark x MC MS) (k : zV x cs sl 19 [l0, l1, l2, some (.ref u), some (.ref v)] st K μ) : zV x cs sl 17 [l0, l1, l2, some (.ref u), l4] (.ref v :: st) K μ := zv_astore hC dL_setMark_17 rfl (Nat.le_of_ble_eq_true rfl) rfl k
theorem eL_setMark_19 {x : zX} {MC MS cs sl : Nat} {st : List Value} {K : zK} {μ : zF} {l0 l1 l2 l3 l4 : Option Value} (hC : hL_setMark x MC MS) (k : zV x cs sl 20 [l0, l1, l2, l3, l4] (.int (nI 2) :: st) K μ) : zV x cs sl 19 [l0, l1, l2, l3, l4] st K μ := zv_iconst hC dL_setMark_19 (by decide) k
theorem eL_setMark_20 {x : zX} {MC MS cs sl : Nat} {K : zK} {μ : zF} {l0 l1 l2 l3 l4 : Option Value} {v : Int32} {P : Option Value → zK → zF → Prop} {mc ms : Nat} (hC : hL_setMark x MC MS) (hQ : zQg x (some .int) P mc ms) (hc : cs ≤ mc) (hs : sl ≤ ms) (hp : P (some (.int v)) K μ) : zV x cs sl 20 [l0, l1, l2, l3, l4] [.int v] K μ := zr_i hC hQ dL_setMark_20 hc hs hp
theorem eL_setMark_21 {x : zX} {MC MS cs sl : Nat} {st : List Value} {K : zK} {μ : zF} {l0 l1 l2 l3 l4 : Option Value} (hC : hL_setMark x MC MS) (k : zV x cs sl 22 [l0, l1, l2, l3, l4] (.int (nI 0) :: st) K μ) : zV x cs sl 21 [l0, l1, l2, l3, l4] st K μ := zv_iconst hC dL_setMark_21 (by decide) k
theorem eL_setMark_22 {x : zX} {MC MS cs sl : Nat} {K : zK} {μ : zF} {l0 l1 l2 l3 l4 : Option Value} {v : Int32} {P : Option Value → zK → zF → Prop} {mc ms : Nat} (hC : hL_setMark x MC MS) (hQ : zQg x (some .int) P mc ms) (hc : cs ≤ mc) (hs : sl ≤ ms) (hp : P (some (.int v)) K μ) : zV x cs sl 22 [l0, l1, l2, l3, l4] [.int v] K μ := zr_i hC hQ dL_setMark_22 hc hs hp
set_option maxHeartbeats 1000000 in
theorem vL_setMark {l : Launch} {g : zG} (hl : l.stackTraces = false) {K : zK} {μ : zF} {x oa : Nat} {S : zMs} {p2 : Int32} {p3 : Int32} (h : zX8 K μ x S) (ho : zI K oa 13 1) : EL_setMark l g 2 12 [.ref x, .int p2, .int p3, .ref oa] K μ (zHp zcIA (zdo_setMark p2 p3 S) K μ x oa S) := by
  refine nL_setMark hl (fun z hT hC hQ => ?_)
  refine eL_setMark_0 hC ?_
  refine eL_setMark_1 hC ?_
  refine eL_setMark_2 hC ?_
  refine eL_setMark_3 hC ?_
  refine eL_setMark_4 hC ?_
  refine eL_setMark_5 hC (Nat.le_of_ble_eq_true rfl) (Nat.le_of_ble_eq_true rfl) (Nat.le_of_ble_eq_true rfl) h.o (vX8_setMark hC.nt h) (fun E K1 μ1 hx => ?_) (zk_rp (fun r S1 K1 μ1 e1 e2 e3 e4 => ?_))
  · rcases zxo_setMark hx.1 with rfl | rfl
    · refine ⟨13, zHd.a0 hC hT (by decide +kernel) (List.mem_cons_of_mem _ zw_146) (by decide) (by decide), fun q => ?_⟩
      refine eL_setMark_13 hC ?_
      refine eL_setMark_15 hC ?_
      exact eL_setMark_16 hC hQ (Nat.le_of_ble_eq_true rfl) (Nat.le_of_ble_eq_true rfl) (zHp.ex (k := 1) hx (by decide) (by decide) (by decide +kernel))
    · refine ⟨17, zHd.a1 hC hT (by decide +kernel) (List.mem_cons_of_mem _ zw_146) (by decide) (by decide +kernel) (List.mem_cons_of_mem _ zw_147) (by decide) (by decide), fun q => ?_⟩
      refine eL_setMark_17 hC ?_
      refine eL_setMark_19 hC ?_
      exact eL_setMark_20 hC hQ (Nat.le_of_ble_eq_true rfl) (Nat.le_of_ble_eq_true rfl) (zHp.ex (k := 2) hx (by decide) (by decide) (by decide +kernel))
  · refine eL_setMark_8 hC ?_
    refine eL_setMark_9 hC (e2.i ho) (vp_in_nI (by decide) (by decide)) ?_
    refine eL_setMark_10 hC ?_
    refine eL_setMark_21 hC ?_
    exact eL_setMark_22 hC hQ (Nat.le_of_ble_eq_true rfl) (Nat.le_of_ble_eq_true rfl) (zHp.ok e1 e2 e3 e4)
end ZL_setMark
section ZL_wordWidth
abbrev hL_wordWidth (x : zX) (MC MS : Nat) : Prop := zH x (.codeWith yL_wordWidth cL_wordWidth 4 (some .int) [(0, 9, 12, 13)] :: wsL_law) RL cL_wordWidth 4 8 132 MC MS
abbrev EL_wordWidth (l : Launch) (g : zG) (mc ms : Nat) (As : List Value) (K : zK) (μ : zF) (P : Option Value → zK → zF → Prop) : Prop := zEv l g yL_wordWidth (.codeWith yL_wordWidth cL_wordWidth 4 (some .int) [(0, 9, 12, 13)] :: wsL_law) 8 132 mc ms As K μ P
abbrev QL_wordWidth (l : Launch) (g : zG) (mc ms : Nat) (As : List Value) (K : zK) (μ : zF) (P : Option Value → zK → zF → Prop) (PX : String → zK → zF → Prop) : Prop := zEx l g yL_wordWidth (.codeWith yL_wordWidth cL_wordWidth 4 (some .int) [(0, 9, 12, 13)] :: wsL_law) 8 132 mc ms As K μ P PX
theorem nL_wordWidth {l : Launch} {g : zG} {mc ms : Nat} {p1 : Nat} {p2 : Int32} {p3 : Nat} {K : zK} {μ : zF} {P : Option Value → zK → zF → Prop} (hl : l.stackTraces = false) (body : ∀ x : zX, zTb x [(0, 9, 12, 13)] → hL_wordWidth x mc ms → zQg x (some .int) P mc ms → zV x 0 0 0 [some (.ref p1), some (.int p2), some (.ref p3), none] [] K μ) : EL_wordWidth l g mc ms [.ref p1, .int p2, .ref p3] K μ P := zEv.ofW hl (by decide) rfl (Nat.le_of_ble_eq_true rfl) (fun x _ _ => body x)
theorem eL_wordWidth_0 {x : zX} {MC MS cs sl : Nat} {st : List Value} {K : zK} {μ : zF} {l0 l1 l3 : Option Value} {a : Nat} (hC : hL_wordWidth x MC MS) (k : zV x cs sl 1 [l0, l1, some (.ref a), l3] (.ref a :: st) K μ) : zV x cs sl 0 [l0, l1, some (.ref a), l3] st K μ := zv_aload_n hC dL_wordWidth_0 rfl rfl k
theorem eL_wordWidth_1 {x : zX} {MC MS cs sl : Nat} {st : List Value} {K : zK} {μ : zF} {l0 l1 l2 l3 : Option Value} (hC : hL_wordWidth x MC MS) (k : zV x cs sl 2 [l0, l1, l2, l3] (.int (nI 0) :: st) K μ) : zV x cs sl 1 [l0, l1, l2, l3] st K μ := zv_iconst hC dL_wordWidth_1 (by decide) k
theorem eL_wordWidth_2 {x : zX} {MC MS cs sl : Nat} {st : List Value} {K : zK} {μ : zF} {l1 l2 l3 : Option Value} {a : Nat} (hC : hL_wordWidth x MC MS) (k : zV x cs sl 3 [some (.ref a), l1, l2, l3] (.ref a :: st) K μ) : zV x cs sl 2 [some (.ref a), l1, l2, l3] st K μ := zv_aload_n hC dL_wordWidth_2 rfl rfl k
theorem eL_wordWidth_3 {x : zX} {MC MS cs sl : Nat} {st : List Value} {K : zK} {μ : zF} {l0 l2 l3 : Option Value} {v : Int32} (hC : hL_wordWidth x MC MS) (k : zV x cs sl 4 [l0, some (.int v), l2, l3] (.int v :: st) K μ) : zV x cs sl 3 [l0, some (.int v), l2, l3] st K μ := zv_iload_n hC dL_wordWidth_3 rfl rfl k
theorem eL_wordWidth_4 {x : zX} {MC MS cs sl : Nat} {st : List Value} {K : zK} {μ : zF} {l0 l1 l2 l3 : Option Value} {b : Nat} {q1 : Value} {P : Option Value → zK → zF → Prop} {mc ms : Nat} {PX : String → zK → zF → Prop} (hC : hL_wordWidth x MC MS) (hcat : (st.map fun v => v.category).sum ≤ 8) (hcm : cs + mc ≤ MC) (hsm : sl + ms ≤ MS) (hO : zO K b 8) (hE : QX8_wordWidth (xl x) (xg x) mc ms [.ref b, q1] K μ P PX) (kx : ∀ (E : String) (K1 : zK) (μ1 : zF), PX E K1 μ1 → ∃ h, zHd x RL 4 E h ∧ ∀ q, zV x (cs + mc) (sl + ms) h [l0, l1, l2, l3] [.ref q] K1 μ1) (kk : ∀ (v : Option Value) (K1 : zK) (μ1 : zF), P v K1 μ1 → zV x (cs + mc) (sl + ms) 7 [l0, l1, l2, l3] (v.toList ++ st) K1 μ1) : zV x cs sl 4 [l0, l1, l2, l3] (q1 :: .ref b :: st) K μ := zct_V hC (zgV zw_281 zw_282 zw_283 zw_2 zw_284) rfl (by decide +kernel) ⟨Nat.le_of_ble_eq_true rfl, Nat.le_of_ble_eq_true rfl⟩ (ci := 8) rfl rfl (by decide) (n := 1) (As := [q1]) rfl dL_wordWidth_4 rfl rfl hcat hcm hsm hO hE kx kk
theorem eL_wordWidth_7 {x : zX} {MC MS cs sl : Nat} {st : List Value} {K : zK} {μ : zF} {l0 l1 l2 l3 : Option Value} {v : Int32} (hC : hL_wordWidth x MC MS) (k : zV x cs sl 8 [l0, l1, l2, l3] (.long v.toInt64 :: st) K μ) : zV x cs sl 7 [l0, l1, l2, l3] (.int v :: st) K μ := zv_i2l hC rfl dL_wordWidth_7 k
theorem eL_wordWidth_8 {x : zX} {MC MS cs sl : Nat} {st : List Value} {K : zK} {μ : zF} {l0 l1 l2 l3 : Option Value} {a n : Nat} {i : Int32} {v : Int64} (hC : hL_wordWidth x MC MS) (hI : zI K a 13 n) (hi : vp_in i n) (k : zV x cs sl 9 [l0, l1, l2, l3] st (zKl K a i.toNatClampNeg v) μ) : zV x cs sl 8 [l0, l1, l2, l3] (.long v :: .int i :: .ref a :: st) K μ := zv_last hC dL_wordWidth_8 hI hi k
theorem eL_wordWidth_9 {x : zX} {MC MS cs sl : Nat} {st : List Value} {K : zK} {μ : zF} {l0 l1 l2 l3 : Option Value} (hC : hL_wordWidth x MC MS) (k : zV x cs sl 15 [l0, l1, l2, l3] st K μ) : zV x cs sl 9 [l0, l1, l2, l3] st K μ := zv_goto hC dL_wordWidth_9 (by decide) k
theorem eL_wordWidth_12 {x : zX} {MC MS cs sl : Nat} {st : List Value} {K : zK} {μ : zF} {l0 l1 l3 : Option Value} {v : Nat} {u : Nat} (hC : hL_wordWidth x MC MS) (k : zV x cs sl 13 [l0, l1, some (.ref u), some (.ref v)] st K μ) : zV x cs sl 12 [l0, l1, some (.ref u), l3] (.ref v :: st) K μ := zv_astore_n hC dL_wordWidth_12 rfl rfl (Nat.le_of_ble_eq_true rfl) rfl k
theorem eL_wordWidth_13 {x : zX} {MC MS cs sl : Nat} {st : List Value} {K : zK} {μ : zF} {l0 l1 l2 l3 : Option Value} (hC : hL_wordWidth x MC MS) (k : zV x cs sl 14 [l0, l1, l2, l3] (.int (nI 1) :: st) K μ) : zV x cs sl 13 [l0, l1, l2, l3] st K μ := zv_iconst hC dL_wordWidth_13 (by decide) k
theorem eL_wordWidth_14 {x : zX} {MC MS cs sl : Nat} {K : zK} {μ : zF} {l0 l1 l2 l3 : Option Value} {v : Int32} {P : Option Value → zK → zF → Prop} {mc ms : Nat} (hC : hL_wordWidth x MC MS) (hQ : zQg x (some .int) P mc ms) (hc : cs ≤ mc) (hs : sl ≤ ms) (hp : P (some (.int v)) K μ) : zV x cs sl 14 [l0, l1, l2, l3] [.int v] K μ := zr_i hC hQ dL_wordWidth_14 hc hs hp
theorem eL_wordWidth_15 {x : zX} {MC MS cs sl : Nat} {st : List Value} {K : zK} {μ : zF} {l0 l1 l2 l3 : Option Value} (hC : hL_wordWidth x MC MS) (k : zV x cs sl 16 [l0, l1, l2, l3] (.int (nI 0) :: st) K μ) : zV x cs sl 15 [l0, l1, l2, l3] st K μ := zv_iconst hC dL_wordWidth_15 (by decide) k
theorem eL_wordWidth_16 {x : zX} {MC MS cs sl : Nat} {K : zK} {μ : zF} {l0 l1 l2 l3 : Option Value} {v : Int32} {P : Option Value → zK → zF → Prop} {mc ms : Nat} (hC : hL_wordWidth x MC MS) (hQ : zQg x (some .int) P mc ms) (hc : cs ≤ mc) (hs : sl ≤ ms) (hp : P (some (.int v)) K μ) : zV x cs sl 16 [l0, l1, l2, l3] [.int v] K μ := zr_i hC hQ dL_wordWidth_16 hc hs hp
set_option maxHeartbeats 1000000 in
theorem vL_wordWidth {l : Launch} {g : zG} (hl : l.stackTraces = false) {K : zK} {μ : zF} {x oa : Nat} {S : zMs} {p2 : Int32} (h : zX8 K μ x S) (ho : zI K oa 13 1) : EL_wordWidth l g 1 6 [.ref x, .int p2, .ref oa] K μ (zHp zc1 (zdo_wordWidth p2 S) K μ x oa S) := by
  refine nL_wordWidth hl (fun z hT hC hQ => ?_)
  refine eL_wordWidth_0 hC ?_
  refine eL_wordWidth_1 hC ?_
  refine eL_wordWidth_2 hC ?_
  refine eL_wordWidth_3 hC ?_
  refine eL_wordWidth_4 hC (Nat.le_of_ble_eq_true rfl) (Nat.le_of_ble_eq_true rfl) (Nat.le_of_ble_eq_true rfl) h.o (vX8_wordWidth hC.nt h) (fun E K1 μ1 hx => ?_) (zk_rp (fun r S1 K1 μ1 e1 e2 e3 e4 => ?_))
  · obtain rfl := zxo_wordWidth hx.1
    refine ⟨12, zHd.a0 hC hT (by decide +kernel) (List.mem_cons_of_mem _ zw_146) (by decide) (by decide), fun q => ?_⟩
    refine eL_wordWidth_12 hC ?_
    refine eL_wordWidth_13 hC ?_
    exact eL_wordWidth_14 hC hQ (Nat.le_of_ble_eq_true rfl) (Nat.le_of_ble_eq_true rfl) (zHp.ex (k := 1) hx (by decide) (by decide) (by decide +kernel))
  · refine eL_wordWidth_7 hC ?_
    refine eL_wordWidth_8 hC (e2.i ho) (vp_in_nI (by decide) (by decide)) ?_
    refine eL_wordWidth_9 hC ?_
    refine eL_wordWidth_15 hC ?_
    exact eL_wordWidth_16 hC hQ (Nat.le_of_ble_eq_true rfl) (Nat.le_of_ble_eq_true rfl) (zHp.ok e1 e2 e3 e4)
end ZL_wordWidth
section ZL_mark
abbrev hL_mark (x : zX) (MC MS : Nat) : Prop := zH x (.codeWith yL_mark cL_mark 4 (some .int) [(0, 9, 12, 13)] :: wsL_law) RL cL_mark 4 8 132 MC MS
abbrev EL_mark (l : Launch) (g : zG) (mc ms : Nat) (As : List Value) (K : zK) (μ : zF) (P : Option Value → zK → zF → Prop) : Prop := zEv l g yL_mark (.codeWith yL_mark cL_mark 4 (some .int) [(0, 9, 12, 13)] :: wsL_law) 8 132 mc ms As K μ P
abbrev QL_mark (l : Launch) (g : zG) (mc ms : Nat) (As : List Value) (K : zK) (μ : zF) (P : Option Value → zK → zF → Prop) (PX : String → zK → zF → Prop) : Prop := zEx l g yL_mark (.codeWith yL_mark cL_mark 4 (some .int) [(0, 9, 12, 13)] :: wsL_law) 8 132 mc ms As K μ P PX
theorem nL_mark {l : Launch} {g : zG} {mc ms : Nat} {p1 : Nat} {p2 : Int32} {p3 : Nat} {K : zK} {μ : zF} {P : Option Value → zK → zF → Prop} (hl : l.stackTraces = false) (body : ∀ x : zX, zTb x [(0, 9, 12, 13)] → hL_mark x mc ms → zQg x (some .int) P mc ms → zV x 0 0 0 [some (.ref p1), some (.int p2), some (.ref p3), none] [] K μ) : EL_mark l g mc ms [.ref p1, .int p2, .ref p3] K μ P := zEv.ofW hl (by decide) rfl (Nat.le_of_ble_eq_true rfl) (fun x _ _ => body x)
theorem eL_mark_0 {x : zX} {MC MS cs sl : Nat} {st : List Value} {K : zK} {μ : zF} {l0 l1 l3 : Option Value} {a : Nat} (hC : hL_mark x MC MS) (k : zV x cs sl 1 [l0, l1, some (.ref a), l3] (.ref a :: st) K μ) : zV x cs sl 0 [l0, l1, some (.ref a), l3] st K μ := zv_aload_n hC dL_mark_0 rfl rfl k
theorem eL_mark_1 {x : zX} {MC MS cs sl : Nat} {st : List Value} {K : zK} {μ : zF} {l0 l1 l2 l3 : Option Value} (hC : hL_mark x MC MS) (k : zV x cs sl 2 [l0, l1, l2, l3] (.int (nI 0) :: st) K μ) : zV x cs sl 1 [l0, l1, l2, l3] st K μ := zv_iconst hC dL_mark_1 (by decide) k
theorem eL_mark_2 {x : zX} {MC MS cs sl : Nat} {st : List Value} {K : zK} {μ : zF} {l1 l2 l3 : Option Value} {a : Nat} (hC : hL_mark x MC MS) (k : zV x cs sl 3 [some (.ref a), l1, l2, l3] (.ref a :: st) K μ) : zV x cs sl 2 [some (.ref a), l1, l2, l3] st K μ := zv_aload_n hC dL_mark_2 rfl rfl k
theorem eL_mark_3 {x : zX} {MC MS cs sl : Nat} {st : List Value} {K : zK} {μ : zF} {l0 l2 l3 : Option Value} {v : Int32} (hC : hL_mark x MC MS) (k : zV x cs sl 4 [l0, some (.int v), l2, l3] (.int v :: st) K μ) : zV x cs sl 3 [l0, some (.int v), l2, l3] st K μ := zv_iload_n hC dL_mark_3 rfl rfl k
theorem eL_mark_4 {x : zX} {MC MS cs sl : Nat} {st : List Value} {K : zK} {μ : zF} {l0 l1 l2 l3 : Option Value} {b : Nat} {q1 : Value} {P : Option Value → zK → zF → Prop} {mc ms : Nat} {PX : String → zK → zF → Prop} (hC : hL_mark x MC MS) (hcat : (st.map fun v => v.category).sum ≤ 8) (hcm : cs + mc ≤ MC) (hsm : sl + ms ≤ MS) (hO : zO K b 8) (hE : QX8_mark (xl x) (xg x) mc ms [.ref b, q1] K μ P PX) (kx : ∀ (E : String) (K1 : zK) (μ1 : zF), PX E K1 μ1 → ∃ h, zHd x RL 4 E h ∧ ∀ q, zV x (cs + mc) (sl + ms) h [l0, l1, l2, l3] [.ref q] K1 μ1) (kk : ∀ (v : Option Value) (K1 : zK) (μ1 : zF), P v K1 μ1 → zV x (cs + mc) (sl + ms) 7 [l0, l1, l2, l3] (v.toList ++ st) K1 μ1) : zV x cs sl 4 [l0, l1, l2, l3] (q1 :: .ref b :: st) K μ := zct_V hC (zgV zw_292 zw_293 zw_294 zw_2 zw_295) rfl (by decide +kernel) ⟨Nat.le_of_ble_eq_true rfl, Nat.le_of_ble_eq_true rfl⟩ (ci := 8) rfl rfl (by decide) (n := 1) (As := [q1]) rfl dL_mark_4 rfl rfl hcat hcm hsm hO hE kx kk
theorem eL_mark_7 {x : zX} {MC MS cs sl : Nat} {st : List Value} {K : zK} {μ : zF} {l0 l1 l2 l3 : Option Value} {v : Int32} (hC : hL_mark x MC MS) (k : zV x cs sl 8 [l0, l1, l2, l3] (.long v.toInt64 :: st) K μ) : zV x cs sl 7 [l0, l1, l2, l3] (.int v :: st) K μ := zv_i2l hC rfl dL_mark_7 k
theorem eL_mark_8 {x : zX} {MC MS cs sl : Nat} {st : List Value} {K : zK} {μ : zF} {l0 l1 l2 l3 : Option Value} {a n : Nat} {i : Int32} {v : Int64} (hC : hL_mark x MC MS) (hI : zI K a 13 n) (hi : vp_in i n) (k : zV x cs sl 9 [l0, l1, l2, l3] st (zKl K a i.toNatClampNeg v) μ) : zV x cs sl 8 [l0, l1, l2, l3] (.long v :: .int i :: .ref a :: st) K μ := zv_last hC dL_mark_8 hI hi k
theorem eL_mark_9 {x : zX} {MC MS cs sl : Nat} {st : List Value} {K : zK} {μ : zF} {l0 l1 l2 l3 : Option Value} (hC : hL_mark x MC MS) (k : zV x cs sl 15 [l0, l1, l2, l3] st K μ) : zV x cs sl 9 [l0, l1, l2, l3] st K μ := zv_goto hC dL_mark_9 (by decide) k
theorem eL_mark_12 {x : zX} {MC MS cs sl : Nat} {st : List Value} {K : zK} {μ : zF} {l0 l1 l3 : Option Value} {v : Nat} {u : Nat} (hC : hL_mark x MC MS) (k : zV x cs sl 13 [l0, l1, some (.ref u), some (.ref v)] st K μ) : zV x cs sl 12 [l0, l1, some (.ref u), l3] (.ref v :: st) K μ := zv_astore_n hC dL_mark_12 rfl rfl (Nat.le_of_ble_eq_true rfl) rfl k
theorem eL_mark_13 {x : zX} {MC MS cs sl : Nat} {st : List Value} {K : zK} {μ : zF} {l0 l1 l2 l3 : Option Value} (hC : hL_mark x MC MS) (k : zV x cs sl 14 [l0, l1, l2, l3] (.int (nI 1) :: st) K μ) : zV x cs sl 13 [l0, l1, l2, l3] st K μ := zv_iconst hC dL_mark_13 (by decide) k
theorem eL_mark_14 {x : zX} {MC MS cs sl : Nat} {K : zK} {μ : zF} {l0 l1 l2 l3 : Option Value} {v : Int32} {P : Option Value → zK → zF → Prop} {mc ms : Nat} (hC : hL_mark x MC MS) (hQ : zQg x (some .int) P mc ms) (hc : cs ≤ mc) (hs : sl ≤ ms) (hp : P (some (.int v)) K μ) : zV x cs sl 14 [l0, l1, l2, l3] [.int v] K μ := zr_i hC hQ dL_mark_14 hc hs hp
theorem eL_mark_15 {x : zX} {MC MS cs sl : Nat} {st : List Value} {K : zK} {μ : zF} {l0 l1 l2 l3 : Option Value} (hC : hL_mark x MC MS) (k : zV x cs sl 16 [l0, l1, l2, l3] (.int (nI 0) :: st) K μ) : zV x cs sl 15 [l0, l1, l2, l3] st K μ := zv_iconst hC dL_mark_15 (by decide) k
theorem eL_mark_16 {x : zX} {MC MS cs sl : Nat} {K : zK} {μ : zF} {l0 l1 l2 l3 : Option Value} {v : Int32} {P : Option Value → zK → zF → Prop} {mc ms : Nat} (hC : hL_mark x MC MS) (hQ : zQg x (some .int) P mc ms) (hc : cs ≤ mc) (hs : sl ≤ ms) (hp : P (some (.int v)) K μ) : zV x cs sl 16 [l0, l1, l2, l3] [.int v] K μ := zr_i hC hQ dL_mark_16 hc hs hp
set_option maxHeartbeats 1000000 in
theorem vL_mark {l : Launch} {g : zG} (hl : l.stackTraces = false) {K : zK} {μ : zF} {x oa : Nat} {S : zMs} {p2 : Int32} (h : zX8 K μ x S) (ho : zI K oa 13 1) : EL_mark l g 1 6 [.ref x, .int p2, .ref oa] K μ (zHp zc1 (zdo_mark p2 S) K μ x oa S) := by
  refine nL_mark hl (fun z hT hC hQ => ?_)
  refine eL_mark_0 hC ?_
  refine eL_mark_1 hC ?_
  refine eL_mark_2 hC ?_
  refine eL_mark_3 hC ?_
  refine eL_mark_4 hC (Nat.le_of_ble_eq_true rfl) (Nat.le_of_ble_eq_true rfl) (Nat.le_of_ble_eq_true rfl) h.o (vX8_mark hC.nt h) (fun E K1 μ1 hx => ?_) (zk_rp (fun r S1 K1 μ1 e1 e2 e3 e4 => ?_))
  · obtain rfl := zxo_mark hx.1
    refine ⟨12, zHd.a0 hC hT (by decide +kernel) (List.mem_cons_of_mem _ zw_146) (by decide) (by decide), fun q => ?_⟩
    refine eL_mark_12 hC ?_
    refine eL_mark_13 hC ?_
    exact eL_mark_14 hC hQ (Nat.le_of_ble_eq_true rfl) (Nat.le_of_ble_eq_true rfl) (zHp.ex (k := 1) hx (by decide) (by decide) (by decide +kernel))
  · refine eL_mark_7 hC ?_
    refine eL_mark_8 hC (e2.i ho) (vp_in_nI (by decide) (by decide)) ?_
    refine eL_mark_9 hC ?_
    refine eL_mark_15 hC ?_
    exact eL_mark_16 hC hQ (Nat.le_of_ble_eq_true rfl) (Nat.le_of_ble_eq_true rfl) (zHp.ok e1 e2 e3 e4)
end ZL_mark
section ZL_setColumn
abbrev hL_setColumn (x : zX) (MC MS : Nat) : Prop := zH x (.codeWith yL_setColumn cL_setColumn 4 (some .int) [(0, 9, 12, 15)] :: wsL_law) RL cL_setColumn 4 8 134 MC MS
abbrev EL_setColumn (l : Launch) (g : zG) (mc ms : Nat) (As : List Value) (K : zK) (μ : zF) (P : Option Value → zK → zF → Prop) : Prop := zEv l g yL_setColumn (.codeWith yL_setColumn cL_setColumn 4 (some .int) [(0, 9, 12, 15)] :: wsL_law) 8 134 mc ms As K μ P
abbrev QL_setColumn (l : Launch) (g : zG) (mc ms : Nat) (As : List Value) (K : zK) (μ : zF) (P : Option Value → zK → zF → Prop) (PX : String → zK → zF → Prop) : Prop := zEx l g yL_setColumn (.codeWith yL_setColumn cL_setColumn 4 (some .int) [(0, 9, 12, 15)] :: wsL_law) 8 134 mc ms As K μ P PX
theorem nL_setColumn {l : Launch} {g : zG} {mc ms : Nat} {p1 : Nat} {p2 : Int32} {p3 : Nat} {K : zK} {μ : zF} {P : Option Value → zK → zF → Prop} (hl : l.stackTraces = false) (body : ∀ x : zX, zTb x [(0, 9, 12, 15)] → hL_setColumn x mc ms → zQg x (some .int) P mc ms → zV x 0 0 0 [some (.ref p1), some (.int p2), some (.ref p3), none] [] K μ) : EL_setColumn l g mc ms [.ref p1, .int p2, .ref p3] K μ P := zEv.ofW hl (by decide) rfl (Nat.le_of_ble_eq_true rfl) (fun x _ _ => body x)
theorem eL_setColumn_0 {x : zX} {MC MS cs sl : Nat} {st : List Value} {K : zK} {μ : zF} {l0 l1 l3 : Option Value} {a : Nat} (hC : hL_setColumn x MC MS) (k : zV x cs sl 1 [l0, l1, some (.ref a), l3] (.ref a :: st) K μ) : zV x cs sl 0 [l0, l1, some (.ref a), l3] st K μ := zv_aload_n hC dL_setColumn_0 rfl rfl k
theorem eL_setColumn_1 {x : zX} {MC MS cs sl : Nat} {st : List Value} {K : zK} {μ : zF} {l0 l1 l2 l3 : Option Value} (hC : hL_setColumn x MC MS) (k : zV x cs sl 2 [l0, l1, l2, l3] (.int (nI 0) :: st) K μ) : zV x cs sl 1 [l0, l1, l2, l3] st K μ := zv_iconst hC dL_setColumn_1 (by decide) k
theorem eL_setColumn_2 {x : zX} {MC MS cs sl : Nat} {st : List Value} {K : zK} {μ : zF} {l1 l2 l3 : Option Value} {a : Nat} (hC : hL_setColumn x MC MS) (k : zV x cs sl 3 [some (.ref a), l1, l2, l3] (.ref a :: st) K μ) : zV x cs sl 2 [some (.ref a), l1, l2, l3] st K μ := zv_aload_n hC dL_setColumn_2 rfl rfl k
theorem eL_setColumn_3 {x : zX} {MC MS cs sl : Nat} {st : List Value} {K : zK} {μ : zF} {l0 l2 l3 : Option Value} {v : Int32} (hC : hL_setColumn x MC MS) (k : zV x cs sl 4 [l0, some (.int v), l2, l3] (.int v :: st) K μ) : zV x cs sl 3 [l0, some (.int v), l2, l3] st K μ := zv_iload_n hC dL_setColumn_3 rfl rfl k
theorem eL_setColumn_4 {x : zX} {MC MS cs sl : Nat} {st : List Value} {K : zK} {μ : zF} {l0 l1 l2 l3 : Option Value} {b : Nat} {q1 : Value} {P : Option Value → zK → zF → Prop} {mc ms : Nat} {PX : String → zK → zF → Prop} (hC : hL_setColumn x MC MS) (hcat : (st.map fun v => v.category).sum ≤ 8) (hcm : cs + mc ≤ MC) (hsm : sl + ms ≤ MS) (hO : zO K b 8) (hE : QX8_setColumn (xl x) (xg x) mc ms [.ref b, q1] K μ P PX) (kx : ∀ (E : String) (K1 : zK) (μ1 : zF), PX E K1 μ1 → ∃ h, zHd x RL 4 E h ∧ ∀ q, zV x (cs + mc) (sl + ms) h [l0, l1, l2, l3] [.ref q] K1 μ1) (kk : ∀ (v : Option Value) (K1 : zK) (μ1 : zF), P v K1 μ1 → zV x (cs + mc) (sl + ms) 7 [l0, l1, l2, l3] (v.toList ++ st) K1 μ1) : zV x cs sl 4 [l0, l1, l2, l3] (q1 :: .ref b :: st) K μ := zct_V hC (zgV zw_303 zw_304 zw_305 zw_2 zw_306) rfl (by decide +kernel) ⟨Nat.le_of_ble_eq_true rfl, Nat.le_of_ble_eq_true rfl⟩ (ci := 8) rfl rfl (by decide) (n := 1) (As := [q1]) rfl dL_setColumn_4 rfl rfl hcat hcm hsm hO hE kx kk
theorem eL_setColumn_7 {x : zX} {MC MS cs sl : Nat} {st : List Value} {K : zK} {μ : zF} {l0 l1 l2 l3 : Option Value} {v : Int32} (hC : hL_setColumn x MC MS) (k : zV x cs sl 8 [l0, l1, l2, l3] (.long v.toInt64 :: st) K μ) : zV x cs sl 7 [l0, l1, l2, l3] (.int v :: st) K μ := zv_i2l hC rfl dL_setColumn_7 k
theorem eL_setColumn_8 {x : zX} {MC MS cs sl : Nat} {st : List Value} {K : zK} {μ : zF} {l0 l1 l2 l3 : Option Value} {a n : Nat} {i : Int32} {v : Int64} (hC : hL_setColumn x MC MS) (hI : zI K a 13 n) (hi : vp_in i n) (k : zV x cs sl 9 [l0, l1, l2, l3] st (zKl K a i.toNatClampNeg v) μ) : zV x cs sl 8 [l0, l1, l2, l3] (.long v :: .int i :: .ref a :: st) K μ := zv_last hC dL_setColumn_8 hI hi k
theorem eL_setColumn_9 {x : zX} {MC MS cs sl : Nat} {st : List Value} {K : zK} {μ : zF} {l0 l1 l2 l3 : Option Value} (hC : hL_setColumn x MC MS) (k : zV x cs sl 15 [l0, l1, l2, l3] st K μ) : zV x cs sl 9 [l0, l1, l2, l3] st K μ := zv_goto hC dL_setColumn_9 (by decide) k
theorem eL_setColumn_12 {x : zX} {MC MS cs sl : Nat} {st : List Value} {K : zK} {μ : zF} {l0 l1 l3 : Option Value} {v : Nat} {u : Nat} (hC : hL_setColumn x MC MS) (k : zV x cs sl 13 [l0, l1, some (.ref u), some (.ref v)] st K μ) : zV x cs sl 12 [l0, l1, some (.ref u), l3] (.ref v :: st) K μ := zv_astore_n hC dL_setColumn_12 rfl rfl (Nat.le_of_ble_eq_true rfl) rfl k
theorem eL_setColumn_13 {x : zX} {MC MS cs sl : Nat} {st : List Value} {K : zK} {μ : zF} {l0 l1 l2 l3 : Option Value} (hC : hL_setColumn x MC MS) (k : zV x cs sl 14 [l0, l1, l2, l3] (.int (nI 1) :: st) K μ) : zV x cs sl 13 [l0, l1, l2, l3] st K μ := zv_iconst hC dL_setColumn_13 (by decide) k
theorem eL_setColumn_14 {x : zX} {MC MS cs sl : Nat} {K : zK} {μ : zF} {l0 l1 l2 l3 : Option Value} {v : Int32} {P : Option Value → zK → zF → Prop} {mc ms : Nat} (hC : hL_setColumn x MC MS) (hQ : zQg x (some .int) P mc ms) (hc : cs ≤ mc) (hs : sl ≤ ms) (hp : P (some (.int v)) K μ) : zV x cs sl 14 [l0, l1, l2, l3] [.int v] K μ := zr_i hC hQ dL_setColumn_14 hc hs hp
theorem eL_setColumn_15 {x : zX} {MC MS cs sl : Nat} {st : List Value} {K : zK} {μ : zF} {l0 l1 l2 l3 : Option Value} (hC : hL_setColumn x MC MS) (k : zV x cs sl 16 [l0, l1, l2, l3] (.int (nI 0) :: st) K μ) : zV x cs sl 15 [l0, l1, l2, l3] st K μ := zv_iconst hC dL_setColumn_15 (by decide) k
theorem eL_setColumn_16 {x : zX} {MC MS cs sl : Nat} {K : zK} {μ : zF} {l0 l1 l2 l3 : Option Value} {v : Int32} {P : Option Value → zK → zF → Prop} {mc ms : Nat} (hC : hL_setColumn x MC MS) (hQ : zQg x (some .int) P mc ms) (hc : cs ≤ mc) (hs : sl ≤ ms) (hp : P (some (.int v)) K μ) : zV x cs sl 16 [l0, l1, l2, l3] [.int v] K μ := zr_i hC hQ dL_setColumn_16 hc hs hp
set_option maxHeartbeats 1000000 in
theorem vL_setColumn {l : Launch} {g : zG} (hl : l.stackTraces = false) {K : zK} {μ : zF} {x oa : Nat} {S : zMs} {p2 : Int32} (h : zX8 K μ x S) (ho : zI K oa 13 1) : EL_setColumn l g 1 6 [.ref x, .int p2, .ref oa] K μ (zHp zc1 (zdo_setColumn p2 S) K μ x oa S) := by
  refine nL_setColumn hl (fun z hT hC hQ => ?_)
  refine eL_setColumn_0 hC ?_
  refine eL_setColumn_1 hC ?_
  refine eL_setColumn_2 hC ?_
  refine eL_setColumn_3 hC ?_
  refine eL_setColumn_4 hC (Nat.le_of_ble_eq_true rfl) (Nat.le_of_ble_eq_true rfl) (Nat.le_of_ble_eq_true rfl) h.o (vX8_setColumn hC.nt h) (fun E K1 μ1 hx => ?_) (zk_rp (fun r S1 K1 μ1 e1 e2 e3 e4 => ?_))
  · obtain rfl := zxo_setColumn hx.1
    refine ⟨12, zHd.a0 hC hT (by decide +kernel) (List.mem_cons_of_mem _ zw_147) (by decide) (by decide), fun q => ?_⟩
    refine eL_setColumn_12 hC ?_
    refine eL_setColumn_13 hC ?_
    exact eL_setColumn_14 hC hQ (Nat.le_of_ble_eq_true rfl) (Nat.le_of_ble_eq_true rfl) (zHp.ex (k := 1) hx (by decide) (by decide) (by decide +kernel))
  · refine eL_setColumn_7 hC ?_
    refine eL_setColumn_8 hC (e2.i ho) (vp_in_nI (by decide) (by decide)) ?_
    refine eL_setColumn_9 hC ?_
    refine eL_setColumn_15 hC ?_
    exact eL_setColumn_16 hC hQ (Nat.le_of_ble_eq_true rfl) (Nat.le_of_ble_eq_true rfl) (zHp.ok e1 e2 e3 e4)
end ZL_setColumn
section ZL_setSpace
abbrev hL_setSpace (x : zX) (MC MS : Nat) : Prop := zH x (.codeWith yL_setSpace cL_setSpace 4 (some .int) [(0, 9, 12, 15)] :: wsL_law) RL cL_setSpace 4 8 134 MC MS
abbrev EL_setSpace (l : Launch) (g : zG) (mc ms : Nat) (As : List Value) (K : zK) (μ : zF) (P : Option Value → zK → zF → Prop) : Prop := zEv l g yL_setSpace (.codeWith yL_setSpace cL_setSpace 4 (some .int) [(0, 9, 12, 15)] :: wsL_law) 8 134 mc ms As K μ P
abbrev QL_setSpace (l : Launch) (g : zG) (mc ms : Nat) (As : List Value) (K : zK) (μ : zF) (P : Option Value → zK → zF → Prop) (PX : String → zK → zF → Prop) : Prop := zEx l g yL_setSpace (.codeWith yL_setSpace cL_setSpace 4 (some .int) [(0, 9, 12, 15)] :: wsL_law) 8 134 mc ms As K μ P PX
theorem nL_setSpace {l : Launch} {g : zG} {mc ms : Nat} {p1 : Nat} {p2 : Int32} {p3 : Nat} {K : zK} {μ : zF} {P : Option Value → zK → zF → Prop} (hl : l.stackTraces = false) (body : ∀ x : zX, zTb x [(0, 9, 12, 15)] → hL_setSpace x mc ms → zQg x (some .int) P mc ms → zV x 0 0 0 [some (.ref p1), some (.int p2), some (.ref p3), none] [] K μ) : EL_setSpace l g mc ms [.ref p1, .int p2, .ref p3] K μ P := zEv.ofW hl (by decide) rfl (Nat.le_of_ble_eq_true rfl) (fun x _ _ => body x)
theorem eL_setSpace_0 {x : zX} {MC MS cs sl : Nat} {st : List Value} {K : zK} {μ : zF} {l0 l1 l3 : Option Value} {a : Nat} (hC : hL_setSpace x MC MS) (k : zV x cs sl 1 [l0, l1, some (.ref a), l3] (.ref a :: st) K μ) : zV x cs sl 0 [l0, l1, some (.ref a), l3] st K μ := zv_aload_n hC dL_setSpace_0 rfl rfl k
theorem eL_setSpace_1 {x : zX} {MC MS cs sl : Nat} {st : List Value} {K : zK} {μ : zF} {l0 l1 l2 l3 : Option Value} (hC : hL_setSpace x MC MS) (k : zV x cs sl 2 [l0, l1, l2, l3] (.int (nI 0) :: st) K μ) : zV x cs sl 1 [l0, l1, l2, l3] st K μ := zv_iconst hC dL_setSpace_1 (by decide) k
theorem eL_setSpace_2 {x : zX} {MC MS cs sl : Nat} {st : List Value} {K : zK} {μ : zF} {l1 l2 l3 : Option Value} {a : Nat} (hC : hL_setSpace x MC MS) (k : zV x cs sl 3 [some (.ref a), l1, l2, l3] (.ref a :: st) K μ) : zV x cs sl 2 [some (.ref a), l1, l2, l3] st K μ := zv_aload_n hC dL_setSpace_2 rfl rfl k
theorem eL_setSpace_3 {x : zX} {MC MS cs sl : Nat} {st : List Value} {K : zK} {μ : zF} {l0 l2 l3 : Option Value} {v : Int32} (hC : hL_setSpace x MC MS) (k : zV x cs sl 4 [l0, some (.int v), l2, l3] (.int v :: st) K μ) : zV x cs sl 3 [l0, some (.int v), l2, l3] st K μ := zv_iload_n hC dL_setSpace_3 rfl rfl k
theorem eL_setSpace_4 {x : zX} {MC MS cs sl : Nat} {st : List Value} {K : zK} {μ : zF} {l0 l1 l2 l3 : Option Value} {b : Nat} {q1 : Value} {P : Option Value → zK → zF → Prop} {mc ms : Nat} {PX : String → zK → zF → Prop} (hC : hL_setSpace x MC MS) (hcat : (st.map fun v => v.category).sum ≤ 8) (hcm : cs + mc ≤ MC) (hsm : sl + ms ≤ MS) (hO : zO K b 8) (hE : QX8_setSpace (xl x) (xg x) mc ms [.ref b, q1] K μ P PX) (kx : ∀ (E : String) (K1 : zK) (μ1 : zF), PX E K1 μ1 → ∃ h, zHd x RL 4 E h ∧ ∀ q, zV x (cs + mc) (sl + ms) h [l0, l1, l2, l3] [.ref q] K1 μ1) (kk : ∀ (v : Option Value) (K1 : zK) (μ1 : zF), P v K1 μ1 → zV x (cs + mc) (sl + ms) 7 [l0, l1, l2, l3] (v.toList ++ st) K1 μ1) : zV x cs sl 4 [l0, l1, l2, l3] (q1 :: .ref b :: st) K μ := zct_V hC (zgV zw_318 zw_319 zw_320 zw_2 zw_321) rfl (by decide +kernel) ⟨Nat.le_of_ble_eq_true rfl, Nat.le_of_ble_eq_true rfl⟩ (ci := 8) rfl rfl (by decide) (n := 1) (As := [q1]) rfl dL_setSpace_4 rfl rfl hcat hcm hsm hO hE kx kk
theorem eL_setSpace_7 {x : zX} {MC MS cs sl : Nat} {st : List Value} {K : zK} {μ : zF} {l0 l1 l2 l3 : Option Value} {v : Int32} (hC : hL_setSpace x MC MS) (k : zV x cs sl 8 [l0, l1, l2, l3] (.long v.toInt64 :: st) K μ) : zV x cs sl 7 [l0, l1, l2, l3] (.int v :: st) K μ := zv_i2l hC rfl dL_setSpace_7 k
theorem eL_setSpace_8 {x : zX} {MC MS cs sl : Nat} {st : List Value} {K : zK} {μ : zF} {l0 l1 l2 l3 : Option Value} {a n : Nat} {i : Int32} {v : Int64} (hC : hL_setSpace x MC MS) (hI : zI K a 13 n) (hi : vp_in i n) (k : zV x cs sl 9 [l0, l1, l2, l3] st (zKl K a i.toNatClampNeg v) μ) : zV x cs sl 8 [l0, l1, l2, l3] (.long v :: .int i :: .ref a :: st) K μ := zv_last hC dL_setSpace_8 hI hi k
theorem eL_setSpace_9 {x : zX} {MC MS cs sl : Nat} {st : List Value} {K : zK} {μ : zF} {l0 l1 l2 l3 : Option Value} (hC : hL_setSpace x MC MS) (k : zV x cs sl 15 [l0, l1, l2, l3] st K μ) : zV x cs sl 9 [l0, l1, l2, l3] st K μ := zv_goto hC dL_setSpace_9 (by decide) k
theorem eL_setSpace_12 {x : zX} {MC MS cs sl : Nat} {st : List Value} {K : zK} {μ : zF} {l0 l1 l3 : Option Value} {v : Nat} {u : Nat} (hC : hL_setSpace x MC MS) (k : zV x cs sl 13 [l0, l1, some (.ref u), some (.ref v)] st K μ) : zV x cs sl 12 [l0, l1, some (.ref u), l3] (.ref v :: st) K μ := zv_astore_n hC dL_setSpace_12 rfl rfl (Nat.le_of_ble_eq_true rfl) rfl k
theorem eL_setSpace_13 {x : zX} {MC MS cs sl : Nat} {st : List Value} {K : zK} {μ : zF} {l0 l1 l2 l3 : Option Value} (hC : hL_setSpace x MC MS) (k : zV x cs sl 14 [l0, l1, l2, l3] (.int (nI 1) :: st) K μ) : zV x cs sl 13 [l0, l1, l2, l3] st K μ := zv_iconst hC dL_setSpace_13 (by decide) k
theorem eL_setSpace_14 {x : zX} {MC MS cs sl : Nat} {K : zK} {μ : zF} {l0 l1 l2 l3 : Option Value} {v : Int32} {P : Option Value → zK → zF → Prop} {mc ms : Nat} (hC : hL_setSpace x MC MS) (hQ : zQg x (some .int) P mc ms) (hc : cs ≤ mc) (hs : sl ≤ ms) (hp : P (some (.int v)) K μ) : zV x cs sl 14 [l0, l1, l2, l3] [.int v] K μ := zr_i hC hQ dL_setSpace_14 hc hs hp
theorem eL_setSpace_15 {x : zX} {MC MS cs sl : Nat} {st : List Value} {K : zK} {μ : zF} {l0 l1 l2 l3 : Option Value} (hC : hL_setSpace x MC MS) (k : zV x cs sl 16 [l0, l1, l2, l3] (.int (nI 0) :: st) K μ) : zV x cs sl 15 [l0, l1, l2, l3] st K μ := zv_iconst hC dL_setSpace_15 (by decide) k
theorem eL_setSpace_16 {x : zX} {MC MS cs sl : Nat} {K : zK} {μ : zF} {l0 l1 l2 l3 : Option Value} {v : Int32} {P : Option Value → zK → zF → Prop} {mc ms : Nat} (hC : hL_setSpace x MC MS) (hQ : zQg x (some .int) P mc ms) (hc : cs ≤ mc) (hs : sl ≤ ms) (hp : P (some (.int v)) K μ) : zV x cs sl 16 [l0, l1, l2, l3] [.int v] K μ := zr_i hC hQ dL_setSpace_16 hc hs hp
set_option maxHeartbeats 1000000 in
theorem vL_setSpace {l : Launch} {g : zG} (hl : l.stackTraces = false) {K : zK} {μ : zF} {x oa : Nat} {S : zMs} {p2 : Int32} (h : zX8 K μ x S) (ho : zI K oa 13 1) : EL_setSpace l g 1 6 [.ref x, .int p2, .ref oa] K μ (zHp zc1 (zdo_setSpace p2 S) K μ x oa S) := by
  refine nL_setSpace hl (fun z hT hC hQ => ?_)
  refine eL_setSpace_0 hC ?_
  refine eL_setSpace_1 hC ?_
  refine eL_setSpace_2 hC ?_
  refine eL_setSpace_3 hC ?_
  refine eL_setSpace_4 hC (Nat.le_of_ble_eq_true rfl) (Nat.le_of_ble_eq_true rfl) (Nat.le_of_ble_eq_true rfl) h.o (vX8_setSpace hC.nt h) (fun E K1 μ1 hx => ?_) (zk_rp (fun r S1 K1 μ1 e1 e2 e3 e4 => ?_))
  · obtain rfl := zxo_setSpace hx.1
    refine ⟨12, zHd.a0 hC hT (by decide +kernel) (List.mem_cons_of_mem _ zw_147) (by decide) (by decide), fun q => ?_⟩
    refine eL_setSpace_12 hC ?_
    refine eL_setSpace_13 hC ?_
    exact eL_setSpace_14 hC hQ (Nat.le_of_ble_eq_true rfl) (Nat.le_of_ble_eq_true rfl) (zHp.ex (k := 1) hx (by decide) (by decide) (by decide +kernel))
  · refine eL_setSpace_7 hC ?_
    refine eL_setSpace_8 hC (e2.i ho) (vp_in_nI (by decide) (by decide)) ?_
    refine eL_setSpace_9 hC ?_
    refine eL_setSpace_15 hC ?_
    exact eL_setSpace_16 hC hQ (Nat.le_of_ble_eq_true rfl) (Nat.le_of_ble_eq_true rfl) (zHp.ok e1 e2 e3 e4)
end ZL_setSpace
section ZL_setPenalties
abbrev hL_setPenalties (x : zX) (MC MS : Nat) : Prop := zH x (.codeWith yL_setPenalties cL_setPenalties 6 (some .int) [(0, 12, 15, 15)] :: wsL_law) RL cL_setPenalties 6 8 136 MC MS
abbrev EL_setPenalties (l : Launch) (g : zG) (mc ms : Nat) (As : List Value) (K : zK) (μ : zF) (P : Option Value → zK → zF → Prop) : Prop := zEv l g yL_setPenalties (.codeWith yL_setPenalties cL_setPenalties 6 (some .int) [(0, 12, 15, 15)] :: wsL_law) 8 136 mc ms As K μ P
abbrev QL_setPenalties (l : Launch) (g : zG) (mc ms : Nat) (As : List Value) (K : zK) (μ : zF) (P : Option Value → zK → zF → Prop) (PX : String → zK → zF → Prop) : Prop := zEx l g yL_setPenalties (.codeWith yL_setPenalties cL_setPenalties 6 (some .int) [(0, 12, 15, 15)] :: wsL_law) 8 136 mc ms As K μ P PX
theorem nL_setPenalties {l : Launch} {g : zG} {mc ms : Nat} {p1 : Nat} {p2 : Int32} {p3 : Int32} {p4 : Int32} {p5 : Nat} {K : zK} {μ : zF} {P : Option Value → zK → zF → Prop} (hl : l.stackTraces = false) (body : ∀ x : zX, zTb x [(0, 12, 15, 15)] → hL_setPenalties x mc ms → zQg x (some .int) P mc ms → zV x 0 0 0 [some (.ref p1), some (.int p2), some (.int p3), some (.int p4), some (.ref p5), none] [] K μ) : EL_setPenalties l g mc ms [.ref p1, .int p2, .int p3, .int p4, .ref p5] K μ P := zEv.ofW hl (by decide) rfl (Nat.le_of_ble_eq_true rfl) (fun x _ _ => body x)
theorem eL_setPenalties_0 {x : zX} {MC MS cs sl : Nat} {st : List Value} {K : zK} {μ : zF} {l0 l1 l2 l3 l5 : Option Value} {a : Nat} (hC : hL_setPenalties x MC MS) (k : zV x cs sl 2 [l0, l1, l2, l3, some (.ref a), l5] (.ref a :: st) K μ) : zV x cs sl 0 [l0, l1, l2, l3, some (.ref a), l5] st K μ := zv_aload hC dL_setPenalties_0 rfl k
theorem eL_setPenalties_2 {x : zX} {MC MS cs sl : Nat} {st : List Value} {K : zK} {μ : zF} {l0 l1 l2 l3 l4 l5 : Option Value} (hC : hL_setPenalties x MC MS) (k : zV x cs sl 3 [l0, l1, l2, l3, l4, l5] (.int (nI 0) :: st) K μ) : zV x cs sl 2 [l0, l1, l2, l3, l4, l5] st K μ := zv_iconst hC dL_setPenalties_2 (by decide) k
theorem eL_setPenalties_3 {x : zX} {MC MS cs sl : Nat} {st : List Value} {K : zK} {μ : zF} {l1 l2 l3 l4 l5 : Option Value} {a : Nat} (hC : hL_setPenalties x MC MS) (k : zV x cs sl 4 [some (.ref a), l1, l2, l3, l4, l5] (.ref a :: st) K μ) : zV x cs sl 3 [some (.ref a), l1, l2, l3, l4, l5] st K μ := zv_aload_n hC dL_setPenalties_3 rfl rfl k
theorem eL_setPenalties_4 {x : zX} {MC MS cs sl : Nat} {st : List Value} {K : zK} {μ : zF} {l0 l2 l3 l4 l5 : Option Value} {v : Int32} (hC : hL_setPenalties x MC MS) (k : zV x cs sl 5 [l0, some (.int v), l2, l3, l4, l5] (.int v :: st) K μ) : zV x cs sl 4 [l0, some (.int v), l2, l3, l4, l5] st K μ := zv_iload_n hC dL_setPenalties_4 rfl rfl k
theorem eL_setPenalties_5 {x : zX} {MC MS cs sl : Nat} {st : List Value} {K : zK} {μ : zF} {l0 l1 l3 l4 l5 : Option Value} {v : Int32} (hC : hL_setPenalties x MC MS) (k : zV x cs sl 6 [l0, l1, some (.int v), l3, l4, l5] (.int v :: st) K μ) : zV x cs sl 5 [l0, l1, some (.int v), l3, l4, l5] st K μ := zv_iload_n hC dL_setPenalties_5 rfl rfl k
theorem eL_setPenalties_6 {x : zX} {MC MS cs sl : Nat} {st : List Value} {K : zK} {μ : zF} {l0 l1 l2 l4 l5 : Option Value} {v : Int32} (hC : hL_setPenalties x MC MS) (k : zV x cs sl 7 [l0, l1, l2, some (.int v), l4, l5] (.int v :: st) K μ) : zV x cs sl 6 [l0, l1, l2, some (.int v), l4, l5] st K μ := zv_iload_n hC dL_setPenalties_6 rfl rfl k
theorem eL_setPenalties_7 {x : zX} {MC MS cs sl : Nat} {st : List Value} {K : zK} {μ : zF} {l0 l1 l2 l3 l4 l5 : Option Value} {b : Nat} {q1 q2 q3 : Value} {P : Option Value → zK → zF → Prop} {mc ms : Nat} {PX : String → zK → zF → Prop} (hC : hL_setPenalties x MC MS) (hcat : (st.map fun v => v.category).sum ≤ 8) (hcm : cs + mc ≤ MC) (hsm : sl + ms ≤ MS) (hO : zO K b 8) (hE : QX8_setPenalties (xl x) (xg x) mc ms [.ref b, q1, q2, q3] K μ P PX) (kx : ∀ (E : String) (K1 : zK) (μ1 : zF), PX E K1 μ1 → ∃ h, zHd x RL 7 E h ∧ ∀ q, zV x (cs + mc) (sl + ms) h [l0, l1, l2, l3, l4, l5] [.ref q] K1 μ1) (kk : ∀ (v : Option Value) (K1 : zK) (μ1 : zF), P v K1 μ1 → zV x (cs + mc) (sl + ms) 10 [l0, l1, l2, l3, l4, l5] (v.toList ++ st) K1 μ1) : zV x cs sl 7 [l0, l1, l2, l3, l4, l5] (q3 :: q2 :: q1 :: .ref b :: st) K μ := zct_V hC (zgV zw_329 zw_330 zw_331 zw_2 zw_332) rfl (by decide +kernel) ⟨Nat.le_of_ble_eq_true rfl, Nat.le_of_ble_eq_true rfl⟩ (ci := 8) rfl rfl (by decide) (n := 3) (As := [q1, q2, q3]) rfl dL_setPenalties_7 rfl rfl hcat hcm hsm hO hE kx kk
theorem eL_setPenalties_10 {x : zX} {MC MS cs sl : Nat} {st : List Value} {K : zK} {μ : zF} {l0 l1 l2 l3 l4 l5 : Option Value} {v : Int32} (hC : hL_setPenalties x MC MS) (k : zV x cs sl 11 [l0, l1, l2, l3, l4, l5] (.long v.toInt64 :: st) K μ) : zV x cs sl 10 [l0, l1, l2, l3, l4, l5] (.int v :: st) K μ := zv_i2l hC rfl dL_setPenalties_10 k
theorem eL_setPenalties_11 {x : zX} {MC MS cs sl : Nat} {st : List Value} {K : zK} {μ : zF} {l0 l1 l2 l3 l4 l5 : Option Value} {a n : Nat} {i : Int32} {v : Int64} (hC : hL_setPenalties x MC MS) (hI : zI K a 13 n) (hi : vp_in i n) (k : zV x cs sl 12 [l0, l1, l2, l3, l4, l5] st (zKl K a i.toNatClampNeg v) μ) : zV x cs sl 11 [l0, l1, l2, l3, l4, l5] (.long v :: .int i :: .ref a :: st) K μ := zv_last hC dL_setPenalties_11 hI hi k
theorem eL_setPenalties_12 {x : zX} {MC MS cs sl : Nat} {st : List Value} {K : zK} {μ : zF} {l0 l1 l2 l3 l4 l5 : Option Value} (hC : hL_setPenalties x MC MS) (k : zV x cs sl 19 [l0, l1, l2, l3, l4, l5] st K μ) : zV x cs sl 12 [l0, l1, l2, l3, l4, l5] st K μ := zv_goto hC dL_setPenalties_12 (by decide) k
theorem eL_setPenalties_15 {x : zX} {MC MS cs sl : Nat} {st : List Value} {K : zK} {μ : zF} {l0 l1 l2 l3 l5 : Option Value} {v : Nat} {u : Nat} (hC : hL_setPenalties x MC MS) (k : zV x cs sl 17 [l0, l1, l2, l3, some (.ref u), some (.ref v)] st K μ) : zV x cs sl 15 [l0, l1, l2, l3, some (.ref u), l5] (.ref v :: st) K μ := zv_astore hC dL_setPenalties_15 rfl (Nat.le_of_ble_eq_true rfl) rfl k
theorem eL_setPenalties_17 {x : zX} {MC MS cs sl : Nat} {st : List Value} {K : zK} {μ : zF} {l0 l1 l2 l3 l4 l5 : Option Value} (hC : hL_setPenalties x MC MS) (k : zV x cs sl 18 [l0, l1, l2, l3, l4, l5] (.int (nI 1) :: st) K μ) : zV x cs sl 17 [l0, l1, l2, l3, l4, l5] st K μ := zv_iconst hC dL_setPenalties_17 (by decide) k
theorem eL_setPenalties_18 {x : zX} {MC MS cs sl : Nat} {K : zK} {μ : zF} {l0 l1 l2 l3 l4 l5 : Option Value} {v : Int32} {P : Option Value → zK → zF → Prop} {mc ms : Nat} (hC : hL_setPenalties x MC MS) (hQ : zQg x (some .int) P mc ms) (hc : cs ≤ mc) (hs : sl ≤ ms) (hp : P (some (.int v)) K μ) : zV x cs sl 18 [l0, l1, l2, l3, l4, l5] [.int v] K μ := zr_i hC hQ dL_setPenalties_18 hc hs hp
theorem eL_setPenalties_19 {x : zX} {MC MS cs sl : Nat} {st : List Value} {K : zK} {μ : zF} {l0 l1 l2 l3 l4 l5 : Option Value} (hC : hL_setPenalties x MC MS) (k : zV x cs sl 20 [l0, l1, l2, l3, l4, l5] (.int (nI 0) :: st) K μ) : zV x cs sl 19 [l0, l1, l2, l3, l4, l5] st K μ := zv_iconst hC dL_setPenalties_19 (by decide) k
theorem eL_setPenalties_20 {x : zX} {MC MS cs sl : Nat} {K : zK} {μ : zF} {l0 l1 l2 l3 l4 l5 : Option Value} {v : Int32} {P : Option Value → zK → zF → Prop} {mc ms : Nat} (hC : hL_setPenalties x MC MS) (hQ : zQg x (some .int) P mc ms) (hc : cs ≤ mc) (hs : sl ≤ ms) (hp : P (some (.int v)) K μ) : zV x cs sl 20 [l0, l1, l2, l3, l4, l5] [.int v] K μ := zr_i hC hQ dL_setPenalties_20 hc hs hp
set_option maxHeartbeats 1000000 in
theorem vL_setPenalties {l : Launch} {g : zG} (hl : l.stackTraces = false) {K : zK} {μ : zF} {x oa : Nat} {S : zMs} {p2 : Int32} {p3 : Int32} {p4 : Int32} (h : zX8 K μ x S) (ho : zI K oa 13 1) : EL_setPenalties l g 3 18 [.ref x, .int p2, .int p3, .int p4, .ref oa] K μ (zHp zc1 (zdo_setPenalties p2 p3 p4 S) K μ x oa S) := by
  refine nL_setPenalties hl (fun z hT hC hQ => ?_)
  refine eL_setPenalties_0 hC ?_
  refine eL_setPenalties_2 hC ?_
  refine eL_setPenalties_3 hC ?_
  refine eL_setPenalties_4 hC ?_
  refine eL_setPenalties_5 hC ?_
  refine eL_setPenalties_6 hC ?_
  refine eL_setPenalties_7 hC (Nat.le_of_ble_eq_true rfl) (Nat.le_of_ble_eq_true rfl) (Nat.le_of_ble_eq_true rfl) h.o (vX8_setPenalties hC.nt h) (fun E K1 μ1 hx => ?_) (zk_rp (fun r S1 K1 μ1 e1 e2 e3 e4 => ?_))
  · obtain rfl := zxo_setPenalties hx.1
    refine ⟨15, zHd.a0 hC hT (by decide +kernel) (List.mem_cons_of_mem _ zw_147) (by decide) (by decide), fun q => ?_⟩
    refine eL_setPenalties_15 hC ?_
    refine eL_setPenalties_17 hC ?_
    exact eL_setPenalties_18 hC hQ (Nat.le_of_ble_eq_true rfl) (Nat.le_of_ble_eq_true rfl) (zHp.ex (k := 1) hx (by decide) (by decide) (by decide +kernel))
  · refine eL_setPenalties_10 hC ?_
    refine eL_setPenalties_11 hC (e2.i ho) (vp_in_nI (by decide) (by decide)) ?_
    refine eL_setPenalties_12 hC ?_
    refine eL_setPenalties_19 hC ?_
    exact eL_setPenalties_20 hC hQ (Nat.le_of_ble_eq_true rfl) (Nat.le_of_ble_eq_true rfl) (zHp.ok e1 e2 e3 e4)
end ZL_setPenalties
section ZL_setPage
abbrev hL_setPage (x : zX) (MC MS : Nat) : Prop := zH x (.codeWith yL_setPage cL_setPage 4 (some .int) [(0, 9, 12, 15)] :: wsL_law) RL cL_setPage 4 8 134 MC MS
abbrev EL_setPage (l : Launch) (g : zG) (mc ms : Nat) (As : List Value) (K : zK) (μ : zF) (P : Option Value → zK → zF → Prop) : Prop := zEv l g yL_setPage (.codeWith yL_setPage cL_setPage 4 (some .int) [(0, 9, 12, 15)] :: wsL_law) 8 134 mc ms As K μ P
abbrev QL_setPage (l : Launch) (g : zG) (mc ms : Nat) (As : List Value) (K : zK) (μ : zF) (P : Option Value → zK → zF → Prop) (PX : String → zK → zF → Prop) : Prop := zEx l g yL_setPage (.codeWith yL_setPage cL_setPage 4 (some .int) [(0, 9, 12, 15)] :: wsL_law) 8 134 mc ms As K μ P PX
theorem nL_setPage {l : Launch} {g : zG} {mc ms : Nat} {p1 : Nat} {p2 : Int32} {p3 : Nat} {K : zK} {μ : zF} {P : Option Value → zK → zF → Prop} (hl : l.stackTraces = false) (body : ∀ x : zX, zTb x [(0, 9, 12, 15)] → hL_setPage x mc ms → zQg x (some .int) P mc ms → zV x 0 0 0 [some (.ref p1), some (.int p2), some (.ref p3), none] [] K μ) : EL_setPage l g mc ms [.ref p1, .int p2, .ref p3] K μ P := zEv.ofW hl (by decide) rfl (Nat.le_of_ble_eq_true rfl) (fun x _ _ => body x)
theorem eL_setPage_0 {x : zX} {MC MS cs sl : Nat} {st : List Value} {K : zK} {μ : zF} {l0 l1 l3 : Option Value} {a : Nat} (hC : hL_setPage x MC MS) (k : zV x cs sl 1 [l0, l1, some (.ref a), l3] (.ref a :: st) K μ) : zV x cs sl 0 [l0, l1, some (.ref a), l3] st K μ := zv_aload_n hC dL_setPage_0 rfl rfl k
theorem eL_setPage_1 {x : zX} {MC MS cs sl : Nat} {st : List Value} {K : zK} {μ : zF} {l0 l1 l2 l3 : Option Value} (hC : hL_setPage x MC MS) (k : zV x cs sl 2 [l0, l1, l2, l3] (.int (nI 0) :: st) K μ) : zV x cs sl 1 [l0, l1, l2, l3] st K μ := zv_iconst hC dL_setPage_1 (by decide) k
theorem eL_setPage_2 {x : zX} {MC MS cs sl : Nat} {st : List Value} {K : zK} {μ : zF} {l1 l2 l3 : Option Value} {a : Nat} (hC : hL_setPage x MC MS) (k : zV x cs sl 3 [some (.ref a), l1, l2, l3] (.ref a :: st) K μ) : zV x cs sl 2 [some (.ref a), l1, l2, l3] st K μ := zv_aload_n hC dL_setPage_2 rfl rfl k
theorem eL_setPage_3 {x : zX} {MC MS cs sl : Nat} {st : List Value} {K : zK} {μ : zF} {l0 l2 l3 : Option Value} {v : Int32} (hC : hL_setPage x MC MS) (k : zV x cs sl 4 [l0, some (.int v), l2, l3] (.int v :: st) K μ) : zV x cs sl 3 [l0, some (.int v), l2, l3] st K μ := zv_iload_n hC dL_setPage_3 rfl rfl k
theorem eL_setPage_4 {x : zX} {MC MS cs sl : Nat} {st : List Value} {K : zK} {μ : zF} {l0 l1 l2 l3 : Option Value} {b : Nat} {q1 : Value} {P : Option Value → zK → zF → Prop} {mc ms : Nat} {PX : String → zK → zF → Prop} (hC : hL_setPage x MC MS) (hcat : (st.map fun v => v.category).sum ≤ 8) (hcm : cs + mc ≤ MC) (hsm : sl + ms ≤ MS) (hO : zO K b 8) (hE : QX8_setPage (xl x) (xg x) mc ms [.ref b, q1] K μ P PX) (kx : ∀ (E : String) (K1 : zK) (μ1 : zF), PX E K1 μ1 → ∃ h, zHd x RL 4 E h ∧ ∀ q, zV x (cs + mc) (sl + ms) h [l0, l1, l2, l3] [.ref q] K1 μ1) (kk : ∀ (v : Option Value) (K1 : zK) (μ1 : zF), P v K1 μ1 → zV x (cs + mc) (sl + ms) 7 [l0, l1, l2, l3] (v.toList ++ st) K1 μ1) : zV x cs sl 4 [l0, l1, l2, l3] (q1 :: .ref b :: st) K μ := zct_V hC (zgV zw_340 zw_341 zw_342 zw_2 zw_343) rfl (by decide +kernel) ⟨Nat.le_of_ble_eq_true rfl, Nat.le_of_ble_eq_true rfl⟩ (ci := 8) rfl rfl (by decide) (n := 1) (As := [q1]) rfl dL_setPage_4 rfl rfl hcat hcm hsm hO hE kx kk
theorem eL_setPage_7 {x : zX} {MC MS cs sl : Nat} {st : List Value} {K : zK} {μ : zF} {l0 l1 l2 l3 : Option Value} {v : Int32} (hC : hL_setPage x MC MS) (k : zV x cs sl 8 [l0, l1, l2, l3] (.long v.toInt64 :: st) K μ) : zV x cs sl 7 [l0, l1, l2, l3] (.int v :: st) K μ := zv_i2l hC rfl dL_setPage_7 k
theorem eL_setPage_8 {x : zX} {MC MS cs sl : Nat} {st : List Value} {K : zK} {μ : zF} {l0 l1 l2 l3 : Option Value} {a n : Nat} {i : Int32} {v : Int64} (hC : hL_setPage x MC MS) (hI : zI K a 13 n) (hi : vp_in i n) (k : zV x cs sl 9 [l0, l1, l2, l3] st (zKl K a i.toNatClampNeg v) μ) : zV x cs sl 8 [l0, l1, l2, l3] (.long v :: .int i :: .ref a :: st) K μ := zv_last hC dL_setPage_8 hI hi k
theorem eL_setPage_9 {x : zX} {MC MS cs sl : Nat} {st : List Value} {K : zK} {μ : zF} {l0 l1 l2 l3 : Option Value} (hC : hL_setPage x MC MS) (k : zV x cs sl 15 [l0, l1, l2, l3] st K μ) : zV x cs sl 9 [l0, l1, l2, l3] st K μ := zv_goto hC dL_setPage_9 (by decide) k
theorem eL_setPage_12 {x : zX} {MC MS cs sl : Nat} {st : List Value} {K : zK} {μ : zF} {l0 l1 l3 : Option Value} {v : Nat} {u : Nat} (hC : hL_setPage x MC MS) (k : zV x cs sl 13 [l0, l1, some (.ref u), some (.ref v)] st K μ) : zV x cs sl 12 [l0, l1, some (.ref u), l3] (.ref v :: st) K μ := zv_astore_n hC dL_setPage_12 rfl rfl (Nat.le_of_ble_eq_true rfl) rfl k
theorem eL_setPage_13 {x : zX} {MC MS cs sl : Nat} {st : List Value} {K : zK} {μ : zF} {l0 l1 l2 l3 : Option Value} (hC : hL_setPage x MC MS) (k : zV x cs sl 14 [l0, l1, l2, l3] (.int (nI 1) :: st) K μ) : zV x cs sl 13 [l0, l1, l2, l3] st K μ := zv_iconst hC dL_setPage_13 (by decide) k
theorem eL_setPage_14 {x : zX} {MC MS cs sl : Nat} {K : zK} {μ : zF} {l0 l1 l2 l3 : Option Value} {v : Int32} {P : Option Value → zK → zF → Prop} {mc ms : Nat} (hC : hL_setPage x MC MS) (hQ : zQg x (some .int) P mc ms) (hc : cs ≤ mc) (hs : sl ≤ ms) (hp : P (some (.int v)) K μ) : zV x cs sl 14 [l0, l1, l2, l3] [.int v] K μ := zr_i hC hQ dL_setPage_14 hc hs hp
theorem eL_setPage_15 {x : zX} {MC MS cs sl : Nat} {st : List Value} {K : zK} {μ : zF} {l0 l1 l2 l3 : Option Value} (hC : hL_setPage x MC MS) (k : zV x cs sl 16 [l0, l1, l2, l3] (.int (nI 0) :: st) K μ) : zV x cs sl 15 [l0, l1, l2, l3] st K μ := zv_iconst hC dL_setPage_15 (by decide) k
theorem eL_setPage_16 {x : zX} {MC MS cs sl : Nat} {K : zK} {μ : zF} {l0 l1 l2 l3 : Option Value} {v : Int32} {P : Option Value → zK → zF → Prop} {mc ms : Nat} (hC : hL_setPage x MC MS) (hQ : zQg x (some .int) P mc ms) (hc : cs ≤ mc) (hs : sl ≤ ms) (hp : P (some (.int v)) K μ) : zV x cs sl 16 [l0, l1, l2, l3] [.int v] K μ := zr_i hC hQ dL_setPage_16 hc hs hp
set_option maxHeartbeats 1000000 in
theorem vL_setPage {l : Launch} {g : zG} (hl : l.stackTraces = false) {K : zK} {μ : zF} {x oa : Nat} {S : zMs} {p2 : Int32} (h : zX8 K μ x S) (ho : zI K oa 13 1) : EL_setPage l g 1 6 [.ref x, .int p2, .ref oa] K μ (zHp zc1 (zdo_setPage p2 S) K μ x oa S) := by
  refine nL_setPage hl (fun z hT hC hQ => ?_)
  refine eL_setPage_0 hC ?_
  refine eL_setPage_1 hC ?_
  refine eL_setPage_2 hC ?_
  refine eL_setPage_3 hC ?_
  refine eL_setPage_4 hC (Nat.le_of_ble_eq_true rfl) (Nat.le_of_ble_eq_true rfl) (Nat.le_of_ble_eq_true rfl) h.o (vX8_setPage hC.nt h) (fun E K1 μ1 hx => ?_) (zk_rp (fun r S1 K1 μ1 e1 e2 e3 e4 => ?_))
  · obtain rfl := zxo_setPage hx.1
    refine ⟨12, zHd.a0 hC hT (by decide +kernel) (List.mem_cons_of_mem _ zw_147) (by decide) (by decide), fun q => ?_⟩
    refine eL_setPage_12 hC ?_
    refine eL_setPage_13 hC ?_
    exact eL_setPage_14 hC hQ (Nat.le_of_ble_eq_true rfl) (Nat.le_of_ble_eq_true rfl) (zHp.ex (k := 1) hx (by decide) (by decide) (by decide +kernel))
  · refine eL_setPage_7 hC ?_
    refine eL_setPage_8 hC (e2.i ho) (vp_in_nI (by decide) (by decide)) ?_
    refine eL_setPage_9 hC ?_
    refine eL_setPage_15 hC ?_
    exact eL_setPage_16 hC hQ (Nat.le_of_ble_eq_true rfl) (Nat.le_of_ble_eq_true rfl) (zHp.ok e1 e2 e3 e4)
end ZL_setPage
section ZL_lineOf
abbrev hL_lineOf (x : zX) (MC MS : Nat) : Prop := zH x (.codeWith yL_lineOf cL_lineOf 4 (some .int) [(0, 9, 12, 13)] :: wsL_law) RL cL_lineOf 4 8 164 MC MS
abbrev EL_lineOf (l : Launch) (g : zG) (mc ms : Nat) (As : List Value) (K : zK) (μ : zF) (P : Option Value → zK → zF → Prop) : Prop := zEv l g yL_lineOf (.codeWith yL_lineOf cL_lineOf 4 (some .int) [(0, 9, 12, 13)] :: wsL_law) 8 164 mc ms As K μ P
abbrev QL_lineOf (l : Launch) (g : zG) (mc ms : Nat) (As : List Value) (K : zK) (μ : zF) (P : Option Value → zK → zF → Prop) (PX : String → zK → zF → Prop) : Prop := zEx l g yL_lineOf (.codeWith yL_lineOf cL_lineOf 4 (some .int) [(0, 9, 12, 13)] :: wsL_law) 8 164 mc ms As K μ P PX
theorem nL_lineOf {l : Launch} {g : zG} {mc ms : Nat} {p1 : Nat} {p2 : Int32} {p3 : Nat} {K : zK} {μ : zF} {P : Option Value → zK → zF → Prop} (hl : l.stackTraces = false) (body : ∀ x : zX, zTb x [(0, 9, 12, 13)] → hL_lineOf x mc ms → zQg x (some .int) P mc ms → zV x 0 0 0 [some (.ref p1), some (.int p2), some (.ref p3), none] [] K μ) : EL_lineOf l g mc ms [.ref p1, .int p2, .ref p3] K μ P := zEv.ofW hl (by decide) rfl (Nat.le_of_ble_eq_true rfl) (fun x _ _ => body x)
theorem eL_lineOf_0 {x : zX} {MC MS cs sl : Nat} {st : List Value} {K : zK} {μ : zF} {l0 l1 l3 : Option Value} {a : Nat} (hC : hL_lineOf x MC MS) (k : zV x cs sl 1 [l0, l1, some (.ref a), l3] (.ref a :: st) K μ) : zV x cs sl 0 [l0, l1, some (.ref a), l3] st K μ := zv_aload_n hC dL_lineOf_0 rfl rfl k
theorem eL_lineOf_1 {x : zX} {MC MS cs sl : Nat} {st : List Value} {K : zK} {μ : zF} {l0 l1 l2 l3 : Option Value} (hC : hL_lineOf x MC MS) (k : zV x cs sl 2 [l0, l1, l2, l3] (.int (nI 0) :: st) K μ) : zV x cs sl 1 [l0, l1, l2, l3] st K μ := zv_iconst hC dL_lineOf_1 (by decide) k
theorem eL_lineOf_2 {x : zX} {MC MS cs sl : Nat} {st : List Value} {K : zK} {μ : zF} {l1 l2 l3 : Option Value} {a : Nat} (hC : hL_lineOf x MC MS) (k : zV x cs sl 3 [some (.ref a), l1, l2, l3] (.ref a :: st) K μ) : zV x cs sl 2 [some (.ref a), l1, l2, l3] st K μ := zv_aload_n hC dL_lineOf_2 rfl rfl k
theorem eL_lineOf_3 {x : zX} {MC MS cs sl : Nat} {st : List Value} {K : zK} {μ : zF} {l0 l2 l3 : Option Value} {v : Int32} (hC : hL_lineOf x MC MS) (k : zV x cs sl 4 [l0, some (.int v), l2, l3] (.int v :: st) K μ) : zV x cs sl 3 [l0, some (.int v), l2, l3] st K μ := zv_iload_n hC dL_lineOf_3 rfl rfl k
theorem eL_lineOf_4 {x : zX} {MC MS cs sl : Nat} {st : List Value} {K : zK} {μ : zF} {l0 l1 l2 l3 : Option Value} {b : Nat} {q1 : Value} {P : Option Value → zK → zF → Prop} {mc ms : Nat} {PX : String → zK → zF → Prop} (hC : hL_lineOf x MC MS) (hcat : (st.map fun v => v.category).sum ≤ 8) (hcm : cs + mc ≤ MC) (hsm : sl + ms ≤ MS) (hO : zO K b 8) (hE : QX8_lineOf (xl x) (xg x) mc ms [.ref b, q1] K μ P PX) (kx : ∀ (E : String) (K1 : zK) (μ1 : zF), PX E K1 μ1 → ∃ h, zHd x RL 4 E h ∧ ∀ q, zV x (cs + mc) (sl + ms) h [l0, l1, l2, l3] [.ref q] K1 μ1) (kk : ∀ (v : Option Value) (K1 : zK) (μ1 : zF), P v K1 μ1 → zV x (cs + mc) (sl + ms) 7 [l0, l1, l2, l3] (v.toList ++ st) K1 μ1) : zV x cs sl 4 [l0, l1, l2, l3] (q1 :: .ref b :: st) K μ := zct_V hC (zgV zw_515 zw_516 zw_517 zw_2 zw_518) rfl (by decide +kernel) ⟨Nat.le_of_ble_eq_true rfl, Nat.le_of_ble_eq_true rfl⟩ (ci := 8) rfl rfl (by decide) (n := 1) (As := [q1]) rfl dL_lineOf_4 rfl rfl hcat hcm hsm hO hE kx kk
theorem eL_lineOf_7 {x : zX} {MC MS cs sl : Nat} {st : List Value} {K : zK} {μ : zF} {l0 l1 l2 l3 : Option Value} {v : Int32} (hC : hL_lineOf x MC MS) (k : zV x cs sl 8 [l0, l1, l2, l3] (.long v.toInt64 :: st) K μ) : zV x cs sl 7 [l0, l1, l2, l3] (.int v :: st) K μ := zv_i2l hC rfl dL_lineOf_7 k
theorem eL_lineOf_8 {x : zX} {MC MS cs sl : Nat} {st : List Value} {K : zK} {μ : zF} {l0 l1 l2 l3 : Option Value} {a n : Nat} {i : Int32} {v : Int64} (hC : hL_lineOf x MC MS) (hI : zI K a 13 n) (hi : vp_in i n) (k : zV x cs sl 9 [l0, l1, l2, l3] st (zKl K a i.toNatClampNeg v) μ) : zV x cs sl 8 [l0, l1, l2, l3] (.long v :: .int i :: .ref a :: st) K μ := zv_last hC dL_lineOf_8 hI hi k
theorem eL_lineOf_9 {x : zX} {MC MS cs sl : Nat} {st : List Value} {K : zK} {μ : zF} {l0 l1 l2 l3 : Option Value} (hC : hL_lineOf x MC MS) (k : zV x cs sl 15 [l0, l1, l2, l3] st K μ) : zV x cs sl 9 [l0, l1, l2, l3] st K μ := zv_goto hC dL_lineOf_9 (by decide) k
theorem eL_lineOf_12 {x : zX} {MC MS cs sl : Nat} {st : List Value} {K : zK} {μ : zF} {l0 l1 l3 : Option Value} {v : Nat} {u : Nat} (hC : hL_lineOf x MC MS) (k : zV x cs sl 13 [l0, l1, some (.ref u), some (.ref v)] st K μ) : zV x cs sl 12 [l0, l1, some (.ref u), l3] (.ref v :: st) K μ := zv_astore_n hC dL_lineOf_12 rfl rfl (Nat.le_of_ble_eq_true rfl) rfl k
theorem eL_lineOf_13 {x : zX} {MC MS cs sl : Nat} {st : List Value} {K : zK} {μ : zF} {l0 l1 l2 l3 : Option Value} (hC : hL_lineOf x MC MS) (k : zV x cs sl 14 [l0, l1, l2, l3] (.int (nI 1) :: st) K μ) : zV x cs sl 13 [l0, l1, l2, l3] st K μ := zv_iconst hC dL_lineOf_13 (by decide) k
theorem eL_lineOf_14 {x : zX} {MC MS cs sl : Nat} {K : zK} {μ : zF} {l0 l1 l2 l3 : Option Value} {v : Int32} {P : Option Value → zK → zF → Prop} {mc ms : Nat} (hC : hL_lineOf x MC MS) (hQ : zQg x (some .int) P mc ms) (hc : cs ≤ mc) (hs : sl ≤ ms) (hp : P (some (.int v)) K μ) : zV x cs sl 14 [l0, l1, l2, l3] [.int v] K μ := zr_i hC hQ dL_lineOf_14 hc hs hp
theorem eL_lineOf_15 {x : zX} {MC MS cs sl : Nat} {st : List Value} {K : zK} {μ : zF} {l0 l1 l2 l3 : Option Value} (hC : hL_lineOf x MC MS) (k : zV x cs sl 16 [l0, l1, l2, l3] (.int (nI 0) :: st) K μ) : zV x cs sl 15 [l0, l1, l2, l3] st K μ := zv_iconst hC dL_lineOf_15 (by decide) k
theorem eL_lineOf_16 {x : zX} {MC MS cs sl : Nat} {K : zK} {μ : zF} {l0 l1 l2 l3 : Option Value} {v : Int32} {P : Option Value → zK → zF → Prop} {mc ms : Nat} (hC : hL_lineOf x MC MS) (hQ : zQg x (some .int) P mc ms) (hc : cs ≤ mc) (hs : sl ≤ ms) (hp : P (some (.int v)) K μ) : zV x cs sl 16 [l0, l1, l2, l3] [.int v] K μ := zr_i hC hQ dL_lineOf_16 hc hs hp
set_option maxHeartbeats 1000000 in
theorem vL_lineOf {l : Launch} {g : zG} (hl : l.stackTraces = false) {K : zK} {μ : zF} {x oa : Nat} {S : zMs} {p2 : Int32} (h : zX8 K μ x S) (ho : zI K oa 13 1) : EL_lineOf l g 1 6 [.ref x, .int p2, .ref oa] K μ (zHp zc1 (zdo_lineOf p2 S) K μ x oa S) := by
  refine nL_lineOf hl (fun z hT hC hQ => ?_)
  refine eL_lineOf_0 hC ?_
  refine eL_lineOf_1 hC ?_
  refine eL_lineOf_2 hC ?_
  refine eL_lineOf_3 hC ?_
  refine eL_lineOf_4 hC (Nat.le_of_ble_eq_true rfl) (Nat.le_of_ble_eq_true rfl) (Nat.le_of_ble_eq_true rfl) h.o (vX8_lineOf hC.nt h) (fun E K1 μ1 hx => ?_) (zk_rp (fun r S1 K1 μ1 e1 e2 e3 e4 => ?_))
  · obtain rfl := zxo_lineOf hx.1
    refine ⟨12, zHd.a0 hC hT (by decide +kernel) (List.mem_cons_of_mem _ zw_146) (by decide) (by decide), fun q => ?_⟩
    refine eL_lineOf_12 hC ?_
    refine eL_lineOf_13 hC ?_
    exact eL_lineOf_14 hC hQ (Nat.le_of_ble_eq_true rfl) (Nat.le_of_ble_eq_true rfl) (zHp.ex (k := 1) hx (by decide) (by decide) (by decide +kernel))
  · refine eL_lineOf_7 hC ?_
    refine eL_lineOf_8 hC (e2.i ho) (vp_in_nI (by decide) (by decide)) ?_
    refine eL_lineOf_9 hC ?_
    refine eL_lineOf_15 hC ?_
    exact eL_lineOf_16 hC hQ (Nat.le_of_ble_eq_true rfl) (Nat.le_of_ble_eq_true rfl) (zHp.ok e1 e2 e3 e4)
end ZL_lineOf
section ZL_firstWord
abbrev hL_firstWord (x : zX) (MC MS : Nat) : Prop := zH x (.codeWith yL_firstWord cL_firstWord 4 (some .int) [(0, 9, 12, 13)] :: wsL_law) RL cL_firstWord 4 8 164 MC MS
abbrev EL_firstWord (l : Launch) (g : zG) (mc ms : Nat) (As : List Value) (K : zK) (μ : zF) (P : Option Value → zK → zF → Prop) : Prop := zEv l g yL_firstWord (.codeWith yL_firstWord cL_firstWord 4 (some .int) [(0, 9, 12, 13)] :: wsL_law) 8 164 mc ms As K μ P
abbrev QL_firstWord (l : Launch) (g : zG) (mc ms : Nat) (As : List Value) (K : zK) (μ : zF) (P : Option Value → zK → zF → Prop) (PX : String → zK → zF → Prop) : Prop := zEx l g yL_firstWord (.codeWith yL_firstWord cL_firstWord 4 (some .int) [(0, 9, 12, 13)] :: wsL_law) 8 164 mc ms As K μ P PX
theorem nL_firstWord {l : Launch} {g : zG} {mc ms : Nat} {p1 : Nat} {p2 : Int32} {p3 : Nat} {K : zK} {μ : zF} {P : Option Value → zK → zF → Prop} (hl : l.stackTraces = false) (body : ∀ x : zX, zTb x [(0, 9, 12, 13)] → hL_firstWord x mc ms → zQg x (some .int) P mc ms → zV x 0 0 0 [some (.ref p1), some (.int p2), some (.ref p3), none] [] K μ) : EL_firstWord l g mc ms [.ref p1, .int p2, .ref p3] K μ P := zEv.ofW hl (by decide) rfl (Nat.le_of_ble_eq_true rfl) (fun x _ _ => body x)
theorem eL_firstWord_0 {x : zX} {MC MS cs sl : Nat} {st : List Value} {K : zK} {μ : zF} {l0 l1 l3 : Option Value} {a : Nat} (hC : hL_firstWord x MC MS) (k : zV x cs sl 1 [l0, l1, some (.ref a), l3] (.ref a :: st) K μ) : zV x cs sl 0 [l0, l1, some (.ref a), l3] st K μ := zv_aload_n hC dL_firstWord_0 rfl rfl k
theorem eL_firstWord_1 {x : zX} {MC MS cs sl : Nat} {st : List Value} {K : zK} {μ : zF} {l0 l1 l2 l3 : Option Value} (hC : hL_firstWord x MC MS) (k : zV x cs sl 2 [l0, l1, l2, l3] (.int (nI 0) :: st) K μ) : zV x cs sl 1 [l0, l1, l2, l3] st K μ := zv_iconst hC dL_firstWord_1 (by decide) k
theorem eL_firstWord_2 {x : zX} {MC MS cs sl : Nat} {st : List Value} {K : zK} {μ : zF} {l1 l2 l3 : Option Value} {a : Nat} (hC : hL_firstWord x MC MS) (k : zV x cs sl 3 [some (.ref a), l1, l2, l3] (.ref a :: st) K μ) : zV x cs sl 2 [some (.ref a), l1, l2, l3] st K μ := zv_aload_n hC dL_firstWord_2 rfl rfl k
theorem eL_firstWord_3 {x : zX} {MC MS cs sl : Nat} {st : List Value} {K : zK} {μ : zF} {l0 l2 l3 : Option Value} {v : Int32} (hC : hL_firstWord x MC MS) (k : zV x cs sl 4 [l0, some (.int v), l2, l3] (.int v :: st) K μ) : zV x cs sl 3 [l0, some (.int v), l2, l3] st K μ := zv_iload_n hC dL_firstWord_3 rfl rfl k
theorem eL_firstWord_4 {x : zX} {MC MS cs sl : Nat} {st : List Value} {K : zK} {μ : zF} {l0 l1 l2 l3 : Option Value} {b : Nat} {q1 : Value} {P : Option Value → zK → zF → Prop} {mc ms : Nat} {PX : String → zK → zF → Prop} (hC : hL_firstWord x MC MS) (hcat : (st.map fun v => v.category).sum ≤ 8) (hcm : cs + mc ≤ MC) (hsm : sl + ms ≤ MS) (hO : zO K b 8) (hE : QX8_firstWord (xl x) (xg x) mc ms [.ref b, q1] K μ P PX) (kx : ∀ (E : String) (K1 : zK) (μ1 : zF), PX E K1 μ1 → ∃ h, zHd x RL 4 E h ∧ ∀ q, zV x (cs + mc) (sl + ms) h [l0, l1, l2, l3] [.ref q] K1 μ1) (kk : ∀ (v : Option Value) (K1 : zK) (μ1 : zF), P v K1 μ1 → zV x (cs + mc) (sl + ms) 7 [l0, l1, l2, l3] (v.toList ++ st) K1 μ1) : zV x cs sl 4 [l0, l1, l2, l3] (q1 :: .ref b :: st) K μ := zct_V hC (zgV zw_530 zw_531 zw_532 zw_2 zw_533) rfl (by decide +kernel) ⟨Nat.le_of_ble_eq_true rfl, Nat.le_of_ble_eq_true rfl⟩ (ci := 8) rfl rfl (by decide) (n := 1) (As := [q1]) rfl dL_firstWord_4 rfl rfl hcat hcm hsm hO hE kx kk
theorem eL_firstWord_7 {x : zX} {MC MS cs sl : Nat} {st : List Value} {K : zK} {μ : zF} {l0 l1 l2 l3 : Option Value} {v : Int32} (hC : hL_firstWord x MC MS) (k : zV x cs sl 8 [l0, l1, l2, l3] (.long v.toInt64 :: st) K μ) : zV x cs sl 7 [l0, l1, l2, l3] (.int v :: st) K μ := zv_i2l hC rfl dL_firstWord_7 k
theorem eL_firstWord_8 {x : zX} {MC MS cs sl : Nat} {st : List Value} {K : zK} {μ : zF} {l0 l1 l2 l3 : Option Value} {a n : Nat} {i : Int32} {v : Int64} (hC : hL_firstWord x MC MS) (hI : zI K a 13 n) (hi : vp_in i n) (k : zV x cs sl 9 [l0, l1, l2, l3] st (zKl K a i.toNatClampNeg v) μ) : zV x cs sl 8 [l0, l1, l2, l3] (.long v :: .int i :: .ref a :: st) K μ := zv_last hC dL_firstWord_8 hI hi k
theorem eL_firstWord_9 {x : zX} {MC MS cs sl : Nat} {st : List Value} {K : zK} {μ : zF} {l0 l1 l2 l3 : Option Value} (hC : hL_firstWord x MC MS) (k : zV x cs sl 15 [l0, l1, l2, l3] st K μ) : zV x cs sl 9 [l0, l1, l2, l3] st K μ := zv_goto hC dL_firstWord_9 (by decide) k
theorem eL_firstWord_12 {x : zX} {MC MS cs sl : Nat} {st : List Value} {K : zK} {μ : zF} {l0 l1 l3 : Option Value} {v : Nat} {u : Nat} (hC : hL_firstWord x MC MS) (k : zV x cs sl 13 [l0, l1, some (.ref u), some (.ref v)] st K μ) : zV x cs sl 12 [l0, l1, some (.ref u), l3] (.ref v :: st) K μ := zv_astore_n hC dL_firstWord_12 rfl rfl (Nat.le_of_ble_eq_true rfl) rfl k
theorem eL_firstWord_13 {x : zX} {MC MS cs sl : Nat} {st : List Value} {K : zK} {μ : zF} {l0 l1 l2 l3 : Option Value} (hC : hL_firstWord x MC MS) (k : zV x cs sl 14 [l0, l1, l2, l3] (.int (nI 1) :: st) K μ) : zV x cs sl 13 [l0, l1, l2, l3] st K μ := zv_iconst hC dL_firstWord_13 (by decide) k
theorem eL_firstWord_14 {x : zX} {MC MS cs sl : Nat} {K : zK} {μ : zF} {l0 l1 l2 l3 : Option Value} {v : Int32} {P : Option Value → zK → zF → Prop} {mc ms : Nat} (hC : hL_firstWord x MC MS) (hQ : zQg x (some .int) P mc ms) (hc : cs ≤ mc) (hs : sl ≤ ms) (hp : P (some (.int v)) K μ) : zV x cs sl 14 [l0, l1, l2, l3] [.int v] K μ := zr_i hC hQ dL_firstWord_14 hc hs hp
theorem eL_firstWord_15 {x : zX} {MC MS cs sl : Nat} {st : List Value} {K : zK} {μ : zF} {l0 l1 l2 l3 : Option Value} (hC : hL_firstWord x MC MS) (k : zV x cs sl 16 [l0, l1, l2, l3] (.int (nI 0) :: st) K μ) : zV x cs sl 15 [l0, l1, l2, l3] st K μ := zv_iconst hC dL_firstWord_15 (by decide) k
theorem eL_firstWord_16 {x : zX} {MC MS cs sl : Nat} {K : zK} {μ : zF} {l0 l1 l2 l3 : Option Value} {v : Int32} {P : Option Value → zK → zF → Prop} {mc ms : Nat} (hC : hL_firstWord x MC MS) (hQ : zQg x (some .int) P mc ms) (hc : cs ≤ mc) (hs : sl ≤ ms) (hp : P (some (.int v)) K μ) : zV x cs sl 16 [l0, l1, l2, l3] [.int v] K μ := zr_i hC hQ dL_firstWord_16 hc hs hp
set_option maxHeartbeats 1000000 in
theorem vL_firstWord {l : Launch} {g : zG} (hl : l.stackTraces = false) {K : zK} {μ : zF} {x oa : Nat} {S : zMs} {p2 : Int32} (h : zX8 K μ x S) (ho : zI K oa 13 1) : EL_firstWord l g 1 6 [.ref x, .int p2, .ref oa] K μ (zHp zc1 (zdo_firstWord p2 S) K μ x oa S) := by
  refine nL_firstWord hl (fun z hT hC hQ => ?_)
  refine eL_firstWord_0 hC ?_
  refine eL_firstWord_1 hC ?_
  refine eL_firstWord_2 hC ?_
  refine eL_firstWord_3 hC ?_
  refine eL_firstWord_4 hC (Nat.le_of_ble_eq_true rfl) (Nat.le_of_ble_eq_true rfl) (Nat.le_of_ble_eq_true rfl) h.o (vX8_firstWord hC.nt h) (fun E K1 μ1 hx => ?_) (zk_rp (fun r S1 K1 μ1 e1 e2 e3 e4 => ?_))
  · obtain rfl := zxo_firstWord hx.1
    refine ⟨12, zHd.a0 hC hT (by decide +kernel) (List.mem_cons_of_mem _ zw_146) (by decide) (by decide), fun q => ?_⟩
    refine eL_firstWord_12 hC ?_
    refine eL_firstWord_13 hC ?_
    exact eL_firstWord_14 hC hQ (Nat.le_of_ble_eq_true rfl) (Nat.le_of_ble_eq_true rfl) (zHp.ex (k := 1) hx (by decide) (by decide) (by decide +kernel))
  · refine eL_firstWord_7 hC ?_
    refine eL_firstWord_8 hC (e2.i ho) (vp_in_nI (by decide) (by decide)) ?_
    refine eL_firstWord_9 hC ?_
    refine eL_firstWord_15 hC ?_
    exact eL_firstWord_16 hC hQ (Nat.le_of_ble_eq_true rfl) (Nat.le_of_ble_eq_true rfl) (zHp.ok e1 e2 e3 e4)
end ZL_firstWord
section ZL_lineWidth
abbrev hL_lineWidth (x : zX) (MC MS : Nat) : Prop := zH x (.codeWith yL_lineWidth cL_lineWidth 4 (some .int) [(0, 9, 12, 13)] :: wsL_law) RL cL_lineWidth 4 8 164 MC MS
abbrev EL_lineWidth (l : Launch) (g : zG) (mc ms : Nat) (As : List Value) (K : zK) (μ : zF) (P : Option Value → zK → zF → Prop) : Prop := zEv l g yL_lineWidth (.codeWith yL_lineWidth cL_lineWidth 4 (some .int) [(0, 9, 12, 13)] :: wsL_law) 8 164 mc ms As K μ P
abbrev QL_lineWidth (l : Launch) (g : zG) (mc ms : Nat) (As : List Value) (K : zK) (μ : zF) (P : Option Value → zK → zF → Prop) (PX : String → zK → zF → Prop) : Prop := zEx l g yL_lineWidth (.codeWith yL_lineWidth cL_lineWidth 4 (some .int) [(0, 9, 12, 13)] :: wsL_law) 8 164 mc ms As K μ P PX
theorem nL_lineWidth {l : Launch} {g : zG} {mc ms : Nat} {p1 : Nat} {p2 : Int32} {p3 : Nat} {K : zK} {μ : zF} {P : Option Value → zK → zF → Prop} (hl : l.stackTraces = false) (body : ∀ x : zX, zTb x [(0, 9, 12, 13)] → hL_lineWidth x mc ms → zQg x (some .int) P mc ms → zV x 0 0 0 [some (.ref p1), some (.int p2), some (.ref p3), none] [] K μ) : EL_lineWidth l g mc ms [.ref p1, .int p2, .ref p3] K μ P := zEv.ofW hl (by decide) rfl (Nat.le_of_ble_eq_true rfl) (fun x _ _ => body x)
theorem eL_lineWidth_0 {x : zX} {MC MS cs sl : Nat} {st : List Value} {K : zK} {μ : zF} {l0 l1 l3 : Option Value} {a : Nat} (hC : hL_lineWidth x MC MS) (k : zV x cs sl 1 [l0, l1, some (.ref a), l3] (.ref a :: st) K μ) : zV x cs sl 0 [l0, l1, some (.ref a), l3] st K μ := zv_aload_n hC dL_lineWidth_0 rfl rfl k
theorem eL_lineWidth_1 {x : zX} {MC MS cs sl : Nat} {st : List Value} {K : zK} {μ : zF} {l0 l1 l2 l3 : Option Value} (hC : hL_lineWidth x MC MS) (k : zV x cs sl 2 [l0, l1, l2, l3] (.int (nI 0) :: st) K μ) : zV x cs sl 1 [l0, l1, l2, l3] st K μ := zv_iconst hC dL_lineWidth_1 (by decide) k
theorem eL_lineWidth_2 {x : zX} {MC MS cs sl : Nat} {st : List Value} {K : zK} {μ : zF} {l1 l2 l3 : Option Value} {a : Nat} (hC : hL_lineWidth x MC MS) (k : zV x cs sl 3 [some (.ref a), l1, l2, l3] (.ref a :: st) K μ) : zV x cs sl 2 [some (.ref a), l1, l2, l3] st K μ := zv_aload_n hC dL_lineWidth_2 rfl rfl k
theorem eL_lineWidth_3 {x : zX} {MC MS cs sl : Nat} {st : List Value} {K : zK} {μ : zF} {l0 l2 l3 : Option Value} {v : Int32} (hC : hL_lineWidth x MC MS) (k : zV x cs sl 4 [l0, some (.int v), l2, l3] (.int v :: st) K μ) : zV x cs sl 3 [l0, some (.int v), l2, l3] st K μ := zv_iload_n hC dL_lineWidth_3 rfl rfl k
theorem eL_lineWidth_4 {x : zX} {MC MS cs sl : Nat} {st : List Value} {K : zK} {μ : zF} {l0 l1 l2 l3 : Option Value} {b : Nat} {q1 : Value} {P : Option Value → zK → zF → Prop} {mc ms : Nat} {PX : String → zK → zF → Prop} (hC : hL_lineWidth x MC MS) (hcat : (st.map fun v => v.category).sum ≤ 8) (hcm : cs + mc ≤ MC) (hsm : sl + ms ≤ MS) (hO : zO K b 8) (hE : QX8_lineWidth (xl x) (xg x) mc ms [.ref b, q1] K μ P PX) (kx : ∀ (E : String) (K1 : zK) (μ1 : zF), PX E K1 μ1 → ∃ h, zHd x RL 4 E h ∧ ∀ q, zV x (cs + mc) (sl + ms) h [l0, l1, l2, l3] [.ref q] K1 μ1) (kk : ∀ (v : Option Value) (K1 : zK) (μ1 : zF), P v K1 μ1 → zV x (cs + mc) (sl + ms) 7 [l0, l1, l2, l3] (v.toList ++ st) K1 μ1) : zV x cs sl 4 [l0, l1, l2, l3] (q1 :: .ref b :: st) K μ := zct_V hC (zgV zw_549 zw_550 zw_551 zw_2 zw_552) rfl (by decide +kernel) ⟨Nat.le_of_ble_eq_true rfl, Nat.le_of_ble_eq_true rfl⟩ (ci := 8) rfl rfl (by decide) (n := 1) (As := [q1]) rfl dL_lineWidth_4 rfl rfl hcat hcm hsm hO hE kx kk
theorem eL_lineWidth_7 {x : zX} {MC MS cs sl : Nat} {st : List Value} {K : zK} {μ : zF} {l0 l1 l2 l3 : Option Value} {v : Int32} (hC : hL_lineWidth x MC MS) (k : zV x cs sl 8 [l0, l1, l2, l3] (.long v.toInt64 :: st) K μ) : zV x cs sl 7 [l0, l1, l2, l3] (.int v :: st) K μ := zv_i2l hC rfl dL_lineWidth_7 k
theorem eL_lineWidth_8 {x : zX} {MC MS cs sl : Nat} {st : List Value} {K : zK} {μ : zF} {l0 l1 l2 l3 : Option Value} {a n : Nat} {i : Int32} {v : Int64} (hC : hL_lineWidth x MC MS) (hI : zI K a 13 n) (hi : vp_in i n) (k : zV x cs sl 9 [l0, l1, l2, l3] st (zKl K a i.toNatClampNeg v) μ) : zV x cs sl 8 [l0, l1, l2, l3] (.long v :: .int i :: .ref a :: st) K μ := zv_last hC dL_lineWidth_8 hI hi k
theorem eL_lineWidth_9 {x : zX} {MC MS cs sl : Nat} {st : List Value} {K : zK} {μ : zF} {l0 l1 l2 l3 : Option Value} (hC : hL_lineWidth x MC MS) (k : zV x cs sl 15 [l0, l1, l2, l3] st K μ) : zV x cs sl 9 [l0, l1, l2, l3] st K μ := zv_goto hC dL_lineWidth_9 (by decide) k
theorem eL_lineWidth_12 {x : zX} {MC MS cs sl : Nat} {st : List Value} {K : zK} {μ : zF} {l0 l1 l3 : Option Value} {v : Nat} {u : Nat} (hC : hL_lineWidth x MC MS) (k : zV x cs sl 13 [l0, l1, some (.ref u), some (.ref v)] st K μ) : zV x cs sl 12 [l0, l1, some (.ref u), l3] (.ref v :: st) K μ := zv_astore_n hC dL_lineWidth_12 rfl rfl (Nat.le_of_ble_eq_true rfl) rfl k
theorem eL_lineWidth_13 {x : zX} {MC MS cs sl : Nat} {st : List Value} {K : zK} {μ : zF} {l0 l1 l2 l3 : Option Value} (hC : hL_lineWidth x MC MS) (k : zV x cs sl 14 [l0, l1, l2, l3] (.int (nI 1) :: st) K μ) : zV x cs sl 13 [l0, l1, l2, l3] st K μ := zv_iconst hC dL_lineWidth_13 (by decide) k
theorem eL_lineWidth_14 {x : zX} {MC MS cs sl : Nat} {K : zK} {μ : zF} {l0 l1 l2 l3 : Option Value} {v : Int32} {P : Option Value → zK → zF → Prop} {mc ms : Nat} (hC : hL_lineWidth x MC MS) (hQ : zQg x (some .int) P mc ms) (hc : cs ≤ mc) (hs : sl ≤ ms) (hp : P (some (.int v)) K μ) : zV x cs sl 14 [l0, l1, l2, l3] [.int v] K μ := zr_i hC hQ dL_lineWidth_14 hc hs hp
theorem eL_lineWidth_15 {x : zX} {MC MS cs sl : Nat} {st : List Value} {K : zK} {μ : zF} {l0 l1 l2 l3 : Option Value} (hC : hL_lineWidth x MC MS) (k : zV x cs sl 16 [l0, l1, l2, l3] (.int (nI 0) :: st) K μ) : zV x cs sl 15 [l0, l1, l2, l3] st K μ := zv_iconst hC dL_lineWidth_15 (by decide) k
theorem eL_lineWidth_16 {x : zX} {MC MS cs sl : Nat} {K : zK} {μ : zF} {l0 l1 l2 l3 : Option Value} {v : Int32} {P : Option Value → zK → zF → Prop} {mc ms : Nat} (hC : hL_lineWidth x MC MS) (hQ : zQg x (some .int) P mc ms) (hc : cs ≤ mc) (hs : sl ≤ ms) (hp : P (some (.int v)) K μ) : zV x cs sl 16 [l0, l1, l2, l3] [.int v] K μ := zr_i hC hQ dL_lineWidth_16 hc hs hp
set_option maxHeartbeats 1000000 in
theorem vL_lineWidth {l : Launch} {g : zG} (hl : l.stackTraces = false) {K : zK} {μ : zF} {x oa : Nat} {S : zMs} {p2 : Int32} (h : zX8 K μ x S) (ho : zI K oa 13 1) : EL_lineWidth l g 1 6 [.ref x, .int p2, .ref oa] K μ (zHp zc1 (zdo_lineWidth p2 S) K μ x oa S) := by
  refine nL_lineWidth hl (fun z hT hC hQ => ?_)
  refine eL_lineWidth_0 hC ?_
  refine eL_lineWidth_1 hC ?_
  refine eL_lineWidth_2 hC ?_
  refine eL_lineWidth_3 hC ?_
  refine eL_lineWidth_4 hC (Nat.le_of_ble_eq_true rfl) (Nat.le_of_ble_eq_true rfl) (Nat.le_of_ble_eq_true rfl) h.o (vX8_lineWidth hC.nt h) (fun E K1 μ1 hx => ?_) (zk_rp (fun r S1 K1 μ1 e1 e2 e3 e4 => ?_))
  · obtain rfl := zxo_lineWidth hx.1
    refine ⟨12, zHd.a0 hC hT (by decide +kernel) (List.mem_cons_of_mem _ zw_146) (by decide) (by decide), fun q => ?_⟩
    refine eL_lineWidth_12 hC ?_
    refine eL_lineWidth_13 hC ?_
    exact eL_lineWidth_14 hC hQ (Nat.le_of_ble_eq_true rfl) (Nat.le_of_ble_eq_true rfl) (zHp.ex (k := 1) hx (by decide) (by decide) (by decide +kernel))
  · refine eL_lineWidth_7 hC ?_
    refine eL_lineWidth_8 hC (e2.i ho) (vp_in_nI (by decide) (by decide)) ?_
    refine eL_lineWidth_9 hC ?_
    refine eL_lineWidth_15 hC ?_
    exact eL_lineWidth_16 hC hQ (Nat.le_of_ble_eq_true rfl) (Nat.le_of_ble_eq_true rfl) (zHp.ok e1 e2 e3 e4)
end ZL_lineWidth
section ZL_stairAt
abbrev hL_stairAt (x : zX) (MC MS : Nat) : Prop := zH x (.codeWith yL_stairAt cL_stairAt 4 (some .int) [(0, 9, 12, 13)] :: wsL_law) RL cL_stairAt 4 8 164 MC MS
abbrev EL_stairAt (l : Launch) (g : zG) (mc ms : Nat) (As : List Value) (K : zK) (μ : zF) (P : Option Value → zK → zF → Prop) : Prop := zEv l g yL_stairAt (.codeWith yL_stairAt cL_stairAt 4 (some .int) [(0, 9, 12, 13)] :: wsL_law) 8 164 mc ms As K μ P
abbrev QL_stairAt (l : Launch) (g : zG) (mc ms : Nat) (As : List Value) (K : zK) (μ : zF) (P : Option Value → zK → zF → Prop) (PX : String → zK → zF → Prop) : Prop := zEx l g yL_stairAt (.codeWith yL_stairAt cL_stairAt 4 (some .int) [(0, 9, 12, 13)] :: wsL_law) 8 164 mc ms As K μ P PX
theorem nL_stairAt {l : Launch} {g : zG} {mc ms : Nat} {p1 : Nat} {p2 : Int32} {p3 : Nat} {K : zK} {μ : zF} {P : Option Value → zK → zF → Prop} (hl : l.stackTraces = false) (body : ∀ x : zX, zTb x [(0, 9, 12, 13)] → hL_stairAt x mc ms → zQg x (some .int) P mc ms → zV x 0 0 0 [some (.ref p1), some (.int p2), some (.ref p3), none] [] K μ) : EL_stairAt l g mc ms [.ref p1, .int p2, .ref p3] K μ P := zEv.ofW hl (by decide) rfl (Nat.le_of_ble_eq_true rfl) (fun x _ _ => body x)
theorem eL_stairAt_0 {x : zX} {MC MS cs sl : Nat} {st : List Value} {K : zK} {μ : zF} {l0 l1 l3 : Option Value} {a : Nat} (hC : hL_stairAt x MC MS) (k : zV x cs sl 1 [l0, l1, some (.ref a), l3] (.ref a :: st) K μ) : zV x cs sl 0 [l0, l1, some (.ref a), l3] st K μ := zv_aload_n hC dL_stairAt_0 rfl rfl k
theorem eL_stairAt_1 {x : zX} {MC MS cs sl : Nat} {st : List Value} {K : zK} {μ : zF} {l0 l1 l2 l3 : Option Value} (hC : hL_stairAt x MC MS) (k : zV x cs sl 2 [l0, l1, l2, l3] (.int (nI 0) :: st) K μ) : zV x cs sl 1 [l0, l1, l2, l3] st K μ := zv_iconst hC dL_stairAt_1 (by decide) k
theorem eL_stairAt_2 {x : zX} {MC MS cs sl : Nat} {st : List Value} {K : zK} {μ : zF} {l1 l2 l3 : Option Value} {a : Nat} (hC : hL_stairAt x MC MS) (k : zV x cs sl 3 [some (.ref a), l1, l2, l3] (.ref a :: st) K μ) : zV x cs sl 2 [some (.ref a), l1, l2, l3] st K μ := zv_aload_n hC dL_stairAt_2 rfl rfl k
theorem eL_stairAt_3 {x : zX} {MC MS cs sl : Nat} {st : List Value} {K : zK} {μ : zF} {l0 l2 l3 : Option Value} {v : Int32} (hC : hL_stairAt x MC MS) (k : zV x cs sl 4 [l0, some (.int v), l2, l3] (.int v :: st) K μ) : zV x cs sl 3 [l0, some (.int v), l2, l3] st K μ := zv_iload_n hC dL_stairAt_3 rfl rfl k
theorem eL_stairAt_4 {x : zX} {MC MS cs sl : Nat} {st : List Value} {K : zK} {μ : zF} {l0 l1 l2 l3 : Option Value} {b : Nat} {q1 : Value} {P : Option Value → zK → zF → Prop} {mc ms : Nat} {PX : String → zK → zF → Prop} (hC : hL_stairAt x MC MS) (hcat : (st.map fun v => v.category).sum ≤ 8) (hcm : cs + mc ≤ MC) (hsm : sl + ms ≤ MS) (hO : zO K b 8) (hE : QX8_stairAt (xl x) (xg x) mc ms [.ref b, q1] K μ P PX) (kx : ∀ (E : String) (K1 : zK) (μ1 : zF), PX E K1 μ1 → ∃ h, zHd x RL 4 E h ∧ ∀ q, zV x (cs + mc) (sl + ms) h [l0, l1, l2, l3] [.ref q] K1 μ1) (kk : ∀ (v : Option Value) (K1 : zK) (μ1 : zF), P v K1 μ1 → zV x (cs + mc) (sl + ms) 7 [l0, l1, l2, l3] (v.toList ++ st) K1 μ1) : zV x cs sl 4 [l0, l1, l2, l3] (q1 :: .ref b :: st) K μ := zct_V hC (zgV zw_565 zw_566 zw_567 zw_2 zw_568) rfl (by decide +kernel) ⟨Nat.le_of_ble_eq_true rfl, Nat.le_of_ble_eq_true rfl⟩ (ci := 8) rfl rfl (by decide) (n := 1) (As := [q1]) rfl dL_stairAt_4 rfl rfl hcat hcm hsm hO hE kx kk
theorem eL_stairAt_7 {x : zX} {MC MS cs sl : Nat} {st : List Value} {K : zK} {μ : zF} {l0 l1 l2 l3 : Option Value} {v : Int32} (hC : hL_stairAt x MC MS) (k : zV x cs sl 8 [l0, l1, l2, l3] (.long v.toInt64 :: st) K μ) : zV x cs sl 7 [l0, l1, l2, l3] (.int v :: st) K μ := zv_i2l hC rfl dL_stairAt_7 k
theorem eL_stairAt_8 {x : zX} {MC MS cs sl : Nat} {st : List Value} {K : zK} {μ : zF} {l0 l1 l2 l3 : Option Value} {a n : Nat} {i : Int32} {v : Int64} (hC : hL_stairAt x MC MS) (hI : zI K a 13 n) (hi : vp_in i n) (k : zV x cs sl 9 [l0, l1, l2, l3] st (zKl K a i.toNatClampNeg v) μ) : zV x cs sl 8 [l0, l1, l2, l3] (.long v :: .int i :: .ref a :: st) K μ := zv_last hC dL_stairAt_8 hI hi k
theorem eL_stairAt_9 {x : zX} {MC MS cs sl : Nat} {st : List Value} {K : zK} {μ : zF} {l0 l1 l2 l3 : Option Value} (hC : hL_stairAt x MC MS) (k : zV x cs sl 15 [l0, l1, l2, l3] st K μ) : zV x cs sl 9 [l0, l1, l2, l3] st K μ := zv_goto hC dL_stairAt_9 (by decide) k
theorem eL_stairAt_12 {x : zX} {MC MS cs sl : Nat} {st : List Value} {K : zK} {μ : zF} {l0 l1 l3 : Option Value} {v : Nat} {u : Nat} (hC : hL_stairAt x MC MS) (k : zV x cs sl 13 [l0, l1, some (.ref u), some (.ref v)] st K μ) : zV x cs sl 12 [l0, l1, some (.ref u), l3] (.ref v :: st) K μ := zv_astore_n hC dL_stairAt_12 rfl rfl (Nat.le_of_ble_eq_true rfl) rfl k
theorem eL_stairAt_13 {x : zX} {MC MS cs sl : Nat} {st : List Value} {K : zK} {μ : zF} {l0 l1 l2 l3 : Option Value} (hC : hL_stairAt x MC MS) (k : zV x cs sl 14 [l0, l1, l2, l3] (.int (nI 1) :: st) K μ) : zV x cs sl 13 [l0, l1, l2, l3] st K μ := zv_iconst hC dL_stairAt_13 (by decide) k
theorem eL_stairAt_14 {x : zX} {MC MS cs sl : Nat} {K : zK} {μ : zF} {l0 l1 l2 l3 : Option Value} {v : Int32} {P : Option Value → zK → zF → Prop} {mc ms : Nat} (hC : hL_stairAt x MC MS) (hQ : zQg x (some .int) P mc ms) (hc : cs ≤ mc) (hs : sl ≤ ms) (hp : P (some (.int v)) K μ) : zV x cs sl 14 [l0, l1, l2, l3] [.int v] K μ := zr_i hC hQ dL_stairAt_14 hc hs hp
theorem eL_stairAt_15 {x : zX} {MC MS cs sl : Nat} {st : List Value} {K : zK} {μ : zF} {l0 l1 l2 l3 : Option Value} (hC : hL_stairAt x MC MS) (k : zV x cs sl 16 [l0, l1, l2, l3] (.int (nI 0) :: st) K μ) : zV x cs sl 15 [l0, l1, l2, l3] st K μ := zv_iconst hC dL_stairAt_15 (by decide) k
theorem eL_stairAt_16 {x : zX} {MC MS cs sl : Nat} {K : zK} {μ : zF} {l0 l1 l2 l3 : Option Value} {v : Int32} {P : Option Value → zK → zF → Prop} {mc ms : Nat} (hC : hL_stairAt x MC MS) (hQ : zQg x (some .int) P mc ms) (hc : cs ≤ mc) (hs : sl ≤ ms) (hp : P (some (.int v)) K μ) : zV x cs sl 16 [l0, l1, l2, l3] [.int v] K μ := zr_i hC hQ dL_stairAt_16 hc hs hp
set_option maxHeartbeats 1000000 in
theorem vL_stairAt {l : Launch} {g : zG} (hl : l.stackTraces = false) {K : zK} {μ : zF} {x oa : Nat} {S : zMs} {p2 : Int32} (h : zX8 K μ x S) (ho : zI K oa 13 1) : EL_stairAt l g 1 6 [.ref x, .int p2, .ref oa] K μ (zHp zc1 (zdo_stairAt p2 S) K μ x oa S) := by
  refine nL_stairAt hl (fun z hT hC hQ => ?_)
  refine eL_stairAt_0 hC ?_
  refine eL_stairAt_1 hC ?_
  refine eL_stairAt_2 hC ?_
  refine eL_stairAt_3 hC ?_
  refine eL_stairAt_4 hC (Nat.le_of_ble_eq_true rfl) (Nat.le_of_ble_eq_true rfl) (Nat.le_of_ble_eq_true rfl) h.o (vX8_stairAt hC.nt h) (fun E K1 μ1 hx => ?_) (zk_rp (fun r S1 K1 μ1 e1 e2 e3 e4 => ?_))
  · obtain rfl := zxo_stairAt hx.1
    refine ⟨12, zHd.a0 hC hT (by decide +kernel) (List.mem_cons_of_mem _ zw_146) (by decide) (by decide), fun q => ?_⟩
    refine eL_stairAt_12 hC ?_
    refine eL_stairAt_13 hC ?_
    exact eL_stairAt_14 hC hQ (Nat.le_of_ble_eq_true rfl) (Nat.le_of_ble_eq_true rfl) (zHp.ex (k := 1) hx (by decide) (by decide) (by decide +kernel))
  · refine eL_stairAt_7 hC ?_
    refine eL_stairAt_8 hC (e2.i ho) (vp_in_nI (by decide) (by decide)) ?_
    refine eL_stairAt_9 hC ?_
    refine eL_stairAt_15 hC ?_
    exact eL_stairAt_16 hC hQ (Nat.le_of_ble_eq_true rfl) (Nat.le_of_ble_eq_true rfl) (zHp.ok e1 e2 e3 e4)
end ZL_stairAt
section ZL_reason
abbrev hL_reason (x : zX) (MC MS : Nat) : Prop := zH x (.codeWith yL_reason cL_reason 4 (some .int) [(0, 9, 12, 13)] :: wsL_law) RL cL_reason 4 8 164 MC MS
abbrev EL_reason (l : Launch) (g : zG) (mc ms : Nat) (As : List Value) (K : zK) (μ : zF) (P : Option Value → zK → zF → Prop) : Prop := zEv l g yL_reason (.codeWith yL_reason cL_reason 4 (some .int) [(0, 9, 12, 13)] :: wsL_law) 8 164 mc ms As K μ P
abbrev QL_reason (l : Launch) (g : zG) (mc ms : Nat) (As : List Value) (K : zK) (μ : zF) (P : Option Value → zK → zF → Prop) (PX : String → zK → zF → Prop) : Prop := zEx l g yL_reason (.codeWith yL_reason cL_reason 4 (some .int) [(0, 9, 12, 13)] :: wsL_law) 8 164 mc ms As K μ P PX
theorem nL_reason {l : Launch} {g : zG} {mc ms : Nat} {p1 : Nat} {p2 : Int32} {p3 : Nat} {K : zK} {μ : zF} {P : Option Value → zK → zF → Prop} (hl : l.stackTraces = false) (body : ∀ x : zX, zTb x [(0, 9, 12, 13)] → hL_reason x mc ms → zQg x (some .int) P mc ms → zV x 0 0 0 [some (.ref p1), some (.int p2), some (.ref p3), none] [] K μ) : EL_reason l g mc ms [.ref p1, .int p2, .ref p3] K μ P := zEv.ofW hl (by decide) rfl (Nat.le_of_ble_eq_true rfl) (fun x _ _ => body x)
theorem eL_reason_0 {x : zX} {MC MS cs sl : Nat} {st : List Value} {K : zK} {μ : zF} {l0 l1 l3 : Option Value} {a : Nat} (hC : hL_reason x MC MS) (k : zV x cs sl 1 [l0, l1, some (.ref a), l3] (.ref a :: st) K μ) : zV x cs sl 0 [l0, l1, some (.ref a), l3] st K μ := zv_aload_n hC dL_reason_0 rfl rfl k
theorem eL_reason_1 {x : zX} {MC MS cs sl : Nat} {st : List Value} {K : zK} {μ : zF} {l0 l1 l2 l3 : Option Value} (hC : hL_reason x MC MS) (k : zV x cs sl 2 [l0, l1, l2, l3] (.int (nI 0) :: st) K μ) : zV x cs sl 1 [l0, l1, l2, l3] st K μ := zv_iconst hC dL_reason_1 (by decide) k
theorem eL_reason_2 {x : zX} {MC MS cs sl : Nat} {st : List Value} {K : zK} {μ : zF} {l1 l2 l3 : Option Value} {a : Nat} (hC : hL_reason x MC MS) (k : zV x cs sl 3 [some (.ref a), l1, l2, l3] (.ref a :: st) K μ) : zV x cs sl 2 [some (.ref a), l1, l2, l3] st K μ := zv_aload_n hC dL_reason_2 rfl rfl k
theorem eL_reason_3 {x : zX} {MC MS cs sl : Nat} {st : List Value} {K : zK} {μ : zF} {l0 l2 l3 : Option Value} {v : Int32} (hC : hL_reason x MC MS) (k : zV x cs sl 4 [l0, some (.int v), l2, l3] (.int v :: st) K μ) : zV x cs sl 3 [l0, some (.int v), l2, l3] st K μ := zv_iload_n hC dL_reason_3 rfl rfl k
theorem eL_reason_4 {x : zX} {MC MS cs sl : Nat} {st : List Value} {K : zK} {μ : zF} {l0 l1 l2 l3 : Option Value} {b : Nat} {q1 : Value} {P : Option Value → zK → zF → Prop} {mc ms : Nat} {PX : String → zK → zF → Prop} (hC : hL_reason x MC MS) (hcat : (st.map fun v => v.category).sum ≤ 8) (hcm : cs + mc ≤ MC) (hsm : sl + ms ≤ MS) (hO : zO K b 8) (hE : QX8_reason (xl x) (xg x) mc ms [.ref b, q1] K μ P PX) (kx : ∀ (E : String) (K1 : zK) (μ1 : zF), PX E K1 μ1 → ∃ h, zHd x RL 4 E h ∧ ∀ q, zV x (cs + mc) (sl + ms) h [l0, l1, l2, l3] [.ref q] K1 μ1) (kk : ∀ (v : Option Value) (K1 : zK) (μ1 : zF), P v K1 μ1 → zV x (cs + mc) (sl + ms) 7 [l0, l1, l2, l3] (v.toList ++ st) K1 μ1) : zV x cs sl 4 [l0, l1, l2, l3] (q1 :: .ref b :: st) K μ := zct_V hC (zgV zw_590 zw_591 zw_592 zw_2 zw_593) rfl (by decide +kernel) ⟨Nat.le_of_ble_eq_true rfl, Nat.le_of_ble_eq_true rfl⟩ (ci := 8) rfl rfl (by decide) (n := 1) (As := [q1]) rfl dL_reason_4 rfl rfl hcat hcm hsm hO hE kx kk
theorem eL_reason_7 {x : zX} {MC MS cs sl : Nat} {st : List Value} {K : zK} {μ : zF} {l0 l1 l2 l3 : Option Value} {v : Int32} (hC : hL_reason x MC MS) (k : zV x cs sl 8 [l0, l1, l2, l3] (.long v.toInt64 :: st) K μ) : zV x cs sl 7 [l0, l1, l2, l3] (.int v :: st) K μ := zv_i2l hC rfl dL_reason_7 k
theorem eL_reason_8 {x : zX} {MC MS cs sl : Nat} {st : List Value} {K : zK} {μ : zF} {l0 l1 l2 l3 : Option Value} {a n : Nat} {i : Int32} {v : Int64} (hC : hL_reason x MC MS) (hI : zI K a 13 n) (hi : vp_in i n) (k : zV x cs sl 9 [l0, l1, l2, l3] st (zKl K a i.toNatClampNeg v) μ) : zV x cs sl 8 [l0, l1, l2, l3] (.long v :: .int i :: .ref a :: st) K μ := zv_last hC dL_reason_8 hI hi k
theorem eL_reason_9 {x : zX} {MC MS cs sl : Nat} {st : List Value} {K : zK} {μ : zF} {l0 l1 l2 l3 : Option Value} (hC : hL_reason x MC MS) (k : zV x cs sl 15 [l0, l1, l2, l3] st K μ) : zV x cs sl 9 [l0, l1, l2, l3] st K μ := zv_goto hC dL_reason_9 (by decide) k
theorem eL_reason_12 {x : zX} {MC MS cs sl : Nat} {st : List Value} {K : zK} {μ : zF} {l0 l1 l3 : Option Value} {v : Nat} {u : Nat} (hC : hL_reason x MC MS) (k : zV x cs sl 13 [l0, l1, some (.ref u), some (.ref v)] st K μ) : zV x cs sl 12 [l0, l1, some (.ref u), l3] (.ref v :: st) K μ := zv_astore_n hC dL_reason_12 rfl rfl (Nat.le_of_ble_eq_true rfl) rfl k
theorem eL_reason_13 {x : zX} {MC MS cs sl : Nat} {st : List Value} {K : zK} {μ : zF} {l0 l1 l2 l3 : Option Value} (hC : hL_reason x MC MS) (k : zV x cs sl 14 [l0, l1, l2, l3] (.int (nI 1) :: st) K μ) : zV x cs sl 13 [l0, l1, l2, l3] st K μ := zv_iconst hC dL_reason_13 (by decide) k
theorem eL_reason_14 {x : zX} {MC MS cs sl : Nat} {K : zK} {μ : zF} {l0 l1 l2 l3 : Option Value} {v : Int32} {P : Option Value → zK → zF → Prop} {mc ms : Nat} (hC : hL_reason x MC MS) (hQ : zQg x (some .int) P mc ms) (hc : cs ≤ mc) (hs : sl ≤ ms) (hp : P (some (.int v)) K μ) : zV x cs sl 14 [l0, l1, l2, l3] [.int v] K μ := zr_i hC hQ dL_reason_14 hc hs hp
theorem eL_reason_15 {x : zX} {MC MS cs sl : Nat} {st : List Value} {K : zK} {μ : zF} {l0 l1 l2 l3 : Option Value} (hC : hL_reason x MC MS) (k : zV x cs sl 16 [l0, l1, l2, l3] (.int (nI 0) :: st) K μ) : zV x cs sl 15 [l0, l1, l2, l3] st K μ := zv_iconst hC dL_reason_15 (by decide) k
theorem eL_reason_16 {x : zX} {MC MS cs sl : Nat} {K : zK} {μ : zF} {l0 l1 l2 l3 : Option Value} {v : Int32} {P : Option Value → zK → zF → Prop} {mc ms : Nat} (hC : hL_reason x MC MS) (hQ : zQg x (some .int) P mc ms) (hc : cs ≤ mc) (hs : sl ≤ ms) (hp : P (some (.int v)) K μ) : zV x cs sl 16 [l0, l1, l2, l3] [.int v] K μ := zr_i hC hQ dL_reason_16 hc hs hp
set_option maxHeartbeats 1000000 in
theorem vL_reason {l : Launch} {g : zG} (hl : l.stackTraces = false) {K : zK} {μ : zF} {x oa : Nat} {S : zMs} {p2 : Int32} (h : zX8 K μ x S) (ho : zI K oa 13 1) : EL_reason l g 1 6 [.ref x, .int p2, .ref oa] K μ (zHp zc1 (zdo_reason p2 S) K μ x oa S) := by
  refine nL_reason hl (fun z hT hC hQ => ?_)
  refine eL_reason_0 hC ?_
  refine eL_reason_1 hC ?_
  refine eL_reason_2 hC ?_
  refine eL_reason_3 hC ?_
  refine eL_reason_4 hC (Nat.le_of_ble_eq_true rfl) (Nat.le_of_ble_eq_true rfl) (Nat.le_of_ble_eq_true rfl) h.o (vX8_reason hC.nt h) (fun E K1 μ1 hx => ?_) (zk_rp (fun r S1 K1 μ1 e1 e2 e3 e4 => ?_))
  · obtain rfl := zxo_reason hx.1
    refine ⟨12, zHd.a0 hC hT (by decide +kernel) (List.mem_cons_of_mem _ zw_146) (by decide) (by decide), fun q => ?_⟩
    refine eL_reason_12 hC ?_
    refine eL_reason_13 hC ?_
    exact eL_reason_14 hC hQ (Nat.le_of_ble_eq_true rfl) (Nat.le_of_ble_eq_true rfl) (zHp.ex (k := 1) hx (by decide) (by decide) (by decide +kernel))
  · refine eL_reason_7 hC ?_
    refine eL_reason_8 hC (e2.i ho) (vp_in_nI (by decide) (by decide)) ?_
    refine eL_reason_9 hC ?_
    refine eL_reason_15 hC ?_
    exact eL_reason_16 hC hQ (Nat.le_of_ble_eq_true rfl) (Nat.le_of_ble_eq_true rfl) (zHp.ok e1 e2 e3 e4)
end ZL_reason
section ZL_pageOf
abbrev hL_pageOf (x : zX) (MC MS : Nat) : Prop := zH x (.codeWith yL_pageOf cL_pageOf 4 (some .int) [(0, 9, 12, 13)] :: wsL_law) RL cL_pageOf 4 8 164 MC MS
abbrev EL_pageOf (l : Launch) (g : zG) (mc ms : Nat) (As : List Value) (K : zK) (μ : zF) (P : Option Value → zK → zF → Prop) : Prop := zEv l g yL_pageOf (.codeWith yL_pageOf cL_pageOf 4 (some .int) [(0, 9, 12, 13)] :: wsL_law) 8 164 mc ms As K μ P
abbrev QL_pageOf (l : Launch) (g : zG) (mc ms : Nat) (As : List Value) (K : zK) (μ : zF) (P : Option Value → zK → zF → Prop) (PX : String → zK → zF → Prop) : Prop := zEx l g yL_pageOf (.codeWith yL_pageOf cL_pageOf 4 (some .int) [(0, 9, 12, 13)] :: wsL_law) 8 164 mc ms As K μ P PX
theorem nL_pageOf {l : Launch} {g : zG} {mc ms : Nat} {p1 : Nat} {p2 : Int32} {p3 : Nat} {K : zK} {μ : zF} {P : Option Value → zK → zF → Prop} (hl : l.stackTraces = false) (body : ∀ x : zX, zTb x [(0, 9, 12, 13)] → hL_pageOf x mc ms → zQg x (some .int) P mc ms → zV x 0 0 0 [some (.ref p1), some (.int p2), some (.ref p3), none] [] K μ) : EL_pageOf l g mc ms [.ref p1, .int p2, .ref p3] K μ P := zEv.ofW hl (by decide) rfl (Nat.le_of_ble_eq_true rfl) (fun x _ _ => body x)
theorem eL_pageOf_0 {x : zX} {MC MS cs sl : Nat} {st : List Value} {K : zK} {μ : zF} {l0 l1 l3 : Option Value} {a : Nat} (hC : hL_pageOf x MC MS) (k : zV x cs sl 1 [l0, l1, some (.ref a), l3] (.ref a :: st) K μ) : zV x cs sl 0 [l0, l1, some (.ref a), l3] st K μ := zv_aload_n hC dL_pageOf_0 rfl rfl k
theorem eL_pageOf_1 {x : zX} {MC MS cs sl : Nat} {st : List Value} {K : zK} {μ : zF} {l0 l1 l2 l3 : Option Value} (hC : hL_pageOf x MC MS) (k : zV x cs sl 2 [l0, l1, l2, l3] (.int (nI 0) :: st) K μ) : zV x cs sl 1 [l0, l1, l2, l3] st K μ := zv_iconst hC dL_pageOf_1 (by decide) k
theorem eL_pageOf_2 {x : zX} {MC MS cs sl : Nat} {st : List Value} {K : zK} {μ : zF} {l1 l2 l3 : Option Value} {a : Nat} (hC : hL_pageOf x MC MS) (k : zV x cs sl 3 [some (.ref a), l1, l2, l3] (.ref a :: st) K μ) : zV x cs sl 2 [some (.ref a), l1, l2, l3] st K μ := zv_aload_n hC dL_pageOf_2 rfl rfl k
theorem eL_pageOf_3 {x : zX} {MC MS cs sl : Nat} {st : List Value} {K : zK} {μ : zF} {l0 l2 l3 : Option Value} {v : Int32} (hC : hL_pageOf x MC MS) (k : zV x cs sl 4 [l0, some (.int v), l2, l3] (.int v :: st) K μ) : zV x cs sl 3 [l0, some (.int v), l2, l3] st K μ := zv_iload_n hC dL_pageOf_3 rfl rfl k
theorem eL_pageOf_4 {x : zX} {MC MS cs sl : Nat} {st : List Value} {K : zK} {μ : zF} {l0 l1 l2 l3 : Option Value} {b : Nat} {q1 : Value} {P : Option Value → zK → zF → Prop} {mc ms : Nat} {PX : String → zK → zF → Prop} (hC : hL_pageOf x MC MS) (hcat : (st.map fun v => v.category).sum ≤ 8) (hcm : cs + mc ≤ MC) (hsm : sl + ms ≤ MS) (hO : zO K b 8) (hE : QX8_pageOf (xl x) (xg x) mc ms [.ref b, q1] K μ P PX) (kx : ∀ (E : String) (K1 : zK) (μ1 : zF), PX E K1 μ1 → ∃ h, zHd x RL 4 E h ∧ ∀ q, zV x (cs + mc) (sl + ms) h [l0, l1, l2, l3] [.ref q] K1 μ1) (kk : ∀ (v : Option Value) (K1 : zK) (μ1 : zF), P v K1 μ1 → zV x (cs + mc) (sl + ms) 7 [l0, l1, l2, l3] (v.toList ++ st) K1 μ1) : zV x cs sl 4 [l0, l1, l2, l3] (q1 :: .ref b :: st) K μ := zct_V hC (zgV zw_677 zw_678 zw_679 zw_2 zw_680) rfl (by decide +kernel) ⟨Nat.le_of_ble_eq_true rfl, Nat.le_of_ble_eq_true rfl⟩ (ci := 8) rfl rfl (by decide) (n := 1) (As := [q1]) rfl dL_pageOf_4 rfl rfl hcat hcm hsm hO hE kx kk
theorem eL_pageOf_7 {x : zX} {MC MS cs sl : Nat} {st : List Value} {K : zK} {μ : zF} {l0 l1 l2 l3 : Option Value} {v : Int32} (hC : hL_pageOf x MC MS) (k : zV x cs sl 8 [l0, l1, l2, l3] (.long v.toInt64 :: st) K μ) : zV x cs sl 7 [l0, l1, l2, l3] (.int v :: st) K μ := zv_i2l hC rfl dL_pageOf_7 k
theorem eL_pageOf_8 {x : zX} {MC MS cs sl : Nat} {st : List Value} {K : zK} {μ : zF} {l0 l1 l2 l3 : Option Value} {a n : Nat} {i : Int32} {v : Int64} (hC : hL_pageOf x MC MS) (hI : zI K a 13 n) (hi : vp_in i n) (k : zV x cs sl 9 [l0, l1, l2, l3] st (zKl K a i.toNatClampNeg v) μ) : zV x cs sl 8 [l0, l1, l2, l3] (.long v :: .int i :: .ref a :: st) K μ := zv_last hC dL_pageOf_8 hI hi k
theorem eL_pageOf_9 {x : zX} {MC MS cs sl : Nat} {st : List Value} {K : zK} {μ : zF} {l0 l1 l2 l3 : Option Value} (hC : hL_pageOf x MC MS) (k : zV x cs sl 15 [l0, l1, l2, l3] st K μ) : zV x cs sl 9 [l0, l1, l2, l3] st K μ := zv_goto hC dL_pageOf_9 (by decide) k
theorem eL_pageOf_12 {x : zX} {MC MS cs sl : Nat} {st : List Value} {K : zK} {μ : zF} {l0 l1 l3 : Option Value} {v : Nat} {u : Nat} (hC : hL_pageOf x MC MS) (k : zV x cs sl 13 [l0, l1, some (.ref u), some (.ref v)] st K μ) : zV x cs sl 12 [l0, l1, some (.ref u), l3] (.ref v :: st) K μ := zv_astore_n hC dL_pageOf_12 rfl rfl (Nat.le_of_ble_eq_true rfl) rfl k
theorem eL_pageOf_13 {x : zX} {MC MS cs sl : Nat} {st : List Value} {K : zK} {μ : zF} {l0 l1 l2 l3 : Option Value} (hC : hL_pageOf x MC MS) (k : zV x cs sl 14 [l0, l1, l2, l3] (.int (nI 1) :: st) K μ) : zV x cs sl 13 [l0, l1, l2, l3] st K μ := zv_iconst hC dL_pageOf_13 (by decide) k
theorem eL_pageOf_14 {x : zX} {MC MS cs sl : Nat} {K : zK} {μ : zF} {l0 l1 l2 l3 : Option Value} {v : Int32} {P : Option Value → zK → zF → Prop} {mc ms : Nat} (hC : hL_pageOf x MC MS) (hQ : zQg x (some .int) P mc ms) (hc : cs ≤ mc) (hs : sl ≤ ms) (hp : P (some (.int v)) K μ) : zV x cs sl 14 [l0, l1, l2, l3] [.int v] K μ := zr_i hC hQ dL_pageOf_14 hc hs hp
theorem eL_pageOf_15 {x : zX} {MC MS cs sl : Nat} {st : List Value} {K : zK} {μ : zF} {l0 l1 l2 l3 : Option Value} (hC : hL_pageOf x MC MS) (k : zV x cs sl 16 [l0, l1, l2, l3] (.int (nI 0) :: st) K μ) : zV x cs sl 15 [l0, l1, l2, l3] st K μ := zv_iconst hC dL_pageOf_15 (by decide) k
theorem eL_pageOf_16 {x : zX} {MC MS cs sl : Nat} {K : zK} {μ : zF} {l0 l1 l2 l3 : Option Value} {v : Int32} {P : Option Value → zK → zF → Prop} {mc ms : Nat} (hC : hL_pageOf x MC MS) (hQ : zQg x (some .int) P mc ms) (hc : cs ≤ mc) (hs : sl ≤ ms) (hp : P (some (.int v)) K μ) : zV x cs sl 16 [l0, l1, l2, l3] [.int v] K μ := zr_i hC hQ dL_pageOf_16 hc hs hp
set_option maxHeartbeats 1000000 in
theorem vL_pageOf {l : Launch} {g : zG} (hl : l.stackTraces = false) {K : zK} {μ : zF} {x oa : Nat} {S : zMs} {p2 : Int32} (h : zX8 K μ x S) (ho : zI K oa 13 1) : EL_pageOf l g 1 6 [.ref x, .int p2, .ref oa] K μ (zHp zc1 (zdo_pageOf p2 S) K μ x oa S) := by
  refine nL_pageOf hl (fun z hT hC hQ => ?_)
  refine eL_pageOf_0 hC ?_
  refine eL_pageOf_1 hC ?_
  refine eL_pageOf_2 hC ?_
  refine eL_pageOf_3 hC ?_
  refine eL_pageOf_4 hC (Nat.le_of_ble_eq_true rfl) (Nat.le_of_ble_eq_true rfl) (Nat.le_of_ble_eq_true rfl) h.o (vX8_pageOf hC.nt h) (fun E K1 μ1 hx => ?_) (zk_rp (fun r S1 K1 μ1 e1 e2 e3 e4 => ?_))
  · obtain rfl := zxo_pageOf hx.1
    refine ⟨12, zHd.a0 hC hT (by decide +kernel) (List.mem_cons_of_mem _ zw_146) (by decide) (by decide), fun q => ?_⟩
    refine eL_pageOf_12 hC ?_
    refine eL_pageOf_13 hC ?_
    exact eL_pageOf_14 hC hQ (Nat.le_of_ble_eq_true rfl) (Nat.le_of_ble_eq_true rfl) (zHp.ex (k := 1) hx (by decide) (by decide) (by decide +kernel))
  · refine eL_pageOf_7 hC ?_
    refine eL_pageOf_8 hC (e2.i ho) (vp_in_nI (by decide) (by decide)) ?_
    refine eL_pageOf_9 hC ?_
    refine eL_pageOf_15 hC ?_
    exact eL_pageOf_16 hC hQ (Nat.le_of_ble_eq_true rfl) (Nat.le_of_ble_eq_true rfl) (zHp.ok e1 e2 e3 e4)
end ZL_pageOf
section ZL_linesOn
abbrev hL_linesOn (x : zX) (MC MS : Nat) : Prop := zH x (.codeWith yL_linesOn cL_linesOn 4 (some .int) [(0, 9, 12, 13)] :: wsL_law) RL cL_linesOn 4 8 164 MC MS
abbrev EL_linesOn (l : Launch) (g : zG) (mc ms : Nat) (As : List Value) (K : zK) (μ : zF) (P : Option Value → zK → zF → Prop) : Prop := zEv l g yL_linesOn (.codeWith yL_linesOn cL_linesOn 4 (some .int) [(0, 9, 12, 13)] :: wsL_law) 8 164 mc ms As K μ P
abbrev QL_linesOn (l : Launch) (g : zG) (mc ms : Nat) (As : List Value) (K : zK) (μ : zF) (P : Option Value → zK → zF → Prop) (PX : String → zK → zF → Prop) : Prop := zEx l g yL_linesOn (.codeWith yL_linesOn cL_linesOn 4 (some .int) [(0, 9, 12, 13)] :: wsL_law) 8 164 mc ms As K μ P PX
theorem nL_linesOn {l : Launch} {g : zG} {mc ms : Nat} {p1 : Nat} {p2 : Int32} {p3 : Nat} {K : zK} {μ : zF} {P : Option Value → zK → zF → Prop} (hl : l.stackTraces = false) (body : ∀ x : zX, zTb x [(0, 9, 12, 13)] → hL_linesOn x mc ms → zQg x (some .int) P mc ms → zV x 0 0 0 [some (.ref p1), some (.int p2), some (.ref p3), none] [] K μ) : EL_linesOn l g mc ms [.ref p1, .int p2, .ref p3] K μ P := zEv.ofW hl (by decide) rfl (Nat.le_of_ble_eq_true rfl) (fun x _ _ => body x)
theorem eL_linesOn_0 {x : zX} {MC MS cs sl : Nat} {st : List Value} {K : zK} {μ : zF} {l0 l1 l3 : Option Value} {a : Nat} (hC : hL_linesOn x MC MS) (k : zV x cs sl 1 [l0, l1, some (.ref a), l3] (.ref a :: st) K μ) : zV x cs sl 0 [l0, l1, some (.ref a), l3] st K μ := zv_aload_n hC dL_linesOn_0 rfl rfl k
theorem eL_linesOn_1 {x : zX} {MC MS cs sl : Nat} {st : List Value} {K : zK} {μ : zF} {l0 l1 l2 l3 : Option Value} (hC : hL_linesOn x MC MS) (k : zV x cs sl 2 [l0, l1, l2, l3] (.int (nI 0) :: st) K μ) : zV x cs sl 1 [l0, l1, l2, l3] st K μ := zv_iconst hC dL_linesOn_1 (by decide) k
theorem eL_linesOn_2 {x : zX} {MC MS cs sl : Nat} {st : List Value} {K : zK} {μ : zF} {l1 l2 l3 : Option Value} {a : Nat} (hC : hL_linesOn x MC MS) (k : zV x cs sl 3 [some (.ref a), l1, l2, l3] (.ref a :: st) K μ) : zV x cs sl 2 [some (.ref a), l1, l2, l3] st K μ := zv_aload_n hC dL_linesOn_2 rfl rfl k
theorem eL_linesOn_3 {x : zX} {MC MS cs sl : Nat} {st : List Value} {K : zK} {μ : zF} {l0 l2 l3 : Option Value} {v : Int32} (hC : hL_linesOn x MC MS) (k : zV x cs sl 4 [l0, some (.int v), l2, l3] (.int v :: st) K μ) : zV x cs sl 3 [l0, some (.int v), l2, l3] st K μ := zv_iload_n hC dL_linesOn_3 rfl rfl k
theorem eL_linesOn_4 {x : zX} {MC MS cs sl : Nat} {st : List Value} {K : zK} {μ : zF} {l0 l1 l2 l3 : Option Value} {b : Nat} {q1 : Value} {P : Option Value → zK → zF → Prop} {mc ms : Nat} {PX : String → zK → zF → Prop} (hC : hL_linesOn x MC MS) (hcat : (st.map fun v => v.category).sum ≤ 8) (hcm : cs + mc ≤ MC) (hsm : sl + ms ≤ MS) (hO : zO K b 8) (hE : QX8_linesOn (xl x) (xg x) mc ms [.ref b, q1] K μ P PX) (kx : ∀ (E : String) (K1 : zK) (μ1 : zF), PX E K1 μ1 → ∃ h, zHd x RL 4 E h ∧ ∀ q, zV x (cs + mc) (sl + ms) h [l0, l1, l2, l3] [.ref q] K1 μ1) (kk : ∀ (v : Option Value) (K1 : zK) (μ1 : zF), P v K1 μ1 → zV x (cs + mc) (sl + ms) 7 [l0, l1, l2, l3] (v.toList ++ st) K1 μ1) : zV x cs sl 4 [l0, l1, l2, l3] (q1 :: .ref b :: st) K μ := zct_V hC (zgV zw_688 zw_689 zw_690 zw_2 zw_691) rfl (by decide +kernel) ⟨Nat.le_of_ble_eq_true rfl, Nat.le_of_ble_eq_true rfl⟩ (ci := 8) rfl rfl (by decide) (n := 1) (As := [q1]) rfl dL_linesOn_4 rfl rfl hcat hcm hsm hO hE kx kk
theorem eL_linesOn_7 {x : zX} {MC MS cs sl : Nat} {st : List Value} {K : zK} {μ : zF} {l0 l1 l2 l3 : Option Value} {v : Int32} (hC : hL_linesOn x MC MS) (k : zV x cs sl 8 [l0, l1, l2, l3] (.long v.toInt64 :: st) K μ) : zV x cs sl 7 [l0, l1, l2, l3] (.int v :: st) K μ := zv_i2l hC rfl dL_linesOn_7 k
theorem eL_linesOn_8 {x : zX} {MC MS cs sl : Nat} {st : List Value} {K : zK} {μ : zF} {l0 l1 l2 l3 : Option Value} {a n : Nat} {i : Int32} {v : Int64} (hC : hL_linesOn x MC MS) (hI : zI K a 13 n) (hi : vp_in i n) (k : zV x cs sl 9 [l0, l1, l2, l3] st (zKl K a i.toNatClampNeg v) μ) : zV x cs sl 8 [l0, l1, l2, l3] (.long v :: .int i :: .ref a :: st) K μ := zv_last hC dL_linesOn_8 hI hi k
theorem eL_linesOn_9 {x : zX} {MC MS cs sl : Nat} {st : List Value} {K : zK} {μ : zF} {l0 l1 l2 l3 : Option Value} (hC : hL_linesOn x MC MS) (k : zV x cs sl 15 [l0, l1, l2, l3] st K μ) : zV x cs sl 9 [l0, l1, l2, l3] st K μ := zv_goto hC dL_linesOn_9 (by decide) k
theorem eL_linesOn_12 {x : zX} {MC MS cs sl : Nat} {st : List Value} {K : zK} {μ : zF} {l0 l1 l3 : Option Value} {v : Nat} {u : Nat} (hC : hL_linesOn x MC MS) (k : zV x cs sl 13 [l0, l1, some (.ref u), some (.ref v)] st K μ) : zV x cs sl 12 [l0, l1, some (.ref u), l3] (.ref v :: st) K μ := zv_astore_n hC dL_linesOn_12 rfl rfl (Nat.le_of_ble_eq_true rfl) rfl k
theorem eL_linesOn_13 {x : zX} {MC MS cs sl : Nat} {st : List Value} {K : zK} {μ : zF} {l0 l1 l2 l3 : Option Value} (hC : hL_linesOn x MC MS) (k : zV x cs sl 14 [l0, l1, l2, l3] (.int (nI 1) :: st) K μ) : zV x cs sl 13 [l0, l1, l2, l3] st K μ := zv_iconst hC dL_linesOn_13 (by decide) k
theorem eL_linesOn_14 {x : zX} {MC MS cs sl : Nat} {K : zK} {μ : zF} {l0 l1 l2 l3 : Option Value} {v : Int32} {P : Option Value → zK → zF → Prop} {mc ms : Nat} (hC : hL_linesOn x MC MS) (hQ : zQg x (some .int) P mc ms) (hc : cs ≤ mc) (hs : sl ≤ ms) (hp : P (some (.int v)) K μ) : zV x cs sl 14 [l0, l1, l2, l3] [.int v] K μ := zr_i hC hQ dL_linesOn_14 hc hs hp
theorem eL_linesOn_15 {x : zX} {MC MS cs sl : Nat} {st : List Value} {K : zK} {μ : zF} {l0 l1 l2 l3 : Option Value} (hC : hL_linesOn x MC MS) (k : zV x cs sl 16 [l0, l1, l2, l3] (.int (nI 0) :: st) K μ) : zV x cs sl 15 [l0, l1, l2, l3] st K μ := zv_iconst hC dL_linesOn_15 (by decide) k
theorem eL_linesOn_16 {x : zX} {MC MS cs sl : Nat} {K : zK} {μ : zF} {l0 l1 l2 l3 : Option Value} {v : Int32} {P : Option Value → zK → zF → Prop} {mc ms : Nat} (hC : hL_linesOn x MC MS) (hQ : zQg x (some .int) P mc ms) (hc : cs ≤ mc) (hs : sl ≤ ms) (hp : P (some (.int v)) K μ) : zV x cs sl 16 [l0, l1, l2, l3] [.int v] K μ := zr_i hC hQ dL_linesOn_16 hc hs hp
set_option maxHeartbeats 1000000 in
theorem vL_linesOn {l : Launch} {g : zG} (hl : l.stackTraces = false) {K : zK} {μ : zF} {x oa : Nat} {S : zMs} {p2 : Int32} (h : zX8 K μ x S) (ho : zI K oa 13 1) : EL_linesOn l g 1 6 [.ref x, .int p2, .ref oa] K μ (zHp zc1 (zdo_linesOn p2 S) K μ x oa S) := by
  refine nL_linesOn hl (fun z hT hC hQ => ?_)
  refine eL_linesOn_0 hC ?_
  refine eL_linesOn_1 hC ?_
  refine eL_linesOn_2 hC ?_
  refine eL_linesOn_3 hC ?_
  refine eL_linesOn_4 hC (Nat.le_of_ble_eq_true rfl) (Nat.le_of_ble_eq_true rfl) (Nat.le_of_ble_eq_true rfl) h.o (vX8_linesOn hC.nt h) (fun E K1 μ1 hx => ?_) (zk_rp (fun r S1 K1 μ1 e1 e2 e3 e4 => ?_))
  · obtain rfl := zxo_linesOn hx.1
    refine ⟨12, zHd.a0 hC hT (by decide +kernel) (List.mem_cons_of_mem _ zw_146) (by decide) (by decide), fun q => ?_⟩
    refine eL_linesOn_12 hC ?_
    refine eL_linesOn_13 hC ?_
    exact eL_linesOn_14 hC hQ (Nat.le_of_ble_eq_true rfl) (Nat.le_of_ble_eq_true rfl) (zHp.ex (k := 1) hx (by decide) (by decide) (by decide +kernel))
  · refine eL_linesOn_7 hC ?_
    refine eL_linesOn_8 hC (e2.i ho) (vp_in_nI (by decide) (by decide)) ?_
    refine eL_linesOn_9 hC ?_
    refine eL_linesOn_15 hC ?_
    exact eL_linesOn_16 hC hQ (Nat.le_of_ble_eq_true rfl) (Nat.le_of_ble_eq_true rfl) (zHp.ok e1 e2 e3 e4)
end ZL_linesOn
section ZL_costFor
abbrev hL_costFor (x : zX) (MC MS : Nat) : Prop := zH x (.codeWith yL_costFor cL_costFor 5 (some .int) [(0, 10, 13, 15)] :: wsL_law) RL cL_costFor 5 8 145 MC MS
abbrev EL_costFor (l : Launch) (g : zG) (mc ms : Nat) (As : List Value) (K : zK) (μ : zF) (P : Option Value → zK → zF → Prop) : Prop := zEv l g yL_costFor (.codeWith yL_costFor cL_costFor 5 (some .int) [(0, 10, 13, 15)] :: wsL_law) 8 145 mc ms As K μ P
abbrev QL_costFor (l : Launch) (g : zG) (mc ms : Nat) (As : List Value) (K : zK) (μ : zF) (P : Option Value → zK → zF → Prop) (PX : String → zK → zF → Prop) : Prop := zEx l g yL_costFor (.codeWith yL_costFor cL_costFor 5 (some .int) [(0, 10, 13, 15)] :: wsL_law) 8 145 mc ms As K μ P PX
theorem nL_costFor {l : Launch} {g : zG} {mc ms : Nat} {p1 : Nat} {p2 : Int32} {p3 : Int32} {p4 : Nat} {K : zK} {μ : zF} {P : Option Value → zK → zF → Prop} (hl : l.stackTraces = false) (body : ∀ x : zX, zTb x [(0, 10, 13, 15)] → hL_costFor x mc ms → zQg x (some .int) P mc ms → zV x 0 0 0 [some (.ref p1), some (.int p2), some (.int p3), some (.ref p4), none] [] K μ) : EL_costFor l g mc ms [.ref p1, .int p2, .int p3, .ref p4] K μ P := zEv.ofW hl (by decide) rfl (Nat.le_of_ble_eq_true rfl) (fun x _ _ => body x)
theorem eL_costFor_0 {x : zX} {MC MS cs sl : Nat} {st : List Value} {K : zK} {μ : zF} {l0 l1 l2 l4 : Option Value} {a : Nat} (hC : hL_costFor x MC MS) (k : zV x cs sl 1 [l0, l1, l2, some (.ref a), l4] (.ref a :: st) K μ) : zV x cs sl 0 [l0, l1, l2, some (.ref a), l4] st K μ := zv_aload_n hC dL_costFor_0 rfl rfl k
theorem eL_costFor_1 {x : zX} {MC MS cs sl : Nat} {st : List Value} {K : zK} {μ : zF} {l0 l1 l2 l3 l4 : Option Value} (hC : hL_costFor x MC MS) (k : zV x cs sl 2 [l0, l1, l2, l3, l4] (.int (nI 0) :: st) K μ) : zV x cs sl 1 [l0, l1, l2, l3, l4] st K μ := zv_iconst hC dL_costFor_1 (by decide) k
theorem eL_costFor_2 {x : zX} {MC MS cs sl : Nat} {st : List Value} {K : zK} {μ : zF} {l1 l2 l3 l4 : Option Value} {a : Nat} (hC : hL_costFor x MC MS) (k : zV x cs sl 3 [some (.ref a), l1, l2, l3, l4] (.ref a :: st) K μ) : zV x cs sl 2 [some (.ref a), l1, l2, l3, l4] st K μ := zv_aload_n hC dL_costFor_2 rfl rfl k
theorem eL_costFor_3 {x : zX} {MC MS cs sl : Nat} {st : List Value} {K : zK} {μ : zF} {l0 l2 l3 l4 : Option Value} {v : Int32} (hC : hL_costFor x MC MS) (k : zV x cs sl 4 [l0, some (.int v), l2, l3, l4] (.int v :: st) K μ) : zV x cs sl 3 [l0, some (.int v), l2, l3, l4] st K μ := zv_iload_n hC dL_costFor_3 rfl rfl k
theorem eL_costFor_4 {x : zX} {MC MS cs sl : Nat} {st : List Value} {K : zK} {μ : zF} {l0 l1 l3 l4 : Option Value} {v : Int32} (hC : hL_costFor x MC MS) (k : zV x cs sl 5 [l0, l1, some (.int v), l3, l4] (.int v :: st) K μ) : zV x cs sl 4 [l0, l1, some (.int v), l3, l4] st K μ := zv_iload_n hC dL_costFor_4 rfl rfl k
theorem eL_costFor_5 {x : zX} {MC MS cs sl : Nat} {st : List Value} {K : zK} {μ : zF} {l0 l1 l2 l3 l4 : Option Value} {b : Nat} {q1 q2 : Value} {P : Option Value → zK → zF → Prop} {mc ms : Nat} {PX : String → zK → zF → Prop} (hC : hL_costFor x MC MS) (hcat : (st.map fun v => v.category).sum ≤ 8) (hcm : cs + mc ≤ MC) (hsm : sl + ms ≤ MS) (hO : zO K b 8) (hE : QX8_costFor (xl x) (xg x) mc ms [.ref b, q1, q2] K μ P PX) (kx : ∀ (E : String) (K1 : zK) (μ1 : zF), PX E K1 μ1 → ∃ h, zHd x RL 5 E h ∧ ∀ q, zV x (cs + mc) (sl + ms) h [l0, l1, l2, l3, l4] [.ref q] K1 μ1) (kk : ∀ (v : Option Value) (K1 : zK) (μ1 : zF), P v K1 μ1 → zV x (cs + mc) (sl + ms) 8 [l0, l1, l2, l3, l4] (v.toList ++ st) K1 μ1) : zV x cs sl 5 [l0, l1, l2, l3, l4] (q2 :: q1 :: .ref b :: st) K μ := zct_V hC (zgV zw_729 zw_730 zw_731 zw_2 zw_732) rfl (by decide +kernel) ⟨Nat.le_of_ble_eq_true rfl, Nat.le_of_ble_eq_true rfl⟩ (ci := 8) rfl rfl (by decide) (n := 2) (As := [q1, q2]) rfl dL_costFor_5 rfl rfl hcat hcm hsm hO hE kx kk
theorem eL_costFor_8 {x : zX} {MC MS cs sl : Nat} {st : List Value} {K : zK} {μ : zF} {l0 l1 l2 l3 l4 : Option Value} {v : Int32} (hC : hL_costFor x MC MS) (k : zV x cs sl 9 [l0, l1, l2, l3, l4] (.long v.toInt64 :: st) K μ) : zV x cs sl 8 [l0, l1, l2, l3, l4] (.int v :: st) K μ := zv_i2l hC rfl dL_costFor_8 k
theorem eL_costFor_9 {x : zX} {MC MS cs sl : Nat} {st : List Value} {K : zK} {μ : zF} {l0 l1 l2 l3 l4 : Option Value} {a n : Nat} {i : Int32} {v : Int64} (hC : hL_costFor x MC MS) (hI : zI K a 13 n) (hi : vp_in i n) (k : zV x cs sl 10 [l0, l1, l2, l3, l4] st (zKl K a i.toNatClampNeg v) μ) : zV x cs sl 9 [l0, l1, l2, l3, l4] (.long v :: .int i :: .ref a :: st) K μ := zv_last hC dL_costFor_9 hI hi k
theorem eL_costFor_10 {x : zX} {MC MS cs sl : Nat} {st : List Value} {K : zK} {μ : zF} {l0 l1 l2 l3 l4 : Option Value} (hC : hL_costFor x MC MS) (k : zV x cs sl 17 [l0, l1, l2, l3, l4] st K μ) : zV x cs sl 10 [l0, l1, l2, l3, l4] st K μ := zv_goto hC dL_costFor_10 (by decide) k
theorem eL_costFor_13 {x : zX} {MC MS cs sl : Nat} {st : List Value} {K : zK} {μ : zF} {l0 l1 l2 l4 : Option Value} {v : Nat} {u : Nat} (hC : hL_costFor x MC MS) (k : zV x cs sl 15 [l0, l1, l2, some (.ref u), some (.ref v)] st K μ) : zV x cs sl 13 [l0, l1, l2, some (.ref u), l4] (.ref v :: st) K μ := zv_astore hC dL_costFor_13 rfl (Nat.le_of_ble_eq_true rfl) rfl k
theorem eL_costFor_15 {x : zX} {MC MS cs sl : Nat} {st : List Value} {K : zK} {μ : zF} {l0 l1 l2 l3 l4 : Option Value} (hC : hL_costFor x MC MS) (k : zV x cs sl 16 [l0, l1, l2, l3, l4] (.int (nI 1) :: st) K μ) : zV x cs sl 15 [l0, l1, l2, l3, l4] st K μ := zv_iconst hC dL_costFor_15 (by decide) k
theorem eL_costFor_16 {x : zX} {MC MS cs sl : Nat} {K : zK} {μ : zF} {l0 l1 l2 l3 l4 : Option Value} {v : Int32} {P : Option Value → zK → zF → Prop} {mc ms : Nat} (hC : hL_costFor x MC MS) (hQ : zQg x (some .int) P mc ms) (hc : cs ≤ mc) (hs : sl ≤ ms) (hp : P (some (.int v)) K μ) : zV x cs sl 16 [l0, l1, l2, l3, l4] [.int v] K μ := zr_i hC hQ dL_costFor_16 hc hs hp
theorem eL_costFor_17 {x : zX} {MC MS cs sl : Nat} {st : List Value} {K : zK} {μ : zF} {l0 l1 l2 l3 l4 : Option Value} (hC : hL_costFor x MC MS) (k : zV x cs sl 18 [l0, l1, l2, l3, l4] (.int (nI 0) :: st) K μ) : zV x cs sl 17 [l0, l1, l2, l3, l4] st K μ := zv_iconst hC dL_costFor_17 (by decide) k
theorem eL_costFor_18 {x : zX} {MC MS cs sl : Nat} {K : zK} {μ : zF} {l0 l1 l2 l3 l4 : Option Value} {v : Int32} {P : Option Value → zK → zF → Prop} {mc ms : Nat} (hC : hL_costFor x MC MS) (hQ : zQg x (some .int) P mc ms) (hc : cs ≤ mc) (hs : sl ≤ ms) (hp : P (some (.int v)) K μ) : zV x cs sl 18 [l0, l1, l2, l3, l4] [.int v] K μ := zr_i hC hQ dL_costFor_18 hc hs hp
set_option maxHeartbeats 1000000 in
theorem vL_costFor {l : Launch} {g : zG} (hl : l.stackTraces = false) {K : zK} {μ : zF} {x oa : Nat} {S : zMs} {p2 : Int32} {b3 : Nat} (h : zX8 K μ x S) (ho : zI K oa 13 1) (hb : b3 ≤ 1) : EL_costFor l g 1 6 [.ref x, .int p2, .int (nI b3), .ref oa] K μ (zHp zc1 (zdo_costFor p2 b3 S) K μ x oa S) := by
  refine nL_costFor hl (fun z hT hC hQ => ?_)
  refine eL_costFor_0 hC ?_
  refine eL_costFor_1 hC ?_
  refine eL_costFor_2 hC ?_
  refine eL_costFor_3 hC ?_
  refine eL_costFor_4 hC ?_
  refine eL_costFor_5 hC (Nat.le_of_ble_eq_true rfl) (Nat.le_of_ble_eq_true rfl) (Nat.le_of_ble_eq_true rfl) h.o (vX8_costFor hC.nt h hb) (fun E K1 μ1 hx => ?_) (zk_rp (fun r S1 K1 μ1 e1 e2 e3 e4 => ?_))
  · obtain rfl := zxo_costFor hx.1
    refine ⟨13, zHd.a0 hC hT (by decide +kernel) (List.mem_cons_of_mem _ zw_147) (by decide) (by decide), fun q => ?_⟩
    refine eL_costFor_13 hC ?_
    refine eL_costFor_15 hC ?_
    exact eL_costFor_16 hC hQ (Nat.le_of_ble_eq_true rfl) (Nat.le_of_ble_eq_true rfl) (zHp.ex (k := 1) hx (by decide) (by decide) (by decide +kernel))
  · refine eL_costFor_8 hC ?_
    refine eL_costFor_9 hC (e2.i ho) (vp_in_nI (by decide) (by decide)) ?_
    refine eL_costFor_10 hC ?_
    refine eL_costFor_17 hC ?_
    exact eL_costFor_18 hC hQ (Nat.le_of_ble_eq_true rfl) (Nat.le_of_ble_eq_true rfl) (zHp.ok e1 e2 e3 e4)
end ZL_costFor
section ZL_bestColumn
abbrev hL_bestColumn (x : zX) (MC MS : Nat) : Prop := zH x (.codeWith yL_bestColumn cL_bestColumn 5 (some .int) [(0, 10, 13, 15)] :: wsL_law) RL cL_bestColumn 5 8 149 MC MS
abbrev EL_bestColumn (l : Launch) (g : zG) (mc ms : Nat) (As : List Value) (K : zK) (μ : zF) (P : Option Value → zK → zF → Prop) : Prop := zEv l g yL_bestColumn (.codeWith yL_bestColumn cL_bestColumn 5 (some .int) [(0, 10, 13, 15)] :: wsL_law) 8 149 mc ms As K μ P
abbrev QL_bestColumn (l : Launch) (g : zG) (mc ms : Nat) (As : List Value) (K : zK) (μ : zF) (P : Option Value → zK → zF → Prop) (PX : String → zK → zF → Prop) : Prop := zEx l g yL_bestColumn (.codeWith yL_bestColumn cL_bestColumn 5 (some .int) [(0, 10, 13, 15)] :: wsL_law) 8 149 mc ms As K μ P PX
theorem nL_bestColumn {l : Launch} {g : zG} {mc ms : Nat} {p1 : Nat} {p2 : Int32} {p3 : Int32} {p4 : Nat} {K : zK} {μ : zF} {P : Option Value → zK → zF → Prop} (hl : l.stackTraces = false) (body : ∀ x : zX, zTb x [(0, 10, 13, 15)] → hL_bestColumn x mc ms → zQg x (some .int) P mc ms → zV x 0 0 0 [some (.ref p1), some (.int p2), some (.int p3), some (.ref p4), none] [] K μ) : EL_bestColumn l g mc ms [.ref p1, .int p2, .int p3, .ref p4] K μ P := zEv.ofW hl (by decide) rfl (Nat.le_of_ble_eq_true rfl) (fun x _ _ => body x)
theorem eL_bestColumn_0 {x : zX} {MC MS cs sl : Nat} {st : List Value} {K : zK} {μ : zF} {l0 l1 l2 l4 : Option Value} {a : Nat} (hC : hL_bestColumn x MC MS) (k : zV x cs sl 1 [l0, l1, l2, some (.ref a), l4] (.ref a :: st) K μ) : zV x cs sl 0 [l0, l1, l2, some (.ref a), l4] st K μ := zv_aload_n hC dL_bestColumn_0 rfl rfl k
theorem eL_bestColumn_1 {x : zX} {MC MS cs sl : Nat} {st : List Value} {K : zK} {μ : zF} {l0 l1 l2 l3 l4 : Option Value} (hC : hL_bestColumn x MC MS) (k : zV x cs sl 2 [l0, l1, l2, l3, l4] (.int (nI 0) :: st) K μ) : zV x cs sl 1 [l0, l1, l2, l3, l4] st K μ := zv_iconst hC dL_bestColumn_1 (by decide) k
theorem eL_bestColumn_2 {x : zX} {MC MS cs sl : Nat} {st : List Value} {K : zK} {μ : zF} {l1 l2 l3 l4 : Option Value} {a : Nat} (hC : hL_bestColumn x MC MS) (k : zV x cs sl 3 [some (.ref a), l1, l2, l3, l4] (.ref a :: st) K μ) : zV x cs sl 2 [some (.ref a), l1, l2, l3, l4] st K μ := zv_aload_n hC dL_bestColumn_2 rfl rfl k
theorem eL_bestColumn_3 {x : zX} {MC MS cs sl : Nat} {st : List Value} {K : zK} {μ : zF} {l0 l2 l3 l4 : Option Value} {v : Int32} (hC : hL_bestColumn x MC MS) (k : zV x cs sl 4 [l0, some (.int v), l2, l3, l4] (.int v :: st) K μ) : zV x cs sl 3 [l0, some (.int v), l2, l3, l4] st K μ := zv_iload_n hC dL_bestColumn_3 rfl rfl k
theorem eL_bestColumn_4 {x : zX} {MC MS cs sl : Nat} {st : List Value} {K : zK} {μ : zF} {l0 l1 l3 l4 : Option Value} {v : Int32} (hC : hL_bestColumn x MC MS) (k : zV x cs sl 5 [l0, l1, some (.int v), l3, l4] (.int v :: st) K μ) : zV x cs sl 4 [l0, l1, some (.int v), l3, l4] st K μ := zv_iload_n hC dL_bestColumn_4 rfl rfl k
theorem eL_bestColumn_5 {x : zX} {MC MS cs sl : Nat} {st : List Value} {K : zK} {μ : zF} {l0 l1 l2 l3 l4 : Option Value} {b : Nat} {q1 q2 : Value} {P : Option Value → zK → zF → Prop} {mc ms : Nat} {PX : String → zK → zF → Prop} (hC : hL_bestColumn x MC MS) (hcat : (st.map fun v => v.category).sum ≤ 8) (hcm : cs + mc ≤ MC) (hsm : sl + ms ≤ MS) (hO : zO K b 8) (hE : QX8_bestColumn (xl x) (xg x) mc ms [.ref b, q1, q2] K μ P PX) (kx : ∀ (E : String) (K1 : zK) (μ1 : zF), PX E K1 μ1 → ∃ h, zHd x RL 5 E h ∧ ∀ q, zV x (cs + mc) (sl + ms) h [l0, l1, l2, l3, l4] [.ref q] K1 μ1) (kk : ∀ (v : Option Value) (K1 : zK) (μ1 : zF), P v K1 μ1 → zV x (cs + mc) (sl + ms) 8 [l0, l1, l2, l3, l4] (v.toList ++ st) K1 μ1) : zV x cs sl 5 [l0, l1, l2, l3, l4] (q2 :: q1 :: .ref b :: st) K μ := zct_V hC (zgV zw_741 zw_742 zw_743 zw_2 zw_744) rfl (by decide +kernel) ⟨Nat.le_of_ble_eq_true rfl, Nat.le_of_ble_eq_true rfl⟩ (ci := 8) rfl rfl (by decide) (n := 2) (As := [q1, q2]) rfl dL_bestColumn_5 rfl rfl hcat hcm hsm hO hE kx kk
theorem eL_bestColumn_8 {x : zX} {MC MS cs sl : Nat} {st : List Value} {K : zK} {μ : zF} {l0 l1 l2 l3 l4 : Option Value} {v : Int32} (hC : hL_bestColumn x MC MS) (k : zV x cs sl 9 [l0, l1, l2, l3, l4] (.long v.toInt64 :: st) K μ) : zV x cs sl 8 [l0, l1, l2, l3, l4] (.int v :: st) K μ := zv_i2l hC rfl dL_bestColumn_8 k
theorem eL_bestColumn_9 {x : zX} {MC MS cs sl : Nat} {st : List Value} {K : zK} {μ : zF} {l0 l1 l2 l3 l4 : Option Value} {a n : Nat} {i : Int32} {v : Int64} (hC : hL_bestColumn x MC MS) (hI : zI K a 13 n) (hi : vp_in i n) (k : zV x cs sl 10 [l0, l1, l2, l3, l4] st (zKl K a i.toNatClampNeg v) μ) : zV x cs sl 9 [l0, l1, l2, l3, l4] (.long v :: .int i :: .ref a :: st) K μ := zv_last hC dL_bestColumn_9 hI hi k
theorem eL_bestColumn_10 {x : zX} {MC MS cs sl : Nat} {st : List Value} {K : zK} {μ : zF} {l0 l1 l2 l3 l4 : Option Value} (hC : hL_bestColumn x MC MS) (k : zV x cs sl 17 [l0, l1, l2, l3, l4] st K μ) : zV x cs sl 10 [l0, l1, l2, l3, l4] st K μ := zv_goto hC dL_bestColumn_10 (by decide) k
theorem eL_bestColumn_13 {x : zX} {MC MS cs sl : Nat} {st : List Value} {K : zK} {μ : zF} {l0 l1 l2 l4 : Option Value} {v : Nat} {u : Nat} (hC : hL_bestColumn x MC MS) (k : zV x cs sl 15 [l0, l1, l2, some (.ref u), some (.ref v)] st K μ) : zV x cs sl 13 [l0, l1, l2, some (.ref u), l4] (.ref v :: st) K μ := zv_astore hC dL_bestColumn_13 rfl (Nat.le_of_ble_eq_true rfl) rfl k
theorem eL_bestColumn_15 {x : zX} {MC MS cs sl : Nat} {st : List Value} {K : zK} {μ : zF} {l0 l1 l2 l3 l4 : Option Value} (hC : hL_bestColumn x MC MS) (k : zV x cs sl 16 [l0, l1, l2, l3, l4] (.int (nI 1) :: st) K μ) : zV x cs sl 15 [l0, l1, l2, l3, l4] st K μ := zv_iconst hC dL_bestColumn_15 (by decide) k
theorem eL_bestColumn_16 {x : zX} {MC MS cs sl : Nat} {K : zK} {μ : zF} {l0 l1 l2 l3 l4 : Option Value} {v : Int32} {P : Option Value → zK → zF → Prop} {mc ms : Nat} (hC : hL_bestColumn x MC MS) (hQ : zQg x (some .int) P mc ms) (hc : cs ≤ mc) (hs : sl ≤ ms) (hp : P (some (.int v)) K μ) : zV x cs sl 16 [l0, l1, l2, l3, l4] [.int v] K μ := zr_i hC hQ dL_bestColumn_16 hc hs hp
theorem eL_bestColumn_17 {x : zX} {MC MS cs sl : Nat} {st : List Value} {K : zK} {μ : zF} {l0 l1 l2 l3 l4 : Option Value} (hC : hL_bestColumn x MC MS) (k : zV x cs sl 18 [l0, l1, l2, l3, l4] (.int (nI 0) :: st) K μ) : zV x cs sl 17 [l0, l1, l2, l3, l4] st K μ := zv_iconst hC dL_bestColumn_17 (by decide) k
theorem eL_bestColumn_18 {x : zX} {MC MS cs sl : Nat} {K : zK} {μ : zF} {l0 l1 l2 l3 l4 : Option Value} {v : Int32} {P : Option Value → zK → zF → Prop} {mc ms : Nat} (hC : hL_bestColumn x MC MS) (hQ : zQg x (some .int) P mc ms) (hc : cs ≤ mc) (hs : sl ≤ ms) (hp : P (some (.int v)) K μ) : zV x cs sl 18 [l0, l1, l2, l3, l4] [.int v] K μ := zr_i hC hQ dL_bestColumn_18 hc hs hp
set_option maxHeartbeats 1000000 in
theorem vL_bestColumn {l : Launch} {g : zG} (hl : l.stackTraces = false) {K : zK} {μ : zF} {x oa : Nat} {S : zMs} {p2 : Int32} {p3 : Int32} (h : zX8 K μ x S) (ho : zI K oa 13 1) : EL_bestColumn l g 2 12 [.ref x, .int p2, .int p3, .ref oa] K μ (zHp zc1 (zdo_bestColumn p2 p3 S) K μ x oa S) := by
  refine nL_bestColumn hl (fun z hT hC hQ => ?_)
  refine eL_bestColumn_0 hC ?_
  refine eL_bestColumn_1 hC ?_
  refine eL_bestColumn_2 hC ?_
  refine eL_bestColumn_3 hC ?_
  refine eL_bestColumn_4 hC ?_
  refine eL_bestColumn_5 hC (Nat.le_of_ble_eq_true rfl) (Nat.le_of_ble_eq_true rfl) (Nat.le_of_ble_eq_true rfl) h.o (vX8_bestColumn hC.nt h) (fun E K1 μ1 hx => ?_) (zk_rp (fun r S1 K1 μ1 e1 e2 e3 e4 => ?_))
  · obtain rfl := zxo_bestColumn hx.1
    refine ⟨13, zHd.a0 hC hT (by decide +kernel) (List.mem_cons_of_mem _ zw_147) (by decide) (by decide), fun q => ?_⟩
    refine eL_bestColumn_13 hC ?_
    refine eL_bestColumn_15 hC ?_
    exact eL_bestColumn_16 hC hQ (Nat.le_of_ble_eq_true rfl) (Nat.le_of_ble_eq_true rfl) (zHp.ex (k := 1) hx (by decide) (by decide) (by decide +kernel))
  · refine eL_bestColumn_8 hC ?_
    refine eL_bestColumn_9 hC (e2.i ho) (vp_in_nI (by decide) (by decide)) ?_
    refine eL_bestColumn_10 hC ?_
    refine eL_bestColumn_17 hC ?_
    exact eL_bestColumn_18 hC hQ (Nat.le_of_ble_eq_true rfl) (Nat.le_of_ble_eq_true rfl) (zHp.ok e1 e2 e3 e4)
end ZL_bestColumn
section ZL_costIfMarked
abbrev hL_costIfMarked (x : zX) (MC MS : Nat) : Prop := zH x (.codeWith yL_costIfMarked cL_costIfMarked 5 (some .int) [(0, 10, 13, 13), (0, 10, 17, 15)] :: wsL_law) RL cL_costIfMarked 5 8 145 MC MS
abbrev EL_costIfMarked (l : Launch) (g : zG) (mc ms : Nat) (As : List Value) (K : zK) (μ : zF) (P : Option Value → zK → zF → Prop) : Prop := zEv l g yL_costIfMarked (.codeWith yL_costIfMarked cL_costIfMarked 5 (some .int) [(0, 10, 13, 13), (0, 10, 17, 15)] :: wsL_law) 8 145 mc ms As K μ P
abbrev QL_costIfMarked (l : Launch) (g : zG) (mc ms : Nat) (As : List Value) (K : zK) (μ : zF) (P : Option Value → zK → zF → Prop) (PX : String → zK → zF → Prop) : Prop := zEx l g yL_costIfMarked (.codeWith yL_costIfMarked cL_costIfMarked 5 (some .int) [(0, 10, 13, 13), (0, 10, 17, 15)] :: wsL_law) 8 145 mc ms As K μ P PX
theorem nL_costIfMarked {l : Launch} {g : zG} {mc ms : Nat} {p1 : Nat} {p2 : Int32} {p3 : Int32} {p4 : Nat} {K : zK} {μ : zF} {P : Option Value → zK → zF → Prop} (hl : l.stackTraces = false) (body : ∀ x : zX, zTb x [(0, 10, 13, 13), (0, 10, 17, 15)] → hL_costIfMarked x mc ms → zQg x (some .int) P mc ms → zV x 0 0 0 [some (.ref p1), some (.int p2), some (.int p3), some (.ref p4), none] [] K μ) : EL_costIfMarked l g mc ms [.ref p1, .int p2, .int p3, .ref p4] K μ P := zEv.ofW hl (by decide) rfl (Nat.le_of_ble_eq_true rfl) (fun x _ _ => body x)
theorem eL_costIfMarked_0 {x : zX} {MC MS cs sl : Nat} {st : List Value} {K : zK} {μ : zF} {l0 l1 l2 l4 : Option Value} {a : Nat} (hC : hL_costIfMarked x MC MS) (k : zV x cs sl 1 [l0, l1, l2, some (.ref a), l4] (.ref a :: st) K μ) : zV x cs sl 0 [l0, l1, l2, some (.ref a), l4] st K μ := zv_aload_n hC dL_costIfMarked_0 rfl rfl k
theorem eL_costIfMarked_1 {x : zX} {MC MS cs sl : Nat} {st : List Value} {K : zK} {μ : zF} {l0 l1 l2 l3 l4 : Option Value} (hC : hL_costIfMarked x MC MS) (k : zV x cs sl 2 [l0, l1, l2, l3, l4] (.int (nI 0) :: st) K μ) : zV x cs sl 1 [l0, l1, l2, l3, l4] st K μ := zv_iconst hC dL_costIfMarked_1 (by decide) k
theorem eL_costIfMarked_2 {x : zX} {MC MS cs sl : Nat} {st : List Value} {K : zK} {μ : zF} {l1 l2 l3 l4 : Option Value} {a : Nat} (hC : hL_costIfMarked x MC MS) (k : zV x cs sl 3 [some (.ref a), l1, l2, l3, l4] (.ref a :: st) K μ) : zV x cs sl 2 [some (.ref a), l1, l2, l3, l4] st K μ := zv_aload_n hC dL_costIfMarked_2 rfl rfl k
theorem eL_costIfMarked_3 {x : zX} {MC MS cs sl : Nat} {st : List Value} {K : zK} {μ : zF} {l0 l2 l3 l4 : Option Value} {v : Int32} (hC : hL_costIfMarked x MC MS) (k : zV x cs sl 4 [l0, some (.int v), l2, l3, l4] (.int v :: st) K μ) : zV x cs sl 3 [l0, some (.int v), l2, l3, l4] st K μ := zv_iload_n hC dL_costIfMarked_3 rfl rfl k
theorem eL_costIfMarked_4 {x : zX} {MC MS cs sl : Nat} {st : List Value} {K : zK} {μ : zF} {l0 l1 l3 l4 : Option Value} {v : Int32} (hC : hL_costIfMarked x MC MS) (k : zV x cs sl 5 [l0, l1, some (.int v), l3, l4] (.int v :: st) K μ) : zV x cs sl 4 [l0, l1, some (.int v), l3, l4] st K μ := zv_iload_n hC dL_costIfMarked_4 rfl rfl k
theorem eL_costIfMarked_5 {x : zX} {MC MS cs sl : Nat} {st : List Value} {K : zK} {μ : zF} {l0 l1 l2 l3 l4 : Option Value} {b : Nat} {q1 q2 : Value} {P : Option Value → zK → zF → Prop} {mc ms : Nat} {PX : String → zK → zF → Prop} (hC : hL_costIfMarked x MC MS) (hcat : (st.map fun v => v.category).sum ≤ 8) (hcm : cs + mc ≤ MC) (hsm : sl + ms ≤ MS) (hO : zO K b 8) (hE : QX8_costIfMarked (xl x) (xg x) mc ms [.ref b, q1, q2] K μ P PX) (kx : ∀ (E : String) (K1 : zK) (μ1 : zF), PX E K1 μ1 → ∃ h, zHd x RL 5 E h ∧ ∀ q, zV x (cs + mc) (sl + ms) h [l0, l1, l2, l3, l4] [.ref q] K1 μ1) (kk : ∀ (v : Option Value) (K1 : zK) (μ1 : zF), P v K1 μ1 → zV x (cs + mc) (sl + ms) 8 [l0, l1, l2, l3, l4] (v.toList ++ st) K1 μ1) : zV x cs sl 5 [l0, l1, l2, l3, l4] (q2 :: q1 :: .ref b :: st) K μ := zct_V hC (zgV zw_761 zw_762 zw_763 zw_2 zw_764) rfl (by decide +kernel) ⟨Nat.le_of_ble_eq_true rfl, Nat.le_of_ble_eq_true rfl⟩ (ci := 8) rfl rfl (by decide) (n := 2) (As := [q1, q2]) rfl dL_costIfMarked_5 rfl rfl hcat hcm hsm hO hE kx kk
theorem eL_costIfMarked_8 {x : zX} {MC MS cs sl : Nat} {st : List Value} {K : zK} {μ : zF} {l0 l1 l2 l3 l4 : Option Value} {v : Int32} (hC : hL_costIfMarked x MC MS) (k : zV x cs sl 9 [l0, l1, l2, l3, l4] (.long v.toInt64 :: st) K μ) : zV x cs sl 8 [l0, l1, l2, l3, l4] (.int v :: st) K μ := zv_i2l hC rfl dL_costIfMarked_8 k
theorem eL_costIfMarked_9 {x : zX} {MC MS cs sl : Nat} {st : List Value} {K : zK} {μ : zF} {l0 l1 l2 l3 l4 : Option Value} {a n : Nat} {i : Int32} {v : Int64} (hC : hL_costIfMarked x MC MS) (hI : zI K a 13 n) (hi : vp_in i n) (k : zV x cs sl 10 [l0, l1, l2, l3, l4] st (zKl K a i.toNatClampNeg v) μ) : zV x cs sl 9 [l0, l1, l2, l3, l4] (.long v :: .int i :: .ref a :: st) K μ := zv_last hC dL_costIfMarked_9 hI hi k
theorem eL_costIfMarked_10 {x : zX} {MC MS cs sl : Nat} {st : List Value} {K : zK} {μ : zF} {l0 l1 l2 l3 l4 : Option Value} (hC : hL_costIfMarked x MC MS) (k : zV x cs sl 21 [l0, l1, l2, l3, l4] st K μ) : zV x cs sl 10 [l0, l1, l2, l3, l4] st K μ := zv_goto hC dL_costIfMarked_10 (by decide) k
theorem eL_costIfMarked_13 {x : zX} {MC MS cs sl : Nat} {st : List Value} {K : zK} {μ : zF} {l0 l1 l2 l4 : Option Value} {v : Nat} {u : Nat} (hC : hL_costIfMarked x MC MS) (k : zV x cs sl 15 [l0, l1, l2, some (.ref u), some (.ref v)] st K μ) : zV x cs sl 13 [l0, l1, l2, some (.ref u), l4] (.ref v :: st) K μ := zv_astore hC dL_costIfMarked_13 rfl (Nat.le_of_ble_eq_true rfl) rfl k
theorem eL_costIfMarked_15 {x : zX} {MC MS cs sl : Nat} {st : List Value} {K : zK} {μ : zF} {l0 l1 l2 l3 l4 : Option Value} (hC : hL_costIfMarked x MC MS) (k : zV x cs sl 16 [l0, l1, l2, l3, l4] (.int (nI 1) :: st) K μ) : zV x cs sl 15 [l0, l1, l2, l3, l4] st K μ := zv_iconst hC dL_costIfMarked_15 (by decide) k
theorem eL_costIfMarked_16 {x : zX} {MC MS cs sl : Nat} {K : zK} {μ : zF} {l0 l1 l2 l3 l4 : Option Value} {v : Int32} {P : Option Value → zK → zF → Prop} {mc ms : Nat} (hC : hL_costIfMarked x MC MS) (hQ : zQg x (some .int) P mc ms) (hc : cs ≤ mc) (hs : sl ≤ ms) (hp : P (some (.int v)) K μ) : zV x cs sl 16 [l0, l1, l2, l3, l4] [.int v] K μ := zr_i hC hQ dL_costIfMarked_16 hc hs hp
theorem eL_costIfMarked_17 {x : zX} {MC MS cs sl : Nat} {st : List Value} {K : zK} {μ : zF} {l0 l1 l2 l4 : Option Value} {v : Nat} {u : Nat} (hC : hL_costIfMarked x MC MS) (k : zV x cs sl 19 [l0, l1, l2, some (.ref u), some (.ref v)] st K μ) : zV x cs sl 17 [l0, l1, l2, some (.ref u), l4] (.ref v :: st) K μ := zv_astore hC dL_costIfMarked_17 rfl (Nat.le_of_ble_eq_true rfl) rfl k
theorem eL_costIfMarked_19 {x : zX} {MC MS cs sl : Nat} {st : List Value} {K : zK} {μ : zF} {l0 l1 l2 l3 l4 : Option Value} (hC : hL_costIfMarked x MC MS) (k : zV x cs sl 20 [l0, l1, l2, l3, l4] (.int (nI 2) :: st) K μ) : zV x cs sl 19 [l0, l1, l2, l3, l4] st K μ := zv_iconst hC dL_costIfMarked_19 (by decide) k
theorem eL_costIfMarked_20 {x : zX} {MC MS cs sl : Nat} {K : zK} {μ : zF} {l0 l1 l2 l3 l4 : Option Value} {v : Int32} {P : Option Value → zK → zF → Prop} {mc ms : Nat} (hC : hL_costIfMarked x MC MS) (hQ : zQg x (some .int) P mc ms) (hc : cs ≤ mc) (hs : sl ≤ ms) (hp : P (some (.int v)) K μ) : zV x cs sl 20 [l0, l1, l2, l3, l4] [.int v] K μ := zr_i hC hQ dL_costIfMarked_20 hc hs hp
theorem eL_costIfMarked_21 {x : zX} {MC MS cs sl : Nat} {st : List Value} {K : zK} {μ : zF} {l0 l1 l2 l3 l4 : Option Value} (hC : hL_costIfMarked x MC MS) (k : zV x cs sl 22 [l0, l1, l2, l3, l4] (.int (nI 0) :: st) K μ) : zV x cs sl 21 [l0, l1, l2, l3, l4] st K μ := zv_iconst hC dL_costIfMarked_21 (by decide) k
theorem eL_costIfMarked_22 {x : zX} {MC MS cs sl : Nat} {K : zK} {μ : zF} {l0 l1 l2 l3 l4 : Option Value} {v : Int32} {P : Option Value → zK → zF → Prop} {mc ms : Nat} (hC : hL_costIfMarked x MC MS) (hQ : zQg x (some .int) P mc ms) (hc : cs ≤ mc) (hs : sl ≤ ms) (hp : P (some (.int v)) K μ) : zV x cs sl 22 [l0, l1, l2, l3, l4] [.int v] K μ := zr_i hC hQ dL_costIfMarked_22 hc hs hp
set_option maxHeartbeats 1000000 in
theorem vL_costIfMarked {l : Launch} {g : zG} (hl : l.stackTraces = false) {K : zK} {μ : zF} {x oa : Nat} {S : zMs} {p2 : Int32} {p3 : Int32} (h : zX8 K μ x S) (ho : zI K oa 13 1) : EL_costIfMarked l g 2 12 [.ref x, .int p2, .int p3, .ref oa] K μ (zHp zcIA (zdo_costIfMarked p2 p3 S) K μ x oa S) := by
  refine nL_costIfMarked hl (fun z hT hC hQ => ?_)
  refine eL_costIfMarked_0 hC ?_
  refine eL_costIfMarked_1 hC ?_
  refine eL_costIfMarked_2 hC ?_
  refine eL_costIfMarked_3 hC ?_
  refine eL_costIfMarked_4 hC ?_
  refine eL_costIfMarked_5 hC (Nat.le_of_ble_eq_true rfl) (Nat.le_of_ble_eq_true rfl) (Nat.le_of_ble_eq_true rfl) h.o (vX8_costIfMarked hC.nt h) (fun E K1 μ1 hx => ?_) (zk_rp (fun r S1 K1 μ1 e1 e2 e3 e4 => ?_))
  · rcases zxo_costIfMarked hx.1 with rfl | rfl
    · refine ⟨13, zHd.a0 hC hT (by decide +kernel) (List.mem_cons_of_mem _ zw_146) (by decide) (by decide), fun q => ?_⟩
      refine eL_costIfMarked_13 hC ?_
      refine eL_costIfMarked_15 hC ?_
      exact eL_costIfMarked_16 hC hQ (Nat.le_of_ble_eq_true rfl) (Nat.le_of_ble_eq_true rfl) (zHp.ex (k := 1) hx (by decide) (by decide) (by decide +kernel))
    · refine ⟨17, zHd.a1 hC hT (by decide +kernel) (List.mem_cons_of_mem _ zw_146) (by decide) (by decide +kernel) (List.mem_cons_of_mem _ zw_147) (by decide) (by decide), fun q => ?_⟩
      refine eL_costIfMarked_17 hC ?_
      refine eL_costIfMarked_19 hC ?_
      exact eL_costIfMarked_20 hC hQ (Nat.le_of_ble_eq_true rfl) (Nat.le_of_ble_eq_true rfl) (zHp.ex (k := 2) hx (by decide) (by decide) (by decide +kernel))
  · refine eL_costIfMarked_8 hC ?_
    refine eL_costIfMarked_9 hC (e2.i ho) (vp_in_nI (by decide) (by decide)) ?_
    refine eL_costIfMarked_10 hC ?_
    refine eL_costIfMarked_21 hC ?_
    exact eL_costIfMarked_22 hC hQ (Nat.le_of_ble_eq_true rfl) (Nat.le_of_ble_eq_true rfl) (zHp.ok e1 e2 e3 e4)
end ZL_costIfMarked
section ZL_append
abbrev hL_append (x : zX) (MC MS : Nat) : Prop := zH x (.codeWith yL_append cL_append 4 (some .int) [(0, 9, 12, 15), (0, 9, 15, 17)] :: wsL_law) RL cL_append 4 8 133 MC MS
abbrev EL_append (l : Launch) (g : zG) (mc ms : Nat) (As : List Value) (K : zK) (μ : zF) (P : Option Value → zK → zF → Prop) : Prop := zEv l g yL_append (.codeWith yL_append cL_append 4 (some .int) [(0, 9, 12, 15), (0, 9, 15, 17)] :: wsL_law) 8 133 mc ms As K μ P
abbrev QL_append (l : Launch) (g : zG) (mc ms : Nat) (As : List Value) (K : zK) (μ : zF) (P : Option Value → zK → zF → Prop) (PX : String → zK → zF → Prop) : Prop := zEx l g yL_append (.codeWith yL_append cL_append 4 (some .int) [(0, 9, 12, 15), (0, 9, 15, 17)] :: wsL_law) 8 133 mc ms As K μ P PX
theorem nL_append {l : Launch} {g : zG} {mc ms : Nat} {p1 : Nat} {p2 : Int32} {p3 : Nat} {K : zK} {μ : zF} {P : Option Value → zK → zF → Prop} (hl : l.stackTraces = false) (body : ∀ x : zX, zTb x [(0, 9, 12, 15), (0, 9, 15, 17)] → hL_append x mc ms → zQg x (some .int) P mc ms → zV x 0 0 0 [some (.ref p1), some (.int p2), some (.ref p3), none] [] K μ) : EL_append l g mc ms [.ref p1, .int p2, .ref p3] K μ P := zEv.ofW hl (by decide) rfl (Nat.le_of_ble_eq_true rfl) (fun x _ _ => body x)
theorem eL_append_0 {x : zX} {MC MS cs sl : Nat} {st : List Value} {K : zK} {μ : zF} {l0 l1 l3 : Option Value} {a : Nat} (hC : hL_append x MC MS) (k : zV x cs sl 1 [l0, l1, some (.ref a), l3] (.ref a :: st) K μ) : zV x cs sl 0 [l0, l1, some (.ref a), l3] st K μ := zv_aload_n hC dL_append_0 rfl rfl k
theorem eL_append_1 {x : zX} {MC MS cs sl : Nat} {st : List Value} {K : zK} {μ : zF} {l0 l1 l2 l3 : Option Value} (hC : hL_append x MC MS) (k : zV x cs sl 2 [l0, l1, l2, l3] (.int (nI 0) :: st) K μ) : zV x cs sl 1 [l0, l1, l2, l3] st K μ := zv_iconst hC dL_append_1 (by decide) k
theorem eL_append_2 {x : zX} {MC MS cs sl : Nat} {st : List Value} {K : zK} {μ : zF} {l1 l2 l3 : Option Value} {a : Nat} (hC : hL_append x MC MS) (k : zV x cs sl 3 [some (.ref a), l1, l2, l3] (.ref a :: st) K μ) : zV x cs sl 2 [some (.ref a), l1, l2, l3] st K μ := zv_aload_n hC dL_append_2 rfl rfl k
theorem eL_append_3 {x : zX} {MC MS cs sl : Nat} {st : List Value} {K : zK} {μ : zF} {l0 l2 l3 : Option Value} {v : Int32} (hC : hL_append x MC MS) (k : zV x cs sl 4 [l0, some (.int v), l2, l3] (.int v :: st) K μ) : zV x cs sl 3 [l0, some (.int v), l2, l3] st K μ := zv_iload_n hC dL_append_3 rfl rfl k
theorem eL_append_4 {x : zX} {MC MS cs sl : Nat} {st : List Value} {K : zK} {μ : zF} {l0 l1 l2 l3 : Option Value} {b : Nat} {q1 : Value} {P : Option Value → zK → zF → Prop} {mc ms : Nat} {PX : String → zK → zF → Prop} (hC : hL_append x MC MS) (hcat : (st.map fun v => v.category).sum ≤ 8) (hcm : cs + mc ≤ MC) (hsm : sl + ms ≤ MS) (hO : zO K b 8) (hE : QX8_append (xl x) (xg x) mc ms [.ref b, q1] K μ P PX) (kx : ∀ (E : String) (K1 : zK) (μ1 : zF), PX E K1 μ1 → ∃ h, zHd x RL 4 E h ∧ ∀ q, zV x (cs + mc) (sl + ms) h [l0, l1, l2, l3] [.ref q] K1 μ1) (kk : ∀ (v : Option Value) (K1 : zK) (μ1 : zF), P v K1 μ1 → zV x (cs + mc) (sl + ms) 7 [l0, l1, l2, l3] (v.toList ++ st) K1 μ1) : zV x cs sl 4 [l0, l1, l2, l3] (q1 :: .ref b :: st) K μ := zct_V hC (zgV zw_772 zw_773 zw_774 zw_2 zw_775) rfl (by decide +kernel) ⟨Nat.le_of_ble_eq_true rfl, Nat.le_of_ble_eq_true rfl⟩ (ci := 8) rfl rfl (by decide) (n := 1) (As := [q1]) rfl dL_append_4 rfl rfl hcat hcm hsm hO hE kx kk
theorem eL_append_7 {x : zX} {MC MS cs sl : Nat} {st : List Value} {K : zK} {μ : zF} {l0 l1 l2 l3 : Option Value} {v : Int32} (hC : hL_append x MC MS) (k : zV x cs sl 8 [l0, l1, l2, l3] (.long v.toInt64 :: st) K μ) : zV x cs sl 7 [l0, l1, l2, l3] (.int v :: st) K μ := zv_i2l hC rfl dL_append_7 k
theorem eL_append_8 {x : zX} {MC MS cs sl : Nat} {st : List Value} {K : zK} {μ : zF} {l0 l1 l2 l3 : Option Value} {a n : Nat} {i : Int32} {v : Int64} (hC : hL_append x MC MS) (hI : zI K a 13 n) (hi : vp_in i n) (k : zV x cs sl 9 [l0, l1, l2, l3] st (zKl K a i.toNatClampNeg v) μ) : zV x cs sl 8 [l0, l1, l2, l3] (.long v :: .int i :: .ref a :: st) K μ := zv_last hC dL_append_8 hI hi k
theorem eL_append_9 {x : zX} {MC MS cs sl : Nat} {st : List Value} {K : zK} {μ : zF} {l0 l1 l2 l3 : Option Value} (hC : hL_append x MC MS) (k : zV x cs sl 18 [l0, l1, l2, l3] st K μ) : zV x cs sl 9 [l0, l1, l2, l3] st K μ := zv_goto hC dL_append_9 (by decide) k
theorem eL_append_12 {x : zX} {MC MS cs sl : Nat} {st : List Value} {K : zK} {μ : zF} {l0 l1 l3 : Option Value} {v : Nat} {u : Nat} (hC : hL_append x MC MS) (k : zV x cs sl 13 [l0, l1, some (.ref u), some (.ref v)] st K μ) : zV x cs sl 12 [l0, l1, some (.ref u), l3] (.ref v :: st) K μ := zv_astore_n hC dL_append_12 rfl rfl (Nat.le_of_ble_eq_true rfl) rfl k
theorem eL_append_13 {x : zX} {MC MS cs sl : Nat} {st : List Value} {K : zK} {μ : zF} {l0 l1 l2 l3 : Option Value} (hC : hL_append x MC MS) (k : zV x cs sl 14 [l0, l1, l2, l3] (.int (nI 1) :: st) K μ) : zV x cs sl 13 [l0, l1, l2, l3] st K μ := zv_iconst hC dL_append_13 (by decide) k
theorem eL_append_14 {x : zX} {MC MS cs sl : Nat} {K : zK} {μ : zF} {l0 l1 l2 l3 : Option Value} {v : Int32} {P : Option Value → zK → zF → Prop} {mc ms : Nat} (hC : hL_append x MC MS) (hQ : zQg x (some .int) P mc ms) (hc : cs ≤ mc) (hs : sl ≤ ms) (hp : P (some (.int v)) K μ) : zV x cs sl 14 [l0, l1, l2, l3] [.int v] K μ := zr_i hC hQ dL_append_14 hc hs hp
theorem eL_append_15 {x : zX} {MC MS cs sl : Nat} {st : List Value} {K : zK} {μ : zF} {l0 l1 l3 : Option Value} {v : Nat} {u : Nat} (hC : hL_append x MC MS) (k : zV x cs sl 16 [l0, l1, some (.ref u), some (.ref v)] st K μ) : zV x cs sl 15 [l0, l1, some (.ref u), l3] (.ref v :: st) K μ := zv_astore_n hC dL_append_15 rfl rfl (Nat.le_of_ble_eq_true rfl) rfl k
theorem eL_append_16 {x : zX} {MC MS cs sl : Nat} {st : List Value} {K : zK} {μ : zF} {l0 l1 l2 l3 : Option Value} (hC : hL_append x MC MS) (k : zV x cs sl 17 [l0, l1, l2, l3] (.int (nI 2) :: st) K μ) : zV x cs sl 16 [l0, l1, l2, l3] st K μ := zv_iconst hC dL_append_16 (by decide) k
theorem eL_append_17 {x : zX} {MC MS cs sl : Nat} {K : zK} {μ : zF} {l0 l1 l2 l3 : Option Value} {v : Int32} {P : Option Value → zK → zF → Prop} {mc ms : Nat} (hC : hL_append x MC MS) (hQ : zQg x (some .int) P mc ms) (hc : cs ≤ mc) (hs : sl ≤ ms) (hp : P (some (.int v)) K μ) : zV x cs sl 17 [l0, l1, l2, l3] [.int v] K μ := zr_i hC hQ dL_append_17 hc hs hp
theorem eL_append_18 {x : zX} {MC MS cs sl : Nat} {st : List Value} {K : zK} {μ : zF} {l0 l1 l2 l3 : Option Value} (hC : hL_append x MC MS) (k : zV x cs sl 19 [l0, l1, l2, l3] (.int (nI 0) :: st) K μ) : zV x cs sl 18 [l0, l1, l2, l3] st K μ := zv_iconst hC dL_append_18 (by decide) k
theorem eL_append_19 {x : zX} {MC MS cs sl : Nat} {K : zK} {μ : zF} {l0 l1 l2 l3 : Option Value} {v : Int32} {P : Option Value → zK → zF → Prop} {mc ms : Nat} (hC : hL_append x MC MS) (hQ : zQg x (some .int) P mc ms) (hc : cs ≤ mc) (hs : sl ≤ ms) (hp : P (some (.int v)) K μ) : zV x cs sl 19 [l0, l1, l2, l3] [.int v] K μ := zr_i hC hQ dL_append_19 hc hs hp
set_option maxHeartbeats 1000000 in
theorem vL_append {l : Launch} {g : zG} (hl : l.stackTraces = false) {K : zK} {μ : zF} {x oa : Nat} {S : zMs} {p2 : Int32} (h : zX8 K μ x S) (ho : zI K oa 13 1) : EL_append l g 2 12 [.ref x, .int p2, .ref oa] K μ (zHp zcAS (zdo_append p2 S) K μ x oa S) := by
  refine nL_append hl (fun z hT hC hQ => ?_)
  refine eL_append_0 hC ?_
  refine eL_append_1 hC ?_
  refine eL_append_2 hC ?_
  refine eL_append_3 hC ?_
  refine eL_append_4 hC (Nat.le_of_ble_eq_true rfl) (Nat.le_of_ble_eq_true rfl) (Nat.le_of_ble_eq_true rfl) h.o (vX8_append hC.nt h) (fun E K1 μ1 hx => ?_) (zk_rp (fun r S1 K1 μ1 e1 e2 e3 e4 => ?_))
  · rcases zxo_append hx.1 with rfl | rfl
    · refine ⟨12, zHd.a0 hC hT (by decide +kernel) (List.mem_cons_of_mem _ zw_147) (by decide) (by decide), fun q => ?_⟩
      refine eL_append_12 hC ?_
      refine eL_append_13 hC ?_
      exact eL_append_14 hC hQ (Nat.le_of_ble_eq_true rfl) (Nat.le_of_ble_eq_true rfl) (zHp.ex (k := 1) hx (by decide) (by decide) (by decide +kernel))
    · refine ⟨15, zHd.a1 hC hT (by decide +kernel) (List.mem_cons_of_mem _ zw_147) (by decide) (by decide +kernel) (List.mem_cons_of_mem _ zw_148) (by decide) (by decide), fun q => ?_⟩
      refine eL_append_15 hC ?_
      refine eL_append_16 hC ?_
      exact eL_append_17 hC hQ (Nat.le_of_ble_eq_true rfl) (Nat.le_of_ble_eq_true rfl) (zHp.ex (k := 2) hx (by decide) (by decide) (by decide +kernel))
  · refine eL_append_7 hC ?_
    refine eL_append_8 hC (e2.i ho) (vp_in_nI (by decide) (by decide)) ?_
    refine eL_append_9 hC ?_
    refine eL_append_18 hC ?_
    exact eL_append_19 hC hQ (Nat.le_of_ble_eq_true rfl) (Nat.le_of_ble_eq_true rfl) (zHp.ok e1 e2 e3 e4)
end ZL_append
section ZL_load
abbrev hL_load (x : zX) (MC MS : Nat) : Prop := zH x (.codeWith yL_load cL_load 3 (some .int) [(0, 8, 11, 15), (0, 8, 14, 17)] :: wsL_law) RL cL_load 3 7 127 MC MS
abbrev EL_load (l : Launch) (g : zG) (mc ms : Nat) (As : List Value) (K : zK) (μ : zF) (P : Option Value → zK → zF → Prop) : Prop := zEv l g yL_load (.codeWith yL_load cL_load 3 (some .int) [(0, 8, 11, 15), (0, 8, 14, 17)] :: wsL_law) 7 127 mc ms As K μ P
abbrev QL_load (l : Launch) (g : zG) (mc ms : Nat) (As : List Value) (K : zK) (μ : zF) (P : Option Value → zK → zF → Prop) (PX : String → zK → zF → Prop) : Prop := zEx l g yL_load (.codeWith yL_load cL_load 3 (some .int) [(0, 8, 11, 15), (0, 8, 14, 17)] :: wsL_law) 7 127 mc ms As K μ P PX
theorem nL_load {l : Launch} {g : zG} {mc ms : Nat} {p1 : Nat} {p2 : Nat} {K : zK} {μ : zF} {P : Option Value → zK → zF → Prop} (hl : l.stackTraces = false) (body : ∀ x : zX, zTb x [(0, 8, 11, 15), (0, 8, 14, 17)] → hL_load x mc ms → zQg x (some .int) P mc ms → zV x 0 0 0 [some (.ref p1), some (.ref p2), none] [] K μ) : EL_load l g mc ms [.ref p1, .ref p2] K μ P := zEv.ofW hl (by decide) rfl (Nat.le_of_ble_eq_true rfl) (fun x _ _ => body x)
theorem eL_load_0 {x : zX} {MC MS cs sl : Nat} {st : List Value} {K : zK} {μ : zF} {l0 l2 : Option Value} {a : Nat} (hC : hL_load x MC MS) (k : zV x cs sl 1 [l0, some (.ref a), l2] (.ref a :: st) K μ) : zV x cs sl 0 [l0, some (.ref a), l2] st K μ := zv_aload_n hC dL_load_0 rfl rfl k
theorem eL_load_1 {x : zX} {MC MS cs sl : Nat} {st : List Value} {K : zK} {μ : zF} {l0 l1 l2 : Option Value} (hC : hL_load x MC MS) (k : zV x cs sl 2 [l0, l1, l2] (.int (nI 0) :: st) K μ) : zV x cs sl 1 [l0, l1, l2] st K μ := zv_iconst hC dL_load_1 (by decide) k
theorem eL_load_2 {x : zX} {MC MS cs sl : Nat} {st : List Value} {K : zK} {μ : zF} {l1 l2 : Option Value} {a : Nat} (hC : hL_load x MC MS) (k : zV x cs sl 3 [some (.ref a), l1, l2] (.ref a :: st) K μ) : zV x cs sl 2 [some (.ref a), l1, l2] st K μ := zv_aload_n hC dL_load_2 rfl rfl k
theorem eL_load_3 {x : zX} {MC MS cs sl : Nat} {st : List Value} {K : zK} {μ : zF} {l0 l1 l2 : Option Value} {b : Nat} {P : Option Value → zK → zF → Prop} {mc ms : Nat} {PX : String → zK → zF → Prop} (hC : hL_load x MC MS) (hcat : (st.map fun v => v.category).sum ≤ 8) (hcm : cs + mc ≤ MC) (hsm : sl + ms ≤ MS) (hO : zO K b 8) (hE : QX8_load (xl x) (xg x) mc ms [.ref b] K μ P PX) (kx : ∀ (E : String) (K1 : zK) (μ1 : zF), PX E K1 μ1 → ∃ h, zHd x RL 3 E h ∧ ∀ q, zV x (cs + mc) (sl + ms) h [l0, l1, l2] [.ref q] K1 μ1) (kk : ∀ (v : Option Value) (K1 : zK) (μ1 : zF), P v K1 μ1 → zV x (cs + mc) (sl + ms) 6 [l0, l1, l2] (v.toList ++ st) K1 μ1) : zV x cs sl 3 [l0, l1, l2] (.ref b :: st) K μ := zct_V hC (zgV zw_845 zw_846 zw_847 zw_2 zw_848) rfl (by decide +kernel) ⟨Nat.le_of_ble_eq_true rfl, Nat.le_of_ble_eq_true rfl⟩ (ci := 8) rfl rfl (by decide) (n := 0) (As := []) rfl dL_load_3 rfl rfl hcat hcm hsm hO hE kx kk
theorem eL_load_6 {x : zX} {MC MS cs sl : Nat} {st : List Value} {K : zK} {μ : zF} {l0 l1 l2 : Option Value} {v : Int32} (hC : hL_load x MC MS) (k : zV x cs sl 7 [l0, l1, l2] (.long v.toInt64 :: st) K μ) : zV x cs sl 6 [l0, l1, l2] (.int v :: st) K μ := zv_i2l hC rfl dL_load_6 k
theorem eL_load_7 {x : zX} {MC MS cs sl : Nat} {st : List Value} {K : zK} {μ : zF} {l0 l1 l2 : Option Value} {a n : Nat} {i : Int32} {v : Int64} (hC : hL_load x MC MS) (hI : zI K a 13 n) (hi : vp_in i n) (k : zV x cs sl 8 [l0, l1, l2] st (zKl K a i.toNatClampNeg v) μ) : zV x cs sl 7 [l0, l1, l2] (.long v :: .int i :: .ref a :: st) K μ := zv_last hC dL_load_7 hI hi k
theorem eL_load_8 {x : zX} {MC MS cs sl : Nat} {st : List Value} {K : zK} {μ : zF} {l0 l1 l2 : Option Value} (hC : hL_load x MC MS) (k : zV x cs sl 17 [l0, l1, l2] st K μ) : zV x cs sl 8 [l0, l1, l2] st K μ := zv_goto hC dL_load_8 (by decide) k
theorem eL_load_11 {x : zX} {MC MS cs sl : Nat} {st : List Value} {K : zK} {μ : zF} {l0 l2 : Option Value} {v : Nat} {u : Nat} (hC : hL_load x MC MS) (k : zV x cs sl 12 [l0, some (.ref u), some (.ref v)] st K μ) : zV x cs sl 11 [l0, some (.ref u), l2] (.ref v :: st) K μ := zv_astore_n hC dL_load_11 rfl rfl (Nat.le_of_ble_eq_true rfl) rfl k
theorem eL_load_12 {x : zX} {MC MS cs sl : Nat} {st : List Value} {K : zK} {μ : zF} {l0 l1 l2 : Option Value} (hC : hL_load x MC MS) (k : zV x cs sl 13 [l0, l1, l2] (.int (nI 1) :: st) K μ) : zV x cs sl 12 [l0, l1, l2] st K μ := zv_iconst hC dL_load_12 (by decide) k
theorem eL_load_13 {x : zX} {MC MS cs sl : Nat} {K : zK} {μ : zF} {l0 l1 l2 : Option Value} {v : Int32} {P : Option Value → zK → zF → Prop} {mc ms : Nat} (hC : hL_load x MC MS) (hQ : zQg x (some .int) P mc ms) (hc : cs ≤ mc) (hs : sl ≤ ms) (hp : P (some (.int v)) K μ) : zV x cs sl 13 [l0, l1, l2] [.int v] K μ := zr_i hC hQ dL_load_13 hc hs hp
theorem eL_load_14 {x : zX} {MC MS cs sl : Nat} {st : List Value} {K : zK} {μ : zF} {l0 l2 : Option Value} {v : Nat} {u : Nat} (hC : hL_load x MC MS) (k : zV x cs sl 15 [l0, some (.ref u), some (.ref v)] st K μ) : zV x cs sl 14 [l0, some (.ref u), l2] (.ref v :: st) K μ := zv_astore_n hC dL_load_14 rfl rfl (Nat.le_of_ble_eq_true rfl) rfl k
theorem eL_load_15 {x : zX} {MC MS cs sl : Nat} {st : List Value} {K : zK} {μ : zF} {l0 l1 l2 : Option Value} (hC : hL_load x MC MS) (k : zV x cs sl 16 [l0, l1, l2] (.int (nI 2) :: st) K μ) : zV x cs sl 15 [l0, l1, l2] st K μ := zv_iconst hC dL_load_15 (by decide) k
theorem eL_load_16 {x : zX} {MC MS cs sl : Nat} {K : zK} {μ : zF} {l0 l1 l2 : Option Value} {v : Int32} {P : Option Value → zK → zF → Prop} {mc ms : Nat} (hC : hL_load x MC MS) (hQ : zQg x (some .int) P mc ms) (hc : cs ≤ mc) (hs : sl ≤ ms) (hp : P (some (.int v)) K μ) : zV x cs sl 16 [l0, l1, l2] [.int v] K μ := zr_i hC hQ dL_load_16 hc hs hp
theorem eL_load_17 {x : zX} {MC MS cs sl : Nat} {st : List Value} {K : zK} {μ : zF} {l0 l1 l2 : Option Value} (hC : hL_load x MC MS) (k : zV x cs sl 18 [l0, l1, l2] (.int (nI 0) :: st) K μ) : zV x cs sl 17 [l0, l1, l2] st K μ := zv_iconst hC dL_load_17 (by decide) k
theorem eL_load_18 {x : zX} {MC MS cs sl : Nat} {K : zK} {μ : zF} {l0 l1 l2 : Option Value} {v : Int32} {P : Option Value → zK → zF → Prop} {mc ms : Nat} (hC : hL_load x MC MS) (hQ : zQg x (some .int) P mc ms) (hc : cs ≤ mc) (hs : sl ≤ ms) (hp : P (some (.int v)) K μ) : zV x cs sl 18 [l0, l1, l2] [.int v] K μ := zr_i hC hQ dL_load_18 hc hs hp
set_option maxHeartbeats 1000000 in
theorem vL_load {l : Launch} {g : zG} (hl : l.stackTraces = false) {K : zK} {μ : zF} {x oa : Nat} {S : zMs}  (h : zX8 K μ x S) (ho : zI K oa 13 1) : EL_load l g 2 12 [.ref x, .ref oa] K μ (zHp zcAS (zdo_load S) K μ x oa S) := by
  refine nL_load hl (fun z hT hC hQ => ?_)
  refine eL_load_0 hC ?_
  refine eL_load_1 hC ?_
  refine eL_load_2 hC ?_
  refine eL_load_3 hC (Nat.le_of_ble_eq_true rfl) (Nat.le_of_ble_eq_true rfl) (Nat.le_of_ble_eq_true rfl) h.o (vX8_load hC.nt h) (fun E K1 μ1 hx => ?_) (zk_rp (fun r S1 K1 μ1 e1 e2 e3 e4 => ?_))
  · rcases zxo_load hx.1 with rfl | rfl
    · refine ⟨11, zHd.a0 hC hT (by decide +kernel) (List.mem_cons_of_mem _ zw_147) (by decide) (by decide), fun q => ?_⟩
      refine eL_load_11 hC ?_
      refine eL_load_12 hC ?_
      exact eL_load_13 hC hQ (Nat.le_of_ble_eq_true rfl) (Nat.le_of_ble_eq_true rfl) (zHp.ex (k := 1) hx (by decide) (by decide) (by decide +kernel))
    · refine ⟨14, zHd.a1 hC hT (by decide +kernel) (List.mem_cons_of_mem _ zw_147) (by decide) (by decide +kernel) (List.mem_cons_of_mem _ zw_148) (by decide) (by decide), fun q => ?_⟩
      refine eL_load_14 hC ?_
      refine eL_load_15 hC ?_
      exact eL_load_16 hC hQ (Nat.le_of_ble_eq_true rfl) (Nat.le_of_ble_eq_true rfl) (zHp.ex (k := 2) hx (by decide) (by decide) (by decide +kernel))
  · refine eL_load_6 hC ?_
    refine eL_load_7 hC (e2.i ho) (vp_in_nI (by decide) (by decide)) ?_
    refine eL_load_8 hC ?_
    refine eL_load_17 hC ?_
    exact eL_load_18 hC hQ (Nat.le_of_ble_eq_true rfl) (Nat.le_of_ble_eq_true rfl) (zHp.ok e1 e2 e3 e4)
end ZL_load
section ZL_undo
abbrev hL_undo (x : zX) (MC MS : Nat) : Prop := zH x (.codeWith yL_undo cL_undo 3 (some .int) [(0, 8, 11, 17)] :: wsL_law) RL cL_undo 3 7 110 MC MS
abbrev EL_undo (l : Launch) (g : zG) (mc ms : Nat) (As : List Value) (K : zK) (μ : zF) (P : Option Value → zK → zF → Prop) : Prop := zEv l g yL_undo (.codeWith yL_undo cL_undo 3 (some .int) [(0, 8, 11, 17)] :: wsL_law) 7 110 mc ms As K μ P
abbrev QL_undo (l : Launch) (g : zG) (mc ms : Nat) (As : List Value) (K : zK) (μ : zF) (P : Option Value → zK → zF → Prop) (PX : String → zK → zF → Prop) : Prop := zEx l g yL_undo (.codeWith yL_undo cL_undo 3 (some .int) [(0, 8, 11, 17)] :: wsL_law) 7 110 mc ms As K μ P PX
theorem nL_undo {l : Launch} {g : zG} {mc ms : Nat} {p1 : Nat} {p2 : Nat} {K : zK} {μ : zF} {P : Option Value → zK → zF → Prop} (hl : l.stackTraces = false) (body : ∀ x : zX, zTb x [(0, 8, 11, 17)] → hL_undo x mc ms → zQg x (some .int) P mc ms → zV x 0 0 0 [some (.ref p1), some (.ref p2), none] [] K μ) : EL_undo l g mc ms [.ref p1, .ref p2] K μ P := zEv.ofW hl (by decide) rfl (Nat.le_of_ble_eq_true rfl) (fun x _ _ => body x)
theorem eL_undo_0 {x : zX} {MC MS cs sl : Nat} {st : List Value} {K : zK} {μ : zF} {l0 l2 : Option Value} {a : Nat} (hC : hL_undo x MC MS) (k : zV x cs sl 1 [l0, some (.ref a), l2] (.ref a :: st) K μ) : zV x cs sl 0 [l0, some (.ref a), l2] st K μ := zv_aload_n hC dL_undo_0 rfl rfl k
theorem eL_undo_1 {x : zX} {MC MS cs sl : Nat} {st : List Value} {K : zK} {μ : zF} {l0 l1 l2 : Option Value} (hC : hL_undo x MC MS) (k : zV x cs sl 2 [l0, l1, l2] (.int (nI 0) :: st) K μ) : zV x cs sl 1 [l0, l1, l2] st K μ := zv_iconst hC dL_undo_1 (by decide) k
theorem eL_undo_2 {x : zX} {MC MS cs sl : Nat} {st : List Value} {K : zK} {μ : zF} {l1 l2 : Option Value} {a : Nat} (hC : hL_undo x MC MS) (k : zV x cs sl 3 [some (.ref a), l1, l2] (.ref a :: st) K μ) : zV x cs sl 2 [some (.ref a), l1, l2] st K μ := zv_aload_n hC dL_undo_2 rfl rfl k
theorem eL_undo_3 {x : zX} {MC MS cs sl : Nat} {st : List Value} {K : zK} {μ : zF} {l0 l1 l2 : Option Value} {b : Nat} {P : Option Value → zK → zF → Prop} {mc ms : Nat} {PX : String → zK → zF → Prop} (hC : hL_undo x MC MS) (hcat : (st.map fun v => v.category).sum ≤ 8) (hcm : cs + mc ≤ MC) (hsm : sl + ms ≤ MS) (hO : zO K b 8) (hE : QX8_undo (xl x) (xg x) mc ms [.ref b] K μ P PX) (kx : ∀ (E : String) (K1 : zK) (μ1 : zF), PX E K1 μ1 → ∃ h, zHd x RL 3 E h ∧ ∀ q, zV x (cs + mc) (sl + ms) h [l0, l1, l2] [.ref q] K1 μ1) (kk : ∀ (v : Option Value) (K1 : zK) (μ1 : zF), P v K1 μ1 → zV x (cs + mc) (sl + ms) 6 [l0, l1, l2] (v.toList ++ st) K1 μ1) : zV x cs sl 3 [l0, l1, l2] (.ref b :: st) K μ := zct_V hC (zgV zw_861 zw_862 zw_863 zw_2 zw_864) rfl (by decide +kernel) ⟨Nat.le_of_ble_eq_true rfl, Nat.le_of_ble_eq_true rfl⟩ (ci := 8) rfl rfl (by decide) (n := 0) (As := []) rfl dL_undo_3 rfl rfl hcat hcm hsm hO hE kx kk
theorem eL_undo_6 {x : zX} {MC MS cs sl : Nat} {st : List Value} {K : zK} {μ : zF} {l0 l1 l2 : Option Value} {v : Int32} (hC : hL_undo x MC MS) (k : zV x cs sl 7 [l0, l1, l2] (.long v.toInt64 :: st) K μ) : zV x cs sl 6 [l0, l1, l2] (.int v :: st) K μ := zv_i2l hC rfl dL_undo_6 k
theorem eL_undo_7 {x : zX} {MC MS cs sl : Nat} {st : List Value} {K : zK} {μ : zF} {l0 l1 l2 : Option Value} {a n : Nat} {i : Int32} {v : Int64} (hC : hL_undo x MC MS) (hI : zI K a 13 n) (hi : vp_in i n) (k : zV x cs sl 8 [l0, l1, l2] st (zKl K a i.toNatClampNeg v) μ) : zV x cs sl 7 [l0, l1, l2] (.long v :: .int i :: .ref a :: st) K μ := zv_last hC dL_undo_7 hI hi k
theorem eL_undo_8 {x : zX} {MC MS cs sl : Nat} {st : List Value} {K : zK} {μ : zF} {l0 l1 l2 : Option Value} (hC : hL_undo x MC MS) (k : zV x cs sl 14 [l0, l1, l2] st K μ) : zV x cs sl 8 [l0, l1, l2] st K μ := zv_goto hC dL_undo_8 (by decide) k
theorem eL_undo_11 {x : zX} {MC MS cs sl : Nat} {st : List Value} {K : zK} {μ : zF} {l0 l2 : Option Value} {v : Nat} {u : Nat} (hC : hL_undo x MC MS) (k : zV x cs sl 12 [l0, some (.ref u), some (.ref v)] st K μ) : zV x cs sl 11 [l0, some (.ref u), l2] (.ref v :: st) K μ := zv_astore_n hC dL_undo_11 rfl rfl (Nat.le_of_ble_eq_true rfl) rfl k
theorem eL_undo_12 {x : zX} {MC MS cs sl : Nat} {st : List Value} {K : zK} {μ : zF} {l0 l1 l2 : Option Value} (hC : hL_undo x MC MS) (k : zV x cs sl 13 [l0, l1, l2] (.int (nI 1) :: st) K μ) : zV x cs sl 12 [l0, l1, l2] st K μ := zv_iconst hC dL_undo_12 (by decide) k
theorem eL_undo_13 {x : zX} {MC MS cs sl : Nat} {K : zK} {μ : zF} {l0 l1 l2 : Option Value} {v : Int32} {P : Option Value → zK → zF → Prop} {mc ms : Nat} (hC : hL_undo x MC MS) (hQ : zQg x (some .int) P mc ms) (hc : cs ≤ mc) (hs : sl ≤ ms) (hp : P (some (.int v)) K μ) : zV x cs sl 13 [l0, l1, l2] [.int v] K μ := zr_i hC hQ dL_undo_13 hc hs hp
theorem eL_undo_14 {x : zX} {MC MS cs sl : Nat} {st : List Value} {K : zK} {μ : zF} {l0 l1 l2 : Option Value} (hC : hL_undo x MC MS) (k : zV x cs sl 15 [l0, l1, l2] (.int (nI 0) :: st) K μ) : zV x cs sl 14 [l0, l1, l2] st K μ := zv_iconst hC dL_undo_14 (by decide) k
theorem eL_undo_15 {x : zX} {MC MS cs sl : Nat} {K : zK} {μ : zF} {l0 l1 l2 : Option Value} {v : Int32} {P : Option Value → zK → zF → Prop} {mc ms : Nat} (hC : hL_undo x MC MS) (hQ : zQg x (some .int) P mc ms) (hc : cs ≤ mc) (hs : sl ≤ ms) (hp : P (some (.int v)) K μ) : zV x cs sl 15 [l0, l1, l2] [.int v] K μ := zr_i hC hQ dL_undo_15 hc hs hp
set_option maxHeartbeats 1000000 in
theorem vL_undo {l : Launch} {g : zG} (hl : l.stackTraces = false) {K : zK} {μ : zF} {x oa : Nat} {S : zMs}  (h : zX8 K μ x S) (ho : zI K oa 13 1) : EL_undo l g 1 6 [.ref x, .ref oa] K μ (zHp zc1 (zdo_undo S) K μ x oa S) := by
  refine nL_undo hl (fun z hT hC hQ => ?_)
  refine eL_undo_0 hC ?_
  refine eL_undo_1 hC ?_
  refine eL_undo_2 hC ?_
  refine eL_undo_3 hC (Nat.le_of_ble_eq_true rfl) (Nat.le_of_ble_eq_true rfl) (Nat.le_of_ble_eq_true rfl) h.o (vX8_undo hC.nt h) (fun E K1 μ1 hx => ?_) (zk_rp (fun r S1 K1 μ1 e1 e2 e3 e4 => ?_))
  · obtain rfl := zxo_undo hx.1
    refine ⟨11, zHd.a0 hC hT (by decide +kernel) (List.mem_cons_of_mem _ zw_148) (by decide) (by decide), fun q => ?_⟩
    refine eL_undo_11 hC ?_
    refine eL_undo_12 hC ?_
    exact eL_undo_13 hC hQ (Nat.le_of_ble_eq_true rfl) (Nat.le_of_ble_eq_true rfl) (zHp.ex (k := 1) hx (by decide) (by decide) (by decide +kernel))
  · refine eL_undo_6 hC ?_
    refine eL_undo_7 hC (e2.i ho) (vp_in_nI (by decide) (by decide)) ?_
    refine eL_undo_8 hC ?_
    refine eL_undo_14 hC ?_
    exact eL_undo_15 hC hQ (Nat.le_of_ble_eq_true rfl) (Nat.le_of_ble_eq_true rfl) (zHp.ok e1 e2 e3 e4)
end ZL_undo
