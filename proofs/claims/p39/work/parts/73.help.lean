/-! ===== the law's helpers: the answer, or the number of what is thrown ===== -/
theorem zix_r {i : Int32} {c : Nat} {f : Nat → zOu} {E : String} (h : zix i c f = .inr E) : E = zxI ∨ ∃ k, f k = .inr E := by
  unfold zix at h
  split at h
  · exact Or.inr ⟨_, h⟩
  · exact Or.inl (Sum.inr.inj h).symm
theorem zrg_r {i : Int32} {a b : Nat} {f : Nat → zOu} {E : String} (h : zrg i a b f = .inr E) : E = zxA ∨ ∃ k, f k = .inr E := by
  unfold zrg at h
  split at h
  · exact Or.inr ⟨_, h⟩
  · exact Or.inl (Sum.inr.inj h).symm
theorem zix_1 {i : Int32} {c : Nat} {f : Nat → Int32 × zMs} {E : String} (h : zix i c (fun k => .inl (f k)) = .inr E) : E = zxI := by
  rcases zix_r h with h | ⟨k, h⟩
  · exact h
  · cases h
theorem zrg_1 {i : Int32} {a b : Nat} {f : Nat → Int32 × zMs} {E : String} (h : zrg i a b (fun k => .inl (f k)) = .inr E) : E = zxA := by
  rcases zrg_r h with h | ⟨k, h⟩
  · exact h
  · cases h
theorem zxo_remove {i : Int32} {S : zMs} {E : String} (h : zdo_remove i S = .inr E) : E = zxI := zix_1 h
theorem zxo_wordWidth {i : Int32} {S : zMs} {E : String} (h : zdo_wordWidth i S = .inr E) : E = zxI := zix_1 h
theorem zxo_mark {i : Int32} {S : zMs} {E : String} (h : zdo_mark i S = .inr E) : E = zxI := zix_1 h
theorem zxo_lineOf {i : Int32} {S : zMs} {E : String} (h : zdo_lineOf i S = .inr E) : E = zxI := zix_1 h
theorem zxo_firstWord {i : Int32} {S : zMs} {E : String} (h : zdo_firstWord i S = .inr E) : E = zxI := zix_1 h
theorem zxo_lineWidth {i : Int32} {S : zMs} {E : String} (h : zdo_lineWidth i S = .inr E) : E = zxI := zix_1 h
theorem zxo_stairAt {i : Int32} {S : zMs} {E : String} (h : zdo_stairAt i S = .inr E) : E = zxI := zix_1 h
theorem zxo_reason {i : Int32} {S : zMs} {E : String} (h : zdo_reason i S = .inr E) : E = zxI := zix_1 h
theorem zxo_pageOf {i : Int32} {S : zMs} {E : String} (h : zdo_pageOf i S = .inr E) : E = zxI := zix_1 h
theorem zxo_linesOn {i : Int32} {S : zMs} {E : String} (h : zdo_linesOn i S = .inr E) : E = zxI := zix_1 h
theorem zxo_setColumn {i : Int32} {S : zMs} {E : String} (h : zdo_setColumn i S = .inr E) : E = zxA := zrg_1 h
theorem zxo_setSpace {i : Int32} {S : zMs} {E : String} (h : zdo_setSpace i S = .inr E) : E = zxA := zrg_1 h
theorem zxo_setPage {i : Int32} {S : zMs} {E : String} (h : zdo_setPage i S = .inr E) : E = zxA := zrg_1 h
theorem zxo_costFor {i : Int32} {b : Nat} {S : zMs} {E : String} (h : zdo_costFor i b S = .inr E) : E = zxA := zrg_1 h
theorem zxo_setPenalties {i j k : Int32} {S : zMs} {E : String} (h : zdo_setPenalties i j k S = .inr E) : E = zxA := by
  rcases zrg_r h with h | ⟨a, h⟩
  · exact h
  · rcases zrg_r h with h | ⟨b, h⟩
    · exact h
    · exact zrg_1 h
theorem zxo_bestColumn {i j : Int32} {S : zMs} {E : String} (h : zdo_bestColumn i j S = .inr E) : E = zxA := by
  rcases zrg_r h with h | ⟨a, h⟩
  · exact h
  · exact zrg_1 h
theorem zxo_setMark {i w : Int32} {S : zMs} {E : String} (h : zdo_setMark i w S = .inr E) : E = zxI ∨ E = zxA := by
  rcases zix_r h with h | ⟨a, h⟩
  · exact Or.inl h
  · exact Or.inr (zrg_1 h)
theorem zxo_costIfMarked {i w : Int32} {S : zMs} {E : String} (h : zdo_costIfMarked i w S = .inr E) : E = zxI ∨ E = zxA := by
  rcases zix_r h with h | ⟨a, h⟩
  · exact Or.inl h
  · exact Or.inr (zrg_1 h)
theorem zxo_insert {i w : Int32} {S : zMs} {E : String} (h : zdo_insert i w S = .inr E) : E = zxI ∨ E = zxA ∨ E = zxS := by
  rcases zix_r h with h | ⟨a, h⟩
  · exact Or.inl h
  · rcases zrg_r h with h | ⟨b, h⟩
    · exact Or.inr (Or.inl h)
    · split at h
      · exact Or.inr (Or.inr (Sum.inr.inj h).symm)
      · cases h
theorem zxo_undo {S : zMs} {E : String} (h : zdo_undo S = .inr E) : E = zxS := by
  unfold zdo_undo at h
  split at h
  · exact (Sum.inr.inj h).symm
  · cases h
section ZL_insert
abbrev hL_insert (x : zX) (MC MS : Nat) : Prop := zH x (.codeWith yL_insert cL_insert 4 (some .int) [(0, 6, 7, 16), (0, 6, 11, 19), (0, 6, 15, 22)] :: wsL_law) RL cL_insert 4 8 134 MC MS
abbrev EL_insert (l : Launch) (g : zG) (mc ms : Nat) (As : List Value) (K : zK) (μ : zF) (P : Option Value → zK → zF → Prop) : Prop := zEv l g yL_insert (.codeWith yL_insert cL_insert 4 (some .int) [(0, 6, 7, 16), (0, 6, 11, 19), (0, 6, 15, 22)] :: wsL_law) 8 134 mc ms As K μ P
abbrev QL_insert (l : Launch) (g : zG) (mc ms : Nat) (As : List Value) (K : zK) (μ : zF) (P : Option Value → zK → zF → Prop) (PX : String → zK → zF → Prop) : Prop := zEx l g yL_insert (.codeWith yL_insert cL_insert 4 (some .int) [(0, 6, 7, 16), (0, 6, 11, 19), (0, 6, 15, 22)] :: wsL_law) 8 134 mc ms As K μ P PX
theorem nL_insert {l : Launch} {g : zG} {mc ms : Nat} {p1 : Nat} {p2 : Int32} {p3 : Int32} {K : zK} {μ : zF} {P : Option Value → zK → zF → Prop} (hl : l.stackTraces = false) (body : ∀ x : zX, zTb x [(0, 6, 7, 16), (0, 6, 11, 19), (0, 6, 15, 22)] → hL_insert x mc ms → zQg x (some .int) P mc ms → zV x 0 0 0 [some (.ref p1), some (.int p2), some (.int p3), none] [] K μ) : EL_insert l g mc ms [.ref p1, .int p2, .int p3] K μ P := zEv.ofW hl (by decide) rfl (Nat.le_of_ble_eq_true rfl) (fun x _ _ => body x)
theorem eL_insert_0 {x : zX} {MC MS cs sl : Nat} {st : List Value} {K : zK} {μ : zF} {l1 l2 l3 : Option Value} {a : Nat} (hC : hL_insert x MC MS) (k : zV x cs sl 1 [some (.ref a), l1, l2, l3] (.ref a :: st) K μ) : zV x cs sl 0 [some (.ref a), l1, l2, l3] st K μ := zv_aload_n hC dL_insert_0 rfl rfl k
theorem eL_insert_1 {x : zX} {MC MS cs sl : Nat} {st : List Value} {K : zK} {μ : zF} {l0 l2 l3 : Option Value} {v : Int32} (hC : hL_insert x MC MS) (k : zV x cs sl 2 [l0, some (.int v), l2, l3] (.int v :: st) K μ) : zV x cs sl 1 [l0, some (.int v), l2, l3] st K μ := zv_iload_n hC dL_insert_1 rfl rfl k
theorem eL_insert_2 {x : zX} {MC MS cs sl : Nat} {st : List Value} {K : zK} {μ : zF} {l0 l1 l3 : Option Value} {v : Int32} (hC : hL_insert x MC MS) (k : zV x cs sl 3 [l0, l1, some (.int v), l3] (.int v :: st) K μ) : zV x cs sl 2 [l0, l1, some (.int v), l3] st K μ := zv_iload_n hC dL_insert_2 rfl rfl k
theorem eL_insert_3 {x : zX} {MC MS cs sl : Nat} {st : List Value} {K : zK} {μ : zF} {l0 l1 l2 l3 : Option Value} {b : Nat} {q1 q2 : Value} {P : Option Value → zK → zF → Prop} {mc ms : Nat} {PX : String → zK → zF → Prop} (hC : hL_insert x MC MS) (hcat : (st.map fun v => v.category).sum ≤ 8) (hcm : cs + mc ≤ MC) (hsm : sl + ms ≤ MS) (hO : zO K b 8) (hE : QX8_insert (xl x) (xg x) mc ms [.ref b, q1, q2] K μ P PX) (kx : ∀ (E : String) (K1 : zK) (μ1 : zF), PX E K1 μ1 → ∃ h, zHd x RL 3 E h ∧ ∀ q, zV x (cs + mc) (sl + ms) h [l0, l1, l2, l3] [.ref q] K1 μ1) (kk : ∀ (v : Option Value) (K1 : zK) (μ1 : zF), P v K1 μ1 → zV x (cs + mc) (sl + ms) 6 [l0, l1, l2, l3] (v.toList ++ st) K1 μ1) : zV x cs sl 3 [l0, l1, l2, l3] (q2 :: q1 :: .ref b :: st) K μ := zct_V hC (zgV zw_418 zw_419 zw_420 zw_2 zw_421) rfl (by decide +kernel) ⟨Nat.le_of_ble_eq_true rfl, Nat.le_of_ble_eq_true rfl⟩ (ci := 8) rfl rfl (by decide) (n := 2) (As := [q1, q2]) rfl dL_insert_3 rfl rfl hcat hcm hsm hO hE kx kk
theorem eL_insert_6 {x : zX} {MC MS cs sl : Nat} {K : zK} {μ : zF} {l0 l1 l2 l3 : Option Value} {v : Int32} {P : Option Value → zK → zF → Prop} {mc ms : Nat} (hC : hL_insert x MC MS) (hQ : zQg x (some .int) P mc ms) (hc : cs ≤ mc) (hs : sl ≤ ms) (hp : P (some (.int v)) K μ) : zV x cs sl 6 [l0, l1, l2, l3] [.int v] K μ := zr_i hC hQ dL_insert_6 hc hs hp
theorem eL_insert_7 {x : zX} {MC MS cs sl : Nat} {st : List Value} {K : zK} {μ : zF} {l0 l1 l3 : Option Value} {v : Nat} {u : Int32} (hC : hL_insert x MC MS) (k : zV x cs sl 8 [l0, l1, some (.int u), some (.ref v)] st K μ) : zV x cs sl 7 [l0, l1, some (.int u), l3] (.ref v :: st) K μ := zv_astore_n hC dL_insert_7 rfl rfl (Nat.le_of_ble_eq_true rfl) rfl k
theorem eL_insert_8 {x : zX} {MC MS cs sl : Nat} {st : List Value} {K : zK} {μ : zF} {l0 l1 l2 l3 : Option Value} (hC : hL_insert x MC MS) (k : zV x cs sl 10 [l0, l1, l2, l3] (.int (-1000001) :: st) K μ) : zV x cs sl 8 [l0, l1, l2, l3] st K μ := zv_ldc hC (List.mem_cons_of_mem _ zw_235) dL_insert_8 k
theorem eL_insert_10 {x : zX} {MC MS cs sl : Nat} {K : zK} {μ : zF} {l0 l1 l2 l3 : Option Value} {v : Int32} {P : Option Value → zK → zF → Prop} {mc ms : Nat} (hC : hL_insert x MC MS) (hQ : zQg x (some .int) P mc ms) (hc : cs ≤ mc) (hs : sl ≤ ms) (hp : P (some (.int v)) K μ) : zV x cs sl 10 [l0, l1, l2, l3] [.int v] K μ := zr_i hC hQ dL_insert_10 hc hs hp
theorem eL_insert_11 {x : zX} {MC MS cs sl : Nat} {st : List Value} {K : zK} {μ : zF} {l0 l1 l3 : Option Value} {v : Nat} {u : Int32} (hC : hL_insert x MC MS) (k : zV x cs sl 12 [l0, l1, some (.int u), some (.ref v)] st K μ) : zV x cs sl 11 [l0, l1, some (.int u), l3] (.ref v :: st) K μ := zv_astore_n hC dL_insert_11 rfl rfl (Nat.le_of_ble_eq_true rfl) rfl k
theorem eL_insert_12 {x : zX} {MC MS cs sl : Nat} {st : List Value} {K : zK} {μ : zF} {l0 l1 l2 l3 : Option Value} (hC : hL_insert x MC MS) (k : zV x cs sl 14 [l0, l1, l2, l3] (.int (-1000002) :: st) K μ) : zV x cs sl 12 [l0, l1, l2, l3] st K μ := zv_ldc hC (List.mem_cons_of_mem _ zw_416) dL_insert_12 k
theorem eL_insert_14 {x : zX} {MC MS cs sl : Nat} {K : zK} {μ : zF} {l0 l1 l2 l3 : Option Value} {v : Int32} {P : Option Value → zK → zF → Prop} {mc ms : Nat} (hC : hL_insert x MC MS) (hQ : zQg x (some .int) P mc ms) (hc : cs ≤ mc) (hs : sl ≤ ms) (hp : P (some (.int v)) K μ) : zV x cs sl 14 [l0, l1, l2, l3] [.int v] K μ := zr_i hC hQ dL_insert_14 hc hs hp
theorem eL_insert_15 {x : zX} {MC MS cs sl : Nat} {st : List Value} {K : zK} {μ : zF} {l0 l1 l3 : Option Value} {v : Nat} {u : Int32} (hC : hL_insert x MC MS) (k : zV x cs sl 16 [l0, l1, some (.int u), some (.ref v)] st K μ) : zV x cs sl 15 [l0, l1, some (.int u), l3] (.ref v :: st) K μ := zv_astore_n hC dL_insert_15 rfl rfl (Nat.le_of_ble_eq_true rfl) rfl k
theorem eL_insert_16 {x : zX} {MC MS cs sl : Nat} {st : List Value} {K : zK} {μ : zF} {l0 l1 l2 l3 : Option Value} (hC : hL_insert x MC MS) (k : zV x cs sl 18 [l0, l1, l2, l3] (.int (-1000003) :: st) K μ) : zV x cs sl 16 [l0, l1, l2, l3] st K μ := zv_ldc hC (List.mem_cons_of_mem _ zw_417) dL_insert_16 k
theorem eL_insert_18 {x : zX} {MC MS cs sl : Nat} {K : zK} {μ : zF} {l0 l1 l2 l3 : Option Value} {v : Int32} {P : Option Value → zK → zF → Prop} {mc ms : Nat} (hC : hL_insert x MC MS) (hQ : zQg x (some .int) P mc ms) (hc : cs ≤ mc) (hs : sl ≤ ms) (hp : P (some (.int v)) K μ) : zV x cs sl 18 [l0, l1, l2, l3] [.int v] K μ := zr_i hC hQ dL_insert_18 hc hs hp
set_option maxHeartbeats 1000000 in
theorem vL_insert {l : Launch} {g : zG} (hl : l.stackTraces = false) {K : zK} {μ : zF} {x : Nat} {S S' : zMs} {r : Int32} {p2 : Int32} {p3 : Int32} (h : zX8 K μ x S) (e : zot zcIAS (zdo_insert p2 p3 S) S = (r, S')) : EL_insert l g 3 18 [.ref x, .int p2, .int p3] K μ (zAi r S' K μ x) := by
  refine nL_insert hl (fun z hT hC hQ => ?_)
  refine eL_insert_0 hC ?_
  refine eL_insert_1 hC ?_
  refine eL_insert_2 hC ?_
  refine eL_insert_3 hC (Nat.le_of_ble_eq_true rfl) (Nat.le_of_ble_eq_true rfl) (Nat.le_of_ble_eq_true rfl) h.o (vX8_insert hC.nt h) (fun E K1 μ1 hx => ?_) (zk_rp (fun r1 S1 K1 μ1 e1 e2 e3 e4 => ?_))
  · rcases zxo_insert hx.1 with rfl | rfl | rfl
    · refine ⟨7, zHd.a0 hC hT (by decide +kernel) (List.mem_cons_of_mem _ zw_234) (by decide) (by decide), fun q => ?_⟩
      refine eL_insert_7 hC ?_
      refine eL_insert_8 hC ?_
      exact eL_insert_10 hC hQ (Nat.le_of_ble_eq_true rfl) (Nat.le_of_ble_eq_true rfl) (zAi.ex e hx (by decide +kernel))
    · refine ⟨11, zHd.a1 hC hT (by decide +kernel) (List.mem_cons_of_mem _ zw_234) (by decide) (by decide +kernel) (List.mem_cons_of_mem _ zw_393) (by decide) (by decide), fun q => ?_⟩
      refine eL_insert_11 hC ?_
      refine eL_insert_12 hC ?_
      exact eL_insert_14 hC hQ (Nat.le_of_ble_eq_true rfl) (Nat.le_of_ble_eq_true rfl) (zAi.ex e hx (by decide +kernel))
    · refine ⟨15, zHd.a2 hC hT (by decide +kernel) (List.mem_cons_of_mem _ zw_234) (by decide) (by decide +kernel) (List.mem_cons_of_mem _ zw_393) (by decide) (by decide +kernel) (List.mem_cons_of_mem _ zw_415) (by decide) (by decide), fun q => ?_⟩
      refine eL_insert_15 hC ?_
      refine eL_insert_16 hC ?_
      exact eL_insert_18 hC hQ (Nat.le_of_ble_eq_true rfl) (Nat.le_of_ble_eq_true rfl) (zAi.ex e hx (by decide +kernel))
  · exact eL_insert_6 hC hQ (Nat.le_of_ble_eq_true rfl) (Nat.le_of_ble_eq_true rfl) (zAi.ok e e1 e2 e3 e4)
end ZL_insert
section ZL_remove
abbrev hL_remove (x : zX) (MC MS : Nat) : Prop := zH x (.codeWith yL_remove cL_remove 3 (some .int) [(0, 5, 6, 16)] :: wsL_law) RL cL_remove 3 8 133 MC MS
abbrev EL_remove (l : Launch) (g : zG) (mc ms : Nat) (As : List Value) (K : zK) (μ : zF) (P : Option Value → zK → zF → Prop) : Prop := zEv l g yL_remove (.codeWith yL_remove cL_remove 3 (some .int) [(0, 5, 6, 16)] :: wsL_law) 8 133 mc ms As K μ P
abbrev QL_remove (l : Launch) (g : zG) (mc ms : Nat) (As : List Value) (K : zK) (μ : zF) (P : Option Value → zK → zF → Prop) (PX : String → zK → zF → Prop) : Prop := zEx l g yL_remove (.codeWith yL_remove cL_remove 3 (some .int) [(0, 5, 6, 16)] :: wsL_law) 8 133 mc ms As K μ P PX
theorem nL_remove {l : Launch} {g : zG} {mc ms : Nat} {p1 : Nat} {p2 : Int32} {K : zK} {μ : zF} {P : Option Value → zK → zF → Prop} (hl : l.stackTraces = false) (body : ∀ x : zX, zTb x [(0, 5, 6, 16)] → hL_remove x mc ms → zQg x (some .int) P mc ms → zV x 0 0 0 [some (.ref p1), some (.int p2), none] [] K μ) : EL_remove l g mc ms [.ref p1, .int p2] K μ P := zEv.ofW hl (by decide) rfl (Nat.le_of_ble_eq_true rfl) (fun x _ _ => body x)
theorem eL_remove_0 {x : zX} {MC MS cs sl : Nat} {st : List Value} {K : zK} {μ : zF} {l1 l2 : Option Value} {a : Nat} (hC : hL_remove x MC MS) (k : zV x cs sl 1 [some (.ref a), l1, l2] (.ref a :: st) K μ) : zV x cs sl 0 [some (.ref a), l1, l2] st K μ := zv_aload_n hC dL_remove_0 rfl rfl k
theorem eL_remove_1 {x : zX} {MC MS cs sl : Nat} {st : List Value} {K : zK} {μ : zF} {l0 l2 : Option Value} {v : Int32} (hC : hL_remove x MC MS) (k : zV x cs sl 2 [l0, some (.int v), l2] (.int v :: st) K μ) : zV x cs sl 1 [l0, some (.int v), l2] st K μ := zv_iload_n hC dL_remove_1 rfl rfl k
theorem eL_remove_2 {x : zX} {MC MS cs sl : Nat} {st : List Value} {K : zK} {μ : zF} {l0 l1 l2 : Option Value} {b : Nat} {q1 : Value} {P : Option Value → zK → zF → Prop} {mc ms : Nat} {PX : String → zK → zF → Prop} (hC : hL_remove x MC MS) (hcat : (st.map fun v => v.category).sum ≤ 8) (hcm : cs + mc ≤ MC) (hsm : sl + ms ≤ MS) (hO : zO K b 8) (hE : QX8_remove (xl x) (xg x) mc ms [.ref b, q1] K μ P PX) (kx : ∀ (E : String) (K1 : zK) (μ1 : zF), PX E K1 μ1 → ∃ h, zHd x RL 2 E h ∧ ∀ q, zV x (cs + mc) (sl + ms) h [l0, l1, l2] [.ref q] K1 μ1) (kk : ∀ (v : Option Value) (K1 : zK) (μ1 : zF), P v K1 μ1 → zV x (cs + mc) (sl + ms) 5 [l0, l1, l2] (v.toList ++ st) K1 μ1) : zV x cs sl 2 [l0, l1, l2] (q1 :: .ref b :: st) K μ := zct_V hC (zgV zw_456 zw_457 zw_458 zw_2 zw_459) rfl (by decide +kernel) ⟨Nat.le_of_ble_eq_true rfl, Nat.le_of_ble_eq_true rfl⟩ (ci := 8) rfl rfl (by decide) (n := 1) (As := [q1]) rfl dL_remove_2 rfl rfl hcat hcm hsm hO hE kx kk
theorem eL_remove_5 {x : zX} {MC MS cs sl : Nat} {K : zK} {μ : zF} {l0 l1 l2 : Option Value} {v : Int32} {P : Option Value → zK → zF → Prop} {mc ms : Nat} (hC : hL_remove x MC MS) (hQ : zQg x (some .int) P mc ms) (hc : cs ≤ mc) (hs : sl ≤ ms) (hp : P (some (.int v)) K μ) : zV x cs sl 5 [l0, l1, l2] [.int v] K μ := zr_i hC hQ dL_remove_5 hc hs hp
theorem eL_remove_6 {x : zX} {MC MS cs sl : Nat} {st : List Value} {K : zK} {μ : zF} {l0 l2 : Option Value} {v : Nat} {u : Int32} (hC : hL_remove x MC MS) (k : zV x cs sl 7 [l0, some (.int u), some (.ref v)] st K μ) : zV x cs sl 6 [l0, some (.int u), l2] (.ref v :: st) K μ := zv_astore_n hC dL_remove_6 rfl rfl (Nat.le_of_ble_eq_true rfl) rfl k
theorem eL_remove_7 {x : zX} {MC MS cs sl : Nat} {st : List Value} {K : zK} {μ : zF} {l0 l1 l2 : Option Value} (hC : hL_remove x MC MS) (k : zV x cs sl 9 [l0, l1, l2] (.int (-1000001) :: st) K μ) : zV x cs sl 7 [l0, l1, l2] st K μ := zv_ldc hC (List.mem_cons_of_mem _ zw_235) dL_remove_7 k
theorem eL_remove_9 {x : zX} {MC MS cs sl : Nat} {K : zK} {μ : zF} {l0 l1 l2 : Option Value} {v : Int32} {P : Option Value → zK → zF → Prop} {mc ms : Nat} (hC : hL_remove x MC MS) (hQ : zQg x (some .int) P mc ms) (hc : cs ≤ mc) (hs : sl ≤ ms) (hp : P (some (.int v)) K μ) : zV x cs sl 9 [l0, l1, l2] [.int v] K μ := zr_i hC hQ dL_remove_9 hc hs hp
set_option maxHeartbeats 1000000 in
theorem vL_remove {l : Launch} {g : zG} (hl : l.stackTraces = false) {K : zK} {μ : zF} {x : Nat} {S S' : zMs} {r : Int32} {p2 : Int32} (h : zX8 K μ x S) (e : zot zc1 (zdo_remove p2 S) S = (r, S')) : EL_remove l g 1 6 [.ref x, .int p2] K μ (zAi r S' K μ x) := by
  refine nL_remove hl (fun z hT hC hQ => ?_)
  refine eL_remove_0 hC ?_
  refine eL_remove_1 hC ?_
  refine eL_remove_2 hC (Nat.le_of_ble_eq_true rfl) (Nat.le_of_ble_eq_true rfl) (Nat.le_of_ble_eq_true rfl) h.o (vX8_remove hC.nt h) (fun E K1 μ1 hx => ?_) (zk_rp (fun r1 S1 K1 μ1 e1 e2 e3 e4 => ?_))
  · obtain rfl := zxo_remove hx.1
    refine ⟨6, zHd.a0 hC hT (by decide +kernel) (List.mem_cons_of_mem _ zw_234) (by decide) (by decide), fun q => ?_⟩
    refine eL_remove_6 hC ?_
    refine eL_remove_7 hC ?_
    exact eL_remove_9 hC hQ (Nat.le_of_ble_eq_true rfl) (Nat.le_of_ble_eq_true rfl) (zAi.ex e hx (by decide +kernel))
  · exact eL_remove_5 hC hQ (Nat.le_of_ble_eq_true rfl) (Nat.le_of_ble_eq_true rfl) (zAi.ok e e1 e2 e3 e4)
end ZL_remove
section ZL_setMark
abbrev hL_setMark (x : zX) (MC MS : Nat) : Prop := zH x (.codeWith yL_setMark cL_setMark 4 (some .int) [(0, 6, 7, 16), (0, 6, 11, 19)] :: wsL_law) RL cL_setMark 4 8 135 MC MS
abbrev EL_setMark (l : Launch) (g : zG) (mc ms : Nat) (As : List Value) (K : zK) (μ : zF) (P : Option Value → zK → zF → Prop) : Prop := zEv l g yL_setMark (.codeWith yL_setMark cL_setMark 4 (some .int) [(0, 6, 7, 16), (0, 6, 11, 19)] :: wsL_law) 8 135 mc ms As K μ P
abbrev QL_setMark (l : Launch) (g : zG) (mc ms : Nat) (As : List Value) (K : zK) (μ : zF) (P : Option Value → zK → zF → Prop) (PX : String → zK → zF → Prop) : Prop := zEx l g yL_setMark (.codeWith yL_setMark cL_setMark 4 (some .int) [(0, 6, 7, 16), (0, 6, 11, 19)] :: wsL_law) 8 135 mc ms As K μ P PX
theorem nL_setMark {l : Launch} {g : zG} {mc ms : Nat} {p1 : Nat} {p2 : Int32} {p3 : Int32} {K : zK} {μ : zF} {P : Option Value → zK → zF → Prop} (hl : l.stackTraces = false) (body : ∀ x : zX, zTb x [(0, 6, 7, 16), (0, 6, 11, 19)] → hL_setMark x mc ms → zQg x (some .int) P mc ms → zV x 0 0 0 [some (.ref p1), some (.int p2), some (.int p3), none] [] K μ) : EL_setMark l g mc ms [.ref p1, .int p2, .int p3] K μ P := zEv.ofW hl (by decide) rfl (Nat.le_of_ble_eq_true rfl) (fun x _ _ => body x)
theorem eL_setMark_0 {x : zX} {MC MS cs sl : Nat} {st : List Value} {K : zK} {μ : zF} {l1 l2 l3 : Option Value} {a : Nat} (hC : hL_setMark x MC MS) (k : zV x cs sl 1 [some (.ref a), l1, l2, l3] (.ref a :: st) K μ) : zV x cs sl 0 [some (.ref a), l1, l2, l3] st K μ := zv_aload_n hC dL_setMark_0 rfl rfl k
theorem eL_setMark_1 {x : zX} {MC MS cs sl : Nat} {st : List Value} {K : zK} {μ : zF} {l0 l2 l3 : Option Value} {v : Int32} (hC : hL_setMark x MC MS) (k : zV x cs sl 2 [l0, some (.int v), l2, l3] (.int v :: st) K μ) : zV x cs sl 1 [l0, some (.int v), l2, l3] st K μ := zv_iload_n hC dL_setMark_1 rfl rfl k
theorem eL_setMark_2 {x : zX} {MC MS cs sl : Nat} {st : List Value} {K : zK} {μ : zF} {l0 l1 l3 : Option Value} {v : Int32} (hC : hL_setMark x MC MS) (k : zV x cs sl 3 [l0, l1, some (.int v), l3] (.int v :: st) K μ) : zV x cs sl 2 [l0, l1, some (.int v), l3] st K μ := zv_iload_n hC dL_setMark_2 rfl rfl k
theorem eL_setMark_3 {x : zX} {MC MS cs sl : Nat} {st : List Value} {K : zK} {μ : zF} {l0 l1 l2 l3 : Option Value} {b : Nat} {q1 q2 : Value} {P : Option Value → zK → zF → Prop} {mc ms : Nat} {PX : String → zK → zF → Prop} (hC : hL_setMark x MC MS) (hcat : (st.map fun v => v.category).sum ≤ 8) (hcm : cs + mc ≤ MC) (hsm : sl + ms ≤ MS) (hO : zO K b 8) (hE : QX8_setMark (xl x) (xg x) mc ms [.ref b, q1, q2] K μ P PX) (kx : ∀ (E : String) (K1 : zK) (μ1 : zF), PX E K1 μ1 → ∃ h, zHd x RL 3 E h ∧ ∀ q, zV x (cs + mc) (sl + ms) h [l0, l1, l2, l3] [.ref q] K1 μ1) (kk : ∀ (v : Option Value) (K1 : zK) (μ1 : zF), P v K1 μ1 → zV x (cs + mc) (sl + ms) 6 [l0, l1, l2, l3] (v.toList ++ st) K1 μ1) : zV x cs sl 3 [l0, l1, l2, l3] (q2 :: q1 :: .ref b :: st) K μ := zct_V hC (zgV zw_471 zw_472 zw_473 zw_2 zw_474) rfl (by decide +kernel) ⟨Nat.le_of_ble_eq_true rfl, Nat.le_of_ble_eq_true rfl⟩ (ci := 8) rfl rfl (by decide) (n := 2) (As := [q1, q2]) rfl dL_setMark_3 rfl rfl hcat hcm hsm hO hE kx kk
theorem eL_setMark_6 {x : zX} {MC MS cs sl : Nat} {K : zK} {μ : zF} {l0 l1 l2 l3 : Option Value} {v : Int32} {P : Option Value → zK → zF → Prop} {mc ms : Nat} (hC : hL_setMark x MC MS) (hQ : zQg x (some .int) P mc ms) (hc : cs ≤ mc) (hs : sl ≤ ms) (hp : P (some (.int v)) K μ) : zV x cs sl 6 [l0, l1, l2, l3] [.int v] K μ := zr_i hC hQ dL_setMark_6 hc hs hp
theorem eL_setMark_7 {x : zX} {MC MS cs sl : Nat} {st : List Value} {K : zK} {μ : zF} {l0 l1 l3 : Option Value} {v : Nat} {u : Int32} (hC : hL_setMark x MC MS) (k : zV x cs sl 8 [l0, l1, some (.int u), some (.ref v)] st K μ) : zV x cs sl 7 [l0, l1, some (.int u), l3] (.ref v :: st) K μ := zv_astore_n hC dL_setMark_7 rfl rfl (Nat.le_of_ble_eq_true rfl) rfl k
theorem eL_setMark_8 {x : zX} {MC MS cs sl : Nat} {st : List Value} {K : zK} {μ : zF} {l0 l1 l2 l3 : Option Value} (hC : hL_setMark x MC MS) (k : zV x cs sl 10 [l0, l1, l2, l3] (.int (-1000001) :: st) K μ) : zV x cs sl 8 [l0, l1, l2, l3] st K μ := zv_ldc hC (List.mem_cons_of_mem _ zw_235) dL_setMark_8 k
theorem eL_setMark_10 {x : zX} {MC MS cs sl : Nat} {K : zK} {μ : zF} {l0 l1 l2 l3 : Option Value} {v : Int32} {P : Option Value → zK → zF → Prop} {mc ms : Nat} (hC : hL_setMark x MC MS) (hQ : zQg x (some .int) P mc ms) (hc : cs ≤ mc) (hs : sl ≤ ms) (hp : P (some (.int v)) K μ) : zV x cs sl 10 [l0, l1, l2, l3] [.int v] K μ := zr_i hC hQ dL_setMark_10 hc hs hp
theorem eL_setMark_11 {x : zX} {MC MS cs sl : Nat} {st : List Value} {K : zK} {μ : zF} {l0 l1 l3 : Option Value} {v : Nat} {u : Int32} (hC : hL_setMark x MC MS) (k : zV x cs sl 12 [l0, l1, some (.int u), some (.ref v)] st K μ) : zV x cs sl 11 [l0, l1, some (.int u), l3] (.ref v :: st) K μ := zv_astore_n hC dL_setMark_11 rfl rfl (Nat.le_of_ble_eq_true rfl) rfl k
theorem eL_setMark_12 {x : zX} {MC MS cs sl : Nat} {st : List Value} {K : zK} {μ : zF} {l0 l1 l2 l3 : Option Value} (hC : hL_setMark x MC MS) (k : zV x cs sl 14 [l0, l1, l2, l3] (.int (-1000002) :: st) K μ) : zV x cs sl 12 [l0, l1, l2, l3] st K μ := zv_ldc hC (List.mem_cons_of_mem _ zw_416) dL_setMark_12 k
theorem eL_setMark_14 {x : zX} {MC MS cs sl : Nat} {K : zK} {μ : zF} {l0 l1 l2 l3 : Option Value} {v : Int32} {P : Option Value → zK → zF → Prop} {mc ms : Nat} (hC : hL_setMark x MC MS) (hQ : zQg x (some .int) P mc ms) (hc : cs ≤ mc) (hs : sl ≤ ms) (hp : P (some (.int v)) K μ) : zV x cs sl 14 [l0, l1, l2, l3] [.int v] K μ := zr_i hC hQ dL_setMark_14 hc hs hp
set_option maxHeartbeats 1000000 in
theorem vL_setMark {l : Launch} {g : zG} (hl : l.stackTraces = false) {K : zK} {μ : zF} {x : Nat} {S S' : zMs} {r : Int32} {p2 : Int32} {p3 : Int32} (h : zX8 K μ x S) (e : zot zcIA (zdo_setMark p2 p3 S) S = (r, S')) : EL_setMark l g 2 12 [.ref x, .int p2, .int p3] K μ (zAi r S' K μ x) := by
  refine nL_setMark hl (fun z hT hC hQ => ?_)
  refine eL_setMark_0 hC ?_
  refine eL_setMark_1 hC ?_
  refine eL_setMark_2 hC ?_
  refine eL_setMark_3 hC (Nat.le_of_ble_eq_true rfl) (Nat.le_of_ble_eq_true rfl) (Nat.le_of_ble_eq_true rfl) h.o (vX8_setMark hC.nt h) (fun E K1 μ1 hx => ?_) (zk_rp (fun r1 S1 K1 μ1 e1 e2 e3 e4 => ?_))
  · rcases zxo_setMark hx.1 with rfl | rfl
    · refine ⟨7, zHd.a0 hC hT (by decide +kernel) (List.mem_cons_of_mem _ zw_234) (by decide) (by decide), fun q => ?_⟩
      refine eL_setMark_7 hC ?_
      refine eL_setMark_8 hC ?_
      exact eL_setMark_10 hC hQ (Nat.le_of_ble_eq_true rfl) (Nat.le_of_ble_eq_true rfl) (zAi.ex e hx (by decide +kernel))
    · refine ⟨11, zHd.a1 hC hT (by decide +kernel) (List.mem_cons_of_mem _ zw_234) (by decide) (by decide +kernel) (List.mem_cons_of_mem _ zw_393) (by decide) (by decide), fun q => ?_⟩
      refine eL_setMark_11 hC ?_
      refine eL_setMark_12 hC ?_
      exact eL_setMark_14 hC hQ (Nat.le_of_ble_eq_true rfl) (Nat.le_of_ble_eq_true rfl) (zAi.ex e hx (by decide +kernel))
  · exact eL_setMark_6 hC hQ (Nat.le_of_ble_eq_true rfl) (Nat.le_of_ble_eq_true rfl) (zAi.ok e e1 e2 e3 e4)
end ZL_setMark
section ZL_wordWidth
abbrev hL_wordWidth (x : zX) (MC MS : Nat) : Prop := zH x (.codeWith yL_wordWidth cL_wordWidth 3 (some .int) [(0, 5, 6, 16)] :: wsL_law) RL cL_wordWidth 3 8 132 MC MS
abbrev EL_wordWidth (l : Launch) (g : zG) (mc ms : Nat) (As : List Value) (K : zK) (μ : zF) (P : Option Value → zK → zF → Prop) : Prop := zEv l g yL_wordWidth (.codeWith yL_wordWidth cL_wordWidth 3 (some .int) [(0, 5, 6, 16)] :: wsL_law) 8 132 mc ms As K μ P
abbrev QL_wordWidth (l : Launch) (g : zG) (mc ms : Nat) (As : List Value) (K : zK) (μ : zF) (P : Option Value → zK → zF → Prop) (PX : String → zK → zF → Prop) : Prop := zEx l g yL_wordWidth (.codeWith yL_wordWidth cL_wordWidth 3 (some .int) [(0, 5, 6, 16)] :: wsL_law) 8 132 mc ms As K μ P PX
theorem nL_wordWidth {l : Launch} {g : zG} {mc ms : Nat} {p1 : Nat} {p2 : Int32} {K : zK} {μ : zF} {P : Option Value → zK → zF → Prop} (hl : l.stackTraces = false) (body : ∀ x : zX, zTb x [(0, 5, 6, 16)] → hL_wordWidth x mc ms → zQg x (some .int) P mc ms → zV x 0 0 0 [some (.ref p1), some (.int p2), none] [] K μ) : EL_wordWidth l g mc ms [.ref p1, .int p2] K μ P := zEv.ofW hl (by decide) rfl (Nat.le_of_ble_eq_true rfl) (fun x _ _ => body x)
theorem eL_wordWidth_0 {x : zX} {MC MS cs sl : Nat} {st : List Value} {K : zK} {μ : zF} {l1 l2 : Option Value} {a : Nat} (hC : hL_wordWidth x MC MS) (k : zV x cs sl 1 [some (.ref a), l1, l2] (.ref a :: st) K μ) : zV x cs sl 0 [some (.ref a), l1, l2] st K μ := zv_aload_n hC dL_wordWidth_0 rfl rfl k
theorem eL_wordWidth_1 {x : zX} {MC MS cs sl : Nat} {st : List Value} {K : zK} {μ : zF} {l0 l2 : Option Value} {v : Int32} (hC : hL_wordWidth x MC MS) (k : zV x cs sl 2 [l0, some (.int v), l2] (.int v :: st) K μ) : zV x cs sl 1 [l0, some (.int v), l2] st K μ := zv_iload_n hC dL_wordWidth_1 rfl rfl k
theorem eL_wordWidth_2 {x : zX} {MC MS cs sl : Nat} {st : List Value} {K : zK} {μ : zF} {l0 l1 l2 : Option Value} {b : Nat} {q1 : Value} {P : Option Value → zK → zF → Prop} {mc ms : Nat} {PX : String → zK → zF → Prop} (hC : hL_wordWidth x MC MS) (hcat : (st.map fun v => v.category).sum ≤ 8) (hcm : cs + mc ≤ MC) (hsm : sl + ms ≤ MS) (hO : zO K b 8) (hE : QX8_wordWidth (xl x) (xg x) mc ms [.ref b, q1] K μ P PX) (kx : ∀ (E : String) (K1 : zK) (μ1 : zF), PX E K1 μ1 → ∃ h, zHd x RL 2 E h ∧ ∀ q, zV x (cs + mc) (sl + ms) h [l0, l1, l2] [.ref q] K1 μ1) (kk : ∀ (v : Option Value) (K1 : zK) (μ1 : zF), P v K1 μ1 → zV x (cs + mc) (sl + ms) 5 [l0, l1, l2] (v.toList ++ st) K1 μ1) : zV x cs sl 2 [l0, l1, l2] (q1 :: .ref b :: st) K μ := zct_V hC (zgV zw_256 zw_257 zw_258 zw_2 zw_259) rfl (by decide +kernel) ⟨Nat.le_of_ble_eq_true rfl, Nat.le_of_ble_eq_true rfl⟩ (ci := 8) rfl rfl (by decide) (n := 1) (As := [q1]) rfl dL_wordWidth_2 rfl rfl hcat hcm hsm hO hE kx kk
theorem eL_wordWidth_5 {x : zX} {MC MS cs sl : Nat} {K : zK} {μ : zF} {l0 l1 l2 : Option Value} {v : Int32} {P : Option Value → zK → zF → Prop} {mc ms : Nat} (hC : hL_wordWidth x MC MS) (hQ : zQg x (some .int) P mc ms) (hc : cs ≤ mc) (hs : sl ≤ ms) (hp : P (some (.int v)) K μ) : zV x cs sl 5 [l0, l1, l2] [.int v] K μ := zr_i hC hQ dL_wordWidth_5 hc hs hp
theorem eL_wordWidth_6 {x : zX} {MC MS cs sl : Nat} {st : List Value} {K : zK} {μ : zF} {l0 l2 : Option Value} {v : Nat} {u : Int32} (hC : hL_wordWidth x MC MS) (k : zV x cs sl 7 [l0, some (.int u), some (.ref v)] st K μ) : zV x cs sl 6 [l0, some (.int u), l2] (.ref v :: st) K μ := zv_astore_n hC dL_wordWidth_6 rfl rfl (Nat.le_of_ble_eq_true rfl) rfl k
theorem eL_wordWidth_7 {x : zX} {MC MS cs sl : Nat} {st : List Value} {K : zK} {μ : zF} {l0 l1 l2 : Option Value} (hC : hL_wordWidth x MC MS) (k : zV x cs sl 9 [l0, l1, l2] (.int (-1000001) :: st) K μ) : zV x cs sl 7 [l0, l1, l2] st K μ := zv_ldc hC (List.mem_cons_of_mem _ zw_235) dL_wordWidth_7 k
theorem eL_wordWidth_9 {x : zX} {MC MS cs sl : Nat} {K : zK} {μ : zF} {l0 l1 l2 : Option Value} {v : Int32} {P : Option Value → zK → zF → Prop} {mc ms : Nat} (hC : hL_wordWidth x MC MS) (hQ : zQg x (some .int) P mc ms) (hc : cs ≤ mc) (hs : sl ≤ ms) (hp : P (some (.int v)) K μ) : zV x cs sl 9 [l0, l1, l2] [.int v] K μ := zr_i hC hQ dL_wordWidth_9 hc hs hp
set_option maxHeartbeats 1000000 in
theorem vL_wordWidth {l : Launch} {g : zG} (hl : l.stackTraces = false) {K : zK} {μ : zF} {x : Nat} {S S' : zMs} {r : Int32} {p2 : Int32} (h : zX8 K μ x S) (e : zot zc1 (zdo_wordWidth p2 S) S = (r, S')) : EL_wordWidth l g 1 6 [.ref x, .int p2] K μ (zAi r S' K μ x) := by
  refine nL_wordWidth hl (fun z hT hC hQ => ?_)
  refine eL_wordWidth_0 hC ?_
  refine eL_wordWidth_1 hC ?_
  refine eL_wordWidth_2 hC (Nat.le_of_ble_eq_true rfl) (Nat.le_of_ble_eq_true rfl) (Nat.le_of_ble_eq_true rfl) h.o (vX8_wordWidth hC.nt h) (fun E K1 μ1 hx => ?_) (zk_rp (fun r1 S1 K1 μ1 e1 e2 e3 e4 => ?_))
  · obtain rfl := zxo_wordWidth hx.1
    refine ⟨6, zHd.a0 hC hT (by decide +kernel) (List.mem_cons_of_mem _ zw_234) (by decide) (by decide), fun q => ?_⟩
    refine eL_wordWidth_6 hC ?_
    refine eL_wordWidth_7 hC ?_
    exact eL_wordWidth_9 hC hQ (Nat.le_of_ble_eq_true rfl) (Nat.le_of_ble_eq_true rfl) (zAi.ex e hx (by decide +kernel))
  · exact eL_wordWidth_5 hC hQ (Nat.le_of_ble_eq_true rfl) (Nat.le_of_ble_eq_true rfl) (zAi.ok e e1 e2 e3 e4)
end ZL_wordWidth
section ZL_mark
abbrev hL_mark (x : zX) (MC MS : Nat) : Prop := zH x (.codeWith yL_mark cL_mark 3 (some .int) [(0, 5, 6, 16)] :: wsL_law) RL cL_mark 3 8 132 MC MS
abbrev EL_mark (l : Launch) (g : zG) (mc ms : Nat) (As : List Value) (K : zK) (μ : zF) (P : Option Value → zK → zF → Prop) : Prop := zEv l g yL_mark (.codeWith yL_mark cL_mark 3 (some .int) [(0, 5, 6, 16)] :: wsL_law) 8 132 mc ms As K μ P
abbrev QL_mark (l : Launch) (g : zG) (mc ms : Nat) (As : List Value) (K : zK) (μ : zF) (P : Option Value → zK → zF → Prop) (PX : String → zK → zF → Prop) : Prop := zEx l g yL_mark (.codeWith yL_mark cL_mark 3 (some .int) [(0, 5, 6, 16)] :: wsL_law) 8 132 mc ms As K μ P PX
theorem nL_mark {l : Launch} {g : zG} {mc ms : Nat} {p1 : Nat} {p2 : Int32} {K : zK} {μ : zF} {P : Option Value → zK → zF → Prop} (hl : l.stackTraces = false) (body : ∀ x : zX, zTb x [(0, 5, 6, 16)] → hL_mark x mc ms → zQg x (some .int) P mc ms → zV x 0 0 0 [some (.ref p1), some (.int p2), none] [] K μ) : EL_mark l g mc ms [.ref p1, .int p2] K μ P := zEv.ofW hl (by decide) rfl (Nat.le_of_ble_eq_true rfl) (fun x _ _ => body x)
theorem eL_mark_0 {x : zX} {MC MS cs sl : Nat} {st : List Value} {K : zK} {μ : zF} {l1 l2 : Option Value} {a : Nat} (hC : hL_mark x MC MS) (k : zV x cs sl 1 [some (.ref a), l1, l2] (.ref a :: st) K μ) : zV x cs sl 0 [some (.ref a), l1, l2] st K μ := zv_aload_n hC dL_mark_0 rfl rfl k
theorem eL_mark_1 {x : zX} {MC MS cs sl : Nat} {st : List Value} {K : zK} {μ : zF} {l0 l2 : Option Value} {v : Int32} (hC : hL_mark x MC MS) (k : zV x cs sl 2 [l0, some (.int v), l2] (.int v :: st) K μ) : zV x cs sl 1 [l0, some (.int v), l2] st K μ := zv_iload_n hC dL_mark_1 rfl rfl k
theorem eL_mark_2 {x : zX} {MC MS cs sl : Nat} {st : List Value} {K : zK} {μ : zF} {l0 l1 l2 : Option Value} {b : Nat} {q1 : Value} {P : Option Value → zK → zF → Prop} {mc ms : Nat} {PX : String → zK → zF → Prop} (hC : hL_mark x MC MS) (hcat : (st.map fun v => v.category).sum ≤ 8) (hcm : cs + mc ≤ MC) (hsm : sl + ms ≤ MS) (hO : zO K b 8) (hE : QX8_mark (xl x) (xg x) mc ms [.ref b, q1] K μ P PX) (kx : ∀ (E : String) (K1 : zK) (μ1 : zF), PX E K1 μ1 → ∃ h, zHd x RL 2 E h ∧ ∀ q, zV x (cs + mc) (sl + ms) h [l0, l1, l2] [.ref q] K1 μ1) (kk : ∀ (v : Option Value) (K1 : zK) (μ1 : zF), P v K1 μ1 → zV x (cs + mc) (sl + ms) 5 [l0, l1, l2] (v.toList ++ st) K1 μ1) : zV x cs sl 2 [l0, l1, l2] (q1 :: .ref b :: st) K μ := zct_V hC (zgV zw_263 zw_264 zw_265 zw_2 zw_266) rfl (by decide +kernel) ⟨Nat.le_of_ble_eq_true rfl, Nat.le_of_ble_eq_true rfl⟩ (ci := 8) rfl rfl (by decide) (n := 1) (As := [q1]) rfl dL_mark_2 rfl rfl hcat hcm hsm hO hE kx kk
theorem eL_mark_5 {x : zX} {MC MS cs sl : Nat} {K : zK} {μ : zF} {l0 l1 l2 : Option Value} {v : Int32} {P : Option Value → zK → zF → Prop} {mc ms : Nat} (hC : hL_mark x MC MS) (hQ : zQg x (some .int) P mc ms) (hc : cs ≤ mc) (hs : sl ≤ ms) (hp : P (some (.int v)) K μ) : zV x cs sl 5 [l0, l1, l2] [.int v] K μ := zr_i hC hQ dL_mark_5 hc hs hp
theorem eL_mark_6 {x : zX} {MC MS cs sl : Nat} {st : List Value} {K : zK} {μ : zF} {l0 l2 : Option Value} {v : Nat} {u : Int32} (hC : hL_mark x MC MS) (k : zV x cs sl 7 [l0, some (.int u), some (.ref v)] st K μ) : zV x cs sl 6 [l0, some (.int u), l2] (.ref v :: st) K μ := zv_astore_n hC dL_mark_6 rfl rfl (Nat.le_of_ble_eq_true rfl) rfl k
theorem eL_mark_7 {x : zX} {MC MS cs sl : Nat} {st : List Value} {K : zK} {μ : zF} {l0 l1 l2 : Option Value} (hC : hL_mark x MC MS) (k : zV x cs sl 9 [l0, l1, l2] (.int (-1000001) :: st) K μ) : zV x cs sl 7 [l0, l1, l2] st K μ := zv_ldc hC (List.mem_cons_of_mem _ zw_235) dL_mark_7 k
theorem eL_mark_9 {x : zX} {MC MS cs sl : Nat} {K : zK} {μ : zF} {l0 l1 l2 : Option Value} {v : Int32} {P : Option Value → zK → zF → Prop} {mc ms : Nat} (hC : hL_mark x MC MS) (hQ : zQg x (some .int) P mc ms) (hc : cs ≤ mc) (hs : sl ≤ ms) (hp : P (some (.int v)) K μ) : zV x cs sl 9 [l0, l1, l2] [.int v] K μ := zr_i hC hQ dL_mark_9 hc hs hp
set_option maxHeartbeats 1000000 in
theorem vL_mark {l : Launch} {g : zG} (hl : l.stackTraces = false) {K : zK} {μ : zF} {x : Nat} {S S' : zMs} {r : Int32} {p2 : Int32} (h : zX8 K μ x S) (e : zot zc1 (zdo_mark p2 S) S = (r, S')) : EL_mark l g 1 6 [.ref x, .int p2] K μ (zAi r S' K μ x) := by
  refine nL_mark hl (fun z hT hC hQ => ?_)
  refine eL_mark_0 hC ?_
  refine eL_mark_1 hC ?_
  refine eL_mark_2 hC (Nat.le_of_ble_eq_true rfl) (Nat.le_of_ble_eq_true rfl) (Nat.le_of_ble_eq_true rfl) h.o (vX8_mark hC.nt h) (fun E K1 μ1 hx => ?_) (zk_rp (fun r1 S1 K1 μ1 e1 e2 e3 e4 => ?_))
  · obtain rfl := zxo_mark hx.1
    refine ⟨6, zHd.a0 hC hT (by decide +kernel) (List.mem_cons_of_mem _ zw_234) (by decide) (by decide), fun q => ?_⟩
    refine eL_mark_6 hC ?_
    refine eL_mark_7 hC ?_
    exact eL_mark_9 hC hQ (Nat.le_of_ble_eq_true rfl) (Nat.le_of_ble_eq_true rfl) (zAi.ex e hx (by decide +kernel))
  · exact eL_mark_5 hC hQ (Nat.le_of_ble_eq_true rfl) (Nat.le_of_ble_eq_true rfl) (zAi.ok e e1 e2 e3 e4)
end ZL_mark
section ZL_setColumn
abbrev hL_setColumn (x : zX) (MC MS : Nat) : Prop := zH x (.codeWith yL_setColumn cL_setColumn 3 (some .int) [(0, 5, 6, 19)] :: wsL_law) RL cL_setColumn 3 8 134 MC MS
abbrev EL_setColumn (l : Launch) (g : zG) (mc ms : Nat) (As : List Value) (K : zK) (μ : zF) (P : Option Value → zK → zF → Prop) : Prop := zEv l g yL_setColumn (.codeWith yL_setColumn cL_setColumn 3 (some .int) [(0, 5, 6, 19)] :: wsL_law) 8 134 mc ms As K μ P
abbrev QL_setColumn (l : Launch) (g : zG) (mc ms : Nat) (As : List Value) (K : zK) (μ : zF) (P : Option Value → zK → zF → Prop) (PX : String → zK → zF → Prop) : Prop := zEx l g yL_setColumn (.codeWith yL_setColumn cL_setColumn 3 (some .int) [(0, 5, 6, 19)] :: wsL_law) 8 134 mc ms As K μ P PX
theorem nL_setColumn {l : Launch} {g : zG} {mc ms : Nat} {p1 : Nat} {p2 : Int32} {K : zK} {μ : zF} {P : Option Value → zK → zF → Prop} (hl : l.stackTraces = false) (body : ∀ x : zX, zTb x [(0, 5, 6, 19)] → hL_setColumn x mc ms → zQg x (some .int) P mc ms → zV x 0 0 0 [some (.ref p1), some (.int p2), none] [] K μ) : EL_setColumn l g mc ms [.ref p1, .int p2] K μ P := zEv.ofW hl (by decide) rfl (Nat.le_of_ble_eq_true rfl) (fun x _ _ => body x)
theorem eL_setColumn_0 {x : zX} {MC MS cs sl : Nat} {st : List Value} {K : zK} {μ : zF} {l1 l2 : Option Value} {a : Nat} (hC : hL_setColumn x MC MS) (k : zV x cs sl 1 [some (.ref a), l1, l2] (.ref a :: st) K μ) : zV x cs sl 0 [some (.ref a), l1, l2] st K μ := zv_aload_n hC dL_setColumn_0 rfl rfl k
theorem eL_setColumn_1 {x : zX} {MC MS cs sl : Nat} {st : List Value} {K : zK} {μ : zF} {l0 l2 : Option Value} {v : Int32} (hC : hL_setColumn x MC MS) (k : zV x cs sl 2 [l0, some (.int v), l2] (.int v :: st) K μ) : zV x cs sl 1 [l0, some (.int v), l2] st K μ := zv_iload_n hC dL_setColumn_1 rfl rfl k
theorem eL_setColumn_2 {x : zX} {MC MS cs sl : Nat} {st : List Value} {K : zK} {μ : zF} {l0 l1 l2 : Option Value} {b : Nat} {q1 : Value} {P : Option Value → zK → zF → Prop} {mc ms : Nat} {PX : String → zK → zF → Prop} (hC : hL_setColumn x MC MS) (hcat : (st.map fun v => v.category).sum ≤ 8) (hcm : cs + mc ≤ MC) (hsm : sl + ms ≤ MS) (hO : zO K b 8) (hE : QX8_setColumn (xl x) (xg x) mc ms [.ref b, q1] K μ P PX) (kx : ∀ (E : String) (K1 : zK) (μ1 : zF), PX E K1 μ1 → ∃ h, zHd x RL 2 E h ∧ ∀ q, zV x (cs + mc) (sl + ms) h [l0, l1, l2] [.ref q] K1 μ1) (kk : ∀ (v : Option Value) (K1 : zK) (μ1 : zF), P v K1 μ1 → zV x (cs + mc) (sl + ms) 5 [l0, l1, l2] (v.toList ++ st) K1 μ1) : zV x cs sl 2 [l0, l1, l2] (q1 :: .ref b :: st) K μ := zct_V hC (zgV zw_479 zw_480 zw_481 zw_2 zw_482) rfl (by decide +kernel) ⟨Nat.le_of_ble_eq_true rfl, Nat.le_of_ble_eq_true rfl⟩ (ci := 8) rfl rfl (by decide) (n := 1) (As := [q1]) rfl dL_setColumn_2 rfl rfl hcat hcm hsm hO hE kx kk
theorem eL_setColumn_5 {x : zX} {MC MS cs sl : Nat} {K : zK} {μ : zF} {l0 l1 l2 : Option Value} {v : Int32} {P : Option Value → zK → zF → Prop} {mc ms : Nat} (hC : hL_setColumn x MC MS) (hQ : zQg x (some .int) P mc ms) (hc : cs ≤ mc) (hs : sl ≤ ms) (hp : P (some (.int v)) K μ) : zV x cs sl 5 [l0, l1, l2] [.int v] K μ := zr_i hC hQ dL_setColumn_5 hc hs hp
theorem eL_setColumn_6 {x : zX} {MC MS cs sl : Nat} {st : List Value} {K : zK} {μ : zF} {l0 l2 : Option Value} {v : Nat} {u : Int32} (hC : hL_setColumn x MC MS) (k : zV x cs sl 7 [l0, some (.int u), some (.ref v)] st K μ) : zV x cs sl 6 [l0, some (.int u), l2] (.ref v :: st) K μ := zv_astore_n hC dL_setColumn_6 rfl rfl (Nat.le_of_ble_eq_true rfl) rfl k
theorem eL_setColumn_7 {x : zX} {MC MS cs sl : Nat} {st : List Value} {K : zK} {μ : zF} {l0 l1 l2 : Option Value} (hC : hL_setColumn x MC MS) (k : zV x cs sl 9 [l0, l1, l2] (.int (-1000001) :: st) K μ) : zV x cs sl 7 [l0, l1, l2] st K μ := zv_ldc hC (List.mem_cons_of_mem _ zw_235) dL_setColumn_7 k
theorem eL_setColumn_9 {x : zX} {MC MS cs sl : Nat} {K : zK} {μ : zF} {l0 l1 l2 : Option Value} {v : Int32} {P : Option Value → zK → zF → Prop} {mc ms : Nat} (hC : hL_setColumn x MC MS) (hQ : zQg x (some .int) P mc ms) (hc : cs ≤ mc) (hs : sl ≤ ms) (hp : P (some (.int v)) K μ) : zV x cs sl 9 [l0, l1, l2] [.int v] K μ := zr_i hC hQ dL_setColumn_9 hc hs hp
set_option maxHeartbeats 1000000 in
theorem vL_setColumn {l : Launch} {g : zG} (hl : l.stackTraces = false) {K : zK} {μ : zF} {x : Nat} {S S' : zMs} {r : Int32} {p2 : Int32} (h : zX8 K μ x S) (e : zot zc1 (zdo_setColumn p2 S) S = (r, S')) : EL_setColumn l g 1 6 [.ref x, .int p2] K μ (zAi r S' K μ x) := by
  refine nL_setColumn hl (fun z hT hC hQ => ?_)
  refine eL_setColumn_0 hC ?_
  refine eL_setColumn_1 hC ?_
  refine eL_setColumn_2 hC (Nat.le_of_ble_eq_true rfl) (Nat.le_of_ble_eq_true rfl) (Nat.le_of_ble_eq_true rfl) h.o (vX8_setColumn hC.nt h) (fun E K1 μ1 hx => ?_) (zk_rp (fun r1 S1 K1 μ1 e1 e2 e3 e4 => ?_))
  · obtain rfl := zxo_setColumn hx.1
    refine ⟨6, zHd.a0 hC hT (by decide +kernel) (List.mem_cons_of_mem _ zw_393) (by decide) (by decide), fun q => ?_⟩
    refine eL_setColumn_6 hC ?_
    refine eL_setColumn_7 hC ?_
    exact eL_setColumn_9 hC hQ (Nat.le_of_ble_eq_true rfl) (Nat.le_of_ble_eq_true rfl) (zAi.ex e hx (by decide +kernel))
  · exact eL_setColumn_5 hC hQ (Nat.le_of_ble_eq_true rfl) (Nat.le_of_ble_eq_true rfl) (zAi.ok e e1 e2 e3 e4)
end ZL_setColumn
section ZL_setSpace
abbrev hL_setSpace (x : zX) (MC MS : Nat) : Prop := zH x (.codeWith yL_setSpace cL_setSpace 3 (some .int) [(0, 5, 6, 19)] :: wsL_law) RL cL_setSpace 3 8 134 MC MS
abbrev EL_setSpace (l : Launch) (g : zG) (mc ms : Nat) (As : List Value) (K : zK) (μ : zF) (P : Option Value → zK → zF → Prop) : Prop := zEv l g yL_setSpace (.codeWith yL_setSpace cL_setSpace 3 (some .int) [(0, 5, 6, 19)] :: wsL_law) 8 134 mc ms As K μ P
abbrev QL_setSpace (l : Launch) (g : zG) (mc ms : Nat) (As : List Value) (K : zK) (μ : zF) (P : Option Value → zK → zF → Prop) (PX : String → zK → zF → Prop) : Prop := zEx l g yL_setSpace (.codeWith yL_setSpace cL_setSpace 3 (some .int) [(0, 5, 6, 19)] :: wsL_law) 8 134 mc ms As K μ P PX
theorem nL_setSpace {l : Launch} {g : zG} {mc ms : Nat} {p1 : Nat} {p2 : Int32} {K : zK} {μ : zF} {P : Option Value → zK → zF → Prop} (hl : l.stackTraces = false) (body : ∀ x : zX, zTb x [(0, 5, 6, 19)] → hL_setSpace x mc ms → zQg x (some .int) P mc ms → zV x 0 0 0 [some (.ref p1), some (.int p2), none] [] K μ) : EL_setSpace l g mc ms [.ref p1, .int p2] K μ P := zEv.ofW hl (by decide) rfl (Nat.le_of_ble_eq_true rfl) (fun x _ _ => body x)
theorem eL_setSpace_0 {x : zX} {MC MS cs sl : Nat} {st : List Value} {K : zK} {μ : zF} {l1 l2 : Option Value} {a : Nat} (hC : hL_setSpace x MC MS) (k : zV x cs sl 1 [some (.ref a), l1, l2] (.ref a :: st) K μ) : zV x cs sl 0 [some (.ref a), l1, l2] st K μ := zv_aload_n hC dL_setSpace_0 rfl rfl k
theorem eL_setSpace_1 {x : zX} {MC MS cs sl : Nat} {st : List Value} {K : zK} {μ : zF} {l0 l2 : Option Value} {v : Int32} (hC : hL_setSpace x MC MS) (k : zV x cs sl 2 [l0, some (.int v), l2] (.int v :: st) K μ) : zV x cs sl 1 [l0, some (.int v), l2] st K μ := zv_iload_n hC dL_setSpace_1 rfl rfl k
theorem eL_setSpace_2 {x : zX} {MC MS cs sl : Nat} {st : List Value} {K : zK} {μ : zF} {l0 l1 l2 : Option Value} {b : Nat} {q1 : Value} {P : Option Value → zK → zF → Prop} {mc ms : Nat} {PX : String → zK → zF → Prop} (hC : hL_setSpace x MC MS) (hcat : (st.map fun v => v.category).sum ≤ 8) (hcm : cs + mc ≤ MC) (hsm : sl + ms ≤ MS) (hO : zO K b 8) (hE : QX8_setSpace (xl x) (xg x) mc ms [.ref b, q1] K μ P PX) (kx : ∀ (E : String) (K1 : zK) (μ1 : zF), PX E K1 μ1 → ∃ h, zHd x RL 2 E h ∧ ∀ q, zV x (cs + mc) (sl + ms) h [l0, l1, l2] [.ref q] K1 μ1) (kk : ∀ (v : Option Value) (K1 : zK) (μ1 : zF), P v K1 μ1 → zV x (cs + mc) (sl + ms) 5 [l0, l1, l2] (v.toList ++ st) K1 μ1) : zV x cs sl 2 [l0, l1, l2] (q1 :: .ref b :: st) K μ := zct_V hC (zgV zw_486 zw_487 zw_488 zw_2 zw_489) rfl (by decide +kernel) ⟨Nat.le_of_ble_eq_true rfl, Nat.le_of_ble_eq_true rfl⟩ (ci := 8) rfl rfl (by decide) (n := 1) (As := [q1]) rfl dL_setSpace_2 rfl rfl hcat hcm hsm hO hE kx kk
theorem eL_setSpace_5 {x : zX} {MC MS cs sl : Nat} {K : zK} {μ : zF} {l0 l1 l2 : Option Value} {v : Int32} {P : Option Value → zK → zF → Prop} {mc ms : Nat} (hC : hL_setSpace x MC MS) (hQ : zQg x (some .int) P mc ms) (hc : cs ≤ mc) (hs : sl ≤ ms) (hp : P (some (.int v)) K μ) : zV x cs sl 5 [l0, l1, l2] [.int v] K μ := zr_i hC hQ dL_setSpace_5 hc hs hp
theorem eL_setSpace_6 {x : zX} {MC MS cs sl : Nat} {st : List Value} {K : zK} {μ : zF} {l0 l2 : Option Value} {v : Nat} {u : Int32} (hC : hL_setSpace x MC MS) (k : zV x cs sl 7 [l0, some (.int u), some (.ref v)] st K μ) : zV x cs sl 6 [l0, some (.int u), l2] (.ref v :: st) K μ := zv_astore_n hC dL_setSpace_6 rfl rfl (Nat.le_of_ble_eq_true rfl) rfl k
theorem eL_setSpace_7 {x : zX} {MC MS cs sl : Nat} {st : List Value} {K : zK} {μ : zF} {l0 l1 l2 : Option Value} (hC : hL_setSpace x MC MS) (k : zV x cs sl 9 [l0, l1, l2] (.int (-1000001) :: st) K μ) : zV x cs sl 7 [l0, l1, l2] st K μ := zv_ldc hC (List.mem_cons_of_mem _ zw_235) dL_setSpace_7 k
theorem eL_setSpace_9 {x : zX} {MC MS cs sl : Nat} {K : zK} {μ : zF} {l0 l1 l2 : Option Value} {v : Int32} {P : Option Value → zK → zF → Prop} {mc ms : Nat} (hC : hL_setSpace x MC MS) (hQ : zQg x (some .int) P mc ms) (hc : cs ≤ mc) (hs : sl ≤ ms) (hp : P (some (.int v)) K μ) : zV x cs sl 9 [l0, l1, l2] [.int v] K μ := zr_i hC hQ dL_setSpace_9 hc hs hp
set_option maxHeartbeats 1000000 in
theorem vL_setSpace {l : Launch} {g : zG} (hl : l.stackTraces = false) {K : zK} {μ : zF} {x : Nat} {S S' : zMs} {r : Int32} {p2 : Int32} (h : zX8 K μ x S) (e : zot zc1 (zdo_setSpace p2 S) S = (r, S')) : EL_setSpace l g 1 6 [.ref x, .int p2] K μ (zAi r S' K μ x) := by
  refine nL_setSpace hl (fun z hT hC hQ => ?_)
  refine eL_setSpace_0 hC ?_
  refine eL_setSpace_1 hC ?_
  refine eL_setSpace_2 hC (Nat.le_of_ble_eq_true rfl) (Nat.le_of_ble_eq_true rfl) (Nat.le_of_ble_eq_true rfl) h.o (vX8_setSpace hC.nt h) (fun E K1 μ1 hx => ?_) (zk_rp (fun r1 S1 K1 μ1 e1 e2 e3 e4 => ?_))
  · obtain rfl := zxo_setSpace hx.1
    refine ⟨6, zHd.a0 hC hT (by decide +kernel) (List.mem_cons_of_mem _ zw_393) (by decide) (by decide), fun q => ?_⟩
    refine eL_setSpace_6 hC ?_
    refine eL_setSpace_7 hC ?_
    exact eL_setSpace_9 hC hQ (Nat.le_of_ble_eq_true rfl) (Nat.le_of_ble_eq_true rfl) (zAi.ex e hx (by decide +kernel))
  · exact eL_setSpace_5 hC hQ (Nat.le_of_ble_eq_true rfl) (Nat.le_of_ble_eq_true rfl) (zAi.ok e e1 e2 e3 e4)
end ZL_setSpace
section ZL_setPenalties
abbrev hL_setPenalties (x : zX) (MC MS : Nat) : Prop := zH x (.codeWith yL_setPenalties cL_setPenalties 5 (some .int) [(0, 7, 8, 19)] :: wsL_law) RL cL_setPenalties 5 8 136 MC MS
abbrev EL_setPenalties (l : Launch) (g : zG) (mc ms : Nat) (As : List Value) (K : zK) (μ : zF) (P : Option Value → zK → zF → Prop) : Prop := zEv l g yL_setPenalties (.codeWith yL_setPenalties cL_setPenalties 5 (some .int) [(0, 7, 8, 19)] :: wsL_law) 8 136 mc ms As K μ P
abbrev QL_setPenalties (l : Launch) (g : zG) (mc ms : Nat) (As : List Value) (K : zK) (μ : zF) (P : Option Value → zK → zF → Prop) (PX : String → zK → zF → Prop) : Prop := zEx l g yL_setPenalties (.codeWith yL_setPenalties cL_setPenalties 5 (some .int) [(0, 7, 8, 19)] :: wsL_law) 8 136 mc ms As K μ P PX
theorem nL_setPenalties {l : Launch} {g : zG} {mc ms : Nat} {p1 : Nat} {p2 : Int32} {p3 : Int32} {p4 : Int32} {K : zK} {μ : zF} {P : Option Value → zK → zF → Prop} (hl : l.stackTraces = false) (body : ∀ x : zX, zTb x [(0, 7, 8, 19)] → hL_setPenalties x mc ms → zQg x (some .int) P mc ms → zV x 0 0 0 [some (.ref p1), some (.int p2), some (.int p3), some (.int p4), none] [] K μ) : EL_setPenalties l g mc ms [.ref p1, .int p2, .int p3, .int p4] K μ P := zEv.ofW hl (by decide) rfl (Nat.le_of_ble_eq_true rfl) (fun x _ _ => body x)
theorem eL_setPenalties_0 {x : zX} {MC MS cs sl : Nat} {st : List Value} {K : zK} {μ : zF} {l1 l2 l3 l4 : Option Value} {a : Nat} (hC : hL_setPenalties x MC MS) (k : zV x cs sl 1 [some (.ref a), l1, l2, l3, l4] (.ref a :: st) K μ) : zV x cs sl 0 [some (.ref a), l1, l2, l3, l4] st K μ := zv_aload_n hC dL_setPenalties_0 rfl rfl k
theorem eL_setPenalties_1 {x : zX} {MC MS cs sl : Nat} {st : List Value} {K : zK} {μ : zF} {l0 l2 l3 l4 : Option Value} {v : Int32} (hC : hL_setPenalties x MC MS) (k : zV x cs sl 2 [l0, some (.int v), l2, l3, l4] (.int v :: st) K μ) : zV x cs sl 1 [l0, some (.int v), l2, l3, l4] st K μ := zv_iload_n hC dL_setPenalties_1 rfl rfl k
theorem eL_setPenalties_2 {x : zX} {MC MS cs sl : Nat} {st : List Value} {K : zK} {μ : zF} {l0 l1 l3 l4 : Option Value} {v : Int32} (hC : hL_setPenalties x MC MS) (k : zV x cs sl 3 [l0, l1, some (.int v), l3, l4] (.int v :: st) K μ) : zV x cs sl 2 [l0, l1, some (.int v), l3, l4] st K μ := zv_iload_n hC dL_setPenalties_2 rfl rfl k
theorem eL_setPenalties_3 {x : zX} {MC MS cs sl : Nat} {st : List Value} {K : zK} {μ : zF} {l0 l1 l2 l4 : Option Value} {v : Int32} (hC : hL_setPenalties x MC MS) (k : zV x cs sl 4 [l0, l1, l2, some (.int v), l4] (.int v :: st) K μ) : zV x cs sl 3 [l0, l1, l2, some (.int v), l4] st K μ := zv_iload_n hC dL_setPenalties_3 rfl rfl k
theorem eL_setPenalties_4 {x : zX} {MC MS cs sl : Nat} {st : List Value} {K : zK} {μ : zF} {l0 l1 l2 l3 l4 : Option Value} {b : Nat} {q1 q2 q3 : Value} {P : Option Value → zK → zF → Prop} {mc ms : Nat} {PX : String → zK → zF → Prop} (hC : hL_setPenalties x MC MS) (hcat : (st.map fun v => v.category).sum ≤ 8) (hcm : cs + mc ≤ MC) (hsm : sl + ms ≤ MS) (hO : zO K b 8) (hE : QX8_setPenalties (xl x) (xg x) mc ms [.ref b, q1, q2, q3] K μ P PX) (kx : ∀ (E : String) (K1 : zK) (μ1 : zF), PX E K1 μ1 → ∃ h, zHd x RL 4 E h ∧ ∀ q, zV x (cs + mc) (sl + ms) h [l0, l1, l2, l3, l4] [.ref q] K1 μ1) (kk : ∀ (v : Option Value) (K1 : zK) (μ1 : zF), P v K1 μ1 → zV x (cs + mc) (sl + ms) 7 [l0, l1, l2, l3, l4] (v.toList ++ st) K1 μ1) : zV x cs sl 4 [l0, l1, l2, l3, l4] (q3 :: q2 :: q1 :: .ref b :: st) K μ := zct_V hC (zgV zw_493 zw_494 zw_495 zw_2 zw_496) rfl (by decide +kernel) ⟨Nat.le_of_ble_eq_true rfl, Nat.le_of_ble_eq_true rfl⟩ (ci := 8) rfl rfl (by decide) (n := 3) (As := [q1, q2, q3]) rfl dL_setPenalties_4 rfl rfl hcat hcm hsm hO hE kx kk
theorem eL_setPenalties_7 {x : zX} {MC MS cs sl : Nat} {K : zK} {μ : zF} {l0 l1 l2 l3 l4 : Option Value} {v : Int32} {P : Option Value → zK → zF → Prop} {mc ms : Nat} (hC : hL_setPenalties x MC MS) (hQ : zQg x (some .int) P mc ms) (hc : cs ≤ mc) (hs : sl ≤ ms) (hp : P (some (.int v)) K μ) : zV x cs sl 7 [l0, l1, l2, l3, l4] [.int v] K μ := zr_i hC hQ dL_setPenalties_7 hc hs hp
theorem eL_setPenalties_8 {x : zX} {MC MS cs sl : Nat} {st : List Value} {K : zK} {μ : zF} {l0 l1 l2 l4 : Option Value} {v : Nat} {u : Int32} (hC : hL_setPenalties x MC MS) (k : zV x cs sl 10 [l0, l1, l2, some (.int u), some (.ref v)] st K μ) : zV x cs sl 8 [l0, l1, l2, some (.int u), l4] (.ref v :: st) K μ := zv_astore hC dL_setPenalties_8 rfl (Nat.le_of_ble_eq_true rfl) rfl k
theorem eL_setPenalties_10 {x : zX} {MC MS cs sl : Nat} {st : List Value} {K : zK} {μ : zF} {l0 l1 l2 l3 l4 : Option Value} (hC : hL_setPenalties x MC MS) (k : zV x cs sl 12 [l0, l1, l2, l3, l4] (.int (-1000001) :: st) K μ) : zV x cs sl 10 [l0, l1, l2, l3, l4] st K μ := zv_ldc hC (List.mem_cons_of_mem _ zw_235) dL_setPenalties_10 k
theorem eL_setPenalties_12 {x : zX} {MC MS cs sl : Nat} {K : zK} {μ : zF} {l0 l1 l2 l3 l4 : Option Value} {v : Int32} {P : Option Value → zK → zF → Prop} {mc ms : Nat} (hC : hL_setPenalties x MC MS) (hQ : zQg x (some .int) P mc ms) (hc : cs ≤ mc) (hs : sl ≤ ms) (hp : P (some (.int v)) K μ) : zV x cs sl 12 [l0, l1, l2, l3, l4] [.int v] K μ := zr_i hC hQ dL_setPenalties_12 hc hs hp
set_option maxHeartbeats 1000000 in
theorem vL_setPenalties {l : Launch} {g : zG} (hl : l.stackTraces = false) {K : zK} {μ : zF} {x : Nat} {S S' : zMs} {r : Int32} {p2 : Int32} {p3 : Int32} {p4 : Int32} (h : zX8 K μ x S) (e : zot zc1 (zdo_setPenalties p2 p3 p4 S) S = (r, S')) : EL_setPenalties l g 3 18 [.ref x, .int p2, .int p3, .int p4] K μ (zAi r S' K μ x) := by
  refine nL_setPenalties hl (fun z hT hC hQ => ?_)
  refine eL_setPenalties_0 hC ?_
  refine eL_setPenalties_1 hC ?_
  refine eL_setPenalties_2 hC ?_
  refine eL_setPenalties_3 hC ?_
  refine eL_setPenalties_4 hC (Nat.le_of_ble_eq_true rfl) (Nat.le_of_ble_eq_true rfl) (Nat.le_of_ble_eq_true rfl) h.o (vX8_setPenalties hC.nt h) (fun E K1 μ1 hx => ?_) (zk_rp (fun r1 S1 K1 μ1 e1 e2 e3 e4 => ?_))
  · obtain rfl := zxo_setPenalties hx.1
    refine ⟨8, zHd.a0 hC hT (by decide +kernel) (List.mem_cons_of_mem _ zw_393) (by decide) (by decide), fun q => ?_⟩
    refine eL_setPenalties_8 hC ?_
    refine eL_setPenalties_10 hC ?_
    exact eL_setPenalties_12 hC hQ (Nat.le_of_ble_eq_true rfl) (Nat.le_of_ble_eq_true rfl) (zAi.ex e hx (by decide +kernel))
  · exact eL_setPenalties_7 hC hQ (Nat.le_of_ble_eq_true rfl) (Nat.le_of_ble_eq_true rfl) (zAi.ok e e1 e2 e3 e4)
end ZL_setPenalties
section ZL_setPage
abbrev hL_setPage (x : zX) (MC MS : Nat) : Prop := zH x (.codeWith yL_setPage cL_setPage 3 (some .int) [(0, 5, 6, 19)] :: wsL_law) RL cL_setPage 3 8 134 MC MS
abbrev EL_setPage (l : Launch) (g : zG) (mc ms : Nat) (As : List Value) (K : zK) (μ : zF) (P : Option Value → zK → zF → Prop) : Prop := zEv l g yL_setPage (.codeWith yL_setPage cL_setPage 3 (some .int) [(0, 5, 6, 19)] :: wsL_law) 8 134 mc ms As K μ P
abbrev QL_setPage (l : Launch) (g : zG) (mc ms : Nat) (As : List Value) (K : zK) (μ : zF) (P : Option Value → zK → zF → Prop) (PX : String → zK → zF → Prop) : Prop := zEx l g yL_setPage (.codeWith yL_setPage cL_setPage 3 (some .int) [(0, 5, 6, 19)] :: wsL_law) 8 134 mc ms As K μ P PX
theorem nL_setPage {l : Launch} {g : zG} {mc ms : Nat} {p1 : Nat} {p2 : Int32} {K : zK} {μ : zF} {P : Option Value → zK → zF → Prop} (hl : l.stackTraces = false) (body : ∀ x : zX, zTb x [(0, 5, 6, 19)] → hL_setPage x mc ms → zQg x (some .int) P mc ms → zV x 0 0 0 [some (.ref p1), some (.int p2), none] [] K μ) : EL_setPage l g mc ms [.ref p1, .int p2] K μ P := zEv.ofW hl (by decide) rfl (Nat.le_of_ble_eq_true rfl) (fun x _ _ => body x)
theorem eL_setPage_0 {x : zX} {MC MS cs sl : Nat} {st : List Value} {K : zK} {μ : zF} {l1 l2 : Option Value} {a : Nat} (hC : hL_setPage x MC MS) (k : zV x cs sl 1 [some (.ref a), l1, l2] (.ref a :: st) K μ) : zV x cs sl 0 [some (.ref a), l1, l2] st K μ := zv_aload_n hC dL_setPage_0 rfl rfl k
theorem eL_setPage_1 {x : zX} {MC MS cs sl : Nat} {st : List Value} {K : zK} {μ : zF} {l0 l2 : Option Value} {v : Int32} (hC : hL_setPage x MC MS) (k : zV x cs sl 2 [l0, some (.int v), l2] (.int v :: st) K μ) : zV x cs sl 1 [l0, some (.int v), l2] st K μ := zv_iload_n hC dL_setPage_1 rfl rfl k
theorem eL_setPage_2 {x : zX} {MC MS cs sl : Nat} {st : List Value} {K : zK} {μ : zF} {l0 l1 l2 : Option Value} {b : Nat} {q1 : Value} {P : Option Value → zK → zF → Prop} {mc ms : Nat} {PX : String → zK → zF → Prop} (hC : hL_setPage x MC MS) (hcat : (st.map fun v => v.category).sum ≤ 8) (hcm : cs + mc ≤ MC) (hsm : sl + ms ≤ MS) (hO : zO K b 8) (hE : QX8_setPage (xl x) (xg x) mc ms [.ref b, q1] K μ P PX) (kx : ∀ (E : String) (K1 : zK) (μ1 : zF), PX E K1 μ1 → ∃ h, zHd x RL 2 E h ∧ ∀ q, zV x (cs + mc) (sl + ms) h [l0, l1, l2] [.ref q] K1 μ1) (kk : ∀ (v : Option Value) (K1 : zK) (μ1 : zF), P v K1 μ1 → zV x (cs + mc) (sl + ms) 5 [l0, l1, l2] (v.toList ++ st) K1 μ1) : zV x cs sl 2 [l0, l1, l2] (q1 :: .ref b :: st) K μ := zct_V hC (zgV zw_500 zw_501 zw_502 zw_2 zw_503) rfl (by decide +kernel) ⟨Nat.le_of_ble_eq_true rfl, Nat.le_of_ble_eq_true rfl⟩ (ci := 8) rfl rfl (by decide) (n := 1) (As := [q1]) rfl dL_setPage_2 rfl rfl hcat hcm hsm hO hE kx kk
theorem eL_setPage_5 {x : zX} {MC MS cs sl : Nat} {K : zK} {μ : zF} {l0 l1 l2 : Option Value} {v : Int32} {P : Option Value → zK → zF → Prop} {mc ms : Nat} (hC : hL_setPage x MC MS) (hQ : zQg x (some .int) P mc ms) (hc : cs ≤ mc) (hs : sl ≤ ms) (hp : P (some (.int v)) K μ) : zV x cs sl 5 [l0, l1, l2] [.int v] K μ := zr_i hC hQ dL_setPage_5 hc hs hp
theorem eL_setPage_6 {x : zX} {MC MS cs sl : Nat} {st : List Value} {K : zK} {μ : zF} {l0 l2 : Option Value} {v : Nat} {u : Int32} (hC : hL_setPage x MC MS) (k : zV x cs sl 7 [l0, some (.int u), some (.ref v)] st K μ) : zV x cs sl 6 [l0, some (.int u), l2] (.ref v :: st) K μ := zv_astore_n hC dL_setPage_6 rfl rfl (Nat.le_of_ble_eq_true rfl) rfl k
theorem eL_setPage_7 {x : zX} {MC MS cs sl : Nat} {st : List Value} {K : zK} {μ : zF} {l0 l1 l2 : Option Value} (hC : hL_setPage x MC MS) (k : zV x cs sl 9 [l0, l1, l2] (.int (-1000001) :: st) K μ) : zV x cs sl 7 [l0, l1, l2] st K μ := zv_ldc hC (List.mem_cons_of_mem _ zw_235) dL_setPage_7 k
theorem eL_setPage_9 {x : zX} {MC MS cs sl : Nat} {K : zK} {μ : zF} {l0 l1 l2 : Option Value} {v : Int32} {P : Option Value → zK → zF → Prop} {mc ms : Nat} (hC : hL_setPage x MC MS) (hQ : zQg x (some .int) P mc ms) (hc : cs ≤ mc) (hs : sl ≤ ms) (hp : P (some (.int v)) K μ) : zV x cs sl 9 [l0, l1, l2] [.int v] K μ := zr_i hC hQ dL_setPage_9 hc hs hp
set_option maxHeartbeats 1000000 in
theorem vL_setPage {l : Launch} {g : zG} (hl : l.stackTraces = false) {K : zK} {μ : zF} {x : Nat} {S S' : zMs} {r : Int32} {p2 : Int32} (h : zX8 K μ x S) (e : zot zc1 (zdo_setPage p2 S) S = (r, S')) : EL_setPage l g 1 6 [.ref x, .int p2] K μ (zAi r S' K μ x) := by
  refine nL_setPage hl (fun z hT hC hQ => ?_)
  refine eL_setPage_0 hC ?_
  refine eL_setPage_1 hC ?_
  refine eL_setPage_2 hC (Nat.le_of_ble_eq_true rfl) (Nat.le_of_ble_eq_true rfl) (Nat.le_of_ble_eq_true rfl) h.o (vX8_setPage hC.nt h) (fun E K1 μ1 hx => ?_) (zk_rp (fun r1 S1 K1 μ1 e1 e2 e3 e4 => ?_))
  · obtain rfl := zxo_setPage hx.1
    refine ⟨6, zHd.a0 hC hT (by decide +kernel) (List.mem_cons_of_mem _ zw_393) (by decide) (by decide), fun q => ?_⟩
    refine eL_setPage_6 hC ?_
    refine eL_setPage_7 hC ?_
    exact eL_setPage_9 hC hQ (Nat.le_of_ble_eq_true rfl) (Nat.le_of_ble_eq_true rfl) (zAi.ex e hx (by decide +kernel))
  · exact eL_setPage_5 hC hQ (Nat.le_of_ble_eq_true rfl) (Nat.le_of_ble_eq_true rfl) (zAi.ok e e1 e2 e3 e4)
end ZL_setPage
section ZL_lineOf
abbrev hL_lineOf (x : zX) (MC MS : Nat) : Prop := zH x (.codeWith yL_lineOf cL_lineOf 3 (some .int) [(0, 5, 6, 16)] :: wsL_law) RL cL_lineOf 3 8 164 MC MS
abbrev EL_lineOf (l : Launch) (g : zG) (mc ms : Nat) (As : List Value) (K : zK) (μ : zF) (P : Option Value → zK → zF → Prop) : Prop := zEv l g yL_lineOf (.codeWith yL_lineOf cL_lineOf 3 (some .int) [(0, 5, 6, 16)] :: wsL_law) 8 164 mc ms As K μ P
abbrev QL_lineOf (l : Launch) (g : zG) (mc ms : Nat) (As : List Value) (K : zK) (μ : zF) (P : Option Value → zK → zF → Prop) (PX : String → zK → zF → Prop) : Prop := zEx l g yL_lineOf (.codeWith yL_lineOf cL_lineOf 3 (some .int) [(0, 5, 6, 16)] :: wsL_law) 8 164 mc ms As K μ P PX
theorem nL_lineOf {l : Launch} {g : zG} {mc ms : Nat} {p1 : Nat} {p2 : Int32} {K : zK} {μ : zF} {P : Option Value → zK → zF → Prop} (hl : l.stackTraces = false) (body : ∀ x : zX, zTb x [(0, 5, 6, 16)] → hL_lineOf x mc ms → zQg x (some .int) P mc ms → zV x 0 0 0 [some (.ref p1), some (.int p2), none] [] K μ) : EL_lineOf l g mc ms [.ref p1, .int p2] K μ P := zEv.ofW hl (by decide) rfl (Nat.le_of_ble_eq_true rfl) (fun x _ _ => body x)
theorem eL_lineOf_0 {x : zX} {MC MS cs sl : Nat} {st : List Value} {K : zK} {μ : zF} {l1 l2 : Option Value} {a : Nat} (hC : hL_lineOf x MC MS) (k : zV x cs sl 1 [some (.ref a), l1, l2] (.ref a :: st) K μ) : zV x cs sl 0 [some (.ref a), l1, l2] st K μ := zv_aload_n hC dL_lineOf_0 rfl rfl k
theorem eL_lineOf_1 {x : zX} {MC MS cs sl : Nat} {st : List Value} {K : zK} {μ : zF} {l0 l2 : Option Value} {v : Int32} (hC : hL_lineOf x MC MS) (k : zV x cs sl 2 [l0, some (.int v), l2] (.int v :: st) K μ) : zV x cs sl 1 [l0, some (.int v), l2] st K μ := zv_iload_n hC dL_lineOf_1 rfl rfl k
theorem eL_lineOf_2 {x : zX} {MC MS cs sl : Nat} {st : List Value} {K : zK} {μ : zF} {l0 l1 l2 : Option Value} {b : Nat} {q1 : Value} {P : Option Value → zK → zF → Prop} {mc ms : Nat} {PX : String → zK → zF → Prop} (hC : hL_lineOf x MC MS) (hcat : (st.map fun v => v.category).sum ≤ 8) (hcm : cs + mc ≤ MC) (hsm : sl + ms ≤ MS) (hO : zO K b 8) (hE : QX8_lineOf (xl x) (xg x) mc ms [.ref b, q1] K μ P PX) (kx : ∀ (E : String) (K1 : zK) (μ1 : zF), PX E K1 μ1 → ∃ h, zHd x RL 2 E h ∧ ∀ q, zV x (cs + mc) (sl + ms) h [l0, l1, l2] [.ref q] K1 μ1) (kk : ∀ (v : Option Value) (K1 : zK) (μ1 : zF), P v K1 μ1 → zV x (cs + mc) (sl + ms) 5 [l0, l1, l2] (v.toList ++ st) K1 μ1) : zV x cs sl 2 [l0, l1, l2] (q1 :: .ref b :: st) K μ := zct_V hC (zgV zw_249 zw_250 zw_251 zw_2 zw_252) rfl (by decide +kernel) ⟨Nat.le_of_ble_eq_true rfl, Nat.le_of_ble_eq_true rfl⟩ (ci := 8) rfl rfl (by decide) (n := 1) (As := [q1]) rfl dL_lineOf_2 rfl rfl hcat hcm hsm hO hE kx kk
theorem eL_lineOf_5 {x : zX} {MC MS cs sl : Nat} {K : zK} {μ : zF} {l0 l1 l2 : Option Value} {v : Int32} {P : Option Value → zK → zF → Prop} {mc ms : Nat} (hC : hL_lineOf x MC MS) (hQ : zQg x (some .int) P mc ms) (hc : cs ≤ mc) (hs : sl ≤ ms) (hp : P (some (.int v)) K μ) : zV x cs sl 5 [l0, l1, l2] [.int v] K μ := zr_i hC hQ dL_lineOf_5 hc hs hp
theorem eL_lineOf_6 {x : zX} {MC MS cs sl : Nat} {st : List Value} {K : zK} {μ : zF} {l0 l2 : Option Value} {v : Nat} {u : Int32} (hC : hL_lineOf x MC MS) (k : zV x cs sl 7 [l0, some (.int u), some (.ref v)] st K μ) : zV x cs sl 6 [l0, some (.int u), l2] (.ref v :: st) K μ := zv_astore_n hC dL_lineOf_6 rfl rfl (Nat.le_of_ble_eq_true rfl) rfl k
theorem eL_lineOf_7 {x : zX} {MC MS cs sl : Nat} {st : List Value} {K : zK} {μ : zF} {l0 l1 l2 : Option Value} (hC : hL_lineOf x MC MS) (k : zV x cs sl 9 [l0, l1, l2] (.int (-1000001) :: st) K μ) : zV x cs sl 7 [l0, l1, l2] st K μ := zv_ldc hC (List.mem_cons_of_mem _ zw_235) dL_lineOf_7 k
theorem eL_lineOf_9 {x : zX} {MC MS cs sl : Nat} {K : zK} {μ : zF} {l0 l1 l2 : Option Value} {v : Int32} {P : Option Value → zK → zF → Prop} {mc ms : Nat} (hC : hL_lineOf x MC MS) (hQ : zQg x (some .int) P mc ms) (hc : cs ≤ mc) (hs : sl ≤ ms) (hp : P (some (.int v)) K μ) : zV x cs sl 9 [l0, l1, l2] [.int v] K μ := zr_i hC hQ dL_lineOf_9 hc hs hp
set_option maxHeartbeats 1000000 in
theorem vL_lineOf {l : Launch} {g : zG} (hl : l.stackTraces = false) {K : zK} {μ : zF} {x : Nat} {S S' : zMs} {r : Int32} {p2 : Int32} (h : zX8 K μ x S) (e : zot zc1 (zdo_lineOf p2 S) S = (r, S')) : EL_lineOf l g 1 6 [.ref x, .int p2] K μ (zAi r S' K μ x) := by
  refine nL_lineOf hl (fun z hT hC hQ => ?_)
  refine eL_lineOf_0 hC ?_
  refine eL_lineOf_1 hC ?_
  refine eL_lineOf_2 hC (Nat.le_of_ble_eq_true rfl) (Nat.le_of_ble_eq_true rfl) (Nat.le_of_ble_eq_true rfl) h.o (vX8_lineOf hC.nt h) (fun E K1 μ1 hx => ?_) (zk_rp (fun r1 S1 K1 μ1 e1 e2 e3 e4 => ?_))
  · obtain rfl := zxo_lineOf hx.1
    refine ⟨6, zHd.a0 hC hT (by decide +kernel) (List.mem_cons_of_mem _ zw_234) (by decide) (by decide), fun q => ?_⟩
    refine eL_lineOf_6 hC ?_
    refine eL_lineOf_7 hC ?_
    exact eL_lineOf_9 hC hQ (Nat.le_of_ble_eq_true rfl) (Nat.le_of_ble_eq_true rfl) (zAi.ex e hx (by decide +kernel))
  · exact eL_lineOf_5 hC hQ (Nat.le_of_ble_eq_true rfl) (Nat.le_of_ble_eq_true rfl) (zAi.ok e e1 e2 e3 e4)
end ZL_lineOf
section ZL_firstWord
abbrev hL_firstWord (x : zX) (MC MS : Nat) : Prop := zH x (.codeWith yL_firstWord cL_firstWord 3 (some .int) [(0, 5, 6, 16)] :: wsL_law) RL cL_firstWord 3 8 164 MC MS
abbrev EL_firstWord (l : Launch) (g : zG) (mc ms : Nat) (As : List Value) (K : zK) (μ : zF) (P : Option Value → zK → zF → Prop) : Prop := zEv l g yL_firstWord (.codeWith yL_firstWord cL_firstWord 3 (some .int) [(0, 5, 6, 16)] :: wsL_law) 8 164 mc ms As K μ P
abbrev QL_firstWord (l : Launch) (g : zG) (mc ms : Nat) (As : List Value) (K : zK) (μ : zF) (P : Option Value → zK → zF → Prop) (PX : String → zK → zF → Prop) : Prop := zEx l g yL_firstWord (.codeWith yL_firstWord cL_firstWord 3 (some .int) [(0, 5, 6, 16)] :: wsL_law) 8 164 mc ms As K μ P PX
theorem nL_firstWord {l : Launch} {g : zG} {mc ms : Nat} {p1 : Nat} {p2 : Int32} {K : zK} {μ : zF} {P : Option Value → zK → zF → Prop} (hl : l.stackTraces = false) (body : ∀ x : zX, zTb x [(0, 5, 6, 16)] → hL_firstWord x mc ms → zQg x (some .int) P mc ms → zV x 0 0 0 [some (.ref p1), some (.int p2), none] [] K μ) : EL_firstWord l g mc ms [.ref p1, .int p2] K μ P := zEv.ofW hl (by decide) rfl (Nat.le_of_ble_eq_true rfl) (fun x _ _ => body x)
theorem eL_firstWord_0 {x : zX} {MC MS cs sl : Nat} {st : List Value} {K : zK} {μ : zF} {l1 l2 : Option Value} {a : Nat} (hC : hL_firstWord x MC MS) (k : zV x cs sl 1 [some (.ref a), l1, l2] (.ref a :: st) K μ) : zV x cs sl 0 [some (.ref a), l1, l2] st K μ := zv_aload_n hC dL_firstWord_0 rfl rfl k
theorem eL_firstWord_1 {x : zX} {MC MS cs sl : Nat} {st : List Value} {K : zK} {μ : zF} {l0 l2 : Option Value} {v : Int32} (hC : hL_firstWord x MC MS) (k : zV x cs sl 2 [l0, some (.int v), l2] (.int v :: st) K μ) : zV x cs sl 1 [l0, some (.int v), l2] st K μ := zv_iload_n hC dL_firstWord_1 rfl rfl k
theorem eL_firstWord_2 {x : zX} {MC MS cs sl : Nat} {st : List Value} {K : zK} {μ : zF} {l0 l1 l2 : Option Value} {b : Nat} {q1 : Value} {P : Option Value → zK → zF → Prop} {mc ms : Nat} {PX : String → zK → zF → Prop} (hC : hL_firstWord x MC MS) (hcat : (st.map fun v => v.category).sum ≤ 8) (hcm : cs + mc ≤ MC) (hsm : sl + ms ≤ MS) (hO : zO K b 8) (hE : QX8_firstWord (xl x) (xg x) mc ms [.ref b, q1] K μ P PX) (kx : ∀ (E : String) (K1 : zK) (μ1 : zF), PX E K1 μ1 → ∃ h, zHd x RL 2 E h ∧ ∀ q, zV x (cs + mc) (sl + ms) h [l0, l1, l2] [.ref q] K1 μ1) (kk : ∀ (v : Option Value) (K1 : zK) (μ1 : zF), P v K1 μ1 → zV x (cs + mc) (sl + ms) 5 [l0, l1, l2] (v.toList ++ st) K1 μ1) : zV x cs sl 2 [l0, l1, l2] (q1 :: .ref b :: st) K μ := zct_V hC (zgV zw_236 zw_237 zw_238 zw_2 zw_239) rfl (by decide +kernel) ⟨Nat.le_of_ble_eq_true rfl, Nat.le_of_ble_eq_true rfl⟩ (ci := 8) rfl rfl (by decide) (n := 1) (As := [q1]) rfl dL_firstWord_2 rfl rfl hcat hcm hsm hO hE kx kk
theorem eL_firstWord_5 {x : zX} {MC MS cs sl : Nat} {K : zK} {μ : zF} {l0 l1 l2 : Option Value} {v : Int32} {P : Option Value → zK → zF → Prop} {mc ms : Nat} (hC : hL_firstWord x MC MS) (hQ : zQg x (some .int) P mc ms) (hc : cs ≤ mc) (hs : sl ≤ ms) (hp : P (some (.int v)) K μ) : zV x cs sl 5 [l0, l1, l2] [.int v] K μ := zr_i hC hQ dL_firstWord_5 hc hs hp
theorem eL_firstWord_6 {x : zX} {MC MS cs sl : Nat} {st : List Value} {K : zK} {μ : zF} {l0 l2 : Option Value} {v : Nat} {u : Int32} (hC : hL_firstWord x MC MS) (k : zV x cs sl 7 [l0, some (.int u), some (.ref v)] st K μ) : zV x cs sl 6 [l0, some (.int u), l2] (.ref v :: st) K μ := zv_astore_n hC dL_firstWord_6 rfl rfl (Nat.le_of_ble_eq_true rfl) rfl k
theorem eL_firstWord_7 {x : zX} {MC MS cs sl : Nat} {st : List Value} {K : zK} {μ : zF} {l0 l1 l2 : Option Value} (hC : hL_firstWord x MC MS) (k : zV x cs sl 9 [l0, l1, l2] (.int (-1000001) :: st) K μ) : zV x cs sl 7 [l0, l1, l2] st K μ := zv_ldc hC (List.mem_cons_of_mem _ zw_235) dL_firstWord_7 k
theorem eL_firstWord_9 {x : zX} {MC MS cs sl : Nat} {K : zK} {μ : zF} {l0 l1 l2 : Option Value} {v : Int32} {P : Option Value → zK → zF → Prop} {mc ms : Nat} (hC : hL_firstWord x MC MS) (hQ : zQg x (some .int) P mc ms) (hc : cs ≤ mc) (hs : sl ≤ ms) (hp : P (some (.int v)) K μ) : zV x cs sl 9 [l0, l1, l2] [.int v] K μ := zr_i hC hQ dL_firstWord_9 hc hs hp
set_option maxHeartbeats 1000000 in
theorem vL_firstWord {l : Launch} {g : zG} (hl : l.stackTraces = false) {K : zK} {μ : zF} {x : Nat} {S S' : zMs} {r : Int32} {p2 : Int32} (h : zX8 K μ x S) (e : zot zc1 (zdo_firstWord p2 S) S = (r, S')) : EL_firstWord l g 1 6 [.ref x, .int p2] K μ (zAi r S' K μ x) := by
  refine nL_firstWord hl (fun z hT hC hQ => ?_)
  refine eL_firstWord_0 hC ?_
  refine eL_firstWord_1 hC ?_
  refine eL_firstWord_2 hC (Nat.le_of_ble_eq_true rfl) (Nat.le_of_ble_eq_true rfl) (Nat.le_of_ble_eq_true rfl) h.o (vX8_firstWord hC.nt h) (fun E K1 μ1 hx => ?_) (zk_rp (fun r1 S1 K1 μ1 e1 e2 e3 e4 => ?_))
  · obtain rfl := zxo_firstWord hx.1
    refine ⟨6, zHd.a0 hC hT (by decide +kernel) (List.mem_cons_of_mem _ zw_234) (by decide) (by decide), fun q => ?_⟩
    refine eL_firstWord_6 hC ?_
    refine eL_firstWord_7 hC ?_
    exact eL_firstWord_9 hC hQ (Nat.le_of_ble_eq_true rfl) (Nat.le_of_ble_eq_true rfl) (zAi.ex e hx (by decide +kernel))
  · exact eL_firstWord_5 hC hQ (Nat.le_of_ble_eq_true rfl) (Nat.le_of_ble_eq_true rfl) (zAi.ok e e1 e2 e3 e4)
end ZL_firstWord
section ZL_lineWidth
abbrev hL_lineWidth (x : zX) (MC MS : Nat) : Prop := zH x (.codeWith yL_lineWidth cL_lineWidth 3 (some .int) [(0, 5, 6, 16)] :: wsL_law) RL cL_lineWidth 3 8 164 MC MS
abbrev EL_lineWidth (l : Launch) (g : zG) (mc ms : Nat) (As : List Value) (K : zK) (μ : zF) (P : Option Value → zK → zF → Prop) : Prop := zEv l g yL_lineWidth (.codeWith yL_lineWidth cL_lineWidth 3 (some .int) [(0, 5, 6, 16)] :: wsL_law) 8 164 mc ms As K μ P
abbrev QL_lineWidth (l : Launch) (g : zG) (mc ms : Nat) (As : List Value) (K : zK) (μ : zF) (P : Option Value → zK → zF → Prop) (PX : String → zK → zF → Prop) : Prop := zEx l g yL_lineWidth (.codeWith yL_lineWidth cL_lineWidth 3 (some .int) [(0, 5, 6, 16)] :: wsL_law) 8 164 mc ms As K μ P PX
theorem nL_lineWidth {l : Launch} {g : zG} {mc ms : Nat} {p1 : Nat} {p2 : Int32} {K : zK} {μ : zF} {P : Option Value → zK → zF → Prop} (hl : l.stackTraces = false) (body : ∀ x : zX, zTb x [(0, 5, 6, 16)] → hL_lineWidth x mc ms → zQg x (some .int) P mc ms → zV x 0 0 0 [some (.ref p1), some (.int p2), none] [] K μ) : EL_lineWidth l g mc ms [.ref p1, .int p2] K μ P := zEv.ofW hl (by decide) rfl (Nat.le_of_ble_eq_true rfl) (fun x _ _ => body x)
theorem eL_lineWidth_0 {x : zX} {MC MS cs sl : Nat} {st : List Value} {K : zK} {μ : zF} {l1 l2 : Option Value} {a : Nat} (hC : hL_lineWidth x MC MS) (k : zV x cs sl 1 [some (.ref a), l1, l2] (.ref a :: st) K μ) : zV x cs sl 0 [some (.ref a), l1, l2] st K μ := zv_aload_n hC dL_lineWidth_0 rfl rfl k
theorem eL_lineWidth_1 {x : zX} {MC MS cs sl : Nat} {st : List Value} {K : zK} {μ : zF} {l0 l2 : Option Value} {v : Int32} (hC : hL_lineWidth x MC MS) (k : zV x cs sl 2 [l0, some (.int v), l2] (.int v :: st) K μ) : zV x cs sl 1 [l0, some (.int v), l2] st K μ := zv_iload_n hC dL_lineWidth_1 rfl rfl k
theorem eL_lineWidth_2 {x : zX} {MC MS cs sl : Nat} {st : List Value} {K : zK} {μ : zF} {l0 l1 l2 : Option Value} {b : Nat} {q1 : Value} {P : Option Value → zK → zF → Prop} {mc ms : Nat} {PX : String → zK → zF → Prop} (hC : hL_lineWidth x MC MS) (hcat : (st.map fun v => v.category).sum ≤ 8) (hcm : cs + mc ≤ MC) (hsm : sl + ms ≤ MS) (hO : zO K b 8) (hE : QX8_lineWidth (xl x) (xg x) mc ms [.ref b, q1] K μ P PX) (kx : ∀ (E : String) (K1 : zK) (μ1 : zF), PX E K1 μ1 → ∃ h, zHd x RL 2 E h ∧ ∀ q, zV x (cs + mc) (sl + ms) h [l0, l1, l2] [.ref q] K1 μ1) (kk : ∀ (v : Option Value) (K1 : zK) (μ1 : zF), P v K1 μ1 → zV x (cs + mc) (sl + ms) 5 [l0, l1, l2] (v.toList ++ st) K1 μ1) : zV x cs sl 2 [l0, l1, l2] (q1 :: .ref b :: st) K μ := zct_V hC (zgV zw_285 zw_286 zw_287 zw_2 zw_288) rfl (by decide +kernel) ⟨Nat.le_of_ble_eq_true rfl, Nat.le_of_ble_eq_true rfl⟩ (ci := 8) rfl rfl (by decide) (n := 1) (As := [q1]) rfl dL_lineWidth_2 rfl rfl hcat hcm hsm hO hE kx kk
theorem eL_lineWidth_5 {x : zX} {MC MS cs sl : Nat} {K : zK} {μ : zF} {l0 l1 l2 : Option Value} {v : Int32} {P : Option Value → zK → zF → Prop} {mc ms : Nat} (hC : hL_lineWidth x MC MS) (hQ : zQg x (some .int) P mc ms) (hc : cs ≤ mc) (hs : sl ≤ ms) (hp : P (some (.int v)) K μ) : zV x cs sl 5 [l0, l1, l2] [.int v] K μ := zr_i hC hQ dL_lineWidth_5 hc hs hp
theorem eL_lineWidth_6 {x : zX} {MC MS cs sl : Nat} {st : List Value} {K : zK} {μ : zF} {l0 l2 : Option Value} {v : Nat} {u : Int32} (hC : hL_lineWidth x MC MS) (k : zV x cs sl 7 [l0, some (.int u), some (.ref v)] st K μ) : zV x cs sl 6 [l0, some (.int u), l2] (.ref v :: st) K μ := zv_astore_n hC dL_lineWidth_6 rfl rfl (Nat.le_of_ble_eq_true rfl) rfl k
theorem eL_lineWidth_7 {x : zX} {MC MS cs sl : Nat} {st : List Value} {K : zK} {μ : zF} {l0 l1 l2 : Option Value} (hC : hL_lineWidth x MC MS) (k : zV x cs sl 9 [l0, l1, l2] (.int (-1000001) :: st) K μ) : zV x cs sl 7 [l0, l1, l2] st K μ := zv_ldc hC (List.mem_cons_of_mem _ zw_235) dL_lineWidth_7 k
theorem eL_lineWidth_9 {x : zX} {MC MS cs sl : Nat} {K : zK} {μ : zF} {l0 l1 l2 : Option Value} {v : Int32} {P : Option Value → zK → zF → Prop} {mc ms : Nat} (hC : hL_lineWidth x MC MS) (hQ : zQg x (some .int) P mc ms) (hc : cs ≤ mc) (hs : sl ≤ ms) (hp : P (some (.int v)) K μ) : zV x cs sl 9 [l0, l1, l2] [.int v] K μ := zr_i hC hQ dL_lineWidth_9 hc hs hp
set_option maxHeartbeats 1000000 in
theorem vL_lineWidth {l : Launch} {g : zG} (hl : l.stackTraces = false) {K : zK} {μ : zF} {x : Nat} {S S' : zMs} {r : Int32} {p2 : Int32} (h : zX8 K μ x S) (e : zot zc1 (zdo_lineWidth p2 S) S = (r, S')) : EL_lineWidth l g 1 6 [.ref x, .int p2] K μ (zAi r S' K μ x) := by
  refine nL_lineWidth hl (fun z hT hC hQ => ?_)
  refine eL_lineWidth_0 hC ?_
  refine eL_lineWidth_1 hC ?_
  refine eL_lineWidth_2 hC (Nat.le_of_ble_eq_true rfl) (Nat.le_of_ble_eq_true rfl) (Nat.le_of_ble_eq_true rfl) h.o (vX8_lineWidth hC.nt h) (fun E K1 μ1 hx => ?_) (zk_rp (fun r1 S1 K1 μ1 e1 e2 e3 e4 => ?_))
  · obtain rfl := zxo_lineWidth hx.1
    refine ⟨6, zHd.a0 hC hT (by decide +kernel) (List.mem_cons_of_mem _ zw_234) (by decide) (by decide), fun q => ?_⟩
    refine eL_lineWidth_6 hC ?_
    refine eL_lineWidth_7 hC ?_
    exact eL_lineWidth_9 hC hQ (Nat.le_of_ble_eq_true rfl) (Nat.le_of_ble_eq_true rfl) (zAi.ex e hx (by decide +kernel))
  · exact eL_lineWidth_5 hC hQ (Nat.le_of_ble_eq_true rfl) (Nat.le_of_ble_eq_true rfl) (zAi.ok e e1 e2 e3 e4)
end ZL_lineWidth
section ZL_stairAt
abbrev hL_stairAt (x : zX) (MC MS : Nat) : Prop := zH x (.codeWith yL_stairAt cL_stairAt 3 (some .int) [(0, 5, 6, 16)] :: wsL_law) RL cL_stairAt 3 8 164 MC MS
abbrev EL_stairAt (l : Launch) (g : zG) (mc ms : Nat) (As : List Value) (K : zK) (μ : zF) (P : Option Value → zK → zF → Prop) : Prop := zEv l g yL_stairAt (.codeWith yL_stairAt cL_stairAt 3 (some .int) [(0, 5, 6, 16)] :: wsL_law) 8 164 mc ms As K μ P
abbrev QL_stairAt (l : Launch) (g : zG) (mc ms : Nat) (As : List Value) (K : zK) (μ : zF) (P : Option Value → zK → zF → Prop) (PX : String → zK → zF → Prop) : Prop := zEx l g yL_stairAt (.codeWith yL_stairAt cL_stairAt 3 (some .int) [(0, 5, 6, 16)] :: wsL_law) 8 164 mc ms As K μ P PX
theorem nL_stairAt {l : Launch} {g : zG} {mc ms : Nat} {p1 : Nat} {p2 : Int32} {K : zK} {μ : zF} {P : Option Value → zK → zF → Prop} (hl : l.stackTraces = false) (body : ∀ x : zX, zTb x [(0, 5, 6, 16)] → hL_stairAt x mc ms → zQg x (some .int) P mc ms → zV x 0 0 0 [some (.ref p1), some (.int p2), none] [] K μ) : EL_stairAt l g mc ms [.ref p1, .int p2] K μ P := zEv.ofW hl (by decide) rfl (Nat.le_of_ble_eq_true rfl) (fun x _ _ => body x)
theorem eL_stairAt_0 {x : zX} {MC MS cs sl : Nat} {st : List Value} {K : zK} {μ : zF} {l1 l2 : Option Value} {a : Nat} (hC : hL_stairAt x MC MS) (k : zV x cs sl 1 [some (.ref a), l1, l2] (.ref a :: st) K μ) : zV x cs sl 0 [some (.ref a), l1, l2] st K μ := zv_aload_n hC dL_stairAt_0 rfl rfl k
theorem eL_stairAt_1 {x : zX} {MC MS cs sl : Nat} {st : List Value} {K : zK} {μ : zF} {l0 l2 : Option Value} {v : Int32} (hC : hL_stairAt x MC MS) (k : zV x cs sl 2 [l0, some (.int v), l2] (.int v :: st) K μ) : zV x cs sl 1 [l0, some (.int v), l2] st K μ := zv_iload_n hC dL_stairAt_1 rfl rfl k
theorem eL_stairAt_2 {x : zX} {MC MS cs sl : Nat} {st : List Value} {K : zK} {μ : zF} {l0 l1 l2 : Option Value} {b : Nat} {q1 : Value} {P : Option Value → zK → zF → Prop} {mc ms : Nat} {PX : String → zK → zF → Prop} (hC : hL_stairAt x MC MS) (hcat : (st.map fun v => v.category).sum ≤ 8) (hcm : cs + mc ≤ MC) (hsm : sl + ms ≤ MS) (hO : zO K b 8) (hE : QX8_stairAt (xl x) (xg x) mc ms [.ref b, q1] K μ P PX) (kx : ∀ (E : String) (K1 : zK) (μ1 : zF), PX E K1 μ1 → ∃ h, zHd x RL 2 E h ∧ ∀ q, zV x (cs + mc) (sl + ms) h [l0, l1, l2] [.ref q] K1 μ1) (kk : ∀ (v : Option Value) (K1 : zK) (μ1 : zF), P v K1 μ1 → zV x (cs + mc) (sl + ms) 5 [l0, l1, l2] (v.toList ++ st) K1 μ1) : zV x cs sl 2 [l0, l1, l2] (q1 :: .ref b :: st) K μ := zct_V hC (zgV zw_296 zw_297 zw_298 zw_2 zw_299) rfl (by decide +kernel) ⟨Nat.le_of_ble_eq_true rfl, Nat.le_of_ble_eq_true rfl⟩ (ci := 8) rfl rfl (by decide) (n := 1) (As := [q1]) rfl dL_stairAt_2 rfl rfl hcat hcm hsm hO hE kx kk
theorem eL_stairAt_5 {x : zX} {MC MS cs sl : Nat} {K : zK} {μ : zF} {l0 l1 l2 : Option Value} {v : Int32} {P : Option Value → zK → zF → Prop} {mc ms : Nat} (hC : hL_stairAt x MC MS) (hQ : zQg x (some .int) P mc ms) (hc : cs ≤ mc) (hs : sl ≤ ms) (hp : P (some (.int v)) K μ) : zV x cs sl 5 [l0, l1, l2] [.int v] K μ := zr_i hC hQ dL_stairAt_5 hc hs hp
theorem eL_stairAt_6 {x : zX} {MC MS cs sl : Nat} {st : List Value} {K : zK} {μ : zF} {l0 l2 : Option Value} {v : Nat} {u : Int32} (hC : hL_stairAt x MC MS) (k : zV x cs sl 7 [l0, some (.int u), some (.ref v)] st K μ) : zV x cs sl 6 [l0, some (.int u), l2] (.ref v :: st) K μ := zv_astore_n hC dL_stairAt_6 rfl rfl (Nat.le_of_ble_eq_true rfl) rfl k
theorem eL_stairAt_7 {x : zX} {MC MS cs sl : Nat} {st : List Value} {K : zK} {μ : zF} {l0 l1 l2 : Option Value} (hC : hL_stairAt x MC MS) (k : zV x cs sl 9 [l0, l1, l2] (.int (-1000001) :: st) K μ) : zV x cs sl 7 [l0, l1, l2] st K μ := zv_ldc hC (List.mem_cons_of_mem _ zw_235) dL_stairAt_7 k
theorem eL_stairAt_9 {x : zX} {MC MS cs sl : Nat} {K : zK} {μ : zF} {l0 l1 l2 : Option Value} {v : Int32} {P : Option Value → zK → zF → Prop} {mc ms : Nat} (hC : hL_stairAt x MC MS) (hQ : zQg x (some .int) P mc ms) (hc : cs ≤ mc) (hs : sl ≤ ms) (hp : P (some (.int v)) K μ) : zV x cs sl 9 [l0, l1, l2] [.int v] K μ := zr_i hC hQ dL_stairAt_9 hc hs hp
set_option maxHeartbeats 1000000 in
theorem vL_stairAt {l : Launch} {g : zG} (hl : l.stackTraces = false) {K : zK} {μ : zF} {x : Nat} {S S' : zMs} {r : Int32} {p2 : Int32} (h : zX8 K μ x S) (e : zot zc1 (zdo_stairAt p2 S) S = (r, S')) : EL_stairAt l g 1 6 [.ref x, .int p2] K μ (zAi r S' K μ x) := by
  refine nL_stairAt hl (fun z hT hC hQ => ?_)
  refine eL_stairAt_0 hC ?_
  refine eL_stairAt_1 hC ?_
  refine eL_stairAt_2 hC (Nat.le_of_ble_eq_true rfl) (Nat.le_of_ble_eq_true rfl) (Nat.le_of_ble_eq_true rfl) h.o (vX8_stairAt hC.nt h) (fun E K1 μ1 hx => ?_) (zk_rp (fun r1 S1 K1 μ1 e1 e2 e3 e4 => ?_))
  · obtain rfl := zxo_stairAt hx.1
    refine ⟨6, zHd.a0 hC hT (by decide +kernel) (List.mem_cons_of_mem _ zw_234) (by decide) (by decide), fun q => ?_⟩
    refine eL_stairAt_6 hC ?_
    refine eL_stairAt_7 hC ?_
    exact eL_stairAt_9 hC hQ (Nat.le_of_ble_eq_true rfl) (Nat.le_of_ble_eq_true rfl) (zAi.ex e hx (by decide +kernel))
  · exact eL_stairAt_5 hC hQ (Nat.le_of_ble_eq_true rfl) (Nat.le_of_ble_eq_true rfl) (zAi.ok e e1 e2 e3 e4)
end ZL_stairAt
section ZL_reason
abbrev hL_reason (x : zX) (MC MS : Nat) : Prop := zH x (.codeWith yL_reason cL_reason 3 (some .int) [(0, 5, 6, 16)] :: wsL_law) RL cL_reason 3 8 164 MC MS
abbrev EL_reason (l : Launch) (g : zG) (mc ms : Nat) (As : List Value) (K : zK) (μ : zF) (P : Option Value → zK → zF → Prop) : Prop := zEv l g yL_reason (.codeWith yL_reason cL_reason 3 (some .int) [(0, 5, 6, 16)] :: wsL_law) 8 164 mc ms As K μ P
abbrev QL_reason (l : Launch) (g : zG) (mc ms : Nat) (As : List Value) (K : zK) (μ : zF) (P : Option Value → zK → zF → Prop) (PX : String → zK → zF → Prop) : Prop := zEx l g yL_reason (.codeWith yL_reason cL_reason 3 (some .int) [(0, 5, 6, 16)] :: wsL_law) 8 164 mc ms As K μ P PX
theorem nL_reason {l : Launch} {g : zG} {mc ms : Nat} {p1 : Nat} {p2 : Int32} {K : zK} {μ : zF} {P : Option Value → zK → zF → Prop} (hl : l.stackTraces = false) (body : ∀ x : zX, zTb x [(0, 5, 6, 16)] → hL_reason x mc ms → zQg x (some .int) P mc ms → zV x 0 0 0 [some (.ref p1), some (.int p2), none] [] K μ) : EL_reason l g mc ms [.ref p1, .int p2] K μ P := zEv.ofW hl (by decide) rfl (Nat.le_of_ble_eq_true rfl) (fun x _ _ => body x)
theorem eL_reason_0 {x : zX} {MC MS cs sl : Nat} {st : List Value} {K : zK} {μ : zF} {l1 l2 : Option Value} {a : Nat} (hC : hL_reason x MC MS) (k : zV x cs sl 1 [some (.ref a), l1, l2] (.ref a :: st) K μ) : zV x cs sl 0 [some (.ref a), l1, l2] st K μ := zv_aload_n hC dL_reason_0 rfl rfl k
theorem eL_reason_1 {x : zX} {MC MS cs sl : Nat} {st : List Value} {K : zK} {μ : zF} {l0 l2 : Option Value} {v : Int32} (hC : hL_reason x MC MS) (k : zV x cs sl 2 [l0, some (.int v), l2] (.int v :: st) K μ) : zV x cs sl 1 [l0, some (.int v), l2] st K μ := zv_iload_n hC dL_reason_1 rfl rfl k
theorem eL_reason_2 {x : zX} {MC MS cs sl : Nat} {st : List Value} {K : zK} {μ : zF} {l0 l1 l2 : Option Value} {b : Nat} {q1 : Value} {P : Option Value → zK → zF → Prop} {mc ms : Nat} {PX : String → zK → zF → Prop} (hC : hL_reason x MC MS) (hcat : (st.map fun v => v.category).sum ≤ 8) (hcm : cs + mc ≤ MC) (hsm : sl + ms ≤ MS) (hO : zO K b 8) (hE : QX8_reason (xl x) (xg x) mc ms [.ref b, q1] K μ P PX) (kx : ∀ (E : String) (K1 : zK) (μ1 : zF), PX E K1 μ1 → ∃ h, zHd x RL 2 E h ∧ ∀ q, zV x (cs + mc) (sl + ms) h [l0, l1, l2] [.ref q] K1 μ1) (kk : ∀ (v : Option Value) (K1 : zK) (μ1 : zF), P v K1 μ1 → zV x (cs + mc) (sl + ms) 5 [l0, l1, l2] (v.toList ++ st) K1 μ1) : zV x cs sl 2 [l0, l1, l2] (q1 :: .ref b :: st) K μ := zct_V hC (zgV zw_270 zw_271 zw_272 zw_2 zw_273) rfl (by decide +kernel) ⟨Nat.le_of_ble_eq_true rfl, Nat.le_of_ble_eq_true rfl⟩ (ci := 8) rfl rfl (by decide) (n := 1) (As := [q1]) rfl dL_reason_2 rfl rfl hcat hcm hsm hO hE kx kk
theorem eL_reason_5 {x : zX} {MC MS cs sl : Nat} {K : zK} {μ : zF} {l0 l1 l2 : Option Value} {v : Int32} {P : Option Value → zK → zF → Prop} {mc ms : Nat} (hC : hL_reason x MC MS) (hQ : zQg x (some .int) P mc ms) (hc : cs ≤ mc) (hs : sl ≤ ms) (hp : P (some (.int v)) K μ) : zV x cs sl 5 [l0, l1, l2] [.int v] K μ := zr_i hC hQ dL_reason_5 hc hs hp
theorem eL_reason_6 {x : zX} {MC MS cs sl : Nat} {st : List Value} {K : zK} {μ : zF} {l0 l2 : Option Value} {v : Nat} {u : Int32} (hC : hL_reason x MC MS) (k : zV x cs sl 7 [l0, some (.int u), some (.ref v)] st K μ) : zV x cs sl 6 [l0, some (.int u), l2] (.ref v :: st) K μ := zv_astore_n hC dL_reason_6 rfl rfl (Nat.le_of_ble_eq_true rfl) rfl k
theorem eL_reason_7 {x : zX} {MC MS cs sl : Nat} {st : List Value} {K : zK} {μ : zF} {l0 l1 l2 : Option Value} (hC : hL_reason x MC MS) (k : zV x cs sl 9 [l0, l1, l2] (.int (-1000001) :: st) K μ) : zV x cs sl 7 [l0, l1, l2] st K μ := zv_ldc hC (List.mem_cons_of_mem _ zw_235) dL_reason_7 k
theorem eL_reason_9 {x : zX} {MC MS cs sl : Nat} {K : zK} {μ : zF} {l0 l1 l2 : Option Value} {v : Int32} {P : Option Value → zK → zF → Prop} {mc ms : Nat} (hC : hL_reason x MC MS) (hQ : zQg x (some .int) P mc ms) (hc : cs ≤ mc) (hs : sl ≤ ms) (hp : P (some (.int v)) K μ) : zV x cs sl 9 [l0, l1, l2] [.int v] K μ := zr_i hC hQ dL_reason_9 hc hs hp
set_option maxHeartbeats 1000000 in
theorem vL_reason {l : Launch} {g : zG} (hl : l.stackTraces = false) {K : zK} {μ : zF} {x : Nat} {S S' : zMs} {r : Int32} {p2 : Int32} (h : zX8 K μ x S) (e : zot zc1 (zdo_reason p2 S) S = (r, S')) : EL_reason l g 1 6 [.ref x, .int p2] K μ (zAi r S' K μ x) := by
  refine nL_reason hl (fun z hT hC hQ => ?_)
  refine eL_reason_0 hC ?_
  refine eL_reason_1 hC ?_
  refine eL_reason_2 hC (Nat.le_of_ble_eq_true rfl) (Nat.le_of_ble_eq_true rfl) (Nat.le_of_ble_eq_true rfl) h.o (vX8_reason hC.nt h) (fun E K1 μ1 hx => ?_) (zk_rp (fun r1 S1 K1 μ1 e1 e2 e3 e4 => ?_))
  · obtain rfl := zxo_reason hx.1
    refine ⟨6, zHd.a0 hC hT (by decide +kernel) (List.mem_cons_of_mem _ zw_234) (by decide) (by decide), fun q => ?_⟩
    refine eL_reason_6 hC ?_
    refine eL_reason_7 hC ?_
    exact eL_reason_9 hC hQ (Nat.le_of_ble_eq_true rfl) (Nat.le_of_ble_eq_true rfl) (zAi.ex e hx (by decide +kernel))
  · exact eL_reason_5 hC hQ (Nat.le_of_ble_eq_true rfl) (Nat.le_of_ble_eq_true rfl) (zAi.ok e e1 e2 e3 e4)
end ZL_reason
section ZL_pageOf
abbrev hL_pageOf (x : zX) (MC MS : Nat) : Prop := zH x (.codeWith yL_pageOf cL_pageOf 3 (some .int) [(0, 5, 6, 16)] :: wsL_law) RL cL_pageOf 3 8 164 MC MS
abbrev EL_pageOf (l : Launch) (g : zG) (mc ms : Nat) (As : List Value) (K : zK) (μ : zF) (P : Option Value → zK → zF → Prop) : Prop := zEv l g yL_pageOf (.codeWith yL_pageOf cL_pageOf 3 (some .int) [(0, 5, 6, 16)] :: wsL_law) 8 164 mc ms As K μ P
abbrev QL_pageOf (l : Launch) (g : zG) (mc ms : Nat) (As : List Value) (K : zK) (μ : zF) (P : Option Value → zK → zF → Prop) (PX : String → zK → zF → Prop) : Prop := zEx l g yL_pageOf (.codeWith yL_pageOf cL_pageOf 3 (some .int) [(0, 5, 6, 16)] :: wsL_law) 8 164 mc ms As K μ P PX
theorem nL_pageOf {l : Launch} {g : zG} {mc ms : Nat} {p1 : Nat} {p2 : Int32} {K : zK} {μ : zF} {P : Option Value → zK → zF → Prop} (hl : l.stackTraces = false) (body : ∀ x : zX, zTb x [(0, 5, 6, 16)] → hL_pageOf x mc ms → zQg x (some .int) P mc ms → zV x 0 0 0 [some (.ref p1), some (.int p2), none] [] K μ) : EL_pageOf l g mc ms [.ref p1, .int p2] K μ P := zEv.ofW hl (by decide) rfl (Nat.le_of_ble_eq_true rfl) (fun x _ _ => body x)
theorem eL_pageOf_0 {x : zX} {MC MS cs sl : Nat} {st : List Value} {K : zK} {μ : zF} {l1 l2 : Option Value} {a : Nat} (hC : hL_pageOf x MC MS) (k : zV x cs sl 1 [some (.ref a), l1, l2] (.ref a :: st) K μ) : zV x cs sl 0 [some (.ref a), l1, l2] st K μ := zv_aload_n hC dL_pageOf_0 rfl rfl k
theorem eL_pageOf_1 {x : zX} {MC MS cs sl : Nat} {st : List Value} {K : zK} {μ : zF} {l0 l2 : Option Value} {v : Int32} (hC : hL_pageOf x MC MS) (k : zV x cs sl 2 [l0, some (.int v), l2] (.int v :: st) K μ) : zV x cs sl 1 [l0, some (.int v), l2] st K μ := zv_iload_n hC dL_pageOf_1 rfl rfl k
theorem eL_pageOf_2 {x : zX} {MC MS cs sl : Nat} {st : List Value} {K : zK} {μ : zF} {l0 l1 l2 : Option Value} {b : Nat} {q1 : Value} {P : Option Value → zK → zF → Prop} {mc ms : Nat} {PX : String → zK → zF → Prop} (hC : hL_pageOf x MC MS) (hcat : (st.map fun v => v.category).sum ≤ 8) (hcm : cs + mc ≤ MC) (hsm : sl + ms ≤ MS) (hO : zO K b 8) (hE : QX8_pageOf (xl x) (xg x) mc ms [.ref b, q1] K μ P PX) (kx : ∀ (E : String) (K1 : zK) (μ1 : zF), PX E K1 μ1 → ∃ h, zHd x RL 2 E h ∧ ∀ q, zV x (cs + mc) (sl + ms) h [l0, l1, l2] [.ref q] K1 μ1) (kk : ∀ (v : Option Value) (K1 : zK) (μ1 : zF), P v K1 μ1 → zV x (cs + mc) (sl + ms) 5 [l0, l1, l2] (v.toList ++ st) K1 μ1) : zV x cs sl 2 [l0, l1, l2] (q1 :: .ref b :: st) K μ := zct_V hC (zgV zw_351 zw_352 zw_353 zw_2 zw_354) rfl (by decide +kernel) ⟨Nat.le_of_ble_eq_true rfl, Nat.le_of_ble_eq_true rfl⟩ (ci := 8) rfl rfl (by decide) (n := 1) (As := [q1]) rfl dL_pageOf_2 rfl rfl hcat hcm hsm hO hE kx kk
theorem eL_pageOf_5 {x : zX} {MC MS cs sl : Nat} {K : zK} {μ : zF} {l0 l1 l2 : Option Value} {v : Int32} {P : Option Value → zK → zF → Prop} {mc ms : Nat} (hC : hL_pageOf x MC MS) (hQ : zQg x (some .int) P mc ms) (hc : cs ≤ mc) (hs : sl ≤ ms) (hp : P (some (.int v)) K μ) : zV x cs sl 5 [l0, l1, l2] [.int v] K μ := zr_i hC hQ dL_pageOf_5 hc hs hp
theorem eL_pageOf_6 {x : zX} {MC MS cs sl : Nat} {st : List Value} {K : zK} {μ : zF} {l0 l2 : Option Value} {v : Nat} {u : Int32} (hC : hL_pageOf x MC MS) (k : zV x cs sl 7 [l0, some (.int u), some (.ref v)] st K μ) : zV x cs sl 6 [l0, some (.int u), l2] (.ref v :: st) K μ := zv_astore_n hC dL_pageOf_6 rfl rfl (Nat.le_of_ble_eq_true rfl) rfl k
theorem eL_pageOf_7 {x : zX} {MC MS cs sl : Nat} {st : List Value} {K : zK} {μ : zF} {l0 l1 l2 : Option Value} (hC : hL_pageOf x MC MS) (k : zV x cs sl 9 [l0, l1, l2] (.int (-1000001) :: st) K μ) : zV x cs sl 7 [l0, l1, l2] st K μ := zv_ldc hC (List.mem_cons_of_mem _ zw_235) dL_pageOf_7 k
theorem eL_pageOf_9 {x : zX} {MC MS cs sl : Nat} {K : zK} {μ : zF} {l0 l1 l2 : Option Value} {v : Int32} {P : Option Value → zK → zF → Prop} {mc ms : Nat} (hC : hL_pageOf x MC MS) (hQ : zQg x (some .int) P mc ms) (hc : cs ≤ mc) (hs : sl ≤ ms) (hp : P (some (.int v)) K μ) : zV x cs sl 9 [l0, l1, l2] [.int v] K μ := zr_i hC hQ dL_pageOf_9 hc hs hp
set_option maxHeartbeats 1000000 in
theorem vL_pageOf {l : Launch} {g : zG} (hl : l.stackTraces = false) {K : zK} {μ : zF} {x : Nat} {S S' : zMs} {r : Int32} {p2 : Int32} (h : zX8 K μ x S) (e : zot zc1 (zdo_pageOf p2 S) S = (r, S')) : EL_pageOf l g 1 6 [.ref x, .int p2] K μ (zAi r S' K μ x) := by
  refine nL_pageOf hl (fun z hT hC hQ => ?_)
  refine eL_pageOf_0 hC ?_
  refine eL_pageOf_1 hC ?_
  refine eL_pageOf_2 hC (Nat.le_of_ble_eq_true rfl) (Nat.le_of_ble_eq_true rfl) (Nat.le_of_ble_eq_true rfl) h.o (vX8_pageOf hC.nt h) (fun E K1 μ1 hx => ?_) (zk_rp (fun r1 S1 K1 μ1 e1 e2 e3 e4 => ?_))
  · obtain rfl := zxo_pageOf hx.1
    refine ⟨6, zHd.a0 hC hT (by decide +kernel) (List.mem_cons_of_mem _ zw_234) (by decide) (by decide), fun q => ?_⟩
    refine eL_pageOf_6 hC ?_
    refine eL_pageOf_7 hC ?_
    exact eL_pageOf_9 hC hQ (Nat.le_of_ble_eq_true rfl) (Nat.le_of_ble_eq_true rfl) (zAi.ex e hx (by decide +kernel))
  · exact eL_pageOf_5 hC hQ (Nat.le_of_ble_eq_true rfl) (Nat.le_of_ble_eq_true rfl) (zAi.ok e e1 e2 e3 e4)
end ZL_pageOf
section ZL_linesOn
abbrev hL_linesOn (x : zX) (MC MS : Nat) : Prop := zH x (.codeWith yL_linesOn cL_linesOn 3 (some .int) [(0, 5, 6, 16)] :: wsL_law) RL cL_linesOn 3 8 164 MC MS
abbrev EL_linesOn (l : Launch) (g : zG) (mc ms : Nat) (As : List Value) (K : zK) (μ : zF) (P : Option Value → zK → zF → Prop) : Prop := zEv l g yL_linesOn (.codeWith yL_linesOn cL_linesOn 3 (some .int) [(0, 5, 6, 16)] :: wsL_law) 8 164 mc ms As K μ P
abbrev QL_linesOn (l : Launch) (g : zG) (mc ms : Nat) (As : List Value) (K : zK) (μ : zF) (P : Option Value → zK → zF → Prop) (PX : String → zK → zF → Prop) : Prop := zEx l g yL_linesOn (.codeWith yL_linesOn cL_linesOn 3 (some .int) [(0, 5, 6, 16)] :: wsL_law) 8 164 mc ms As K μ P PX
theorem nL_linesOn {l : Launch} {g : zG} {mc ms : Nat} {p1 : Nat} {p2 : Int32} {K : zK} {μ : zF} {P : Option Value → zK → zF → Prop} (hl : l.stackTraces = false) (body : ∀ x : zX, zTb x [(0, 5, 6, 16)] → hL_linesOn x mc ms → zQg x (some .int) P mc ms → zV x 0 0 0 [some (.ref p1), some (.int p2), none] [] K μ) : EL_linesOn l g mc ms [.ref p1, .int p2] K μ P := zEv.ofW hl (by decide) rfl (Nat.le_of_ble_eq_true rfl) (fun x _ _ => body x)
theorem eL_linesOn_0 {x : zX} {MC MS cs sl : Nat} {st : List Value} {K : zK} {μ : zF} {l1 l2 : Option Value} {a : Nat} (hC : hL_linesOn x MC MS) (k : zV x cs sl 1 [some (.ref a), l1, l2] (.ref a :: st) K μ) : zV x cs sl 0 [some (.ref a), l1, l2] st K μ := zv_aload_n hC dL_linesOn_0 rfl rfl k
theorem eL_linesOn_1 {x : zX} {MC MS cs sl : Nat} {st : List Value} {K : zK} {μ : zF} {l0 l2 : Option Value} {v : Int32} (hC : hL_linesOn x MC MS) (k : zV x cs sl 2 [l0, some (.int v), l2] (.int v :: st) K μ) : zV x cs sl 1 [l0, some (.int v), l2] st K μ := zv_iload_n hC dL_linesOn_1 rfl rfl k
theorem eL_linesOn_2 {x : zX} {MC MS cs sl : Nat} {st : List Value} {K : zK} {μ : zF} {l0 l1 l2 : Option Value} {b : Nat} {q1 : Value} {P : Option Value → zK → zF → Prop} {mc ms : Nat} {PX : String → zK → zF → Prop} (hC : hL_linesOn x MC MS) (hcat : (st.map fun v => v.category).sum ≤ 8) (hcm : cs + mc ≤ MC) (hsm : sl + ms ≤ MS) (hO : zO K b 8) (hE : QX8_linesOn (xl x) (xg x) mc ms [.ref b, q1] K μ P PX) (kx : ∀ (E : String) (K1 : zK) (μ1 : zF), PX E K1 μ1 → ∃ h, zHd x RL 2 E h ∧ ∀ q, zV x (cs + mc) (sl + ms) h [l0, l1, l2] [.ref q] K1 μ1) (kk : ∀ (v : Option Value) (K1 : zK) (μ1 : zF), P v K1 μ1 → zV x (cs + mc) (sl + ms) 5 [l0, l1, l2] (v.toList ++ st) K1 μ1) : zV x cs sl 2 [l0, l1, l2] (q1 :: .ref b :: st) K μ := zct_V hC (zgV zw_344 zw_345 zw_346 zw_2 zw_347) rfl (by decide +kernel) ⟨Nat.le_of_ble_eq_true rfl, Nat.le_of_ble_eq_true rfl⟩ (ci := 8) rfl rfl (by decide) (n := 1) (As := [q1]) rfl dL_linesOn_2 rfl rfl hcat hcm hsm hO hE kx kk
theorem eL_linesOn_5 {x : zX} {MC MS cs sl : Nat} {K : zK} {μ : zF} {l0 l1 l2 : Option Value} {v : Int32} {P : Option Value → zK → zF → Prop} {mc ms : Nat} (hC : hL_linesOn x MC MS) (hQ : zQg x (some .int) P mc ms) (hc : cs ≤ mc) (hs : sl ≤ ms) (hp : P (some (.int v)) K μ) : zV x cs sl 5 [l0, l1, l2] [.int v] K μ := zr_i hC hQ dL_linesOn_5 hc hs hp
theorem eL_linesOn_6 {x : zX} {MC MS cs sl : Nat} {st : List Value} {K : zK} {μ : zF} {l0 l2 : Option Value} {v : Nat} {u : Int32} (hC : hL_linesOn x MC MS) (k : zV x cs sl 7 [l0, some (.int u), some (.ref v)] st K μ) : zV x cs sl 6 [l0, some (.int u), l2] (.ref v :: st) K μ := zv_astore_n hC dL_linesOn_6 rfl rfl (Nat.le_of_ble_eq_true rfl) rfl k
theorem eL_linesOn_7 {x : zX} {MC MS cs sl : Nat} {st : List Value} {K : zK} {μ : zF} {l0 l1 l2 : Option Value} (hC : hL_linesOn x MC MS) (k : zV x cs sl 9 [l0, l1, l2] (.int (-1000001) :: st) K μ) : zV x cs sl 7 [l0, l1, l2] st K μ := zv_ldc hC (List.mem_cons_of_mem _ zw_235) dL_linesOn_7 k
theorem eL_linesOn_9 {x : zX} {MC MS cs sl : Nat} {K : zK} {μ : zF} {l0 l1 l2 : Option Value} {v : Int32} {P : Option Value → zK → zF → Prop} {mc ms : Nat} (hC : hL_linesOn x MC MS) (hQ : zQg x (some .int) P mc ms) (hc : cs ≤ mc) (hs : sl ≤ ms) (hp : P (some (.int v)) K μ) : zV x cs sl 9 [l0, l1, l2] [.int v] K μ := zr_i hC hQ dL_linesOn_9 hc hs hp
set_option maxHeartbeats 1000000 in
theorem vL_linesOn {l : Launch} {g : zG} (hl : l.stackTraces = false) {K : zK} {μ : zF} {x : Nat} {S S' : zMs} {r : Int32} {p2 : Int32} (h : zX8 K μ x S) (e : zot zc1 (zdo_linesOn p2 S) S = (r, S')) : EL_linesOn l g 1 6 [.ref x, .int p2] K μ (zAi r S' K μ x) := by
  refine nL_linesOn hl (fun z hT hC hQ => ?_)
  refine eL_linesOn_0 hC ?_
  refine eL_linesOn_1 hC ?_
  refine eL_linesOn_2 hC (Nat.le_of_ble_eq_true rfl) (Nat.le_of_ble_eq_true rfl) (Nat.le_of_ble_eq_true rfl) h.o (vX8_linesOn hC.nt h) (fun E K1 μ1 hx => ?_) (zk_rp (fun r1 S1 K1 μ1 e1 e2 e3 e4 => ?_))
  · obtain rfl := zxo_linesOn hx.1
    refine ⟨6, zHd.a0 hC hT (by decide +kernel) (List.mem_cons_of_mem _ zw_234) (by decide) (by decide), fun q => ?_⟩
    refine eL_linesOn_6 hC ?_
    refine eL_linesOn_7 hC ?_
    exact eL_linesOn_9 hC hQ (Nat.le_of_ble_eq_true rfl) (Nat.le_of_ble_eq_true rfl) (zAi.ex e hx (by decide +kernel))
  · exact eL_linesOn_5 hC hQ (Nat.le_of_ble_eq_true rfl) (Nat.le_of_ble_eq_true rfl) (zAi.ok e e1 e2 e3 e4)
end ZL_linesOn
section ZL_costFor
abbrev hL_costFor (x : zX) (MC MS : Nat) : Prop := zH x (.codeWith yL_costFor cL_costFor 4 (some .int) [(0, 6, 7, 19)] :: wsL_law) RL cL_costFor 4 8 145 MC MS
abbrev EL_costFor (l : Launch) (g : zG) (mc ms : Nat) (As : List Value) (K : zK) (μ : zF) (P : Option Value → zK → zF → Prop) : Prop := zEv l g yL_costFor (.codeWith yL_costFor cL_costFor 4 (some .int) [(0, 6, 7, 19)] :: wsL_law) 8 145 mc ms As K μ P
abbrev QL_costFor (l : Launch) (g : zG) (mc ms : Nat) (As : List Value) (K : zK) (μ : zF) (P : Option Value → zK → zF → Prop) (PX : String → zK → zF → Prop) : Prop := zEx l g yL_costFor (.codeWith yL_costFor cL_costFor 4 (some .int) [(0, 6, 7, 19)] :: wsL_law) 8 145 mc ms As K μ P PX
theorem nL_costFor {l : Launch} {g : zG} {mc ms : Nat} {p1 : Nat} {p2 : Int32} {p3 : Int32} {K : zK} {μ : zF} {P : Option Value → zK → zF → Prop} (hl : l.stackTraces = false) (body : ∀ x : zX, zTb x [(0, 6, 7, 19)] → hL_costFor x mc ms → zQg x (some .int) P mc ms → zV x 0 0 0 [some (.ref p1), some (.int p2), some (.int p3), none] [] K μ) : EL_costFor l g mc ms [.ref p1, .int p2, .int p3] K μ P := zEv.ofW hl (by decide) rfl (Nat.le_of_ble_eq_true rfl) (fun x _ _ => body x)
theorem eL_costFor_0 {x : zX} {MC MS cs sl : Nat} {st : List Value} {K : zK} {μ : zF} {l1 l2 l3 : Option Value} {a : Nat} (hC : hL_costFor x MC MS) (k : zV x cs sl 1 [some (.ref a), l1, l2, l3] (.ref a :: st) K μ) : zV x cs sl 0 [some (.ref a), l1, l2, l3] st K μ := zv_aload_n hC dL_costFor_0 rfl rfl k
theorem eL_costFor_1 {x : zX} {MC MS cs sl : Nat} {st : List Value} {K : zK} {μ : zF} {l0 l2 l3 : Option Value} {v : Int32} (hC : hL_costFor x MC MS) (k : zV x cs sl 2 [l0, some (.int v), l2, l3] (.int v :: st) K μ) : zV x cs sl 1 [l0, some (.int v), l2, l3] st K μ := zv_iload_n hC dL_costFor_1 rfl rfl k
theorem eL_costFor_2 {x : zX} {MC MS cs sl : Nat} {st : List Value} {K : zK} {μ : zF} {l0 l1 l3 : Option Value} {v : Int32} (hC : hL_costFor x MC MS) (k : zV x cs sl 3 [l0, l1, some (.int v), l3] (.int v :: st) K μ) : zV x cs sl 2 [l0, l1, some (.int v), l3] st K μ := zv_iload_n hC dL_costFor_2 rfl rfl k
theorem eL_costFor_3 {x : zX} {MC MS cs sl : Nat} {st : List Value} {K : zK} {μ : zF} {l0 l1 l2 l3 : Option Value} {b : Nat} {q1 q2 : Value} {P : Option Value → zK → zF → Prop} {mc ms : Nat} {PX : String → zK → zF → Prop} (hC : hL_costFor x MC MS) (hcat : (st.map fun v => v.category).sum ≤ 8) (hcm : cs + mc ≤ MC) (hsm : sl + ms ≤ MS) (hO : zO K b 8) (hE : QX8_costFor (xl x) (xg x) mc ms [.ref b, q1, q2] K μ P PX) (kx : ∀ (E : String) (K1 : zK) (μ1 : zF), PX E K1 μ1 → ∃ h, zHd x RL 3 E h ∧ ∀ q, zV x (cs + mc) (sl + ms) h [l0, l1, l2, l3] [.ref q] K1 μ1) (kk : ∀ (v : Option Value) (K1 : zK) (μ1 : zF), P v K1 μ1 → zV x (cs + mc) (sl + ms) 6 [l0, l1, l2, l3] (v.toList ++ st) K1 μ1) : zV x cs sl 3 [l0, l1, l2, l3] (q2 :: q1 :: .ref b :: st) K μ := zct_V hC (zgV zw_394 zw_395 zw_396 zw_2 zw_397) rfl (by decide +kernel) ⟨Nat.le_of_ble_eq_true rfl, Nat.le_of_ble_eq_true rfl⟩ (ci := 8) rfl rfl (by decide) (n := 2) (As := [q1, q2]) rfl dL_costFor_3 rfl rfl hcat hcm hsm hO hE kx kk
theorem eL_costFor_6 {x : zX} {MC MS cs sl : Nat} {K : zK} {μ : zF} {l0 l1 l2 l3 : Option Value} {v : Int32} {P : Option Value → zK → zF → Prop} {mc ms : Nat} (hC : hL_costFor x MC MS) (hQ : zQg x (some .int) P mc ms) (hc : cs ≤ mc) (hs : sl ≤ ms) (hp : P (some (.int v)) K μ) : zV x cs sl 6 [l0, l1, l2, l3] [.int v] K μ := zr_i hC hQ dL_costFor_6 hc hs hp
theorem eL_costFor_7 {x : zX} {MC MS cs sl : Nat} {st : List Value} {K : zK} {μ : zF} {l0 l1 l3 : Option Value} {v : Nat} {u : Int32} (hC : hL_costFor x MC MS) (k : zV x cs sl 8 [l0, l1, some (.int u), some (.ref v)] st K μ) : zV x cs sl 7 [l0, l1, some (.int u), l3] (.ref v :: st) K μ := zv_astore_n hC dL_costFor_7 rfl rfl (Nat.le_of_ble_eq_true rfl) rfl k
theorem eL_costFor_8 {x : zX} {MC MS cs sl : Nat} {st : List Value} {K : zK} {μ : zF} {l0 l1 l2 l3 : Option Value} (hC : hL_costFor x MC MS) (k : zV x cs sl 10 [l0, l1, l2, l3] (.int (-1000001) :: st) K μ) : zV x cs sl 8 [l0, l1, l2, l3] st K μ := zv_ldc hC (List.mem_cons_of_mem _ zw_235) dL_costFor_8 k
theorem eL_costFor_10 {x : zX} {MC MS cs sl : Nat} {K : zK} {μ : zF} {l0 l1 l2 l3 : Option Value} {v : Int32} {P : Option Value → zK → zF → Prop} {mc ms : Nat} (hC : hL_costFor x MC MS) (hQ : zQg x (some .int) P mc ms) (hc : cs ≤ mc) (hs : sl ≤ ms) (hp : P (some (.int v)) K μ) : zV x cs sl 10 [l0, l1, l2, l3] [.int v] K μ := zr_i hC hQ dL_costFor_10 hc hs hp
set_option maxHeartbeats 1000000 in
theorem vL_costFor {l : Launch} {g : zG} (hl : l.stackTraces = false) {K : zK} {μ : zF} {x : Nat} {S S' : zMs} {r : Int32} {p2 : Int32} {b3 : Nat} (h : zX8 K μ x S) (hb : b3 ≤ 1) (e : zot zc1 (zdo_costFor p2 b3 S) S = (r, S')) : EL_costFor l g 1 6 [.ref x, .int p2, .int (nI b3)] K μ (zAi r S' K μ x) := by
  refine nL_costFor hl (fun z hT hC hQ => ?_)
  refine eL_costFor_0 hC ?_
  refine eL_costFor_1 hC ?_
  refine eL_costFor_2 hC ?_
  refine eL_costFor_3 hC (Nat.le_of_ble_eq_true rfl) (Nat.le_of_ble_eq_true rfl) (Nat.le_of_ble_eq_true rfl) h.o (vX8_costFor hC.nt h hb) (fun E K1 μ1 hx => ?_) (zk_rp (fun r1 S1 K1 μ1 e1 e2 e3 e4 => ?_))
  · obtain rfl := zxo_costFor hx.1
    refine ⟨7, zHd.a0 hC hT (by decide +kernel) (List.mem_cons_of_mem _ zw_393) (by decide) (by decide), fun q => ?_⟩
    refine eL_costFor_7 hC ?_
    refine eL_costFor_8 hC ?_
    exact eL_costFor_10 hC hQ (Nat.le_of_ble_eq_true rfl) (Nat.le_of_ble_eq_true rfl) (zAi.ex e hx (by decide +kernel))
  · exact eL_costFor_6 hC hQ (Nat.le_of_ble_eq_true rfl) (Nat.le_of_ble_eq_true rfl) (zAi.ok e e1 e2 e3 e4)
end ZL_costFor
section ZL_bestColumn
abbrev hL_bestColumn (x : zX) (MC MS : Nat) : Prop := zH x (.codeWith yL_bestColumn cL_bestColumn 4 (some .int) [(0, 6, 7, 19)] :: wsL_law) RL cL_bestColumn 4 8 149 MC MS
abbrev EL_bestColumn (l : Launch) (g : zG) (mc ms : Nat) (As : List Value) (K : zK) (μ : zF) (P : Option Value → zK → zF → Prop) : Prop := zEv l g yL_bestColumn (.codeWith yL_bestColumn cL_bestColumn 4 (some .int) [(0, 6, 7, 19)] :: wsL_law) 8 149 mc ms As K μ P
abbrev QL_bestColumn (l : Launch) (g : zG) (mc ms : Nat) (As : List Value) (K : zK) (μ : zF) (P : Option Value → zK → zF → Prop) (PX : String → zK → zF → Prop) : Prop := zEx l g yL_bestColumn (.codeWith yL_bestColumn cL_bestColumn 4 (some .int) [(0, 6, 7, 19)] :: wsL_law) 8 149 mc ms As K μ P PX
theorem nL_bestColumn {l : Launch} {g : zG} {mc ms : Nat} {p1 : Nat} {p2 : Int32} {p3 : Int32} {K : zK} {μ : zF} {P : Option Value → zK → zF → Prop} (hl : l.stackTraces = false) (body : ∀ x : zX, zTb x [(0, 6, 7, 19)] → hL_bestColumn x mc ms → zQg x (some .int) P mc ms → zV x 0 0 0 [some (.ref p1), some (.int p2), some (.int p3), none] [] K μ) : EL_bestColumn l g mc ms [.ref p1, .int p2, .int p3] K μ P := zEv.ofW hl (by decide) rfl (Nat.le_of_ble_eq_true rfl) (fun x _ _ => body x)
theorem eL_bestColumn_0 {x : zX} {MC MS cs sl : Nat} {st : List Value} {K : zK} {μ : zF} {l1 l2 l3 : Option Value} {a : Nat} (hC : hL_bestColumn x MC MS) (k : zV x cs sl 1 [some (.ref a), l1, l2, l3] (.ref a :: st) K μ) : zV x cs sl 0 [some (.ref a), l1, l2, l3] st K μ := zv_aload_n hC dL_bestColumn_0 rfl rfl k
theorem eL_bestColumn_1 {x : zX} {MC MS cs sl : Nat} {st : List Value} {K : zK} {μ : zF} {l0 l2 l3 : Option Value} {v : Int32} (hC : hL_bestColumn x MC MS) (k : zV x cs sl 2 [l0, some (.int v), l2, l3] (.int v :: st) K μ) : zV x cs sl 1 [l0, some (.int v), l2, l3] st K μ := zv_iload_n hC dL_bestColumn_1 rfl rfl k
theorem eL_bestColumn_2 {x : zX} {MC MS cs sl : Nat} {st : List Value} {K : zK} {μ : zF} {l0 l1 l3 : Option Value} {v : Int32} (hC : hL_bestColumn x MC MS) (k : zV x cs sl 3 [l0, l1, some (.int v), l3] (.int v :: st) K μ) : zV x cs sl 2 [l0, l1, some (.int v), l3] st K μ := zv_iload_n hC dL_bestColumn_2 rfl rfl k
theorem eL_bestColumn_3 {x : zX} {MC MS cs sl : Nat} {st : List Value} {K : zK} {μ : zF} {l0 l1 l2 l3 : Option Value} {b : Nat} {q1 q2 : Value} {P : Option Value → zK → zF → Prop} {mc ms : Nat} {PX : String → zK → zF → Prop} (hC : hL_bestColumn x MC MS) (hcat : (st.map fun v => v.category).sum ≤ 8) (hcm : cs + mc ≤ MC) (hsm : sl + ms ≤ MS) (hO : zO K b 8) (hE : QX8_bestColumn (xl x) (xg x) mc ms [.ref b, q1, q2] K μ P PX) (kx : ∀ (E : String) (K1 : zK) (μ1 : zF), PX E K1 μ1 → ∃ h, zHd x RL 3 E h ∧ ∀ q, zV x (cs + mc) (sl + ms) h [l0, l1, l2, l3] [.ref q] K1 μ1) (kk : ∀ (v : Option Value) (K1 : zK) (μ1 : zF), P v K1 μ1 → zV x (cs + mc) (sl + ms) 6 [l0, l1, l2, l3] (v.toList ++ st) K1 μ1) : zV x cs sl 3 [l0, l1, l2, l3] (q2 :: q1 :: .ref b :: st) K μ := zct_V hC (zgV zw_514 zw_515 zw_516 zw_2 zw_517) rfl (by decide +kernel) ⟨Nat.le_of_ble_eq_true rfl, Nat.le_of_ble_eq_true rfl⟩ (ci := 8) rfl rfl (by decide) (n := 2) (As := [q1, q2]) rfl dL_bestColumn_3 rfl rfl hcat hcm hsm hO hE kx kk
theorem eL_bestColumn_6 {x : zX} {MC MS cs sl : Nat} {K : zK} {μ : zF} {l0 l1 l2 l3 : Option Value} {v : Int32} {P : Option Value → zK → zF → Prop} {mc ms : Nat} (hC : hL_bestColumn x MC MS) (hQ : zQg x (some .int) P mc ms) (hc : cs ≤ mc) (hs : sl ≤ ms) (hp : P (some (.int v)) K μ) : zV x cs sl 6 [l0, l1, l2, l3] [.int v] K μ := zr_i hC hQ dL_bestColumn_6 hc hs hp
theorem eL_bestColumn_7 {x : zX} {MC MS cs sl : Nat} {st : List Value} {K : zK} {μ : zF} {l0 l1 l3 : Option Value} {v : Nat} {u : Int32} (hC : hL_bestColumn x MC MS) (k : zV x cs sl 8 [l0, l1, some (.int u), some (.ref v)] st K μ) : zV x cs sl 7 [l0, l1, some (.int u), l3] (.ref v :: st) K μ := zv_astore_n hC dL_bestColumn_7 rfl rfl (Nat.le_of_ble_eq_true rfl) rfl k
theorem eL_bestColumn_8 {x : zX} {MC MS cs sl : Nat} {st : List Value} {K : zK} {μ : zF} {l0 l1 l2 l3 : Option Value} (hC : hL_bestColumn x MC MS) (k : zV x cs sl 10 [l0, l1, l2, l3] (.int (-1000001) :: st) K μ) : zV x cs sl 8 [l0, l1, l2, l3] st K μ := zv_ldc hC (List.mem_cons_of_mem _ zw_235) dL_bestColumn_8 k
theorem eL_bestColumn_10 {x : zX} {MC MS cs sl : Nat} {K : zK} {μ : zF} {l0 l1 l2 l3 : Option Value} {v : Int32} {P : Option Value → zK → zF → Prop} {mc ms : Nat} (hC : hL_bestColumn x MC MS) (hQ : zQg x (some .int) P mc ms) (hc : cs ≤ mc) (hs : sl ≤ ms) (hp : P (some (.int v)) K μ) : zV x cs sl 10 [l0, l1, l2, l3] [.int v] K μ := zr_i hC hQ dL_bestColumn_10 hc hs hp
set_option maxHeartbeats 1000000 in
theorem vL_bestColumn {l : Launch} {g : zG} (hl : l.stackTraces = false) {K : zK} {μ : zF} {x : Nat} {S S' : zMs} {r : Int32} {p2 : Int32} {p3 : Int32} (h : zX8 K μ x S) (e : zot zc1 (zdo_bestColumn p2 p3 S) S = (r, S')) : EL_bestColumn l g 2 12 [.ref x, .int p2, .int p3] K μ (zAi r S' K μ x) := by
  refine nL_bestColumn hl (fun z hT hC hQ => ?_)
  refine eL_bestColumn_0 hC ?_
  refine eL_bestColumn_1 hC ?_
  refine eL_bestColumn_2 hC ?_
  refine eL_bestColumn_3 hC (Nat.le_of_ble_eq_true rfl) (Nat.le_of_ble_eq_true rfl) (Nat.le_of_ble_eq_true rfl) h.o (vX8_bestColumn hC.nt h) (fun E K1 μ1 hx => ?_) (zk_rp (fun r1 S1 K1 μ1 e1 e2 e3 e4 => ?_))
  · obtain rfl := zxo_bestColumn hx.1
    refine ⟨7, zHd.a0 hC hT (by decide +kernel) (List.mem_cons_of_mem _ zw_393) (by decide) (by decide), fun q => ?_⟩
    refine eL_bestColumn_7 hC ?_
    refine eL_bestColumn_8 hC ?_
    exact eL_bestColumn_10 hC hQ (Nat.le_of_ble_eq_true rfl) (Nat.le_of_ble_eq_true rfl) (zAi.ex e hx (by decide +kernel))
  · exact eL_bestColumn_6 hC hQ (Nat.le_of_ble_eq_true rfl) (Nat.le_of_ble_eq_true rfl) (zAi.ok e e1 e2 e3 e4)
end ZL_bestColumn
section ZL_costIfMarked
abbrev hL_costIfMarked (x : zX) (MC MS : Nat) : Prop := zH x (.codeWith yL_costIfMarked cL_costIfMarked 4 (some .int) [(0, 6, 7, 16), (0, 6, 11, 19)] :: wsL_law) RL cL_costIfMarked 4 8 145 MC MS
abbrev EL_costIfMarked (l : Launch) (g : zG) (mc ms : Nat) (As : List Value) (K : zK) (μ : zF) (P : Option Value → zK → zF → Prop) : Prop := zEv l g yL_costIfMarked (.codeWith yL_costIfMarked cL_costIfMarked 4 (some .int) [(0, 6, 7, 16), (0, 6, 11, 19)] :: wsL_law) 8 145 mc ms As K μ P
abbrev QL_costIfMarked (l : Launch) (g : zG) (mc ms : Nat) (As : List Value) (K : zK) (μ : zF) (P : Option Value → zK → zF → Prop) (PX : String → zK → zF → Prop) : Prop := zEx l g yL_costIfMarked (.codeWith yL_costIfMarked cL_costIfMarked 4 (some .int) [(0, 6, 7, 16), (0, 6, 11, 19)] :: wsL_law) 8 145 mc ms As K μ P PX
theorem nL_costIfMarked {l : Launch} {g : zG} {mc ms : Nat} {p1 : Nat} {p2 : Int32} {p3 : Int32} {K : zK} {μ : zF} {P : Option Value → zK → zF → Prop} (hl : l.stackTraces = false) (body : ∀ x : zX, zTb x [(0, 6, 7, 16), (0, 6, 11, 19)] → hL_costIfMarked x mc ms → zQg x (some .int) P mc ms → zV x 0 0 0 [some (.ref p1), some (.int p2), some (.int p3), none] [] K μ) : EL_costIfMarked l g mc ms [.ref p1, .int p2, .int p3] K μ P := zEv.ofW hl (by decide) rfl (Nat.le_of_ble_eq_true rfl) (fun x _ _ => body x)
theorem eL_costIfMarked_0 {x : zX} {MC MS cs sl : Nat} {st : List Value} {K : zK} {μ : zF} {l1 l2 l3 : Option Value} {a : Nat} (hC : hL_costIfMarked x MC MS) (k : zV x cs sl 1 [some (.ref a), l1, l2, l3] (.ref a :: st) K μ) : zV x cs sl 0 [some (.ref a), l1, l2, l3] st K μ := zv_aload_n hC dL_costIfMarked_0 rfl rfl k
theorem eL_costIfMarked_1 {x : zX} {MC MS cs sl : Nat} {st : List Value} {K : zK} {μ : zF} {l0 l2 l3 : Option Value} {v : Int32} (hC : hL_costIfMarked x MC MS) (k : zV x cs sl 2 [l0, some (.int v), l2, l3] (.int v :: st) K μ) : zV x cs sl 1 [l0, some (.int v), l2, l3] st K μ := zv_iload_n hC dL_costIfMarked_1 rfl rfl k
theorem eL_costIfMarked_2 {x : zX} {MC MS cs sl : Nat} {st : List Value} {K : zK} {μ : zF} {l0 l1 l3 : Option Value} {v : Int32} (hC : hL_costIfMarked x MC MS) (k : zV x cs sl 3 [l0, l1, some (.int v), l3] (.int v :: st) K μ) : zV x cs sl 2 [l0, l1, some (.int v), l3] st K μ := zv_iload_n hC dL_costIfMarked_2 rfl rfl k
theorem eL_costIfMarked_3 {x : zX} {MC MS cs sl : Nat} {st : List Value} {K : zK} {μ : zF} {l0 l1 l2 l3 : Option Value} {b : Nat} {q1 q2 : Value} {P : Option Value → zK → zF → Prop} {mc ms : Nat} {PX : String → zK → zF → Prop} (hC : hL_costIfMarked x MC MS) (hcat : (st.map fun v => v.category).sum ≤ 8) (hcm : cs + mc ≤ MC) (hsm : sl + ms ≤ MS) (hO : zO K b 8) (hE : QX8_costIfMarked (xl x) (xg x) mc ms [.ref b, q1, q2] K μ P PX) (kx : ∀ (E : String) (K1 : zK) (μ1 : zF), PX E K1 μ1 → ∃ h, zHd x RL 3 E h ∧ ∀ q, zV x (cs + mc) (sl + ms) h [l0, l1, l2, l3] [.ref q] K1 μ1) (kk : ∀ (v : Option Value) (K1 : zK) (μ1 : zF), P v K1 μ1 → zV x (cs + mc) (sl + ms) 6 [l0, l1, l2, l3] (v.toList ++ st) K1 μ1) : zV x cs sl 3 [l0, l1, l2, l3] (q2 :: q1 :: .ref b :: st) K μ := zct_V hC (zgV zw_540 zw_541 zw_542 zw_2 zw_543) rfl (by decide +kernel) ⟨Nat.le_of_ble_eq_true rfl, Nat.le_of_ble_eq_true rfl⟩ (ci := 8) rfl rfl (by decide) (n := 2) (As := [q1, q2]) rfl dL_costIfMarked_3 rfl rfl hcat hcm hsm hO hE kx kk
theorem eL_costIfMarked_6 {x : zX} {MC MS cs sl : Nat} {K : zK} {μ : zF} {l0 l1 l2 l3 : Option Value} {v : Int32} {P : Option Value → zK → zF → Prop} {mc ms : Nat} (hC : hL_costIfMarked x MC MS) (hQ : zQg x (some .int) P mc ms) (hc : cs ≤ mc) (hs : sl ≤ ms) (hp : P (some (.int v)) K μ) : zV x cs sl 6 [l0, l1, l2, l3] [.int v] K μ := zr_i hC hQ dL_costIfMarked_6 hc hs hp
theorem eL_costIfMarked_7 {x : zX} {MC MS cs sl : Nat} {st : List Value} {K : zK} {μ : zF} {l0 l1 l3 : Option Value} {v : Nat} {u : Int32} (hC : hL_costIfMarked x MC MS) (k : zV x cs sl 8 [l0, l1, some (.int u), some (.ref v)] st K μ) : zV x cs sl 7 [l0, l1, some (.int u), l3] (.ref v :: st) K μ := zv_astore_n hC dL_costIfMarked_7 rfl rfl (Nat.le_of_ble_eq_true rfl) rfl k
theorem eL_costIfMarked_8 {x : zX} {MC MS cs sl : Nat} {st : List Value} {K : zK} {μ : zF} {l0 l1 l2 l3 : Option Value} (hC : hL_costIfMarked x MC MS) (k : zV x cs sl 10 [l0, l1, l2, l3] (.int (-1000001) :: st) K μ) : zV x cs sl 8 [l0, l1, l2, l3] st K μ := zv_ldc hC (List.mem_cons_of_mem _ zw_235) dL_costIfMarked_8 k
theorem eL_costIfMarked_10 {x : zX} {MC MS cs sl : Nat} {K : zK} {μ : zF} {l0 l1 l2 l3 : Option Value} {v : Int32} {P : Option Value → zK → zF → Prop} {mc ms : Nat} (hC : hL_costIfMarked x MC MS) (hQ : zQg x (some .int) P mc ms) (hc : cs ≤ mc) (hs : sl ≤ ms) (hp : P (some (.int v)) K μ) : zV x cs sl 10 [l0, l1, l2, l3] [.int v] K μ := zr_i hC hQ dL_costIfMarked_10 hc hs hp
theorem eL_costIfMarked_11 {x : zX} {MC MS cs sl : Nat} {st : List Value} {K : zK} {μ : zF} {l0 l1 l3 : Option Value} {v : Nat} {u : Int32} (hC : hL_costIfMarked x MC MS) (k : zV x cs sl 12 [l0, l1, some (.int u), some (.ref v)] st K μ) : zV x cs sl 11 [l0, l1, some (.int u), l3] (.ref v :: st) K μ := zv_astore_n hC dL_costIfMarked_11 rfl rfl (Nat.le_of_ble_eq_true rfl) rfl k
theorem eL_costIfMarked_12 {x : zX} {MC MS cs sl : Nat} {st : List Value} {K : zK} {μ : zF} {l0 l1 l2 l3 : Option Value} (hC : hL_costIfMarked x MC MS) (k : zV x cs sl 14 [l0, l1, l2, l3] (.int (-1000002) :: st) K μ) : zV x cs sl 12 [l0, l1, l2, l3] st K μ := zv_ldc hC (List.mem_cons_of_mem _ zw_416) dL_costIfMarked_12 k
theorem eL_costIfMarked_14 {x : zX} {MC MS cs sl : Nat} {K : zK} {μ : zF} {l0 l1 l2 l3 : Option Value} {v : Int32} {P : Option Value → zK → zF → Prop} {mc ms : Nat} (hC : hL_costIfMarked x MC MS) (hQ : zQg x (some .int) P mc ms) (hc : cs ≤ mc) (hs : sl ≤ ms) (hp : P (some (.int v)) K μ) : zV x cs sl 14 [l0, l1, l2, l3] [.int v] K μ := zr_i hC hQ dL_costIfMarked_14 hc hs hp
set_option maxHeartbeats 1000000 in
theorem vL_costIfMarked {l : Launch} {g : zG} (hl : l.stackTraces = false) {K : zK} {μ : zF} {x : Nat} {S S' : zMs} {r : Int32} {p2 : Int32} {p3 : Int32} (h : zX8 K μ x S) (e : zot zcIA (zdo_costIfMarked p2 p3 S) S = (r, S')) : EL_costIfMarked l g 2 12 [.ref x, .int p2, .int p3] K μ (zAi r S' K μ x) := by
  refine nL_costIfMarked hl (fun z hT hC hQ => ?_)
  refine eL_costIfMarked_0 hC ?_
  refine eL_costIfMarked_1 hC ?_
  refine eL_costIfMarked_2 hC ?_
  refine eL_costIfMarked_3 hC (Nat.le_of_ble_eq_true rfl) (Nat.le_of_ble_eq_true rfl) (Nat.le_of_ble_eq_true rfl) h.o (vX8_costIfMarked hC.nt h) (fun E K1 μ1 hx => ?_) (zk_rp (fun r1 S1 K1 μ1 e1 e2 e3 e4 => ?_))
  · rcases zxo_costIfMarked hx.1 with rfl | rfl
    · refine ⟨7, zHd.a0 hC hT (by decide +kernel) (List.mem_cons_of_mem _ zw_234) (by decide) (by decide), fun q => ?_⟩
      refine eL_costIfMarked_7 hC ?_
      refine eL_costIfMarked_8 hC ?_
      exact eL_costIfMarked_10 hC hQ (Nat.le_of_ble_eq_true rfl) (Nat.le_of_ble_eq_true rfl) (zAi.ex e hx (by decide +kernel))
    · refine ⟨11, zHd.a1 hC hT (by decide +kernel) (List.mem_cons_of_mem _ zw_234) (by decide) (by decide +kernel) (List.mem_cons_of_mem _ zw_393) (by decide) (by decide), fun q => ?_⟩
      refine eL_costIfMarked_11 hC ?_
      refine eL_costIfMarked_12 hC ?_
      exact eL_costIfMarked_14 hC hQ (Nat.le_of_ble_eq_true rfl) (Nat.le_of_ble_eq_true rfl) (zAi.ex e hx (by decide +kernel))
  · exact eL_costIfMarked_6 hC hQ (Nat.le_of_ble_eq_true rfl) (Nat.le_of_ble_eq_true rfl) (zAi.ok e e1 e2 e3 e4)
end ZL_costIfMarked
section ZL_undo
abbrev hL_undo (x : zX) (MC MS : Nat) : Prop := zH x (.codeWith yL_undo cL_undo 2 (some .int) [(0, 4, 5, 22)] :: wsL_law) RL cL_undo 2 7 110 MC MS
abbrev EL_undo (l : Launch) (g : zG) (mc ms : Nat) (As : List Value) (K : zK) (μ : zF) (P : Option Value → zK → zF → Prop) : Prop := zEv l g yL_undo (.codeWith yL_undo cL_undo 2 (some .int) [(0, 4, 5, 22)] :: wsL_law) 7 110 mc ms As K μ P
abbrev QL_undo (l : Launch) (g : zG) (mc ms : Nat) (As : List Value) (K : zK) (μ : zF) (P : Option Value → zK → zF → Prop) (PX : String → zK → zF → Prop) : Prop := zEx l g yL_undo (.codeWith yL_undo cL_undo 2 (some .int) [(0, 4, 5, 22)] :: wsL_law) 7 110 mc ms As K μ P PX
theorem nL_undo {l : Launch} {g : zG} {mc ms : Nat} {p1 : Nat} {K : zK} {μ : zF} {P : Option Value → zK → zF → Prop} (hl : l.stackTraces = false) (body : ∀ x : zX, zTb x [(0, 4, 5, 22)] → hL_undo x mc ms → zQg x (some .int) P mc ms → zV x 0 0 0 [some (.ref p1), none] [] K μ) : EL_undo l g mc ms [.ref p1] K μ P := zEv.ofW hl (by decide) rfl (Nat.le_of_ble_eq_true rfl) (fun x _ _ => body x)
theorem eL_undo_0 {x : zX} {MC MS cs sl : Nat} {st : List Value} {K : zK} {μ : zF} {l1 : Option Value} {a : Nat} (hC : hL_undo x MC MS) (k : zV x cs sl 1 [some (.ref a), l1] (.ref a :: st) K μ) : zV x cs sl 0 [some (.ref a), l1] st K μ := zv_aload_n hC dL_undo_0 rfl rfl k
theorem eL_undo_1 {x : zX} {MC MS cs sl : Nat} {st : List Value} {K : zK} {μ : zF} {l0 l1 : Option Value} {b : Nat} {P : Option Value → zK → zF → Prop} {mc ms : Nat} {PX : String → zK → zF → Prop} (hC : hL_undo x MC MS) (hcat : (st.map fun v => v.category).sum ≤ 8) (hcm : cs + mc ≤ MC) (hsm : sl + ms ≤ MS) (hO : zO K b 8) (hE : QX8_undo (xl x) (xg x) mc ms [.ref b] K μ P PX) (kx : ∀ (E : String) (K1 : zK) (μ1 : zF), PX E K1 μ1 → ∃ h, zHd x RL 1 E h ∧ ∀ q, zV x (cs + mc) (sl + ms) h [l0, l1] [.ref q] K1 μ1) (kk : ∀ (v : Option Value) (K1 : zK) (μ1 : zF), P v K1 μ1 → zV x (cs + mc) (sl + ms) 4 [l0, l1] (v.toList ++ st) K1 μ1) : zV x cs sl 1 [l0, l1] (.ref b :: st) K μ := zct_V hC (zgV zw_526 zw_527 zw_528 zw_2 zw_529) rfl (by decide +kernel) ⟨Nat.le_of_ble_eq_true rfl, Nat.le_of_ble_eq_true rfl⟩ (ci := 8) rfl rfl (by decide) (n := 0) (As := []) rfl dL_undo_1 rfl rfl hcat hcm hsm hO hE kx kk
theorem eL_undo_4 {x : zX} {MC MS cs sl : Nat} {K : zK} {μ : zF} {l0 l1 : Option Value} {v : Int32} {P : Option Value → zK → zF → Prop} {mc ms : Nat} (hC : hL_undo x MC MS) (hQ : zQg x (some .int) P mc ms) (hc : cs ≤ mc) (hs : sl ≤ ms) (hp : P (some (.int v)) K μ) : zV x cs sl 4 [l0, l1] [.int v] K μ := zr_i hC hQ dL_undo_4 hc hs hp
theorem eL_undo_5 {x : zX} {MC MS cs sl : Nat} {st : List Value} {K : zK} {μ : zF} {l1 : Option Value} {v : Nat} {u : Nat} (hC : hL_undo x MC MS) (k : zV x cs sl 6 [some (.ref u), some (.ref v)] st K μ) : zV x cs sl 5 [some (.ref u), l1] (.ref v :: st) K μ := zv_astore_n hC dL_undo_5 rfl rfl (Nat.le_of_ble_eq_true rfl) rfl k
theorem eL_undo_6 {x : zX} {MC MS cs sl : Nat} {st : List Value} {K : zK} {μ : zF} {l0 l1 : Option Value} (hC : hL_undo x MC MS) (k : zV x cs sl 8 [l0, l1] (.int (-1000001) :: st) K μ) : zV x cs sl 6 [l0, l1] st K μ := zv_ldc hC (List.mem_cons_of_mem _ zw_235) dL_undo_6 k
theorem eL_undo_8 {x : zX} {MC MS cs sl : Nat} {K : zK} {μ : zF} {l0 l1 : Option Value} {v : Int32} {P : Option Value → zK → zF → Prop} {mc ms : Nat} (hC : hL_undo x MC MS) (hQ : zQg x (some .int) P mc ms) (hc : cs ≤ mc) (hs : sl ≤ ms) (hp : P (some (.int v)) K μ) : zV x cs sl 8 [l0, l1] [.int v] K μ := zr_i hC hQ dL_undo_8 hc hs hp
set_option maxHeartbeats 1000000 in
theorem vL_undo {l : Launch} {g : zG} (hl : l.stackTraces = false) {K : zK} {μ : zF} {x : Nat} {S S' : zMs} {r : Int32}  (h : zX8 K μ x S) (e : zot zc1 (zdo_undo S) S = (r, S')) : EL_undo l g 1 6 [.ref x] K μ (zAi r S' K μ x) := by
  refine nL_undo hl (fun z hT hC hQ => ?_)
  refine eL_undo_0 hC ?_
  refine eL_undo_1 hC (Nat.le_of_ble_eq_true rfl) (Nat.le_of_ble_eq_true rfl) (Nat.le_of_ble_eq_true rfl) h.o (vX8_undo hC.nt h) (fun E K1 μ1 hx => ?_) (zk_rp (fun r1 S1 K1 μ1 e1 e2 e3 e4 => ?_))
  · obtain rfl := zxo_undo hx.1
    refine ⟨5, zHd.a0 hC hT (by decide +kernel) (List.mem_cons_of_mem _ zw_415) (by decide) (by decide), fun q => ?_⟩
    refine eL_undo_5 hC ?_
    refine eL_undo_6 hC ?_
    exact eL_undo_8 hC hQ (Nat.le_of_ble_eq_true rfl) (Nat.le_of_ble_eq_true rfl) (zAi.ex e hx (by decide +kernel))
  · exact eL_undo_4 hC hQ (Nat.le_of_ble_eq_true rfl) (Nat.le_of_ble_eq_true rfl) (zAi.ok e e1 e2 e3 e4)
end ZL_undo
