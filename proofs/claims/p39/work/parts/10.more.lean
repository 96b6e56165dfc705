/-! ===== more rows: references, throws ===== -/
theorem zi_m1 (v : Int32) : v + Int32.ofInt (-1) = v - nI 1 := by
  rw [Int32.sub_eq_add_neg]; rfl
theorem zn_z {v : Int32} (h : v = 0 ∨ v = 1) : narrow .boolean (.int v) = .int v := by
  rcases h with rfl | rfl <;> rfl
theorem zn_f {v : Int32} (h : v = 0 ∨ v = 1) : fits .boolean (.int v) = true := by
  rcases h with rfl | rfl <;> rfl
theorem zn_b {v : Int32} (h : v = 0 ∨ v = 1) : vp_nar .boolean v = v := by
  rcases h with rfl | rfl <;> rfl
def zgw (X : String) (w : Cond) : Bool := goodWord w || (decide (w = .castable X X) || zDc.any (fun y => decide (w = .declares y)))
theorem zat_222 : (vx_atS RX8 222 "java/lang/IndexOutOfBoundsException" ["java/lang/RuntimeException", "java/lang/Exception"]).all (zgw "java/lang/IndexOutOfBoundsException") = true := by decide +kernel
theorem zat_193 : (vx_atS RX8 193 "java/lang/IllegalArgumentException" ["java/lang/RuntimeException", "java/lang/Exception"]).all (zgw "java/lang/IllegalArgumentException") = true := by decide +kernel
theorem zat_74 : (vx_atS RX8 74 "java/lang/IllegalStateException" ["java/lang/RuntimeException", "java/lang/Exception"]).all (zgw "java/lang/IllegalStateException") = true := by decide +kernel
section ZM
variable {x : zX} {Ts : List Cond} {own : String} {cc : ByteArray} {nL F Lc MC MS cells slots pc : Nat} {ls : List (Option Value)} {st : List Value} {K : zK} {μ : zF}
theorem zv_idiv (hC : zH x Ts own cc nL F Lc MC MS) {v w : Int32} (h0 : ¬ w = 0) (d : decode cc pc = .ok (.idiv, 1)) (k : zV x cells slots (pc + 1) ls (.int (v / w) :: st) K μ) : zV x cells slots pc ls (.int w :: .int v :: st) K μ := fun H locs la hR hS hl => lv_idiv hC.1 hC.2.1 d h0 (k H locs la hR hS hl)
theorem zv_getr (hC : zH x Ts own cc nL F Lc MC MS) {ci k ix a b N : Nat} {C : String} {T : u_T} (hc : vwCl[ci]? = some (C, T, N)) (hin : ∀ w ∈ u_ws C T N, w ∈ Ts) (hk : k < N) (hci : ci < 10) (hw : Cond.fieldLink own ix (T k).1 (T k).2.1 (T k).2.2.1 ∈ Ts) (d : decode cc pc = .ok (.getfield ix, 3)) (hv : ∀ (r : Nat → Option Nat) (f : Nat → Int32), (zFs r f ci)[k]? = some (va_rf (r k))) (hO : zO K a ci) (hr : zr K a k b)
    (kk : zV x cells slots (pc + 3) ls (.ref b :: st) K μ) : zV x cells slots pc ls (.ref a :: st) K μ := zv_get hC hc hin hk hci hw d (by rw [hv, hr]; rfl) hO kk
theorem zv_getrN (hC : zH x Ts own cc nL F Lc MC MS) {ci k ix a b N : Nat} {C : String} {T : u_T} (hc : vwCl[ci]? = some (C, T, N)) (hin : ∀ w ∈ u_ws C T N, w ∈ Ts) (hk : k < N) (hci : ci < 10) (hw : (own, ix, (T k).1, (T k).2.1, (T k).2.2.1) ∈ zNf) (d : decode cc pc = .ok (.getfield ix, 3)) (hv : ∀ (r : Nat → Option Nat) (f : Nat → Int32), (zFs r f ci)[k]? = some (va_rf (r k))) (hO : zO K a ci) (hr : zr K a k b)
    (kk : zV x cells slots (pc + 3) ls (.ref b :: st) K μ) : zV x cells slots pc ls (.ref a :: st) K μ := zv_getN hC hc hin hk hci hw d (by rw [hv, hr]; rfl) hO kk
/-- an exception that leaves the method: what it brings is what the method may bring -/
def zXo (x : zX) (PX' : String → zK → zF → Prop) (c1 s1 : Nat) : Prop := ∃ (P : Option Value → zK → zF → Prop) (PX : String → zK → zF → Prop) (mc ms : Nat), zQx x P PX mc ms ∧ (∀ (E : String) (K' : zK) (μ' : zF), PX' E K' μ' → PX E K' μ') ∧ c1 ≤ mc ∧ s1 ≤ ms
theorem zXo.of {P : Option Value → zK → zF → Prop} {PX PX' : String → zK → zF → Prop} {mc ms c1 s1 : Nat} (hQ : zQx x P PX mc ms) (hc : c1 ≤ mc) (hs : s1 ≤ ms) (h : ∀ (E : String) (K' : zK) (μ' : zF), PX' E K' μ' → PX E K' μ') : zXo x PX' c1 s1 := ⟨P, PX, mc, ms, hQ, h, hc, hs⟩
variable {y : MethodName} {bytes : ByteArray} {maxL F' Lc' mc' ms' n ix : Nat} {ret' : Option FieldType} {ws ws' : List Cond} {As rest st0 : List Value} {P' : Option Value → zK → zF → Prop} {PX' : String → zK → zF → Prop} {C : String} {b ci : Nat} {r : vw_C}
theorem zbackx (hC : zH x Ts own cc nL F Lc MC MS) {H : Heap} {locs : List Loc} {la : Array Slot} {a : Array Value} (hr : vx_Run (xp x) (xl x) (xe x) (xR x) (xs x) (xm x) (xa x) (xb x) (xme x) (xc x) H locs cells slots mc' ms' (F0 (xm x) pc la st0) rest (zQc (xg x) P' a) (zXC (xg x) PX') (zA (xg x))) (hS : va_S (zA (xg x)) (xs x).heap H locs) (hl : zLs la ls) (hX : zXo x PX' (cells + mc') (slots + ms'))
    (kk : ∀ (v : Option Value) (K' : zK) (μ' : zF), P' v K' μ' → zV x (cells + mc') (slots + ms') (pc + 3) ls (v.toList ++ rest) K' μ') : zWx x H locs cells slots (F0 (xm x) pc la st0) := by
  intro T hT X
  rcases hr T hT X with ⟨v, st₀, t, T', L, h0, X', hL, e1, e2, ⟨⟨v', K', μ', hv, hp, hb⟩, hz, hk⟩, stp⟩ | ⟨q, st₀, t, T', L, E, ce, h0, X', hL, e1, e2, ⟨⟨K', μ', hp, hb⟩, hz, hk⟩, hce, hcv, hcl, stp⟩
  · cases hv
    rw [h0] at hz hk
    obtain ⟨t2, a1, b1⟩ := kk v K' μ' hp T'.heap (locs ++ L) la (by rw [e1]; exact hb)
      ⟨Nat.le_trans hS.1 (by rw [e1]; exact hz), fun q h1 h2 => by rw [e1, hk q (Nat.lt_of_lt_of_le h1 hS.1) h2]; exact hS.2.1 q h1 h2, fun q hq => by
        rcases List.mem_append.mp hq with h | h
        · exact hS.2.2 q h
        · exact hL q h⟩ hl T' rfl X'
    exact ⟨t2, stp t2 a1, b1⟩
  · rw [h0] at hz hk
    obtain ⟨P, PX, mc, ms, hQ, hPX, hc1, hs1⟩ := hX
    have hS1 : va_S (zA (xg x)) (xs x).heap T'.heap (locs ++ L) := ⟨Nat.le_trans hS.1 (by rw [e1]; exact hz), fun q h1 h2 => by rw [e1, hk q (Nat.lt_of_lt_of_le h1 hS.1) h2]; exact hS.2.1 q h1 h2, fun q hq => by
        rcases List.mem_append.mp hq with h | h
        · exact hS.2.2 q h
        · exact hL q h⟩
    have kx : vx_W (xp x) (xl x) (xe x) (xR x) (xs x) (xm x) (xa x) (xb x) (xme x) (xc x) T'.heap (locs ++ L) (cells + mc') (slots + ms') (xQ x) (F0 (xm x) pc la rest) q := by
      rw [hQ.2]
      exact vx_out (E := E) (fun z hz => absurd (hQ.1 z hz) id) hC.locks (by rw [e1]; exact hce) hcv hcl (fun t' ht' _ => ⟨⟨K', μ', hPX E K' μ' hp, by rw [ht', e1]; exact hb⟩, hS1.F ht'⟩) hS1.2.2 hc1 hs1
    obtain ⟨t2, a1, b1⟩ := kx T' rfl X'
    exact ⟨t2, stp.trans a1, b1⟩
theorem zcx_S (hC : zH x Ts own cc nL F Lc MC MS) (hG : GoodIn Ts (va_wsS own ix y ws)) (hw : ws = Cond.code y bytes maxL ret' :: ws') (hd : y.cls ≠ "java/lang/invoke/MethodHandle" ∧ y.cls ≠ "java/lang/invoke/VarHandle" ∧ (parseMethodDescriptor y.desc).map (fun d => d.parameters.length) = some n) (hr : F' + 1 ≤ F ∧ 8 + (maxL + 11) + Lc' ≤ Lc)
    (hn : As.length = n) (d : decode cc pc = .ok (.invokestatic ix, 3)) (hnl : ls.length = nL) (hst : st0 = As.reverse ++ rest) (hcat : (rest.map fun v => v.category).sum ≤ 8) (hcm : cells + mc' ≤ MC) (hsm : slots + ms' ≤ MS)
    (hE : zEx (xl x) (xg x) y ws F' Lc' mc' ms' As K μ P' PX') (hX : zXo x PX' (cells + mc') (slots + ms')) (kk : ∀ (v : Option Value) (K' : zK) (μ' : zF), P' v K' μ' → zV x (cells + mc') (slots + ms') (pc + 3) ls (v.toList ++ rest) K' μ') : zV x cells slots pc ls st0 K μ := by
  intro H locs la hR hS hl
  refine zbackx hC (vx_runS (As := As) ⟨hC.1, hC.2.1, hC.2.2.1, hC.ow, hC.hts⟩ hE (va_cwS n hC.hts hG hw rfl rfl hd ⟨Nat.le_trans hr.1 hC.2.2.2.2.2.2.1, Nat.le_trans hr.2 hC.2.2.2.2.2.2.2.1⟩) ⟨zPc_blind, zPc_go hC hR hS⟩ rfl hn (hl.1.trans hnl) hst (lv_room hcat) d ⟨Nat.le_trans hcm hC.2.2.2.2.2.2.2.2.1, Nat.le_trans hsm hC.2.2.2.2.2.2.2.2.2.1⟩) hS hl hX kk
theorem zv_throwS (hC : zH x Ts own cc nL F Lc MC MS) (hown : own = RX8) {ik is ic : Nat} {cls text : String} {P : Option Value → zK → zF → Prop} {PX : String → zK → zF → Prop} {mc ms : Nat} (hQ : zQx x P PX mc ms) (hcls : Bundle.fit cls = true) (hk : Cond.classLink own ik cls ∈ Ts) (hini : Cond.initialized cls ∈ Ts) (hstr : (is, text) ∈ zTx) (hat : ∀ w ∈ (vx_atS own ic cls ["java/lang/RuntimeException", "java/lang/Exception"]).filter goodWord, w ∈ Ts) (hall : (vx_atS own ic cls ["java/lang/RuntimeException", "java/lang/Exception"]).all (zgw cls) = true) (he3 : cls ∈ zE3)
    (d0 : decode cc pc = .ok (.new ik, 3)) (d3 : decode cc (pc + 3) = .ok (.dup, 1)) (d4 : decode cc (pc + 4) = .ok (.ldc is, 2)) (d6 : decode cc (pc + 6) = .ok (.invokespecial ic, 3)) (d9 : decode cc (pc + 9) = .ok (.athrow, 1)) (hF : 6 ≤ F) (hL : 90 ≤ Lc) (hnl : ls.length = nL) (hcat : (st.map fun v => v.category).sum ≤ 8) (hcm : cells + 1 ≤ MC) (hsm : slots + 6 ≤ MS) (hc : cells + 1 ≤ mc) (hs : slots + 6 ≤ ms) (hp : PX cls K μ) : zV x cells slots pc ls st K μ := by
  intro H locs la hR hS hl
  subst hown
  obtain ⟨sa, hsa⟩ := hC.zs.2.2.2.2.2.1 _ hstr
  have hall2 : ∀ w ∈ vx_atS RX8 ic cls ["java/lang/RuntimeException", "java/lang/Exception"], goodWord w = true ∨ w = .castable cls cls ∨ ∃ y ∈ zDc, w = .declares y := fun w hw => by
    have := List.all_eq_true.mp hall w hw
    unfold zgw at this
    rw [Bool.or_eq_true, Bool.or_eq_true, decide_eq_true_eq, List.any_eq_true] at this
    rcases this with h | h | ⟨y, h1, h2⟩
    · exact Or.inl h
    · exact Or.inr (Or.inl h)
    · exact Or.inr (Or.inr ⟨y, h1, of_decide_eq_true h2⟩)
  have hgood : ∀ w ∈ Cond.classLink RX8 ik cls :: Cond.initialized cls :: vx_atS RX8 ic cls ["java/lang/RuntimeException", "java/lang/Exception"], vx_ot w = true := by
    intro w hw
    rcases List.mem_cons.mp hw with rfl | hw
    · rfl
    · rcases List.mem_cons.mp hw with rfl | hw
      · rfl
      · rcases hall2 w hw with h | rfl | ⟨y, -, rfl⟩
        · unfold vx_ot; rw [h, Bool.or_true]
        · rfl
        · rfl
  have hat2 : ∀ w ∈ vx_atS RX8 ic cls ["java/lang/RuntimeException", "java/lang/Exception"], w.before (xa x) (xs x) = true := by
    intro w hw
    rcases hall2 w hw with h | rfl | ⟨y, hy, rfl⟩
    · exact hC.hts w (hat w (List.mem_filter.mpr ⟨hw, h⟩))
    · exact (hC.zs.2.2.2.2.2.2.2.1 cls he3).use
    · exact va_Nw.use rfl (hC.zs.2.2.2.2.2.2.2.2.1 y hy)
  show W _ _ _ _ _ _ _ _ _ _ _ _ _ _ (xQ x) _
  rw [hQ.2]
  exact vx_throwS (names := ["java/lang/RuntimeException", "java/lang/Exception"]) (A := zA (xg x)) hC.1 hC.2.1 hC.2.2.2.2.2.2.2.2.2.2.2 hC.ow hcls (by decide) (hC.hts _ hk) (hC.hts _ hini) hsa hat2 hgood hC.zs.2.2.1.1 hC.zs.2.2.1.2 hS (hl.1.trans (hnl.trans hC.2.2.1.symm)) d0 d3 d4 d6 d9 (fun z hz => absurd (hQ.1 z hz) id)
    (by show 5 < _; have := hC.2.2.2.2.2.2.1; omega) (by have := hC.2.2.2.2.2.2.2.1; simp only [List.length_cons, List.length_nil]; omega) (Nat.le_trans hcm hC.2.2.2.2.2.2.2.2.1) (Nat.le_trans hsm hC.2.2.2.2.2.2.2.2.2.1) hC.locks
    (fun t ht hz hk2 => ⟨⟨K, μ, hp, hR.1.kept (fun k q hq => hk2 q.1 (hR.1 k q hq).lt), hR.2⟩, ⟨Nat.le_trans hS.1 hz, fun q h1 h2 => by rw [hk2 q (Nat.lt_of_lt_of_le h1 hS.1)]; exact hS.2.1 q h1 h2⟩⟩) hS.2.2 hc hs
end ZM
