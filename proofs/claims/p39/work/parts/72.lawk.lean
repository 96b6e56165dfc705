/-! ===== handlers: an exception taken by a row of the method's own table ===== -/
def zTb (x : zX) (hh : List (Nat × Nat × Nat × Nat)) : Prop := (xc x).exceptionTable.toList = tableOf hh
def zHd (x : zX) (own : String) (pc : Nat) (E : String) (h : Nat) : Prop := ∃ (pre : List ExceptionTableEntry) (t : ExceptionTableEntry) (suf : List ExceptionTableEntry), (xc x).exceptionTable.toList = pre ++ t :: suf ∧ (∀ z ∈ pre, covers z pc = false ∨ (z.catchType ≠ 0 ∧ ∃ nm : String, (Cond.classLink own z.catchType nm).before (xa x) (xs x) = true ∧ va_Nc E nm (xs x))) ∧ covers t pc = true ∧ t.catchType ≠ 0 ∧ (Cond.classLink own t.catchType E).before (xa x) (xs x) = true ∧ (Cond.castable E E).before (xa x) (xs x) = true ∧ t.handlerPc = h
section ZHD
variable {x : zX} {Ts : List Cond} {own : String} {cc : ByteArray} {nL F Lc MC MS pc : Nat}
theorem zHd.a0 (hC : zH x Ts own cc nL F Lc MC MS) {a b h t : Nat} {r : List (Nat × Nat × Nat × Nat)} {E : String} (ht : zTb x ((a, b, h, t) :: r)) (hE : E ∈ zE3) (hw : Cond.classLink own t E ∈ Ts) (h0 : t ≠ 0) (hc : covers (⟨a, b, h, t⟩ : ExceptionTableEntry) pc = true) : zHd x own pc E h :=
  ⟨[], ⟨a, b, h, t⟩, tableOf r, ht, fun z hz => (nomatch hz), hc, h0, hC.hts _ hw, (hC.zs.2.2.2.2.2.2.2.1 E hE).use, rfl⟩
theorem zHd.a1 (hC : zH x Ts own cc nL F Lc MC MS) {a b h t a1 b1 h1 t1 : Nat} {r : List (Nat × Nat × Nat × Nat)} {E E1 : String} (ht : zTb x ((a1, b1, h1, t1) :: (a, b, h, t) :: r)) (hE : E ∈ zE3) (hw1 : Cond.classLink own t1 E1 ∈ Ts) (h01 : t1 ≠ 0) (hn1 : (E, E1) ∈ zNc) (hw : Cond.classLink own t E ∈ Ts) (h0 : t ≠ 0) (hc : covers (⟨a, b, h, t⟩ : ExceptionTableEntry) pc = true) : zHd x own pc E h :=
  ⟨[⟨a1, b1, h1, t1⟩], ⟨a, b, h, t⟩, tableOf r, ht, fun z hz => by
    rw [List.mem_singleton.mp hz]
    exact Or.inr ⟨h01, E1, hC.hts _ hw1, hC.zs.2.2.2.2.2.2.1 _ hn1⟩, hc, h0, hC.hts _ hw, (hC.zs.2.2.2.2.2.2.2.1 E hE).use, rfl⟩
theorem zHd.a2 (hC : zH x Ts own cc nL F Lc MC MS) {a b h t a1 b1 h1 t1 a2 b2 h2 t2 : Nat} {r : List (Nat × Nat × Nat × Nat)} {E E1 E2 : String} (ht : zTb x ((a1, b1, h1, t1) :: (a2, b2, h2, t2) :: (a, b, h, t) :: r)) (hE : E ∈ zE3) (hw1 : Cond.classLink own t1 E1 ∈ Ts) (h01 : t1 ≠ 0) (hn1 : (E, E1) ∈ zNc) (hw2 : Cond.classLink own t2 E2 ∈ Ts) (h02 : t2 ≠ 0) (hn2 : (E, E2) ∈ zNc) (hw : Cond.classLink own t E ∈ Ts) (h0 : t ≠ 0) (hc : covers (⟨a, b, h, t⟩ : ExceptionTableEntry) pc = true) : zHd x own pc E h :=
  ⟨[⟨a1, b1, h1, t1⟩, ⟨a2, b2, h2, t2⟩], ⟨a, b, h, t⟩, tableOf r, ht, fun z hz => by
    rcases List.mem_cons.mp hz with q | q
    · rw [q]
      exact Or.inr ⟨h01, E1, hC.hts _ hw1, hC.zs.2.2.2.2.2.2.1 _ hn1⟩
    · rw [List.mem_singleton.mp q]
      exact Or.inr ⟨h02, E2, hC.hts _ hw2, hC.zs.2.2.2.2.2.2.1 _ hn2⟩, hc, h0, hC.hts _ hw, (hC.zs.2.2.2.2.2.2.2.1 E hE).use, rfl⟩
end ZHD
section ZEW
variable {l : Launch} {g : zG} {y : MethodName} {ws ws' : List Cond} {cc : ByteArray} {maxL F Lc mc ms : Nat} {ret : Option FieldType} {hh : List (Nat × Nat × Nat × Nat)} {As : List Value} {K : zK} {μ : zF} {P : Option Value → zK → zF → Prop}
theorem zEv.ofW (hl : l.stackTraces = false) (hy : plainName y.cls = true) (hw : ws = Cond.codeWith y cc maxL ret hh :: ws') (ha : (lg_sl As).length ≤ maxL)
    (body : ∀ x : zX, xl x = l → xg x = g → zTb x hh → zH x ws y.cls cc maxL F Lc mc ms → zQg x ret P mc ms → zV x 0 0 0 (zEn maxL As) [] K μ) : zEv l g y ws F Lc mc ms As K μ P := by
  refine va_MetW hy hw ?_
  intro p e s m args below meth c s₁ B hml hv
  have ht := vx_table (x := y) B (atoms_spec (ws := ws) B.pre _ (by rw [hw]; exact List.mem_cons_self))
  obtain ⟨rfl, hR, hS⟩ := hv
  have h := body (p, l, e, zRm F Lc mc ms, s, m, As.toArray, below, meth, c, MQ below (zQc g P) As.toArray s mc ms (zA g), g) rfl rfl ht
    ⟨B.exec, B.bytes, hml, findClass_of_methodNamed B.named, atoms_spec (ws := ws) B.pre, B.notSynchronized, Nat.le_refl _, Nat.le_refl _, Nat.le_refl _, Nat.le_refl _, hS, hl⟩ ⟨B.returns, fun _ _ _ _ _ h => h⟩
  rw [lg_entry_eq]
  exact h s.heap [] _ hR va_S.rf (zEn_ls As ha)
end ZEW
section ZCT
variable {x : zX} {Ts : List Cond} {own : String} {cc : ByteArray} {nL F Lc MC MS cells slots pc : Nat} {ls : List (Option Value)} {st : List Value} {K : zK} {μ : zF}
variable {y : MethodName} {bytes : ByteArray} {maxL F' Lc' mc' ms' n ix : Nat} {ret' : Option FieldType} {hh : List (Nat × Nat × Nat × Nat)} {ws ws' : List Cond} {As rest st0 : List Value} {P' : Option Value → zK → zF → Prop} {PX' : String → zK → zF → Prop} {C : String} {b ci : Nat} {r : vw_C}
theorem zct_V (hC : zH x Ts own cc nL F Lc MC MS) (hG : GoodIn Ts (wsV own ix C y ws)) (hw : ws = Cond.code y bytes maxL ret' :: ws') (hd : y.cls = C ∧ y.cls ≠ "java/lang/invoke/MethodHandle" ∧ y.cls ≠ "java/lang/invoke/VarHandle" ∧ (parseMethodDescriptor y.desc).map (fun d => d.parameters.length) = some n) (hr : F' + 1 ≤ F ∧ 8 + (maxL + 11) + Lc' ≤ Lc)
    (hcl : vwCl[ci]? = some r) (hCr : r.1 = C) (hci : ci < 10) (hn : As.length = n) (d : decode cc pc = .ok (.invokevirtual ix, 3)) (hnl : ls.length = nL) (hst : st0 = As.reverse ++ .ref b :: rest) (hcat : (rest.map fun v => v.category).sum ≤ 8) (hcm : cells + mc' ≤ MC) (hsm : slots + ms' ≤ MS) (hO : zO K b ci)
    (hE : zEx (xl x) (xg x) y ws F' Lc' mc' ms' (.ref b :: As) K μ P' PX') (kx : ∀ (E : String) (K' : zK) (μ' : zF), PX' E K' μ' → ∃ h, zHd x own pc E h ∧ ∀ q, zV x (cells + mc') (slots + ms') h ls [.ref q] K' μ') (kk : ∀ (v : Option Value) (K' : zK) (μ' : zF), P' v K' μ' → zV x (cells + mc') (slots + ms') (pc + 3) ls (v.toList ++ rest) K' μ') : zV x cells slots pc ls st0 K μ := by
  intro H locs la hR hS hl
  obtain ⟨q0, hq⟩ := zplace (g := xg x) (μ := μ) hO.1
  rw [zobj hO hci] at hq
  subst hCr
  have hr := vx_runV (C := r.1) (b := b) (As := As) (rest := rest) (g := F0 (xm x) pc la st0) (cells := cells) (slots := slots) (locs := locs) (p := xp x) (e := xe x) (below := xb x) (meth := xme x) ⟨hC.1, hC.2.1, hC.2.2.1, hC.ow, hC.hts⟩ hE (cwV n hC.hts hG hw rfl rfl hd ⟨Nat.le_trans hr.1 hC.2.2.2.2.2.2.1, Nat.le_trans hr.2 hC.2.2.2.2.2.2.2.1⟩) ⟨zPc_blind, va_recv hC.kk hR.1 hcl hq, zPc_go hC hR hS⟩ rfl hn (hl.1.trans hnl) hst (lv_room hcat) d ⟨Nat.le_trans hcm hC.2.2.2.2.2.2.2.2.1, Nat.le_trans hsm hC.2.2.2.2.2.2.2.2.2.1⟩
  intro T hT X
  rcases hr T hT X with ⟨v, st₀, t, T', L, h0, X', hL, e1, e2, ⟨⟨v', K', μ', hv, hp, hb⟩, hz, hk⟩, stp⟩ | ⟨q, st₀, t, T', L, E, ce, h0, X', hL, e1, e2, ⟨⟨K', μ', hp, hb⟩, hz, hk⟩, hce, hcv, hcl, stp⟩
  · cases hv
    rw [h0] at hz hk
    obtain ⟨t2, a1, b1⟩ := kk v K' μ' hp T'.heap (locs ++ L) la (by rw [e1]; exact hb)
      ⟨Nat.le_trans hS.1 (by rw [e1]; exact hz), fun q h1 h2 => by rw [e1, hk q (Nat.lt_of_lt_of_le h1 hS.1) h2]; exact hS.2.1 q h1 h2, fun q hq => by
        rcases List.mem_append.mp hq with h | h
        · exact hS.2.2 q h
        · exact hL q h⟩ hl T' rfl X'
    exact ⟨t2, stp t2 a1, b1⟩
  · rw [h0] at hz hk
    have hS1 : va_S (zA (xg x)) (xs x).heap T'.heap (locs ++ L) := ⟨Nat.le_trans hS.1 (by rw [e1]; exact hz), fun q h1 h2 => by rw [e1, hk q (Nat.lt_of_lt_of_le h1 hS.1) h2]; exact hS.2.1 q h1 h2, fun q hq => by
        rcases List.mem_append.mp hq with h | h
        · exact hS.2.2 q h
        · exact hL q h⟩
    obtain ⟨h9, ⟨pre, tt, suf, g1, g2, g3, g4, g5, g6, rfl⟩, hV⟩ := kx E K' μ' hp
    have kx2 : vx_W (xp x) (xl x) (xe x) (xR x) (xs x) (xm x) (xa x) (xb x) (xme x) (xc x) T'.heap (locs ++ L) (cells + mc') (slots + ms') (xQ x) (F0 (xm x) pc la rest) q :=
      vx_catch hC.ow pre tt suf g1 g2 g3 g4 g5 g6 (by rw [e1]; exact hce) hcv hcl (hV q T'.heap (locs ++ L) la (by rw [e1]; exact hb) hS1 hl)
    obtain ⟨t2, a1, b1⟩ := kx2 T' rfl X'
    exact ⟨t2, stp.trans a1, b1⟩
theorem zc_SW (hC : zH x Ts own cc nL F Lc MC MS) (hG : GoodIn Ts (va_wsS own ix y ws)) (hw : ws = Cond.codeWith y bytes maxL ret' hh :: ws') (hd : y.cls ≠ "java/lang/invoke/MethodHandle" ∧ y.cls ≠ "java/lang/invoke/VarHandle" ∧ (parseMethodDescriptor y.desc).map (fun d => d.parameters.length) = some n) (hr : F' + 1 ≤ F ∧ 8 + (maxL + 11) + Lc' ≤ Lc)
    (hn : As.length = n) (d : decode cc pc = .ok (.invokestatic ix, 3)) (hnl : ls.length = nL) (hst : st0 = As.reverse ++ rest) (hcat : (rest.map fun v => v.category).sum ≤ 8) (hcm : cells + mc' ≤ MC) (hsm : slots + ms' ≤ MS)
    (hE : zEv (xl x) (xg x) y ws F' Lc' mc' ms' As K μ P') (kk : ∀ (v : Option Value) (K' : zK) (μ' : zF), P' v K' μ' → zV x (cells + mc') (slots + ms') (pc + 3) ls (v.toList ++ rest) K' μ') : zV x cells slots pc ls st0 K μ := by
  intro H locs la hR hS hl
  refine zback (vx_runSW (As := As) ⟨hC.1, hC.2.1, hC.2.2.1, hC.ow, hC.hts⟩ hE (vx_cwSW n hC.hts hG hw rfl rfl hd ⟨Nat.le_trans hr.1 hC.2.2.2.2.2.2.1, Nat.le_trans hr.2 hC.2.2.2.2.2.2.2.1⟩) ⟨zPc_blind, zPc_go hC hR hS⟩ rfl hn (hl.1.trans hnl) hst (lv_room hcat) d ⟨Nat.le_trans hcm hC.2.2.2.2.2.2.2.2.1, Nat.le_trans hsm hC.2.2.2.2.2.2.2.2.2.1⟩) hS hl kk
/-! the script; the switch -/
def zScr (x : zX) (b L : Nat) (f : Nat → Int32) : Prop := va_X b L f (xs x) (xs x).heap ∧ b < (xs x).heap.size ∧ ¬ zA (xg x) b ∧ L ≤ 260
theorem zv_sld (hC : zH x Ts own cc nL F Lc MC MS) {b L j : Nat} {f : Nat → Int32} {i : Int32} (d : decode cc pc = .ok (.iaload, 1)) (hs : zScr x b L f) (hi : i = nI j) (hj : j < L) (kk : zV x cells slots (pc + 1) ls (.int (f j) :: st) K μ) : zV x cells slots pc ls (.int i :: .ref b :: st) K μ := fun H locs la hR hS hl => by
  have hL := hs.2.2.2
  refine va_sld hC.1 hC.2.1 hs.1 hs.2.1 hs.2.2.1 hS (by rw [hi]; exact vp_in_nI hj (by omega)) d ?_
  rw [hi, nI_clamp (by omega)]
  exact kk H locs la hR hS hl
theorem zv_slen (hC : zH x Ts own cc nL F Lc MC MS) {b L : Nat} {f : Nat → Int32} (d : decode cc pc = .ok (.arraylength, 1)) (hs : zScr x b L f) (kk : zV x cells slots (pc + 1) ls (.int (nI L) :: st) K μ) : zV x cells slots pc ls (.ref b :: st) K μ := fun H locs la hR hS hl => va_slen hC.1 hC.2.1 hs.1 hs.2.1 hs.2.2.1 hS d (kk H locs la hR hS hl)
theorem zv_sw (hC : zH x Ts own cc nL F Lc MC MS) {dflt : Int} {hi j tgt len : Nat} {offs : Array Int} {off : Int} (d : decode cc pc = .ok (.tableswitch dflt 0 hi offs, len)) (hj : j ≤ hi) (h2 : hi < 2 ^ 31) (ho : offs[j]? = some off) (ht : (pc : Int) + off = (tgt : Int)) (kk : zV x cells slots tgt ls st K μ) : zV x cells slots pc ls (.int (nI j) :: st) K μ := fun H locs la hR hS hl => by
  have e : (nI j).toInt = j := nI_toInt (by omega)
  exact lv_tableIn hC.1 hC.2.1 d (by rw [e]; omega) (by rw [e]; omega) (by rw [e]; simpa using ho) ht (kk H locs la hR hS hl)
theorem zv_swd (hC : zH x Ts own cc nL F Lc MC MS) {dflt : Int} {hi j tgt len : Nat} {offs : Array Int} (d : decode cc pc = .ok (.tableswitch dflt 0 hi offs, len)) (hj : hi < j) (h2 : j < 2 ^ 31) (ht : (pc : Int) + dflt = (tgt : Int)) (kk : zV x cells slots tgt ls st K μ) : zV x cells slots pc ls (.int (nI j) :: st) K μ := fun H locs la hR hS hl => by
  have e : (nI j).toInt = j := nI_toInt (by omega)
  exact lv_tableOut hC.1 hC.2.1 d (Or.inr (by rw [e]; omega)) ht (kk H locs la hR hS hl)
theorem zv_ishr (hC : zH x Ts own cc nL F Lc MC MS) {v w : Int32} (d : decode cc pc = .ok (.ishr, 1)) (k : zV x cells slots (pc + 1) ls (.int (v >>> (w &&& 31)) :: st) K μ) : zV x cells slots pc ls (.int w :: .int v :: st) K μ := fun H locs la hR hS hl => lv_ishr hC.1 hC.2.1 d (k H locs la hR hS hl)
theorem zv_ineg (hC : zH x Ts own cc nL F Lc MC MS) {v : Int32} (d : decode cc pc = .ok (.ineg, 1)) (k : zV x cells slots (pc + 1) ls (.int (-v) :: st) K μ) : zV x cells slots pc ls (.int v :: st) K μ := fun H locs la hR hS hl => lv_ineg hC.1 hC.2.1 d (k H locs la hR hS hl)
theorem zv_irem (hC : zH x Ts own cc nL F Lc MC MS) {v w : Int32} (h0 : ¬ w = 0) (d : decode cc pc = .ok (.irem, 1)) (k : zV x cells slots (pc + 1) ls (.int (v - v / w * w) :: st) K μ) : zV x cells slots pc ls (.int w :: .int v :: st) K μ := fun H locs la hR hS hl => lv_irem hC.1 hC.2.1 d h0 (k H locs la hR hS hl)
theorem zv_lload (hC : zH x Ts own cc nL F Lc MC MS) {i : Nat} {v : Int64} (d : decode cc pc = .ok (.lload i, 2)) (hk : ls[i]? = some (some (.long v))) (k : zV x cells slots (pc + 2) ls (.long v :: st) K μ) : zV x cells slots pc ls st K μ := fun H locs la hR hS hl => lv_lload hC.1 hC.2.1 d (hl.at hk) (k H locs la hR hS hl)
theorem zv_lstore (hC : zH x Ts own cc nL F Lc MC MS) {i : Nat} {v : Int64} {ls' : List (Option Value)} (d : decode cc pc = .ok (.lstore i, 2)) (hn : zNl ls i = true) (hlt : i + 1 < ls.length) (hs : (ls.set (i + 1) none).set i (some (.long v)) = ls') (k : zV x cells slots (pc + 2) ls' st K μ) : zV x cells slots pc ls (.long v :: st) K μ := by
  subst hs
  exact fun H locs la hR hS hl => lv_lstore hC.1 hC.2.1 d hl.has hlt rfl (fun la' h' => k H locs la' hR hS (zLs.store2 hn hlt h'))
end ZCT

/-! ===== answers: what a call of the law's helpers gives ===== -/
theorem zX8.o {K : zK} {μ : zF} {x : Nat} {S : zMs} (h : zX8 K μ x S) : zO K x 8 := h.choose_spec.1.o
theorem zX8.k {K : zK} {μ : zF} {x : Nat} {S : zMs} (h : zX8 K μ x S) : zMok S := h.choose_spec.2.2
def zAi (r : Int32) (S' : zMs) (K : zK) (μ : zF) (x : Nat) : Option Value → zK → zF → Prop := fun v K' μ' => v = some (.int r) ∧ zKe K K' (x + 58) ∧ zX8 K' μ' x S' ∧ zAg μ μ' x (x + 89)
def zAl (r : Int64) (S' : zMs) (K : zK) (μ : zF) (x : Nat) : Option Value → zK → zF → Prop := fun v K' μ' => v = some (.long r) ∧ zKe K K' (x + 58) ∧ zX8 K' μ' x S' ∧ zAg μ μ' x (x + 89)
/-- since K0, μ0 nothing but the object's own has changed -/
def zBd (K0 : zK) (μ0 : zF) (K : zK) (μ : zF) (x : Nat) (S : zMs) : Prop := zKe K0 K (x + 58) ∧ zX8 K μ x S ∧ zAg μ0 μ x (x + 89)
theorem zBd.x {K0 K : zK} {μ0 μ : zF} {x : Nat} {S : zMs} (h : zBd K0 μ0 K μ x S) : zX8 K μ x S := h.2.1
theorem zBd.o {K0 K : zK} {μ0 μ : zF} {x : Nat} {S : zMs} (h : zBd K0 μ0 K μ x S) : zO K x 8 := h.2.1.o
theorem zBd.i {K0 K : zK} {μ0 μ : zF} {x a c n : Nat} {S : zMs} (h : zBd K0 μ0 K μ x S) (q : zI K0 a c n) : zI K a c n := h.1.i q
theorem zBd.g {K0 K : zK} {μ0 μ : zF} {x a j : Nat} {S : zMs} (h : zBd K0 μ0 K μ x S) (q : x + 89 ≤ a) : μ a j = μ0 a j := h.2.2 a j (by omega)
theorem zBd.rf {K : zK} {μ : zF} {x : Nat} {S : zMs} (h : zX8 K μ x S) : zBd K μ K μ x S := ⟨zKe.refl _ _, h, zAg.refl _ _ _⟩
theorem zBd.ai {K0 K : zK} {μ0 μ : zF} {x : Nat} {S : zMs} {r : Int32} (h : zBd K0 μ0 K μ x S) : zAi r S K0 μ0 x (some (.int r)) K μ := ⟨rfl, h⟩
theorem zBd.al {K0 K : zK} {μ0 μ : zF} {x : Nat} {S : zMs} {r : Int64} (h : zBd K0 μ0 K μ x S) : zAl r S K0 μ0 x (some (.long r)) K μ := ⟨rfl, h⟩
theorem zk_a {z : zX} {c1 s1 p1 x : Nat} {ls : List (Option Value)} {rest : List Value} {K0 K : zK} {μ0 μ : zF} {S S' : zMs} {r : Int32} (hB : zBd K0 μ0 K μ x S) (kk : ∀ (K1 : zK) (μ1 : zF), zBd K0 μ0 K1 μ1 x S' → zV z c1 s1 p1 ls (.int r :: rest) K1 μ1) : ∀ (v : Option Value) (K1 : zK) (μ1 : zF), zAi r S' K μ x v K1 μ1 → zV z c1 s1 p1 ls (v.toList ++ rest) K1 μ1 := by
  rintro v K1 μ1 ⟨rfl, e2, e3, e4⟩
  exact kk K1 μ1 ⟨hB.1.trans e2, e3, hB.2.2.trans e4⟩
theorem zk_al {z : zX} {c1 s1 p1 x : Nat} {ls : List (Option Value)} {rest : List Value} {K0 K : zK} {μ0 μ : zF} {S S' : zMs} {r : Int64} (hB : zBd K0 μ0 K μ x S) (kk : ∀ (K1 : zK) (μ1 : zF), zBd K0 μ0 K1 μ1 x S' → zV z c1 s1 p1 ls (.long r :: rest) K1 μ1) : ∀ (v : Option Value) (K1 : zK) (μ1 : zF), zAl r S' K μ x v K1 μ1 → zV z c1 s1 p1 ls (v.toList ++ rest) K1 μ1 := by
  rintro v K1 μ1 ⟨rfl, e2, e3, e4⟩
  exact kk K1 μ1 ⟨hB.1.trans e2, e3, hB.2.2.trans e4⟩
theorem zk_q {z : zX} {c1 s1 p1 x : Nat} {ls : List (Option Value)} {rest : List Value} {K0 K : zK} {μ0 μ : zF} {S S' : zMs} {r : Int32} {o : zOu} (hB : zBd K0 μ0 K μ x S) (e : o = .inl (r, S')) (kk : ∀ (K1 : zK) (μ1 : zF), zBd K0 μ0 K1 μ1 x S' → zV z c1 s1 p1 ls (.int r :: rest) K1 μ1) : ∀ (v : Option Value) (K1 : zK) (μ1 : zF), zRP o K μ x v K1 μ1 → zV z c1 s1 p1 ls (v.toList ++ rest) K1 μ1 := by
  rintro v K1 μ1 ⟨r1, S1, e1, rfl, e2, e3, e4⟩
  rw [e] at e1
  cases e1
  exact kk K1 μ1 ⟨hB.1.trans e2, e3, hB.2.2.trans e4⟩
/-- the helper's number of what is thrown -/
def zot (c : String → Int32) (o : zOu) (S : zMs) : Int32 × zMs := match o with
  | .inl q => q
  | .inr E => (c E, S)
theorem zAi.ok {c : String → Int32} {o : zOu} {K K1 : zK} {μ μ1 : zF} {x : Nat} {S S1 S' : zMs} {r r1 : Int32} (e : zot c o S = (r, S')) (e1 : o = .inl (r1, S1)) (e2 : zKe K K1 (x + 58)) (e3 : zX8 K1 μ1 x S1) (e4 : zAg μ μ1 x (x + 89)) : zAi r S' K μ x (some (.int r1)) K1 μ1 := by
  rw [e1] at e
  have e : (r1, S1) = (r, S') := e
  cases e
  exact ⟨rfl, e2, e3, e4⟩
theorem zAi.ex {c : String → Int32} {o : zOu} {K K1 : zK} {μ μ1 : zF} {x : Nat} {S S' : zMs} {r k : Int32} {E : String} (e : zot c o S = (r, S')) (hx : zRX o K μ x S E K1 μ1) (hc : c E = k) : zAi r S' K μ x (some (.int k)) K1 μ1 := by
  rw [hx.1] at e
  have e : (c E, S) = (r, S') := e
  cases e
  exact ⟨by rw [hc], hx.2⟩
def zc1 : String → Int32 := fun _ => -1000001
def zcIA : String → Int32 := fun E => if E = zxI then -1000001 else -1000002
def zcIAS : String → Int32 := fun E => if E = zxI then -1000001 else if E = zxA then -1000002 else -1000003
theorem zk_rp {z : zX} {c1 s1 p1 x : Nat} {ls : List (Option Value)} {rest : List Value} {o : zOu} {K : zK} {μ : zF} (kk : ∀ (r : Int32) (S1 : zMs) (K1 : zK) (μ1 : zF), o = .inl (r, S1) → zKe K K1 (x + 58) → zX8 K1 μ1 x S1 → zAg μ μ1 x (x + 89) → zV z c1 s1 p1 ls (.int r :: rest) K1 μ1) : ∀ (v : Option Value) (K1 : zK) (μ1 : zF), zRP o K μ x v K1 μ1 → zV z c1 s1 p1 ls (v.toList ++ rest) K1 μ1 := by
  rintro v K1 μ1 ⟨r, S1, e1, rfl, e2, e3, e4⟩
  exact kk r S1 K1 μ1 e1 e2 e3 e4
theorem zix_at {k c : Nat} {f : Nat → zOu} (h : k < c) (hc : c < 2 ^ 31) : zix (nI k) c f = f k := by
  unfold zix
  rw [if_pos ⟨nI_pos (by omega), nI_lt h hc⟩, nI_clamp (by omega)]
theorem zix_no {k c : Nat} {f : Nat → zOu} (h : c ≤ k) (hk : k < 2 ^ 31) : zix (nI k) c f = .inr zxI := by
  unfold zix
  rw [if_neg (fun q => nI_nlt h hk q.2)]
theorem zrg_at {k a b : Nat} {f : Nat → zOu} (h1 : a ≤ k) (h2 : k ≤ b) (hb : b < 2 ^ 31) : zrg (nI k) a b f = f k := by
  unfold zrg
  rw [if_pos ⟨nI_nlt h1 (by omega), nI_le h2 hb⟩, nI_clamp (by omega)]
