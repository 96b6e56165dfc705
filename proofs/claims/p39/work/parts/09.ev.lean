/-! ===== contracts of methods over the picture ===== -/
def zPc (g : zG) (As : List Value) (K : zK) (μ : zF) : Array Value → State → Prop := fun v U => v = As.toArray ∧ zR g K μ U.heap ∧ zSt g U U.heap
def zQc (g : zG) (P : Option Value → zK → zF → Prop) : Array Value → State → Outcome → State → Prop := fun _ st o t => (∃ (v : Option Value) (K' : zK) (μ' : zF), o = .returned v ∧ P v K' μ' ∧ zR g K' μ' t.heap) ∧ va_F (zA g) st t
def zXC (g : zG) (PX : String → zK → zF → Prop) : String → State → State → Prop := fun E st t => (∃ (K' : zK) (μ' : zF), PX E K' μ' ∧ zR g K' μ' t.heap) ∧ va_F (zA g) st t
abbrev zRm (F Lc mc ms : Nat) : Room := { frames := F, cells := mc, slots := ms, locals := Lc }
def zEv (l : Launch) (g : zG) (y : MethodName) (ws : List Cond) (F Lc mc ms : Nat) (As : List Value) (K : zK) (μ : zF) (P : Option Value → zK → zF → Prop) : Prop := Met l y ws (zRm F Lc mc ms) (zPc g As K μ) (zQc g P) mc ms (zA g)
def zEx (l : Launch) (g : zG) (y : MethodName) (ws : List Cond) (F Lc mc ms : Nat) (As : List Value) (K : zK) (μ : zF) (P : Option Value → zK → zF → Prop) (PX : String → zK → zF → Prop) : Prop := vx_Met l y ws (zRm F Lc mc ms) (zPc g As K μ) (zQc g P) (zXC g PX) mc ms (zA g)
/-- an int, nothing else changed; nothing but numbers changed -/
def zPi (r : Int32) (K : zK) (μ : zF) : Option Value → zK → zF → Prop := fun v K' μ' => v = some (.int r) ∧ K' = K ∧ μ' = μ
def zPl (r : Int64) (K : zK) (μ : zF) : Option Value → zK → zF → Prop := fun v K' μ' => v = some (.long r) ∧ K' = K ∧ μ' = μ
def zPw (K : zK) (Pm : zF → Prop) : Option Value → zK → zF → Prop := fun v K' μ' => v = none ∧ K' = K ∧ Pm μ'
def zPv (r : Int32) (K : zK) (Pm : zF → Prop) : Option Value → zK → zF → Prop := fun v K' μ' => v = some (.int r) ∧ K' = K ∧ Pm μ'
/-- the entry's locals -/
def zEn : Nat → List Value → List (Option Value)
  | n, [] => List.replicate n none
  | n, v :: r => match v with
    | .long w => some (.long w) :: none :: zEn (n - 2) r
    | .double w => some (.double w) :: none :: zEn (n - 2) r
    | .int w => some (.int w) :: zEn (n - 1) r
    | .ref w => some (.ref w) :: zEn (n - 1) r
    | w => some w :: zEn (n - 1) r
theorem zEn_spec : ∀ (vs : List Value) (n i : Nat), (lg_sl vs).length ≤ n → (zEn n vs).length = n ∧ ∀ (k : Nat) (v : Value), (zEn n vs)[k]? = some (some v) → (i + k, v) ∈ lv_args i vs
  | [], n, i, _ => by
    refine ⟨by simp [zEn], fun k v h => ?_⟩
    simp only [zEn] at h
    have h2 := List.mem_of_getElem? h
    have h3 := (List.mem_replicate.mp h2).2
    cases h3
  | w :: r, n, i, hn => by
    have hc := lv_cat w
    have hlen : (lg_sl (w :: r)).length = (if w.category = 2 then 2 else 1) + (lg_sl r).length := by
      simp only [lg_sl, List.flatMap_cons, List.length_append]
      split <;> simp
    rw [hlen] at hn
    rcases hc with hc | hc
    · have hz : zEn n (w :: r) = some w :: zEn (n - 1) r := by
        cases w <;> first | rfl | (simp [Value.category] at hc)
      rw [if_neg (by omega)] at hn
      obtain ⟨h1, h2⟩ := zEn_spec r (n - 1) (i + 1) (by omega)
      rw [hz]
      refine ⟨by rw [List.length_cons, h1]; omega, fun k v h => ?_⟩
      rw [show lv_args i (w :: r) = (i, w) :: lv_args (if w.category = 2 then i + 2 else i + 1) r from rfl, if_neg (by omega)]
      cases k with
      | zero => rw [List.getElem?_cons_zero] at h; cases h; exact List.mem_cons_self
      | succ k =>
        rw [List.getElem?_cons_succ] at h
        have := h2 k v h
        rw [show i + (k + 1) = i + 1 + k by omega]
        exact List.mem_cons_of_mem _ this
    · have hz : zEn n (w :: r) = some w :: none :: zEn (n - 2) r := by
        cases w <;> first | rfl | (simp [Value.category] at hc)
      rw [if_pos hc] at hn
      obtain ⟨h1, h2⟩ := zEn_spec r (n - 2) (i + 2) (by omega)
      rw [hz]
      refine ⟨by rw [List.length_cons, List.length_cons, h1]; omega, fun k v h => ?_⟩
      rw [show lv_args i (w :: r) = (i, w) :: lv_args (if w.category = 2 then i + 2 else i + 1) r from rfl, if_pos hc]
      match k with
      | 0 => rw [List.getElem?_cons_zero] at h; cases h; exact List.mem_cons_self
      | 1 => rw [List.getElem?_cons_succ, List.getElem?_cons_zero] at h; cases h
      | k + 2 =>
        rw [List.getElem?_cons_succ, List.getElem?_cons_succ] at h
        have := h2 k v h
        rw [show i + (k + 2) = i + 2 + k by omega]
        exact List.mem_cons_of_mem _ this
theorem zEn_ls (vs : List Value) {n : Nat} (h : (lg_sl vs).length ≤ n) : zLs ((lg_sl vs ++ List.replicate (n - (lg_sl vs).length) Slot.unset).toArray) (zEn n vs) := by
  obtain ⟨h1, h2, h3⟩ := lv_entry vs h
  obtain ⟨h4, h5⟩ := zEn_spec vs n 0 h
  refine ⟨by rw [h1, h4], h2, fun k v hk => h3 (k, v) ?_⟩
  have := h5 k v hk
  rwa [Nat.zero_add] at this
/-- a method's end is enough -/
def zQg (x : zX) (ret : Option FieldType) (P : Option Value → zK → zF → Prop) (mc ms : Nat) : Prop := (xme x).sig.returnType = ret ∧ ∀ (H : Heap) (locs : List Loc) (cells slots : Nat) (g : JFrame), W (xp x) (xl x) (xe x) (xR x) (xs x) (xm x) (xa x) (xb x) (xme x) (xc x) H locs cells slots (MQ (xb x) (zQc (xg x) P) (xa x) (xs x) mc ms (zA (xg x))) g → zWx x H locs cells slots g
def zQx (x : zX) (P : Option Value → zK → zF → Prop) (PX : String → zK → zF → Prop) (mc ms : Nat) : Prop := (∀ z ∈ (xc x).exceptionTable.toList, False) ∧ xQ x = vx_MQ (xb x) (zQc (xg x) P) (zXC (xg x) PX) (xa x) (xs x) mc ms (zA (xg x))
section ZEV
variable {l : Launch} {g : zG} {y : MethodName} {ws ws' : List Cond} {cc : ByteArray} {maxL F Lc mc ms : Nat} {ret : Option FieldType} {As : List Value} {K : zK} {μ : zF} {P : Option Value → zK → zF → Prop} {PX : String → zK → zF → Prop}
theorem zEv.of (hl : l.stackTraces = false) (hy : plainName y.cls = true) (hw : ws = Cond.code y cc maxL ret :: ws') (ha : (lg_sl As).length ≤ maxL)
    (body : ∀ x : zX, xl x = l → xg x = g → zH x ws y.cls cc maxL F Lc mc ms → zQg x ret P mc ms → zV x 0 0 0 (zEn maxL As) [] K μ) : zEv l g y ws F Lc mc ms As K μ P := by
  refine Met.ofW hy hw ?_
  intro p e s m args below meth c s₁ B hml hv
  obtain ⟨rfl, hR, hS⟩ := hv
  have h := body (p, l, e, zRm F Lc mc ms, s, m, As.toArray, below, meth, c, MQ below (zQc g P) As.toArray s mc ms (zA g), g) rfl rfl
    ⟨B.exec, B.bytes, hml, findClass_of_methodNamed B.named, atoms_spec (ws := ws) B.pre, B.notSynchronized, Nat.le_refl _, Nat.le_refl _, Nat.le_refl _, Nat.le_refl _, hS, hl⟩ ⟨B.returns, fun _ _ _ _ _ h => h⟩
  rw [lg_entry_eq]
  exact h s.heap [] _ hR va_S.rf (zEn_ls As ha)
theorem zEx.of (hl : l.stackTraces = false) (hy : plainName y.cls = true) (hw : ws = Cond.code y cc maxL ret :: ws') (ha : (lg_sl As).length ≤ maxL)
    (body : ∀ x : zX, xl x = l → xg x = g → zH x ws y.cls cc maxL F Lc mc ms → zQg x ret P mc ms → zQx x P PX mc ms → zV x 0 0 0 (zEn maxL As) [] K μ) : zEx l g y ws F Lc mc ms As K μ P PX := by
  refine vx_ofW hy hw ?_
  intro p e s m args below meth c s₁ B hml ht hv
  obtain ⟨rfl, hR, hS⟩ := hv
  have h := body (p, l, e, zRm F Lc mc ms, s, m, As.toArray, below, meth, c, vx_MQ below (zQc g P) (zXC g PX) As.toArray s mc ms (zA g), g) rfl rfl
    ⟨B.exec, B.bytes, hml, findClass_of_methodNamed B.named, atoms_spec (ws := ws) B.pre, B.notSynchronized, Nat.le_refl _, Nat.le_refl _, Nat.le_refl _, Nat.le_refl _, hS, hl⟩ ⟨B.returns, fun _ _ _ _ _ h => vx_ret h⟩ ⟨ht, rfl⟩
  rw [lg_entry_eq]
  exact h s.heap [] _ hR va_S.rf (zEn_ls As ha)
end ZEV
section ZC
variable {x : zX} {Ts : List Cond} {own : String} {cc : ByteArray} {nL F Lc MC MS cells slots pc : Nat} {ls : List (Option Value)} {st : List Value} {K : zK} {μ : zF}
variable {ret : Option FieldType} {P : Option Value → zK → zF → Prop} {mc ms : Nat}
theorem zr_i (hC : zH x Ts own cc nL F Lc MC MS) (hQ : zQg x (some .int) P mc ms) {v : Int32} (d : decode cc pc = .ok (.ireturn, 1)) (hc : cells ≤ mc) (hs : slots ≤ ms) (hp : P (some (.int v)) K μ) : zV x cells slots pc ls [.int v] K μ := fun H locs la hR hS hl =>
  hQ.2 _ _ _ _ _ (W.widen hc hs (W.iret hC.1 hC.2.1 hQ.1 (fun t ht hW => ⟨⟨_, K, μ, rfl, hp, by rw [ht]; exact hR⟩, hS.F ht⟩) hS.2.2 d hC.locks))
theorem zr_z (hC : zH x Ts own cc nL F Lc MC MS) (hQ : zQg x (some .boolean) P mc ms) {v : Int32} (d : decode cc pc = .ok (.ireturn, 1)) (hc : cells ≤ mc) (hs : slots ≤ ms) (hn : narrow .boolean (.int v) = .int v) (hp : P (some (.int v)) K μ) : zV x cells slots pc ls [.int v] K μ := fun H locs la hR hS hl =>
  hQ.2 _ _ _ _ _ (W.widen hc hs (W.zret hC.1 hC.2.1 hQ.1 hn (fun t ht hW => ⟨⟨_, K, μ, rfl, hp, by rw [ht]; exact hR⟩, hS.F ht⟩) hS.2.2 d hC.locks))
theorem zr_l (hC : zH x Ts own cc nL F Lc MC MS) (hQ : zQg x (some .long) P mc ms) {v : Int64} (d : decode cc pc = .ok (.lreturn, 1)) (hc : cells ≤ mc) (hs : slots ≤ ms) (hp : P (some (.long v)) K μ) : zV x cells slots pc ls [.long v] K μ := fun H locs la hR hS hl =>
  hQ.2 _ _ _ _ _ (W.widen hc hs (W.lret hC.1 hC.2.1 hQ.1 (fun t ht hW => ⟨⟨_, K, μ, rfl, hp, by rw [ht]; exact hR⟩, hS.F ht⟩) hS.2.2 d hC.locks))
theorem zr_v (hC : zH x Ts own cc nL F Lc MC MS) (hQ : zQg x none P mc ms) (d : decode cc pc = .ok (.return_, 1)) (hc : cells ≤ mc) (hs : slots ≤ ms) (hp : P none K μ) : zV x cells slots pc ls [] K μ := fun H locs la hR hS hl =>
  hQ.2 _ _ _ _ _ (W.widen hc hs (W.vret hC.1 hC.2.1 hQ.1 (fun t ht hW => ⟨⟨_, K, μ, rfl, hp, by rw [ht]; exact hR⟩, hS.F ht⟩) hS.2.2 d hC.locks))
theorem zr_a (hC : zH x Ts own cc nL F Lc MC MS) {C : String} (hQ : zQg x (some (.object C)) P mc ms) {v : Value} (d : decode cc pc = .ok (.areturn, 1)) (hc : cells ≤ mc) (hs : slots ≤ ms) (hv : v = .null ∨ ∃ a, v = .ref a) (hp : P (some v) K μ) : zV x cells slots pc ls [v] K μ := fun H locs la hR hS hl =>
  hQ.2 _ _ _ _ _ (W.widen hc hs (W.aret hC.1 hC.2.1 hQ.1 (Or.inl ⟨C, rfl⟩) hv (fun t ht hW => ⟨⟨_, K, μ, rfl, hp, by rw [ht]; exact hR⟩, hS.F ht⟩) hS.2.2 d hC.locks))
variable {y : MethodName} {bytes : ByteArray} {maxL F' Lc' mc' ms' n ix : Nat} {ret' : Option FieldType} {ws ws' : List Cond} {As rest st0 : List Value} {P' : Option Value → zK → zF → Prop} {PX' : String → zK → zF → Prop} {C : String} {b ci : Nat} {r : vw_C}
theorem zPc_blind {g : zG} : FrameBlind (zPc g As K μ) := fun a U f mk q => ⟨q.1, q.2.1, zSt.calling q.2.2⟩
theorem zPc_go (hC : zH x Ts own cc nL F Lc MC MS) {H : Heap} {locs : List Loc} (hR : zR (xg x) K μ H) (hS : va_S (zA (xg x)) (xs x).heap H locs) : ∀ U : State, U.heap = H → (xs x).WarmedH U.vm → zPc (xg x) As K μ As.toArray U := fun U hU hW => ⟨rfl, by rw [hU]; exact hR, hC.zs.go hW (by rw [hU]; exact hS.1) (fun a h1 h2 => by rw [hU]; exact hS.2.1 a h1 h2)⟩
/-- behind a call: what its end gives -/
theorem zback {H : Heap} {locs : List Loc} {la : Array Slot} {a : Array Value} (hr : va_Run (xp x) (xl x) (xe x) (xR x) (xs x) (xm x) (xa x) (xb x) (xme x) (xc x) H locs cells slots mc' ms' (F0 (xm x) pc la st0) rest (zQc (xg x) P' a) (zA (xg x))) (hS : va_S (zA (xg x)) (xs x).heap H locs) (hl : zLs la ls)
    (kk : ∀ (v : Option Value) (K' : zK) (μ' : zF), P' v K' μ' → zV x (cells + mc') (slots + ms') (pc + 3) ls (v.toList ++ rest) K' μ') : zWx x H locs cells slots (F0 (xm x) pc la st0) := by
  intro T hT X
  obtain ⟨v, st₀, t, T', L, h0, X', hL, e1, e2, ⟨⟨v', K', μ', hv, hp, hb⟩, hz, hk⟩, stp⟩ := hr T hT X
  cases hv
  rw [h0] at hz hk
  obtain ⟨t2, a1, b1⟩ := kk v K' μ' hp T'.heap (locs ++ L) la (by rw [e1]; exact hb)
    ⟨Nat.le_trans hS.1 (by rw [e1]; exact hz), fun q h1 h2 => by rw [e1, hk q (Nat.lt_of_lt_of_le h1 hS.1) h2]; exact hS.2.1 q h1 h2, fun q hq => by
      rcases List.mem_append.mp hq with h | h
      · exact hS.2.2 q h
      · exact hL q h⟩ hl T' rfl X'
  exact ⟨t2, stp t2 a1, b1⟩
theorem zc_V (hC : zH x Ts own cc nL F Lc MC MS) (hG : GoodIn Ts (wsV own ix C y ws)) (hw : ws = Cond.code y bytes maxL ret' :: ws') (hd : y.cls = C ∧ y.cls ≠ "java/lang/invoke/MethodHandle" ∧ y.cls ≠ "java/lang/invoke/VarHandle" ∧ (parseMethodDescriptor y.desc).map (fun d => d.parameters.length) = some n) (hr : F' + 1 ≤ F ∧ 8 + (maxL + 11) + Lc' ≤ Lc)
    (hcl : vwCl[ci]? = some r) (hCr : r.1 = C) (hci : ci < 10) (hn : As.length = n) (d : decode cc pc = .ok (.invokevirtual ix, 3)) (hnl : ls.length = nL) (hst : st0 = As.reverse ++ .ref b :: rest) (hcat : (rest.map fun v => v.category).sum ≤ 8) (hcm : cells + mc' ≤ MC) (hsm : slots + ms' ≤ MS) (hO : zO K b ci)
    (hE : zEv (xl x) (xg x) y ws F' Lc' mc' ms' (.ref b :: As) K μ P') (kk : ∀ (v : Option Value) (K' : zK) (μ' : zF), P' v K' μ' → zV x (cells + mc') (slots + ms') (pc + 3) ls (v.toList ++ rest) K' μ') : zV x cells slots pc ls st0 K μ := by
  intro H locs la hR hS hl
  obtain ⟨q0, hq⟩ := zplace (g := xg x) (μ := μ) hO.1
  rw [zobj hO hci] at hq
  subst hCr
  refine zback (va_runV (C := r.1) (b := b) (As := As) ⟨hC.1, hC.2.1, hC.2.2.1, hC.ow, hC.hts⟩ hE (cwV n hC.hts hG hw rfl rfl hd ⟨Nat.le_trans hr.1 hC.2.2.2.2.2.2.1, Nat.le_trans hr.2 hC.2.2.2.2.2.2.2.1⟩) ⟨zPc_blind, va_recv hC.kk hR.1 hcl hq, zPc_go hC hR hS⟩ rfl hn (hl.1.trans hnl) hst (lv_room hcat) d ⟨Nat.le_trans hcm hC.2.2.2.2.2.2.2.2.1, Nat.le_trans hsm hC.2.2.2.2.2.2.2.2.2.1⟩) hS hl kk
theorem zc_S (hC : zH x Ts own cc nL F Lc MC MS) (hG : GoodIn Ts (va_wsS own ix y ws)) (hw : ws = Cond.code y bytes maxL ret' :: ws') (hd : y.cls ≠ "java/lang/invoke/MethodHandle" ∧ y.cls ≠ "java/lang/invoke/VarHandle" ∧ (parseMethodDescriptor y.desc).map (fun d => d.parameters.length) = some n) (hr : F' + 1 ≤ F ∧ 8 + (maxL + 11) + Lc' ≤ Lc)
    (hn : As.length = n) (d : decode cc pc = .ok (.invokestatic ix, 3)) (hnl : ls.length = nL) (hst : st0 = As.reverse ++ rest) (hcat : (rest.map fun v => v.category).sum ≤ 8) (hcm : cells + mc' ≤ MC) (hsm : slots + ms' ≤ MS)
    (hE : zEv (xl x) (xg x) y ws F' Lc' mc' ms' As K μ P') (kk : ∀ (v : Option Value) (K' : zK) (μ' : zF), P' v K' μ' → zV x (cells + mc') (slots + ms') (pc + 3) ls (v.toList ++ rest) K' μ') : zV x cells slots pc ls st0 K μ := by
  intro H locs la hR hS hl
  refine zback (va_runS (As := As) ⟨hC.1, hC.2.1, hC.2.2.1, hC.ow, hC.hts⟩ hE (va_cwS n hC.hts hG hw rfl rfl hd ⟨Nat.le_trans hr.1 hC.2.2.2.2.2.2.1, Nat.le_trans hr.2 hC.2.2.2.2.2.2.2.1⟩) ⟨zPc_blind, zPc_go hC hR hS⟩ rfl hn (hl.1.trans hnl) hst (lv_room hcat) d ⟨Nat.le_trans hcm hC.2.2.2.2.2.2.2.2.1, Nat.le_trans hsm hC.2.2.2.2.2.2.2.2.2.1⟩) hS hl kk
theorem zc_I (hC : zH x Ts own cc nL F Lc MC MS) (hG : GoodIn Ts ws) (hw : ws = Cond.code y bytes maxL none :: ws') (hini : Cond.initialized y.cls ∈ Ts) (hli : Cond.methodLink own ix y ∈ Ts) (hin : Cond.instanceMethod y ∈ Ts) (hy1 : y.name = "<init>") (hd : y.cls ≠ "java/lang/invoke/MethodHandle" ∧ y.cls ≠ "java/lang/invoke/VarHandle" ∧ (parseMethodDescriptor y.desc).map (fun d => d.parameters.length) = some n) (hr : F' + 1 ≤ F ∧ 8 + (maxL + 11) + Lc' ≤ Lc)
    (hn : As.length = n) (d : decode cc pc = .ok (.invokespecial ix, 3)) (hnl : ls.length = nL) (hst : st0 = As.reverse ++ .ref b :: rest) (hcat : (rest.map fun v => v.category).sum ≤ 8) (hcm : cells + mc' ≤ MC) (hsm : slots + ms' ≤ MS)
    (hE : zEv (xl x) (xg x) y ws F' Lc' mc' ms' (.ref b :: As) K μ P') (kk : ∀ (v : Option Value) (K' : zK) (μ' : zF), P' v K' μ' → zV x (cells + mc') (slots + ms') (pc + 3) ls (v.toList ++ rest) K' μ') : zV x cells slots pc ls st0 K μ := by
  intro H locs la hR hS hl
  refine zback (va_runI (b := b) (As := As) ⟨hC.1, hC.2.1, hC.2.2.1, hC.ow, hC.hts⟩ hE (cwI n hC.hts hG hw rfl rfl (hC.hts _ hini) (hC.hts _ hli) (hC.hts _ hin) hy1 hd ⟨Nat.le_trans hr.1 hC.2.2.2.2.2.2.1, Nat.le_trans hr.2 hC.2.2.2.2.2.2.2.1⟩) ⟨zPc_blind, zPc_go hC hR hS⟩ rfl hn (hl.1.trans hnl) hst (lv_room hcat) d ⟨Nat.le_trans hcm hC.2.2.2.2.2.2.2.2.1, Nat.le_trans hsm hC.2.2.2.2.2.2.2.2.2.1⟩) hS hl kk
theorem zk_i {r : Int32} {c1 s1 p1 : Nat} (k : zV x c1 s1 p1 ls (.int r :: rest) K μ) : ∀ (v : Option Value) (K' : zK) (μ' : zF), zPi r K μ v K' μ' → zV x c1 s1 p1 ls (v.toList ++ rest) K' μ' := by
  rintro v K' μ' ⟨rfl, rfl, rfl⟩; exact k
theorem zk_l {r : Int64} {c1 s1 p1 : Nat} (k : zV x c1 s1 p1 ls (.long r :: rest) K μ) : ∀ (v : Option Value) (K' : zK) (μ' : zF), zPl r K μ v K' μ' → zV x c1 s1 p1 ls (v.toList ++ rest) K' μ' := by
  rintro v K' μ' ⟨rfl, rfl, rfl⟩; exact k
theorem zk_w {Pm : zF → Prop} {c1 s1 p1 : Nat} (k : ∀ μ', Pm μ' → zV x c1 s1 p1 ls rest K μ') : ∀ (v : Option Value) (K' : zK) (μ' : zF), zPw K Pm v K' μ' → zV x c1 s1 p1 ls (v.toList ++ rest) K' μ' := by
  rintro v K' μ' ⟨rfl, rfl, h⟩; exact k μ' h
theorem zk_v {r : Int32} {Pm : zF → Prop} {c1 s1 p1 : Nat} (k : ∀ μ', Pm μ' → zV x c1 s1 p1 ls (.int r :: rest) K μ') : ∀ (v : Option Value) (K' : zK) (μ' : zF), zPv r K Pm v K' μ' → zV x c1 s1 p1 ls (v.toList ++ rest) K' μ' := by
  rintro v K' μ' ⟨rfl, rfl, h⟩; exact k μ' h
end ZC
