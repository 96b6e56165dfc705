/-! ===== constructors: what they write ===== -/
section ZVW
variable {x : zX} {Ts : List Cond} {own : String} {cc : ByteArray} {nL F Lc MC MS cells slots pc N : Nat} {ls : List (Option Value)} {st : List Value} {K : zK} {μ : zF}
theorem zn_putR (hC : zH x Ts own cc nL F Lc MC MS) {ci k ix a b n : Nat} {C : String} {T : u_T} (hc : vwCl[ci]? = some (C, T, n)) (hin : ∀ w ∈ u_ws C T n, w ∈ Ts) (hk : k < n) (hci : ci < 10) (hw : Cond.fieldLink own ix (T k).1 (T k).2.1 (T k).2.2.1 ∈ Ts) (ty0 : Nat → FieldType) (hty : ∀ k, k < n → parseFieldDescriptor (T k).2.2.1 = some (ty0 k)) (hnm : ∀ a, a < n → ∀ b, b < n → a ≠ b → (T a).2.1 ≠ (T b).2.1) (hfin : (T k).2.2.2 = true) (hname : (xme x).name = "<init>") (hdecl : (T k).1 = own)
    (hset : ∀ (r : Nat → Option Nat) (f : Nat → Int32), (zFs r f ci).set k (.ref b) = zFs (va_up r k (some b)) f ci) (hlen : ∀ (r : Nat → Option Nat) (f : Nat → Int32), k < (zFs r f ci).length) (d : decode cc pc = .ok (.putfield ix, 3)) (hn : narrow (ty0 k) (.ref b) = .ref b) (hfit : fits (ty0 k) (.ref b) = true) (hO : zO K a ci)
    (kk : zVn x cells slots (pc + 3) ls st (zKr K a k b) μ N) : zVn x cells slots pc ls (.ref b :: .ref a :: st) K μ N := by
  intro H locs la hR hN hS hl
  obtain ⟨q0, hq0⟩ := zplace (g := xg x) (μ := μ) hO.1
  have hq := hq0
  rw [zobj hO hci] at hq
  have hap := va_apart (own := own) hC.hts hin ty0 hty hnm hC.kk hc
  obtain ⟨r, h1, cell, q1, q2, q3, q4⟩ := hR.1 q0 _ hq
  have hr : r = (C, T, n) := Option.some.inj (h1.symm.trans hc)
  subst hr
  obtain ⟨hSl, hfc, kC, hkC, hkind⟩ := hC.kk.1 ci _ hc
  obtain ⟨cf, kf, fi, f, hi, hsl⟩ := hSl k hk
  have hlay := hC.hts _ (hin _ (u_in_lay hk))
  unfold u_lay at hlay
  rw [if_pos hfin] at hlay
  have hst := (u_facts hfc hkC (u_lays hC.hts hin hk) hi).1
  have hcf : (xm x).cls = cf := by
    obtain ⟨_, _, c', _, _, _, -, -, hf', -, -, -, hown2, -⟩ := Cond.laysFinal_spec hlay
    have e1 : c' = cf := by have := hi.symm.trans hf'; simp at this; exact this.1.symm
    rw [hdecl] at hown2
    rw [← e1]; exact Option.some.inj (hC.ow.symm.trans hown2)
  have h6 := u_fits hfc hkC hkind (Or.inr hlay) hi (hty k hk) hn hfit
  refine W.putFinK hC.1 hC.2.1 hC.ow (hC.hts _ hw) hi hst hcf hname (by rw [q2]; exact h6) q1 q3 (by rw [hsl]; exact k2_hasslot (q4 k hk)) rfl rfl d fun H' e1 e2 e3 => ?_
  rw [hsl] at e1 ⊢
  have hP1 : va_P (xg x).1 vwCl ((zW (xg x) K μ).set q0 (a, .inr (ci, (zFs (K.2.2.1 a) (μ a) ci).set k (.ref b)))) H' := hR.1.set hR.2 hq ⟨_, hc, t_OB.to (V := updV (vp_V (zFs (K.2.2.1 a) (μ a) ci)) k (.ref b)) ⟨_, e1, q2, q3, t_set q4 hap hk (.ref b)⟩ (fun j _ => vp_updV_set (hlen _ _) (.ref b) j)⟩ e3
  have hD1 := hR.2.set (e := .inr (ci, (zFs (K.2.2.1 a) (μ a) ci).set k (.ref b))) hq
  have hO' : zO (zKr K a k b) a ci := hO
  have he := zsetK (K' := zKr K a k b) hR.2 hO.1 hq0 rfl (fun c hc => by simp [zC, zKr, hc]) (.inr (ci, (zFs (K.2.2.1 a) (μ a) ci).set k (.ref b))) (by rw [zobj hO' hci, hset]; simp [zKr])
  rw [he] at hP1 hD1
  exact kk H' _ la ⟨hP1, hD1⟩ (e2.trans hN) (hS.put e2 e3 (hR.2.2 q0 _ hq)) hl
theorem zn_put (hC : zH x Ts own cc nL F Lc MC MS) {ci k ix a n : Nat} {C : String} {T : u_T} {v : Int32} (hc : vwCl[ci]? = some (C, T, n)) (hin : ∀ w ∈ u_ws C T n, w ∈ Ts) (hk : k < n) (hci : ci < 10) (hw : Cond.fieldLink own ix (T k).1 (T k).2.1 (T k).2.2.1 ∈ Ts) (ty0 : Nat → FieldType) (hty : ∀ k, k < n → parseFieldDescriptor (T k).2.2.1 = some (ty0 k)) (hnm : ∀ a, a < n → ∀ b, b < n → a ≠ b → (T a).2.1 ≠ (T b).2.1) (hfin : (T k).2.2.2 = false)
    (hset : ∀ (r : Nat → Option Nat) (f : Nat → Int32), (zFs r f ci).set k (.int v) = zFs r (fun j => if j = k then v else f j) ci) (hlen : ∀ (r : Nat → Option Nat) (f : Nat → Int32), k < (zFs r f ci).length) (d : decode cc pc = .ok (.putfield ix, 3)) (hn : narrow (ty0 k) (.int v) = .int v) (hfit : fits (ty0 k) (.int v) = true) (hO : zO K a ci)
    (kk : zVn x cells slots (pc + 3) ls st K (zup μ a k v) N) : zVn x cells slots pc ls (.int v :: .ref a :: st) K μ N := by
  intro H locs la hR hN hS hl
  obtain ⟨q0, hq0⟩ := zplace (g := xg x) (μ := μ) hO.1
  have hq := hq0
  rw [zobj hO hci] at hq
  have hap := va_apart (own := own) hC.hts hin ty0 hty hnm hC.kk hc
  obtain ⟨r, h1, cell, q1, q2, q3, q4⟩ := hR.1 q0 _ hq
  have hr : r = (C, T, n) := Option.some.inj (h1.symm.trans hc)
  subst hr
  obtain ⟨hSl, hfc, kC, hkC, hkind⟩ := hC.kk.1 ci _ hc
  obtain ⟨cf, kf, fi, f, hi, hsl⟩ := hSl k hk
  have hlay := hC.hts _ (hin _ (u_in_lay hk))
  unfold u_lay at hlay
  rw [if_neg (by rw [hfin]; decide)] at hlay
  have hst := (u_facts hfc hkC (u_lays hC.hts hin hk) hi).1
  have h6 := u_store hfc hkC hkind hlay hi (hty k hk) hn hfit
  refine W.putK hC.1 hC.2.1 (f := f) ⟨hC.ow, hC.hts _ hw, ⟨_, _, _, hi⟩, hst⟩ (by rw [q2]; exact h6) q1 q3 (by rw [hsl]; exact k2_hasslot (q4 k hk)) rfl rfl d fun H' e1 e2 e3 => ?_
  rw [hsl] at e1 ⊢
  have hP1 : va_P (xg x).1 vwCl ((zW (xg x) K μ).set q0 (a, .inr (ci, (zFs (K.2.2.1 a) (μ a) ci).set k (.int v)))) H' := hR.1.set hR.2 hq ⟨_, hc, t_OB.to (V := updV (vp_V (zFs (K.2.2.1 a) (μ a) ci)) k (.int v)) ⟨_, e1, q2, q3, t_set q4 hap hk (.int v)⟩ (fun j _ => vp_updV_set (hlen _ _) (.int v) j)⟩ e3
  have hD1 := hR.2.set (e := .inr (ci, (zFs (K.2.2.1 a) (μ a) ci).set k (.int v))) hq
  have he := zset (i := k) (v := v) hR.2 hO.1 hq0 (.inr (ci, (zFs (K.2.2.1 a) (μ a) ci).set k (.int v))) (by rw [zobj hO hci, hset, zup_at])
  rw [he] at hP1 hD1
  exact kk H' _ la ⟨hP1, hD1⟩ (e2.trans hN) (hS.put e2 e3 (hR.2.2 q0 _ hq)) hl
end ZVW
/-! contracts of constructors: the heap's size before and after -/
def zPcn (g : zG) (As : List Value) (K : zK) (μ : zF) (N : Nat) : Array Value → State → Prop := fun v U => zPc g As K μ v U ∧ U.heap.size = N
def zQcn (g : zG) (P : zK → zF → Nat → Prop) : Array Value → State → Outcome → State → Prop := fun _ st o t => (∃ (K' : zK) (μ' : zF), o = .returned none ∧ P K' μ' t.heap.size ∧ zR g K' μ' t.heap) ∧ va_F (zA g) st t
def zEvn (l : Launch) (g : zG) (y : MethodName) (ws : List Cond) (F Lc mc ms : Nat) (As : List Value) (K : zK) (μ : zF) (N : Nat) (P : zK → zF → Nat → Prop) : Prop := Met l y ws (zRm F Lc mc ms) (zPcn g As K μ N) (zQcn g P) mc ms (zA g)
def zQn (x : zX) (P : zK → zF → Nat → Prop) (mc ms : Nat) : Prop := (xme x).sig.returnType = none ∧ (xme x).name = "<init>" ∧ ∀ (H : Heap) (locs : List Loc) (cells slots : Nat) (g : JFrame), W (xp x) (xl x) (xe x) (xR x) (xs x) (xm x) (xa x) (xb x) (xme x) (xc x) H locs cells slots (MQ (xb x) (zQcn (xg x) P) (xa x) (xs x) mc ms (zA (xg x))) g → zWx x H locs cells slots g
theorem zEvn.of {l : Launch} {g : zG} {y : MethodName} {ws ws' : List Cond} {cc : ByteArray} {maxL F Lc mc ms N : Nat} {As : List Value} {K : zK} {μ : zF} {P : zK → zF → Nat → Prop} (hl : l.stackTraces = false) (hy : plainName y.cls = true) (hyn : y.name = "<init>") (hw : ws = Cond.code y cc maxL none :: ws') (ha : (lg_sl As).length ≤ maxL)
    (body : ∀ x : zX, xl x = l → xg x = g → zH x ws y.cls cc maxL F Lc mc ms → zQn x P mc ms → zVn x 0 0 0 (zEn maxL As) [] K μ N) : zEvn l g y ws F Lc mc ms As K μ N P := by
  refine Met.ofW hy hw ?_
  intro p e s m args below meth c s₁ B hml hv
  obtain ⟨⟨rfl, hR, hS⟩, hN⟩ := hv
  have h := body (p, l, e, zRm F Lc mc ms, s, m, As.toArray, below, meth, c, MQ below (zQcn g P) As.toArray s mc ms (zA g), g) rfl rfl
    ⟨B.exec, B.bytes, hml, findClass_of_methodNamed B.named, atoms_spec (ws := ws) B.pre, B.notSynchronized, Nat.le_refl _, Nat.le_refl _, Nat.le_refl _, Nat.le_refl _, hS, hl⟩ ⟨B.returns, (name_of_methodNamed B.named B.method).1.trans hyn, fun _ _ _ _ _ h => h⟩
  rw [lg_entry_eq]
  exact h s.heap [] _ hR hN va_S.rf (zEn_ls As ha)
section ZCN
variable {x : zX} {Ts : List Cond} {own : String} {cc : ByteArray} {nL F Lc MC MS cells slots pc N : Nat} {ls : List (Option Value)} {st : List Value} {K : zK} {μ : zF} {mc ms : Nat}
theorem zn_ret (hC : zH x Ts own cc nL F Lc MC MS) {P : zK → zF → Nat → Prop} (hQ : zQn x P mc ms) (d : decode cc pc = .ok (.return_, 1)) (hc : cells ≤ mc) (hs : slots ≤ ms) (hp : P K μ N) : zVn x cells slots pc ls [] K μ N := fun H locs la hR hN hS hl =>
  hQ.2.2 _ _ _ _ _ (W.widen hc hs (W.vret hC.1 hC.2.1 hQ.1 (fun t ht hW => ⟨⟨K, μ, rfl, by rw [ht, hN]; exact hp, by rw [ht]; exact hR⟩, hS.F ht⟩) hS.2.2 d hC.locks))
variable {y : MethodName} {bytes : ByteArray} {maxL F' Lc' mc' ms' n ix : Nat} {ws ws' : List Cond} {As rest st0 : List Value} {P' : zK → zF → Nat → Prop} {b : Nat}
theorem zPcn_blind {g : zG} : FrameBlind (zPcn g As K μ N) := fun a U f mk q => ⟨zPc_blind a U f mk q.1, q.2⟩
theorem zbackn {H : Heap} {locs : List Loc} {la : Array Slot} {a : Array Value} (hr : va_Run (xp x) (xl x) (xe x) (xR x) (xs x) (xm x) (xa x) (xb x) (xme x) (xc x) H locs cells slots mc' ms' (F0 (xm x) pc la st0) rest (zQcn (xg x) P' a) (zA (xg x))) (hS : va_S (zA (xg x)) (xs x).heap H locs) (hl : zLs la ls)
    (kk : ∀ (K' : zK) (μ' : zF) (N' : Nat), P' K' μ' N' → zVn x (cells + mc') (slots + ms') (pc + 3) ls rest K' μ' N') : zWx x H locs cells slots (F0 (xm x) pc la st0) := by
  intro T hT X
  obtain ⟨v, st₀, t, T', L, h0, X', hL, e1, e2, ⟨⟨K', μ', hv, hp, hb⟩, hz, hk⟩, stp⟩ := hr T hT X
  cases hv
  rw [h0] at hz hk
  obtain ⟨t2, a1, b1⟩ := kk K' μ' _ hp T'.heap (locs ++ L) la (by rw [e1]; exact hb) (by rw [e1])
    ⟨Nat.le_trans hS.1 (by rw [e1]; exact hz), fun q h1 h2 => by rw [e1, hk q (Nat.lt_of_lt_of_le h1 hS.1) h2]; exact hS.2.1 q h1 h2, fun q hq => by
      rcases List.mem_append.mp hq with h | h
      · exact hS.2.2 q h
      · exact hL q h⟩ hl T' rfl X'
  exact ⟨t2, stp t2 a1, b1⟩
theorem zn_I (hC : zH x Ts own cc nL F Lc MC MS) (hG : GoodIn Ts ws) (hw : ws = Cond.code y bytes maxL none :: ws') (hini : Cond.initialized y.cls ∈ Ts) (hli : Cond.methodLink own ix y ∈ Ts) (hin : Cond.instanceMethod y ∈ Ts) (hy1 : y.name = "<init>") (hd : y.cls ≠ "java/lang/invoke/MethodHandle" ∧ y.cls ≠ "java/lang/invoke/VarHandle" ∧ (parseMethodDescriptor y.desc).map (fun d => d.parameters.length) = some n) (hr : F' + 1 ≤ F ∧ 8 + (maxL + 11) + Lc' ≤ Lc)
    (hn : As.length = n) (d : decode cc pc = .ok (.invokespecial ix, 3)) (hnl : ls.length = nL) (hst : st0 = As.reverse ++ .ref b :: rest) (hcat : (rest.map fun v => v.category).sum ≤ 8) (hcm : cells + mc' ≤ MC) (hsm : slots + ms' ≤ MS)
    (hE : zEvn (xl x) (xg x) y ws F' Lc' mc' ms' (.ref b :: As) K μ N P') (kk : ∀ (K' : zK) (μ' : zF) (N' : Nat), P' K' μ' N' → zVn x (cells + mc') (slots + ms') (pc + 3) ls rest K' μ' N') : zVn x cells slots pc ls st0 K μ N := by
  intro H locs la hR hN hS hl
  refine zbackn (va_runI (b := b) (As := As) ⟨hC.1, hC.2.1, hC.2.2.1, hC.ow, hC.hts⟩ hE (cwI n hC.hts hG hw rfl rfl (hC.hts _ hini) (hC.hts _ hli) (hC.hts _ hin) hy1 hd ⟨Nat.le_trans hr.1 hC.2.2.2.2.2.2.1, Nat.le_trans hr.2 hC.2.2.2.2.2.2.2.1⟩) ⟨zPcn_blind, fun U hU hW => ⟨zPc_go hC hR hS U hU hW, by rw [hU]; exact hN⟩⟩ rfl hn (hl.1.trans hnl) hst (lv_room hcat) d ⟨Nat.le_trans hcm hC.2.2.2.2.2.2.2.2.1, Nat.le_trans hsm hC.2.2.2.2.2.2.2.2.2.1⟩) hS hl kk
theorem zn_IN (hC : zH x Ts own cc nL F Lc MC MS) (hG : GoodIn Ts ws) (hw : ws = Cond.code y bytes maxL none :: ws') (hini : Cond.initialized y.cls ∈ Ts) (hli : (own, ix, y) ∈ zNm) (hin : Cond.instanceMethod y ∈ Ts) (hy1 : y.name = "<init>") (hd : y.cls ≠ "java/lang/invoke/MethodHandle" ∧ y.cls ≠ "java/lang/invoke/VarHandle" ∧ (parseMethodDescriptor y.desc).map (fun d => d.parameters.length) = some n) (hr : F' + 1 ≤ F ∧ 8 + (maxL + 11) + Lc' ≤ Lc)
    (hn : As.length = n) (d : decode cc pc = .ok (.invokespecial ix, 3)) (hnl : ls.length = nL) (hst : st0 = As.reverse ++ .ref b :: rest) (hcat : (rest.map fun v => v.category).sum ≤ 8) (hcm : cells + mc' ≤ MC) (hsm : slots + ms' ≤ MS)
    (hE : zEvn (xl x) (xg x) y ws F' Lc' mc' ms' (.ref b :: As) K μ N P') (kk : ∀ (K' : zK) (μ' : zF) (N' : Nat), P' K' μ' N' → zVn x (cells + mc') (slots + ms') (pc + 3) ls rest K' μ' N') : zVn x cells slots pc ls st0 K μ N := by
  intro H locs la hR hN hS hl
  refine zbackn (va_runIN (b := b) (As := As) (host := RX8) ⟨hC.1, hC.2.1, hC.2.2.1, hC.ow, hC.hts⟩ hE ⟨va_cnB n hC.hts hG hw rfl rfl (hC.zs.2.2.2.2.1 _ hli) (hC.hts _ hini) hd ⟨Nat.le_trans hr.1 hC.2.2.2.2.2.2.1, Nat.le_trans hr.2 hC.2.2.2.2.2.2.2.1⟩, hy1, hC.hts _ hin⟩ ⟨zPcn_blind, fun U hU hW => ⟨zPc_go hC hR hS U hU hW, by rw [hU]; exact hN⟩⟩ rfl hn (hl.1.trans hnl) hst (lv_room hcat) d ⟨Nat.le_trans hcm hC.2.2.2.2.2.2.2.2.1, Nat.le_trans hsm hC.2.2.2.2.2.2.2.2.2.1⟩) hS hl kk
end ZCN
