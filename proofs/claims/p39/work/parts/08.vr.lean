/-! ===== the judgement zV: from this frame, whatever the heap that the picture tells, the method comes to its end ===== -/
abbrev zX : Type := Program × Launch × Env × Room × State × MethodId × Array Value × List Frame × Method × Code × (State → Prop) × zG
abbrev xp (x : zX) : Program := x.1
abbrev xl (x : zX) : Launch := x.2.1
abbrev xe (x : zX) : Env := x.2.2.1
abbrev xR (x : zX) : Room := x.2.2.2.1
abbrev xs (x : zX) : State := x.2.2.2.2.1
abbrev xm (x : zX) : MethodId := x.2.2.2.2.2.1
abbrev xa (x : zX) : Array Value := x.2.2.2.2.2.2.1
abbrev xb (x : zX) : List Frame := x.2.2.2.2.2.2.2.1
abbrev xme (x : zX) : Method := x.2.2.2.2.2.2.2.2.1
abbrev xc (x : zX) : Code := x.2.2.2.2.2.2.2.2.2.1
abbrev xQ (x : zX) : State → Prop := x.2.2.2.2.2.2.2.2.2.2.1
abbrev xg (x : zX) : zG := x.2.2.2.2.2.2.2.2.2.2.2
abbrev zWx (x : zX) (H : Heap) (locs : List Loc) (cells slots : Nat) (g : JFrame) : Prop := W (xp x) (xl x) (xe x) (xR x) (xs x) (xm x) (xa x) (xb x) (xme x) (xc x) H locs cells slots (xQ x) g
def zV (x : zX) (cells slots pc : Nat) (ls : List (Option Value)) (st : List Value) (K : zK) (μ : zF) : Prop :=
  ∀ (H : Heap) (locs : List Loc) (la : Array Slot), zR (xg x) K μ H → va_S (zA (xg x)) (xs x).heap H locs → zLs la ls → zWx x H locs cells slots (F0 (xm x) pc la st)
/-- the nest's links: (class that asks, entry, class, name, descriptor) -/
def zNf : List (String × Nat × String × String × String) := [(RX1, 37, RX7, "widths", "LRaggedColumns$Row;"), (RX8, 83, RX7, "widths", "LRaggedColumns$Row;"), (RX1, 47, RX7, "marks", "LRaggedColumns$Row;"), (RX8, 97, RX7, "marks", "LRaggedColumns$Row;"), (RX3, 109, RX7, "marks", "LRaggedColumns$Row;"), (RX8, 58, RX7, "size", "I"), (RX1, 27, RX7, "size", "I"), (RX3, 52, RX7, "size", "I"), (RX1, 54, RX7, "column", "I"), (RX8, 103, RX7, "column", "I"), (RX3, 112, RX7, "column", "I"), (RX1, 57, RX7, "space", "I"), (RX8, 106, RX7, "space", "I"), (RX8, 109, RX7, "step", "I"), (RX4, 77, RX7, "stairPenalty", "I"), (RX8, 112, RX7, "stairPenalty", "I"), (RX3, 106, RX7, "stairPenalty", "I"), (RX8, 115, RX7, "shortPenalty", "I"), (RX5, 42, RX7, "pageSize", "I"), (RX8, 118, RX7, "pageSize", "I"), (RX8, 121, RX7, "isOptimal", "Z"), (RX4, 34, RX1, "reach", "LRaggedColumns$Row;"), (RX3, 66, RX1, "reach", "LRaggedColumns$Row;"), (RX3, 63, RX4, "ends", "LRaggedColumns$Row;"), (RX8, 131, RX3, "starts", "LRaggedColumns$Row;"), (RX8, 128, RX3, "lineOfWord", "LRaggedColumns$Row;"), (RX5, 35, RX3, "size", "I"), (RX8, 127, RX3, "size", "I"), (RX8, 157, RX5, "starts", "LRaggedColumns$Row;"), (RX8, 154, RX5, "pageOfLine", "LRaggedColumns$Row;"), (RX8, 153, RX5, "size", "I"), (RX8, 201, RX2, "size", "I")]
def zNm : List (String × Nat × MethodName) := [(RX8, 9, yX7_init), (RX8, 42, yX0_init), (RX2, 21, yX7_init)]
/-- the texts of the throws: (entry, text) of the class -/
def zTx : List (Nat × String) := [(72, "the text is full"), (202, "no state is saved"), (220, "there is no such number"), (223, "an argument is out of range")]
def zNc : List (String × String) := [("java/lang/IllegalArgumentException", "java/lang/IndexOutOfBoundsException"), ("java/lang/IllegalStateException", "java/lang/IndexOutOfBoundsException"), ("java/lang/IllegalStateException", "java/lang/IllegalArgumentException")]
def zE3 : List String := ["java/lang/IndexOutOfBoundsException", "java/lang/IllegalArgumentException", "java/lang/IllegalStateException"]
def zCa (C T : String) (U : State) : Prop := ∃ c t : ClassId, U.vm.findClass C = some c ∧ U.vm.findClass T = some t ∧ U.vm.assignable c t = true
theorem zCa.moved {C T : String} {u U : State} (hvm : u.vm.Alike U.vm) (h : zCa C T u) : zCa C T U := by
  obtain ⟨c, t, h1, h2, h3⟩ := h
  exact ⟨c, t, by rw [hvm.findClass]; exact h1, by rw [hvm.findClass]; exact h2, by rw [hvm.assignable]; exact h3⟩
theorem zCa.of {args : Array Value} {s : State} {C T : String} (h : (Cond.castable C T).before args s = true) : zCa C T s := by
  simp only [Cond.before, Cond.holds, Cond.value] at h
  cases h1 : s.vm.findClass C with
  | none => simp [h1] at h
  | some c =>
    cases h2 : s.vm.findClass T with
    | none => simp [h1, h2] at h
    | some t =>
      simp [h1, h2] at h
      exact ⟨c, t, h1, h2, h⟩
theorem zCa.use {args : Array Value} {s : State} {C T : String} (h : zCa C T s) : (Cond.castable C T).before args s = true := by
  obtain ⟨c, t, h1, h2, h3⟩ := h
  simp [Cond.before, Cond.holds, Cond.value, h1, h2, h3]
def zDc : List MethodName := [Bundle.initS "java/lang/RuntimeException", Bundle.initS "java/lang/Exception", Bundle.initS "java/lang/Throwable"]
def zSt (g : zG) (U : State) (H : Heap) : Prop :=
  va_K g.1 vwCl (zTys g) U ∧ g.2.2 ≤ H.size ∧ (vx_Zq Bundle.tN "UNASSIGNED_STACK" Bundle.steD (zA g) U H ∧ vx_Zq Bundle.tN "SUPPRESSED_SENTINEL" Bundle.listD (zA g) U H) ∧
  (∀ w ∈ zNf, va_Nw (.fieldLinkNest w.1 w.2.1 w.2.2.1 w.2.2.2.1 w.2.2.2.2 RX8) U) ∧ (∀ w ∈ zNm, va_Nw (.methodLinkNest w.1 w.2.1 w.2.2 RX8) U) ∧ (∀ w ∈ zTx, ∃ a, vk_R RX8 w.1 w.2 a U) ∧ (∀ w ∈ zNc, va_Nc w.1 w.2 U) ∧ (∀ w ∈ zE3, zCa w w U) ∧ (∀ w ∈ zDc, va_Nw (.declares w) U) ∧ va_AO RX7 U
theorem zSt.go {g : zG} {s U : State} {H H1 : Heap} (h : zSt g s H) (hW : s.WarmedH U.vm) (hz : H.size ≤ H1.size) (hk : ∀ a : Nat, a < H.size → ¬ zA g a → H1[a]? = H[a]?) : zSt g U H1 := by
  obtain ⟨h1, h2, ⟨h3, h4⟩, h5, h6, h7, h8, h9, h10, h11⟩ := h
  refine ⟨va_K.moved hW.alike h1, Nat.le_trans h2 hz, ⟨(vx_Zq.moved hW.alike h3).kept hk, (vx_Zq.moved hW.alike h4).kept hk⟩, fun w hw => va_Nw.warmF hW (h5 w hw), fun w hw => va_Nw.warmM hW (h6 w hw), fun w hw => ?_, fun w hw => va_Nc.moved hW.alike (h8 w hw), fun w hw => zCa.moved hW.alike (h9 w hw), fun w hw => va_Nw.warmD hW (h10 w hw), va_AO.moved hW.alike h11⟩
  obtain ⟨a, h⟩ := h7 w hw
  exact ⟨a, vk_R.warm hW h⟩
theorem zSt.calling {g : zG} {U : State} {f : JFrame} {mk : MethodId} {a : Array Value} (h : zSt g U U.heap) : zSt g (U.calling f mk a) (U.calling f mk a).heap := by
  obtain ⟨h1, h2, ⟨h3, h4⟩, h5, h6, h7, h8, h9, h10, h11⟩ := h
  have hv : (U.calling f mk a).vm = U.vm := rfl
  refine ⟨va_K.moved (Vm.Alike.refl U.vm) h1, h2, ⟨vx_Zq.moved (Vm.Alike.refl U.vm) h3, vx_Zq.moved (Vm.Alike.refl U.vm) h4⟩, fun w hw => va_Nw.same rfl rfl (h5 w hw), fun w hw => va_Nw.same rfl rfl (h6 w hw), fun w hw => ?_, fun w hw => va_Nc.moved (Vm.Alike.refl U.vm) (h8 w hw), fun w hw => zCa.moved (Vm.Alike.refl U.vm) (h9 w hw), fun w hw => va_Nw.same rfl rfl (h10 w hw), va_AO.moved (Vm.Alike.refl U.vm) h11⟩
  obtain ⟨b, h⟩ := h7 w hw
  exact ⟨b, vk_R.same rfl h⟩
/-- what stands fast in a method's walk -/
def zH (x : zX) (Ts : List Cond) (own : String) (cc : ByteArray) (nL F Lc MC MS : Nat) : Prop :=
  (xp x).tables.exec = Jvm.exec ∧ (xc x).code = cc ∧ (xc x).maxLocals = nL ∧ (xs x).vm.findClass own = some (xm x).cls ∧ (∀ w ∈ Ts, w.before (xa x) (xs x) = true) ∧ (xme x).locks = false ∧ F ≤ (xR x).frames ∧ Lc ≤ (xR x).locals ∧ MC ≤ (xR x).cells ∧ MS ≤ (xR x).slots ∧ zSt (xg x) (xs x) (xs x).heap ∧ (xl x).stackTraces = false
section ZV
variable {x : zX} {Ts : List Cond} {own : String} {cc : ByteArray} {nL F Lc MC MS cells slots pc : Nat} {ls : List (Option Value)} {st : List Value} {K : zK} {μ : zF}
theorem zV.fg {ls' : List (Option Value)} (hf : zFg ls ls') (k : zV x cells slots pc ls' st K μ) : zV x cells slots pc ls st K μ := fun H locs la hR hS hl => k H locs la hR hS (hl.fg hf)
theorem zV.widen {cells' slots' : Nat} (h1 : cells ≤ cells') (h2 : slots ≤ slots') (k : zV x cells' slots' pc ls st K μ) : zV x cells slots pc ls st K μ := fun H locs la hR hS hl => W.widen h1 h2 (k H locs la hR hS hl)
theorem zV.mu {μ' : zF} (h : μ = μ') (k : zV x cells slots pc ls st K μ') : zV x cells slots pc ls st K μ := h ▸ k
theorem zv_iconst (hC : zH x Ts own cc nL F Lc MC MS) {n : Int} {v : Int32} (d : decode cc pc = .ok (.iconst n, 1)) (hv : Int32.ofInt n = v) (k : zV x cells slots (pc + 1) ls (.int v :: st) K μ) : zV x cells slots pc ls st K μ := fun H locs la hR hS hl => lv_iconst hC.1 hC.2.1 d hv (k H locs la hR hS hl)
theorem zv_bipush (hC : zH x Ts own cc nL F Lc MC MS) {n : Int} {v : Int32} (d : decode cc pc = .ok (.bipush n, 2)) (hv : (Int8.ofInt n).toInt32 = v) (k : zV x cells slots (pc + 2) ls (.int v :: st) K μ) : zV x cells slots pc ls st K μ := fun H locs la hR hS hl => lv_bipush hC.1 hC.2.1 d hv (k H locs la hR hS hl)
theorem zv_sipush (hC : zH x Ts own cc nL F Lc MC MS) {n : Int} {v : Int32} (d : decode cc pc = .ok (.sipush n, 3)) (hv : (Int16.ofInt n).toInt32 = v) (k : zV x cells slots (pc + 3) ls (.int v :: st) K μ) : zV x cells slots pc ls st K μ := fun H locs la hR hS hl => lv_sipush hC.1 hC.2.1 d hv (k H locs la hR hS hl)
theorem zv_ldc (hC : zH x Ts own cc nL F Lc MC MS) {ix : Nat} {v : Int32} (hw : (Jvm.Cond.constant own ix v) ∈ Ts) (d : decode cc pc = .ok (.ldc ix, 2)) (k : zV x cells slots (pc + 2) ls (.int v :: st) K μ) : zV x cells slots pc ls st K μ := fun H locs la hR hS hl => lv_ldc hC.1 hC.2.1 hC.2.2.2.1 (hC.2.2.2.2.1 _ hw) d (k H locs la hR hS hl)
theorem zv_ldc2 (hC : zH x Ts own cc nL F Lc MC MS) {ix : Nat} {v : Int64} (hw : (Jvm.Cond.constantLong own ix v) ∈ Ts) (d : decode cc pc = .ok (.ldc2_w ix, 3)) (k : zV x cells slots (pc + 3) ls (.long v :: st) K μ) : zV x cells slots pc ls st K μ := fun H locs la hR hS hl => lv_ldc2 hC.1 hC.2.1 hC.2.2.2.1 (hC.2.2.2.2.1 _ hw) d (k H locs la hR hS hl)
theorem zv_iload_n (hC : zH x Ts own cc nL F Lc MC MS) {j : Fin 4} {i : Nat} {v : Int32} (d : decode cc pc = .ok (.iload_n j, 1)) (hi : (j : Nat) = i) (hk : ls[i]? = some (some (.int v))) (k : zV x cells slots (pc + 1) ls (.int v :: st) K μ) : zV x cells slots pc ls st K μ := fun H locs la hR hS hl => lv_iload_n hC.1 hC.2.1 d hi (hl.at hk) (k H locs la hR hS hl)
theorem zv_iload (hC : zH x Ts own cc nL F Lc MC MS) {i : Nat} {v : Int32} (d : decode cc pc = .ok (.iload i, 2)) (hk : ls[i]? = some (some (.int v))) (k : zV x cells slots (pc + 2) ls (.int v :: st) K μ) : zV x cells slots pc ls st K μ := fun H locs la hR hS hl => lv_iload hC.1 hC.2.1 d (hl.at hk) (k H locs la hR hS hl)
theorem zv_aload_n (hC : zH x Ts own cc nL F Lc MC MS) {j : Fin 4} {i : Nat} {a : Nat} (d : decode cc pc = .ok (.aload_n j, 1)) (hi : (j : Nat) = i) (hk : ls[i]? = some (some (.ref a))) (k : zV x cells slots (pc + 1) ls (.ref a :: st) K μ) : zV x cells slots pc ls st K μ := fun H locs la hR hS hl => lv_aload_n hC.1 hC.2.1 d hi (hl.at hk) (k H locs la hR hS hl)
theorem zv_aload (hC : zH x Ts own cc nL F Lc MC MS) {i : Nat} {a : Nat} (d : decode cc pc = .ok (.aload i, 2)) (hk : ls[i]? = some (some (.ref a))) (k : zV x cells slots (pc + 2) ls (.ref a :: st) K μ) : zV x cells slots pc ls st K μ := fun H locs la hR hS hl => lv_aload hC.1 hC.2.1 d (hl.at hk) (k H locs la hR hS hl)
theorem zv_lload_n (hC : zH x Ts own cc nL F Lc MC MS) {j : Fin 4} {i : Nat} {v : Int64} (d : decode cc pc = .ok (.lload_n j, 1)) (hi : (j : Nat) = i) (hk : ls[i]? = some (some (.long v))) (k : zV x cells slots (pc + 1) ls (.long v :: st) K μ) : zV x cells slots pc ls st K μ := fun H locs la hR hS hl => lv_lload_n hC.1 hC.2.1 d hi (hl.at hk) (k H locs la hR hS hl)
theorem zv_istore_n (hC : zH x Ts own cc nL F Lc MC MS) {j : Fin 4} {i : Nat} {v : Int32} {ls' : List (Option Value)} (d : decode cc pc = .ok (.istore_n j, 1)) (hi : (j : Nat) = i) (hn : zNl ls i = true) (hlt : i < ls.length) (hs : ls.set i (some (.int v)) = ls') (k : zV x cells slots (pc + 1) ls' st K μ) : zV x cells slots pc ls (.int v :: st) K μ := by
  subst hs
  exact fun H locs la hR hS hl => lv_istore_n hC.1 hC.2.1 d hi hl.has hlt rfl (fun la' h' => k H locs la' hR hS (zLs.store1 hn hlt h'))
theorem zv_istore (hC : zH x Ts own cc nL F Lc MC MS) {i : Nat} {v : Int32} {ls' : List (Option Value)} (d : decode cc pc = .ok (.istore i, 2)) (hn : zNl ls i = true) (hlt : i < ls.length) (hs : ls.set i (some (.int v)) = ls') (k : zV x cells slots (pc + 2) ls' st K μ) : zV x cells slots pc ls (.int v :: st) K μ := by
  subst hs
  exact fun H locs la hR hS hl => lv_istore hC.1 hC.2.1 d hl.has hlt rfl (fun la' h' => k H locs la' hR hS (zLs.store1 hn hlt h'))
theorem zv_astore_n (hC : zH x Ts own cc nL F Lc MC MS) {j : Fin 4} {i : Nat} {a : Nat} {ls' : List (Option Value)} (d : decode cc pc = .ok (.astore_n j, 1)) (hi : (j : Nat) = i) (hn : zNl ls i = true) (hlt : i < ls.length) (hs : ls.set i (some (.ref a)) = ls') (k : zV x cells slots (pc + 1) ls' st K μ) : zV x cells slots pc ls (.ref a :: st) K μ := by
  subst hs
  exact fun H locs la hR hS hl => lv_astore_n hC.1 hC.2.1 d hi hl.has hlt rfl (fun la' h' => k H locs la' hR hS (zLs.store1 hn hlt h'))
theorem zv_astore (hC : zH x Ts own cc nL F Lc MC MS) {i : Nat} {a : Nat} {ls' : List (Option Value)} (d : decode cc pc = .ok (.astore i, 2)) (hn : zNl ls i = true) (hlt : i < ls.length) (hs : ls.set i (some (.ref a)) = ls') (k : zV x cells slots (pc + 2) ls' st K μ) : zV x cells slots pc ls (.ref a :: st) K μ := by
  subst hs
  exact fun H locs la hR hS hl => lv_astore hC.1 hC.2.1 d hl.has hlt rfl (fun la' h' => k H locs la' hR hS (zLs.store1 hn hlt h'))
theorem zv_lstore_n (hC : zH x Ts own cc nL F Lc MC MS) {j : Fin 4} {i : Nat} {v : Int64} {ls' : List (Option Value)} (d : decode cc pc = .ok (.lstore_n j, 1)) (hi : (j : Nat) = i) (hn : zNl ls i = true) (hlt : i + 1 < ls.length) (hs : (ls.set (i + 1) none).set i (some (.long v)) = ls') (k : zV x cells slots (pc + 1) ls' st K μ) : zV x cells slots pc ls (.long v :: st) K μ := by
  subst hs
  exact fun H locs la hR hS hl => lv_lstore_n hC.1 hC.2.1 d hi hl.has hlt rfl (fun la' h' => k H locs la' hR hS (zLs.store2 hn hlt h'))
theorem zv_iinc (hC : zH x Ts own cc nL F Lc MC MS) {i : Nat} {n : Int} {v w : Int32} {ls' : List (Option Value)} (d : decode cc pc = .ok (.iinc i n, 3)) (hk : ls[i]? = some (some (.int v))) (hv : v + Int32.ofInt n = w) (hn : zNl ls i = true) (hs : ls.set i (some (.int w)) = ls') (k : zV x cells slots (pc + 3) ls' st K μ) : zV x cells slots pc ls st K μ := by
  subst hs
  have hlt : i < ls.length := (List.getElem?_eq_some_iff.mp hk).1
  intro H locs la hR hS hl
  obtain ⟨q, hq⟩ := List.getElem?_of_mem (zAs_in.mpr hk)
  exact lv_iinc hC.1 hC.2.1 d hl.has hq hv hlt rfl (fun la' h' => k H locs la' hR hS (zLs.store1 hn hlt h'))
theorem zv_iadd (hC : zH x Ts own cc nL F Lc MC MS) {v w : Int32} (d : decode cc pc = .ok (.iadd, 1)) (k : zV x cells slots (pc + 1) ls (.int (v + w) :: st) K μ) : zV x cells slots pc ls (.int w :: .int v :: st) K μ := fun H locs la hR hS hl => lv_iadd hC.1 hC.2.1 d (k H locs la hR hS hl)
theorem zv_isub (hC : zH x Ts own cc nL F Lc MC MS) {v w : Int32} (d : decode cc pc = .ok (.isub, 1)) (k : zV x cells slots (pc + 1) ls (.int (v - w) :: st) K μ) : zV x cells slots pc ls (.int w :: .int v :: st) K μ := fun H locs la hR hS hl => lv_isub hC.1 hC.2.1 d (k H locs la hR hS hl)
theorem zv_imul (hC : zH x Ts own cc nL F Lc MC MS) {v w : Int32} (d : decode cc pc = .ok (.imul, 1)) (k : zV x cells slots (pc + 1) ls (.int (v * w) :: st) K μ) : zV x cells slots pc ls (.int w :: .int v :: st) K μ := fun H locs la hR hS hl => lv_imul hC.1 hC.2.1 d (k H locs la hR hS hl)
theorem zv_iand (hC : zH x Ts own cc nL F Lc MC MS) {v w : Int32} (d : decode cc pc = .ok (.iand, 1)) (k : zV x cells slots (pc + 1) ls (.int (v &&& w) :: st) K μ) : zV x cells slots pc ls (.int w :: .int v :: st) K μ := fun H locs la hR hS hl => lv_iand hC.1 hC.2.1 d (k H locs la hR hS hl)
theorem zv_ladd (hC : zH x Ts own cc nL F Lc MC MS) {v w : Int64} (d : decode cc pc = .ok (.ladd, 1)) (k : zV x cells slots (pc + 1) ls (.long (v + w) :: st) K μ) : zV x cells slots pc ls (.long w :: .long v :: st) K μ := fun H locs la hR hS hl => lv_ladd hC.1 hC.2.1 d (k H locs la hR hS hl)
theorem zv_lmul (hC : zH x Ts own cc nL F Lc MC MS) {v w : Int64} (d : decode cc pc = .ok (.lmul, 1)) (k : zV x cells slots (pc + 1) ls (.long (v * w) :: st) K μ) : zV x cells slots pc ls (.long w :: .long v :: st) K μ := fun H locs la hR hS hl => lv_lmul hC.1 hC.2.1 d (k H locs la hR hS hl)
theorem zv_lcmp (hC : zH x Ts own cc nL F Lc MC MS) {v w : Int64} (d : decode cc pc = .ok (.lcmp, 1)) (k : zV x cells slots (pc + 1) ls (.int (lg_cmp v w) :: st) K μ) : zV x cells slots pc ls (.long w :: .long v :: st) K μ := fun H locs la hR hS hl => W.lcmp hC.1 hC.2.1 d (k H locs la hR hS hl)
theorem zv_i2l (hC : zH x Ts own cc nL F Lc MC MS) {v : Int32} {w : Int64} (hv : v.toInt64 = w) (d : decode cc pc = .ok (.i2l, 1)) (k : zV x cells slots (pc + 1) ls (.long w :: st) K μ) : zV x cells slots pc ls (.int v :: st) K μ := fun H locs la hR hS hl => t_i2l hC.1 hC.2.1 d hv (k H locs la hR hS hl)
theorem zv_i2c (hC : zH x Ts own cc nL F Lc MC MS) {v : Int32} (d : decode cc pc = .ok (.i2c, 1)) (k : zV x cells slots (pc + 1) ls (.int (v.toUInt32 % 65536).toInt32 :: st) K μ) : zV x cells slots pc ls (.int v :: st) K μ := fun H locs la hR hS hl => lv_i2c hC.1 hC.2.1 d rfl (k H locs la hR hS hl)
theorem zv_dup (hC : zH x Ts own cc nL F Lc MC MS) {v : Value} (hv : v.category = 1) (d : decode cc pc = .ok (.dup, 1)) (k : zV x cells slots (pc + 1) ls (v :: v :: st) K μ) : zV x cells slots pc ls (v :: st) K μ := fun H locs la hR hS hl => lv_dup hC.1 hC.2.1 d hv (k H locs la hR hS hl)
theorem zv_pop (hC : zH x Ts own cc nL F Lc MC MS) {v : Value} (hv : v.category = 1) (d : decode cc pc = .ok (.pop, 1)) (k : zV x cells slots (pc + 1) ls st K μ) : zV x cells slots pc ls (v :: st) K μ := fun H locs la hR hS hl => lv_pop hC.1 hC.2.1 d hv (k H locs la hR hS hl)
theorem zv_dup2 (hC : zH x Ts own cc nL F Lc MC MS) {v w : Value} (hv : v.category = 1) (hw : w.category = 1) (d : decode cc pc = .ok (.dup2, 1)) (k : zV x cells slots (pc + 1) ls (v :: w :: v :: w :: st) K μ) : zV x cells slots pc ls (v :: w :: st) K μ := fun H locs la hR hS hl => lv_dup2_11 hC.1 hC.2.1 d hv hw (k H locs la hR hS hl)
theorem zv_dup_x1 (hC : zH x Ts own cc nL F Lc MC MS) {v w : Value} (hv : v.category = 1) (hw : w.category = 1) (d : decode cc pc = .ok (.dup_x1, 1)) (k : zV x cells slots (pc + 1) ls (v :: w :: v :: st) K μ) : zV x cells slots pc ls (v :: w :: st) K μ := fun H locs la hR hS hl => lv_dup_x1 hC.1 hC.2.1 d hv hw (k H locs la hR hS hl)
theorem zv_goto (hC : zH x Ts own cc nL F Lc MC MS) {off : Int} {tgt : Nat} (d : decode cc pc = .ok (.goto off, 3)) (ht : (pc : Int) + off = (tgt : Int)) (k : zV x cells slots tgt ls st K μ) : zV x cells slots pc ls st K μ := fun H locs la hR hS hl => lv_goto hC.1 hC.2.1 d ht (k H locs la hR hS hl)
theorem zv_if_eq (hC : zH x Ts own cc nL F Lc MC MS) {v : Int32} {off : Int} {tgt : Nat} (d : decode cc pc = .ok (.ifCond .eq off, 3)) (ht : (pc : Int) + off = (tgt : Int)) (kt : v = 0 → zV x cells slots tgt ls st K μ) (kf : ¬ v = 0 → zV x cells slots (pc + 3) ls st K μ) : zV x cells slots pc ls (.int v :: st) K μ := fun H locs la hR hS hl => lv_if_eq hC.1 hC.2.1 d ht (fun c => kt c H locs la hR hS hl) (fun c => kf c H locs la hR hS hl)
theorem zv_icmp_eq (hC : zH x Ts own cc nL F Lc MC MS) {v w : Int32} {off : Int} {tgt : Nat} (d : decode cc pc = .ok (.if_icmp .eq off, 3)) (ht : (pc : Int) + off = (tgt : Int)) (kt : v = w → zV x cells slots tgt ls st K μ) (kf : ¬ v = w → zV x cells slots (pc + 3) ls st K μ) : zV x cells slots pc ls (.int w :: .int v :: st) K μ := fun H locs la hR hS hl => lv_icmp_eq hC.1 hC.2.1 d ht (fun c => kt c H locs la hR hS hl) (fun c => kf c H locs la hR hS hl)
theorem zv_if_ne (hC : zH x Ts own cc nL F Lc MC MS) {v : Int32} {off : Int} {tgt : Nat} (d : decode cc pc = .ok (.ifCond .ne off, 3)) (ht : (pc : Int) + off = (tgt : Int)) (kt : ¬ v = 0 → zV x cells slots tgt ls st K μ) (kf : v = 0 → zV x cells slots (pc + 3) ls st K μ) : zV x cells slots pc ls (.int v :: st) K μ := fun H locs la hR hS hl => lv_if_ne hC.1 hC.2.1 d ht (fun c => kt c H locs la hR hS hl) (fun c => kf c H locs la hR hS hl)
theorem zv_icmp_ne (hC : zH x Ts own cc nL F Lc MC MS) {v w : Int32} {off : Int} {tgt : Nat} (d : decode cc pc = .ok (.if_icmp .ne off, 3)) (ht : (pc : Int) + off = (tgt : Int)) (kt : ¬ v = w → zV x cells slots tgt ls st K μ) (kf : v = w → zV x cells slots (pc + 3) ls st K μ) : zV x cells slots pc ls (.int w :: .int v :: st) K μ := fun H locs la hR hS hl => lv_icmp_ne hC.1 hC.2.1 d ht (fun c => kt c H locs la hR hS hl) (fun c => kf c H locs la hR hS hl)
theorem zv_if_lt (hC : zH x Ts own cc nL F Lc MC MS) {v : Int32} {off : Int} {tgt : Nat} (d : decode cc pc = .ok (.ifCond .lt off, 3)) (ht : (pc : Int) + off = (tgt : Int)) (kt : v < 0 → zV x cells slots tgt ls st K μ) (kf : ¬ v < 0 → zV x cells slots (pc + 3) ls st K μ) : zV x cells slots pc ls (.int v :: st) K μ := fun H locs la hR hS hl => lv_if_lt hC.1 hC.2.1 d ht (fun c => kt c H locs la hR hS hl) (fun c => kf c H locs la hR hS hl)
theorem zv_icmp_lt (hC : zH x Ts own cc nL F Lc MC MS) {v w : Int32} {off : Int} {tgt : Nat} (d : decode cc pc = .ok (.if_icmp .lt off, 3)) (ht : (pc : Int) + off = (tgt : Int)) (kt : v < w → zV x cells slots tgt ls st K μ) (kf : ¬ v < w → zV x cells slots (pc + 3) ls st K μ) : zV x cells slots pc ls (.int w :: .int v :: st) K μ := fun H locs la hR hS hl => lv_icmp_lt hC.1 hC.2.1 d ht (fun c => kt c H locs la hR hS hl) (fun c => kf c H locs la hR hS hl)
theorem zv_if_ge (hC : zH x Ts own cc nL F Lc MC MS) {v : Int32} {off : Int} {tgt : Nat} (d : decode cc pc = .ok (.ifCond .ge off, 3)) (ht : (pc : Int) + off = (tgt : Int)) (kt : 0 ≤ v → zV x cells slots tgt ls st K μ) (kf : ¬ 0 ≤ v → zV x cells slots (pc + 3) ls st K μ) : zV x cells slots pc ls (.int v :: st) K μ := fun H locs la hR hS hl => lv_if_ge hC.1 hC.2.1 d ht (fun c => kt c H locs la hR hS hl) (fun c => kf c H locs la hR hS hl)
theorem zv_icmp_ge (hC : zH x Ts own cc nL F Lc MC MS) {v w : Int32} {off : Int} {tgt : Nat} (d : decode cc pc = .ok (.if_icmp .ge off, 3)) (ht : (pc : Int) + off = (tgt : Int)) (kt : w ≤ v → zV x cells slots tgt ls st K μ) (kf : ¬ w ≤ v → zV x cells slots (pc + 3) ls st K μ) : zV x cells slots pc ls (.int w :: .int v :: st) K μ := fun H locs la hR hS hl => lv_icmp_ge hC.1 hC.2.1 d ht (fun c => kt c H locs la hR hS hl) (fun c => kf c H locs la hR hS hl)
theorem zv_if_gt (hC : zH x Ts own cc nL F Lc MC MS) {v : Int32} {off : Int} {tgt : Nat} (d : decode cc pc = .ok (.ifCond .gt off, 3)) (ht : (pc : Int) + off = (tgt : Int)) (kt : 0 < v → zV x cells slots tgt ls st K μ) (kf : ¬ 0 < v → zV x cells slots (pc + 3) ls st K μ) : zV x cells slots pc ls (.int v :: st) K μ := fun H locs la hR hS hl => lv_if_gt hC.1 hC.2.1 d ht (fun c => kt c H locs la hR hS hl) (fun c => kf c H locs la hR hS hl)
theorem zv_icmp_gt (hC : zH x Ts own cc nL F Lc MC MS) {v w : Int32} {off : Int} {tgt : Nat} (d : decode cc pc = .ok (.if_icmp .gt off, 3)) (ht : (pc : Int) + off = (tgt : Int)) (kt : w < v → zV x cells slots tgt ls st K μ) (kf : ¬ w < v → zV x cells slots (pc + 3) ls st K μ) : zV x cells slots pc ls (.int w :: .int v :: st) K μ := fun H locs la hR hS hl => lv_icmp_gt hC.1 hC.2.1 d ht (fun c => kt c H locs la hR hS hl) (fun c => kf c H locs la hR hS hl)
theorem zv_if_le (hC : zH x Ts own cc nL F Lc MC MS) {v : Int32} {off : Int} {tgt : Nat} (d : decode cc pc = .ok (.ifCond .le off, 3)) (ht : (pc : Int) + off = (tgt : Int)) (kt : v ≤ 0 → zV x cells slots tgt ls st K μ) (kf : ¬ v ≤ 0 → zV x cells slots (pc + 3) ls st K μ) : zV x cells slots pc ls (.int v :: st) K μ := fun H locs la hR hS hl => lv_if_le hC.1 hC.2.1 d ht (fun c => kt c H locs la hR hS hl) (fun c => kf c H locs la hR hS hl)
theorem zv_icmp_le (hC : zH x Ts own cc nL F Lc MC MS) {v w : Int32} {off : Int} {tgt : Nat} (d : decode cc pc = .ok (.if_icmp .le off, 3)) (ht : (pc : Int) + off = (tgt : Int)) (kt : v ≤ w → zV x cells slots tgt ls st K μ) (kf : ¬ v ≤ w → zV x cells slots (pc + 3) ls st K μ) : zV x cells slots pc ls (.int w :: .int v :: st) K μ := fun H locs la hR hS hl => lv_icmp_le hC.1 hC.2.1 d ht (fun c => kt c H locs la hR hS hl) (fun c => kf c H locs la hR hS hl)
theorem zH.hts (hC : zH x Ts own cc nL F Lc MC MS) : ∀ w ∈ Ts, w.before (xa x) (xs x) = true := hC.2.2.2.2.1
theorem zH.ow (hC : zH x Ts own cc nL F Lc MC MS) : (xs x).vm.findClass own = some (xm x).cls := hC.2.2.2.1
theorem zH.zs (hC : zH x Ts own cc nL F Lc MC MS) : zSt (xg x) (xs x) (xs x).heap := hC.2.2.2.2.2.2.2.2.2.2.1
theorem zH.kk (hC : zH x Ts own cc nL F Lc MC MS) : va_K (xg x).1 vwCl (zTys (xg x)) (xs x) := hC.zs.1
theorem zH.nt (hC : zH x Ts own cc nL F Lc MC MS) : (xl x).stackTraces = false := hC.2.2.2.2.2.2.2.2.2.2.2
theorem zH.locks (hC : zH x Ts own cc nL F Lc MC MS) : (xme x).locks = false := hC.2.2.2.2.2.1
theorem zv_get (hC : zH x Ts own cc nL F Lc MC MS) {ci k ix a N : Nat} {C : String} {T : u_T} {v : Value} (hc : vwCl[ci]? = some (C, T, N)) (hin : ∀ w ∈ u_ws C T N, w ∈ Ts) (hk : k < N) (hci : ci < 10) (hw : Cond.fieldLink own ix (T k).1 (T k).2.1 (T k).2.2.1 ∈ Ts) (d : decode cc pc = .ok (.getfield ix, 3)) (hv : (zFs (K.2.2.1 a) (μ a) ci)[k]? = some v) (hO : zO K a ci)
    (kk : zV x cells slots (pc + 3) ls (v :: st) K μ) : zV x cells slots pc ls (.ref a :: st) K μ := by
  intro H locs la hR hS hl
  obtain ⟨q0, hq⟩ := zplace (g := xg x) (μ := μ) hO.1
  rw [zobj hO hci] at hq
  exact va_get hC.1 hC.2.1 hC.hts hin hC.ow hC.kk hR.1 q0 hq hc k hk (hC.hts _ hw) (fun _ h => h) hv d (kk H locs la hR hS hl)
theorem zv_getN (hC : zH x Ts own cc nL F Lc MC MS) {ci k ix a N : Nat} {C : String} {T : u_T} {v : Value} (hc : vwCl[ci]? = some (C, T, N)) (hin : ∀ w ∈ u_ws C T N, w ∈ Ts) (hk : k < N) (hci : ci < 10) (hw : (own, ix, (T k).1, (T k).2.1, (T k).2.2.1) ∈ zNf) (d : decode cc pc = .ok (.getfield ix, 3)) (hv : (zFs (K.2.2.1 a) (μ a) ci)[k]? = some v) (hO : zO K a ci)
    (kk : zV x cells slots (pc + 3) ls (v :: st) K μ) : zV x cells slots pc ls (.ref a :: st) K μ := by
  intro H locs la hR hS hl
  obtain ⟨q0, hq⟩ := zplace (g := xg x) (μ := μ) hO.1
  rw [zobj hO hci] at hq
  exact va_getN hC.1 hC.2.1 hC.hts hin hC.ow hC.kk hR.1 q0 hq hc k hk (va_Nw.use rfl (hC.zs.2.2.2.1 _ hw)) (fun _ h => h) hv d (kk H locs la hR hS hl)
theorem zv_put (hC : zH x Ts own cc nL F Lc MC MS) {ci k ix a N : Nat} {C : String} {T : u_T} {v : Int32} (hc : vwCl[ci]? = some (C, T, N)) (hin : ∀ w ∈ u_ws C T N, w ∈ Ts) (hk : k < N) (hci : ci < 10) (hw : Cond.fieldLink own ix (T k).1 (T k).2.1 (T k).2.2.1 ∈ Ts) (ty0 : Nat → FieldType) (hty : ∀ k, k < N → parseFieldDescriptor (T k).2.2.1 = some (ty0 k)) (hnm : ∀ a, a < N → ∀ b, b < N → a ≠ b → (T a).2.1 ≠ (T b).2.1) (hfin : (T k).2.2.2 = false)
    (hset : ∀ (r : Nat → Option Nat) (f : Nat → Int32), (zFs r f ci).set k (.int v) = zFs r (fun j => if j = k then v else f j) ci) (hlen : ∀ (r : Nat → Option Nat) (f : Nat → Int32), k < (zFs r f ci).length) (d : decode cc pc = .ok (.putfield ix, 3)) (hn : narrow (ty0 k) (.int v) = .int v) (hfit : fits (ty0 k) (.int v) = true) (hO : zO K a ci)
    (kk : zV x cells slots (pc + 3) ls st K (zup μ a k v)) : zV x cells slots pc ls (.int v :: .ref a :: st) K μ := by
  intro H locs la hR hS hl
  obtain ⟨q0, hq0⟩ := zplace (g := xg x) (μ := μ) hO.1
  have hq := hq0
  rw [zobj hO hci] at hq
  refine va_put hC.1 hC.2.1 hC.hts hin ty0 hty hnm hC.ow hC.kk hR.1 hR.2 hS q0 hq hc k hk (hC.hts _ hw) (fun _ h => h) hfin (hty k hk) hn hfit (hlen _ _) d (fun H1 locs1 hP1 hD1 hS1 => ?_)
  have he := zset (i := k) (v := v) hR.2 hO.1 hq0 (.inr (ci, (zFs (K.2.2.1 a) (μ a) ci).set k (.int v))) (by rw [zobj hO hci, hset, zup_at])
  rw [he] at hP1 hD1
  exact kk H1 locs1 la ⟨hP1, hD1⟩ hS1 hl
theorem zv_putN (hC : zH x Ts own cc nL F Lc MC MS) {ci k ix a N : Nat} {C : String} {T : u_T} {v : Int32} (hc : vwCl[ci]? = some (C, T, N)) (hin : ∀ w ∈ u_ws C T N, w ∈ Ts) (hk : k < N) (hci : ci < 10) (hw : (own, ix, (T k).1, (T k).2.1, (T k).2.2.1) ∈ zNf) (ty0 : Nat → FieldType) (hty : ∀ k, k < N → parseFieldDescriptor (T k).2.2.1 = some (ty0 k)) (hnm : ∀ a, a < N → ∀ b, b < N → a ≠ b → (T a).2.1 ≠ (T b).2.1) (hfin : (T k).2.2.2 = false)
    (hset : ∀ (r : Nat → Option Nat) (f : Nat → Int32), (zFs r f ci).set k (.int v) = zFs r (fun j => if j = k then v else f j) ci) (hlen : ∀ (r : Nat → Option Nat) (f : Nat → Int32), k < (zFs r f ci).length) (d : decode cc pc = .ok (.putfield ix, 3)) (hn : narrow (ty0 k) (.int v) = .int v) (hfit : fits (ty0 k) (.int v) = true) (hO : zO K a ci)
    (kk : zV x cells slots (pc + 3) ls st K (zup μ a k v)) : zV x cells slots pc ls (.int v :: .ref a :: st) K μ := by
  intro H locs la hR hS hl
  obtain ⟨q0, hq0⟩ := zplace (g := xg x) (μ := μ) hO.1
  have hq := hq0
  rw [zobj hO hci] at hq
  refine va_putN hC.1 hC.2.1 hC.hts hin ty0 hty hnm hC.ow hC.kk hR.1 hR.2 hS q0 hq hc k hk (va_Nw.use rfl (hC.zs.2.2.2.1 _ hw)) (fun _ h => h) hfin (hty k hk) hn hfit (hlen _ _) d (fun H1 locs1 hP1 hD1 hS1 => ?_)
  have he := zset (i := k) (v := v) hR.2 hO.1 hq0 (.inr (ci, (zFs (K.2.2.1 a) (μ a) ci).set k (.int v))) (by rw [zobj hO hci, hset, zup_at])
  rw [he] at hP1 hD1
  exact kk H1 locs1 la ⟨hP1, hD1⟩ hS1 hl
theorem zarr {g : zG} {a c n : Nat} (h : zI K a c n) : zC g K μ a = zE g (K.2.2.1 a) (μ a) (K.2.2.2 a) c n := by
  unfold zC; rw [h.2]
theorem zv_iald (hC : zH x Ts own cc nL F Lc MC MS) {a n : Nat} {i : Int32} (d : decode cc pc = .ok (.iaload, 1)) (hI : zI K a 10 n) (hi : vp_in i n) (kk : zV x cells slots (pc + 1) ls (.int (μ a i.toNatClampNeg) :: st) K μ) : zV x cells slots pc ls (.int i :: .ref a :: st) K μ := by
  intro H locs la hR hS hl
  obtain ⟨q0, hq⟩ := zplace (g := xg x) (μ := μ) hI.1
  rw [zarr hI] at hq
  exact va_iald (f := μ a) hC.1 hC.2.1 hC.kk hR.1 q0 0 hq rfl hi d (kk H locs la hR hS hl)
theorem zv_aald (hC : zH x Ts own cc nL F Lc MC MS) {a n : Nat} {i : Int32} (d : decode cc pc = .ok (.aaload, 1)) (hI : zI K a 14 n) (hi : vp_in i n) (kk : zV x cells slots (pc + 1) ls (va_rf (K.2.2.1 a i.toNatClampNeg) :: st) K μ) : zV x cells slots pc ls (.int i :: .ref a :: st) K μ := by
  intro H locs la hR hS hl
  obtain ⟨q0, hq⟩ := zplace (g := xg x) (μ := μ) hI.1
  rw [zarr hI] at hq
  exact va_aldq (f := K.2.2.1 a) hC.1 hC.2.1 hC.kk hR.1 q0 4 hq rfl hi d (kk H locs la hR hS hl)
theorem zv_alen (hC : zH x Ts own cc nL F Lc MC MS) {a n c : Nat} (d : decode cc pc = .ok (.arraylength, 1)) (hI : zI K a c n) (hc : c = 10 ∨ c = 14) (kk : zV x cells slots (pc + 1) ls (.int (nI n) :: st) K μ) : zV x cells slots pc ls (.ref a :: st) K μ := by
  intro H locs la hR hS hl
  obtain ⟨q0, hq⟩ := zplace (g := xg x) (μ := μ) hI.1
  rw [zarr hI] at hq
  rcases hc with rfl | rfl
  · exact va_alen (x := (n, .inl (μ a))) hC.1 hC.2.1 hC.kk hR.1 q0 0 hq rfl rfl d (kk H locs la hR hS hl)
  · exact va_alen (x := (n, .inr (.inr (.inr (.inr (K.2.2.1 a)))))) hC.1 hC.2.1 hC.kk hR.1 q0 4 hq rfl rfl d (kk H locs la hR hS hl)
theorem zv_iast (hC : zH x Ts own cc nL F Lc MC MS) {a n : Nat} {i v : Int32} (d : decode cc pc = .ok (.iastore, 1)) (hI : zI K a 10 n) (hi : vp_in i n) (kk : zV x cells slots (pc + 1) ls st K (zup μ a i.toNatClampNeg v)) : zV x cells slots pc ls (.int v :: .int i :: .ref a :: st) K μ := by
  intro H locs la hR hS hl
  obtain ⟨q0, hq0⟩ := zplace (g := xg x) (μ := μ) hI.1
  have hq := hq0
  rw [zarr hI] at hq
  refine va_iast (f := μ a) hC.1 hC.2.1 hC.kk hR.1 hR.2 hS q0 0 hq rfl hi d (fun H1 locs1 hP1 hD1 hS1 => ?_)
  have he := zset (i := i.toNatClampNeg) (v := v) hR.2 hI.1 hq0 (.inl ((xg x).2.1 0, n, .inl (upd (μ a) i.toNatClampNeg v))) (by rw [zarr hI, zup_at]; rfl)
  rw [he] at hP1 hD1
  exact kk H1 locs1 la ⟨hP1, hD1⟩ hS1 hl
/-- a long, a reference written: what stands still changes -/
def zKl (K : zK) (a i : Nat) (v : Int64) : zK := (K.1, K.2.1, K.2.2.1, fun b => if b = a then vp_updL (K.2.2.2 a) i v else K.2.2.2 b)
def zKr (K : zK) (a i b : Nat) : zK := (K.1, K.2.1, fun c => if c = a then va_up (K.2.2.1 a) i (some b) else K.2.2.1 c, K.2.2.2)
theorem zsetK {g : zG} {K' : zK} {a k : Nat} (hD : va_D (zA g) (zW g K μ)) (h : a ∈ K.1) (hk : (zW g K μ)[k]? = some (a, zC g K μ a)) (hL : K'.1 = K.1) (hb : ∀ b, b ≠ a → zC g K' μ b = zC g K μ b) (e : va_E) (he : e = zC g K' μ a) : (zW g K μ).set k (a, e) = zW g K' μ := by
  have h1 := va_pl_set (X := []) (f := zC g K μ) (e := e) hD h hk
  refine h1.trans ?_
  show va_pl K.1 _ = va_pl K'.1 _
  rw [hL]
  refine va_pl_congr fun b => ?_
  by_cases hba : b = a
  · subst hba; rw [va_up_self, he]
  · rw [va_up_ne _ _ hba, hb b hba]
theorem zv_aast (hC : zH x Ts own cc nL F Lc MC MS) {a n b : Nat} {i : Int32} (d : decode cc pc = .ok (.aastore, 1)) (hI : zI K a 14 n) (hi : vp_in i n) (hb : zO K b 7) (kk : zV x cells slots (pc + 1) ls st (zKr K a i.toNatClampNeg b) μ) : zV x cells slots pc ls (.ref b :: .int i :: .ref a :: st) K μ := by
  intro H locs la hR hS hl
  obtain ⟨q0, hq0⟩ := zplace (g := xg x) (μ := μ) hI.1
  obtain ⟨q1, hq1⟩ := zplace (g := xg x) (μ := μ) hb.1
  rw [zobj hb (by decide)] at hq1
  have hq := hq0
  rw [zarr hI] at hq
  refine va_astq (f := K.2.2.1 a) hC.1 hC.2.1 hC.kk hR.1 hR.2 hS q0 4 q1 7 hq rfl hq1 rfl hi d (fun H1 locs1 hP1 hD1 hS1 => ?_)
  have he := zsetK (K' := zKr K a i.toNatClampNeg b) hR.2 hI.1 hq0 rfl (fun c hc => by simp [zC, zKr, hc]) (.inl ((xg x).2.1 4, n, .inr (.inr (.inr (.inr (va_up (K.2.2.1 a) i.toNatClampNeg (some b))))))) (by
    have h2 : zI (zKr K a i.toNatClampNeg b) a 14 n := hI
    rw [zarr h2]; simp [zKr, zE])
  rw [he] at hP1 hD1
  exact kk H1 locs1 la ⟨hP1, hD1⟩ hS1 hl
theorem zv_ifnullN (hC : zH x Ts own cc nL F Lc MC MS) {a : Nat} {off : Int} (d : decode cc pc = .ok (.ifnull off, 3)) (kk : zV x cells slots (pc + 3) ls st K μ) : zV x cells slots pc ls (.ref a :: st) K μ := fun H locs la hR hS hl => lv_ifnull hC.1 hC.2.1 d (kk H locs la hR hS hl)
theorem zv_mmax (hC : zH x Ts own cc nL F Lc MC MS) {ix : Nat} {v w : Int32} (h1 : Cond.methodLink own ix Lib.Math.max.name ∈ Ts) (h2 : Cond.static Lib.Math.max.name ∈ Ts) (h3 : Cond.initialized "java/lang/Math" ∈ Ts) (h4 : Cond.code Lib.Math.max.name Lib.Math.max.code 2 (some .int) ∈ Ts) (d : decode cc pc = .ok (.invokestatic ix, 3)) (hF : 1 ≤ F) (hLc : (st.map fun v => v.category).sum + 13 ≤ Lc) (hc : cells ≤ MC) (hs : slots ≤ MS) (hnl : ls.length = nL)
    (kk : zV x cells slots (pc + 3) ls (.int (if v < w then w else v) :: st) K μ) : zV x cells slots pc ls (.int w :: .int v :: st) K μ := fun H locs la hR hS hl =>
  va_mmax hC.1 hC.2.1 (hC.2.2.1.trans (hnl.symm.trans hl.1.symm)) hC.ow (hC.hts _ h1) (hC.hts _ h2) (hC.hts _ h3) (hC.hts _ h4) (Nat.le_trans hF hC.2.2.2.2.2.2.1) (Nat.le_trans hLc hC.2.2.2.2.2.2.2.1) (Nat.le_trans hc hC.2.2.2.2.2.2.2.2.1) (Nat.le_trans hs hC.2.2.2.2.2.2.2.2.2.1) d (kk H locs la hR hS hl)
end ZV
