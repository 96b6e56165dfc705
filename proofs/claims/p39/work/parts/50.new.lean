/-! ===== the judgement zVn: as zV, for heaps of one size (the constructors: a new cell's address is the heap's size) ===== -/
def zVn (x : zX) (cells slots pc : Nat) (ls : List (Option Value)) (st : List Value) (K : zK) (μ : zF) (N : Nat) : Prop :=
  ∀ (H : Heap) (locs : List Loc) (la : Array Slot), zR (xg x) K μ H → H.size = N → va_S (zA (xg x)) (xs x).heap H locs → zLs la ls → zWx x H locs cells slots (F0 (xm x) pc la st)
theorem zVn.of {x : zX} {cells slots pc N : Nat} {ls : List (Option Value)} {st : List Value} {K : zK} {μ : zF} (k : zV x cells slots pc ls st K μ) : zVn x cells slots pc ls st K μ N := fun H locs la hR _ hS hl => k H locs la hR hS hl
/-- one cell more, all of it 0 -/
def zKn (K : zK) (N c n : Nat) : zK := (K.1 ++ [N], fun a => if a = N then (c, n) else K.2.1 a, fun a => if a = N then (fun _ => none) else K.2.2.1 a, fun a => if a = N then (fun _ => 0) else K.2.2.2 a)
def zmn (μ : zF) (N : Nat) : zF := fun a k => if a = N then 0 else μ a k
theorem zW_new {g : zG} {K : zK} {μ : zF} {N c n : Nat} (h : N ∉ K.1) : zW g (zKn K N c n) (zmn μ N) = zW g K μ ++ [(N, zE g (fun _ => none) (fun _ => 0) (fun _ => 0) c n)] := by
  unfold zW va_pl
  show (K.1 ++ [N]).map _ = _
  rw [List.map_append]
  congr 1
  · refine List.map_congr_left (fun a ha => ?_)
    have hne : a ≠ N := fun q => h (q ▸ ha)
    have e : zmn μ N a = μ a := by funext k; simp [zmn, hne]
    simp [zC, zKn, hne, e]
  · have e : zmn μ N N = fun _ => 0 := by funext k; simp [zmn]
    simp [zC, zKn, e]
theorem zR.notin {g : zG} {K : zK} {μ : zF} {H : Heap} {N : Nat} (h : zR g K μ H) (hN : H.size ≤ N) : N ∉ K.1 := fun q => by
  obtain ⟨k, hk⟩ := zplace (g := g) (μ := μ) q
  have := (h.1 k _ hk).lt
  simp only at this
  omega
section ZVN
variable {x : zX} {Ts : List Cond} {own : String} {cc : ByteArray} {nL F Lc MC MS cells slots pc N : Nat} {ls : List (Option Value)} {st : List Value} {K : zK} {μ : zF}
theorem zn_iconst (hC : zH x Ts own cc nL F Lc MC MS) {n : Int} {v : Int32} (d : decode cc pc = .ok (.iconst n, 1)) (hv : Int32.ofInt n = v) (k : zVn x cells slots (pc + 1) ls (.int v :: st) K μ N) : zVn x cells slots pc ls st K μ N := fun H locs la hR hN hS hl => lv_iconst hC.1 hC.2.1 d hv (k H locs la hR hN hS hl)
theorem zn_bipush (hC : zH x Ts own cc nL F Lc MC MS) {n : Int} {v : Int32} (d : decode cc pc = .ok (.bipush n, 2)) (hv : (Int8.ofInt n).toInt32 = v) (k : zVn x cells slots (pc + 2) ls (.int v :: st) K μ N) : zVn x cells slots pc ls st K μ N := fun H locs la hR hN hS hl => lv_bipush hC.1 hC.2.1 d hv (k H locs la hR hN hS hl)
theorem zn_sipush (hC : zH x Ts own cc nL F Lc MC MS) {n : Int} {v : Int32} (d : decode cc pc = .ok (.sipush n, 3)) (hv : (Int16.ofInt n).toInt32 = v) (k : zVn x cells slots (pc + 3) ls (.int v :: st) K μ N) : zVn x cells slots pc ls st K μ N := fun H locs la hR hN hS hl => lv_sipush hC.1 hC.2.1 d hv (k H locs la hR hN hS hl)
theorem zn_iload_n (hC : zH x Ts own cc nL F Lc MC MS) {j : Fin 4} {i : Nat} {v : Int32} (d : decode cc pc = .ok (.iload_n j, 1)) (hi : (j : Nat) = i) (hk : ls[i]? = some (some (.int v))) (k : zVn x cells slots (pc + 1) ls (.int v :: st) K μ N) : zVn x cells slots pc ls st K μ N := fun H locs la hR hN hS hl => lv_iload_n hC.1 hC.2.1 d hi (hl.at hk) (k H locs la hR hN hS hl)
theorem zn_aload_n (hC : zH x Ts own cc nL F Lc MC MS) {j : Fin 4} {i : Nat} {a : Nat} (d : decode cc pc = .ok (.aload_n j, 1)) (hi : (j : Nat) = i) (hk : ls[i]? = some (some (.ref a))) (k : zVn x cells slots (pc + 1) ls (.ref a :: st) K μ N) : zVn x cells slots pc ls st K μ N := fun H locs la hR hN hS hl => lv_aload_n hC.1 hC.2.1 d hi (hl.at hk) (k H locs la hR hN hS hl)
theorem zn_mmax (hC : zH x Ts own cc nL F Lc MC MS) {ix : Nat} {v w : Int32} (h1 : Cond.methodLink own ix Lib.Math.max.name ∈ Ts) (h2 : Cond.static Lib.Math.max.name ∈ Ts) (h3 : Cond.initialized "java/lang/Math" ∈ Ts) (h4 : Cond.code Lib.Math.max.name Lib.Math.max.code 2 (some .int) ∈ Ts) (d : decode cc pc = .ok (.invokestatic ix, 3)) (hF : 1 ≤ F) (hLc : (st.map fun v => v.category).sum + 13 ≤ Lc) (hc : cells ≤ MC) (hs : slots ≤ MS) (hnl : ls.length = nL)
    (kk : zVn x cells slots (pc + 3) ls (.int (if v < w then w else v) :: st) K μ N) : zVn x cells slots pc ls (.int w :: .int v :: st) K μ N := fun H locs la hR hN hS hl =>
  va_mmax hC.1 hC.2.1 (hC.2.2.1.trans (hnl.symm.trans hl.1.symm)) hC.ow (hC.hts _ h1) (hC.hts _ h2) (hC.hts _ h3) (hC.hts _ h4) (Nat.le_trans hF hC.2.2.2.2.2.2.1) (Nat.le_trans hLc hC.2.2.2.2.2.2.2.1) (Nat.le_trans hc hC.2.2.2.2.2.2.2.2.1) (Nat.le_trans hs hC.2.2.2.2.2.2.2.2.2.1) d (kk H locs la hR hN hS hl)
theorem zn_new (hC : zH x Ts own cc nL F Lc MC MS) {ci ix n : Nat} {C : String} {T : u_T} (hc : vwCl[ci]? = some (C, T, n)) (hin : ∀ w ∈ u_ws C T n, w ∈ Ts) (hci : ci < 10) (ty : Nat → FieldType) (hty : ∀ k, k < n → parseFieldDescriptor (T k).2.2.1 = some (ty k)) (hcl : Cond.classLink own ix C ∈ Ts) (hinst : Cond.instantiable C n ∈ Ts) (hini : Cond.initialized C ∈ Ts) (hfs : ∀ j, j < n → defaultValue (ty j) = vp_V (zFs (fun _ => none) (fun _ => 0) ci) j) (hcm : cells + 1 ≤ MC) (hsm : slots + n ≤ MS) (d : decode cc pc = .ok (.new ix, 3))
    (kk : zVn x (cells + 1) (slots + n) (pc + 3) ls (.ref N :: st) (zKn K N ci 0) (zmn μ N) (N + 1)) : zVn x cells slots pc ls st K μ N := by
  intro H locs la hR hN hS hl
  have hKn := hC.kk.1 ci _ hc
  have hni : N ∉ K.1 := hR.notin (by omega)
  have hb : (xg x).2.2 ≤ H.size := Nat.le_trans hC.zs.2.1 hS.1
  refine W.newcK hC.1 hC.2.1 hC.ow (hC.hts _ hcl) (hC.hts _ hinst) (hC.hts _ hini) rfl d (Nat.le_trans hcm hC.2.2.2.2.2.2.2.2.1) (Nat.le_trans hsm hC.2.2.2.2.2.2.2.2.2.1) hKn.2.1 hN fun H1 kC hkC e1 z1 o1 => ?_
  have hk : ∀ (k : Nat) (q : Nat × va_E), (zW (xg x) K μ)[k]? = some q → H1[q.1]? = H[q.1]? := fun k q hq => o1 q.1 (by rw [← hN]; exact (hR.1 k q hq).lt)
  have hE : zE (xg x) (fun _ => none) (fun _ => 0) (fun _ => 0) ci 0 = .inr (ci, zFs (fun _ => none) (fun _ => 0) ci) := zE_obj hci
  refine kk H1 locs la ⟨?_, ?_⟩ z1 ⟨Nat.le_trans hS.1 (by omega), fun q h1 h2 => (o1 q (by rw [← hN]; exact Nat.lt_of_lt_of_le h1 hS.1)).trans (hS.2.1 q h1 h2), hS.2.2⟩ hl
  · rw [zW_new hni, hE]
    refine (hR.1.kept hk).app (fun k q hq => ?_)
    have hz : k < 1 := (List.getElem?_eq_some_iff.mp hq).1
    rw [show k = 0 by omega] at hq
    cases hq
    exact ⟨_, hc, (u_born ty hC.hts hin hKn hkC e1 hty).to hfs⟩
  · rw [zW_new hni, hE]
    exact hR.2.push hR.1 hN.symm (by show (xg x).2.2 ≤ N; omega)
theorem zn_newa (hC : zH x Ts own cc nL F Lc MC MS) {atype : ArrayType} {n : Int32} {m ck : Nat} (hck : ck = 10 ∧ newarray.typeOf atype = .int) (harr : Cond.arrayClass (newarray.typeOf atype) ∈ Ts) (hn : ¬ n < 0) (hm : n.toNatClampNeg = m) (hb : m ≤ 10000) (hcm : cells + 1 ≤ MC) (hsm : slots + m ≤ MS) (d : decode cc pc = .ok (.newarray atype, 2))
    (kk : zVn x (cells + 1) (slots + m) (pc + 2) ls (.ref N :: st) (zKn K N ck m) (zmn μ N) (N + 1)) : zVn x cells slots pc ls (.int n :: st) K μ N := by
  intro H locs la hR hN hS hl
  have hni : N ∉ K.1 := hR.notin (by omega)
  have hb2 : (xg x).2.2 ≤ H.size := Nat.le_trans hC.zs.2.1 hS.1
  refine va_newaK hC.1 hC.2.1 (hC.hts _ harr) rfl d rfl hn hm (by rw [hck.2] <;> simp only [componentBytes] <;> omega) (Nat.le_trans hcm hC.2.2.2.2.2.2.2.2.1) (Nat.le_trans hsm hC.2.2.2.2.2.2.2.2.2.1) hN fun H1 cA e1 z1 o1 hAr hNm => ?_
  have hk : ∀ (k : Nat) (q : Nat × va_E), (zW (xg x) K μ)[k]? = some q → H1[q.1]? = H[q.1]? := fun k q hq => o1 q.1 (by rw [← hN]; exact (hR.1 k q hq).lt)
  have hcell : ∀ e : va_E, zE (xg x) (fun _ => none) (fun _ => 0) (fun _ => 0) ck m = e → va_at (xg x).1 vwCl (N, e) H1 := by
    intro e he
    obtain ⟨q1, q2⟩ := hck
    · subst q1; subst he
      have h1 := (hC.kk.2 0 _ rfl).2
      rw [q2] at e1 hNm
      cases Option.some.inj (hNm.symm.trans h1)
      exact e1
  refine kk H1 locs la ⟨?_, ?_⟩ z1 ⟨Nat.le_trans hS.1 (by omega), fun q h1 h2 => (o1 q (by rw [← hN]; exact Nat.lt_of_lt_of_le h1 hS.1)).trans (hS.2.1 q h1 h2), hS.2.2⟩ hl
  · rw [zW_new hni]
    refine (hR.1.kept hk).app (fun k q hq => ?_)
    have hz : k < 1 := (List.getElem?_eq_some_iff.mp hq).1
    rw [show k = 0 by omega] at hq
    cases hq
    exact hcell _ rfl
  · rw [zW_new hni]
    exact hR.2.push hR.1 hN.symm (by show (xg x).2.2 ≤ N; omega)
theorem zn_dup (hC : zH x Ts own cc nL F Lc MC MS) {v : Value} (hv : v.category = 1) (d : decode cc pc = .ok (.dup, 1)) (k : zVn x cells slots (pc + 1) ls (v :: v :: st) K μ N) : zVn x cells slots pc ls (v :: st) K μ N := fun H locs la hR hN hS hl => lv_dup hC.1 hC.2.1 d hv (k H locs la hR hN hS hl)
theorem zn_goto (hC : zH x Ts own cc nL F Lc MC MS) {off : Int} {tgt : Nat} (d : decode cc pc = .ok (.goto off, 3)) (ht : (pc : Int) + off = (tgt : Int)) (k : zVn x cells slots tgt ls st K μ N) : zVn x cells slots pc ls st K μ N := fun H locs la hR hN hS hl => lv_goto hC.1 hC.2.1 d ht (k H locs la hR hN hS hl)
theorem zn_icmp_ge (hC : zH x Ts own cc nL F Lc MC MS) {v w : Int32} {off : Int} {tgt : Nat} (d : decode cc pc = .ok (.if_icmp .ge off, 3)) (ht : (pc : Int) + off = (tgt : Int)) (kt : w ≤ v → zVn x cells slots tgt ls st K μ N) (kf : ¬ w ≤ v → zVn x cells slots (pc + 3) ls st K μ N) : zVn x cells slots pc ls (.int w :: .int v :: st) K μ N := fun H locs la hR hN hS hl => lv_icmp_ge hC.1 hC.2.1 d ht (fun c => kt c H locs la hR hN hS hl) (fun c => kf c H locs la hR hN hS hl)
theorem zn_istore_n (hC : zH x Ts own cc nL F Lc MC MS) {j : Fin 4} {i : Nat} {v : Int32} {ls' : List (Option Value)} (d : decode cc pc = .ok (.istore_n j, 1)) (hi : (j : Nat) = i) (hn : zNl ls i = true) (hlt : i < ls.length) (hs : ls.set i (some (.int v)) = ls') (k : zVn x cells slots (pc + 1) ls' st K μ N) : zVn x cells slots pc ls (.int v :: st) K μ N := by
  subst hs
  exact fun H locs la hR hN hS hl => lv_istore_n hC.1 hC.2.1 d hi hl.has hlt rfl (fun la' h' => k H locs la' hR hN hS (zLs.store1 hn hlt h'))
theorem zn_iinc (hC : zH x Ts own cc nL F Lc MC MS) {i : Nat} {n : Int} {v w : Int32} {ls' : List (Option Value)} (d : decode cc pc = .ok (.iinc i n, 3)) (hk : ls[i]? = some (some (.int v))) (hv : v + Int32.ofInt n = w) (hn : zNl ls i = true) (hs : ls.set i (some (.int w)) = ls') (k : zVn x cells slots (pc + 3) ls' st K μ N) : zVn x cells slots pc ls st K μ N := by
  subst hs
  have hlt : i < ls.length := (List.getElem?_eq_some_iff.mp hk).1
  intro H locs la hR hN hS hl
  obtain ⟨q, hq⟩ := List.getElem?_of_mem (zAs_in.mpr hk)
  exact lv_iinc hC.1 hC.2.1 d hl.has hq hv hlt rfl (fun la' h' => k H locs la' hR hN hS (zLs.store1 hn hlt h'))
theorem zn_getr (hC : zH x Ts own cc nL F Lc MC MS) {ci k ix a b n : Nat} {C : String} {T : u_T} (hc : vwCl[ci]? = some (C, T, n)) (hin : ∀ w ∈ u_ws C T n, w ∈ Ts) (hk : k < n) (hci : ci < 10) (hw : Cond.fieldLink own ix (T k).1 (T k).2.1 (T k).2.2.1 ∈ Ts) (d : decode cc pc = .ok (.getfield ix, 3)) (hv : ∀ (r : Nat → Option Nat) (f : Nat → Int32), (zFs r f ci)[k]? = some (va_rf (r k))) (hO : zO K a ci) (hr : zr K a k b)
    (kk : zVn x cells slots (pc + 3) ls (.ref b :: st) K μ N) : zVn x cells slots pc ls (.ref a :: st) K μ N := by
  intro H locs la hR hN hS hl
  obtain ⟨q0, hq⟩ := zplace (g := xg x) (μ := μ) hO.1
  rw [zobj hO hci] at hq
  exact va_get hC.1 hC.2.1 hC.hts hin hC.ow hC.kk hR.1 q0 hq hc k hk (hC.hts _ hw) (fun _ h => h) (show (zFs (K.2.2.1 a) (μ a) ci)[k]? = some (.ref b) by rw [hv, hr]; rfl) d (kk H locs la hR hN hS hl)
theorem zn_alen (hC : zH x Ts own cc nL F Lc MC MS) {a n : Nat} (d : decode cc pc = .ok (.arraylength, 1)) (hI : zI K a 14 n) (kk : zVn x cells slots (pc + 1) ls (.int (nI n) :: st) K μ N) : zVn x cells slots pc ls (.ref a :: st) K μ N := by
  intro H locs la hR hN hS hl
  obtain ⟨q0, hq⟩ := zplace (g := xg x) (μ := μ) hI.1
  rw [zarr hI] at hq
  exact va_alen (x := (n, .inr (.inr (.inr (.inr (K.2.2.1 a)))))) hC.1 hC.2.1 hC.kk hR.1 q0 4 hq rfl rfl d (kk H locs la hR hN hS hl)
theorem zn_oinit (hC : zH x Ts own cc nL F Lc MC MS) {a ix : Nat} (h1 : Cond.methodLink own ix objectInit ∈ Ts) (h2 : Cond.instanceMethod objectInit ∈ Ts) (h3 : Cond.code objectInit ⟨#[0xb1]⟩ 1 none ∈ Ts) (d : decode cc pc = .ok (.invokespecial ix, 3)) (hF : 1 ≤ F) (hLc : (st.map fun v => v.category).sum + 12 ≤ Lc) (hnl : ls.length = nL) (kk : zVn x cells slots (pc + 3) ls st K μ N) : zVn x cells slots pc ls (.ref a :: st) K μ N := by
  intro H locs la hR hN hS hl
  exact W.objInit hC.1 hC.2.1 hC.ow (hC.hts _ h1) (hC.hts _ h2) (hC.hts _ h3) rfl (hl.1.trans (hnl.trans hC.2.2.1.symm)) rfl d (Nat.le_trans hF hC.2.2.2.2.2.2.1) (Nat.le_trans (by show 2 * 0 + _ + 12 ≤ Lc; omega) hC.2.2.2.2.2.2.2.1) (kk H locs la hR hN hS hl)
end ZVN
