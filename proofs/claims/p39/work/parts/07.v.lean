/-! ===== the walks' own words: the heap as numbers (mu) and what stands still (K) ===== -/
abbrev zF : Type := Nat → Nat → Int32
abbrev zK : Type := List Nat × (Nat → Nat × Nat) × (Nat → Nat → Option Nat) × (Nat → Nat → Int64)
abbrev zG : Type := va_G × (Nat → ClassId) × Nat
def zup (μ : zF) (a k : Nat) (v : Int32) : zF := fun b j => if b = a ∧ j = k then v else μ b j
theorem zup_at (μ : zF) (a k : Nat) (v : Int32) : zup μ a k v a = fun j => if j = k then v else μ a j := by
  funext j; simp [zup]
theorem zup_ne (μ : zF) {a b : Nat} (k : Nat) (v : Int32) (h : b ≠ a) : zup μ a k v b = μ b := by
  funext j; simp [zup, h]
def zFs (r : Nat → Option Nat) (f : Nat → Int32) (c : Nat) : List Value := match c with
  | 0 => [va_rf (r 0), va_rf (r 1), va_rf (r 2), .int (f 3), .int (f 4)]
  | 1 => [va_rf (r 0), va_rf (r 1), va_rf (r 2)]
  | 2 => [va_rf (r 0), .int (f 1)]
  | 3 => [va_rf (r 0), va_rf (r 1), va_rf (r 2), va_rf (r 3), va_rf (r 4), .int (f 5)]
  | 4 => [va_rf (r 0), va_rf (r 1), va_rf (r 2), va_rf (r 3), va_rf (r 4)]
  | 5 => [va_rf (r 0), va_rf (r 1), va_rf (r 2), va_rf (r 3), .int (f 4)]
  | 6 => [va_rf (r 0)]
  | 7 => [va_rf (r 0), va_rf (r 1), .int (f 2), .int (f 3), .int (f 4), .int (f 5), .int (f 6), .int (f 7), .int (f 8), .int (f 9)]
  | 8 => [va_rf (r 0), va_rf (r 1), va_rf (r 2), va_rf (r 3), va_rf (r 4), va_rf (r 5), va_rf (r 6), .int (f 7)]
  | 9 => [va_rf (r 0), .int (f 1), va_rf (r 2), .int (f 3), .int (f 4), va_rf (r 5), va_rf (r 6), va_rf (r 7), va_rf (r 8), va_rf (r 9), va_rf (r 10), .int (f 11), .int (f 12), .int (f 13)]
  | _ => []
def zE (g : zG) (r : Nat → Option Nat) (f : Nat → Int32) (lg : Nat → Int64) (c n : Nat) : va_E := match c with
  | 10 => .inl (g.2.1 0, n, .inl f)
  | 11 => .inl (g.2.1 1, n, .inl f)
  | 12 => .inl (g.2.1 2, n, .inl f)
  | 13 => .inl (g.2.1 3, n, .inr (.inl lg))
  | 14 => .inl (g.2.1 4, n, .inr (.inr (.inr (.inr r))))
  | c => .inr (c, zFs r f c)
theorem zE_obj {g : zG} {r : Nat → Option Nat} {f : Nat → Int32} {lg : Nat → Int64} {c n : Nat} (h : c < 10) : zE g r f lg c n = .inr (c, zFs r f c) := by
  rcases (show c = 0 ∨ c = 1 ∨ c = 2 ∨ c = 3 ∨ c = 4 ∨ c = 5 ∨ c = 6 ∨ c = 7 ∨ c = 8 ∨ c = 9 by omega) with rfl | rfl | rfl | rfl | rfl | rfl | rfl | rfl | rfl | rfl <;> rfl
def zC (g : zG) (K : zK) (μ : zF) (a : Nat) : va_E := zE g (K.2.2.1 a) (μ a) (K.2.2.2 a) (K.2.1 a).1 (K.2.1 a).2
def zW (g : zG) (K : zK) (μ : zF) : va_W := va_pl K.1 (zC g K μ)
def zA (g : zG) : Nat → Prop := fun q => g.2.2 ≤ q
def zR (g : zG) (K : zK) (μ : zF) (H : Heap) : Prop := va_P g.1 vwCl (zW g K μ) H ∧ va_D (zA g) (zW g K μ)
def zTys (g : zG) : List (ClassId × FieldType) := [(g.2.1 0, .int), (g.2.1 0, .int), (g.2.1 0, .int), (g.2.1 0, .int), (g.2.1 4, .object RX7)]
/-- the live object a of class c; the live row a of kind c, length n; its reference k is b -/
def zO (K : zK) (a c : Nat) : Prop := a ∈ K.1 ∧ (K.2.1 a).1 = c
def zI (K : zK) (a c n : Nat) : Prop := a ∈ K.1 ∧ K.2.1 a = (c, n)
def zr (K : zK) (a k b : Nat) : Prop := K.2.2.1 a k = some b
theorem zplace {g : zG} {K : zK} {μ : zF} {a : Nat} (h : a ∈ K.1) : ∃ k : Nat, (zW g K μ)[k]? = some (a, zC g K μ a) := va_pl_get (X := []) (f := zC g K μ) h
theorem zset {g : zG} {K : zK} {μ : zF} {a k i : Nat} {v : Int32} (hD : va_D (zA g) (zW g K μ)) (h : a ∈ K.1) (hk : (zW g K μ)[k]? = some (a, zC g K μ a)) (e : va_E) (he : e = zC g K (zup μ a i v) a) : (zW g K μ).set k (a, e) = zW g K (zup μ a i v) := by
  have h1 := va_pl_set (X := []) (f := zC g K μ) (e := e) hD h hk
  refine h1.trans ?_
  show va_pl K.1 _ = va_pl K.1 _
  refine va_pl_congr fun b => ?_
  by_cases hb : b = a
  · subst hb; rw [va_up_self, he]
  · rw [va_up_ne _ _ hb]; unfold zC; rw [zup_ne μ i v hb]
theorem zobj {g : zG} {K : zK} {μ : zF} {a c : Nat} (h : zO K a c) (hc : c < 10) : zC g K μ a = .inr (c, zFs (K.2.2.1 a) (μ a) c) := by
  unfold zC; rw [h.2]; exact zE_obj hc
/-! the locals -/
def zLs (la : Array Slot) (ls : List (Option Value)) : Prop := la.size = ls.length ∧ lv_wf la ∧ ∀ (k : Nat) (v : Value), ls[k]? = some (some v) → la[k]? = some (.val v)
/-- the place before i holds no long -/
def zNl (ls : List (Option Value)) (i : Nat) : Bool := match i with
  | 0 => true
  | j + 1 => match ls[j]? with
    | some (some (.long _)) => false
    | some (some (.double _)) => false
    | _ => true
def zAs (ls : List (Option Value)) : List (Nat × Value) := (List.range ls.length).filterMap (fun k => match ls[k]? with | some (some v) => some (k, v) | _ => none)
theorem zAs_in {ls : List (Option Value)} {k : Nat} {v : Value} : (k, v) ∈ zAs ls ↔ ls[k]? = some (some v) := by
  unfold zAs
  rw [List.mem_filterMap]
  constructor
  · rintro ⟨j, -, h⟩
    cases hj : ls[j]? with
    | none => rw [hj] at h; cases h
    | some o =>
      cases o with
      | none => rw [hj] at h; cases h
      | some w => rw [hj] at h; cases h; exact hj
  · intro h
    refine ⟨k, List.mem_range.mpr (List.getElem?_eq_some_iff.mp h).1, ?_⟩
    rw [h]
theorem zLs.has {la : Array Slot} {ls : List (Option Value)} (h : zLs la ls) : lv_has la ls.length (zAs ls) := ⟨h.1, h.2.1, fun q hq => h.2.2 q.1 q.2 (zAs_in.mp hq)⟩
theorem zLs.at {la : Array Slot} {ls : List (Option Value)} (h : zLs la ls) {k : Nat} {v : Value} (hk : ls[k]? = some (some v)) : la[k]? = some (.val v) := h.2.2 k v hk
theorem zLs.store1 {la' : Array Slot} {ls : List (Option Value)} {i : Nat} {v : Value} (hn : zNl ls i = true) (hi : i < ls.length) (h' : lv_has la' ls.length ((i, v) :: (zAs ls).filter (fun q => !(q.1 == i) && !(q.1 + 1 == i && q.2.category == 2)))) : zLs la' (ls.set i (some v)) := by
  refine ⟨by rw [List.length_set]; exact h'.1, h'.2.1, fun k w hk => ?_⟩
  by_cases hki : k = i
  · subst hki
    rw [List.getElem?_set_self hi] at hk
    cases hk
    exact h'.2.2 (k, v) List.mem_cons_self
  · rw [List.getElem?_set_ne (Ne.symm hki)] at hk
    refine h'.2.2 (k, w) (List.mem_cons_of_mem _ (List.mem_filter.mpr ⟨zAs_in.mpr hk, ?_⟩))
    simp only [Bool.and_eq_true, Bool.not_eq_true', beq_eq_false_iff_ne, ne_eq, Bool.and_eq_false_iff]
    refine ⟨hki, ?_⟩
    by_cases h1 : k + 1 = i
    · right
      subst h1
      simp only [zNl, hk] at hn
      cases w <;> simp [Value.category] at hn ⊢
    · exact Or.inl h1
theorem zLs.store2 {la' : Array Slot} {ls : List (Option Value)} {i : Nat} {v : Value} (hn : zNl ls i = true) (hi : i + 1 < ls.length) (h' : lv_has la' ls.length ((i, v) :: (zAs ls).filter (fun q => !(q.1 == i) && (!(q.1 == i + 1) && !(q.1 + 1 == i && q.2.category == 2))))) : zLs la' ((ls.set (i + 1) none).set i (some v)) := by
  refine ⟨by rw [List.length_set, List.length_set]; exact h'.1, h'.2.1, fun k w hk => ?_⟩
  by_cases hki : k = i
  · subst hki
    rw [List.getElem?_set_self (by rw [List.length_set]; omega)] at hk
    cases hk
    exact h'.2.2 (k, v) List.mem_cons_self
  · rw [List.getElem?_set_ne (Ne.symm hki)] at hk
    by_cases hk2 : k = i + 1
    · subst hk2
      rw [List.getElem?_set_self hi] at hk
      cases hk
    · rw [List.getElem?_set_ne (Ne.symm hk2)] at hk
      refine h'.2.2 (k, w) (List.mem_cons_of_mem _ (List.mem_filter.mpr ⟨zAs_in.mpr hk, ?_⟩))
      simp only [Bool.and_eq_true, Bool.not_eq_true', beq_eq_false_iff_ne, ne_eq, Bool.and_eq_false_iff]
      refine ⟨hki, hk2, ?_⟩
      by_cases h1 : k + 1 = i
      · right
        subst h1
        simp only [zNl, hk] at hn
        cases w <;> simp [Value.category] at hn ⊢
      · exact Or.inl h1
/-- forgetting locals -/
def zFg : List (Option Value) → List (Option Value) → Prop
  | [], [] => True
  | _ :: r, none :: q => zFg r q
  | some v :: r, some w :: q => v = w ∧ zFg r q
  | _, _ => False
theorem zFg.len : ∀ {ls ls' : List (Option Value)}, zFg ls ls' → ls.length = ls'.length
  | [], [], _ => rfl
  | [], _ :: _, h => by simp [zFg] at h
  | _ :: _, [], h => by simp [zFg] at h
  | none :: r, none :: q, h => by simp only [List.length_cons]; rw [zFg.len (ls := r) (ls' := q) h]
  | some _ :: r, none :: q, h => by simp only [List.length_cons]; rw [zFg.len (ls := r) (ls' := q) h]
  | some _ :: r, some _ :: q, h => by simp only [List.length_cons]; rw [zFg.len (ls := r) (ls' := q) h.2]
  | none :: r, some _ :: q, h => by simp [zFg] at h
theorem zFg.at : ∀ {ls ls' : List (Option Value)}, zFg ls ls' → ∀ (k : Nat) (v : Value), ls'[k]? = some (some v) → ls[k]? = some (some v)
  | [], [], _, k, v, h => h
  | [], _ :: _, h, _, _, _ => by simp [zFg] at h
  | _ :: _, [], h, _, _, _ => by simp [zFg] at h
  | none :: r, none :: q, h, 0, v, hk => by simp at hk
  | none :: r, none :: q, h, k + 1, v, hk => zFg.at (ls := r) (ls' := q) h k v hk
  | some _ :: r, none :: q, h, 0, v, hk => by simp at hk
  | some _ :: r, none :: q, h, k + 1, v, hk => zFg.at (ls := r) (ls' := q) h k v hk
  | some _ :: r, some _ :: q, h, 0, v, hk => by rw [h.1]; exact hk
  | some _ :: r, some _ :: q, h, k + 1, v, hk => zFg.at (ls := r) (ls' := q) h.2 k v hk
  | none :: r, some _ :: q, h, _, _, _ => by simp [zFg] at h
theorem zLs.fg {la : Array Slot} {ls ls' : List (Option Value)} (h : zLs la ls) (hf : zFg ls ls') : zLs la ls' := ⟨h.1.trans hf.len, h.2.1, fun k v hk => h.2.2 k v (hf.at k v hk)⟩
