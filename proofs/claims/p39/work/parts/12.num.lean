/-! ===== numbers: rows read and written by an index that is looked at ===== -/
def zrd (n : Nat) (f : Nat → Int32) (i : Int32) : Int32 := if i < 0 ∨ nI n ≤ i then nI 0 else f i.toNatClampNeg
def zpt (μ : zF) (a n : Nat) (i v : Int32) : zF := if i < 0 ∨ nI n ≤ i then μ else zup μ a i.toNatClampNeg v
theorem zin_of {i : Int32} {n : Nat} (hn : n < 2 ^ 31) (h1 : ¬ i < 0) (h2 : ¬ nI n ≤ i) : vp_in i n := by
  rw [vp_in_iff]
  rw [Int32.lt_iff_toInt_lt, Int32.toInt_zero] at h1
  rw [Int32.le_iff_toInt_le, nI_toInt hn] at h2
  omega
theorem zbad {k n : Nat} (h : k < n) (hn : n < 2 ^ 31) : ¬ (nI k < 0 ∨ nI n ≤ nI k) := by
  rintro (h1 | h1)
  · exact nI_pos (by omega) h1
  · exact nI_ge h hn h1
theorem zrd_in {n k : Nat} {f : Nat → Int32} (h : k < n) (hn : n < 2 ^ 31) : zrd n f (nI k) = f k := by
  unfold zrd
  rw [if_neg (zbad h hn), nI_clamp (by omega)]
theorem zrd_out {n k : Nat} {f : Nat → Int32} (h : n ≤ k) (hk : k < 2 ^ 31) : zrd n f (nI k) = nI 0 := by
  unfold zrd
  rw [if_pos (Or.inr (nI_le h hk))]
theorem zrd_neg {n : Nat} {f : Nat → Int32} {i : Int32} (h : i < 0) : zrd n f i = nI 0 := by
  unfold zrd
  rw [if_pos (Or.inl h)]
theorem zpt_in {μ : zF} {a n k : Nat} {v : Int32} (h : k < n) (hn : n < 2 ^ 31) : zpt μ a n (nI k) v = zup μ a k v := by
  unfold zpt
  rw [if_neg (zbad h hn), nI_clamp (by omega)]
theorem zpt_out {μ : zF} {a n k : Nat} {v : Int32} (h : n ≤ k) (hk : k < 2 ^ 31) : zpt μ a n (nI k) v = μ := by
  unfold zpt
  rw [if_pos (Or.inr (nI_le h hk))]
theorem zup_self (μ : zF) (a k : Nat) (v : Int32) : zup μ a k v a k = v := by simp [zup]
theorem zup_k (μ : zF) (a : Nat) {k j : Nat} (v : Int32) (h : j ≠ k) : zup μ a k v a j = μ a j := by simp [zup, h]
theorem zup_a (μ : zF) {a b : Nat} (k j : Nat) (v : Int32) (h : b ≠ a) : zup μ a k v b j = μ b j := by simp [zup, h]
def zRow (K : zK) (r n : Nat) : Prop := zO K r 6 ∧ zr K r 0 (r + 1) ∧ zI K (r + 1) 10 n ∧ n < 2 ^ 31
theorem zRow.o {K : zK} {r n : Nat} (h : zRow K r n) : zO K r 6 := h.1
/-- the first n of the row a are those of the row b -/
def zcp (μ : zF) (a b n : Nat) : zF := fun c j => if c = a ∧ j < n then μ b j else μ c j
def zins (μ : zF) (a n i : Nat) (v : Int32) : zF := fun c j => if c = a ∧ i ≤ j ∧ j < n then (if j = i then v else μ a (j - 1)) else μ c j
def zdrp (μ : zF) (a n i : Nat) : zF := fun c j => if c = a ∧ i ≤ j ∧ j < n then (if j + 1 < n then μ a (j + 1) else nI 0) else μ c j
theorem zPw.mono {K : zK} {A B : zF → Prop} {v : Option Value} {K' : zK} {μ' : zF} (h : zPw K A v K' μ') (hab : ∀ μ', A μ' → B μ') : zPw K B v K' μ' := ⟨h.1, h.2.1, hab _ h.2.2⟩
theorem nI_sub {a b : Nat} (h : b ≤ a) : nI a - nI b = nI (a - b) := pk_sub h
/-! truth values -/
noncomputable def zBv (p : Prop) : Int32 := @ite _ p (Classical.propDecidable p) (nI 1) (nI 0)
theorem zBv_t {p : Prop} (h : p) : zBv p = nI 1 := by unfold zBv; rw [if_pos h]
theorem zBv_f {p : Prop} (h : ¬ p) : zBv p = nI 0 := by unfold zBv; rw [if_neg h]
theorem zBv_01 (p : Prop) : zBv p = 0 ∨ zBv p = 1 := by
  by_cases h : p
  · right; rw [zBv_t h]; rfl
  · left; rw [zBv_f h]; rfl
theorem zn10 : ¬ nI 1 = 0 := by decide
theorem zn00 : nI 0 = 0 := by decide
theorem zBv_congr {p q : Prop} (h : p ↔ q) : zBv p = zBv q := by rw [propext h]
/-- how many k below n have p -/
noncomputable def zct (p : Nat → Prop) : Nat → Nat
  | 0 => 0
  | k + 1 => zct p k + @ite _ (p k) (Classical.propDecidable _) 1 0
theorem zct_t {p : Nat → Prop} {k : Nat} (h : p k) : zct p (k + 1) = zct p k + 1 := by
  show zct p k + @ite _ (p k) (Classical.propDecidable _) 1 0 = _
  rw [if_pos h]
theorem zct_f {p : Nat → Prop} {k : Nat} (h : ¬ p k) : zct p (k + 1) = zct p k := by
  show zct p k + @ite _ (p k) (Classical.propDecidable _) 1 0 = _
  rw [if_neg h, Nat.add_zero]
theorem zct_le (p : Nat → Prop) : ∀ k, zct p k ≤ k
  | 0 => Nat.le_refl _
  | k + 1 => by
    have := zct_le p k
    by_cases h : p k
    · rw [zct_t h]; omega
    · rw [zct_f h]; omega
theorem zct_congr {p q : Nat → Prop} : ∀ {n : Nat}, (∀ k, k < n → (p k ↔ q k)) → zct p n = zct q n
  | 0, _ => rfl
  | n + 1, h => by
    have ih := zct_congr (p := p) (q := q) (n := n) (fun k hk => h k (by omega))
    by_cases hp : p n
    · rw [zct_t hp, zct_t ((h n (by omega)).mp hp), ih]
    · rw [zct_f hp, zct_f (fun hq => hp ((h n (by omega)).mpr hq)), ih]
/-! a text in the picture -/
def zTxt (K : zK) (t : Nat) : Prop := zO K t 7 ∧ zr K t 0 (t + 1) ∧ zr K t 1 (t + 3) ∧ zRow K (t + 1) 40 ∧ zRow K (t + 3) 40
theorem zTxt.o {K : zK} {t : Nat} (h : zTxt K t) : zO K t 7 := h.1
def zTv (μ : zF) (t : Nat) (τ : Nat → Nat) : Prop := (∀ k, k < 40 → μ (t + 2) k = nI (τ k)) ∧ (∀ k, k < 40 → μ (t + 4) k = nI (τ (40 + k))) ∧ ∀ k, 2 ≤ k → k ≤ 9 → μ t k = nI (τ (78 + k))
/-- outside of the cells lo .. hi - 1 nothing differs -/
def zAg (μ μ' : zF) (lo hi : Nat) : Prop := ∀ b j, (b < lo ∨ hi ≤ b) → μ' b j = μ b j
theorem zTv.ag {μ μ' : zF} {t lo hi : Nat} {τ : Nat → Nat} (h : zTv μ t τ) (ha : zAg μ μ' lo hi) (hd : t + 5 ≤ lo ∨ hi ≤ t) : zTv μ' t τ := by
  refine ⟨fun k hk => ?_, fun k hk => ?_, fun k h1 h2 => ?_⟩
  · rw [ha _ _ (by omega)]; exact h.1 k hk
  · rw [ha _ _ (by omega)]; exact h.2.1 k hk
  · rw [ha _ _ (by omega)]; exact h.2.2 k h1 h2
def zIns (τ : Nat → Nat) (i w m : Nat) : Nat → Nat := fun k => if k < 40 then (if k < i then τ k else if k = i then w else τ (k - 1)) else if k < 80 then (if k < 40 + i then τ k else if k = 40 + i then m else τ (k - 1)) else if k = 80 then τ 80 + 1 else τ k
def zDrp (τ : Nat → Nat) (i : Nat) : Nat → Nat := fun k => if k < 40 then (if k < i then τ k else if k + 1 < 40 then τ (k + 1) else 0) else if k < 80 then (if k < 40 + i then τ k else if k + 1 < 80 then τ (k + 1) else 0) else if k = 80 then τ 80 - 1 else τ k
theorem nI_inj {a b : Nat} (ha : a < 2 ^ 31) (hb : b < 2 ^ 31) (h : nI a = nI b) : a = b := (nI_eq ha hb).mp h
theorem nI_sle {a b s : Nat} (ha : a < 2 ^ 30) (hb : b < 2 ^ 30) (hs : s < 2 ^ 30) : nI b ≤ nI a - nI s ↔ b + s ≤ a := by
  rw [Int32.le_iff_toInt_le, pk_sub_toInt ha hs, nI_toInt (by omega)]
  omega
/-! widths -/
theorem zsm_le {τ : Nat → Nat} {i j : Nat} (h : i ≤ j) : zsm τ i ≤ zsm τ j := by
  induction j with
  | zero => rw [show i = 0 by omega]; exact Nat.le_refl _
  | succ j ih =>
    rcases Nat.lt_or_ge j i with q | q
    · rw [show i = j + 1 by omega]; exact Nat.le_refl _
    · have := ih q
      show _ ≤ zsm τ j + τ j
      omega
theorem zsm_30 {τ : Nat → Nat} (ho : zOk τ) : ∀ k, k ≤ τ 80 → zsm τ k ≤ 30 * k
  | 0, _ => Nat.le_refl _
  | k + 1, h => by
    have := zsm_30 ho k (by omega)
    have := (ho.2.1 k (by omega)).2
    show zsm τ k + τ k ≤ _
    omega
theorem zmul_le {a b : Nat} (ha : a ≤ 5) (hb : b ≤ 40) : a * b ≤ 200 := by
  have := Nat.mul_le_mul ha hb
  omega
theorem zwd_le {τ : Nat → Nat} (ho : zOk τ) {i j : Nat} (hj : j ≤ τ 80) : zwd τ i j ≤ 1400 := by
  have h1 := zsm_30 ho j hj
  have h2 := ho.1
  have h3 := ho.2.2.2.2.1
  unfold zwd
  have := zmul_le (a := τ 82) (b := j - i - 1) h3.2 (by omega)
  omega
def zwi (τ : Nat → Nat) (i j : Nat) : Int32 := nI (zsm τ j) - nI (zsm τ i) + nI (τ 82) * (nI j - nI i - nI 1)
theorem zwi_eq {τ : Nat → Nat} {i j : Nat} (h : i < j) : zwi τ i j = nI (zwd τ i j) := by
  unfold zwi zwd
  rw [nI_sub (zsm_le (by omega)), nI_sub (a := j) (by omega), nI_sub (by omega), pk_mul, nI_add]
def zFit (K : zK) (q t : Nat) : Prop := zO K q 1 ∧ zr K q 0 t ∧ zr K q 1 (q + 1) ∧ zr K q 2 (q + 3) ∧ zRow K (q + 1) 41 ∧ zRow K (q + 3) 40
theorem zFit.o {K : zK} {q t : Nat} (h : zFit K q t) : zO K q 1 := h.1
def zFs1 (μ : zF) (q : Nat) (τ : Nat → Nat) : Prop := ∀ k, k ≤ τ 80 → μ (q + 2) k = nI (zsm τ k)
def zFs2 (μ : zF) (q : Nat) (τ : Nat → Nat) : Prop := ∀ k, k < τ 80 → μ (q + 4) k = nI (zrc τ k)
theorem zFs1.ag {μ μ' : zF} {q lo hi : Nat} {τ : Nat → Nat} (h : zFs1 μ q τ) (ha : zAg μ μ' lo hi) (hd : q + 3 ≤ lo ∨ hi ≤ q + 2) : zFs1 μ' q τ := fun k hk => by rw [ha _ _ (by omega)]; exact h k hk
theorem zFs2.ag {μ μ' : zF} {q lo hi : Nat} {τ : Nat → Nat} (h : zFs2 μ q τ) (ha : zAg μ μ' lo hi) (hd : q + 5 ≤ lo ∨ hi ≤ q + 4) : zFs2 μ' q τ := fun k hk => by rw [ha _ _ (by omega)]; exact h k hk
theorem zAg.refl (μ : zF) (lo hi : Nat) : zAg μ μ lo hi := fun _ _ _ => rfl
theorem zAg.trans {μ μ1 μ2 : zF} {lo hi : Nat} (h1 : zAg μ μ1 lo hi) (h2 : zAg μ1 μ2 lo hi) : zAg μ μ2 lo hi := fun b j hb => (h2 b j hb).trans (h1 b j hb)
theorem zAg.wide {μ μ' : zF} {lo hi lo' hi' : Nat} (h : zAg μ μ' lo hi) (h1 : lo' ≤ lo) (h2 : hi ≤ hi') : zAg μ μ' lo' hi' := fun b j hb => h b j (by omega)
theorem zAg.up {μ : zF} {a k lo hi : Nat} {v : Int32} (h : lo ≤ a ∧ a < hi) : zAg μ (zup μ a k v) lo hi := fun b j hb => zup_a μ k j v (by omega)
