/-! ===== what the helpers answer to good arguments ===== -/
theorem zo_wordWidth {S : zMs} {k : Nat} (h : k < S.1 80) (ho : zMok S) : zot zc1 (zdo_wordWidth (nI k) S) S = (nI (S.1 k), S) := by
  have := ho.1.1
  unfold zdo_wordWidth
  rw [zix_at h (by omega)]
  rfl
theorem zo_mark {S : zMs} {k : Nat} (h : k < S.1 80) (ho : zMok S) : zot zc1 (zdo_mark (nI k) S) S = (nI (S.1 (40 + k)), S) := by
  have := ho.1.1
  unfold zdo_mark
  rw [zix_at h (by omega)]
  rfl
theorem zo_lineOf {S : zMs} {k : Nat} (h : k < S.1 80) (ho : zMok S) : zot zc1 (zdo_lineOf (nI k) S) S = (nI (zlo S.1 (S.1 87) k), S) := by
  have := ho.1.1
  unfold zdo_lineOf
  rw [zix_at h (by omega)]
  rfl
theorem zo_reason {S : zMs} {k : Nat} (h : k < S.1 80) (ho : zMok S) : zot zc1 (zdo_reason (nI k) S) S = (nI (zre S.1 (S.1 87) k), S) := by
  have := ho.1.1
  unfold zdo_reason
  rw [zix_at h (by omega)]
  rfl
theorem zo_firstWord {S : zMs} {k : Nat} (h : k < zm S.1 (S.1 87)) (ho : zMok S) : zot zc1 (zdo_firstWord (nI k) S) S = (nI (zL S.1 (S.1 87) k), S) := by
  have := ho.1.1
  have := (zm_is S.1 (S.1 87)).1
  unfold zdo_firstWord
  rw [zix_at h (by omega)]
  rfl
theorem zo_lineWidth {S : zMs} {k : Nat} (h : k < zm S.1 (S.1 87)) (ho : zMok S) : zot zc1 (zdo_lineWidth (nI k) S) S = (nI (zlw S.1 (S.1 87) k), S) := by
  have := ho.1.1
  have := (zm_is S.1 (S.1 87)).1
  unfold zdo_lineWidth
  rw [zix_at h (by omega)]
  rfl
theorem zo_stairAt {S : zMs} {k : Nat} (h : k < zm S.1 (S.1 87)) (ho : zMok S) : zot zc1 (zdo_stairAt (nI k) S) S = (nI (zsa S.1 (S.1 87) k) - nI 1, S) := by
  have := ho.1.1
  have := (zm_is S.1 (S.1 87)).1
  unfold zdo_stairAt
  rw [zix_at h (by omega)]
  rfl
theorem zo_pageOf {S : zMs} {k : Nat} (h : k < zm S.1 (S.1 87)) (ho : zMok S) : zot zc1 (zdo_pageOf (nI k) S) S = (nI (zpo S.1 (S.1 87) k), S) := by
  have := ho.1.1
  have := (zm_is S.1 (S.1 87)).1
  unfold zdo_pageOf
  rw [zix_at h (by omega)]
  rfl
theorem zpm_le {τ : Nat → Nat} (ho : zOk τ) (m : Nat) : zpm τ m ≤ 40 := by
  have h1 := (gM_is (zpx_ok ho m)).1
  have h2 := (zm_is τ m).1
  have h3 := ho.1
  unfold zpm
  omega
theorem zo_linesOn {S : zMs} {k : Nat} (h : k < zpm S.1 (S.1 87)) (ho : zMok S) : zot zc1 (zdo_linesOn (nI k) S) S = (nI (zP S.1 (S.1 87) (k + 1)) - nI (zP S.1 (S.1 87) k), S) := by
  have := zpm_le ho.1 (S.1 87)
  unfold zdo_linesOn
  rw [zix_at h (by omega)]
  rfl
theorem zo_costFor {S : zMs} {k b : Nat} (h1 : 30 ≤ k) (h2 : k ≤ 100) : zot zc1 (zdo_costFor (nI k) b S) S = (nI (zct1 (zuf S.1 81 k) b), S) := by
  unfold zdo_costFor
  rw [zrg_at h1 h2 (by omega)]
  rfl
theorem zo_bestColumn {S : zMs} {p b : Nat} (h1 : 30 ≤ p) (h2 : p ≤ b) (h3 : b ≤ 100) : zot zc1 (zdo_bestColumn (nI p) (nI b) S) S = (nI (zbw (zbc S.1) p (b - p)), S) := by
  unfold zdo_bestColumn
  rw [zrg_at h1 (by omega) (by omega), zrg_at h2 h3 (by omega)]
  rfl
theorem zo_costIfMarked {S : zMs} {k v : Nat} (h : k < S.1 80) (hv : v ≤ 2) (ho : zMok S) : zot zcIA (zdo_costIfMarked (nI k) (nI v) S) S = (nI (zct1 (zuf S.1 (40 + k) v) (S.1 87)), S) := by
  have := ho.1.1
  unfold zdo_costIfMarked
  rw [zix_at h (by omega), zrg_at (Nat.zero_le v) hv (by omega)]
  rfl
theorem zo_costIfMarkedX {S : zMs} {k : Nat} {w : Int32} (h : S.1 80 ≤ k) (hk : k ≤ 40) : zot zcIA (zdo_costIfMarked (nI k) w S) S = (-1000001, S) := by
  unfold zdo_costIfMarked
  rw [zix_no h (by omega)]
  rfl
theorem zo_setMark {S : zMs} {k v : Nat} (h : k < S.1 80) (hv : v ≤ 2) (ho : zMok S) : zot zcIA (zdo_setMark (nI k) (nI v) S) S = (nI (S.1 (40 + k)), zcg S (zuf S.1 (40 + k) v)) := by
  have := ho.1.1
  unfold zdo_setMark
  rw [zix_at h (by omega), zrg_at (Nat.zero_le v) hv (by omega)]
  rfl
theorem zo_setMarkX {S : zMs} {k : Nat} {w : Int32} (h : S.1 80 ≤ k) (hk : k ≤ 40) : zot zcIA (zdo_setMark (nI k) w S) S = (-1000001, S) := by
  unfold zdo_setMark
  rw [zix_no h (by omega)]
  rfl
theorem zo_setColumn {S : zMs} {k : Nat} (h1 : 30 ≤ k) (h2 : k ≤ 100) : zot zc1 (zdo_setColumn (nI k) S) S = (nI (S.1 81), zcg S (zuf S.1 81 k)) := by
  unfold zdo_setColumn
  rw [zrg_at h1 h2 (by omega)]
  rfl
theorem zo_setSpace {S : zMs} {k : Nat} (h1 : 1 ≤ k) (h2 : k ≤ 5) : zot zc1 (zdo_setSpace (nI k) S) S = (nI (S.1 82), zcg S (zuf S.1 82 k)) := by
  unfold zdo_setSpace
  rw [zrg_at h1 h2 (by omega)]
  rfl
theorem zo_setPage {S : zMs} {k : Nat} (h1 : 2 ≤ k) (h2 : k ≤ 20) : zot zc1 (zdo_setPage (nI k) S) S = (nI (S.1 86), zcg S (zuf S.1 86 k)) := by
  unfold zdo_setPage
  rw [zrg_at h1 h2 (by omega)]
  rfl
theorem zo_setPenalties {S : zMs} {i j k : Nat} (h1 : 1 ≤ i) (h2 : i ≤ 20) (h3 : j ≤ 9999) (h4 : k ≤ 9999) : zot zc1 (zdo_setPenalties (nI i) (nI j) (nI k) S) S = (nI (S.1 83), zcg S (zuf (zuf (zuf S.1 83 i) 84 j) 85 k)) := by
  unfold zdo_setPenalties
  rw [zrg_at h1 h2 (by omega), zrg_at (Nat.zero_le j) h3 (by omega), zrg_at (Nat.zero_le k) h4 (by omega)]
  rfl
theorem zo_insert {S : zMs} {k v : Nat} (h : k < S.1 80 + 1) (h1 : 1 ≤ v) (h2 : v ≤ 30) (h3 : S.1 80 < 40) : zot zcIAS (zdo_insert (nI k) (nI v) S) S = (nI (S.1 80 + 1), zcg S (zIns S.1 k v 0)) := by
  unfold zdo_insert
  rw [zix_at h (by omega), zrg_at h1 h2 (by omega), if_neg (by omega)]
  rfl
theorem zo_insertX {S : zMs} {k v : Nat} (h : k < S.1 80 + 1) (h1 : 1 ≤ v) (h2 : v ≤ 30) (h3 : 40 ≤ S.1 80) (ho : zMok S) : zot zcIAS (zdo_insert (nI k) (nI v) S) S = (-1000003, S) := by
  have := ho.1.1
  unfold zdo_insert
  rw [zix_at h (by omega), zrg_at h1 h2 (by omega), if_pos h3]
  show (zcIAS zxS, S) = _
  rw [show zcIAS zxS = -1000003 by decide +kernel]
theorem zo_remove {S : zMs} {k : Nat} (h : k < S.1 80) (ho : zMok S) : zot zc1 (zdo_remove (nI k) S) S = (nI (S.1 k), zcg S (zDrp S.1 k)) := by
  have := ho.1.1
  unfold zdo_remove
  rw [zix_at h (by omega)]
  rfl
theorem zo_removeX {S : zMs} {k : Nat} (h : S.1 80 ≤ k) (hk : k ≤ 40) : zot zc1 (zdo_remove (nI k) S) S = (-1000001, S) := by
  unfold zdo_remove
  rw [zix_no h (by omega)]
  rfl
/-- the state behind undo -/
def zud (S : zMs) : zMs := (S.2.2.1 (S.2.1 - 1), S.2.1 - 1, S.2.2)
theorem zo_undo {S : zMs} (h : 0 < S.2.1) : zot zc1 (zdo_undo S) S = (nI (S.2.1 - 1), zud S) := by
  unfold zdo_undo
  rw [if_neg (by omega)]
  rfl
theorem zcg_n (S : zMs) (τ : Nat → Nat) : (zcg S τ).2.1 = zsvn S.2.1 := rfl
theorem zcg_pos (S : zMs) (τ : Nat → Nat) : 0 < (zcg S τ).2.1 := by
  rw [zcg_n]
  unfold zsvn
  split <;> omega
/-- undo takes the last change back; two, the last two -/
theorem zud_1 {S : zMs} (τ : Nat → Nat) (ho : zMok S) : (zud (zcg S τ)).1 = S.1 := by
  have h6 := ho.2.1
  show zsvr S.2.1 S.2.2.1 S.1 (zsvn S.2.1 - 1) = S.1
  unfold zsvr zsvn
  by_cases c : S.2.1 < 6
  · rw [if_pos c, if_pos c]
    exact if_pos (by omega)
  · rw [if_neg c, if_neg c]
    exact if_pos rfl
theorem zud_2 {S : zMs} (τ σ : Nat → Nat) (ho : zMok S) : (zud (zud (zcg (zcg S τ) σ))).1 = S.1 := by
  have h6 := ho.2.1
  show zsvr (zsvn S.2.1) (zsvr S.2.1 S.2.2.1 S.1) τ (zsvn (zsvn S.2.1) - 1 - 1) = S.1
  unfold zsvr zsvn
  by_cases c : S.2.1 < 6
  · rw [if_pos c, if_pos c]
    by_cases c2 : S.2.1 + 1 < 6
    · rw [if_pos c2, if_pos c2]
      show (if S.2.1 + 1 + 1 - 1 - 1 = S.2.1 + 1 then τ else (if S.2.1 + 1 + 1 - 1 - 1 = S.2.1 then S.1 else S.2.2.1 (S.2.1 + 1 + 1 - 1 - 1))) = S.1
      rw [if_neg (by omega), if_pos (by omega)]
    · rw [if_neg c2, if_neg c2]
      show (if 6 - 1 - 1 = 5 then τ else (if 6 - 1 - 1 + 1 = S.2.1 then S.1 else S.2.2.1 (6 - 1 - 1 + 1))) = S.1
      rw [if_neg (by omega), if_pos (by omega)]
  · have e : S.2.1 = 6 := by omega
    rw [e]
    rfl
theorem zud_2n {S : zMs} (τ σ : Nat → Nat) : 0 < (zud (zcg (zcg S τ) σ)).2.1 := by
  show 0 < zsvn (zsvn S.2.1) - 1
  unfold zsvn
  split <;> split <;> omega
/-! ===== the law's small methods ===== -/
theorem nI_inj_ne {a b : Nat} (h : a ≠ b) (ha : a < 2 ^ 31) (hb : b < 2 ^ 31) : ¬ nI a = nI b := fun q => h (nI_inj ha hb q)
def zqw (v : Int32) (n : Nat) : Nat := v.toBitVec.toNat % 2 ^ 31 % n
theorem zqw_lt (v : Int32) {n : Nat} (h : 0 < n) : zqw v n < n := Nat.mod_lt _ h
theorem vL_low {l : Launch} {g : zG} (hl : l.stackTraces = false) {K : zK} {μ : zF} {v : Int32} {n : Nat} (h0 : 0 < n) (hn : n < 2 ^ 31) : EL_low l g 0 0 [.int v, .int (nI n)] K μ (zPi (nI (zqw v n)) K μ) := by
  have e : (v &&& 2147483647) - (v &&& 2147483647) / nI n * nI n = nI (zqw v n) := by
    rw [pk_and v (m := 2147483647) 31 (by decide), pk_rem (Nat.mod_lt _ (by omega)) h0 hn]
    rfl
  refine nL_low hl (fun q hC hQ => ?_)
  refine eL_low_0 hC ?_
  refine eL_low_1 hC ?_
  refine eL_low_3 hC ?_
  refine eL_low_4 hC ?_
  refine eL_low_5 hC (nI_ne0 h0 hn) ?_
  refine eL_low_6 hC hQ (by omega) (by omega) ?_
  exact ⟨by rw [e], rfl, rfl⟩
def zPa (K : zK) (μ : zF) : Option Value → zK → zF → Prop := fun v K' μ' => ∃ r : Int32, v = some (.int r) ∧ K' = K ∧ μ' = μ
theorem vL_at {l : Launch} {g : zG} (hl : l.stackTraces = false) {K : zK} {μ : zF} {b L k : Nat} {f : Nat → Int32} (hk : k < 1000) : WL_at l g 0 0 b L f [.ref b, .int (nI k)] K μ (zPa K μ) := by
  refine wL_at hl (fun q hs hC hQ => ?_)
  have hL := hs.2.2.2
  by_cases c : k < L
  · refine eL_at_0 hC ?_
    refine eL_at_1 hC ?_
    refine eL_at_2 hC hs ?_
    refine eL_at_3 hC (fun zz => absurd zz (nI_ge c (by omega))) (fun _ => ?_)
    refine eL_at_6 hC ?_
    refine eL_at_7 hC ?_
    refine eL_at_8 hC hs rfl c ?_
    refine eL_at_9 hC ?_
    refine eL_at_21 hC hQ (by omega) (by omega) ?_
    exact ⟨_, rfl, rfl, rfl⟩
  · refine eL_at_0 hC ?_
    refine eL_at_1 hC ?_
    refine eL_at_2 hC hs ?_
    refine eL_at_3 hC (fun _ => ?_) (fun zz => absurd (nI_le (by omega) (by omega)) zz)
    refine eL_at_12 hC ?_
    refine eL_at_14 hC ?_
    refine eL_at_15 hC ?_
    refine eL_at_16 hC ?_
    refine eL_at_17 hC ?_
    refine eL_at_18 hC ?_
    refine eL_at_20 hC ?_
    refine eL_at_21 hC hQ (by omega) (by omega) ?_
    exact ⟨_, rfl, rfl, rfl⟩
theorem vL_ends {l : Launch} {g : zG} (hl : l.stackTraces = false) {K : zK} {μ : zF} {x w : Nat} {S : zMs} (h : zX8 K μ x S) (hw : w < S.1 80) : EL_ends l g 1 6 [.ref x, .int (nI w)] K μ (zAi (zBv (zpe S.1 w)) S K μ x) := by
  have hok := h.k
  have o1 := hok.1.1
  have o2 := hok.1.2.2.1 w hw
  have hB := zBd.rf h
  refine nL_ends hl (fun q hC hQ => ?_)
  by_cases c : w + 1 = S.1 80
  · have e : zpe S.1 w := Or.inr c
    refine eL_ends_0 hC ?_
    refine eL_ends_1 hC ?_
    refine eL_ends_2 hC (Nat.le_of_ble_eq_true rfl) (by omega) (by omega) hB.o (vX8_words hC.nt hB.x) (zk_q hB rfl (fun K_2 μ_2 hB => ?_))
    refine eL_ends_5 hC ?_
    refine eL_ends_6 hC ?_
    rw [nI_sub (by omega)]
    refine eL_ends_7 hC (fun _ => ?_) (fun zz => absurd (by rw [show S.1 80 - 1 = w by omega]) zz)
    refine eL_ends_19 hC ?_
    refine eL_ends_20 hC ?_
    refine eL_ends_24 hC hQ (by omega) (by omega) (by first | (left; rfl) | (right; rfl) | assumption) ?_
    rw [show nI 1 = zBv (zpe S.1 w) from (zBv_t e).symm]
    exact hB.ai
  · by_cases c2 : S.1 (40 + w) = 2
    · have e : zpe S.1 w := Or.inl c2
      refine eL_ends_0 hC ?_
      refine eL_ends_1 hC ?_
      refine eL_ends_2 hC (Nat.le_of_ble_eq_true rfl) (by omega) (by omega) hB.o (vX8_words hC.nt hB.x) (zk_q hB rfl (fun K_2 μ_2 hB => ?_))
      refine eL_ends_5 hC ?_
      refine eL_ends_6 hC ?_
      rw [nI_sub (by omega)]
      refine eL_ends_7 hC (fun zz => absurd zz (nI_inj_ne (by omega) (by omega) (by omega))) (fun _ => ?_)
      refine eL_ends_10 hC ?_
      refine eL_ends_11 hC ?_
      refine eL_ends_12 hC (Nat.le_of_ble_eq_true rfl) (by omega) (by omega) (vL_mark hC.nt hB.x (zo_mark (by omega) hok)) (zk_a hB (fun K_12 μ_12 hB => ?_))
      refine eL_ends_15 hC ?_
      refine eL_ends_16 hC (fun zz => absurd (by rw [c2]) zz) (fun _ => ?_)
      refine eL_ends_19 hC ?_
      refine eL_ends_20 hC ?_
      refine eL_ends_24 hC hQ (by omega) (by omega) (by first | (left; rfl) | (right; rfl) | assumption) ?_
      rw [show nI 1 = zBv (zpe S.1 w) from (zBv_t e).symm]
      exact hB.ai
    · have e : ¬ zpe S.1 w := fun q => q.elim c2 c
      refine eL_ends_0 hC ?_
      refine eL_ends_1 hC ?_
      refine eL_ends_2 hC (Nat.le_of_ble_eq_true rfl) (by omega) (by omega) hB.o (vX8_words hC.nt hB.x) (zk_q hB rfl (fun K_2 μ_2 hB => ?_))
      refine eL_ends_5 hC ?_
      refine eL_ends_6 hC ?_
      rw [nI_sub (by omega)]
      refine eL_ends_7 hC (fun zz => absurd zz (nI_inj_ne (by omega) (by omega) (by omega))) (fun _ => ?_)
      refine eL_ends_10 hC ?_
      refine eL_ends_11 hC ?_
      refine eL_ends_12 hC (Nat.le_of_ble_eq_true rfl) (by omega) (by omega) (vL_mark hC.nt hB.x (zo_mark (by omega) hok)) (zk_a hB (fun K_12 μ_12 hB => ?_))
      refine eL_ends_15 hC ?_
      refine eL_ends_16 hC (fun _ => ?_) (fun zz => absurd zz (nI_inj_ne c2 (by omega) (by omega)))
      refine eL_ends_23 hC ?_
      refine eL_ends_24 hC hQ (by omega) (by omega) (by first | (left; rfl) | (right; rfl) | assumption) ?_
      rw [show nI 0 = zBv (zpe S.1 w) from (zBv_f e).symm]
      exact hB.ai
/-! ===== all that is told, in one number ===== -/
noncomputable def zpw (τ : Nat → Nat) : Nat → Int64
  | 0 => 31 * (nI (τ 80)).toInt64 + (nI (ztc τ (τ 87) (zm τ (τ 87)))).toInt64
  | k + 1 => 31 * (31 * zpw τ k + 3 * (nI (τ k)).toInt64 + (nI (τ (40 + k))).toInt64) + (nI (zlo τ (τ 87) k)).toInt64
noncomputable def zpq (τ : Nat → Nat) : Nat → Int64
  | 0 => zpw τ (τ 80)
  | k + 1 => 31 * zpq τ k + (nI (zP τ (τ 87) (k + 1)) - nI (zP τ (τ 87) k)).toInt64
noncomputable def zpr (τ : Nat → Nat) : Int64 := zpq τ (zpm τ (τ 87)) * 31 + (nI (zct1 (zuf τ 81 50) 1)).toInt64
set_option maxHeartbeats 2000000 in
theorem vL_print {l : Launch} {g : zG} (hl : l.stackTraces = false) {K : zK} {μ : zF} {x : Nat} {S : zMs} (h : zX8 K μ x S) : EL_print l g 170 1020 [.ref x] K μ (zAl (zpr S.1) S K μ x) := by
  have hok := h.k
  have o1 := hok.1.1
  have o2 := zpm_le hok.1 (S.1 87)
  have hB := zBd.rf h
  refine nL_print hl (fun q hC hQ => ?_)
  have pgs : ∀ (d k cs sl : Nat) (K1 : zK) (μ1 : zF), k + d = zpm S.1 (S.1 87) → cs ≤ 120 + k → sl ≤ 720 + 6 * k → zBd K μ K1 μ1 x S → zV q cs sl 71 [some (.ref x), some (.long (zpq S.1 k)), none, some (.int (nI k))] [] K1 μ1 := by
    intro d
    induction d with
    | zero =>
      intro k cs sl K1 μ1 hk hcs hsl hB
      have hk : k = zpm S.1 (S.1 87) := by omega
      refine eL_print_71 hC ?_
      refine eL_print_72 hC ?_
      refine eL_print_73 hC (Nat.le_of_ble_eq_true rfl) (by omega) (by omega) hB.o (vX8_pages hC.nt hB.x) (zk_q hB rfl (fun K_73 μ_73 hB => ?_))
      refine eL_print_76 hC (fun _ => ?_) (fun zz => absurd (nI_le (by omega) (by omega)) zz)
      refine eL_print_98 hC ?_
      refine eL_print_99 hC ?_
      refine eL_print_102 hC ?_
      refine eL_print_103 hC ?_
      refine eL_print_104 hC ?_
      refine eL_print_106 hC ?_
      refine eL_print_107 hC (Nat.le_of_ble_eq_true rfl) (by omega) (by omega) (vL_costFor hC.nt hB.x (Nat.le_refl 1) (zo_costFor (k := 50) (by omega) (by omega))) (zk_a hB (fun K_107 μ_107 hB => ?_))
      refine eL_print_110 hC ?_
      refine eL_print_111 hC ?_
      refine eL_print_112 hC hQ (by omega) (by omega) ?_
      rw [hk]
      exact hB.al
    | succ d ih =>
      intro k cs sl K1 μ1 hk hcs hsl hB
      refine eL_print_71 hC ?_
      refine eL_print_72 hC ?_
      refine eL_print_73 hC (Nat.le_of_ble_eq_true rfl) (by omega) (by omega) hB.o (vX8_pages hC.nt hB.x) (zk_q hB rfl (fun K_73 μ_73 hB => ?_))
      refine eL_print_76 hC (fun zz => absurd zz (nI_ge (by omega) (by omega))) (fun _ => ?_)
      refine eL_print_79 hC ?_
      refine eL_print_82 hC ?_
      refine eL_print_83 hC ?_
      refine eL_print_84 hC ?_
      refine eL_print_85 hC ?_
      refine eL_print_86 hC (Nat.le_of_ble_eq_true rfl) (by omega) (by omega) (vL_linesOn hC.nt hB.x (zo_linesOn (by omega) hok)) (zk_a hB (fun K_86 μ_86 hB => ?_))
      refine eL_print_89 hC ?_
      refine eL_print_90 hC ?_
      refine eL_print_91 hC ?_
      rw [show (31 : Int64) * zpq S.1 k + (nI (zP S.1 (S.1 87) (k + 1)) - nI (zP S.1 (S.1 87) k)).toInt64 = zpq S.1 (k + 1) from rfl]
      refine eL_print_92 hC ?_
      rw [nI_add]
      refine eL_print_95 hC ?_
      exact ih (k + 1) _ _ _ _ (by omega) (by omega) (by omega) hB
  have wds : ∀ (d k cs sl : Nat) (K1 : zK) (μ1 : zF), k + d = S.1 80 → cs ≤ 3 * k → sl ≤ 18 * k → zBd K μ K1 μ1 x S → zV q cs sl 18 [some (.ref x), some (.long (zpw S.1 k)), none, some (.int (nI k))] [] K1 μ1 := by
    intro d
    induction d with
    | zero =>
      intro k cs sl K1 μ1 hk hcs hsl hB
      have hk : k = S.1 80 := by omega
      refine eL_print_18 hC ?_
      refine eL_print_19 hC ?_
      refine eL_print_20 hC (Nat.le_of_ble_eq_true rfl) (by omega) (by omega) hB.o (vX8_words hC.nt hB.x) (zk_q hB rfl (fun K_20 μ_20 hB => ?_))
      refine eL_print_23 hC (fun _ => ?_) (fun zz => absurd (nI_le (by omega) (by omega)) zz)
      refine eL_print_69 hC ?_
      refine eL_print_70 hC ?_
      rw [hk]
      exact pgs (zpm S.1 (S.1 87)) 0 _ _ _ _ (by omega) (by omega) (by omega) hB
    | succ d ih =>
      intro k cs sl K1 μ1 hk hcs hsl hB
      refine eL_print_18 hC ?_
      refine eL_print_19 hC ?_
      refine eL_print_20 hC (Nat.le_of_ble_eq_true rfl) (by omega) (by omega) hB.o (vX8_words hC.nt hB.x) (zk_q hB rfl (fun K_20 μ_20 hB => ?_))
      refine eL_print_23 hC (fun zz => absurd zz (nI_ge (by omega) (by omega))) (fun _ => ?_)
      refine eL_print_26 hC ?_
      refine eL_print_29 hC ?_
      refine eL_print_30 hC ?_
      refine eL_print_31 hC ?_
      refine eL_print_34 hC ?_
      refine eL_print_35 hC ?_
      refine eL_print_36 hC (Nat.le_of_ble_eq_true rfl) (by omega) (by omega) (vL_wordWidth hC.nt hB.x (zo_wordWidth (by omega) hok)) (zk_a hB (fun K_36 μ_36 hB => ?_))
      refine eL_print_39 hC ?_
      refine eL_print_40 hC ?_
      refine eL_print_41 hC ?_
      refine eL_print_42 hC ?_
      refine eL_print_43 hC ?_
      refine eL_print_44 hC (Nat.le_of_ble_eq_true rfl) (by omega) (by omega) (vL_mark hC.nt hB.x (zo_mark (by omega) hok)) (zk_a hB (fun K_44 μ_44 hB => ?_))
      refine eL_print_47 hC ?_
      refine eL_print_48 hC ?_
      refine eL_print_49 hC ?_
      refine eL_print_50 hC ?_
      refine eL_print_53 hC ?_
      refine eL_print_54 hC ?_
      refine eL_print_55 hC ?_
      refine eL_print_56 hC ?_
      refine eL_print_57 hC (Nat.le_of_ble_eq_true rfl) (by omega) (by omega) (vL_lineOf hC.nt hB.x (zo_lineOf (by omega) hok)) (zk_a hB (fun K_57 μ_57 hB => ?_))
      refine eL_print_60 hC ?_
      refine eL_print_61 hC ?_
      refine eL_print_62 hC ?_
      rw [show (31 : Int64) * (31 * zpw S.1 k + 3 * (nI (S.1 k)).toInt64 + (nI (S.1 (40 + k))).toInt64) + (nI (zlo S.1 (S.1 87) k)).toInt64 = zpw S.1 (k + 1) from rfl]
      refine eL_print_63 hC ?_
      rw [nI_add]
      refine eL_print_66 hC ?_
      exact ih (k + 1) _ _ _ _ (by omega) (by omega) (by omega) hB
  refine eL_print_0 hC ?_
  refine eL_print_3 hC ?_
  refine eL_print_4 hC (Nat.le_of_ble_eq_true rfl) (by omega) (by omega) hB.o (vX8_words hC.nt hB.x) (zk_q hB rfl (fun K_4 μ_4 hB => ?_))
  refine eL_print_7 hC ?_
  refine eL_print_8 hC ?_
  refine eL_print_9 hC ?_
  refine eL_print_10 hC (Nat.le_of_ble_eq_true rfl) (by omega) (by omega) hB.o (vX8_cost hC.nt hB.x) (zk_q hB rfl (fun K_10 μ_10 hB => ?_))
  refine eL_print_13 hC ?_
  refine eL_print_14 hC ?_
  refine eL_print_15 hC ?_
  refine eL_print_16 hC ?_
  refine eL_print_17 hC ?_
  exact wds (S.1 80) 0 _ _ _ _ (by omega) (by omega) (by omega) hB
