/-! ===== the law's method act ===== -/
/-- what the change of the kind j makes of the settings -/
def zSj (j : Nat) (y : Int32) (τ σ : Nat → Nat) : Prop := σ 81 = (if j = 8 then 30 + zqw y 71 else τ 81) ∧ σ 82 = (if j = 9 then 1 + zqw y 5 else τ 82) ∧ σ 83 = (if j = 10 then 1 + zqw y 9 else τ 83) ∧ σ 84 = (if j = 10 then zqw (y >>> (nI 4 &&& 31)) 1200 else τ 84) ∧ σ 85 = (if j = 10 then zqw (y >>> (nI 6 &&& 31)) 1200 else τ 85) ∧ σ 86 = (if j = 11 then 2 + zqw y 8 else τ 86)
theorem zSj_no {j : Nat} {y : Int32} {τ σ : Nat → Nat} (hj : j < 8 ∨ 11 < j) (h : ∀ k, 81 ≤ k → k ≤ 86 → σ k = τ k) : zSj j y τ σ := by
  refine ⟨?_, ?_, ?_, ?_, ?_, ?_⟩
  · rw [if_neg (by omega)]; exact h 81 (by omega) (by omega)
  · rw [if_neg (by omega)]; exact h 82 (by omega) (by omega)
  · rw [if_neg (by omega)]; exact h 83 (by omega) (by omega)
  · rw [if_neg (by omega)]; exact h 84 (by omega) (by omega)
  · rw [if_neg (by omega)]; exact h 85 (by omega) (by omega)
  · rw [if_neg (by omega)]; exact h 86 (by omega) (by omega)
def zAd (j : Nat) (y : Int32) (S : zMs) (r : Int32) (S' : zMs) : Prop := (r < 0 ∧ S' = S ∧ (j < 8 ∨ 11 < j)) ∨ (¬ r < 0 ∧ ∃ σ, S' = zcg S σ ∧ zSj j y S.1 σ ∧ (8 ≤ j → j ≤ 11 → 0 < r))
def zAc (j : Nat) (y : Int32) (S : zMs) (K : zK) (μ : zF) (x : Nat) : Option Value → zK → zF → Prop := fun v K' μ' => ∃ (r : Int32) (S' : zMs), zAd j y S r S' ∧ zAi r S' K μ x v K' μ'
theorem zk_c {z : zX} {c1 s1 p1 x j : Nat} {y : Int32} {ls : List (Option Value)} {rest : List Value} {K0 K : zK} {μ0 μ : zF} {S : zMs} (hB : zBd K0 μ0 K μ x S) (kk : ∀ (r : Int32) (S' : zMs) (K1 : zK) (μ1 : zF), zAd j y S r S' → zBd K0 μ0 K1 μ1 x S' → zV z c1 s1 p1 ls (.int r :: rest) K1 μ1) : ∀ (v : Option Value) (K1 : zK) (μ1 : zF), zAc j y S K μ x v K1 μ1 → zV z c1 s1 p1 ls (v.toList ++ rest) K1 μ1 := by
  rintro v K1 μ1 ⟨r, S', e, rfl, e2, e3, e4⟩
  exact kk r S' K1 μ1 e ⟨hB.1.trans e2, e3, hB.2.2.trans e4⟩
theorem zIns_hi {τ : Nat → Nat} {i w m k : Nat} (h : 80 < k) : zIns τ i w m k = τ k := by
  unfold zIns
  rw [if_neg (by omega), if_neg (by omega), if_neg (by omega)]
theorem zDrp_hi {τ : Nat → Nat} {i k : Nat} (h : 80 < k) : zDrp τ i k = τ k := by
  unfold zDrp
  rw [if_neg (by omega), if_neg (by omega), if_neg (by omega)]
/-- an insertion -/
theorem zAd_ins {j k v : Nat} {y : Int32} {S : zMs} (hj : j < 8 ∨ 11 < j) (ho : S.1 80 ≤ 40) : zAd j y S (nI (S.1 80 + 1)) (zcg S (zIns S.1 k v 0)) := Or.inr ⟨nI_pos (by omega), _, rfl, zSj_no hj (fun q h1 h2 => zIns_hi (by omega)), fun h1 h2 => by omega⟩
theorem zAd_no {j : Nat} {y r : Int32} {S : zMs} (hj : j < 8 ∨ 11 < j) (hr : r < 0) : zAd j y S r S := Or.inl ⟨hr, rfl, hj⟩
set_option maxHeartbeats 4000000 in
theorem vL_act {l : Launch} {g : zG} (hl : l.stackTraces = false) {K : zK} {μ : zF} {x : Nat} {v y : Int32} {S : zMs} (h : zX8 K μ x S) : EL_act l g 3 18 [.ref x, .int v, .int y] K μ (zAc (zqw v 13) y S K μ x) := by
  have hok := h.k
  have o1 := hok.1.1
  have hB := zBd.rf h
  obtain ⟨j, hj⟩ : ∃ j, j = zqw v 13 := ⟨_, rfl⟩
  have hj2 := zqw_lt v (n := 13) (by omega)
  obtain ⟨w, hw⟩ : ∃ w, w = zqw (v >>> (nI 4 &&& 31)) (S.1 80 + 1) := ⟨_, rfl⟩
  have hw2 := zqw_lt (v >>> (nI 4 &&& 31)) (n := S.1 80 + 1) (by omega)
  refine nL_act hl (fun q hC hQ => ?_)
  rw [← hj] at hQ
  have c80 : ∀ (K1 : zK) (μ1 : zF), j < 8 → zBd K μ K1 μ1 x S → zV q 0 0 80 [some (.ref x), some (.int v), some (.int y), some (.int (nI w))] [] K1 μ1 := by
    intro K1 μ1 hj8 hB
    have hv := zqw_lt y (n := 30) (by omega)
    by_cases c : S.1 80 < 40
    · refine eL_act_80 hC ?_
      refine eL_act_81 hC ?_
      refine eL_act_82 hC ?_
      refine eL_act_83 hC ?_
      refine eL_act_84 hC ?_
      refine eL_act_86 hC (Nat.le_of_ble_eq_true rfl) (by omega) (by omega) (vL_low hC.nt (by omega) (by omega)) (zk_i ?_)
      refine eL_act_89 hC ?_
      rw [nI_add]
      refine eL_act_90 hC (Nat.le_of_ble_eq_true rfl) (by omega) (by omega) (vL_insert hC.nt hB.x (zo_insert (by omega) (by omega) (by omega) c)) (zk_a hB (fun K_90 μ_90 hB => ?_))
      refine eL_act_93 hC hQ (by omega) (by omega) ?_
      exact ⟨_, _, zAd_ins (Or.inl hj8) o1, hB.ai⟩
    · refine eL_act_80 hC ?_
      refine eL_act_81 hC ?_
      refine eL_act_82 hC ?_
      refine eL_act_83 hC ?_
      refine eL_act_84 hC ?_
      refine eL_act_86 hC (Nat.le_of_ble_eq_true rfl) (by omega) (by omega) (vL_low hC.nt (by omega) (by omega)) (zk_i ?_)
      refine eL_act_89 hC ?_
      rw [nI_add]
      refine eL_act_90 hC (Nat.le_of_ble_eq_true rfl) (by omega) (by omega) (vL_insert hC.nt hB.x (zo_insertX (by omega) (by omega) (by omega) (by omega) hok)) (zk_a hB (fun K_90 μ_90 hB => ?_))
      refine eL_act_93 hC hQ (by omega) (by omega) ?_
      exact ⟨_, _, zAd_no (Or.inl hj8) (by decide), hB.ai⟩
  have c94 : ∀ (K1 : zK) (μ1 : zF), j < 8 → zBd K μ K1 μ1 x S → zV q 0 0 94 [some (.ref x), some (.int v), some (.int y), some (.int (nI w))] [] K1 μ1 := by
    intro K1 μ1 hj8 hB
    by_cases c : w < S.1 80
    · have h30 := (hok.1.2.1 w c).2
      refine eL_act_94 hC ?_
      refine eL_act_95 hC ?_
      refine eL_act_96 hC (Nat.le_of_ble_eq_true rfl) (by omega) (by omega) (vL_remove hC.nt hB.x (zo_remove c hok)) (zk_a hB (fun K_96 μ_96 hB => ?_))
      refine eL_act_99 hC hQ (by omega) (by omega) ?_
      exact ⟨_, _, Or.inr ⟨nI_pos (by omega), _, rfl, zSj_no (Or.inl hj8) (fun q h1 h2 => zDrp_hi (by omega)), fun h1 h2 => by omega⟩, hB.ai⟩
    · refine eL_act_94 hC ?_
      refine eL_act_95 hC ?_
      refine eL_act_96 hC (Nat.le_of_ble_eq_true rfl) (by omega) (by omega) (vL_remove hC.nt hB.x (zo_removeX (by omega) (by omega))) (zk_a hB (fun K_96 μ_96 hB => ?_))
      refine eL_act_99 hC hQ (by omega) (by omega) ?_
      exact ⟨_, _, zAd_no (Or.inl hj8) (by decide), hB.ai⟩
  have c100 : ∀ (K1 : zK) (μ1 : zF), j < 8 → zBd K μ K1 μ1 x S → zV q 0 0 100 [some (.ref x), some (.int v), some (.int y), some (.int (nI w))] [] K1 μ1 := by
    intro K1 μ1 hj8 hB
    have hv := zqw_lt y (n := 3) (by omega)
    by_cases c : w < S.1 80
    · have hm2 := hok.1.2.2.1 w c
      refine eL_act_100 hC ?_
      refine eL_act_101 hC ?_
      refine eL_act_102 hC ?_
      refine eL_act_103 hC ?_
      refine eL_act_104 hC (Nat.le_of_ble_eq_true rfl) (by omega) (by omega) (vL_low hC.nt (by omega) (by omega)) (zk_i ?_)
      refine eL_act_107 hC (Nat.le_of_ble_eq_true rfl) (by omega) (by omega) (vL_setMark hC.nt hB.x (zo_setMark c (by omega) hok)) (zk_a hB (fun K_107 μ_107 hB => ?_))
      refine eL_act_110 hC hQ (by omega) (by omega) ?_
      exact ⟨_, _, Or.inr ⟨nI_pos (by omega), _, rfl, zSj_no (Or.inl hj8) (fun q h1 h2 => zuf_ne (by omega)), fun h1 h2 => by omega⟩, hB.ai⟩
    · refine eL_act_100 hC ?_
      refine eL_act_101 hC ?_
      refine eL_act_102 hC ?_
      refine eL_act_103 hC ?_
      refine eL_act_104 hC (Nat.le_of_ble_eq_true rfl) (by omega) (by omega) (vL_low hC.nt (by omega) (by omega)) (zk_i ?_)
      refine eL_act_107 hC (Nat.le_of_ble_eq_true rfl) (by omega) (by omega) (vL_setMark hC.nt hB.x (zo_setMarkX (by omega) (by omega))) (zk_a hB (fun K_107 μ_107 hB => ?_))
      refine eL_act_110 hC hQ (by omega) (by omega) ?_
      exact ⟨_, _, zAd_no (Or.inl hj8) (by decide), hB.ai⟩
  have c111 : ∀ (K1 : zK) (μ1 : zF), j = 8 → zBd K μ K1 μ1 x S → zV q 0 0 111 [some (.ref x), some (.int v), some (.int y), some (.int (nI w))] [] K1 μ1 := by
    intro K1 μ1 hj8 hB
    have hv := zqw_lt y (n := 71) (by omega)
    have hb := hok.1.2.2.2.1
    refine eL_act_111 hC ?_
    refine eL_act_112 hC ?_
    refine eL_act_114 hC ?_
    refine eL_act_115 hC ?_
    refine eL_act_117 hC (Nat.le_of_ble_eq_true rfl) (by omega) (by omega) (vL_low hC.nt (by omega) (by omega)) (zk_i ?_)
    refine eL_act_120 hC ?_
    rw [nI_add]
    refine eL_act_121 hC (Nat.le_of_ble_eq_true rfl) (by omega) (by omega) (vL_setColumn hC.nt hB.x (zo_setColumn (by omega) (by omega))) (zk_a hB (fun K_121 μ_121 hB => ?_))
    refine eL_act_124 hC hQ (by omega) (by omega) ?_
    rw [hj8]
    exact ⟨_, _, Or.inr ⟨nI_pos (by omega), _, rfl, ⟨by simp [zuf], by simp [zuf], by simp [zuf], by simp [zuf], by simp [zuf], by simp [zuf]⟩, fun _ _ => nI_pos1 (by omega) (by omega)⟩, hB.ai⟩
  have c125 : ∀ (K1 : zK) (μ1 : zF), j = 9 → zBd K μ K1 μ1 x S → zV q 0 0 125 [some (.ref x), some (.int v), some (.int y), some (.int (nI w))] [] K1 μ1 := by
    intro K1 μ1 hj8 hB
    have hv := zqw_lt y (n := 5) (by omega)
    have hb := hok.1.2.2.2.2.1
    refine eL_act_125 hC ?_
    refine eL_act_126 hC ?_
    refine eL_act_127 hC ?_
    refine eL_act_128 hC ?_
    refine eL_act_129 hC (Nat.le_of_ble_eq_true rfl) (by omega) (by omega) (vL_low hC.nt (by omega) (by omega)) (zk_i ?_)
    refine eL_act_132 hC ?_
    rw [nI_add]
    refine eL_act_133 hC (Nat.le_of_ble_eq_true rfl) (by omega) (by omega) (vL_setSpace hC.nt hB.x (zo_setSpace (by omega) (by omega))) (zk_a hB (fun K_133 μ_133 hB => ?_))
    refine eL_act_136 hC hQ (by omega) (by omega) ?_
    rw [hj8]
    exact ⟨_, _, Or.inr ⟨nI_pos (by omega), _, rfl, ⟨by simp [zuf], by simp [zuf], by simp [zuf], by simp [zuf], by simp [zuf], by simp [zuf]⟩, fun _ _ => nI_pos1 (by omega) (by omega)⟩, hB.ai⟩
  have c137 : ∀ (K1 : zK) (μ1 : zF), j = 10 → zBd K μ K1 μ1 x S → zV q 0 0 137 [some (.ref x), some (.int v), some (.int y), some (.int (nI w))] [] K1 μ1 := by
    intro K1 μ1 hj8 hB
    have hv := zqw_lt y (n := 9) (by omega)
    have hv2 := zqw_lt (y >>> (nI 4 &&& 31)) (n := 1200) (by omega)
    have hv3 := zqw_lt (y >>> (nI 6 &&& 31)) (n := 1200) (by omega)
    have hb := hok.1.2.2.2.2.2.1
    refine eL_act_137 hC ?_
    refine eL_act_138 hC ?_
    refine eL_act_139 hC ?_
    refine eL_act_140 hC ?_
    refine eL_act_142 hC (Nat.le_of_ble_eq_true rfl) (by omega) (by omega) (vL_low hC.nt (by omega) (by omega)) (zk_i ?_)
    refine eL_act_145 hC ?_
    rw [nI_add]
    refine eL_act_146 hC ?_
    refine eL_act_147 hC ?_
    refine eL_act_148 hC ?_
    refine eL_act_149 hC ?_
    refine eL_act_152 hC (Nat.le_of_ble_eq_true rfl) (by omega) (by omega) (vL_low hC.nt (by omega) (by omega)) (zk_i ?_)
    refine eL_act_155 hC ?_
    refine eL_act_156 hC ?_
    refine eL_act_158 hC ?_
    refine eL_act_159 hC ?_
    refine eL_act_162 hC (Nat.le_of_ble_eq_true rfl) (by omega) (by omega) (vL_low hC.nt (by omega) (by omega)) (zk_i ?_)
    refine eL_act_165 hC (Nat.le_of_ble_eq_true rfl) (by omega) (by omega) (vL_setPenalties hC.nt hB.x (zo_setPenalties (by omega) (by omega) (by omega) (by omega))) (zk_a hB (fun K_165 μ_165 hB => ?_))
    refine eL_act_168 hC hQ (by omega) (by omega) ?_
    rw [hj8]
    exact ⟨_, _, Or.inr ⟨nI_pos (by omega), _, rfl, ⟨by simp [zuf], by simp [zuf], by simp [zuf], by simp [zuf], by simp [zuf], by simp [zuf]⟩, fun _ _ => nI_pos1 (by omega) (by omega)⟩, hB.ai⟩
  have c169 : ∀ (K1 : zK) (μ1 : zF), j = 11 → zBd K μ K1 μ1 x S → zV q 0 0 169 [some (.ref x), some (.int v), some (.int y), some (.int (nI w))] [] K1 μ1 := by
    intro K1 μ1 hj8 hB
    have hv := zqw_lt y (n := 8) (by omega)
    have hb := hok.1.2.2.2.2.2.2.2.2.1
    refine eL_act_169 hC ?_
    refine eL_act_170 hC ?_
    refine eL_act_171 hC ?_
    refine eL_act_172 hC ?_
    refine eL_act_174 hC (Nat.le_of_ble_eq_true rfl) (by omega) (by omega) (vL_low hC.nt (by omega) (by omega)) (zk_i ?_)
    refine eL_act_177 hC ?_
    rw [nI_add]
    refine eL_act_178 hC (Nat.le_of_ble_eq_true rfl) (by omega) (by omega) (vL_setPage hC.nt hB.x (zo_setPage (by omega) (by omega))) (zk_a hB (fun K_178 μ_178 hB => ?_))
    refine eL_act_181 hC hQ (by omega) (by omega) ?_
    rw [hj8]
    exact ⟨_, _, Or.inr ⟨nI_pos (by omega), _, rfl, ⟨by simp [zuf], by simp [zuf], by simp [zuf], by simp [zuf], by simp [zuf], by simp [zuf]⟩, fun _ _ => nI_pos1 (by omega) (by omega)⟩, hB.ai⟩
  have c196 : ∀ (b : Nat) (K1 : zK) (μ1 : zF), b ≤ 1 → j = 12 → zBd K μ K1 μ1 x S → zV q 0 0 196 [some (.ref x), some (.int v), some (.int y), some (.int (nI w))] [.int (nI b), .ref x] K1 μ1 := by
    intro b K1 μ1 hb1 hj8 hB
    have h87 := hok.1.2.2.2.2.2.2.2.2.2
    have hs : zSj j y S.1 (zuf S.1 87 b) := zSj_no (Or.inr (by omega)) (fun q h1 h2 => zuf_ne (by omega))
    by_cases c : (S.1 87) = 0
    · refine eL_act_196 hC (Nat.le_of_ble_eq_true rfl) (by omega) (by omega) hB.o (vX8_setOptimal (b := b) hC.nt hB.x hb1) (zk_q hB rfl (fun K_196 μ_196 hB => ?_))
      refine eL_act_199 hC (fun _ => ?_) (fun zz => absurd (by rw [c]; exact zn00) zz)
      refine eL_act_206 hC ?_
      refine eL_act_207 hC hQ (by omega) (by omega) ?_
      exact ⟨_, _, Or.inr ⟨by decide, _, rfl, hs, fun h1 h2 => by omega⟩, hB.ai⟩
    · refine eL_act_196 hC (Nat.le_of_ble_eq_true rfl) (by omega) (by omega) hB.o (vX8_setOptimal (b := b) hC.nt hB.x hb1) (zk_q hB rfl (fun K_196 μ_196 hB => ?_))
      refine eL_act_199 hC (fun zz => absurd zz (nI_ne0 (by omega) (by omega))) (fun _ => ?_)
      refine eL_act_202 hC ?_
      refine eL_act_203 hC ?_
      refine eL_act_207 hC hQ (by omega) (by omega) ?_
      exact ⟨_, _, Or.inr ⟨by decide, _, rfl, hs, fun h1 h2 => by omega⟩, hB.ai⟩
  have c182 : ∀ (K1 : zK) (μ1 : zF), j = 12 → zBd K μ K1 μ1 x S → zV q 0 0 182 [some (.ref x), some (.int v), some (.int y), some (.int (nI w))] [] K1 μ1 := by
    intro K1 μ1 hj8 hB
    have hv := zqw_lt y (n := 3) (by omega)
    by_cases c : zqw y 3 = 0
    · refine eL_act_182 hC ?_
      refine eL_act_183 hC ?_
      refine eL_act_184 hC ?_
      refine eL_act_185 hC (Nat.le_of_ble_eq_true rfl) (by omega) (by omega) (vL_low hC.nt (by omega) (by omega)) (zk_i ?_)
      rw [c]
      refine eL_act_188 hC (fun _ => ?_) (fun zz => absurd (by decide) zz)
      refine eL_act_195 hC ?_
      exact c196 0 _ _ (by omega) hj8 hB
    · refine eL_act_182 hC ?_
      refine eL_act_183 hC ?_
      refine eL_act_184 hC ?_
      refine eL_act_185 hC (Nat.le_of_ble_eq_true rfl) (by omega) (by omega) (vL_low hC.nt (by omega) (by omega)) (zk_i ?_)
      refine eL_act_188 hC (fun zz => absurd zz (nI_nle (by omega) (by omega))) (fun _ => ?_)
      refine eL_act_191 hC ?_
      refine eL_act_192 hC ?_
      exact c196 1 _ _ (by omega) hj8 hB
  refine eL_act_0 hC ?_
  refine eL_act_1 hC ?_
  refine eL_act_2 hC ?_
  refine eL_act_3 hC ?_
  refine eL_act_4 hC (Nat.le_of_ble_eq_true rfl) (by omega) (by omega) hB.o (vX8_words hC.nt hB.x) (zk_q hB rfl (fun K_4 μ_4 hB => ?_))
  refine eL_act_7 hC ?_
  refine eL_act_8 hC ?_
  rw [nI_add]
  refine eL_act_9 hC (Nat.le_of_ble_eq_true rfl) (by omega) (by omega) (vL_low hC.nt (by omega) (by omega)) (zk_i ?_)
  rw [← hw]
  refine eL_act_12 hC ?_
  refine eL_act_13 hC ?_
  refine eL_act_14 hC ?_
  refine eL_act_16 hC (Nat.le_of_ble_eq_true rfl) (by omega) (by omega) (vL_low hC.nt (by omega) (by omega)) (zk_i ?_)
  rw [← hj]
  rw [← hj] at hj2
  rcases (show j = 0 ∨ j = 1 ∨ j = 2 ∨ j = 3 ∨ j = 4 ∨ j = 5 ∨ j = 6 ∨ j = 7 ∨ j = 8 ∨ j = 9 ∨ j = 10 ∨ j = 11 ∨ j = 12 by omega) with e | e | e | e | e | e | e | e | e | e | e | e | e
  · have nx := c80 _ _ (by omega) hB
    rw [e]
    exact zv_sw hC (hi := 11) dL_act_19 (by decide) (by decide) rfl (by decide) nx
  · have nx := c80 _ _ (by omega) hB
    rw [e]
    exact zv_sw hC (hi := 11) dL_act_19 (by decide) (by decide) rfl (by decide) nx
  · have nx := c80 _ _ (by omega) hB
    rw [e]
    exact zv_sw hC (hi := 11) dL_act_19 (by decide) (by decide) rfl (by decide) nx
  · have nx := c80 _ _ (by omega) hB
    rw [e]
    exact zv_sw hC (hi := 11) dL_act_19 (by decide) (by decide) rfl (by decide) nx
  · have nx := c80 _ _ (by omega) hB
    rw [e]
    exact zv_sw hC (hi := 11) dL_act_19 (by decide) (by decide) rfl (by decide) nx
  · have nx := c94 _ _ (by omega) hB
    rw [e]
    exact zv_sw hC (hi := 11) dL_act_19 (by decide) (by decide) rfl (by decide) nx
  · have nx := c100 _ _ (by omega) hB
    rw [e]
    exact zv_sw hC (hi := 11) dL_act_19 (by decide) (by decide) rfl (by decide) nx
  · have nx := c100 _ _ (by omega) hB
    rw [e]
    exact zv_sw hC (hi := 11) dL_act_19 (by decide) (by decide) rfl (by decide) nx
  · have nx := c111 _ _ (by omega) hB
    rw [e]
    exact zv_sw hC (hi := 11) dL_act_19 (by decide) (by decide) rfl (by decide) nx
  · have nx := c125 _ _ (by omega) hB
    rw [e]
    exact zv_sw hC (hi := 11) dL_act_19 (by decide) (by decide) rfl (by decide) nx
  · have nx := c137 _ _ (by omega) hB
    rw [e]
    exact zv_sw hC (hi := 11) dL_act_19 (by decide) (by decide) rfl (by decide) nx
  · have nx := c169 _ _ (by omega) hB
    rw [e]
    exact zv_sw hC (hi := 11) dL_act_19 (by decide) (by decide) rfl (by decide) nx
  · have nx := c182 _ _ (by omega) hB
    rw [e]
    exact zv_swd hC (hi := 11) dL_act_19 (by omega) (by omega) (tgt := 182) (by decide) nx
