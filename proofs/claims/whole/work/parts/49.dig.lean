/-! ===== the hash ===== -/
def zmx (h : Int64) (v : Int32) : Int64 := 31 * h + v.toInt64
theorem vX8_mix {l : Launch} {g : zG} (hl : l.stackTraces = false) {K : zK} {μ : zF} {c : Int64} {v : Int32} : EX8_mix l g 0 0 [.long c, .int v] K μ (zPl (zmx c v) K μ) := by
  refine nX8_mix hl (fun q hC hQ => ?_)
  refine eX8_mix_0 hC ?_
  refine eX8_mix_3 hC ?_
  refine eX8_mix_4 hC ?_
  refine eX8_mix_5 hC ?_
  refine eX8_mix_6 hC ?_
  refine eX8_mix_7 hC ?_
  refine eX8_mix_8 hC hQ (Nat.le_of_ble_eq_true rfl) (Nat.le_of_ble_eq_true rfl) ?_
  exact ⟨rfl, rfl, rfl⟩
noncomputable def zd0 (S : zMs) : Int64 := zmx (zmx (zmx (zmx (zmx (zmx (zmx (zmx (zmx 8096 (nI (S.1 80))) (nI (zm S.1 (S.1 87)))) (nI (zct (zpe S.1) (S.1 80)))) (nI (zct (fun j => zsa S.1 (S.1 87) j ≠ 1) (zm S.1 (S.1 87))))) (nI (ztc S.1 (S.1 87) (zm S.1 (S.1 87))))) (nI (zpm S.1 (S.1 87)))) (nI (zwn S.1 (S.1 87)))) (nI (zon S.1 (S.1 87)))) (nI (zct1 S.1 0) - nI (zct1 S.1 1))
noncomputable def zdw (S : zMs) : Nat → Int64
  | 0 => zd0 S
  | k + 1 => zmx (zmx (zmx (zmx (zdw S k) (nI (S.1 k))) (nI (S.1 (40 + k)))) (nI (zlo S.1 (S.1 87) k))) (nI (zre S.1 (S.1 87) k))
noncomputable def zdl (S : zMs) : Nat → Int64
  | 0 => zdw S (S.1 80)
  | k + 1 => zmx (zmx (zdl S k) (nI (zlw S.1 (S.1 87) k))) (nI (zpo S.1 (S.1 87) k))
noncomputable def zdo_digest (S : zMs) : Int64 := zdl S (zm S.1 (S.1 87))
def zRL (r : Int64) (K : zK) (μ : zF) (x : Nat) (S : zMs) : Option Value → zK → zF → Prop := fun v K' μ' => v = some (.long r) ∧ zKe K K' (x + 58) ∧ zX8 K' μ' x S ∧ zAg μ μ' x (x + 89)
set_option maxHeartbeats 4000000 in
theorem vX8_saving0 {l : Launch} {g : zG} (hl : l.stackTraces = false) {K : zK} {μ : zF} {x : Nat} {S : zMs} (h : zX8 K μ x S) : EX8_saving l g 0 0 [.ref x] K μ (zPv (nI (zct1 S.1 0) - nI (zct1 S.1 1)) K (fun μ' => zAg μ μ' (x + 28) (x + 50) ∧ μ' (x + 40) 0 = nI 0)) := by
  obtain ⟨s, hR, hv, ho⟩ := id h
  obtain ⟨h0, h1, h2, h3, h4, h5, h6, h7, h8, h9, h10, h11, h12, h13, h14⟩ := id hR
  obtain ⟨v1, v2, v3, v4, v5⟩ := id hv.1
  obtain ⟨t0, t1, t2, t3, t4⟩ := id h8
  have b0 := h13.1
  have q0 := h14.1
  have o1 := ho.1.1
  have e8 : μ (x + 1) 2 = nI (S.1 80) := v1.2.2 2 (by omega) (by omega)
  obtain ⟨y0, y1, y2, y3, y4, y5, y6, y7, -⟩ := id h9
  obtain ⟨p0, p1, p2, p3, p4, p5, p6⟩ := id h10
  have z0 := h12.1
  have hmm := (zm_is S.1 (S.1 87)).1
  refine nX8_saving hl (fun q hC hQ => ?_)
  refine eX8_saving_0 hC ?_
  refine eX8_saving_1 hC (by assumption) (by assumption) ?_
  refine eX8_saving_4 hC ?_
  refine eX8_saving_5 hC (by assumption) (by assumption) ?_
  refine eX8_saving_8 hC (Nat.le_of_ble_eq_true rfl) (Nat.le_of_ble_eq_true rfl) (Nat.le_of_ble_eq_true rfl) (by first | assumption | exact zTxt.o (by assumption)) (vX7_copyFrom hC.nt h11 h8 v1 (by omega) ho.1.2.2.2.2.2.2.2.2.2) (zk_w (fun μ_8 m_8 => ?_))
  obtain ⟨g1, g2⟩ := m_8
  refine eX8_saving_11 hC ?_
  refine eX8_saving_12 hC (by assumption) (by assumption) ?_
  refine eX8_saving_15 hC ?_
  refine eX8_saving_16 hC (Nat.le_of_ble_eq_true rfl) (Nat.le_of_ble_eq_true rfl) (Nat.le_of_ble_eq_true rfl) (by first | assumption | exact zLay.o (by assumption)) (vX3_arrange hC.nt h12 h11 g1 ho.1 (by omega) (by rw [g2 _ _ (by omega)]; exact v5) (Nat.zero_le 1) rfl) (zk_w (fun μ_16 m_16 => ?_))
  obtain ⟨w1, w2, w3⟩ := m_16
  have g1' := g1.ag w2 (by omega)
  refine eX8_saving_19 hC ?_
  refine eX8_saving_20 hC (by assumption) (by assumption) ?_
  refine eX8_saving_23 hC (Nat.le_of_ble_eq_true rfl) (Nat.le_of_ble_eq_true rfl) (Nat.le_of_ble_eq_true rfl) (by first | assumption | exact zLay.o (by assumption)) (vX3_totalCost hC.nt h12 h11 g1' ho.1 w1) (zk_i ?_)
  refine eX8_saving_26 hC ?_
  refine eX8_saving_27 hC ?_
  refine eX8_saving_28 hC (by assumption) (by assumption) ?_
  refine eX8_saving_31 hC ?_
  refine eX8_saving_32 hC (Nat.le_of_ble_eq_true rfl) (Nat.le_of_ble_eq_true rfl) (Nat.le_of_ble_eq_true rfl) (by first | assumption | exact zLay.o (by assumption)) (vX3_arrange hC.nt h12 h11 g1' ho.1 (by omega) w3 (Nat.le_refl 1) rfl) (zk_w (fun μ_32 m_32 => ?_))
  obtain ⟨u1, u2, u3⟩ := m_32
  have hag : zAg μ μ_32 (x + 28) (x + 50) := ((zAg.wide g2 (by omega) (by omega)).trans (zAg.wide w2 (by omega) (by omega))).trans (zAg.wide u2 (by omega) (by omega))
  have hzz : μ_32 (x + 40) 0 = nI 0 := u3
  refine eX8_saving_35 hC ?_
  refine eX8_saving_36 hC ?_
  refine eX8_saving_37 hC (by assumption) (by assumption) ?_
  refine eX8_saving_40 hC (Nat.le_of_ble_eq_true rfl) (Nat.le_of_ble_eq_true rfl) (Nat.le_of_ble_eq_true rfl) (by first | assumption | exact zLay.o (by assumption)) (vX3_totalCost hC.nt h12 h11 (g1'.ag u2 (by omega)) ho.1 u1) (zk_i ?_)
  refine eX8_saving_43 hC ?_
  refine eX8_saving_44 hC hQ (Nat.le_of_ble_eq_true rfl) (Nat.le_of_ble_eq_true rfl) ?_
  exact ⟨rfl, rfl, hag, hzz⟩
set_option maxHeartbeats 8000000 in
theorem vX8_digest {l : Launch} {g : zG} (hl : l.stackTraces = false) {K : zK} {μ : zF} {x : Nat} {S : zMs} (h : zX8 K μ x S) : EX8_digest l g 0 0 [.ref x] K μ (zRL (zdo_digest S) K μ x S) := by
  obtain ⟨s, hR, hv, ho⟩ := id h
  obtain ⟨h0, h1, h2, h3, h4, h5, h6, h7, h8, h9, h10, h11, h12, h13, h14⟩ := id hR
  obtain ⟨v1, v2, v3, v4, v5⟩ := id hv.1
  obtain ⟨t0, t1, t2, t3, t4⟩ := id h8
  have b0 := h13.1
  have q0 := h14.1
  have o1 := ho.1.1
  have e8 : μ (x + 1) 2 = nI (S.1 80) := v1.2.2 2 (by omega) (by omega)
  obtain ⟨y0, y1, y2, y3, y4, y5, y6, y7, -⟩ := id h9
  obtain ⟨p0, p1, p2, p3, p4, p5, p6⟩ := id h10
  have z0 := h12.1
  have hmm := (zm_is S.1 (S.1 87)).1
  refine nX8_digest hl (fun q hC hQ => ?_)
  have lines : ∀ (μ1 : zF), zRc μ1 x s S → zRf μ1 x S.1 → zAg μ μ1 x (x + 89) → ∀ (d k : Nat), k + d = zm S.1 (S.1 87) → zV q 0 0 195 [some (.ref x), some (.long (zdl S k)), none, some (.int (nI k))] [] K μ1 := by
    intro μ1 w1 w2 hag d
    obtain ⟨f1, f2, f3⟩ := id w2
    obtain ⟨u1, u2, u3, u4, u5⟩ := id w1
    induction d with
    | zero =>
      intro k hk
      have hk : k = zm S.1 (S.1 87) := by omega
      refine eX8_digest_195 hC ?_
      refine eX8_digest_196 hC ?_
      refine eX8_digest_197 hC (by assumption) (by assumption) ?_
      refine eX8_digest_200 hC (by assumption) ?_
      rw [f2.1]
      refine eX8_digest_203 hC (fun _ => ?_) (fun zz => absurd (nI_le (by omega) (by omega)) zz)
      rw [hk]
      refine eX8_digest_241 hC ?_
      refine eX8_digest_242 hC hQ (Nat.le_of_ble_eq_true rfl) (Nat.le_of_ble_eq_true rfl) ?_
      exact ⟨rfl, zKe.refl _ _, ⟨s, hR, ⟨w1, Or.inr w2⟩, ho⟩, hag⟩
    | succ d ih =>
      intro k hk
      have hk2 : k < zm S.1 (S.1 87) := by omega
      refine eX8_digest_195 hC ?_
      refine eX8_digest_196 hC ?_
      refine eX8_digest_197 hC (by assumption) (by assumption) ?_
      refine eX8_digest_200 hC (by assumption) ?_
      rw [f2.1]
      refine eX8_digest_203 hC (fun zz => absurd zz (nI_ge hk2 (by omega))) (fun _ => ?_)
      refine eX8_digest_206 hC ?_
      refine eX8_digest_207 hC ?_
      refine eX8_digest_208 hC (by assumption) (by assumption) ?_
      refine eX8_digest_211 hC ?_
      refine eX8_digest_212 hC (Nat.le_of_ble_eq_true rfl) (Nat.le_of_ble_eq_true rfl) (Nat.le_of_ble_eq_true rfl) (by first | assumption | exact zLay.o (by assumption)) (vX3_widthOfLine hC.nt h9 h8 u1 ho.1 f2 hk2) (zk_i ?_)
      refine eX8_digest_215 hC (Nat.le_of_ble_eq_true rfl) (Nat.le_of_ble_eq_true rfl) (Nat.le_of_ble_eq_true rfl) (vX8_mix hC.nt) (zk_l ?_)
      refine eX8_digest_218 hC ?_
      refine eX8_digest_219 hC ?_
      refine eX8_digest_220 hC ?_
      refine eX8_digest_221 hC (by assumption) (by assumption) ?_
      refine eX8_digest_224 hC (by assumption) (by assumption) ?_
      refine eX8_digest_227 hC ?_
      refine eX8_digest_228 hC (Nat.le_of_ble_eq_true rfl) (Nat.le_of_ble_eq_true rfl) (Nat.le_of_ble_eq_true rfl) (by first | assumption | exact zRow.o (by assumption)) (vX6_at hC.nt p6) (zk_i ?_)
      rw [zrd_in (by omega) (by omega), show μ1 _ k = nI (zpo S.1 (S.1 87) k) from f3.2.2 k hk2]
      refine eX8_digest_231 hC (Nat.le_of_ble_eq_true rfl) (Nat.le_of_ble_eq_true rfl) (Nat.le_of_ble_eq_true rfl) (vX8_mix hC.nt) (zk_l ?_)
      refine eX8_digest_234 hC ?_
      refine eX8_digest_235 hC ?_
      rw [nI_add]
      refine eX8_digest_238 hC ?_
      exact ih (k + 1) (by omega)
  have words : ∀ (μ1 : zF), zRc μ1 x s S → zRf μ1 x S.1 → zAg μ μ1 x (x + 89) → ∀ (d k : Nat), k + d = S.1 80 → zV q 0 0 115 [some (.ref x), some (.long (zdw S k)), none, some (.int (nI k))] [] K μ1 := by
    intro μ1 w1 w2 hag d
    obtain ⟨f1, f2, f3⟩ := id w2
    obtain ⟨u1, u2, u3, u4, u5⟩ := id w1
    have e80 : μ1 (x + 1) 2 = nI (S.1 80) := u1.2.2 2 (by omega) (by omega)
    induction d with
    | zero =>
      intro k hk
      have hk : k = S.1 80 := by omega
      refine eX8_digest_115 hC ?_
      refine eX8_digest_116 hC ?_
      refine eX8_digest_117 hC (by assumption) (by assumption) ?_
      refine eX8_digest_120 hC (by assumption) ?_
      rw [e80]
      refine eX8_digest_123 hC (fun _ => ?_) (fun zz => absurd (nI_le (by omega) (by omega)) zz)
      rw [hk]
      refine eX8_digest_193 hC ?_
      refine eX8_digest_194 hC ?_
      exact lines μ1 w1 w2 hag (zm S.1 (S.1 87)) 0 (by omega)
    | succ d ih =>
      intro k hk
      have hk2 : k < S.1 80 := by omega
      refine eX8_digest_115 hC ?_
      refine eX8_digest_116 hC ?_
      refine eX8_digest_117 hC (by assumption) (by assumption) ?_
      refine eX8_digest_120 hC (by assumption) ?_
      rw [e80]
      refine eX8_digest_123 hC (fun zz => absurd zz (nI_ge hk2 (by omega))) (fun _ => ?_)
      refine eX8_digest_126 hC ?_
      refine eX8_digest_127 hC ?_
      refine eX8_digest_128 hC (by assumption) (by assumption) ?_
      refine eX8_digest_131 hC (by assumption) (by assumption) ?_
      refine eX8_digest_134 hC ?_
      refine eX8_digest_135 hC (Nat.le_of_ble_eq_true rfl) (Nat.le_of_ble_eq_true rfl) (Nat.le_of_ble_eq_true rfl) (by first | assumption | exact zRow.o (by assumption)) (vX6_at hC.nt t3) (zk_i ?_)
      rw [zrd_in (by omega) (by omega), show μ1 _ k = nI (S.1 k) from u1.1 k (by omega)]
      refine eX8_digest_138 hC (Nat.le_of_ble_eq_true rfl) (Nat.le_of_ble_eq_true rfl) (Nat.le_of_ble_eq_true rfl) (vX8_mix hC.nt) (zk_l ?_)
      refine eX8_digest_141 hC ?_
      refine eX8_digest_142 hC ?_
      refine eX8_digest_143 hC ?_
      refine eX8_digest_144 hC (by assumption) (by assumption) ?_
      refine eX8_digest_147 hC (by assumption) (by assumption) ?_
      refine eX8_digest_150 hC ?_
      refine eX8_digest_151 hC (Nat.le_of_ble_eq_true rfl) (Nat.le_of_ble_eq_true rfl) (Nat.le_of_ble_eq_true rfl) (by first | assumption | exact zRow.o (by assumption)) (vX6_at hC.nt t4) (zk_i ?_)
      rw [zrd_in (by omega) (by omega), show μ1 _ k = nI (S.1 (40 + k)) from u1.2.1 k (by omega)]
      refine eX8_digest_154 hC (Nat.le_of_ble_eq_true rfl) (Nat.le_of_ble_eq_true rfl) (Nat.le_of_ble_eq_true rfl) (vX8_mix hC.nt) (zk_l ?_)
      refine eX8_digest_157 hC ?_
      refine eX8_digest_158 hC ?_
      refine eX8_digest_159 hC ?_
      refine eX8_digest_160 hC (by assumption) (by assumption) ?_
      refine eX8_digest_163 hC (by assumption) (by assumption) ?_
      refine eX8_digest_166 hC ?_
      refine eX8_digest_167 hC (Nat.le_of_ble_eq_true rfl) (Nat.le_of_ble_eq_true rfl) (Nat.le_of_ble_eq_true rfl) (by first | assumption | exact zRow.o (by assumption)) (vX6_at hC.nt y7) (zk_i ?_)
      rw [zrd_in (by omega) (by omega), show μ1 _ k = nI (zlo S.1 (S.1 87) k) from f2.2.2.1 k hk2]
      refine eX8_digest_170 hC (Nat.le_of_ble_eq_true rfl) (Nat.le_of_ble_eq_true rfl) (Nat.le_of_ble_eq_true rfl) (vX8_mix hC.nt) (zk_l ?_)
      refine eX8_digest_173 hC ?_
      refine eX8_digest_174 hC ?_
      refine eX8_digest_175 hC ?_
      refine eX8_digest_176 hC (by assumption) (by assumption) ?_
      refine eX8_digest_179 hC ?_
      refine eX8_digest_180 hC (Nat.le_of_ble_eq_true rfl) (Nat.le_of_ble_eq_true rfl) (Nat.le_of_ble_eq_true rfl) (by first | assumption | exact zLay.o (by assumption)) (vX3_reasonBehind hC.nt h9 h8 u1 ho.1 f2 hk2) (zk_i ?_)
      refine eX8_digest_183 hC (Nat.le_of_ble_eq_true rfl) (Nat.le_of_ble_eq_true rfl) (Nat.le_of_ble_eq_true rfl) (vX8_mix hC.nt) (zk_l ?_)
      refine eX8_digest_186 hC ?_
      refine eX8_digest_187 hC ?_
      rw [nI_add]
      refine eX8_digest_190 hC ?_
      exact ih (k + 1) (by omega)
  refine eX8_digest_0 hC ?_
  refine eX8_digest_1 hC (Nat.le_of_ble_eq_true rfl) (Nat.le_of_ble_eq_true rfl) (Nat.le_of_ble_eq_true rfl) (by assumption) (vX8_refresh hC.nt hR hv ho) (zk_w (fun μ_1 m_1 => ?_))
  obtain ⟨w1, w2, w3⟩ := m_1
  have hX : zX8 K μ_1 x S := ⟨s, hR, ⟨w1, Or.inr w2⟩, ho⟩
  obtain ⟨f1, f2, f3⟩ := id w2
  obtain ⟨u1, u2, u3, u4, u5⟩ := id w1
  refine eX8_digest_4 hC ?_
  refine eX8_digest_7 hC ?_
  refine eX8_digest_8 hC ?_
  refine eX8_digest_9 hC ?_
  refine eX8_digest_10 hC (by assumption) (by assumption) ?_
  refine eX8_digest_13 hC (by assumption) ?_
  rw [show μ_1 (x + 1) 2 = nI (S.1 80) from u1.2.2 2 (by omega) (by omega)]
  refine eX8_digest_16 hC (Nat.le_of_ble_eq_true rfl) (Nat.le_of_ble_eq_true rfl) (Nat.le_of_ble_eq_true rfl) (vX8_mix hC.nt) (zk_l ?_)
  refine eX8_digest_19 hC ?_
  refine eX8_digest_20 hC ?_
  refine eX8_digest_21 hC ?_
  refine eX8_digest_22 hC (by assumption) (by assumption) ?_
  refine eX8_digest_25 hC (by assumption) ?_
  rw [f2.1]
  refine eX8_digest_28 hC (Nat.le_of_ble_eq_true rfl) (Nat.le_of_ble_eq_true rfl) (Nat.le_of_ble_eq_true rfl) (vX8_mix hC.nt) (zk_l ?_)
  refine eX8_digest_31 hC ?_
  refine eX8_digest_32 hC ?_
  refine eX8_digest_33 hC ?_
  refine eX8_digest_34 hC (by assumption) (by assumption) ?_
  refine eX8_digest_37 hC (Nat.le_of_ble_eq_true rfl) (Nat.le_of_ble_eq_true rfl) (Nat.le_of_ble_eq_true rfl) (by first | assumption | exact zTxt.o (by assumption)) (vX7_countParagraphs hC.nt h8 u1 ho.1) (zk_i ?_)
  refine eX8_digest_40 hC (Nat.le_of_ble_eq_true rfl) (Nat.le_of_ble_eq_true rfl) (Nat.le_of_ble_eq_true rfl) (vX8_mix hC.nt) (zk_l ?_)
  refine eX8_digest_43 hC ?_
  refine eX8_digest_44 hC ?_
  refine eX8_digest_45 hC ?_
  refine eX8_digest_46 hC (by assumption) (by assumption) ?_
  refine eX8_digest_49 hC (Nat.le_of_ble_eq_true rfl) (Nat.le_of_ble_eq_true rfl) (Nat.le_of_ble_eq_true rfl) (by first | assumption | exact zLay.o (by assumption)) (vX3_countStairs hC.nt h9 h8 u1 ho.1 f2) (zk_i ?_)
  refine eX8_digest_52 hC (Nat.le_of_ble_eq_true rfl) (Nat.le_of_ble_eq_true rfl) (Nat.le_of_ble_eq_true rfl) (vX8_mix hC.nt) (zk_l ?_)
  refine eX8_digest_55 hC ?_
  refine eX8_digest_56 hC ?_
  refine eX8_digest_57 hC ?_
  refine eX8_digest_58 hC (by assumption) (by assumption) ?_
  refine eX8_digest_61 hC (Nat.le_of_ble_eq_true rfl) (Nat.le_of_ble_eq_true rfl) (Nat.le_of_ble_eq_true rfl) (by first | assumption | exact zLay.o (by assumption)) (vX3_totalCost hC.nt h9 h8 u1 ho.1 f2) (zk_i ?_)
  refine eX8_digest_64 hC (Nat.le_of_ble_eq_true rfl) (Nat.le_of_ble_eq_true rfl) (Nat.le_of_ble_eq_true rfl) (vX8_mix hC.nt) (zk_l ?_)
  refine eX8_digest_67 hC ?_
  refine eX8_digest_68 hC ?_
  refine eX8_digest_69 hC ?_
  refine eX8_digest_70 hC (by assumption) (by assumption) ?_
  refine eX8_digest_73 hC (by assumption) ?_
  rw [f3.1]
  refine eX8_digest_76 hC (Nat.le_of_ble_eq_true rfl) (Nat.le_of_ble_eq_true rfl) (Nat.le_of_ble_eq_true rfl) (vX8_mix hC.nt) (zk_l ?_)
  refine eX8_digest_79 hC ?_
  refine eX8_digest_80 hC ?_
  refine eX8_digest_81 hC ?_
  refine eX8_digest_82 hC (by assumption) (by assumption) ?_
  refine eX8_digest_85 hC (Nat.le_of_ble_eq_true rfl) (Nat.le_of_ble_eq_true rfl) (Nat.le_of_ble_eq_true rfl) (by first | assumption | exact zPag.o (by assumption)) (vX5_countWidows hC.nt h10 h9 h8 u1 ho.1 f2 f3) (zk_i ?_)
  refine eX8_digest_88 hC (Nat.le_of_ble_eq_true rfl) (Nat.le_of_ble_eq_true rfl) (Nat.le_of_ble_eq_true rfl) (vX8_mix hC.nt) (zk_l ?_)
  refine eX8_digest_91 hC ?_
  refine eX8_digest_92 hC ?_
  refine eX8_digest_93 hC ?_
  refine eX8_digest_94 hC (by assumption) (by assumption) ?_
  refine eX8_digest_97 hC (Nat.le_of_ble_eq_true rfl) (Nat.le_of_ble_eq_true rfl) (Nat.le_of_ble_eq_true rfl) (by first | assumption | exact zPag.o (by assumption)) (vX5_countOrphans hC.nt h10 h9 h8 u1 ho.1 f2 f3) (zk_i ?_)
  refine eX8_digest_100 hC (Nat.le_of_ble_eq_true rfl) (Nat.le_of_ble_eq_true rfl) (Nat.le_of_ble_eq_true rfl) (vX8_mix hC.nt) (zk_l ?_)
  refine eX8_digest_103 hC ?_
  refine eX8_digest_104 hC ?_
  refine eX8_digest_105 hC ?_
  refine eX8_digest_106 hC (Nat.le_of_ble_eq_true rfl) (Nat.le_of_ble_eq_true rfl) (Nat.le_of_ble_eq_true rfl) (by assumption) (vX8_saving0 hC.nt hX) (zk_v (fun μ_106 m_106 => ?_))
  refine eX8_digest_109 hC (Nat.le_of_ble_eq_true rfl) (Nat.le_of_ble_eq_true rfl) (Nat.le_of_ble_eq_true rfl) (vX8_mix hC.nt) (zk_l ?_)
  refine eX8_digest_112 hC ?_
  refine eX8_digest_113 hC ?_
  refine eX8_digest_114 hC ?_
  obtain ⟨g1, g2⟩ := m_106
  exact words μ_106 ⟨u1.ag g1 (by omega), u2.ag g1 (by omega), u3.ag h14 g1 (by omega), by rw [g1 _ _ (by omega)]; exact u4, g2⟩ (w2.ag g1 (by omega)) (w3.trans (zAg.wide g1 (by omega) (by omega))) (S.1 80) 0 (by omega)
