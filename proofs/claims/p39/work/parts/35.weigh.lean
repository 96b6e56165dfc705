/-! ===== a line weighed ===== -/
set_option maxHeartbeats 8000000 in
theorem vX4_weigh {l : Launch} {g : zG} (hl : l.stackTraces = false) {K : zK} {μ : zF} {o t q b i P : Nat} {τ : Nat → Nat} (h : zOpt K o t q) (hF : zFit K q t) (hT : zTxt K t) (hv : zTv μ t τ) (hs1 : zFs1 μ q τ) (hs2 : zFs2 μ q τ) (ho : zOk τ) (hqo : q + 5 = o) (hto : t + 5 ≤ q ∨ o + 7 ≤ t)
    (hbi : b ≤ i) (hiP : i < P) (hP : P ≤ τ 80) (hpd : ∀ k, k < P → zrc τ k ≤ P) (hsc : ∀ j u, i < j → j ≤ zrc τ i → j < P → u < 3 → μ (o + 2) (zsl i j u) = nI (zsc τ P i j u)) :
    EX4_weigh l g 0 0 [.ref o, .int (nI b), .int (nI i), .int (nI P)] K μ (zPw K (fun μ' => zSm μ μ' o b i ∧ ∀ u, u < 3 → μ' (o + 2) (zsl b i u) = nI (zca τ P (decide (b = i)) b i u (zch τ P (decide (b = i)) b i u)) ∧ μ' (o + 4) (zsl b i u) = nI (zch τ P (decide (b = i)) b i u))) := by
  have hO := h
  have hF' := hF
  have hT' := hT
  obtain ⟨h0, h1, h2, h3, h4, h5, h6, h7, h8⟩ := h
  obtain ⟨f0, f1, f2, f3, f4, f5⟩ := hF
  obtain ⟨t0, t1, t2, t3, t4⟩ := hT
  have o1 := ho.1
  obtain ⟨r1, r2, r3⟩ := zrc_is τ i
  have rP := hpd i hiP
  have h84 := ho.2.2.2.2.2.2.1
  have h85 := ho.2.2.2.2.2.2.2.1
  have hcol := ho.2.2.2.1
  have hbd : ∀ u k, i < k → k ≤ zrc τ i → zca τ P (decide (b = i)) b i u k < 2 ^ 30 := fun u k k1 k2 => by
    have := zca_bd ho hP hpd (P - i) i (decide (b = i)) b u k (Nat.le_refl _) k1 (by omega)
    omega
  refine nX4_weigh hl (fun x hC hQ => ?_)
  -- behind the ends
  have loopB : ∀ (d e : Nat) (μ1 : zF), i + d = e → e ≤ zrc τ i → zSm μ μ1 o b i → (∀ u, u < 3 → zBt τ P (decide (b = i)) b i u e (μ1 (o + 2) (zsl b i u)) (μ1 (o + 4) (zsl b i u))) → zV x 0 0 55 [some (.ref o), some (.int (nI b)), some (.int (nI i)), some (.int (nI P)), some (.int (zwi τ b i)), some (.int (nI e)), none, none, none, none, none, none] [] K μ1 := by
    intro d
    induction d with
    | zero =>
      intro e μ1 he her hsm hB
      have he : e = i := by omega
      subst he
      refine eX4_weigh_55 hC ?_
      refine eX4_weigh_57 hC ?_
      refine eX4_weigh_58 hC (fun _ => ?_) (fun zz => absurd (nI_le (Nat.le_refl _) (by omega)) zz)
      refine eX4_weigh_249 hC hQ (Nat.le_of_ble_eq_true rfl) (Nat.le_of_ble_eq_true rfl) ?_
      exact ⟨rfl, rfl, hsm, fun u hu => zBt_end (hB u hu)⟩
    | succ d ih =>
      intro e μ1 he her hsm hB
      have hag := hsm.ag
      have hv1 := hv.ag hag (by omega)
      have hs11 := hs1.ag hag (by omega)
      have hw := zwd_col ho (i := i) (j := e) (by omega) (by omega) her
      have hst : μ1 t 6 = nI (τ 84) := hv1.2.2 6 (by omega) (by omega)
      -- the three ways into the line before
      have tail : zV x 0 0 170 [some (.ref o), some (.int (nI b)), some (.int (nI i)), some (.int (nI P)), some (.int (zwi τ b i)), some (.int (nI e)), some (.int (nI (zwd τ i e))), some (.int (nI (ztt τ P (decide (b = i)) b i e) - nI 1)), some (.int (nI (zb0 τ P (decide (b = i)) b i e))), none, none, none] [] K μ1 := by
        have htt := ztt_le τ P (decide (b = i)) b i e
        have loopC : ∀ (d2 u : Nat) (μ2 : zF), u + d2 = 3 → zSm μ μ2 o b i → (∀ v, v < 3 → v < u → zBt τ P (decide (b = i)) b i v (e - 1) (μ2 (o + 2) (zsl b i v)) (μ2 (o + 4) (zsl b i v))) → (∀ v, v < 3 → u ≤ v → zBt τ P (decide (b = i)) b i v e (μ2 (o + 2) (zsl b i v)) (μ2 (o + 4) (zsl b i v))) → zV x 0 0 173 [some (.ref o), some (.int (nI b)), some (.int (nI i)), some (.int (nI P)), some (.int (zwi τ b i)), some (.int (nI e)), some (.int (nI (zwd τ i e))), some (.int (nI (ztt τ P (decide (b = i)) b i e) - nI 1)), some (.int (nI (zb0 τ P (decide (b = i)) b i e))), some (.int (nI u - nI 1)), none, none] [] K μ2 := by
          intro d2
          induction d2 with
          | zero =>
            intro u μ2 hu hsm2 hB1 hB2
            have hu : u = 3 := by omega
            subst hu
            refine eX4_weigh_173 hC ?_
            refine eX4_weigh_175 hC ?_
            refine eX4_weigh_176 hC (fun _ => ?_) (fun zz => absurd zti_gt zz)
            refine eX4_weigh_243 hC ?_
            rw [nI_sub (by omega)]
            refine eX4_weigh_246 hC ?_
            exact zV.fg (by simp [zFg]) (ih (e - 1) μ2 (by omega) (by omega) hsm2 (fun v hv3 => hB1 v hv3 hv3))
          | succ d2 ih2 =>
            intro u μ2 hu hsm2 hB1 hB2
            have hag2 := hsm2.ag
            have hv2 := hv.ag hag2 (by omega)
            have hst2 : μ2 t 6 = nI (τ 84) := hv2.2.2 6 (by omega) (by omega)
            have hcae := zca_b0 (τ := τ) (P := P) (f := decide (b = i)) (b := b) (i := i) (t := u) (e := e)
            have hbe := hbd u e (by omega) her
            have c219 : ∀ (x10 : Int32) (st : Nat), zca τ P (decide (b = i)) b i u e = zb0 τ P (decide (b = i)) b i e + st → zV x 0 0 219 [some (.ref o), some (.int (nI b)), some (.int (nI i)), some (.int (nI P)), some (.int (zwi τ b i)), some (.int (nI e)), some (.int (nI (zwd τ i e))), some (.int (nI (ztt τ P (decide (b = i)) b i e) - nI 1)), some (.int (nI (zb0 τ P (decide (b = i)) b i e))), some (.int (nI u - nI 1)), some (.int x10), some (.int (nI st))] [] K μ2 := by
              intro x10 st hst3
              refine eX4_weigh_219 hC ?_
              refine eX4_weigh_220 hC ?_
              refine eX4_weigh_221 hC ?_
              refine eX4_weigh_222 hC ?_
              refine eX4_weigh_224 hC (Nat.le_of_ble_eq_true rfl) (Nat.le_of_ble_eq_true rfl) (Nat.le_of_ble_eq_true rfl) (vX4_slot hC.nt (by omega) (by omega) (by omega)) (zk_i ?_)
              refine eX4_weigh_227 hC ?_
              refine eX4_weigh_229 hC ?_
              refine eX4_weigh_231 hC ?_
              rw [nI_add, ← hst3]
              refine eX4_weigh_232 hC ?_
              refine eX4_weigh_234 hC (Nat.le_of_ble_eq_true rfl) (Nat.le_of_ble_eq_true rfl) (Nat.le_of_ble_eq_true rfl) (by first | assumption | exact zOpt.o (by assumption)) (vX4_offer hC.nt hO (zsl_lt hbi (by omega) (by omega))) (zk_w (fun μ_234 m_234 => ?_))
              refine eX4_weigh_237 hC ?_
              rw [zti_succ (by omega)]
              refine eX4_weigh_240 hC ?_
              refine zV.fg (by simp [zFg]) (ih2 (u + 1) μ_234 (by omega) ?_ (fun v v1 v2 => ?_) (fun v v1 v2 => ?_))
              · rw [m_234]
                split
                · exact (hsm2.up (by omega) (Or.inl rfl)).up (by omega) (Or.inr rfl)
                · exact hsm2
              · by_cases hvu : v = u
                · subst hvu
                  have hz := zBt_step (hB2 v v1 (Nat.le_refl _)) (by omega) her (fun k k1 k2 => hbd v k (by omega) k2)
                  rw [m_234]
                  split
                  · rename_i hc
                    rw [if_pos hc, if_pos hc] at hz
                    rw [zup_a _ _ _ _ (show o + 2 ≠ o + 4 by omega), zup_self, zup_self]
                    exact hz
                  · rename_i hc
                    rw [if_neg hc, if_neg hc] at hz
                    exact hz
                · have hz := hB1 v v1 (by omega)
                  have hne : zsl b i v ≠ zsl b i u := fun q => hvu (zsl_inj hbi hbi v1 (by omega) q).2.2
                  rw [m_234]
                  split
                  · rw [zup_a _ _ _ _ (show o + 2 ≠ o + 4 by omega), zup_k _ _ _ hne, zup_k _ _ _ hne, zup_a _ _ _ _ (show o + 4 ≠ o + 2 by omega)]
                    exact hz
                  · exact hz
              · have hz := hB2 v v1 (by omega)
                have hne : zsl b i v ≠ zsl b i u := fun q => by
                  have := (zsl_inj hbi hbi v1 (by omega) q).2.2
                  omega
                rw [m_234]
                split
                · rw [zup_a _ _ _ _ (show o + 2 ≠ o + 4 by omega), zup_k _ _ _ hne, zup_k _ _ _ hne, zup_a _ _ _ _ (show o + 4 ≠ o + 2 by omega)]
                  exact hz
                · exact hz
            by_cases c1 : ztt τ P (decide (b = i)) b i e = 1
            · have hn : ¬ (ztt τ P (decide (b = i)) b i e ≠ 1 ∧ ztt τ P (decide (b = i)) b i e = u) := fun q => q.1 c1
              rw [if_neg hn] at hcae
              have c219' := c219 (nI 0) 0 hcae
              rw [c1] at c219' ⊢
              refine eX4_weigh_173 hC ?_
              refine eX4_weigh_175 hC ?_
              refine eX4_weigh_176 hC (fun zz => absurd zz (zti_le (by omega))) (fun _ => ?_)
              refine eX4_weigh_179 hC ?_
              refine eX4_weigh_181 hC (fun _ => ?_) (fun zz => absurd (by decide) zz)
              refine eX4_weigh_195 hC ?_
              refine eX4_weigh_196 hC ?_
              refine eX4_weigh_198 hC ?_
              refine eX4_weigh_200 hC (fun _ => ?_) (fun zz => absurd zn00 zz)
              refine eX4_weigh_216 hC ?_
              refine eX4_weigh_217 hC ?_
              exact c219'
            · by_cases c2 : ztt τ P (decide (b = i)) b i e = u
              · rw [if_pos ⟨c1, c2⟩] at hcae
                have c219' := c219 (nI 1) (64 * τ 84) hcae
                rw [c2] at c219' c1 ⊢
                refine eX4_weigh_173 hC ?_
                refine eX4_weigh_175 hC ?_
                refine eX4_weigh_176 hC (fun zz => absurd zz (zti_le (by omega))) (fun _ => ?_)
                refine eX4_weigh_179 hC ?_
                refine eX4_weigh_181 hC (fun zz => absurd zz (zti_0 (by omega) c1)) (fun _ => ?_)
                refine eX4_weigh_184 hC ?_
                refine eX4_weigh_186 hC ?_
                refine eX4_weigh_188 hC (fun zz => absurd rfl zz) (fun _ => ?_)
                refine eX4_weigh_191 hC ?_
                refine eX4_weigh_192 hC ?_
                refine eX4_weigh_196 hC ?_
                refine eX4_weigh_198 hC ?_
                refine eX4_weigh_200 hC (fun zz => absurd zz zn10) (fun _ => ?_)
                refine eX4_weigh_203 hC ?_
                refine eX4_weigh_205 hC ?_
                refine eX4_weigh_206 hC (by assumption) (by assumption) ?_
                refine eX4_weigh_209 hC (by assumption) ?_
                refine eX4_weigh_212 hC ?_
                rw [hst2, pk_mul]
                refine eX4_weigh_213 hC ?_
                refine eX4_weigh_217 hC ?_
                exact c219'
              · have hn : ¬ (ztt τ P (decide (b = i)) b i e ≠ 1 ∧ ztt τ P (decide (b = i)) b i e = u) := fun q => c2 q.2
                rw [if_neg hn] at hcae
                have c219' := c219 (nI 0) 0 hcae
                refine eX4_weigh_173 hC ?_
                refine eX4_weigh_175 hC ?_
                refine eX4_weigh_176 hC (fun zz => absurd zz (zti_le (by omega))) (fun _ => ?_)
                refine eX4_weigh_179 hC ?_
                refine eX4_weigh_181 hC (fun zz => absurd zz (zti_0 htt c1)) (fun _ => ?_)
                refine eX4_weigh_184 hC ?_
                refine eX4_weigh_186 hC ?_
                refine eX4_weigh_188 hC (fun _ => ?_) (fun zz => absurd zz (fun q => c2 (zti_inj htt (by omega) q)))
                refine eX4_weigh_195 hC ?_
                refine eX4_weigh_196 hC ?_
                refine eX4_weigh_198 hC ?_
                refine eX4_weigh_200 hC (fun _ => ?_) (fun zz => absurd zn00 zz)
                refine eX4_weigh_216 hC ?_
                refine eX4_weigh_217 hC ?_
                exact c219'
        refine eX4_weigh_170 hC ?_
        refine eX4_weigh_171 hC ?_
        exact loopC 3 0 μ1 (by omega) hsm (fun v v1 v2 => by omega) (fun v v1 v2 => hB v v1)
      by_cases ceP : e = P
      · have hz0 : zb0 τ P (decide (b = i)) b i e = 64 * (if ¬ (b = i) ∧ 4 * zwd τ i e < τ 81 then τ 85 else 0) + 1 := by
          unfold zb0; rw [if_pos ceP]; simp
        have htt1 : ztt τ P (decide (b = i)) b i e = 1 := by unfold ztt; rw [if_pos ceP]
        rw [hz0, htt1] at tail
        generalize hL : (if ¬ (b = i) ∧ 4 * zwd τ i e < τ 81 then τ 85 else 0) = Lz at tail
        by_cases cbi : b = i
        · refine eX4_weigh_55 hC ?_
          refine eX4_weigh_57 hC ?_
          refine eX4_weigh_58 hC (fun zz => absurd zz (nI_ge (by omega) (by omega))) (fun _ => ?_)
          refine eX4_weigh_61 hC ?_
          refine eX4_weigh_62 hC (by assumption) (by assumption) ?_
          refine eX4_weigh_65 hC ?_
          refine eX4_weigh_66 hC ?_
          refine eX4_weigh_68 hC (Nat.le_of_ble_eq_true rfl) (Nat.le_of_ble_eq_true rfl) (Nat.le_of_ble_eq_true rfl) (by first | assumption | exact zFit.o (by assumption)) (vX1_widthBetween hC.nt hF' hT' hv1 hs11 o1 (by omega) (by omega)) (zk_i ?_)
          rw [zwi_eq (i := i) (j := e) (by omega)]
          refine eX4_weigh_71 hC ?_
          refine eX4_weigh_73 hC ?_
          refine eX4_weigh_74 hC ?_
          refine eX4_weigh_76 hC ?_
          refine eX4_weigh_77 hC ?_
          refine eX4_weigh_79 hC ?_
          refine eX4_weigh_81 hC ?_
          refine eX4_weigh_82 hC (fun zz => absurd (by rw [ceP]) zz) (fun _ => ?_)
          refine eX4_weigh_85 hC ?_
          refine eX4_weigh_87 hC ?_
          refine eX4_weigh_89 hC ?_
          refine eX4_weigh_90 hC (by assumption) (by assumption) ?_
          refine eX4_weigh_93 hC ?_
          refine eX4_weigh_95 hC ?_
          refine eX4_weigh_96 hC ?_
          refine eX4_weigh_97 hC (fun zz => absurd (by rw [cbi]) zz) (fun _ => ?_)
          refine eX4_weigh_100 hC ?_
          refine eX4_weigh_101 hC ?_
          refine eX4_weigh_105 hC (Nat.le_of_ble_eq_true rfl) (Nat.le_of_ble_eq_true rfl) (Nat.le_of_ble_eq_true rfl) (by first | assumption | exact zTxt.o (by assumption)) (vX7_lastLineCost (f := b = i) hC.nt hT' hv1 (by omega) (by omega) (zBv_t cbi).symm) (zk_i ?_)
          rw [hL]
          refine eX4_weigh_108 hC ?_
          rw [pk_mul]
          refine eX4_weigh_109 hC ?_
          rw [nI_add, Nat.add_comm 1]
          refine eX4_weigh_110 hC ?_
          refine eX4_weigh_112 hC ?_
          exact tail
        · refine eX4_weigh_55 hC ?_
          refine eX4_weigh_57 hC ?_
          refine eX4_weigh_58 hC (fun zz => absurd zz (nI_ge (by omega) (by omega))) (fun _ => ?_)
          refine eX4_weigh_61 hC ?_
          refine eX4_weigh_62 hC (by assumption) (by assumption) ?_
          refine eX4_weigh_65 hC ?_
          refine eX4_weigh_66 hC ?_
          refine eX4_weigh_68 hC (Nat.le_of_ble_eq_true rfl) (Nat.le_of_ble_eq_true rfl) (Nat.le_of_ble_eq_true rfl) (by first | assumption | exact zFit.o (by assumption)) (vX1_widthBetween hC.nt hF' hT' hv1 hs11 o1 (by omega) (by omega)) (zk_i ?_)
          rw [zwi_eq (i := i) (j := e) (by omega)]
          refine eX4_weigh_71 hC ?_
          refine eX4_weigh_73 hC ?_
          refine eX4_weigh_74 hC ?_
          refine eX4_weigh_76 hC ?_
          refine eX4_weigh_77 hC ?_
          refine eX4_weigh_79 hC ?_
          refine eX4_weigh_81 hC ?_
          refine eX4_weigh_82 hC (fun zz => absurd (by rw [ceP]) zz) (fun _ => ?_)
          refine eX4_weigh_85 hC ?_
          refine eX4_weigh_87 hC ?_
          refine eX4_weigh_89 hC ?_
          refine eX4_weigh_90 hC (by assumption) (by assumption) ?_
          refine eX4_weigh_93 hC ?_
          refine eX4_weigh_95 hC ?_
          refine eX4_weigh_96 hC ?_
          refine eX4_weigh_97 hC (fun _ => ?_) (fun zz => absurd zz (fun q => cbi (nI_inj (by omega) (by omega) q)))
          refine eX4_weigh_104 hC ?_
          refine eX4_weigh_105 hC (Nat.le_of_ble_eq_true rfl) (Nat.le_of_ble_eq_true rfl) (Nat.le_of_ble_eq_true rfl) (by first | assumption | exact zTxt.o (by assumption)) (vX7_lastLineCost (f := b = i) hC.nt hT' hv1 (by omega) (by omega) (zBv_f cbi).symm) (zk_i ?_)
          rw [hL]
          refine eX4_weigh_108 hC ?_
          rw [pk_mul]
          refine eX4_weigh_109 hC ?_
          rw [nI_add, Nat.add_comm 1]
          refine eX4_weigh_110 hC ?_
          refine eX4_weigh_112 hC ?_
          exact tail
      · have hz0 : zb0 τ P (decide (b = i)) b i e = 64 * ((τ 81 - zwd τ i e) * (τ 81 - zwd τ i e)) + 1 + zsc τ P i e (ztt τ P (decide (b = i)) b i e) := by
          unfold zb0; rw [if_neg ceP]
        have htt := ztt_le τ P (decide (b = i)) b i e
        have hsq := hsc e (ztt τ P (decide (b = i)) b i e) (by omega) her (by omega) (by omega)
        rw [← hsm.far (a := o + 2) hbi (show i ≤ e by omega) (Or.inl (by omega)) (by omega)] at hsq
        have hsr : zrd 2460 (μ1 (o + 1 + 1)) (nI (zsl i e (ztt τ P (decide (b = i)) b i e))) = nI (zsc τ P i e (ztt τ P (decide (b = i)) b i e)) := by
          rw [zrd_in (zsl_lt (by omega) (by omega) (by omega)) (by omega)]; exact hsq
        have c135 : zV x 0 0 135 [some (.ref o), some (.int (nI b)), some (.int (nI i)), some (.int (nI P)), some (.int (zwi τ b i)), some (.int (nI e)), some (.int (nI (zwd τ i e))), some (.int (nI 0)), some (.int (nI 1)), none, none, none] [.int (nI (ztt τ P (decide (b = i)) b i e) - nI 1)] K μ1 := by
          refine eX4_weigh_135 hC ?_
          refine eX4_weigh_137 hC ?_
          refine eX4_weigh_139 hC ?_
          refine eX4_weigh_141 hC ?_
          refine eX4_weigh_142 hC (by assumption) (by assumption) ?_
          refine eX4_weigh_145 hC ?_
          refine eX4_weigh_147 hC (Nat.le_of_ble_eq_true rfl) (Nat.le_of_ble_eq_true rfl) (Nat.le_of_ble_eq_true rfl) (by first | assumption | exact zTxt.o (by assumption)) (vX7_slackCost hC.nt hT' hv1 hw) (zk_i ?_)
          refine eX4_weigh_150 hC ?_
          refine eX4_weigh_151 hC ?_
          refine eX4_weigh_152 hC (by assumption) (by assumption) ?_
          refine eX4_weigh_155 hC ?_
          refine eX4_weigh_156 hC ?_
          refine eX4_weigh_158 hC ?_
          refine eX4_weigh_160 hC (Nat.le_of_ble_eq_true rfl) (Nat.le_of_ble_eq_true rfl) (Nat.le_of_ble_eq_true rfl) (vX4_slot hC.nt (by omega) (by omega) (by omega)) (zk_i ?_)
          refine eX4_weigh_163 hC (Nat.le_of_ble_eq_true rfl) (Nat.le_of_ble_eq_true rfl) (Nat.le_of_ble_eq_true rfl) (by first | assumption | exact zRow.o (by assumption)) (vX6_at hC.nt h6) (zk_i ?_)
          rw [hsr, pk_mul]
          refine eX4_weigh_166 hC ?_
          rw [nI_add]
          refine eX4_weigh_167 hC ?_
          rw [nI_add]
          refine eX4_weigh_168 hC ?_
          rw [show 1 + (64 * ((τ 81 - zwd τ i e) * (τ 81 - zwd τ i e)) + zsc τ P i e (ztt τ P (decide (b = i)) b i e)) = zb0 τ P (decide (b = i)) b i e by rw [hz0]; omega]
          exact tail
        by_cases cbi : b = i
        · have htt1 : ztt τ P (decide (b = i)) b i e = 1 := by unfold ztt; rw [if_neg ceP]; simp [cbi]
          rw [htt1] at c135
          refine eX4_weigh_55 hC ?_
          refine eX4_weigh_57 hC ?_
          refine eX4_weigh_58 hC (fun zz => absurd zz (nI_ge (by omega) (by omega))) (fun _ => ?_)
          refine eX4_weigh_61 hC ?_
          refine eX4_weigh_62 hC (by assumption) (by assumption) ?_
          refine eX4_weigh_65 hC ?_
          refine eX4_weigh_66 hC ?_
          refine eX4_weigh_68 hC (Nat.le_of_ble_eq_true rfl) (Nat.le_of_ble_eq_true rfl) (Nat.le_of_ble_eq_true rfl) (by first | assumption | exact zFit.o (by assumption)) (vX1_widthBetween hC.nt hF' hT' hv1 hs11 o1 (by omega) (by omega)) (zk_i ?_)
          rw [zwi_eq (i := i) (j := e) (by omega)]
          refine eX4_weigh_71 hC ?_
          refine eX4_weigh_73 hC ?_
          refine eX4_weigh_74 hC ?_
          refine eX4_weigh_76 hC ?_
          refine eX4_weigh_77 hC ?_
          refine eX4_weigh_79 hC ?_
          refine eX4_weigh_81 hC ?_
          refine eX4_weigh_82 hC (fun _ => ?_) (fun zz => absurd zz (fun q => ceP (nI_inj (by omega) (by omega) q)))
          refine eX4_weigh_115 hC ?_
          refine eX4_weigh_116 hC ?_
          refine eX4_weigh_117 hC (fun zz => absurd (by rw [cbi]) zz) (fun _ => ?_)
          refine eX4_weigh_120 hC ?_
          refine eX4_weigh_121 hC ?_
          exact c135
        · have htt1 : ztt τ P (decide (b = i)) b i e = ztn τ (zwd τ b i) (zwd τ i e) := by unfold ztt; rw [if_neg ceP]; simp [cbi]
          have hw2 := zwd_le ho (i := b) (j := i) (by omega)
          rw [htt1] at c135
          refine eX4_weigh_55 hC ?_
          refine eX4_weigh_57 hC ?_
          refine eX4_weigh_58 hC (fun zz => absurd zz (nI_ge (by omega) (by omega))) (fun _ => ?_)
          refine eX4_weigh_61 hC ?_
          refine eX4_weigh_62 hC (by assumption) (by assumption) ?_
          refine eX4_weigh_65 hC ?_
          refine eX4_weigh_66 hC ?_
          refine eX4_weigh_68 hC (Nat.le_of_ble_eq_true rfl) (Nat.le_of_ble_eq_true rfl) (Nat.le_of_ble_eq_true rfl) (by first | assumption | exact zFit.o (by assumption)) (vX1_widthBetween hC.nt hF' hT' hv1 hs11 o1 (by omega) (by omega)) (zk_i ?_)
          rw [zwi_eq (i := i) (j := e) (by omega)]
          refine eX4_weigh_71 hC ?_
          refine eX4_weigh_73 hC ?_
          refine eX4_weigh_74 hC ?_
          refine eX4_weigh_76 hC ?_
          refine eX4_weigh_77 hC ?_
          refine eX4_weigh_79 hC ?_
          refine eX4_weigh_81 hC ?_
          refine eX4_weigh_82 hC (fun _ => ?_) (fun zz => absurd zz (fun q => ceP (nI_inj (by omega) (by omega) q)))
          refine eX4_weigh_115 hC ?_
          refine eX4_weigh_116 hC ?_
          refine eX4_weigh_117 hC (fun _ => ?_) (fun zz => absurd zz (fun q => cbi (nI_inj (by omega) (by omega) q)))
          refine eX4_weigh_124 hC ?_
          refine eX4_weigh_125 hC (by assumption) (by assumption) ?_
          refine eX4_weigh_128 hC ?_
          refine eX4_weigh_130 hC ?_
          rw [zwi_eq (i := b) (j := i) (by omega)]
          refine eX4_weigh_132 hC (Nat.le_of_ble_eq_true rfl) (Nat.le_of_ble_eq_true rfl) (Nat.le_of_ble_eq_true rfl) (by first | assumption | exact zTxt.o (by assumption)) (vX7_turn hC.nt hT' hv1 (by omega) (by omega) (by have := ho.2.2.2.2.2.1; omega)) (zk_i ?_)
          rw [zwi_eq (i := b) (j := i) (by omega)] at c135
          exact c135
  have loopA : ∀ (d u : Nat) (μ1 : zF), u + d = 3 → zSm μ μ1 o b i → (∀ v, v < u → μ1 (o + 2) (zsl b i v) = 2147483647) → zV x 0 0 3 [some (.ref o), some (.int (nI b)), some (.int (nI i)), some (.int (nI P)), some (.int (nI u - nI 1)), none, none, none, none, none, none, none] [] K μ1 := by
    intro d
    induction d with
    | zero =>
      intro u μ1 hu hsm hm
      have hu : u = 3 := by omega
      subst hu
      have hag := hsm.ag
      have hv1 := hv.ag hag (by omega)
      have hs11 := hs1.ag hag (by omega)
      have hs21 := hs2.ag hag (by omega)
      refine eX4_weigh_3 hC ?_
      refine eX4_weigh_5 hC ?_
      refine eX4_weigh_6 hC (fun _ => ?_) (fun zz => absurd zti_gt zz)
      refine eX4_weigh_31 hC ?_
      refine eX4_weigh_32 hC (by assumption) (by assumption) ?_
      refine eX4_weigh_35 hC ?_
      refine eX4_weigh_36 hC ?_
      refine eX4_weigh_37 hC (Nat.le_of_ble_eq_true rfl) (Nat.le_of_ble_eq_true rfl) (Nat.le_of_ble_eq_true rfl) (by first | assumption | exact zFit.o (by assumption)) (vX1_widthBetween hC.nt hF' hT' hv1 hs11 o1 (by omega) (by omega)) (zk_i ?_)
      refine eX4_weigh_40 hC ?_
      refine eX4_weigh_42 hC ?_
      refine eX4_weigh_43 hC (by assumption) (by assumption) ?_
      refine eX4_weigh_46 hC (by assumption) (by assumption) ?_
      refine eX4_weigh_49 hC ?_
      refine eX4_weigh_50 hC (Nat.le_of_ble_eq_true rfl) (Nat.le_of_ble_eq_true rfl) (Nat.le_of_ble_eq_true rfl) (by first | assumption | exact zRow.o (by assumption)) (vX6_at hC.nt f5) (zk_i ?_)
      rw [zrd_in (by omega) (by omega), show q + 3 + 1 = q + 4 by omega, hs21 i (by omega)]
      refine eX4_weigh_53 hC ?_
      exact loopB (zrc τ i - i) (zrc τ i) μ1 (by omega) (Nat.le_refl _) hsm (fun u hu => Or.inl ⟨rfl, hm u hu⟩)
    | succ d ih =>
      intro u μ1 hu hsm hm
      refine eX4_weigh_3 hC ?_
      refine eX4_weigh_5 hC ?_
      refine eX4_weigh_6 hC (fun zz => absurd zz (zti_le (by omega))) (fun _ => ?_)
      refine eX4_weigh_9 hC ?_
      refine eX4_weigh_10 hC (by assumption) (by assumption) ?_
      refine eX4_weigh_13 hC ?_
      refine eX4_weigh_14 hC ?_
      refine eX4_weigh_15 hC ?_
      refine eX4_weigh_17 hC (Nat.le_of_ble_eq_true rfl) (Nat.le_of_ble_eq_true rfl) (Nat.le_of_ble_eq_true rfl) (vX4_slot hC.nt (by omega) (by omega) (by omega)) (zk_i ?_)
      refine eX4_weigh_20 hC ?_
      refine eX4_weigh_22 hC (Nat.le_of_ble_eq_true rfl) (Nat.le_of_ble_eq_true rfl) (Nat.le_of_ble_eq_true rfl) (by first | assumption | exact zRow.o (by assumption)) (vX6_put hC.nt h6) (zk_w (fun μ_22 m_22 => ?_))
      rw [zpt_in (zsl_lt hbi (by omega) (by omega)) (by omega)] at m_22
      refine eX4_weigh_25 hC ?_
      rw [zti_succ (by omega)]
      refine eX4_weigh_28 hC ?_
      refine ih (u + 1) μ_22 (by omega) ?_ (fun v hvu => ?_)
      · rw [m_22]; exact hsm.up (by omega) (Or.inl rfl)
      · rw [m_22]
        by_cases c : v = u
        · subst c; exact zup_self _ _ _ _
        · rw [show o + 2 = o + 1 + 1 by omega, zup_k _ _ _ (fun q => c (zsl_inj hbi hbi (by omega) (by omega) q).2.2)]
          exact hm v (by omega)
  refine eX4_weigh_0 hC ?_
  refine eX4_weigh_1 hC ?_
  exact loopA 3 0 μ (by omega) (zSm.refl _ _ _ _) (fun v hvu => by omega)
