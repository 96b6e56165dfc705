/-! ===== the start: what the tables say of it ===== -/
theorem z0_nf : ∀ w ∈ zNf.map (fun w => Cond.fieldLinkNest w.1 w.2.1 w.2.2.1 w.2.2.2.1 w.2.2.2.2 RX8), w ∈ lw_tbl := zin_by [56, 57, 59, 60, 61, 63, 64, 65, 67, 68, 69, 71, 72, 74, 76, 77, 78, 80, 82, 83, 85, 126, 127, 148, 164, 166, 168, 169, 194, 196, 198, 245] (by decide +kernel)
theorem z0_nm : ∀ w ∈ zNm.map (fun w => Cond.methodLinkNest w.1 w.2.1 w.2.2 RX8), w ∈ lw_tbl := zin_by [37, 212, 242] (by decide +kernel)
theorem z0_tx : ∀ w ∈ zTx.map (fun w => Cond.stringRef RX8 w.1 w.2), w ∈ lw_tbl := zin_by [402, 775, 347, 386] (by decide +kernel)
theorem z0_e3 : ∀ w ∈ zE3.map (fun w => Cond.castable w w), w ∈ lw_tbl := zin_by [308, 379, 395] (by decide +kernel)
theorem z0_dc : ∀ w ∈ zDc.map (fun w => Cond.declares w), w ∈ lw_tbl := zin_by [310, 312, 314] (by decide +kernel)
theorem z0_ao : Cond.arrayOver (.object RX7) ∈ lw_tbl := List.mem_of_getElem? (i := 241) (by decide +kernel)
theorem z0_l1 : Cond.laysStatic Bundle.tN "UNASSIGNED_STACK" Bundle.steD ∈ lw_tbl := List.mem_of_getElem? (i := 333) (by decide +kernel)
theorem z0_l2 : Cond.laysStatic Bundle.tN "SUPPRESSED_SENTINEL" Bundle.listD ∈ lw_tbl := List.mem_of_getElem? (i := 335) (by decide +kernel)
theorem z0_it : Cond.initialized Bundle.tN ∈ lw_tbl := List.mem_of_getElem? (i := 21) (by decide +kernel)
theorem z0_rl : Cond.initialized RL ∈ lw_tbl := List.mem_of_getElem? (i := 10) (by decide +kernel)
theorem z0_arr {s : State} {A : Array Value} {ty : FieldType} (h : (Cond.arrayClass ty).before A s = true) (hp : ∀ C, ty ≠ .object C) : ∃ cA : ClassId, ArrOfT s cA ty ∧ va_RA s cA ty := by
  obtain ⟨c, k, comp, h1, h2, h3⟩ := Cond.arrayClass_spec h
  refine ⟨c, fun n z => ⟨fun k h => (by cases h), k, h2, comp, h3⟩, ?_⟩
  cases ty <;> first | exact h1 | exact absurd rfl (hp _)
theorem z0_arrO {s : State} {A : Array Value} {C : String} (h : (Cond.arrayOver (.object C)).before A s = true) : ∃ cA : ClassId, ArrOfT s cA (.object C) ∧ va_RA s cA (.object C) := by
  obtain ⟨comp, c, k, h1, -, h3, h4, h5⟩ := Cond.arrayOver_spec h
  exact ⟨c, fun n z => ⟨fun k h => (by cases h), k, h3, comp, h4⟩, k, comp, h3, h4, h1, h5⟩
theorem z0_str {s : State} {A : Array Value} {C tx : String} {k cur : Nat} (hc : s.vm.findClass C = some cur) (h : (Cond.stringRef C k tx).before A s = true) : ∃ a, vk_R C k tx a s := by
  obtain ⟨-, -, -, a, -, -, -, -, -, he⟩ := Cond.stringRef_spec hc h
  exact ⟨a, vk_R.of h he⟩
set_option maxHeartbeats 2000000 in
theorem z0_st {b : Nat} {s : State} (hts : ∀ w ∈ lw_tbl, w.before #[Value.ref b] s = true) (hgv : (Jvm.Cond.and given_1 narrow_1).before #[Value.ref b] s = true) : ∃ g : zG, g.2.2 = s.heap.size ∧ zSt g s s.heap := by
  have hs := flat_of_before _ hgv
  have hin : ∀ w ∈ wsL_law, w.before #[Value.ref b] s = true := fun w h => hts w (wsL_law_in w h)
  obtain ⟨c0, i0, k0⟩ := u_known (C := RX0) (T := TX0) (N := 5) (n := 5) hin inlX0 (hin _ zw_25)
  obtain ⟨c1, i1, k1⟩ := u_known (C := RX1) (T := TX1) (N := 3) (n := 3) hin inlX1 (hin _ zw_68)
  obtain ⟨c2, i2, k2⟩ := u_known (C := RX2) (T := TX2) (N := 2) (n := 2) hin inlX2 (hin _ zw_29)
  obtain ⟨c3, i3, k3⟩ := u_known (C := RX3) (T := TX3) (N := 6) (n := 6) hin inlX3 (hin _ zw_15)
  obtain ⟨c4, i4, k4⟩ := u_known (C := RX4) (T := TX4) (N := 5) (n := 5) hin inlX4 (hin _ zw_72)
  obtain ⟨c5, i5, k5⟩ := u_known (C := RX5) (T := TX5) (N := 5) (n := 5) hin inlX5 (hin _ zw_19)
  obtain ⟨c6, i6, k6⟩ := u_known (C := RX6) (T := TX6) (N := 1) (n := 1) hin inlX6 (hin _ zw_37)
  obtain ⟨c7, i7, k7⟩ := u_known (C := RX7) (T := TX7) (N := 10) (n := 10) hin inlX7 (hin _ zw_11)
  obtain ⟨c8, i8, k8⟩ := u_known (C := RX8) (T := TX8) (N := 8) (n := 8) hin inlX8 (hin _ zw_1)
  obtain ⟨a0, A0⟩ := z0_arr (hin _ zw_3) (fun C h => nomatch h)
  obtain ⟨a4, A4⟩ := z0_arrO (hts _ z0_ao)
  refine ⟨((fun k => match k with | 0 => c0 | 1 => c1 | 2 => c2 | 3 => c3 | 4 => c4 | 5 => c5 | 6 => c6 | 7 => c7 | _ => c8, fun k => match k with | 0 => i0 | 1 => i1 | 2 => i2 | 3 => i3 | 4 => i4 | 5 => i5 | 6 => i6 | 7 => i7 | _ => i8), (fun k => match k with | 4 => a4 | _ => a0), s.heap.size), rfl, ⟨fun c q hq => ?_, fun k q hq => ?_⟩, Nat.le_refl _, ⟨vx_Zqof (hts _ z0_l1) (hts _ z0_it) (hs _ (by decide +kernel)) (fun a ha h => Nat.not_le.mpr ha h), vx_Zqof (hts _ z0_l2) (hts _ z0_it) (hs _ (by decide +kernel)) (fun a ha h => Nat.not_le.mpr ha h)⟩, fun w hw => va_Nw.of rfl (hts _ (z0_nf _ (List.mem_map.mpr ⟨w, hw, rfl⟩))), fun w hw => va_Nw.of rfl (hts _ (z0_nm _ (List.mem_map.mpr ⟨w, hw, rfl⟩))), fun w hw => z0_str k8.2.1 (hts _ (z0_tx _ (List.mem_map.mpr ⟨w, hw, rfl⟩))), fun w hw => ?_, fun w hw => zCa.of (hts _ (z0_e3 _ (List.mem_map.mpr ⟨w, hw, rfl⟩))), fun w hw => va_Nw.of rfl (hts _ (z0_dc _ (List.mem_map.mpr ⟨w, hw, rfl⟩))), va_AO.of (hts _ z0_ao)⟩
  · match c, hq with
    | 0, hq => cases hq; exact k0
    | 1, hq => cases hq; exact k1
    | 2, hq => cases hq; exact k2
    | 3, hq => cases hq; exact k3
    | 4, hq => cases hq; exact k4
    | 5, hq => cases hq; exact k5
    | 6, hq => cases hq; exact k6
    | 7, hq => cases hq; exact k7
    | 8, hq => cases hq; exact k8
    | c + 9, hq => exact absurd hq (by simp [vwCl])
  · match k, hq with
    | 0, hq => cases hq; exact A0
    | 1, hq => cases hq; exact A0
    | 2, hq => cases hq; exact A0
    | 3, hq => cases hq; exact A0
    | 4, hq => cases hq; exact A4
    | k + 5, hq => exact absurd hq (by simp [zTys])
  · rcases List.mem_cons.mp hw with rfl | hw
    · exact va_Nc.of (hs _ (by decide +kernel))
    · rcases List.mem_cons.mp hw with rfl | hw
      · exact va_Nc.of (hs _ (by decide +kernel))
      · rw [List.mem_singleton.mp hw]
        exact va_Nc.of (hs _ (by decide +kernel))
