/-! ===== what stands behind place 85 of a text tells nothing of its lines ===== -/
def zSa (τ τ' : Nat → Nat) : Prop := ∀ k, k < 86 → τ' k = τ k
theorem zSa.n {τ τ' : Nat → Nat} (h : zSa τ τ') : τ' 80 = τ 80 := h 80 (by omega)
theorem zSa.sm {τ τ' : Nat → Nat} (h : zSa τ τ') : ∀ k, k ≤ 86 → zsm τ' k = zsm τ k
  | 0, _ => rfl
  | k + 1, hk => by
    show zsm τ' k + τ' k = zsm τ k + τ k
    rw [zSa.sm h k (by omega), h k (by omega)]
theorem zSa.wd {τ τ' : Nat → Nat} (h : zSa τ τ') {i j : Nat} (hi : i ≤ 86) (hj : j ≤ 86) : zwd τ' i j = zwd τ i j := by
  unfold zwd
  rw [h.sm i hi, h.sm j hj, h 82 (by omega)]
theorem zSa.pe {τ τ' : Nat → Nat} (h : zSa τ τ') {k : Nat} (hk : k < 46) : zpe τ' k ↔ zpe τ k := by
  unfold zpe
  rw [h (40 + k) (by omega), h.n]
theorem zSa.ps {τ τ' : Nat → Nat} (h : zSa τ τ') {i : Nat} (hi : i ≤ 46) : zps τ' i ↔ zps τ i := by
  unfold zps
  rw [h.pe (by omega)]
theorem zSa.go {τ τ' : Nat → Nat} (h : zSa τ τ') (hn : τ 80 ≤ 40) {i e : Nat} (hi : i ≤ 40) : zgo τ' i e ↔ zgo τ i e := by
  unfold zgo
  rw [h.n, h 81 (by omega)]
  by_cases c : e < τ 80
  · rw [h (40 + (e - 1)) (by omega), h.wd (by omega) (by omega)]
  · exact ⟨fun q => absurd q.1 c, fun q => absurd q.1 c⟩
theorem zSa.rc {τ τ' : Nat → Nat} (h : zSa τ τ') (hn : τ 80 ≤ 40) {i : Nat} (hi : i ≤ 40) : zrc τ' i = zrc τ i := by
  unfold zrc
  rw [h.n, show (fun e => ¬ zgo τ' i e) = (fun e => ¬ zgo τ i e) from funext fun e => propext (not_congr (h.go hn hi))]
theorem zSa.pd {τ τ' : Nat → Nat} (h : zSa τ τ') (hn : τ 80 ≤ 40) {i : Nat} (hi : i < τ 80) : zpd τ' i = zpd τ i := by
  obtain ⟨p1, p2, p3, p4⟩ := zpd_is hi
  exact zpd_eq p1 (by rw [h.n]; exact p2) ((h.pe (by omega)).mpr p3) (fun k h1 h2 q => p4 k h1 h2 ((h.pe (by omega)).mp q))
theorem zSa.tn {τ τ' : Nat → Nat} (h : zSa τ τ') (a b : Nat) : ztn τ' a b = ztn τ a b := by
  unfold ztn
  rw [h 83 (by omega)]
theorem zSa.cd {τ τ' : Nat → Nat} (h : zSa τ τ') {P : Nat} {s s' : Nat → Nat → Nat → Nat} {f : Bool} {b i t j : Nat} (hb : b ≤ 40) (hi : i ≤ 40) (hj : j ≤ 40) (hs : j ≠ P → ∀ u, s' i j u = s i j u) : zcd τ' P s' f b i t j = zcd τ P s f b i t j := by
  rw [zcd_congr hs]
  unfold zcd
  rw [h.wd (i := i) (j := j) (by omega) (by omega), h.wd (i := b) (j := i) (by omega) (by omega), h 81 (by omega), h 84 (by omega), h 85 (by omega), h.tn]
theorem zSa.sr {τ τ' : Nat → Nat} (h : zSa τ τ') (hn : τ 80 ≤ 40) {P : Nat} (hP : P ≤ τ 80) (hpd : ∀ i, i < P → zrc τ i ≤ P) : ∀ (q b i t : Nat), b ≤ 40 → i < P → zsr τ' P q b i t = zsr τ P q b i t
  | 0, b, i, t, _, _ => rfl
  | q + 1, b, i, t, hb, hi => by
    have hr := hpd i hi
    obtain ⟨r1, -⟩ := zrc_is τ i
    have hc : ∀ e, i < e → e ≤ i + 1 + (zrc τ i - i - 1) → zcd τ' P (zsr τ' P q) false b i t e = zcd τ P (zsr τ P q) false b i t e := fun e h1 h2 => h.cd hb (by omega) (by omega) (fun hj u => zSa.sr h hn hP hpd q i e u (by omega) (by omega))
    show zcd τ' P (zsr τ' P q) false b i t (zbs (zcd τ' P (zsr τ' P q) false b i t) i (zrc τ' i - i - 1)) = zcd τ P (zsr τ P q) false b i t (zbs (zcd τ P (zsr τ P q) false b i t) i (zrc τ i - i - 1))
    rw [h.rc hn (by omega), zbs_congr _ hc]
    obtain ⟨g1, g2, -⟩ := zbs_is (zcd τ P (zsr τ P q) false b i t) i (zrc τ i - i - 1)
    exact hc _ g1 g2
theorem zSa.ca {τ τ' : Nat → Nat} (h : zSa τ τ') (hn : τ 80 ≤ 40) {P : Nat} (hP : P ≤ τ 80) (hpd : ∀ i, i < P → zrc τ i ≤ P) {f : Bool} {b i t j : Nat} (hb : b ≤ 40) (hi : i ≤ 40) (hj : j ≤ P) : zca τ' P f b i t j = zca τ P f b i t j := by
  unfold zca
  exact h.cd hb hi (by omega) (fun hne u => by
    unfold zsc
    exact h.sr hn hP hpd _ _ _ _ hi (by omega))
theorem zSa.ch {τ τ' : Nat → Nat} (h : zSa τ τ') (hn : τ 80 ≤ 40) {P : Nat} (hP : P ≤ τ 80) (hpd : ∀ i, i < P → zrc τ i ≤ P) {f : Bool} {b i t : Nat} (hb : b ≤ 40) (hi : i < P) : zch τ' P f b i t = zch τ P f b i t := by
  have hr := hpd i hi
  obtain ⟨r1, -⟩ := zrc_is τ i
  unfold zch
  rw [h.rc hn (by omega)]
  exact zbs_congr _ (fun e h1 h2 => h.ca hn hP hpd hb (by omega) (by omega))
theorem zSa.nx {τ τ' : Nat → Nat} (h : zSa τ τ') (hn : τ 80 ≤ 40) {m b i t : Nat} (hb : b ≤ 40) (hi : i < τ 80) : znx τ' m b i t = znx τ m b i t := by
  obtain ⟨p1, p2, p3, p4⟩ := zpd_is hi
  unfold znx
  rw [h.pd hn hi, h.rc hn (by omega), h.ch hn p2 (zpd_all hi) hb p1]
theorem zSa.st {τ τ' : Nat → Nat} (h : zSa τ τ') (hn : τ 80 ≤ 40) {m : Nat} : ∀ k, zst τ' m k = zst τ m k
  | 0 => rfl
  | k + 1 => by
    show znt τ' m (zst τ' m k).1 (zst τ' m k).2.1 (zst τ' m k).2.2 = znt τ m (zst τ m k).1 (zst τ m k).2.1 (zst τ m k).2.2
    rw [zSa.st h hn k]
    obtain ⟨b, i, t, hs⟩ : ∃ b i t, zst τ m k = (b, i, t) := ⟨_, _, _, rfl⟩
    rw [hs]
    show znt τ' m b i t = znt τ m b i t
    unfold znt
    rw [h.n]
    by_cases c : i < τ 80
    · rw [if_pos c, if_pos c]
      have hb : b ≤ i := by
        rcases (zst_inv hs c).2 with ⟨-, a2⟩ | ⟨-, a2, -⟩ <;> omega
      have h1 := znx_is (τ := τ) m b t c
      have h2 := zrc_le c
      rw [h.nx hn (by omega) c, show zps τ' (znx τ m b i t) = zps τ (znx τ m b i t) from propext (h.ps (by omega)), h.wd (i := i) (j := znx τ m b i t) (by omega) (by omega), h.wd (i := b) (j := i) (by omega) (by omega), h.tn]
    · rw [if_neg c, if_neg c]
theorem zSa.L {τ τ' : Nat → Nat} (h : zSa τ τ') (hn : τ 80 ≤ 40) (m : Nat) : zL τ' m = zL τ m := funext fun k => by
  unfold zL
  rw [h.st hn k]
theorem zSa.m {τ τ' : Nat → Nat} (h : zSa τ τ') (hn : τ 80 ≤ 40) (m : Nat) : zm τ' m = zm τ m := by
  unfold zm
  rw [h.L hn, h.n]
theorem zSa.lw {τ τ' : Nat → Nat} (h : zSa τ τ') (hn : τ 80 ≤ 40) (m j : Nat) : zlw τ' m j = zlw τ m j := by
  have h1 := zL_le τ m j
  have h2 := zL_le τ m (j + 1)
  unfold zlw
  rw [h.L hn]
  exact h.wd (by omega) (by omega)
theorem zSa.fp {τ τ' : Nat → Nat} (h : zSa τ τ') (hn : τ 80 ≤ 40) (m j : Nat) : zfp τ' m j = zfp τ m j := by
  have h1 := zL_le τ m j
  unfold zfp
  rw [h.L hn]
  exact propext (h.ps (by omega))
theorem zSa.lp {τ τ' : Nat → Nat} (h : zSa τ τ') (hn : τ 80 ≤ 40) (m j : Nat) : zlp τ' m j = zlp τ m j := by
  have h1 := zL_le τ m (j + 1)
  unfold zlp
  rw [h.L hn]
  exact propext (h.pe (by omega))
theorem zSa.sa {τ τ' : Nat → Nat} (h : zSa τ τ') (hn : τ 80 ≤ 40) (m j : Nat) : zsa τ' m j = zsa τ m j := by
  unfold zsa
  rw [h.fp hn, h.lp hn, h.lp hn, h.lw hn, h.lw hn, h.lw hn, h.tn, h.tn]
theorem zSa.lc {τ τ' : Nat → Nat} (h : zSa τ τ') (hn : τ 80 ≤ 40) (m j : Nat) : zlc τ' m j = zlc τ m j := by
  unfold zlc
  rw [h.fp hn, h.lp hn, h.lw hn, h 81 (by omega), h 85 (by omega)]
theorem zSa.tc {τ τ' : Nat → Nat} (h : zSa τ τ') (hn : τ 80 ≤ 40) (m : Nat) : ∀ j, ztc τ' m j = ztc τ m j
  | 0 => rfl
  | j + 1 => by
    show ztc τ' m j + zcs τ' m j = ztc τ m j + zcs τ m j
    unfold zcs
    rw [zSa.tc h hn m j, h.lc hn, h.sa hn, h 84 (by omega)]
theorem zSa.c1 {τ τ' : Nat → Nat} (h : zSa τ τ') (hn : τ 80 ≤ 40) (m : Nat) : zct1 τ' m = zct1 τ m := by
  unfold zct1
  rw [h.m hn, h.tc hn]
theorem zct1_87 {τ : Nat → Nat} (hn : τ 80 ≤ 40) (v m : Nat) : zct1 (zuf τ 87 v) m = zct1 τ m := zSa.c1 (fun k hk => by
  unfold zuf
  exact if_neg (by omega)) hn m
