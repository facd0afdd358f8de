/-! ===== a disk in the memory and its row: reading, and what the writes do to the row ===== -/
section T30
variable {I I' : Nat → Nat → Int32} {D : Nat → Int32}
theorem rp_m (h : Rep I 2 D) {j : Nat} (hj : j < 40) : I 3 j = D j := (h.1 j hj).1
theorem rp_s (h : Rep I 2 D) {j : Nat} (hj : j < 40) (c : D j ≠ 0) : I 4 j = D (40 + j) := (h.1 j hj).2.1 c
theorem rp_l (h : Rep I 2 D) {j : Nat} (hj : j < 40) (c : D j = 1) : I 5 j = D (80 + j) := (h.1 j hj).2.2.1 c
theorem rp_n (h : Rep I 2 D) {j : Nat} (hj : j < 40) : I 6 j = D (120 + j) := (h.1 j hj).2.2.2.1
theorem rp_o (h : Rep I 2 D) {j : Nat} (hj : j < 40) : I 7 j = D (160 + j) := (h.1 j hj).2.2.2.2
theorem rp_f (h : Rep I 2 D) {n : Nat} (hn : n < 30) : I 8 n = D (200 + n) := h.2.1 n hn
theorem rp_z (h : Rep I 2 D) : I 9 3 = D 248 := h.2.2.1
theorem rp_j (h : Rep I 2 D) {k : Nat} (hk : k < 6) (hz : k < zD D) : I 10 k = D (230 + 3 * k) ∧ I 11 k = D (231 + 3 * k) ∧ I 12 k = D (232 + 3 * k) := h.2.2.2.1 k hk hz
theorem rp_w (h : Rep I 2 D) : I 2 7 = D 249 ∧ I 2 8 = D 250 ∧ I 2 9 = D 251 := h.2.2.2.2
theorem rp_fr (h : Rep I 2 D) : ∀ j, j < 40 → frP I j = fD D j := fun j hj => by
  unfold frP fD
  rw [rp_o h hj]
theorem wf_z (h : wfD D) : D 248 = nI (zD D) ∧ zD D ≤ 6 := ⟨h.2.2.1, h.2.2.2.1⟩
theorem wf_l (h : wfD D) {i : Nat} (hi : i < 40) (c : D i = 1) : D (80 + i) = nI (lnD D i) ∧ 1 ≤ lnD D i ∧ lnD D i ≤ 12 := by
  obtain ⟨l, l1, l2, e⟩ := (h.1 i hi).2.2.1 c
  unfold lnD
  rw [e, nI_clamp (by omega)]
  exact ⟨rfl, l1, l2⟩
theorem Rep_frame {b : Nat} (h : Rep I b D) (e : ∀ c, b ≤ c → c ≤ b + 10 → I' c = I c) : Rep I' b D := by
  unfold Rep at h ⊢
  rw [e b (by omega) (by omega), e (b + 1) (by omega) (by omega), e (b + 2) (by omega) (by omega), e (b + 3) (by omega) (by omega), e (b + 4) (by omega) (by omega), e (b + 5) (by omega) (by omega), e (b + 6) (by omega) (by omega), e (b + 7) (by omega) (by omega), e (b + 8) (by omega) (by omega), e (b + 9) (by omega) (by omega), e (b + 10) (by omega) (by omega)]
  exact h
theorem Rep_cop {a b : Nat} (hc : copC I I' a b) (h : Rep I b D) : Rep I' a D := by
  obtain ⟨c1, c2, c3, c4⟩ := hc
  unfold Rep at h ⊢
  rw [c1 1 (by omega), c1 2 (by omega), c1 3 (by omega), c1 4 (by omega), c1 5 (by omega), c1 6 (by omega), c1 8 (by omega), c1 9 (by omega), c1 10 (by omega), c2, c3 7 (by omega) (by omega), c3 8 (by omega) (by omega), c3 9 (by omega) (by omega)]
  exact h
theorem Rep_away {a b c : Nat} (hc : copC I I' a b) (h : Rep I c D) (hac : c + 10 < a ∨ a + 10 < c) : Rep I' c D :=
  Rep_frame h fun k h1 h2 => hc.2.2.2 k (by omega)
/-! laying -/
theorem ly_none {nm : Nat} {sty : Int32} {ps : List Nat} {j : Nat} (hj : j < 40) (c : ixL ps j = none) : laysD D nm sty ps j = D j ∧ laysD D nm sty ps (40 + j) = D (40 + j) ∧ laysD D nm sty ps (80 + j) = D (80 + j) ∧ laysD D nm sty ps (120 + j) = D (120 + j) ∧ laysD D nm sty ps (160 + j) = D (160 + j) := by
  unfold laysD
  rw [if_pos (by omega : j < 200), if_pos (by omega : 40 + j < 200), if_pos (by omega : 80 + j < 200), if_pos (by omega : 120 + j < 200), if_pos (by omega : 160 + j < 200), show j % 40 = j by omega, show (40 + j) % 40 = j by omega, show (80 + j) % 40 = j by omega, show (120 + j) % 40 = j by omega, show (160 + j) % 40 = j by omega, c]
  exact ⟨rfl, rfl, rfl, rfl, rfl⟩
theorem ly_some {nm : Nat} {sty : Int32} {ps : List Nat} {j k : Nat} (hj : j < 40) (c : ixL ps j = some k) : laysD D nm sty ps j = (if k = 0 then 1 else 2) ∧ laysD D nm sty ps (40 + j) = sty ∧ laysD D nm sty ps (80 + j) = nI ps.length ∧ laysD D nm sty ps (120 + j) = (if k + 1 < ps.length then nI (ps.getD (k + 1) 0) else -1) ∧ laysD D nm sty ps (160 + j) = nI nm := by
  unfold laysD
  rw [if_pos (by omega : j < 200), if_pos (by omega : 40 + j < 200), if_pos (by omega : 80 + j < 200), if_pos (by omega : 120 + j < 200), if_pos (by omega : 160 + j < 200), show j % 40 = j by omega, show (40 + j) % 40 = j by omega, show (80 + j) % 40 = j by omega, show (120 + j) % 40 = j by omega, show (160 + j) % 40 = j by omega, c]
  dsimp only
  rw [if_pos hj, if_neg (by omega : ¬ 40 + j < 40), if_pos (by omega : 40 + j < 80), if_neg (by omega : ¬ 80 + j < 40), if_neg (by omega : ¬ 80 + j < 80), if_pos (by omega : 80 + j < 120), if_neg (by omega : ¬ 120 + j < 40), if_neg (by omega : ¬ 120 + j < 80), if_neg (by omega : ¬ 120 + j < 120), if_pos (by omega : 120 + j < 160), if_neg (by omega : ¬ 160 + j < 40), if_neg (by omega : ¬ 160 + j < 80), if_neg (by omega : ¬ 160 + j < 120), if_neg (by omega : ¬ 160 + j < 160)]
  exact ⟨rfl, rfl, rfl, rfl, rfl⟩
theorem ly_hi {nm : Nat} {sty : Int32} {ps : List Nat} {i : Nat} (hi : 200 ≤ i) : laysD D nm sty ps i = if i = 200 + nm then nI (ps.getD 0 0) else D i := by
  unfold laysD
  rw [if_neg (by omega)]
theorem ly_zD {nm : Nat} (hnm : nm < 30) {sty : Int32} {ps : List Nat} : zD (laysD D nm sty ps) = zD D := by
  unfold zD
  rw [ly_hi (by omega), if_neg (by omega)]
theorem Rep_lay {nm : Nat} (hnm : nm < 30) {sty : Int32} {ps : List Nat} {P : Nat → Bool} (h : Rep I 2 D) (hl : layD I I' nm sty ps) (hp : rowOK P ps) (h1 : 1 ≤ ps.length) : Rep I' 2 (laysD D nm sty ps) := by
  obtain ⟨I1, ⟨c1, c2, c3, c4, c5⟩, rfl⟩ := hl
  have f5 : ∀ j, ui I1 5 (ps.getD 0 0) (nI ps.length) 3 j = I1 3 j ∧ ui I1 5 (ps.getD 0 0) (nI ps.length) 4 j = I1 4 j ∧ ui I1 5 (ps.getD 0 0) (nI ps.length) 6 j = I1 6 j ∧ ui I1 5 (ps.getD 0 0) (nI ps.length) 7 j = I1 7 j := fun j => ⟨by simp [ui], by simp [ui], by simp [ui], by simp [ui]⟩
  have g5 : ∀ c, c < 3 ∨ 8 < c → ui I1 5 (ps.getD 0 0) (nI ps.length) c = I c := fun c hc => by
    rw [← c5 c hc]
    funext y
    simp only [ui]
    rw [if_neg (by omega)]
  refine ⟨fun j hj => ?_, fun n hn => ?_, ?_, fun k hk hz => ?_, ?_⟩
  · show ui I1 5 (ps.getD 0 0) (nI ps.length) 3 j = _ ∧ (_ → ui I1 5 (ps.getD 0 0) (nI ps.length) 4 j = _) ∧ (_ → ui I1 5 (ps.getD 0 0) (nI ps.length) 5 j = _) ∧ ui I1 5 (ps.getD 0 0) (nI ps.length) 6 j = _ ∧ ui I1 5 (ps.getD 0 0) (nI ps.length) 7 j = _
    rw [(f5 j).1, (f5 j).2.1, (f5 j).2.2.1, (f5 j).2.2.2]
    cases hq : ixL ps j with
    | none =>
      obtain ⟨e1, e2, e3, e4, e5⟩ := ly_none (D := D) (nm := nm) (sty := sty) hj hq
      have hne := ixL_none hq
      obtain ⟨d1, d2, d3, d4⟩ := c2 j (fun i hi => (hne i hi).symm)
      have d5 : ui I1 5 (ps.getD 0 0) (nI ps.length) 5 j = I 5 j := by
        rw [← c4]
        simp only [ui]
        rw [if_neg (fun q => hne 0 (by omega) q.2.symm)]
      rw [e1, e2, e3, e4, e5, d1, d2, d3, d4, d5]
      exact ⟨rp_m h hj, fun c => rp_s h hj c, fun c => rp_l h hj c, rp_n h hj, rp_o h hj⟩
    | some k =>
      obtain ⟨k1, k2⟩ := ixL_some hq
      obtain ⟨e1, e2, e3, e4, e5⟩ := ly_some (D := D) (nm := nm) (sty := sty) hj hq
      obtain ⟨d1, d2, d3, d4⟩ := c1 k k1
      rw [k2] at d1 d2 d3 d4
      rw [e1, e2, e3, e4, e5]
      refine ⟨d1, fun _ => d2, fun c => ?_, d3, d4⟩
      by_cases k0 : k = 0
      · subst k0
        simp only [ui]
        rw [if_pos ⟨trivial, k2.symm⟩]
      · rw [if_neg k0] at c
        exact absurd c (by decide)
  · show ui I1 5 (ps.getD 0 0) (nI ps.length) 8 n = _
    rw [ly_hi (by omega)]
    have : ui I1 5 (ps.getD 0 0) (nI ps.length) 8 n = I1 8 n := by simp [ui]
    rw [this, c3 n]
    by_cases c : n = nm
    · rw [if_pos c, if_pos (by omega)]
    · rw [if_neg c, if_neg (by omega)]
      exact rp_f h hn
  · show ui I1 5 (ps.getD 0 0) (nI ps.length) 9 3 = _
    rw [g5 9 (by omega), ly_hi (by omega), if_neg (by omega)]
    exact rp_z h
  · rw [ly_zD hnm] at hz
    show ui I1 5 (ps.getD 0 0) (nI ps.length) 10 k = _ ∧ ui I1 5 (ps.getD 0 0) (nI ps.length) 11 k = _ ∧ ui I1 5 (ps.getD 0 0) (nI ps.length) 12 k = _
    rw [g5 10 (by omega), g5 11 (by omega), g5 12 (by omega), ly_hi (by omega), if_neg (by omega), ly_hi (by omega), if_neg (by omega), ly_hi (by omega), if_neg (by omega)]
    exact rp_j h hk hz
  · rw [g5 2 (by omega), ly_hi (by omega), if_neg (by omega), ly_hi (by omega), if_neg (by omega), ly_hi (by omega), if_neg (by omega)]
    exact rp_w h
/-! releasing -/
theorem rl_lo {nm i : Nat} (hi : i < 160) : relD D nm i = D i := by
  unfold relD
  rw [if_neg (by omega), if_neg (by omega), if_neg (by omega), if_neg (by omega), if_neg (by omega), if_neg (by omega), if_neg (by omega)]
theorem rl_ow {nm j : Nat} (hj : j < 40) : relD D nm (160 + j) = if D (160 + j) = nI nm then -1 else D (160 + j) := by
  unfold relD
  rw [if_pos (by omega)]
theorem rl_fi {nm n : Nat} (hn : n < 30) : relD D nm (200 + n) = if n = nm then -1 else D (200 + n) := by
  unfold relD
  rw [if_neg (by omega)]
  by_cases c : n = nm
  · rw [if_pos (by omega), if_pos c]
  · rw [if_neg (by omega), if_neg c, if_neg (by omega), if_neg (by omega), if_neg (by omega), if_neg (by omega), if_neg (by omega)]
theorem rl_z {nm : Nat} (hnm : nm < 30) : relD D nm 248 = nI (if 6 < zD D + 1 then 6 else zD D + 1) := by
  unfold relD
  rw [if_neg (by omega), if_neg (by omega), if_pos rfl]
theorem rl_zD {nm : Nat} (hnm : nm < 30) (hz : zD D ≤ 6) : zD (relD D nm) = if 6 < zD D + 1 then 6 else zD D + 1 := by
  have e : zD (relD D nm) = (relD D nm 248).toNatClampNeg := rfl
  rw [e, rl_z hnm, nI_clamp (by split <;> omega)]
theorem rl_j0 {nm : Nat} (hnm : nm < 30) : relD D nm 230 = nI nm ∧ relD D nm 231 = D (200 + nm) ∧ relD D nm 232 = D (40 + (D (200 + nm)).toNatClampNeg) := by
  unfold relD
  rw [if_neg (by omega), if_neg (by omega), if_neg (by omega), if_pos rfl, if_neg (by omega), if_neg (by omega), if_neg (by omega), if_neg (by omega), if_pos rfl, if_neg (by omega), if_neg (by omega), if_neg (by omega), if_neg (by omega), if_neg (by omega), if_pos rfl]
  exact ⟨rfl, rfl, rfl⟩
theorem rl_js {nm i : Nat} (hnm : nm < 30) (h1 : 233 ≤ i) (h2 : i < 248) : relD D nm i = D (i - 3) := by
  unfold relD
  rw [if_neg (by omega), if_neg (by omega), if_neg (by omega), if_neg (by omega), if_neg (by omega), if_neg (by omega), if_pos (by omega)]
theorem rl_hi {nm i : Nat} (hnm : nm < 30) (h1 : 249 ≤ i) : relD D nm i = D i := by
  unfold relD
  rw [if_neg (by omega), if_neg (by omega), if_neg (by omega), if_neg (by omega), if_neg (by omega), if_neg (by omega), if_neg (by omega)]
theorem Rep_rel {nm f : Nat} (hnm : nm < 30) (h : Rep I 2 D) (hw : wfD D) (hf : f < 40) (e1 : D (200 + nm) = nI f) (e2 : D f = 1) (hl : relC I I' nm ((ix 40 (I 8 nm)).elim (-1) fun j => if I 3 j = 0 then -1 else I 4 j) (zD D)) : Rep I' 2 (relD D nm) := by
  obtain ⟨I1, ⟨c1, c2, c3⟩, c4, c5, c6⟩ := hl
  rw [rp_f h hnm, e1, ix_n hf (by decide)] at c1
  simp only [Option.elim_some] at c1
  rw [rp_m h hf, e2, if_neg (by decide), rp_s h hf (by rw [e2]; decide)] at c1
  have g : ∀ c, c < 7 → I' c = I c := fun c hc => by rw [c6 c (by omega) (by omega), c3 c (by omega)]
  refine ⟨fun j hj => ?_, fun n hn => ?_, ?_, fun k hk hz => ?_, ?_⟩
  · rw [g 3 (by omega), g 4 (by omega), g 5 (by omega), g 6 (by omega), rl_lo (by omega), rl_lo (by omega), rl_lo (by omega), rl_lo (by omega), rl_ow hj]
    refine ⟨rp_m h hj, fun c => rp_s h hj c, fun c => rp_l h hj c, rp_n h hj, ?_⟩
    show I' 7 j = _
    rw [c5 j hj, rp_o h hj]
  · show I' 8 n = _
    rw [c4 n, rl_fi hn]
    by_cases c : n = nm
    · rw [if_pos c, if_pos c]
    · rw [if_neg c, if_neg c]
      exact rp_f h hn
  · show I' 9 3 = _
    rw [c6 9 (by omega) (by omega), c2, rl_z hnm]
  · show I' 10 k = _ ∧ I' 11 k = _ ∧ I' 12 k = _
    rw [rl_zD hnm (wf_z hw).2] at hz
    rw [c6 10 (by omega) (by omega), c6 11 (by omega) (by omega), c6 12 (by omega) (by omega), (c1 k hk).1, (c1 k hk).2.1, (c1 k hk).2.2]
    by_cases k0 : k = 0
    · subst k0
      rw [if_pos rfl, if_pos rfl, if_pos rfl]
      obtain ⟨r1, r2, r3⟩ := rl_j0 (D := D) hnm
      rw [e1, nI_clamp (by omega)] at r3
      rw [e1] at r2
      exact ⟨r1.symm, r2.symm, r3.symm⟩
    · rw [if_neg k0, if_neg k0, if_neg k0, rl_js hnm (by omega) (by omega), rl_js hnm (by omega) (by omega), rl_js hnm (by omega) (by omega)]
      have := rp_j h (k := k - 1) (by omega) (by split at hz <;> omega)
      rw [show 230 + 3 * k - 3 = 230 + 3 * (k - 1) by omega, show 231 + 3 * k - 3 = 231 + 3 * (k - 1) by omega, show 232 + 3 * k - 3 = 232 + 3 * (k - 1) by omega]
      exact this
  · rw [g 2 (by omega), rl_hi hnm (by omega), rl_hi hnm (by omega), rl_hi hnm (by omega)]
    exact rp_w h
/-! blanking, counting -/
theorem Rep_blank {j : Nat} (hj : j < 40) (h : Rep I 2 D) : Rep (ui (ui (ui I 3 j 0) 4 j 0) 6 j (-1)) 2 (wpD D j) := by
  have g : ∀ c, c ≠ 3 → c ≠ 4 → c ≠ 6 → ui (ui (ui I 3 j 0) 4 j 0) 6 j (-1) c = I c := fun c h1 h2 h3 => by
    funext y
    simp only [ui]
    rw [if_neg (by omega), if_neg (by omega), if_neg (by omega)]
  have w : ∀ i, i ≠ j → i ≠ 120 + j → wpD D j i = D i := fun i h1 h2 => by
    simp only [wpD, uD]
    rw [if_neg h2, if_neg h1]
  refine ⟨fun i hi => ?_, fun n hn => ?_, ?_, fun k hk hz => ?_, ?_⟩
  · show ui (ui (ui I 3 j 0) 4 j 0) 6 j (-1) 3 i = _ ∧ (_ → ui (ui (ui I 3 j 0) 4 j 0) 6 j (-1) 4 i = _) ∧ (_ → ui (ui (ui I 3 j 0) 4 j 0) 6 j (-1) 5 i = _) ∧ ui (ui (ui I 3 j 0) 4 j 0) 6 j (-1) 6 i = _ ∧ ui (ui (ui I 3 j 0) 4 j 0) 6 j (-1) 7 i = _
    rw [g 5 (by omega) (by omega) (by omega), g 7 (by omega) (by omega) (by omega), w (40 + i) (by omega) (by omega), w (80 + i) (by omega) (by omega), w (160 + i) (by omega) (by omega)]
    by_cases c : i = j
    · subst c
      have e0 : wpD D i i = 0 := by simp only [wpD, uD]; rw [if_neg (by omega), if_pos trivial]
      have e1 : wpD D i (120 + i) = -1 := by simp only [wpD, uD]; rw [if_pos trivial]
      rw [e0, e1]
      exact ⟨by simp [ui], fun c => absurd rfl c, fun c => absurd c (by decide), by simp [ui], rp_o h hi⟩
    · rw [w i c (by omega), w (120 + i) (by omega) (by omega)]
      refine ⟨?_, fun c1 => ?_, fun c1 => rp_l h hi c1, ?_, rp_o h hi⟩
      · rw [← rp_m h hi]; simp [ui, c]
      · rw [← rp_s h hi c1]; simp [ui, c]
      · rw [← rp_n h hi]; simp [ui, c]
  · rw [w (200 + n) (by omega) (by omega)]
    show ui (ui (ui I 3 j 0) 4 j 0) 6 j (-1) 8 n = _
    rw [g 8 (by omega) (by omega) (by omega)]
    exact rp_f h hn
  · show ui (ui (ui I 3 j 0) 4 j 0) 6 j (-1) 9 3 = _
    rw [g 9 (by omega) (by omega) (by omega), w 248 (by omega) (by omega)]
    exact rp_z h
  · show ui (ui (ui I 3 j 0) 4 j 0) 6 j (-1) 10 k = _ ∧ ui (ui (ui I 3 j 0) 4 j 0) 6 j (-1) 11 k = _ ∧ ui (ui (ui I 3 j 0) 4 j 0) 6 j (-1) 12 k = _
    have ez : zD (wpD D j) = zD D := by unfold zD; rw [w 248 (by omega) (by omega)]
    rw [ez] at hz
    rw [g 10 (by omega) (by omega) (by omega), g 11 (by omega) (by omega) (by omega), g 12 (by omega) (by omega) (by omega), w (230 + 3 * k) (by omega) (by omega), w (231 + 3 * k) (by omega) (by omega), w (232 + 3 * k) (by omega) (by omega)]
    exact rp_j h hk hz
  · rw [g 2 (by omega) (by omega) (by omega), w 249 (by omega) (by omega), w 250 (by omega) (by omega), w 251 (by omega) (by omega)]
    exact rp_w h
theorem Rep_cnt {i : Nat} (hi : 7 ≤ i ∧ i ≤ 9) (h : Rep I 2 D) (v : Int32) : Rep (ui I 2 i v) 2 (uD D (242 + i) v) := by
  have g : ∀ c, c ≠ 2 → ui I 2 i v c = I c := fun c h1 => by
    funext y
    simp only [ui]
    rw [if_neg (by omega)]
  have w : ∀ k, k < 249 → uD D (242 + i) v k = D k := fun k h1 => by
    simp only [uD]
    rw [if_neg (by omega)]
  have ez : zD (uD D (242 + i) v) = zD D := by unfold zD; rw [w 248 (by omega)]
  refine ⟨fun j hj => ?_, fun n hn => ?_, ?_, fun k hk hz => ?_, ?_⟩
  · rw [g (2 + 1) (by omega), g (2 + 2) (by omega), g (2 + 3) (by omega), g (2 + 4) (by omega), g (2 + 5) (by omega), w j (by omega), w (40 + j) (by omega), w (80 + j) (by omega), w (120 + j) (by omega), w (160 + j) (by omega)]
    exact h.1 j hj
  · rw [g (2 + 6) (by omega), w (200 + n) (by omega)]
    exact h.2.1 n hn
  · rw [g (2 + 7) (by omega), w 248 (by omega)]
    exact h.2.2.1
  · rw [ez] at hz
    rw [g (2 + 8) (by omega), g (2 + 9) (by omega), g (2 + 10) (by omega), w (230 + 3 * k) (by omega), w (231 + 3 * k) (by omega), w (232 + 3 * k) (by omega)]
    exact h.2.2.2.1 k hk hz
  · obtain ⟨w1, w2, w3⟩ := rp_w h
    simp only [ui, uD]
    refine ⟨?_, ?_, ?_⟩
    · by_cases c : i = 7
      · subst c; rfl
      · rw [if_neg (by omega), if_neg (by omega)]; exact w1
    · by_cases c : i = 8
      · subst c; rfl
      · rw [if_neg (by omega), if_neg (by omega)]; exact w2
    · by_cases c : i = 9
      · subst c; rfl
      · rw [if_neg (by omega), if_neg (by omega)]; exact w3
end T30
