/-! ===== the orders keep a disk's row in order; guesses of the memory are guesses of the row ===== -/
/-- the free ones of the first pages wiped -/
def waD (D : Nat → Int32) : Nat → Nat → Int32
  | 0 => D
  | n + 1 => if fD D n then wpD (waD D n) n else waD D n
def mkF (D : Nat → Int32) (j : Nat) : Bool := fD D j && decide (D j ≠ 0)
def waS (D : Nat → Int32) : Int32 × (Nat → Int32) := (nI (cntB (mkF D) 40), uD (waD D 40) 248 0)
section T31
variable {I I' : Nat → Nat → Int32} {D D' : Nat → Int32}
theorem wf_top (hw : wfD D) (e : ∀ i, i < 249 → D' i = D i) : wfD D' := by
  have ez : zD D' = zD D := by unfold zD; rw [e 248 (by omega)]
  obtain ⟨h1, h2, h3, h4, h5⟩ := hw
  refine ⟨fun j hj => ?_, fun n hn => ?_, ?_, ?_, fun k hk => ?_⟩
  · rw [e j (by omega), e (40 + j) (by omega), e (80 + j) (by omega), e (120 + j) (by omega), e (160 + j) (by omega)]
    exact h1 j hj
  · rw [e (200 + n) (by omega)]
    rcases h2 n hn with c | ⟨ps, p1, p2, p3, p4, p5, p6⟩
    · exact Or.inl c
    · have q0 := (p6 0 (by omega)).1
      refine Or.inr ⟨ps, p1, p2, by rw [e _ (by omega)]; exact p3, by rw [e _ (by omega)]; exact p4, by rw [e _ (by omega)]; exact p5, fun i hi => ?_⟩
      obtain ⟨a1, a2, a3⟩ := p6 i hi
      exact ⟨a1, by rw [e _ (by omega)]; exact a2, by rw [e _ (by omega)]; exact a3⟩
  · rw [ez, e 248 (by omega)]
    exact h3
  · rw [ez]
    exact h4
  · rw [ez] at hk
    rw [e (230 + 3 * k) (by omega), e (231 + 3 * k) (by omega), e (232 + 3 * k) (by omega)]
    exact h5 k hk
theorem fD_own {n j : Nat} (hn : n < 30) (h : D (160 + j) = nI n) : fD D j = false := by
  unfold fD
  rw [h]
  exact decide_eq_false (nI_ne_m1 (by omega))
theorem wf_lay {nm s : Nat} (hw : wfD D) (hnm : nm < 30) (hs : s < 10) {ps : List Nat} (hp : rowOK (fD D) ps) (h1 : 1 ≤ ps.length) (h12 : ps.length ≤ 12) : wfD (laysD D nm (nI s) ps) := by
  obtain ⟨w1, w2, w3, w4, w5⟩ := hw
  refine ⟨fun j hj => ?_, fun n hn => ?_, ?_, ?_, fun k hk => ?_⟩
  · cases hq : ixL ps j with
    | none =>
      obtain ⟨e1, e2, e3, e4, e5⟩ := ly_none (D := D) (nm := nm) (sty := nI s) hj hq
      rw [e1, e2, e3, e4, e5]
      exact w1 j hj
    | some k =>
      obtain ⟨k1, k2⟩ := ixL_some hq
      obtain ⟨e1, e2, e3, e4, e5⟩ := ly_some (D := D) (nm := nm) (sty := nI s) hj hq
      rw [e1, e2, e3, e4, e5]
      refine ⟨?_, fun _ => ⟨s, hs, rfl⟩, fun _ => ⟨ps.length, h1, h12, rfl⟩, ?_, Or.inr ⟨nm, hnm, rfl⟩, fun c => ?_⟩
      · by_cases c : k = 0
        · rw [if_pos c]; exact Or.inr (Or.inl rfl)
        · rw [if_neg c]; exact Or.inr (Or.inr rfl)
      · by_cases c : k + 1 < ps.length
        · rw [if_pos c]; exact Or.inr ⟨_, hp.lt _ c, rfl⟩
        · rw [if_neg c]; exact Or.inl rfl
      · by_cases c1 : k = 0
        · rw [if_pos c1] at c; exact absurd c (by decide)
        · rw [if_neg c1] at c; exact absurd c (by decide)
  · by_cases c : n = nm
    · subst c
      refine Or.inr ⟨ps, h1, h12, by rw [ly_hi (by omega), if_pos rfl], ?_, ?_, fun i hi => ?_⟩
      · rw [(ly_some (hp.lt 0 (by omega)) (ixL_at hp (by omega))).1, if_pos rfl]
      · exact (ly_some (hp.lt 0 (by omega)) (ixL_at hp (by omega))).2.2.1
      · obtain ⟨e1, e2, e3, e4, e5⟩ := ly_some (D := D) (nm := n) (sty := nI s) (hp.lt i hi) (ixL_at hp hi)
        exact ⟨hp.lt i hi, e5, e4⟩
    · rw [ly_hi (by omega), if_neg (by omega)]
      rcases w2 n hn with c | ⟨qs, p1, p2, p3, p4, p5, p6⟩
      · exact Or.inl c
      · have no : ∀ i, i < qs.length → ixL ps (qs.getD i 0) = none := fun i hi => by
          cases hq : ixL ps (qs.getD i 0) with
          | none => rfl
          | some k =>
            obtain ⟨k1, k2⟩ := ixL_some hq
            have a := (hp.2 _ (getD_mem k1)).2
            rw [k2, fD_own hn (p6 i hi).2.1] at a
            cases a
        refine Or.inr ⟨qs, p1, p2, by rw [ly_hi (by omega), if_neg (by omega)]; exact p3, ?_, ?_, fun i hi => ?_⟩
        · rw [(ly_none (p6 0 (by omega)).1 (no 0 (by omega))).1]; exact p4
        · rw [(ly_none (p6 0 (by omega)).1 (no 0 (by omega))).2.2.1]; exact p5
        · obtain ⟨e1, e2, e3, e4, e5⟩ := ly_none (D := D) (nm := nm) (sty := nI s) (p6 i hi).1 (no i hi)
          exact ⟨(p6 i hi).1, by rw [e5]; exact (p6 i hi).2.1, by rw [e4]; exact (p6 i hi).2.2⟩
  · rw [ly_zD hnm, ly_hi (by omega), if_neg (by omega)]
    exact w3
  · rw [ly_zD hnm]
    exact w4
  · rw [ly_zD hnm] at hk
    rw [ly_hi (by omega), if_neg (by omega), ly_hi (by omega), if_neg (by omega), ly_hi (by omega), if_neg (by omega)]
    exact w5 k hk
theorem wf_file {nm : Nat} (hw : wfD D) (hnm : nm < 30) (hf : D (200 + nm) ≠ -1) : ∃ f s l, f < 40 ∧ s < 10 ∧ 1 ≤ l ∧ l ≤ 12 ∧ D (200 + nm) = nI f ∧ D f = 1 ∧ D (40 + f) = nI s ∧ D (80 + f) = nI l := by
  rcases hw.2.1 nm hnm with c | ⟨ps, p1, p2, p3, p4, p5, p6⟩
  · exact absurd c hf
  · obtain ⟨s, s1, s2⟩ := (hw.1 _ (p6 0 (by omega)).1).2.1 (by rw [p4]; decide)
    exact ⟨_, s, _, (p6 0 (by omega)).1, s1, p1, p2, p3, p4, s2, p5⟩
theorem wf_rel {nm : Nat} (hw : wfD D) (hnm : nm < 30) (hf : D (200 + nm) ≠ -1) : wfD (relD D nm) := by
  obtain ⟨f, s, l, f1, f2, f3, f4, f5, f6, f7, f8⟩ := wf_file hw hnm hf
  obtain ⟨w1, w2, w3, w4, w5⟩ := hw
  refine ⟨fun j hj => ?_, fun n hn => ?_, ?_, ?_, fun k hk => ?_⟩
  · rw [rl_lo (by omega), rl_lo (by omega), rl_lo (by omega), rl_lo (by omega), rl_ow hj]
    obtain ⟨a1, a2, a3, a4, a5, a6⟩ := w1 j hj
    refine ⟨a1, a2, a3, a4, ?_, a6⟩
    split
    · exact Or.inl rfl
    · exact a5
  · rw [rl_fi hn]
    by_cases c : n = nm
    · rw [if_pos c]; exact Or.inl rfl
    · rw [if_neg c]
      rcases w2 n hn with c1 | ⟨qs, p1, p2, p3, p4, p5, p6⟩
      · exact Or.inl c1
      · have q0 := (p6 0 (by omega)).1
        refine Or.inr ⟨qs, p1, p2, by rw [rl_fi hn, if_neg c]; exact p3, by rw [rl_lo (by omega)]; exact p4, by rw [rl_lo (by omega)]; exact p5, fun i hi => ?_⟩
        obtain ⟨a1, a2, a3⟩ := p6 i hi
        refine ⟨a1, ?_, by rw [rl_lo (by omega)]; exact a3⟩
        rw [rl_ow a1, a2, if_neg fun q => c ((nI_eq (by omega) (by omega)).mp q)]
  · rw [rl_z hnm, rl_zD hnm w4]
  · rw [rl_zD hnm w4]
    split <;> omega
  · rw [rl_zD hnm w4] at hk
    by_cases k0 : k = 0
    · subst k0
      obtain ⟨r1, r2, r3⟩ := rl_j0 (D := D) hnm
      rw [f5] at r2
      rw [f5, nI_clamp (by omega), f7] at r3
      exact ⟨⟨nm, hnm, r1⟩, ⟨f, f1, r2⟩, ⟨s, f2, r3⟩⟩
    · have k6 : k < 6 := by split at hk <;> omega
      rw [rl_js hnm (by omega) (by omega), rl_js hnm (by omega) (by omega), rl_js hnm (by omega) (by omega), show 230 + 3 * k - 3 = 230 + 3 * (k - 1) by omega, show 231 + 3 * k - 3 = 231 + 3 * (k - 1) by omega, show 232 + 3 * k - 3 = 232 + 3 * (k - 1) by omega]
      exact w5 (k - 1) (by split at hk <;> omega)
theorem wp_ne {i j : Nat} (h1 : i ≠ j) (h2 : i ≠ 120 + j) : wpD D j i = D i := by
  simp only [wpD, uD]
  rw [if_neg h2, if_neg h1]
theorem wp_j {j : Nat} : wpD D j j = 0 ∧ wpD D j (120 + j) = -1 := by
  simp only [wpD, uD]
  exact ⟨by rw [if_neg (by omega), if_pos trivial], by rw [if_pos trivial]⟩
theorem wf_wp {j : Nat} (hw : wfD D) (hj : j < 40) (hf : fD D j = true) : wfD (wpD D j) := by
  obtain ⟨w1, w2, w3, w4, w5⟩ := hw
  have ez : zD (wpD D j) = zD D := by unfold zD; rw [wp_ne (by omega) (by omega)]
  refine ⟨fun i hi => ?_, fun n hn => ?_, ?_, ?_, fun k hk => ?_⟩
  · rw [wp_ne (i := 40 + i) (by omega) (by omega), wp_ne (i := 80 + i) (by omega) (by omega), wp_ne (i := 160 + i) (by omega) (by omega)]
    obtain ⟨a1, a2, a3, a4, a5, a6⟩ := w1 i hi
    by_cases c : i = j
    · subst c
      rw [wp_j.1, wp_j.2]
      exact ⟨Or.inl rfl, fun q => absurd rfl q, fun q => absurd q (by decide), Or.inl rfl, a5, fun _ => rfl⟩
    · rw [wp_ne (i := i) c (by omega), wp_ne (i := 120 + i) (by omega) (by omega)]
      exact ⟨a1, a2, a3, a4, a5, a6⟩
  · rw [wp_ne (by omega) (by omega)]
    rcases w2 n hn with c1 | ⟨qs, p1, p2, p3, p4, p5, p6⟩
    · exact Or.inl c1
    · have no : ∀ i, i < qs.length → qs.getD i 0 ≠ j := fun i hi q => by
        have := fD_own hn (p6 i hi).2.1
        rw [q, hf] at this
        cases this
      have q0 := (p6 0 (by omega)).1
      refine Or.inr ⟨qs, p1, p2, by rw [wp_ne (by omega) (by omega)]; exact p3, by rw [wp_ne (no 0 (by omega)) (by omega)]; exact p4, by rw [wp_ne (by omega) (by omega)]; exact p5, fun i hi => ?_⟩
      obtain ⟨a1, a2, a3⟩ := p6 i hi
      have := no i hi
      exact ⟨a1, by rw [wp_ne (by omega) (by omega)]; exact a2, by rw [wp_ne (by omega) (by omega)]; exact a3⟩
  · rw [ez, wp_ne (by omega) (by omega)]
    exact w3
  · rw [ez]
    exact w4
  · rw [ez] at hk
    rw [wp_ne (by omega) (by omega), wp_ne (by omega) (by omega), wp_ne (by omega) (by omega)]
    exact w5 k hk
theorem wa_hi : ∀ n, n ≤ 40 → ∀ i, (n ≤ i ∧ i < 120) ∨ 160 ≤ i → waD D n i = D i
  | 0, _, i, _ => rfl
  | n + 1, hn, i, hi => by
    simp only [waD]
    split
    · rw [wp_ne (by omega) (by omega)]
      exact wa_hi n (by omega) i (by omega)
    · exact wa_hi n (by omega) i (by omega)
theorem wa_fD {n : Nat} (hn : n ≤ 40) (j : Nat) : fD (waD D n) j = fD D j := by
  unfold fD
  rw [wa_hi n hn (160 + j) (by omega)]
theorem wf_wa (hw : wfD D) : ∀ n, n ≤ 40 → wfD (waD D n)
  | 0, _ => hw
  | n + 1, hn => by
    simp only [waD]
    split
    · rename_i c
      exact wf_wp (wf_wa hw n (by omega)) (by omega) (by rw [wa_fD (by omega)]; exact c)
    · exact wf_wa hw n (by omega)
theorem wf_0 (hw : wfD D) : wfD (uD D 248 0) := by
  have w : ∀ k, k ≠ 248 → uD D 248 0 k = D k := fun k h1 => by
    simp only [uD]
    rw [if_neg h1]
  have e0 : uD D 248 0 248 = 0 := by simp only [uD]; rw [if_pos trivial]
  have ez : zD (uD D 248 0) = 0 := by unfold zD; rw [e0]; rfl
  obtain ⟨w1, w2, w3, w4, w5⟩ := hw
  refine ⟨fun i hi => ?_, fun n hn => ?_, ?_, ?_, fun k hk => ?_⟩
  · rw [w i (by omega), w (40 + i) (by omega), w (80 + i) (by omega), w (120 + i) (by omega), w (160 + i) (by omega)]
    exact w1 i hi
  · rw [w _ (by omega)]
    rcases w2 n hn with c1 | ⟨qs, p1, p2, p3, p4, p5, p6⟩
    · exact Or.inl c1
    · have q0 := (p6 0 (by omega)).1
      refine Or.inr ⟨qs, p1, p2, by rw [w _ (by omega)]; exact p3, by rw [w _ (by omega)]; exact p4, by rw [w _ (by omega)]; exact p5, fun i hi => ?_⟩
      obtain ⟨a1, a2, a3⟩ := p6 i hi
      exact ⟨a1, by rw [w _ (by omega)]; exact a2, by rw [w _ (by omega)]; exact a3⟩
  · rw [ez, e0]; rfl
  · rw [ez]; omega
  · rw [ez] at hk; omega
theorem Rep_0 (h : Rep I 2 D) : Rep (ui I 9 3 0) 2 (uD D 248 0) := by
  have g : ∀ c, c ≠ 9 → ui I 9 3 0 c = I c := fun c h1 => by
    funext y
    simp only [ui]
    rw [if_neg (by omega)]
  have w : ∀ k, k ≠ 248 → uD D 248 0 k = D k := fun k h1 => by
    simp only [uD]
    rw [if_neg h1]
  have e0 : uD D 248 0 248 = 0 := by simp only [uD]; rw [if_pos trivial]
  have ez : zD (uD D 248 0) = 0 := by unfold zD; rw [e0]; rfl
  refine ⟨fun j hj => ?_, fun n hn => ?_, ?_, fun k hk hz => ?_, ?_⟩
  · rw [g (2 + 1) (by omega), g (2 + 2) (by omega), g (2 + 3) (by omega), g (2 + 4) (by omega), g (2 + 5) (by omega), w j (by omega), w (40 + j) (by omega), w (80 + j) (by omega), w (120 + j) (by omega), w (160 + j) (by omega)]
    exact h.1 j hj
  · rw [g (2 + 6) (by omega), w (200 + n) (by omega)]
    exact h.2.1 n hn
  · rw [e0]
    show ui I 9 3 0 9 3 = 0
    simp [ui]
  · rw [ez] at hz; omega
  · rw [g 2 (by omega), w 249 (by omega), w 250 (by omega), w 251 (by omega)]
    exact h.2.2.2.2
/-! guesses -/
theorem gd_eq (h : Rep I 2 D) {fr : Nat → Bool} {i : Nat} (hi : i < 40) (c : D i = 1) : gdI I fr (lnD D) i = gdD D fr i := by
  unfold gdI gdD
  rw [rp_s h hi (by rw [c]; decide)]
  refine gsT_congr (fun j hj => rp_n h hj) (fun j hj => ?_) _ _ _ _ _ hi
  unfold okD
  rw [rp_m h hj]
  by_cases c2 : D j = 2
  · rw [rp_s h hj (by rw [c2]; decide)]
  · rw [decide_eq_false c2]
    simp
theorem jw_eq (h : Rep I 2 D) (hw : wfD D) (f s : Int32) : jwI I (zD D) f s = jwD D f s :=
  fstP_congr _ _ fun k _ hk => by
    have := (wf_z hw).2
    obtain ⟨j1, j2, j3⟩ := rp_j h (k := k) (by omega) (by omega)
    rw [j2, j3]
theorem js_eq (h : Rep I 2 D) (hw : wfD D) (s : Int32) : jsI I (zD D) s = jsD D s :=
  fstP_congr _ _ fun k _ hk => by
    have := (wf_z hw).2
    obtain ⟨j1, j2, j3⟩ := rp_j h (k := k) (by omega) (by omega)
    rw [j3]
theorem nm_eq (h : Rep I 2 D) (hw : wfD D) {i : Nat} : nmI I (zD D) (nI i) (D (40 + i)) = (nmD D i).elim (-1) (fun k => D (230 + 3 * k)) := by
  have hz := (wf_z hw).2
  unfold nmI nmD
  rw [jw_eq h hw, js_eq h hw]
  cases hq : jwD D (nI i) (D (40 + i)) with
  | some k =>
    have := fstP_some hq
    exact (rp_j h (by omega) (by omega)).1
  | none =>
    dsimp only
    cases hq2 : jsD D (D (40 + i)) with
    | some k =>
      have := fstP_some hq2
      exact (rp_j h (by omega) (by omega)).1
    | none => rfl
theorem gsc_eq (h : Rep I 2 D) (hw : wfD D) {fr : Nat → Bool} {i : Nat} (hi : i < 40) (c : D i = 1) : gscI I fr (lnD D) (zD D) i = scD D fr i := by
  unfold gscI scD pgI pgD
  rw [gd_eq h hi c, rp_s h hi (by rw [c]; decide), jw_eq h hw]
theorem fp_eq (h : Rep I 2 D) {fr : Nat → Bool} {i : Nat} (hi : i < 40) : fpI I fr i = fpD D fr i := by
  unfold fpI fpD
  rw [rp_m h hi]
theorem gl_eq (h : Rep I 2 D) (hw : wfD D) {fr : Nat → Bool} : gsL (gscI I fr (lnD D) (zD D)) (fpI I fr) 40 = glD D fr :=
  gsL_congr 40 (fun i hi => fp_eq h hi) fun i hi c => gsc_eq h hw hi (by
    rw [fp_eq h hi] at c
    unfold fpD at c
    simp only [Bool.and_eq_true, decide_eq_true_eq] at c
    exact c.2)
theorem ln_ok (h : Rep I 2 D) (hw : wfD D) {fr : Nat → Bool} : lnOK I fr (lnD D) := fun i hi _ c => by
  rw [rp_m h hi] at c
  rw [rp_l h hi c]
  exact wf_l hw hi c
theorem gl_mem {fr : Nat → Bool} {f : Nat} (h : f ∈ glD D fr) : f < 40 ∧ fr f = true ∧ D f = 1 := by
  obtain ⟨h1, h2⟩ := gsL_mem.mp h
  unfold fpD at h2
  simp only [Bool.and_eq_true, decide_eq_true_eq] at h2
  exact ⟨h1, h2.1, h2.2⟩
theorem pg_row (hw : wfD D) {fr : Nat → Bool} {i : Nat} (hi : i < 40) (c : D i = 1) (hf : fr i = true) : rowOK fr (pgD D fr i) ∧ 1 ≤ (pgD D fr i).length ∧ (pgD D fr i).length ≤ lnD D i ∧ (pgD D fr i).getD 0 0 = i ∧ (gdD D fr i).2.1 ≤ 11 ∧ (gdD D fr i).2.2 ≤ 11 := by
  obtain ⟨l1, l2, l3⟩ := wf_l hw hi c
  obtain ⟨g1, g2, g3, g4, g5, g6⟩ := gsT_row (nx := fun j => D (120 + j)) (ok := okD D fr (D (40 + i))) (P := fr) (fun j hj => by
    unfold okD at hj
    simp only [Bool.and_eq_true] at hj
    exact hj.1.1) (lnD D i - 1) [i] i 0 0 ⟨by simp, fun q hq => by rw [List.mem_singleton.mp hq]; exact ⟨hi, hf⟩⟩
  simp only [List.length_cons, List.length_nil] at g2 g3 g4
  exact ⟨g1, by unfold pgD gdD; omega, by unfold pgD gdD; omega, g4 (by omega), by unfold gdD; omega, by unfold gdD; omega⟩
theorem okD_congr {fr fr' : Nat → Bool} {s : Int32} {j : Nat} (h : fr j = fr' j) : okD D fr s j = okD D fr' s j := by unfold okD; rw [h]
theorem gd_congr {fr fr' : Nat → Bool} (h : ∀ j, j < 40 → fr j = fr' j) {i : Nat} (hi : i < 40) : gdD D fr i = gdD D fr' i :=
  gsT_congr (fun _ _ => rfl) (fun j hj => okD_congr (h j hj)) _ _ _ _ _ hi
theorem sc_congr {fr fr' : Nat → Bool} (h : ∀ j, j < 40 → fr j = fr' j) {i : Nat} (hi : i < 40) : scD D fr i = scD D fr' i := by
  unfold scD pgD
  rw [gd_congr h hi]
theorem gl_congr {fr fr' : Nat → Bool} (h : ∀ j, j < 40 → fr j = fr' j) : glD D fr = glD D fr' :=
  gsL_congr 40 (fun i hi => by unfold fpD; rw [h i hi]) fun i hi _ => sc_congr h hi
end T31
