/-! ===== how the class stands: its disk, its history, its text; the changes ===== -/
/-- a state: disk, how many pasts, pasts (oldest at 0), length of the text, text -/
abbrev Sta := (Nat → Int32) × Nat × (Nat → Nat → Int32) × Nat × (Nat → Int32)
def Cls (I : Nat → Nat → Int32) (p : Nat → Nat) (s : Sta) : Prop :=
  pOK p ∧ Rep I 2 s.1 ∧ I 21 1 = nI s.2.1 ∧ (∀ k, k < s.2.1 → Rep I (p k) (s.2.2.1 k)) ∧ I 78 1 = nI s.2.2.2.1 ∧ ∀ i, i < s.2.2.2.1 → I 79 i = s.2.2.2.2 i
def Wst (s : Sta) : Prop := wfD s.1 ∧ s.2.1 ≤ 4 ∧ (∀ k, k < s.2.1 → wfD (s.2.2.1 k)) ∧ s.2.2.2.1 ≤ 60 ∧ ∀ i, i < s.2.2.2.1 → ∃ c, 32 ≤ c ∧ c ≤ 126 ∧ s.2.2.2.2 i = nI c
def pushS (s : Sta) (D' : Nat → Int32) : Sta :=
  if s.2.1 < 4 then (D', s.2.1 + 1, (fun k => if k = s.2.1 then s.1 else s.2.2.1 k), s.2.2.2) else (D', 4, (fun k => if k < 3 then s.2.2.1 (k + 1) else s.1), s.2.2.2)
def setS (s : Sta) (r : Int32 × (Nat → Int32)) : Int32 × Sta := if r.1 < 0 then (r.1, s) else (r.1, pushS s r.2)
def cfr (I I' : Nat → Nat → Int32) : Prop := ∀ a, (a = 0 ∨ 81 < a) → I' a = I a
theorem cfr_rf (I : Nat → Nat → Int32) : cfr I I := fun _ _ => rfl
theorem cfr_tr {I I1 I2 : Nat → Nat → Int32} (h : cfr I I1) (h2 : cfr I1 I2) : cfr I I2 := fun a ha => (h2 a ha).trans (h a ha)
theorem pOK.far {p : Nat → Nat} (h : pOK p) {i j : Nat} (hi : i < 5) (hj : j < 5) (hij : i ≠ j) : p i + 10 < p j ∨ p j + 10 < p i := by
  have e : p i ≠ p j := fun q => hij (h.2 i j hi hj q)
  rcases h.1 i hi with a | a | a | a | a <;> rcases h.1 j hj with b | b | b | b | b <;> rw [a, b] at e ⊢ <;> omega
theorem pOK.rng {p : Nat → Nat} (h : pOK p) {i : Nat} (hi : i < 5) : 23 ≤ p i ∧ p i + 10 ≤ 77 := by
  rcases h.1 i hi with a | a | a | a | a <;> omega
theorem Wst_push {s : Sta} (hw : Wst s) {D' : Nat → Int32} (h : wfD D') : Wst (pushS s D') := by
  obtain ⟨w1, w2, w3, w4, w5⟩ := hw
  unfold pushS
  by_cases c : s.2.1 < 4
  · rw [if_pos c]
    refine ⟨h, c, fun k hk => ?_, w4, w5⟩
    dsimp only at hk ⊢
    by_cases c2 : k = s.2.1
    · rw [if_pos c2]; exact w1
    · rw [if_neg c2]; exact w3 k (by omega)
  · rw [if_neg c]
    refine ⟨h, Nat.le_refl _, fun k hk => ?_, w4, w5⟩
    dsimp only at hk ⊢
    by_cases c2 : k < 3
    · rw [if_pos c2]; exact w3 (k + 1) (by omega)
    · rw [if_neg c2]; exact w1
theorem Wst_set {s : Sta} (hw : Wst s) {r : Int32 × (Nat → Int32)} (h : wfD r.2) : Wst (setS s r).2 := by
  unfold setS
  split
  · exact hw
  · exact Wst_push hw h
section T34
variable {d L : Nat} {I : Nat → Nat → Int32} {J : Nat → Nat → Int64} {p : Nat → Nat} {Q : Option Value → am_M → Prop} {s : Sta}
/-- after the draft, before the change is kept -/
def Mid (I : Nat → Nat → Int32) (p : Nat → Nat) (s : Sta) : Prop := Cls I p s ∧ Rep I (p s.2.1) s.1
theorem Mid_of {I1 : Nat → Nat → Int32} (hc : Cls I p s) (hn : s.2.1 ≤ 4) (h1 : copC I I1 (p s.2.1) 2) : Mid I1 p s ∧ cfr I I1 := by
  obtain ⟨c1, c2, c3, c4, c5, c6⟩ := hc
  obtain ⟨r1, r2⟩ := c1.rng (i := s.2.1) (by omega)
  refine ⟨⟨⟨c1, Rep_away h1 c2 (by omega), by rw [h1.2.2.2 21 (by omega)]; exact c3, fun k hk => Rep_away h1 (c4 k hk) (c1.far (by omega) (by omega) (by omega)), by rw [h1.2.2.2 78 (by omega)]; exact c5, fun i hi => by rw [h1.2.2.2 79 (by omega)]; exact c6 i hi⟩, Rep_cop h1 c2⟩, fun a ha => h1.2.2.2 a (by omega)⟩
theorem t_settled (hd : 1 ≤ d) {r : Int32 × (Nat → Int32)} {I1 : Nat → Nat → Int32} (hm : Mid I1 p s) (hn : s.2.1 ≤ 4) (ho : ∀ a, (a = 21 ∨ (22 < a ∧ a ≠ 78 ∧ a ≠ 80 ∧ a ≠ 81)) → I a = I1 a) (h78 : I 78 1 = I1 78 1) (hr : Rep I 2 r.2) (he : r.1 < 0 → r.2 = s.1)
    (k : ∀ I' p', Cls I' p' (setS s r).2 → (∀ a, 81 < a → I' a = I a) → I' 0 = I 0 → Q (some (.int (setS s r).1)) (I', J, KR p')) : T d me_X7_settled [.ref 1, .int r.1] L I J p Q := by
  obtain ⟨⟨z1, z2, z3, z4, z5, z6⟩, z7⟩ := hm
  have rf : ∀ {i : Nat} {D : Nat → Int32}, i < 5 → Rep I1 (p i) D → Rep I (p i) D := fun {i D} hi h => by
    have := z1.rng hi
    exact Rep_frame h fun c h1 h2 => ho c (by omega)
  have e21 : I 21 1 = nI s.2.1 := by rw [ho 21 (by omega)]; exact z3
  have e78 : I 78 1 = nI s.2.2.2.1 := h78.trans z5
  have e79 : ∀ i, i < s.2.2.2.1 → I 79 i = s.2.2.2.2 i := fun i hi => by rw [ho 79 (by omega)]; exact z6 i hi
  refine am_enter [some (.ref 1), some (.int r.1)] rfl rfl rfl rfl ?_
  unfold setS at k
  by_cases cr : r.1 < 0
  · rw [if_pos cr] at k
    refine ev_iload_n (pc := 0) dX7_settled_0 rfl (ev_if_lt (pc := 1) 11 dX7_settled_1 (by decide) (kf := fun c => absurd (cr) c) (kt := fun c1 => ev_iload_n (pc := 11) dX7_settled_11 rfl (ev_iret (pc := 12) dX7_settled_12 rfl ?_)))
    exact k I p ⟨z1, he cr ▸ hr, e21, fun i hi => rf (show i < 5 from Nat.lt_of_lt_of_le hi (by show s.2.1 ≤ 5; omega)) (z4 i hi), e78, e79⟩ (fun _ _ => rfl) rfl
  · rw [if_neg cr] at k
    refine ev_iload_n (pc := 0) dX7_settled_0 rfl (ev_if_lt (pc := 1) 11 dX7_settled_1 (by decide) (kt := fun c => absurd c (cr)) (kf := fun c1 => ev_aload_n (pc := 4) dX7_settled_4 rfl (ev_getr (pc := 5) kF_7_26 dX7_settled_5 rfl rfl rfl (ev_invV (pc := 8) kV_7_261 dX7_settled_8 rfl rfl rfl (by omega) rfl ?_))))
    unfold pushS at k
    refine t_keep z1 e21 hn (fun h4 => ?_) (fun h4 => ?_)
    · rw [if_pos h4] at k
      refine ev_iload_n (pc := 11) dX7_settled_11 rfl (ev_iret (pc := 12) dX7_settled_12 rfl ?_)
      have g : ∀ c, c ≠ 21 → ui I 21 1 (nI (s.2.1 + 1)) c = I c := fun c h1 => by
        funext y
        simp only [ui]
        rw [if_neg (by omega)]
      have rg : ∀ {i : Nat} {D : Nat → Int32}, i < 5 → Rep I (p i) D → Rep (ui I 21 1 (nI (s.2.1 + 1))) (p i) D := fun {i D} hi h => by
        have := z1.rng hi
        exact Rep_frame h fun c h1 h2 => g c (by omega)
      refine k _ p ⟨z1, Rep_frame hr fun c h1 h2 => g c (by omega), by simp [ui], fun i hi => ?_, by rw [g 78 (by omega)]; exact e78, fun i hi => by rw [g 79 (by omega)]; exact e79 i hi⟩ (fun a ha => g a (by omega)) (g 0 (by omega))
      dsimp only at hi ⊢
      by_cases c : i = s.2.1
      · rw [if_pos c, c]
        exact rg (by omega) (rf (by omega) z7)
      · rw [if_neg c]
        exact rg (by omega) (rf (by omega) (z4 i (by omega)))
    · rw [if_neg (by omega)] at k
      refine ev_iload_n (pc := 11) dX7_settled_11 rfl (ev_iret (pc := 12) dX7_settled_12 rfl ?_)
      refine k _ (rotP p) ⟨rotP_OK z1, hr, by rw [e21, h4], fun i hi => ?_, e78, e79⟩ (fun _ _ => rfl) rfl
      dsimp only at hi ⊢
      have er : rotP p i = p (i + 1) := by unfold rotP; rw [if_pos hi]
      rw [er]
      by_cases c : i < 3
      · rw [if_pos c]
        exact rf (by omega) (z4 (i + 1) (by omega))
      · rw [if_neg c, show i + 1 = s.2.1 by omega]
        exact rf (by omega) z7
end T34
