/-! ===== the reference: a file gets the pages ===== -/
def lyF (I : Nat → Nat → Int32) (nm : Nat) (sty : Int32) (ps : List Nat) (j : Nat) : Prop :=
  I 83 (ps.getD j 0) = (if j = 0 then 1 else 2) ∧ I 83 (40 + ps.getD j 0) = sty ∧ I 83 (80 + ps.getD j 0) = nI ps.length ∧ I 83 (120 + ps.getD j 0) = (if j + 1 < ps.length then nI (ps.getD (j + 1) 0) else -1) ∧ I 83 (160 + ps.getD j 0) = nI nm
def lyP (I I' : Nat → Nat → Int32) (nm : Nat) (sty : Int32) (ps : List Nat) (i : Nat) : Prop :=
  (∀ j, j < i → lyF I' nm sty ps j) ∧ (∀ x, (∀ j b, j < i → b < 5 → x ≠ 40 * b + ps.getD j 0) → I' 83 x = I 83 x) ∧ fr1 83 I I'
def ly5 (I : Nat → Nat → Int32) (q : Nat) (v0 v1 v2 v3 v4 : Int32) : Nat → Nat → Int32 := ui (ui (ui (ui (ui I 83 q v0) 83 (40 + q) v1) 83 (80 + q) v2) 83 (120 + q) v3) 83 (160 + q) v4
theorem ly5_at {I : Nat → Nat → Int32} {q : Nat} {v0 v1 v2 v3 v4 : Int32} (hq : q < 40) (x : Nat) : ly5 I q v0 v1 v2 v3 v4 83 x = if x = q then v0 else if x = 40 + q then v1 else if x = 80 + q then v2 else if x = 120 + q then v3 else if x = 160 + q then v4 else I 83 x := by
  simp only [ly5, ui, true_and]
  by_cases e4 : x = 160 + q
  · rw [if_pos e4, if_neg (by omega), if_neg (by omega), if_neg (by omega), if_neg (by omega), if_pos e4]
  rw [if_neg e4]
  by_cases e3 : x = 120 + q
  · rw [if_pos e3, if_neg (by omega), if_neg (by omega), if_neg (by omega), if_pos e3]
  rw [if_neg e3]
  by_cases e2 : x = 80 + q
  · rw [if_pos e2, if_neg (by omega), if_neg (by omega), if_pos e2]
  rw [if_neg e2]
  by_cases e1 : x = 40 + q
  · rw [if_pos e1, if_neg (by omega), if_pos e1]
  rw [if_neg e1]
  by_cases e0 : x = q
  · rw [if_pos e0, if_pos e0]
  · rw [if_neg e0, if_neg e0, if_neg e1, if_neg e2, if_neg e3, if_neg e4]
theorem ly5_fr {I I' : Nat → Nat → Int32} {q : Nat} {v0 v1 v2 v3 v4 : Int32} (h : fr1 83 I I') : fr1 83 I (ly5 I' q v0 v1 v2 v3 v4) := fr1_ui (fr1_ui (fr1_ui (fr1_ui (fr1_ui h))))
theorem lyP_step {I I' : Nat → Nat → Int32} {nm : Nat} {sty : Int32} {ps : List Nat} {i : Nat} {P : Nat → Bool} (hp : rowOK P ps) (hi : i < ps.length) (h : lyP I I' nm sty ps i) : lyP I (ly5 I' (ps.getD i 0) (if i = 0 then 1 else 2) sty (nI ps.length) (if i + 1 < ps.length then nI (ps.getD (i + 1) 0) else -1) (nI nm)) nm sty ps (i + 1) := by
  have hq := hp.lt i hi
  obtain ⟨h1, h2, h3⟩ := h
  refine ⟨fun j hj => ?_, fun x hx => ?_, ly5_fr h3⟩
  · unfold lyF
    by_cases e : j = i
    · subst e
      refine ⟨?_, ?_, ?_, ?_, ?_⟩
      · rw [ly5_at hq, if_pos rfl]
      · rw [ly5_at hq, if_neg (by omega), if_pos rfl]
      · rw [ly5_at hq, if_neg (by omega), if_neg (by omega), if_pos rfl]
      · rw [ly5_at hq, if_neg (by omega), if_neg (by omega), if_neg (by omega), if_pos rfl]
      · rw [ly5_at hq, if_neg (by omega), if_neg (by omega), if_neg (by omega), if_neg (by omega), if_pos rfl]
    · have ne : ps.getD j 0 ≠ ps.getD i 0 := fun q => e (hp.inj j i (by omega) hi q)
      have hj4 := hp.lt j (by omega)
      have := h1 j (by omega)
      unfold lyF at this
      obtain ⟨a0, a1, a2, a3, a4⟩ := this
      have g : ∀ x, (x = ps.getD j 0 ∨ x = 40 + ps.getD j 0 ∨ x = 80 + ps.getD j 0 ∨ x = 120 + ps.getD j 0 ∨ x = 160 + ps.getD j 0) → ∀ v0 v1 v2 v3 v4, ly5 I' (ps.getD i 0) v0 v1 v2 v3 v4 83 x = I' 83 x := fun x hx v0 v1 v2 v3 v4 => by
        rw [ly5_at hq, if_neg (by omega), if_neg (by omega), if_neg (by omega), if_neg (by omega), if_neg (by omega)]
      rw [g _ (by omega), g _ (by omega), g _ (by omega), g _ (by omega), g _ (by omega)]
      exact ⟨a0, a1, a2, a3, a4⟩
  · have g := fun b hb => hx i b (by omega) hb
    rw [ly5_at hq, if_neg (by have := g 0 (by omega); omega), if_neg (by have := g 1 (by omega); omega), if_neg (by have := g 2 (by omega); omega), if_neg (by have := g 3 (by omega); omega), if_neg (by have := g 4 (by omega); omega)]
    exact h2 x fun j b hj hb => hx j b (by omega) hb
theorem lyP_end {I I' : Nat → Nat → Int32} {D : Nat → Int32} {nm : Nat} {sty : Int32} {ps : List Nat} {P : Nat → Bool} (hp : rowOK P ps) (hr : rowM I D) (h : lyP I I' nm sty ps ps.length) : rowM (ui I' 83 (200 + nm) (nI (ps.getD 0 0))) (laysD D nm sty ps) := by
  obtain ⟨h1, h2, h3⟩ := h
  intro x hx
  simp only [ui, true_and]
  unfold laysD
  by_cases x2 : x < 200
  · rw [if_neg (by omega), if_pos x2]
    cases hq : ixL ps (x % 40) with
    | none =>
      have hn := ixL_none hq
      rw [h2 x fun j b hj hb e => hn j hj (by have := hp.lt j hj; omega)]
      exact hr x hx
    | some m =>
      obtain ⟨m1, m2⟩ := ixL_some hq
      have hf := h1 m m1
      unfold lyF at hf
      rw [m2] at hf
      obtain ⟨a0, a1, a2, a3, a4⟩ := hf
      dsimp only
      by_cases b0 : x < 40
      · rw [if_pos b0, ← a0]; congr 1; omega
      rw [if_neg b0]
      by_cases b1 : x < 80
      · rw [if_pos b1, ← a1]; congr 1; omega
      rw [if_neg b1]
      by_cases b2 : x < 120
      · rw [if_pos b2, ← a2]; congr 1; omega
      rw [if_neg b2]
      by_cases b3 : x < 160
      · rw [if_pos b3, ← a3]; congr 1; omega
      rw [if_neg b3, ← a4]; congr 1; omega
  · rw [if_neg x2]
    by_cases c : x = 200 + nm
    · rw [if_pos c, if_pos c]
    · rw [if_neg c, if_neg c, h2 x fun j b hj hb e => by have := hp.lt j hj; omega]
      exact hr x hx
section T49
variable {d L : Nat} {I : Nat → Nat → Int32} {J : Nat → Nat → Int64} {p : Nat → Nat} {Q : Option Value → am_M → Prop} {D : Nat → Int32}
theorem lp_lays {nm : Nat} {sty : Int32} {ps : List Nat} {P : Nat → Bool} (hp : rowOK P ps) (hl : ps.length ≤ 12) (h88 : rw88 I ps) (hnm : nm < 31) (k : ∀ I' o1 o2, lyP I I' nm sty ps ps.length → E me_X8_lays d L 108 [some (.ref 82), some (.int (nI nm)), some (.int sty), some (.int (nI ps.length)), o1, o2] [] I' J p Q) : ∀ (n i : Nat) (I1 : Nat → Nat → Int32) (o : Option Value), i + n = ps.length → lyP I I1 nm sty ps i → E me_X8_lays d L 3 [some (.ref 82), some (.int (nI nm)), some (.int sty), some (.int (nI ps.length)), some (.int (nI i)), o] [] I1 J p Q
  | 0, i, I1, o, hi, h => by
    have e : i = ps.length := by omega
    subst e
    refine ev_iload (pc := 3) dX8_lays_3 rfl (ev_iload_n (pc := 5) dX8_lays_5 rfl (ev_ncmp_ge (pc := 6) 108 (ps.length) (ps.length) dX8_lays_6 (by decide) (rfl) (rfl) (by omega) (by omega) (kf := fun c => absurd c (by omega)) (kt := fun c6 => ?_)))
    exact k I1 _ _ h
  | n + 1, i, I1, o, hi, h => by
    have hq := hp.lt i (by omega)
    have st := lyP_step hp (by omega) h
    have ih := fun o => lp_lays hp hl h88 hnm k n (i + 1) _ o (by omega) st
    have e88 : I1 88 i = nI (ps.getD i 0) := by rw [h.2.2 88 (by decide)]; exact h88 i (by omega)
    unfold ly5 at ih
    refine ev_iload (pc := 3) dX8_lays_3 rfl (ev_iload_n (pc := 5) dX8_lays_5 rfl (ev_ncmp_ge (pc := 6) 108 (i) (ps.length) dX8_lays_6 (by decide) (rfl) (rfl) (by omega) (by omega) (kt := fun c => absurd c (by omega)) (kf := fun c6 => ev_aload_n (pc := 9) dX8_lays_9 rfl (ev_getr (pc := 10) kF_8_25 dX8_lays_10 rfl rfl rfl (ev_iload (pc := 13) dX8_lays_13 rfl (ev_iald (pc := 15) (i := i) dX8_lays_15 rfl (rfl) (by omega) rfl (?_)))))))
    rw [e88]
    have mid : ∀ v0, v0 = (if i = 0 then (1 : Int32) else 2) → E me_X8_lays d L 36 [some (.ref 82), some (.int (nI nm)), some (.int sty), some (.int (nI ps.length)), some (.int (nI i)), some (.int (nI (ps.getD i 0)))] [.int v0, .int (0 + nI (ps.getD i 0)), .ref 83] I1 J p Q := by
      intro v0 hv
      rw [← hv] at ih
      refine ev_iast (pc := 36) (i := ps.getD i 0) dX8_lays_36 rfl rfl (Int32.zero_add _) (by omega) rfl (ev_aload_n (pc := 37) dX8_lays_37 rfl (ev_getr (pc := 38) kF_8_7 dX8_lays_38 rfl rfl rfl (ev_bipush (pc := 41) (v := (40)) dX8_lays_41 bipush_c40 (ev_iload (pc := 43) dX8_lays_43 rfl (ev_iadd (pc := 45) dX8_lays_45 (ev_iload_n (pc := 46) dX8_lays_46 rfl (ev_iast (pc := 47) (i := 40 + ps.getD i 0) dX8_lays_47 rfl rfl (nI_add 40 _) (by omega) rfl (ev_aload_n (pc := 48) dX8_lays_48 rfl (ev_getr (pc := 49) kF_8_7 dX8_lays_49 rfl rfl rfl (ev_bipush (pc := 52) (v := (80)) dX8_lays_52 bipush_c80 (ev_iload (pc := 54) dX8_lays_54 rfl (ev_iadd (pc := 56) dX8_lays_56 (ev_iload_n (pc := 57) dX8_lays_57 rfl (ev_iast (pc := 58) (i := 80 + ps.getD i 0) dX8_lays_58 rfl rfl (nI_add 80 _) (by omega) rfl (ev_aload_n (pc := 59) dX8_lays_59 rfl (ev_getr (pc := 60) kF_8_7 dX8_lays_60 rfl rfl rfl (ev_bipush (pc := 63) (v := (120)) dX8_lays_63 bipush_c120 (ev_iload (pc := 65) dX8_lays_65 rfl (ev_iadd (pc := 67) dX8_lays_67 (ev_iload (pc := 68) dX8_lays_68 rfl (ev_iconst (pc := 70) (v := (1)) dX8_lays_70 iconst_c1 (ev_iadd (pc := 71) dX8_lays_71 (ev_iload_n (pc := 72) dX8_lays_72 rfl (?_))))))))))))))))))))))))
      by_cases q : i + 1 < ps.length
      · rw [if_pos q] at ih
        have e2 : ∀ v0 v1 v2, ui (ui (ui I1 83 (ps.getD i 0) v0) 83 (40 + ps.getD i 0) v1) 83 (80 + ps.getD i 0) v2 88 (i + 1) = nI (ps.getD (i + 1) 0) := fun v0 v1 v2 => by
          simp only [ui, show ¬ (88 = 83) by decide, false_and, if_false]
          rw [h.2.2 88 (by decide)]
          exact h88 (i + 1) q
        refine ev_ncmp_ge (pc := 73) 88 (i + 1) (ps.length) dX8_lays_73 (by decide) (nI_1 i) (rfl) (by omega) (by omega) (kt := fun c => absurd c (by omega)) (kf := fun c73 => ev_aload_n (pc := 76) dX8_lays_76 rfl (ev_getr (pc := 77) kF_8_25 dX8_lays_77 rfl rfl rfl (ev_iload (pc := 80) dX8_lays_80 rfl (ev_iconst (pc := 82) (v := (1)) dX8_lays_82 iconst_c1 (ev_iadd (pc := 83) dX8_lays_83 (ev_iald (pc := 84) (i := i + 1) dX8_lays_84 rfl (nI_1 i) (by omega) rfl (?_)))))))
        rw [e2]
        refine ev_goto (pc := 85) 89 dX8_lays_85 (by decide) (ev_iast (pc := 89) (i := 120 + ps.getD i 0) dX8_lays_89 rfl rfl (nI_add 120 _) (by omega) rfl (ev_aload_n (pc := 90) dX8_lays_90 rfl (ev_getr (pc := 91) kF_8_7 dX8_lays_91 rfl rfl rfl (ev_sipush (pc := 94) (v := (160)) dX8_lays_94 sipush_c160 (ev_iload (pc := 97) dX8_lays_97 rfl (ev_iadd (pc := 99) dX8_lays_99 (ev_iload_n (pc := 100) dX8_lays_100 rfl (ev_iast (pc := 101) (i := 160 + ps.getD i 0) dX8_lays_101 rfl rfl (nI_add 160 _) (by omega) rfl (ev_iinc (pc := 102) dX8_lays_102 rfl (iinc_1 _) rfl (ev_goto (pc := 105) 3 dX8_lays_105 (by decide) (?_)))))))))))
        exact ih _
      · rw [if_neg q] at ih
        refine ev_ncmp_ge (pc := 73) 88 (i + 1) (ps.length) dX8_lays_73 (by decide) (nI_1 i) (rfl) (by omega) (by omega) (kf := fun c => absurd c (by omega)) (kt := fun c73 => ev_iconst (pc := 88) (v := (-1)) dX8_lays_88 iconst_cm1 (ev_iast (pc := 89) (i := 120 + ps.getD i 0) dX8_lays_89 rfl rfl (nI_add 120 _) (by omega) rfl (ev_aload_n (pc := 90) dX8_lays_90 rfl (ev_getr (pc := 91) kF_8_7 dX8_lays_91 rfl rfl rfl (ev_sipush (pc := 94) (v := (160)) dX8_lays_94 sipush_c160 (ev_iload (pc := 97) dX8_lays_97 rfl (ev_iadd (pc := 99) dX8_lays_99 (ev_iload_n (pc := 100) dX8_lays_100 rfl (ev_iast (pc := 101) (i := 160 + ps.getD i 0) dX8_lays_101 rfl rfl (nI_add 160 _) (by omega) rfl (ev_iinc (pc := 102) dX8_lays_102 rfl (iinc_1 _) rfl (ev_goto (pc := 105) 3 dX8_lays_105 (by decide) (?_))))))))))))
        exact ih _
    by_cases i0 : i = 0
    · subst i0
      refine ev_istore (pc := 16) dX8_lays_16 rfl (ev_aload_n (pc := 18) dX8_lays_18 rfl (ev_getr (pc := 19) kF_8_7 dX8_lays_19 rfl rfl rfl (ev_iconst (pc := 22) (v := (0)) dX8_lays_22 iconst_c0 (ev_iload (pc := 23) dX8_lays_23 rfl (ev_iadd (pc := 25) dX8_lays_25 (ev_iload (pc := 26) dX8_lays_26 rfl (ev_if_ne (pc := 28) 35 dX8_lays_28 (by decide) (kt := fun c => absurd (rfl) c) (kf := fun c28 => ev_iconst (pc := 31) (v := (1)) dX8_lays_31 iconst_c1 (ev_goto (pc := 32) 36 dX8_lays_32 (by decide) (?_))))))))))
      exact mid _ rfl
    · refine ev_istore (pc := 16) dX8_lays_16 rfl (ev_aload_n (pc := 18) dX8_lays_18 rfl (ev_getr (pc := 19) kF_8_7 dX8_lays_19 rfl rfl rfl (ev_iconst (pc := 22) (v := (0)) dX8_lays_22 iconst_c0 (ev_iload (pc := 23) dX8_lays_23 rfl (ev_iadd (pc := 25) dX8_lays_25 (ev_iload (pc := 26) dX8_lays_26 rfl (ev_if_ne (pc := 28) 35 dX8_lays_28 (by decide) (kf := fun c => absurd c (nI_ne0 (by omega) (by omega))) (kt := fun c28 => ev_iconst (pc := 35) (v := (2)) dX8_lays_35 iconst_c2 (?_)))))))))
      exact mid _ (by rw [if_neg i0])
theorem m_lays {nm : Nat} {sty : Int32} {ps : List Nat} {P : Nat → Bool} (hp : rowOK P ps) (h1 : 1 ≤ ps.length) (hl : ps.length ≤ 12) (h88 : rw88 I ps) (hnm : nm < 31) (hr : rowM I D) (k : ∀ I', rowM I' (laysD D nm sty ps) → fr1 83 I I' → Q none (I', J, KR p)) : T d me_X8_lays [.ref 82, .int (nI nm), .int sty, .int (nI ps.length)] L I J p Q := by
  refine am_enter [some (.ref 82), some (.int (nI nm)), some (.int sty), some (.int (nI ps.length)), none, none] rfl rfl rfl rfl ?_
  refine ev_iconst (pc := 0) (v := (0)) dX8_lays_0 iconst_c0 (ev_istore (pc := 1) dX8_lays_1 rfl (?_))
  refine lp_lays hp hl h88 hnm (fun I' o1 o2 h => ?_) ps.length 0 I none (by omega) ⟨fun j hj => absurd hj (Nat.not_lt_zero _), fun _ _ => rfl, fr1_rf I⟩
  have e88 : I' 88 0 = nI (ps.getD 0 0) := by rw [h.2.2 88 (by decide)]; exact h88 0 (by omega)
  refine ev_aload_n (pc := 108) dX8_lays_108 rfl (ev_getr (pc := 109) kF_8_7 dX8_lays_109 rfl rfl rfl (ev_sipush (pc := 112) (v := (200)) dX8_lays_112 sipush_c200 (ev_iload_n (pc := 115) dX8_lays_115 rfl (ev_iadd (pc := 116) dX8_lays_116 (ev_aload_n (pc := 117) dX8_lays_117 rfl (ev_getr (pc := 118) kF_8_25 dX8_lays_118 rfl rfl rfl (ev_iconst (pc := 121) (v := (0)) dX8_lays_121 iconst_c0 (ev_iald (pc := 122) (i := 0) dX8_lays_122 rfl (rfl) (by omega) rfl (?_)))))))))
  rw [e88]
  refine ev_iast (pc := 123) (i := 200 + nm) dX8_lays_123 rfl rfl (nI_add 200 _) (by omega) rfl (ev_vret (pc := 124) dX8_lays_124 rfl ?_)
  exact k _ (lyP_end hp hr h) (fr1_ui h.2.2)
end T49
