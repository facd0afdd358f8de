/-! ===== the reference: the journal, files, runs, what is left; undo, the text ===== -/
theorem cntB_pos {P : Nat → Bool} {n : Nat} (h : P n = true) : cntB P (n + 1) = cntB P n + 1 := by
  show cntB P n + (if P n then 1 else 0) = _
  rw [if_pos h]
theorem cntB_neg {P : Nat → Bool} {n : Nat} (h : P n = false) : cntB P (n + 1) = cntB P n := by
  show cntB P n + (if P n then 1 else 0) = _
  rw [if_neg (by rw [h]; decide), Nat.add_zero]
section T53
variable {d L : Nat} {I : Nat → Nat → Int32} {J : Nat → Nat → Int64} {p : Nat → Nat} {Q : Option Value → am_M → Prop} {s : Sta} {rn : Bool} {D : Nat → Int32}
theorem m_journalOf (hd : 2 ≤ d) (hm : Mod rn I s) (hw : wfD s.1) (a b : Int32) (k : Q (some (.int (oJour s a b))) (I, J, KR p)) : T d me_X8_journalOf [.ref 82, .int a, .int b] L I J p Q := by
  refine am_enter [some (.ref 82), some (.int a), some (.int b)] rfl rfl rfl rfl ?_
  unfold oJour at k
  have h := hm.1
  obtain ⟨hz, hz6⟩ := wf_z hw
  by_cases q0 : a < 0
  · rw [decide_eq_true q0, Bool.not_true, Bool.false_and, if_neg (by decide)] at k
    refine ev_iload_n (pc := 0) dX8_journalOf_0 rfl (ev_if_lt (pc := 1) 13 dX8_journalOf_1 (by decide) (kf := fun c => absurd (q0) c) (kt := fun c1 => ev_ldc (pc := 13) kC_8_79 dX8_journalOf_13 (ev_iret (pc := 15) dX8_journalOf_15 rfl ?_)))
    exact k
  rw [decide_eq_false q0, Bool.not_false, Bool.true_and] at k
  obtain ⟨g, g1, rfl⟩ := nI_of q0
  rw [nI_clamp g1] at k
  refine ev_iload_n (pc := 0) dX8_journalOf_0 rfl (ev_if_lt (pc := 1) 13 dX8_journalOf_1 (by decide) (kt := fun c => absurd c (q0)) (kf := fun c1 => ev_iload_n (pc := 4) dX8_journalOf_4 rfl (ev_iconst (pc := 5) (v := (0)) dX8_journalOf_5 iconst_c0 (ev_iconst (pc := 6) (v := (2)) dX8_journalOf_6 iconst_c2 (ev_invS (pc := 7) kS_8_52 dX8_journalOf_7 rfl (by omega) rfl ?_)))))
  refine m_in 0 2 b ?_
  cases q2 : inR 0 2 b
  · rw [q2, if_neg (by decide)] at k
    refine ev_ifb_ne (pc := 10) 16 dX8_journalOf_10 (by decide) (kt := fun c => absurd c (by simp)) (kf := fun c10 => ev_ldc (pc := 13) kC_8_79 dX8_journalOf_13 (ev_iret (pc := 15) dX8_journalOf_15 rfl ?_))
    exact k
  rw [q2, if_pos rfl] at k
  obtain ⟨w, w1, w2, rfl⟩ := inR_n (by omega) (by omega) q2
  rw [nI_clamp (by omega)] at k
  unfold jourV at k
  have e248 : I 83 248 = nI (zD s.1) := by rw [h 248 (by omega)]; exact hz
  refine ev_ifb_ne (pc := 10) 16 dX8_journalOf_10 (by decide) (kf := fun c => absurd c (by simp)) (kt := fun c10 => ev_iload_n (pc := 16) dX8_journalOf_16 rfl (ev_aload_n (pc := 17) dX8_journalOf_17 rfl (ev_getr (pc := 18) kF_8_7 dX8_journalOf_18 rfl rfl rfl (ev_sipush (pc := 21) (v := (248)) dX8_journalOf_21 sipush_c248 (ev_iald (pc := 24) (i := 248) dX8_journalOf_24 rfl (rfl) (by omega) rfl (?_))))))
  rw [e248]
  by_cases c : g < zD s.1
  · rw [if_pos c] at k
    refine ev_ncmp_ge (pc := 25) 45 (g) (zD s.1) dX8_journalOf_25 (by decide) (rfl) (rfl) (by omega) (by omega) (kt := fun c => absurd c (by omega)) (kf := fun c25 => ev_aload_n (pc := 28) dX8_journalOf_28 rfl (ev_getr (pc := 29) kF_8_7 dX8_journalOf_29 rfl rfl rfl (ev_sipush (pc := 32) (v := (230)) dX8_journalOf_32 sipush_c230 (ev_iconst (pc := 35) (v := (3)) dX8_journalOf_35 iconst_c3 (ev_iload_n (pc := 36) dX8_journalOf_36 rfl (ev_imul (pc := 37) dX8_journalOf_37 (?_)))))))
    rw [mul3 g (by omega)]
    refine ev_iadd (pc := 38) dX8_journalOf_38 (ev_iload_n (pc := 39) dX8_journalOf_39 rfl (?_))
    rw [show (230 : Int32) + nI (3 * g) = nI (230 + 3 * g) from nI_add 230 (3 * g)]
    refine ev_iadd (pc := 40) dX8_journalOf_40 (ev_iald (pc := 41) (i := 230 + 3 * g + w) dX8_journalOf_41 rfl (nI_add (230 + 3 * g) w) (by omega) rfl (?_))
    rw [h _ (by omega), show 230 + 3 * g + w = 230 + w + 3 * g by omega]
    refine ev_goto (pc := 42) 47 dX8_journalOf_42 (by decide) (ev_iret (pc := 47) dX8_journalOf_47 rfl ?_)
    exact k
  · rw [if_neg c] at k
    refine ev_ncmp_ge (pc := 25) 45 (g) (zD s.1) dX8_journalOf_25 (by decide) (rfl) (rfl) (by omega) (by omega) (kf := fun c => absurd c (by omega)) (kt := fun c25 => ev_ldc (pc := 45) kC_8_71 dX8_journalOf_45 (ev_iret (pc := 47) dX8_journalOf_47 rfl ?_))
    exact k
theorem lp_mfiles (hr : rowM I D) (hw : wfD D) (h : Q (some (.int (nI (cntB (fun n => decide (D (200 + n) ≠ -1)) 30)))) (I, J, KR p)) : ∀ n i : Nat, i + n = 30 → E me_X8_files d L 4 [some (.ref 82), some (.int (nI (cntB (fun n => decide (D (200 + n) ≠ -1)) i))), some (.int (nI i))] [] I J p Q
  | 0, i, hi => by
    have e : i = 30 := by omega
    subst e
    refine ev_iload_n (pc := 4) dX8_files_4 rfl (ev_bipush (pc := 5) (v := (30)) dX8_files_5 bipush_c30 (ev_ncmp_ge (pc := 7) 37 (30) (30) dX8_files_7 (by decide) (rfl) (rfl) (by omega) (by omega) (kf := fun c => absurd c (by omega)) (kt := fun c7 => ev_iload_n (pc := 37) dX8_files_37 rfl (ev_iret (pc := 38) dX8_files_38 rfl ?_))))
    exact h
  | n + 1, i, hi => by
    have ih := lp_mfiles hr hw h n (i + 1) (by omega)
    refine ev_iload_n (pc := 4) dX8_files_4 rfl (ev_bipush (pc := 5) (v := (30)) dX8_files_5 bipush_c30 (ev_ncmp_ge (pc := 7) 37 (i) (30) dX8_files_7 (by decide) (rfl) (rfl) (by omega) (by omega) (kt := fun c => absurd c (by omega)) (kf := fun c7 => ev_iload_n (pc := 10) dX8_files_10 rfl (?_))))
    refine ev_aload_n (pc := 11) dX8_files_11 rfl (ev_getr (pc := 12) kF_8_7 dX8_files_12 rfl rfl rfl (ev_sipush (pc := 15) (v := (200)) dX8_files_15 sipush_c200 (ev_iload_n (pc := 18) dX8_files_18 rfl (ev_iadd (pc := 19) dX8_files_19 (ev_iald (pc := 20) (i := 200 + i) dX8_files_20 rfl (nI_add 200 i) (by omega) rfl (?_))))))
    rw [hr _ (by omega)]
    by_cases q : D (200 + i) = -1
    · rw [cntB_neg (P := fun n => decide (D (200 + n) ≠ -1)) (decide_eq_false (fun c => c q))] at ih
      rw [q]
      refine ev_if_ge (pc := 21) 28 dX8_files_21 (by decide) (kt := fun c => absurd c (by decide)) (kf := fun c21 => ev_iconst (pc := 24) (v := (0)) dX8_files_24 iconst_c0 (ev_goto (pc := 25) 29 dX8_files_25 (by decide) (ev_iadd (pc := 29) dX8_files_29 (?_))))
      rw [show nI (cntB (fun n => decide (D (200 + n) ≠ -1)) i) + 0 = nI (cntB (fun n => decide (D (200 + n) ≠ -1)) i + 0) from nI_add _ 0]
      refine ev_istore_n (pc := 30) dX8_files_30 rfl (ev_iinc (pc := 31) dX8_files_31 rfl (iinc_1 _) rfl (ev_goto (pc := 34) 4 dX8_files_34 (by decide) (?_)))
      exact ih
    · rw [cntB_pos (P := fun n => decide (D (200 + n) ≠ -1)) (decide_eq_true q)] at ih
      have hp : 0 ≤ D (200 + i) := by
        rcases hw.2.1 i (by omega) with e | ⟨ps, f1, f2, f3, f4, f5, f6⟩
        · exact absurd e q
        · rw [f3]; exact nI_pos' (by have := (f6 0 (by omega)).1; omega)
      refine ev_if_ge (pc := 21) 28 dX8_files_21 (by decide) (kf := fun c => absurd (hp) c) (kt := fun c21 => ev_iconst (pc := 28) (v := (1)) dX8_files_28 iconst_c1 (ev_iadd (pc := 29) dX8_files_29 (?_)))
      rw [nI_1]
      refine ev_istore_n (pc := 30) dX8_files_30 rfl (ev_iinc (pc := 31) dX8_files_31 rfl (iinc_1 _) rfl (ev_goto (pc := 34) 4 dX8_files_34 (by decide) (?_)))
      exact ih
theorem m_files (hr : rowM I D) (hw : wfD D) (h : Q (some (.int (nI (cntB (fun n => decide (D (200 + n) ≠ -1)) 30)))) (I, J, KR p)) : T d me_X8_files [.ref 82] L I J p Q := by
  refine am_enter [some (.ref 82), none, none] rfl rfl rfl rfl ?_
  refine ev_iconst (pc := 0) (v := (0)) dX8_files_0 iconst_c0 (ev_istore_n (pc := 1) dX8_files_1 rfl (ev_iconst (pc := 2) (v := (0)) dX8_files_2 iconst_c0 (ev_istore_n (pc := 3) dX8_files_3 rfl (?_))))
  exact lp_mfiles hr hw h 30 0 rfl
theorem lp_mleft (hd : 3 ≤ d) (hr : rowM I D) (hw : wfD D) (h : Q (some (.int (nI (cntB (mkF D) 40)))) (I, J, KR p)) : ∀ n i : Nat, i + n = 40 → E me_X8_left d L 4 [some (.ref 82), some (.int (nI (cntB (mkF D) i))), some (.int (nI i))] [] I J p Q
  | 0, i, hi => by
    have e : i = 40 := by omega
    subst e
    refine ev_iload_n (pc := 4) dX8_left_4 rfl (ev_bipush (pc := 5) (v := (40)) dX8_left_5 bipush_c40 (ev_ncmp_ge (pc := 7) 43 (40) (40) dX8_left_7 (by decide) (rfl) (rfl) (by omega) (by omega) (kf := fun c => absurd c (by omega)) (kt := fun c7 => ev_iload_n (pc := 43) dX8_left_43 rfl (ev_iret (pc := 44) dX8_left_44 rfl ?_))))
    exact h
  | n + 1, i, hi => by
    have ih := lp_mleft hd hr hw h n (i + 1) (by omega)
    simp only [cntB] at ih
    have em : mkF D i = (fD D i && decide (D i ≠ 0)) := rfl
    refine ev_iload_n (pc := 4) dX8_left_4 rfl (ev_bipush (pc := 5) (v := (40)) dX8_left_5 bipush_c40 (ev_ncmp_ge (pc := 7) 43 (i) (40) dX8_left_7 (by decide) (rfl) (rfl) (by omega) (by omega) (kt := fun c => absurd c (by omega)) (kf := fun c7 => ev_iload_n (pc := 10) dX8_left_10 rfl (ev_aload_n (pc := 11) dX8_left_11 rfl (ev_iload_n (pc := 12) dX8_left_12 rfl (ev_invV (pc := 13) kV_8_68 dX8_left_13 rfl rfl rfl (by omega) rfl ?_))))))
    refine m_isFree (by omega) hr (own_wf hw) (by omega) ?_
    rw [decide_eq_true (show i < 40 by omega), Bool.true_and]
    have no : mkF D i = false → E me_X8_left d L 36 [some (.ref 82), some (.int (nI (cntB (mkF D) i))), some (.int (nI i))] [.int (nI (cntB (mkF D) i) + 0)] I J p Q := by
      intro e
      rw [e, if_neg (by decide)] at ih
      rw [show nI (cntB (mkF D) i) + 0 = nI (cntB (mkF D) i + 0) from nI_add _ 0]
      refine ev_istore_n (pc := 36) dX8_left_36 rfl (ev_iinc (pc := 37) dX8_left_37 rfl (iinc_1 _) rfl (ev_goto (pc := 40) 4 dX8_left_40 (by decide) (?_)))
      exact ih
    cases q : fD D i
    · rw [q, Bool.false_and] at em
      refine ev_ifb_eq (pc := 16) 34 dX8_left_16 (by decide) (kf := fun c => absurd c (by simp)) (kt := fun c16 => ev_iconst (pc := 34) (v := (0)) dX8_left_34 iconst_c0 (ev_iadd (pc := 35) dX8_left_35 (?_)))
      exact no em
    · rw [q, Bool.true_and] at em
      refine ev_ifb_eq (pc := 16) 34 dX8_left_16 (by decide) (kt := fun c => absurd c (by simp)) (kf := fun c16 => ev_aload_n (pc := 19) dX8_left_19 rfl (ev_getr (pc := 20) kF_8_7 dX8_left_20 rfl rfl rfl (ev_iconst (pc := 23) (v := (0)) dX8_left_23 iconst_c0 (ev_iload_n (pc := 24) dX8_left_24 rfl (ev_iadd (pc := 25) dX8_left_25 (ev_iald (pc := 26) (i := i) dX8_left_26 rfl (Int32.zero_add _) (by omega) rfl (?_)))))))
      rw [hr _ (by omega)]
      by_cases z : D i = 0
      · rw [decide_eq_false (fun c => c z)] at em
        rw [z]
        refine ev_if_le (pc := 27) 34 dX8_left_27 (by decide) (kf := fun c => absurd (by decide) c) (kt := fun c27 => ev_iconst (pc := 34) (v := (0)) dX8_left_34 iconst_c0 (ev_iadd (pc := 35) dX8_left_35 (?_)))
        exact no em
      · rw [decide_eq_true z] at em
        rw [em, if_pos rfl] at ih
        have hp : ¬ D i ≤ 0 := by
          rcases (hw.1 i (by omega)).1 with e | e | e
          · exact absurd e z
          · rw [e]; decide
          · rw [e]; decide
        refine ev_if_le (pc := 27) 34 dX8_left_27 (by decide) (kt := fun c => absurd c (hp)) (kf := fun c27 => ev_iconst (pc := 30) (v := (1)) dX8_left_30 iconst_c1 (ev_goto (pc := 31) 35 dX8_left_31 (by decide) (ev_iadd (pc := 35) dX8_left_35 (?_))))
        rw [nI_1]
        refine ev_istore_n (pc := 36) dX8_left_36 rfl (ev_iinc (pc := 37) dX8_left_37 rfl (iinc_1 _) rfl (ev_goto (pc := 40) 4 dX8_left_40 (by decide) (?_)))
        exact ih
theorem m_left (hd : 3 ≤ d) (hr : rowM I D) (hw : wfD D) (h : Q (some (.int (nI (cntB (mkF D) 40)))) (I, J, KR p)) : T d me_X8_left [.ref 82] L I J p Q := by
  refine am_enter [some (.ref 82), none, none] rfl rfl rfl rfl ?_
  refine ev_iconst (pc := 0) (v := (0)) dX8_left_0 iconst_c0 (ev_istore_n (pc := 1) dX8_left_1 rfl (ev_iconst (pc := 2) (v := (0)) dX8_left_2 iconst_c0 (ev_istore_n (pc := 3) dX8_left_3 rfl (?_))))
  exact lp_mleft hd hr hw h 40 0 rfl
theorem frR_step (P : Nat → Bool) (i : Nat) : frR P i = decide (rnP P (i + 1) = 1) := by
  have e : rnP P (i + 1) = if P i then rnP P i + 1 else 0 := rfl
  unfold frR
  by_cases h : P i = true
  · rw [if_pos h] at e
    rw [e, h, Bool.true_and]
    cases i with
    | zero => simp [rnP]
    | succ i =>
      have e2 : rnP P (i + 1) = if P i then rnP P i + 1 else 0 := rfl
      rw [e2, Nat.add_sub_cancel]
      by_cases h2 : P i = true
      · rw [if_pos h2, h2]; simp
      · rw [if_neg h2, show P i = false by simpa using h2]; simp
  · rw [if_neg h] at e
    rw [e, show P i = false by simpa using h]
    simp
theorem lp_mruns (hd : 3 ≤ d) (hr : rowM I D) (ho : ownOK D) (b : Bool) (h : Q (some (.int (if b then nI (mxP (fD D) 40) else nI (cntB (frR (fD D)) 40)))) (I, J, KR p)) : ∀ n i : Nat, i + n = 40 → E me_X8_runsOf d L 10 [some (.ref 82), some (.int (bI b)), some (.int (nI (cntB (frR (fD D)) i))), some (.int (nI (mxP (fD D) i))), some (.int (nI (rnP (fD D) i))), some (.int (nI i))] [] I J p Q
  | 0, i, hi => by
    have e : i = 40 := by omega
    subst e
    cases b
    · refine ev_iload (pc := 10) dX8_runsOf_10 rfl (ev_bipush (pc := 12) (v := (40)) dX8_runsOf_12 bipush_c40 (ev_ncmp_ge (pc := 14) 69 (40) (40) dX8_runsOf_14 (by decide) (rfl) (rfl) (by omega) (by omega) (kf := fun c => absurd c (by omega)) (kt := fun c14 => ev_iload_n (pc := 69) dX8_runsOf_69 rfl (ev_ifb_eq (pc := 70) 77 dX8_runsOf_70 (by decide) (kf := fun c => absurd c (by simp)) (kt := fun c70 => ev_iload_n (pc := 77) dX8_runsOf_77 rfl (ev_iret (pc := 78) dX8_runsOf_78 rfl ?_))))))
      exact h
    · refine ev_iload (pc := 10) dX8_runsOf_10 rfl (ev_bipush (pc := 12) (v := (40)) dX8_runsOf_12 bipush_c40 (ev_ncmp_ge (pc := 14) 69 (40) (40) dX8_runsOf_14 (by decide) (rfl) (rfl) (by omega) (by omega) (kf := fun c => absurd c (by omega)) (kt := fun c14 => ev_iload_n (pc := 69) dX8_runsOf_69 rfl (ev_ifb_eq (pc := 70) 77 dX8_runsOf_70 (by decide) (kt := fun c => absurd c (by simp)) (kf := fun c70 => ev_iload_n (pc := 73) dX8_runsOf_73 rfl (ev_goto (pc := 74) 78 dX8_runsOf_74 (by decide) (ev_iret (pc := 78) dX8_runsOf_78 rfl ?_)))))))
      exact h
  | n + 1, i, hi => by
    have ih := lp_mruns hd hr ho b h n (i + 1) (by omega)
    have l1 := rnP_le (fD D) i
    have l2 := mxP_le (fD D) i
    have l3 := rnP_le (fD D) (i + 1)
    have es : rnP (fD D) (i + 1) = if fD D i then rnP (fD D) i + 1 else 0 := rfl
    have em : mxP (fD D) (i + 1) = if mxP (fD D) i < rnP (fD D) (i + 1) then rnP (fD D) (i + 1) else mxP (fD D) i := rfl
    have ec : cntB (frR (fD D)) (i + 1) = cntB (frR (fD D)) i + if frR (fD D) i then 1 else 0 := rfl
    rw [frR_step] at ec
    have rest2 : E me_X8_runsOf d L 50 [some (.ref 82), some (.int (bI b)), some (.int (nI (cntB (frR (fD D)) (i + 1)))), some (.int (nI (mxP (fD D) i))), some (.int (nI (rnP (fD D) (i + 1)))), some (.int (nI i))] [] I J p Q := by
      generalize rnP (fD D) (i + 1) = now at *
      by_cases c : mxP (fD D) i < now
      · rw [if_pos c] at em
        rw [em] at ih
        refine ev_iload (pc := 50) dX8_runsOf_50 rfl (ev_iload_n (pc := 52) dX8_runsOf_52 rfl (ev_ncmp_le (pc := 53) 61 (now) (mxP (fD D) i) dX8_runsOf_53 (by decide) (rfl) (rfl) (by omega) (by omega) (kt := fun c => absurd c (by omega)) (kf := fun c53 => ev_iload (pc := 56) dX8_runsOf_56 rfl (ev_goto (pc := 58) 62 dX8_runsOf_58 (by decide) (ev_istore_n (pc := 62) dX8_runsOf_62 rfl (ev_iinc (pc := 63) dX8_runsOf_63 rfl (iinc_1 _) rfl (ev_goto (pc := 66) 10 dX8_runsOf_66 (by decide) (?_))))))))
        exact ih
      · rw [if_neg c] at em
        rw [em] at ih
        refine ev_iload (pc := 50) dX8_runsOf_50 rfl (ev_iload_n (pc := 52) dX8_runsOf_52 rfl (ev_ncmp_le (pc := 53) 61 (now) (mxP (fD D) i) dX8_runsOf_53 (by decide) (rfl) (rfl) (by omega) (by omega) (kf := fun c => absurd c (by omega)) (kt := fun c53 => ev_iload_n (pc := 61) dX8_runsOf_61 rfl (ev_istore_n (pc := 62) dX8_runsOf_62 rfl (ev_iinc (pc := 63) dX8_runsOf_63 rfl (iinc_1 _) rfl (ev_goto (pc := 66) 10 dX8_runsOf_66 (by decide) (?_)))))))
        exact ih
    have rest : ∀ o, E me_X8_runsOf d L 34 [some (.ref 82), some (.int (bI b)), some (.int (nI (cntB (frR (fD D)) i))), some (.int (nI (mxP (fD D) i))), some o, some (.int (nI i))] [.int (nI (rnP (fD D) (i + 1)))] I J p Q := by
      intro o
      generalize rnP (fD D) (i + 1) = now at *
      by_cases c : now = 1
      · rw [decide_eq_true c, if_pos rfl] at ec
        rw [ec] at rest2
        refine ev_istore (pc := 34) dX8_runsOf_34 rfl (ev_iload_n (pc := 36) dX8_runsOf_36 rfl (ev_iload (pc := 37) dX8_runsOf_37 rfl (ev_iconst (pc := 39) (v := (1)) dX8_runsOf_39 iconst_c1 (ev_ncmp_ne (pc := 40) 47 (now) (1) dX8_runsOf_40 (by decide) (rfl) (rfl) (by omega) (by omega) (kt := fun c => absurd c (by omega)) (kf := fun c40 => ev_iconst (pc := 43) (v := (1)) dX8_runsOf_43 iconst_c1 (ev_goto (pc := 44) 48 dX8_runsOf_44 (by decide) (ev_iadd (pc := 48) dX8_runsOf_48 (?_))))))))
        rw [nI_1]
        refine ev_istore_n (pc := 49) dX8_runsOf_49 rfl (?_)
        exact rest2
      · rw [decide_eq_false c, if_neg (by decide)] at ec
        rw [ec] at rest2
        refine ev_istore (pc := 34) dX8_runsOf_34 rfl (ev_iload_n (pc := 36) dX8_runsOf_36 rfl (ev_iload (pc := 37) dX8_runsOf_37 rfl (ev_iconst (pc := 39) (v := (1)) dX8_runsOf_39 iconst_c1 (ev_ncmp_ne (pc := 40) 47 (now) (1) dX8_runsOf_40 (by decide) (rfl) (rfl) (by omega) (by omega) (kf := fun c => absurd c (by omega)) (kt := fun c40 => ev_iconst (pc := 47) (v := (0)) dX8_runsOf_47 iconst_c0 (ev_iadd (pc := 48) dX8_runsOf_48 (?_)))))))
        rw [show nI (cntB (frR (fD D)) i) + 0 = nI (cntB (frR (fD D)) i + 0) from nI_add _ 0]
        refine ev_istore_n (pc := 49) dX8_runsOf_49 rfl (?_)
        exact rest2
    refine ev_iload (pc := 10) dX8_runsOf_10 rfl (ev_bipush (pc := 12) (v := (40)) dX8_runsOf_12 bipush_c40 (ev_ncmp_ge (pc := 14) 69 (i) (40) dX8_runsOf_14 (by decide) (rfl) (rfl) (by omega) (by omega) (kt := fun c => absurd c (by omega)) (kf := fun c14 => ev_aload_n (pc := 17) dX8_runsOf_17 rfl (ev_iload (pc := 18) dX8_runsOf_18 rfl (ev_invV (pc := 20) kV_8_68 dX8_runsOf_20 rfl rfl rfl (by omega) rfl ?_)))))
    refine m_isFree (by omega) hr ho (by omega) ?_
    rw [decide_eq_true (show i < 40 by omega), Bool.true_and]
    cases q : fD D i
    · rw [q, if_neg (by decide)] at es
      rw [es] at rest
      refine ev_ifb_eq (pc := 23) 33 dX8_runsOf_23 (by decide) (kf := fun c => absurd c (by simp)) (kt := fun c23 => ev_iconst (pc := 33) (v := (0)) dX8_runsOf_33 iconst_c0 (?_))
      exact rest _
    · rw [q, if_pos rfl] at es
      rw [es] at rest
      refine ev_ifb_eq (pc := 23) 33 dX8_runsOf_23 (by decide) (kt := fun c => absurd c (by simp)) (kf := fun c23 => ev_iload (pc := 26) dX8_runsOf_26 rfl (ev_iconst (pc := 28) (v := (1)) dX8_runsOf_28 iconst_c1 (ev_iadd (pc := 29) dX8_runsOf_29 (?_))))
      rw [nI_1]
      refine ev_goto (pc := 30) 34 dX8_runsOf_30 (by decide) (?_)
      exact rest _
theorem m_runsOf (hd : 3 ≤ d) (hr : rowM I D) (ho : ownOK D) (b : Bool) (h : Q (some (.int (if b then nI (mxP (fD D) 40) else nI (cntB (frR (fD D)) 40)))) (I, J, KR p)) : T d me_X8_runsOf [.ref 82, .int (bI b)] L I J p Q := by
  refine am_enter [some (.ref 82), some (.int (bI b)), none, none, none, none] rfl rfl rfl rfl ?_
  refine ev_iconst (pc := 0) (v := (0)) dX8_runsOf_0 iconst_c0 (ev_istore_n (pc := 1) dX8_runsOf_1 rfl (ev_iconst (pc := 2) (v := (0)) dX8_runsOf_2 iconst_c0 (ev_istore_n (pc := 3) dX8_runsOf_3 rfl (ev_iconst (pc := 4) (v := (0)) dX8_runsOf_4 iconst_c0 (ev_istore (pc := 5) dX8_runsOf_5 rfl (ev_iconst (pc := 7) (v := (0)) dX8_runsOf_7 iconst_c0 (ev_istore (pc := 8) dX8_runsOf_8 rfl (?_))))))))
  exact lp_mruns hd hr ho b h 40 0 rfl
theorem m_type (hd : 2 ≤ d) (hm : Mod rn I s) (hw : s.2.2.2.1 ≤ 60) (a : Int32) (k : ∀ I', Mod rn I' (oType s a).2 → mfr I I' → Q (some (.int (oType s a).1)) (I', J, KR p)) : T d me_X8_type [.ref 82, .int a] L I J p Q := by
  refine am_enter [some (.ref 82), some (.int a)] rfl rfl rfl rfl ?_
  unfold oType at k
  refine ev_iload_n (pc := 0) dX8_type_0 rfl (ev_bipush (pc := 1) (v := (32)) dX8_type_1 bipush_c32 (ev_bipush (pc := 3) (v := (126)) dX8_type_3 bipush_c126 (ev_invS (pc := 5) kS_8_52 dX8_type_5 rfl (by omega) rfl ?_)))
  refine m_in 32 126 a ?_
  cases q1 : inR 32 126 a
  · rw [q1, if_neg (by decide)] at k
    refine ev_ifb_ne (pc := 8) 14 dX8_type_8 (by decide) (kt := fun c => absurd c (by simp)) (kf := fun c8 => ev_ldc (pc := 11) kC_8_79 dX8_type_11 (ev_iret (pc := 13) dX8_type_13 rfl ?_))
    exact k I hm (fun _ _ => rfl)
  rw [q1, if_pos rfl] at k
  obtain ⟨z1, z2, z3, z4, z5, z6⟩ := hm
  by_cases c : s.2.2.2.1 < 60
  · rw [if_pos c] at k
    refine ev_ifb_ne (pc := 8) 14 dX8_type_8 (by decide) (kf := fun c => absurd c (by simp)) (kt := fun c8 => ev_aload_n (pc := 14) dX8_type_14 rfl (ev_geti (pc := 15) kF_8_159 dX8_type_15 rfl rfl (ev_bipush (pc := 18) (v := (60)) dX8_type_18 bipush_c60 (ev_ncmp_ne (pc := 20) 26 (s.2.2.2.1) (60) dX8_type_20 (by decide) (z5) (rfl) (by omega) (by omega) (kf := fun c => absurd c (by omega)) (kt := fun c20 => ev_aload_n (pc := 26) dX8_type_26 rfl (ev_getr (pc := 27) kF_8_22 dX8_type_27 rfl rfl rfl (ev_aload_n (pc := 30) dX8_type_30 rfl (ev_geti (pc := 31) kF_8_159 dX8_type_31 rfl rfl (ev_iload_n (pc := 34) dX8_type_34 rfl (?_))))))))))
    refine ev_iast (pc := 35) (i := s.2.2.2.1) dX8_type_35 rfl rfl (z5) (by omega) rfl (ev_aload_n (pc := 36) dX8_type_36 rfl (ev_dup (pc := 37) dX8_type_37 rfl (ev_geti (pc := 38) kF_8_159 dX8_type_38 rfl rfl (?_))))
    rw [show ui I 87 s.2.2.2.1 a 82 7 = nI s.2.2.2.1 by simp [ui, z5]]
    refine ev_iconst (pc := 41) (v := (1)) dX8_type_41 iconst_c1 (ev_iadd (pc := 42) dX8_type_42 (?_))
    rw [nI_1]
    refine ev_puti (pc := 43) kF_8_159 dX8_type_43 rfl rfl rfl rfl rfl (ev_aload_n (pc := 46) dX8_type_46 rfl (ev_geti (pc := 47) kF_8_159 dX8_type_47 rfl rfl (ev_iret (pc := 50) dX8_type_50 rfl ?_)))
    have e7 : ui (ui I 87 s.2.2.2.1 a) 82 7 (nI (s.2.2.2.1 + 1)) 82 7 = nI (s.2.2.2.1 + 1) := by simp [ui]
    rw [e7]
    have g : ∀ c, c ≠ 82 → c ≠ 87 → ui (ui I 87 s.2.2.2.1 a) 82 7 (nI (s.2.2.2.1 + 1)) c = I c := fun c h1 h2 => by
      funext y
      simp only [ui]
      rw [if_neg (by omega), if_neg (by omega)]
    refine k _ ⟨rowM_of z1 (g 83 (by decide) (by decide)), ?_, fun j hj i hi => by rw [g 84 (by decide) (by decide)]; exact z3 j hj i hi, ?_, e7, fun i hi => ?_⟩ (fun b hb => g b (by omega) (by omega))
    · show ui (ui I 87 s.2.2.2.1 a) 82 7 (nI (s.2.2.2.1 + 1)) 82 4 = _
      simp [ui, z2]
    · show ui (ui I 87 s.2.2.2.1 a) 82 7 (nI (s.2.2.2.1 + 1)) 82 5 = _
      simp [ui, z4]
    · dsimp only at hi ⊢
      by_cases c : i = s.2.2.2.1
      · rw [if_pos c, c]
        simp [ui]
      · rw [if_neg c, ← z6 i (by omega)]
        simp [ui, c]
  · rw [if_neg c] at k
    refine ev_ifb_ne (pc := 8) 14 dX8_type_8 (by decide) (kf := fun c => absurd c (by simp)) (kt := fun c8 => ev_aload_n (pc := 14) dX8_type_14 rfl (ev_geti (pc := 15) kF_8_159 dX8_type_15 rfl rfl (ev_bipush (pc := 18) (v := (60)) dX8_type_18 bipush_c60 (ev_ncmp_ne (pc := 20) 26 (s.2.2.2.1) (60) dX8_type_20 (by decide) (z5) (rfl) (by omega) (by omega) (kt := fun c => absurd c (by omega)) (kf := fun c20 => ev_ldc (pc := 23) kC_8_85 dX8_type_23 (ev_iret (pc := 25) dX8_type_25 rfl ?_))))))
    exact k I ⟨z1, z2, z3, z4, z5, z6⟩ (fun _ _ => rfl)
theorem m_clearText (hm : Mod rn I s) (k : ∀ I', Mod rn I' (oClear s).2 → mfr I I' → Q (some (.int (oClear s).1)) (I', J, KR p)) : T d me_X8_clearText [.ref 82] L I J p Q := by
  refine am_enter [some (.ref 82), none] rfl rfl rfl rfl ?_
  unfold oClear at k
  obtain ⟨z1, z2, z3, z4, z5, z6⟩ := hm
  refine ev_aload_n (pc := 0) dX8_clearText_0 rfl (ev_geti (pc := 1) kF_8_159 dX8_clearText_1 rfl rfl (ev_istore_n (pc := 4) dX8_clearText_4 rfl (ev_aload_n (pc := 5) dX8_clearText_5 rfl (ev_iconst (pc := 6) (v := (0)) dX8_clearText_6 iconst_c0 (ev_puti (pc := 7) kF_8_159 dX8_clearText_7 rfl rfl rfl rfl rfl (ev_iload_n (pc := 10) dX8_clearText_10 rfl (ev_iret (pc := 11) dX8_clearText_11 rfl ?_)))))))
  have g : ∀ c, c ≠ 82 → ui I 82 7 0 c = I c := fun c h1 => by
    funext y
    simp only [ui]
    rw [if_neg (by omega)]
  rw [z5]
  refine k _ ⟨rowM_of z1 (g 83 (by decide)), ?_, fun j hj i hi => by rw [g 84 (by decide)]; exact z3 j hj i hi, ?_, ?_, fun i hi => absurd hi (Nat.not_lt_zero _)⟩ (fun b hb => g b (by omega))
  · show ui I 82 7 0 82 4 = _
    simp [ui, z2]
  · show ui I 82 7 0 82 5 = _
    simp [ui, z4]
  · show ui I 82 7 0 82 7 = _
    simp [ui]
    rfl
theorem lp_mundo {n0 : Nat} (hn : n0 < 4) (I : Nat → Nat → Int32) (h4 : I 82 4 = nI n0) (h : ∀ I', (∀ i, i < 252 → I' 83 i = I 84 (252 * n0 + i)) → fr1 83 I I' → E me_X8_undo d L 56 [some (.ref 82), some (.int (nI 252))] [] I' J p Q) : ∀ (n i : Nat) (I1 : Nat → Nat → Int32), i + n = 252 → (∀ j, j < i → I1 83 j = I 84 (252 * n0 + j)) → fr1 83 I I1 → E me_X8_undo d L 22 [some (.ref 82), some (.int (nI i))] [] I1 J p Q
  | 0, i, I1, hi, h1, h2 => by
    have e : i = 252 := by omega
    subst e
    refine ev_iload_n (pc := 22) dX8_undo_22 rfl (ev_sipush (pc := 23) (v := (252)) dX8_undo_23 sipush_c252 (ev_ncmp_ge (pc := 26) 56 (252) (252) dX8_undo_26 (by decide) (rfl) (rfl) (by omega) (by omega) (kf := fun c => absurd c (by omega)) (kt := fun c26 => ?_)))
    exact h I1 h1 h2
  | n + 1, i, I1, hi, h1, h2 => by
    refine ev_iload_n (pc := 22) dX8_undo_22 rfl (ev_sipush (pc := 23) (v := (252)) dX8_undo_23 sipush_c252 (ev_ncmp_ge (pc := 26) 56 (i) (252) dX8_undo_26 (by decide) (rfl) (rfl) (by omega) (by omega) (kt := fun c => absurd c (by omega)) (kf := fun c26 => ?_)))
    refine ev_aload_n (pc := 29) dX8_undo_29 rfl (ev_getr (pc := 30) kF_8_7 dX8_undo_30 rfl rfl rfl (ev_iload_n (pc := 33) dX8_undo_33 rfl (ev_aload_n (pc := 34) dX8_undo_34 rfl (ev_getr (pc := 35) kF_8_13 dX8_undo_35 rfl rfl rfl (ev_sipush (pc := 38) (v := (252)) dX8_undo_38 sipush_c252 (ev_aload_n (pc := 41) dX8_undo_41 rfl (ev_geti (pc := 42) kF_8_60 dX8_undo_42 rfl rfl (?_))))))))
    rw [h2 82 (by decide), h4]
    refine ev_imul (pc := 45) dX8_undo_45 (?_)
    rw [show (252 : Int32) * nI n0 = nI (252 * n0) from mul252 n0 hn]
    refine ev_iload_n (pc := 46) dX8_undo_46 rfl (ev_iadd (pc := 47) dX8_undo_47 (ev_iald (pc := 48) (i := 252 * n0 + i) dX8_undo_48 rfl (nI_add (252 * n0) i) (by omega) rfl (?_)))
    rw [h2 84 (by decide)]
    refine ev_iast (pc := 49) (i := i) dX8_undo_49 rfl rfl (rfl) (by omega) rfl (ev_iinc (pc := 50) dX8_undo_50 rfl (iinc_1 _) rfl (ev_goto (pc := 53) 22 dX8_undo_53 (by decide) (?_)))
    refine lp_mundo hn I h4 h n (i + 1) _ (by omega) (fun j hj => ?_) (fr1_ui h2)
    simp only [ui, true_and]
    by_cases e : j = i
    · rw [if_pos e, e]
    · rw [if_neg e]
      exact h1 j (by omega)
theorem m_undo (hm : Mod rn I s) (hn : s.2.1 ≤ 4) (k : ∀ I', Mod rn I' (oUndo s).2 → mfr I I' → Q (some (.int (oUndo s).1)) (I', J, KR p)) : T d me_X8_undo [.ref 82] L I J p Q := by
  refine am_enter [some (.ref 82), none] rfl rfl rfl rfl ?_
  unfold oUndo at k
  obtain ⟨z1, z2, z3, z4, z5, z6⟩ := hm
  refine ev_aload_n (pc := 0) dX8_undo_0 rfl (ev_geti (pc := 1) kF_8_60 dX8_undo_1 rfl rfl (?_))
  rw [z2]
  by_cases q : s.2.1 = 0
  · rw [if_pos q] at k
    rw [q]
    refine ev_if_ne (pc := 4) 10 dX8_undo_4 (by decide) (kt := fun c => absurd (rfl) c) (kf := fun c4 => ev_ldc (pc := 7) kC_8_80 dX8_undo_7 (ev_iret (pc := 9) dX8_undo_9 rfl ?_))
    exact k I ⟨z1, z2, z3, z4, z5, z6⟩ (fun _ _ => rfl)
  · rw [if_neg q] at k
    refine ev_if_ne (pc := 4) 10 dX8_undo_4 (by decide) (kf := fun c => absurd c (nI_ne0 (by omega) (by omega))) (kt := fun c4 => ev_aload_n (pc := 10) dX8_undo_10 rfl (ev_dup (pc := 11) dX8_undo_11 rfl (ev_geti (pc := 12) kF_8_60 dX8_undo_12 rfl rfl (?_))))
    rw [z2]
    refine ev_iconst (pc := 15) (v := (1)) dX8_undo_15 iconst_c1 (ev_isub (pc := 16) dX8_undo_16 (?_))
    rw [show nI s.2.1 - 1 = nI (s.2.1 - 1) from nI_less (a := s.2.1) (b := 1) (by omega)]
    refine ev_puti (pc := 17) kF_8_60 dX8_undo_17 rfl rfl rfl rfl rfl (ev_iconst (pc := 20) (v := (0)) dX8_undo_20 iconst_c0 (ev_istore_n (pc := 21) dX8_undo_21 rfl (?_)))
    have g : ∀ c, c ≠ 82 → ui I 82 4 (nI (s.2.1 - 1)) c = I c := fun c h1 => by
      funext y
      simp only [ui]
      rw [if_neg (by omega)]
    refine lp_mundo (n0 := s.2.1 - 1) (by omega) _ (by simp [ui]) (fun I' g1 g2 => ?_) 252 0 _ rfl (fun j hj => absurd hj (Nat.not_lt_zero _)) (fr1_rf _)
    have e4 : I' 82 4 = nI (s.2.1 - 1) := by rw [g2 82 (by decide)]; simp [ui]
    refine ev_aload_n (pc := 56) dX8_undo_56 rfl (ev_geti (pc := 57) kF_8_60 dX8_undo_57 rfl rfl (ev_iret (pc := 60) dX8_undo_60 rfl ?_))
    rw [e4]
    refine k I' ⟨fun i hi => ?_, e4, fun j hj i hi => ?_, ?_, ?_, fun i hi => ?_⟩ (fun b hb => by rw [g2 b (by omega), g b (by omega)])
    · rw [g1 i hi, g 84 (by decide)]
      exact z3 (s.2.1 - 1) (by omega) i hi
    · dsimp only at hj
      rw [g2 84 (by decide), g 84 (by decide)]
      exact z3 j (by omega) i hi
    · rw [g2 82 (by decide)]
      simp [ui, z4]
    · rw [g2 82 (by decide)]
      simp [ui, z5]
    · rw [g2 87 (by decide), g 87 (by decide)]
      exact z6 i hi
end T53
