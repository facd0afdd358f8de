/-! ===== the reference: the order of the guesses ===== -/
def rkR (D : Nat → Int32) (g k : Nat) : Bool := bfo (scD D (fD D)) ((flD D).getD k 0) ((flD D).getD g 0)
def rkF (D : Nat → Int32) (g : Nat) : Nat := cntB (rkR D g) (flD D).length
theorem rk_cL {D : Nat → Int32} {g : Nat} : rkF D g = cL (fun y => bfo (scD D (fD D)) y ((flD D).getD g 0)) (glD D (fD D)) := by
  have e : rkF D g = cL (fun y => bfo (scD D (fD D)) y ((flD D).getD g 0)) (flD D) := cnt_all (R := fun y => bfo (scD D (fD D)) y ((flD D).getD g 0)) (l := flD D)
  rw [e]
  exact cL_fl 40
theorem fg_mem {D : Nat → Int32} {y : Nat} : y ∈ flD D ↔ y ∈ glD D (fD D) := by
  show y ∈ flP (fpD D (fD D)) 40 ↔ y ∈ gsL _ (fpD D (fD D)) 40
  rw [fl_mem, gsL_mem]
theorem fg_len {D : Nat → Int32} : (flD D).length = (glD D (fD D)).length := by
  show (flP (fpD D (fD D)) 40).length = (gsL _ (fpD D (fD D)) 40).length
  rw [fl_len, gsL_len]
theorem rk_at {D : Nat → Int32} {k : Nat} (hk : k < (glD D (fD D)).length) : ∃ g, g < (flD D).length ∧ (flD D).getD g 0 = (glD D (fD D)).getD k 0 ∧ rkF D g = k := by
  obtain ⟨g, g1, g2⟩ := mem_getD (fg_mem.mpr (getD_mem hk))
  refine ⟨g, g1, g2, ?_⟩
  rw [rk_cL, g2]
  exact rank (pw_gs 40) k hk
theorem rk_of {D : Nat → Int32} {g : Nat} (hg : g < (flD D).length) : rkF D g < (glD D (fD D)).length ∧ (glD D (fD D)).getD (rkF D g) 0 = (flD D).getD g 0 := by
  obtain ⟨k, k1, k2⟩ := mem_getD (fg_mem.mp (getD_mem hg))
  have : rkF D g = k := by
    rw [rk_cL, ← k2]
    exact rank (pw_gs 40) k k1
  rw [this]
  exact ⟨k1, k2⟩
theorem rk_inj {D : Nat → Int32} {g j : Nat} (hg : g < (flD D).length) (hj : j < (flD D).length) (h : rkF D g = rkF D j) : g = j := by
  have e : (flD D).getD g 0 = (flD D).getD j 0 := by rw [← (rk_of hg).2, ← (rk_of hj).2, h]
  rcases Nat.lt_trichotomy g j with c | c | c
  · have := fl_asc (P := fpD D (fD D)) 40 g j c hj
    exact absurd e (Nat.ne_of_lt this)
  · exact c
  · have := fl_asc (P := fpD D (fD D)) 40 j g c hg
    exact absurd e.symm (Nat.ne_of_lt this)
section T58
variable {d L : Nat} {I : Nat → Nat → Int32} {J : Nat → Nat → Int64} {p : Nat → Nat} {Q : Option Value → am_M → Prop} {D : Nat → Int32}
theorem lp_ga3 {g : Nat} (hg : g < (flD D).length) (hA : gaA D I (flD D)) (k : E me_X8_guessAll d L 115 [some (.ref 82), some (.int (nI g)), some (.int (nI (rkF D g))), some (.int (nI (flD D).length))] [] I J p Q) : ∀ n i : Nat, i + n = (flD D).length → E me_X8_guessAll d L 58 [some (.ref 82), some (.int (nI g)), some (.int (nI (cntB (rkR D g) i))), some (.int (nI i))] [] I J p Q
  | 0, i, hi => by
    have e : i = (flD D).length := by omega
    have hl : (flD D).length ≤ 40 := fl_len40 (Nat.le_refl _)
    subst e
    refine ev_iload_n (pc := 58) dX8_guessAll_58 rfl (ev_aload_n (pc := 59) dX8_guessAll_59 rfl (ev_geti (pc := 60) kF_8_110 dX8_guessAll_60 rfl rfl (ev_ncmp_ge (pc := 63) 115 ((flD D).length) ((flD D).length) dX8_guessAll_63 (by decide) (rfl) (hA.1) (by omega) (by omega) (kf := fun c => absurd c (by omega)) (kt := fun c63 => ?_))))
    exact k
  | n + 1, i, hi => by
    have ih := lp_ga3 hg hA k n (i + 1) (by omega)
    have hl : (flD D).length ≤ 40 := fl_len40 (Nat.le_refl _)
    have e1 := (hA.2 i (by omega)).2.2.2.2
    have e2 := (hA.2 g hg).2.2.2.2
    have er : rkR D g i = (decide (scD D (fD D) ((flD D).getD g 0) < scD D (fD D) ((flD D).getD i 0)) || (decide ((flD D).getD i 0 < (flD D).getD g 0) && decide (scD D (fD D) ((flD D).getD i 0) = scD D (fD D) ((flD D).getD g 0)))) := rfl
    have no : rkR D g i = false → E me_X8_guessAll d L 106 [some (.ref 82), some (.int (nI g)), some (.int (nI (cntB (rkR D g) i))), some (.int (nI i))] [.int (nI (cntB (rkR D g) i))] I J p Q := by
      intro e
      rw [cntB_neg e] at ih
      refine ev_iconst (pc := 106) (v := (0)) dX8_guessAll_106 iconst_c0 (ev_iadd (pc := 107) dX8_guessAll_107 (?_))
      rw [show nI (cntB (rkR D g) i) + 0 = nI (cntB (rkR D g) i) from nI_add _ 0]
      refine ev_istore_n (pc := 108) dX8_guessAll_108 rfl (ev_iinc (pc := 109) dX8_guessAll_109 rfl (iinc_1 _) rfl (ev_goto (pc := 112) 58 dX8_guessAll_112 (by decide) (?_)))
      exact ih
    have yes : rkR D g i = true → E me_X8_guessAll d L 102 [some (.ref 82), some (.int (nI g)), some (.int (nI (cntB (rkR D g) i))), some (.int (nI i))] [.int (nI (cntB (rkR D g) i))] I J p Q := by
      intro e
      rw [cntB_pos e] at ih
      refine ev_iconst (pc := 102) (v := (1)) dX8_guessAll_102 iconst_c1 (ev_goto (pc := 103) 107 dX8_guessAll_103 (by decide) (ev_iadd (pc := 107) dX8_guessAll_107 (?_)))
      rw [nI_1]
      refine ev_istore_n (pc := 108) dX8_guessAll_108 rfl (ev_iinc (pc := 109) dX8_guessAll_109 rfl (iinc_1 _) rfl (ev_goto (pc := 112) 58 dX8_guessAll_112 (by decide) (?_)))
      exact ih
    refine ev_iload_n (pc := 58) dX8_guessAll_58 rfl (ev_aload_n (pc := 59) dX8_guessAll_59 rfl (ev_geti (pc := 60) kF_8_110 dX8_guessAll_60 rfl rfl (ev_ncmp_ge (pc := 63) 115 (i) ((flD D).length) dX8_guessAll_63 (by decide) (rfl) (hA.1) (by omega) (by omega) (kt := fun c => absurd c (by omega)) (kf := fun c63 => ?_))))
    refine ev_iload_n (pc := 66) dX8_guessAll_66 rfl (ev_aload_n (pc := 67) dX8_guessAll_67 rfl (ev_getr (pc := 68) kF_8_40 dX8_guessAll_68 rfl rfl rfl (ev_iload_n (pc := 71) dX8_guessAll_71 rfl (ev_iald (pc := 72) (i := i) dX8_guessAll_72 rfl (rfl) (by omega) rfl (?_)))))
    rw [e1]
    refine ev_aload_n (pc := 73) dX8_guessAll_73 rfl (ev_getr (pc := 74) kF_8_40 dX8_guessAll_74 rfl rfl rfl (ev_iload_n (pc := 77) dX8_guessAll_77 rfl (ev_iald (pc := 78) (i := g) dX8_guessAll_78 rfl (rfl) (by omega) rfl (?_))))
    rw [e2]
    by_cases q1 : scD D (fD D) ((flD D).getD g 0) < scD D (fD D) ((flD D).getD i 0)
    · rw [decide_eq_true q1, Bool.true_or] at er
      refine ev_icmp_gt (pc := 79) 102 dX8_guessAll_79 (by decide) (kf := fun c => absurd (q1) c) (kt := fun c79 => ?_)
      exact yes er
    · rw [decide_eq_false q1, Bool.false_or] at er
      by_cases q2 : i < g
      · have a1 := fl_asc (P := fpD D (fD D)) 40 i g q2 hg
        rw [decide_eq_true (show (flD D).getD i 0 < (flD D).getD g 0 from a1), Bool.true_and] at er
        refine ev_icmp_gt (pc := 79) 102 dX8_guessAll_79 (by decide) (kt := fun c => absurd c (q1)) (kf := fun c79 => ev_iload_n (pc := 82) dX8_guessAll_82 rfl (ev_iload_n (pc := 83) dX8_guessAll_83 rfl (ev_ncmp_ge (pc := 84) 106 (i) (g) dX8_guessAll_84 (by decide) (rfl) (rfl) (by omega) (by omega) (kt := fun c => absurd c (by omega)) (kf := fun c84 => ev_aload_n (pc := 87) dX8_guessAll_87 rfl (ev_getr (pc := 88) kF_8_40 dX8_guessAll_88 rfl rfl rfl (ev_iload_n (pc := 91) dX8_guessAll_91 rfl (ev_iald (pc := 92) (i := i) dX8_guessAll_92 rfl (rfl) (by omega) rfl (?_))))))))
        rw [e1]
        refine ev_aload_n (pc := 93) dX8_guessAll_93 rfl (ev_getr (pc := 94) kF_8_40 dX8_guessAll_94 rfl rfl rfl (ev_iload_n (pc := 97) dX8_guessAll_97 rfl (ev_iald (pc := 98) (i := g) dX8_guessAll_98 rfl (rfl) (by omega) rfl (?_))))
        rw [e2]
        by_cases q3 : scD D (fD D) ((flD D).getD i 0) = scD D (fD D) ((flD D).getD g 0)
        · rw [decide_eq_true q3] at er
          refine ev_icmp_ne (pc := 99) 106 dX8_guessAll_99 (by decide) (kt := fun c => absurd (q3) c) (kf := fun c99 => ?_)
          exact yes er
        · rw [decide_eq_false q3] at er
          refine ev_icmp_ne (pc := 99) 106 dX8_guessAll_99 (by decide) (kf := fun c => absurd c (q3)) (kt := fun c99 => ?_)
          exact no er
      · have a1 : ¬ (flD D).getD i 0 < (flD D).getD g 0 := by
          by_cases e : i = g
          · rw [e]; exact Nat.lt_irrefl _
          · exact Nat.lt_asymm (fl_asc (P := fpD D (fD D)) 40 g i (by omega) (by show i < (flD D).length; omega))
        rw [decide_eq_false a1, Bool.false_and] at er
        refine ev_icmp_gt (pc := 79) 102 dX8_guessAll_79 (by decide) (kt := fun c => absurd c (q1)) (kf := fun c79 => ev_iload_n (pc := 82) dX8_guessAll_82 rfl (ev_iload_n (pc := 83) dX8_guessAll_83 rfl (ev_ncmp_ge (pc := 84) 106 (i) (g) dX8_guessAll_84 (by decide) (rfl) (rfl) (by omega) (by omega) (kf := fun c => absurd c (by omega)) (kt := fun c84 => ?_))))
        exact no er
theorem lp_ga2 (hA : gaA D I (flD D)) (k : ∀ I' o2 o3, (∀ j, j < (flD D).length → I' 95 (rkF D j) = nI j) → fr1 95 I I' → E me_X8_guessAll d L 128 [some (.ref 82), some (.int (nI (flD D).length)), o2, o3] [] I' J p Q) : ∀ (n g : Nat) (I1 : Nat → Nat → Int32) (o2 o3 : Option Value), g + n = (flD D).length → (∀ j, j < g → I1 95 (rkF D j) = nI j) → fr1 95 I I1 → E me_X8_guessAll d L 46 [some (.ref 82), some (.int (nI g)), o2, o3] [] I1 J p Q
  | 0, g, I1, o2, o3, hg, h1, h2 => by
    have e : g = (flD D).length := by omega
    have hl : (flD D).length ≤ 40 := fl_len40 (Nat.le_refl _)
    have h9 : I1 82 9 = nI (flD D).length := by rw [h2 82 (by decide)]; exact hA.1
    subst e
    refine ev_iload_n (pc := 46) dX8_guessAll_46 rfl (ev_aload_n (pc := 47) dX8_guessAll_47 rfl (ev_geti (pc := 48) kF_8_110 dX8_guessAll_48 rfl rfl (ev_ncmp_ge (pc := 51) 128 ((flD D).length) ((flD D).length) dX8_guessAll_51 (by decide) (rfl) (h9) (by omega) (by omega) (kf := fun c => absurd c (by omega)) (kt := fun c51 => ?_))))
    exact k I1 _ _ h1 h2
  | n + 1, g, I1, o2, o3, hg, h1, h2 => by
    have hl : (flD D).length ≤ 40 := fl_len40 (Nat.le_refl _)
    have h9 : I1 82 9 = nI (flD D).length := by rw [h2 82 (by decide)]; exact hA.1
    have hA1 : gaA D I1 (flD D) := by
      refine ⟨h9, fun k hk => ?_⟩
      obtain ⟨b1, b2, b3, b4, b5⟩ := hA.2 k hk
      exact ⟨by rw [h2 89 (by decide)]; exact b1, gu_y b2 (h2 90 (by decide)) (h2 94 (by decide)), by rw [h2 91 (by decide)]; exact b3, by rw [h2 92 (by decide)]; exact b4, by rw [h2 93 (by decide)]; exact b5⟩
    have hk := (rk_of (D := D) (g := g) (by omega)).1
    rw [← fg_len] at hk
    refine ev_iload_n (pc := 46) dX8_guessAll_46 rfl (ev_aload_n (pc := 47) dX8_guessAll_47 rfl (ev_geti (pc := 48) kF_8_110 dX8_guessAll_48 rfl rfl (ev_ncmp_ge (pc := 51) 128 (g) ((flD D).length) dX8_guessAll_51 (by decide) (rfl) (h9) (by omega) (by omega) (kt := fun c => absurd c (by omega)) (kf := fun c51 => ev_iconst (pc := 54) (v := (0)) dX8_guessAll_54 iconst_c0 (ev_istore_n (pc := 55) dX8_guessAll_55 rfl (ev_iconst (pc := 56) (v := (0)) dX8_guessAll_56 iconst_c0 (ev_istore_n (pc := 57) dX8_guessAll_57 rfl (?_))))))))
    refine lp_ga3 (by omega) hA1 ?_ (flD D).length 0 (by omega)
    refine ev_aload_n (pc := 115) dX8_guessAll_115 rfl (ev_getr (pc := 116) kF_8_46 dX8_guessAll_116 rfl rfl rfl (ev_iload_n (pc := 119) dX8_guessAll_119 rfl (ev_iload_n (pc := 120) dX8_guessAll_120 rfl (ev_iast (pc := 121) (i := rkF D g) dX8_guessAll_121 rfl rfl (rfl) (by omega) rfl (ev_iinc (pc := 122) dX8_guessAll_122 rfl (iinc_1 _) rfl (ev_goto (pc := 125) 46 dX8_guessAll_125 (by decide) (?_)))))))
    refine lp_ga2 hA k n (g + 1) _ _ _ (by omega) (fun j hj => ?_) (fr1_ui h2)
    simp only [ui]
    by_cases e : j = g
    · rw [if_pos ⟨trivial, by rw [e]⟩, e]
    · rw [if_neg (fun q => e (rk_inj (by omega) (by omega) q.2))]
      exact h1 j (by omega)
theorem m_guessAll (hd : 6 ≤ d) (hr : rowM I D) (hw : wfG D) (k : ∀ I', gaA D I' (flD D) → gaO D I' → gaF I I' → Q none (I', J, KR p)) : T d me_X8_guessAll [.ref 82] L I J p Q := by
  refine am_enter [some (.ref 82), none, none, none] rfl rfl rfl rfl ?_
  refine ev_aload_n (pc := 0) dX8_guessAll_0 rfl (ev_iconst (pc := 1) (v := (0)) dX8_guessAll_1 iconst_c0 (ev_puti (pc := 2) kF_8_110 dX8_guessAll_2 rfl rfl rfl rfl rfl (ev_iconst (pc := 5) (v := (0)) dX8_guessAll_5 iconst_c0 (ev_istore_n (pc := 6) dX8_guessAll_6 rfl (?_)))))
  refine lp_ga1 hd (rowM_ne hr (by decide) _ _) hw (fun I1 h1 h2 => ?_) 40 0 _ rfl ⟨by simp [ui]; rfl, fun k hk => by simp [flP] at hk⟩ (gaF_rf _)
  refine ev_iconst (pc := 44) (v := (0)) dX8_guessAll_44 iconst_c0 (ev_istore_n (pc := 45) dX8_guessAll_45 rfl (?_))
  refine lp_ga2 h1 (fun I2 o2 o3 g1 g2 => ?_) (flD D).length 0 I1 _ _ (by omega) (fun j hj => absurd hj (Nat.not_lt_zero _)) (fr1_rf _)
  refine ev_vret (pc := 128) dX8_guessAll_128 rfl ?_
  refine k I2 ⟨by rw [g2 82 (by decide)]; exact h1.1, fun k hk => ?_⟩ (fun k hk => ?_) ⟨fun c hc => ?_, fun i hi => ?_⟩
  · obtain ⟨b1, b2, b3, b4, b5⟩ := h1.2 k hk
    exact ⟨by rw [g2 89 (by decide)]; exact b1, gu_y b2 (g2 90 (by decide)) (g2 94 (by decide)), by rw [g2 91 (by decide)]; exact b3, by rw [g2 92 (by decide)]; exact b4, by rw [g2 93 (by decide)]; exact b5⟩
  · obtain ⟨g, a1, a2, a3⟩ := rk_at hk
    exact ⟨g, a1, by rw [← a3]; exact g1 g a1, a2⟩
  · rw [g2 c (by omega), h2.1 c hc]
    funext y
    simp only [ui]
    rw [if_neg (by omega)]
  · rw [g2 82 (by decide), h2.2 i hi]
    simp [ui, hi]
end T58
