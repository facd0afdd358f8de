/-! ===== guesses of the disk in the memory; the order that claims one ===== -/
/-- a guess is picked -/
def picD (D : Nat → Int32) (fr : Nat → Bool) (f : Nat) (I1 I' : Nat → Nat → Int32) (J1 J' : Nat → Nat → Int64) : Prop :=
  rowIs I' 15 16 (pgD D fr f) ∧ I' 14 2 = D (40 + f) ∧ I' 14 4 = nI (lnD D f) - nI (pgD D fr f).length ∧ I' 14 5 = nI (gdD D fr f).2.1 ∧ I' 14 6 = nI (gdD D fr f).2.2 ∧ I' 14 7 = scD D fr f ∧ I' 14 3 = (nmD D f).elim (-1) (fun k => D (230 + 3 * k)) ∧ (∀ a, a < 14 ∨ 16 < a → I' a = I1 a) ∧ ∀ a, a ≠ 14 → J' a = J1 a
theorem gOK_congr {I : Nat → Nat → Int32} {J : Nat → Nat → Int64} {sc sc' : Nat → Int32} {pg pg' : Nat → List Nat} {l : List Nat} (h : gOK I J sc pg l) (e : ∀ f, f ∈ l → sc f = sc' f ∧ pg f = pg' f) : gOK I J sc' pg' l := by
  refine ⟨h.1, fun k hk => ?_⟩
  obtain ⟨a1, a2, a3⟩ := h.2 k hk
  obtain ⟨e1, e2⟩ := e _ (getD_mem hk)
  exact ⟨a1, a2.trans e1, fun j hj => by rw [a3 j hj, e2]⟩
theorem its_ok {D : Nat → Int32} (hw : wfD D) {f : Nat} {nm : Int32} (hn : nm = -1 ∨ ∃ n, n < 30 ∧ nm = nI n) : itsD D f nm = -1 ∨ ∃ n, n < 30 ∧ itsD D f nm = nI n := by
  unfold itsD
  by_cases c : nm = -1
  · rw [if_pos c]
    have jn : ∀ k, k < zD D → ∃ n, n < 30 ∧ D (230 + 3 * k) = nI n := fun k hk => (hw.2.2.2.2 k hk).1
    unfold nmD
    cases hq : jwD D (nI f) (D (40 + f)) with
    | some k =>
      have := fstP_some hq
      exact Or.inr (jn k (by omega))
    | none =>
      dsimp only
      cases hq2 : jsD D (D (40 + f)) with
      | some k =>
        have := fstP_some hq2
        exact Or.inr (jn k (by omega))
      | none => exact Or.inl rfl
  · rw [if_neg c]
    exact hn.elim (fun q => absurd q c) Or.inr
section T33
variable {d L : Nat} {I : Nat → Nat → Int32} {J : Nat → Nat → Int64} {p : Nat → Nat} {Q : Option Value → am_M → Prop} {D : Nat → Int32}
theorem t_findD (hd : 5 ≤ d) (h : Rep I 2 D) (hw : wfD D) {F : Int64} {fr : Nat → Bool} (hF : ∀ j, j < 64 → bl F j = (decide (j < 40) && fr j))
    (k : ∀ I1 J1, fnd I I1 J J1 F (fun j => decide (j < 40) && fr j) (lnD D) (zD D) 40 → gOK I1 J1 (scD D fr) (pgD D fr) (glD D fr) → gfr I I1 J J1 → Q none (I1, J1, KR p)) : T d me_X2_find [.ref 13, .ref 2, .long F] L I J p Q := by
  refine t_find hd (z := zD D) (by rw [rp_z h]; exact (wf_z hw).1) (wf_z hw).2 hF (ln_ok h hw) fun I1 J1 hf => ?_
  refine k I1 J1 hf ?_ hf.2.2.2
  have hc : ∀ j, j < 40 → (decide (j < 40) && fr j) = fr j := fun j hj => by rw [decide_eq_true hj, Bool.true_and]
  have hg := hf.1
  rw [gl_eq h hw, gl_congr hc] at hg
  refine gOK_congr hg fun f hm => ?_
  obtain ⟨m1, m2, m3⟩ := gl_mem hm
  refine ⟨by rw [gsc_eq h hw m1 m3, sc_congr hc m1], ?_⟩
  unfold pgI pgD
  rw [gd_eq h m1 m3, gd_congr hc m1]
theorem t_pickD (hd : 4 ≤ d) (h : Rep I 2 D) (hw : wfD D) {F : Int64} {fr : Nat → Bool} (hF : ∀ j, j < 64 → bl F j = (decide (j < 40) && fr j)) {I1 : Nat → Nat → Int32} {J1 : Nat → Nat → Int64} (hf : fnd I I1 J J1 F (fun j => decide (j < 40) && fr j) (lnD D) (zD D) 40) {g : Nat} (hg : g < (glD D fr).length)
    (k : ∀ I' J', picD D fr ((glD D fr).getD g 0) I1 I' J1 J' → Q (some (.ref 14)) (I', J', KR p)) : T d me_X2_pick [.ref 13, .ref 2, .int (nI g)] L I1 J1 p Q := by
  have hc : ∀ j, j < 40 → (decide (j < 40) && fr j) = fr j := fun j hj => by rw [decide_eq_true hj, Bool.true_and]
  have el : gsL (gscI I (fun j => decide (j < 40) && fr j) (lnD D) (zD D)) (fpI I (fun j => decide (j < 40) && fr j)) 40 = glD D fr := by rw [gl_eq h hw, gl_congr hc]
  refine t_pick hd (z := zD D) (by rw [rp_z h]; exact (wf_z hw).1) (wf_z hw).2 hF (ln_ok h hw) hf (by rw [el]; exact hg) fun I' J' hp => k I' J' ?_
  rw [el] at hp
  obtain ⟨m1, m2, m3⟩ := gl_mem (getD_mem hg)
  generalize (glD D fr).getD g 0 = f at hp m1 m2 m3 ⊢
  obtain ⟨⟨t1, t2, t3, t4, t5, t6, t7, t8⟩, h7, h3⟩ := hp
  rw [gd_eq h m1 m3, gd_congr hc m1] at t1 t3 t4 t5
  rw [rp_s h m1 (by rw [m3]; decide)] at t2 h3
  exact ⟨t1, t2, t3, t4, t5, by rw [h7, gsc_eq h hw m1 m3, sc_congr hc m1], by rw [h3, nm_eq h hw], t6, t8⟩
theorem fs_bl (h : Rep I 2 D) : ∀ j, j < 64 → bl (mkS (frP I) 40) j = (decide (j < 40) && fD D j) := fun j hj => by
  rw [bl_mkS _ _ 40 (by omega)]
  by_cases c : j < 40
  · rw [rp_fr h j c]
  · rw [decide_eq_false c]
    rfl
theorem t_claimGuess (hd : 6 ≤ d) {g : Nat} {nm : Int32} (h : Rep I 2 D) (hw : wfD D) (hg31 : g < 2 ^ 31) (hn : nm = -1 ∨ ∃ n, n < 30 ∧ nm = nI n)
    (k : ∀ I' J', Rep I' 2 (clS D g nm).2 → ofr I I' → Q (some (.int (clS D g nm).1)) (I', J', KR p)) : T d me_X7_claimGuess [.ref 1, .int (nI g), .int nm] L I J p Q := by
  refine am_enter [some (.ref 1), some (.int (nI g)), some (.int nm), none, none] rfl rfl rfl rfl ?_
  refine ev_aload_n (pc := 0) dX7_claimGuess_0 rfl (ev_getr (pc := 1) kF_7_19 dX7_claimGuess_1 rfl rfl rfl (ev_aload_n (pc := 4) dX7_claimGuess_4 rfl (ev_getr (pc := 5) kF_7_10 dX7_claimGuess_5 rfl rfl rfl (ev_aload_n (pc := 8) dX7_claimGuess_8 rfl (ev_getr (pc := 9) kF_7_10 dX7_claimGuess_9 rfl rfl rfl (ev_invV (pc := 12) kV_7_80 dX7_claimGuess_12 rfl rfl rfl (by omega) rfl ?_))))))
  refine t_X0_freeSet ?_
  refine ev_invV (pc := 15) kV_7_136 dX7_claimGuess_15 rfl rfl rfl (by omega) rfl ?_
  have hF := fs_bl h
  refine t_findD (by omega) h hw hF fun I1 J1 hf hO hr => ?_
  have hl40 : (glD D (fD D)).length ≤ 40 := by unfold glD; rw [gsL_len]; exact cntB_le _ _
  have of1 : ofr I I1 := fun a ha => hr.1 a (by omega)
  have r1 : Rep I1 2 D := Rep_frame h fun c h1 h2 => hr.1 c (by omega)
  unfold clS at k
  refine ev_iload_n (pc := 18) dX7_claimGuess_18 rfl (ev_aload_n (pc := 19) dX7_claimGuess_19 rfl (ev_getr (pc := 20) kF_7_19 dX7_claimGuess_20 rfl rfl rfl (ev_geti (pc := 23) kF_7_152 dX7_claimGuess_23 rfl rfl (?_))))
  rw [hO.1]
  refine ev_ncmp_lt (pc := 26) 32 (g) ((glD D (fD D)).length) dX7_claimGuess_26 (by decide) (rfl) (rfl) (by omega) (by omega) (fun c26 => ?_) (fun c26 => ?_)
  · rw [if_neg (by omega)] at k
    refine ev_aload_n (pc := 32) dX7_claimGuess_32 rfl (ev_getr (pc := 33) kF_7_19 dX7_claimGuess_33 rfl rfl rfl (ev_aload_n (pc := 36) dX7_claimGuess_36 rfl (ev_getr (pc := 37) kF_7_10 dX7_claimGuess_37 rfl rfl rfl (ev_iload_n (pc := 40) dX7_claimGuess_40 rfl (ev_invV (pc := 41) kV_7_156 dX7_claimGuess_41 rfl rfl rfl (by omega) rfl ?_)))))
    refine t_pickD (by omega) h hw hF hf c26 fun I2 J2 hp => ?_
    obtain ⟨m1, m2, m3⟩ := gl_mem (getD_mem c26)
    generalize (glD D (fD D)).getD g 0 = f at hp m1 m2 m3 k
    obtain ⟨q1, q2, q3, q4, q5, q6, q7, q8, q9⟩ := hp
    have of2 : ofr I I2 := fun a ha => by rw [q8 a (by omega), of1 a ha]
    have r2 : Rep I2 2 D := Rep_frame r1 fun c h1 h2 => q8 c (by omega)
    obtain ⟨g1, g2, g3, g4, g5, g6⟩ := pg_row hw m1 m3 m2
    have hits := its_ok hw (f := f) hn
    have join : ∀ its, its = itsD D f nm → E me_X7_claimGuess (d) L 58 [some (.ref 1), some (.int (nI g)), some (.int nm), some (.ref 14), none] [.int its] I2 J2 p Q := by
      intro its hi
      rw [← hi] at k hits
      rcases hits with e | ⟨n, hn30, e⟩
      · subst e
        rw [if_pos (Or.inl rfl)] at k
        refine ev_istore (pc := 58) dX7_claimGuess_58 rfl (ev_iload (pc := 60) dX7_claimGuess_60 rfl (ev_iconst (pc := 62) (v := (-1)) dX7_claimGuess_62 iconst_cm1 (ev_icmp_eq (pc := 63) 78 dX7_claimGuess_63 (by decide) (kf := fun c => absurd (rfl) c) (kt := fun c63 => ev_ldc (pc := 78) kC_7_242 dX7_claimGuess_78 (ev_iret (pc := 80) dX7_claimGuess_80 rfl ?_)))))
        exact k _ _ r2 of2
      · subst e
        rw [nI_clamp (by omega)] at k
        refine ev_istore (pc := 58) dX7_claimGuess_58 rfl (ev_iload (pc := 60) dX7_claimGuess_60 rfl (ev_iconst (pc := 62) (v := (-1)) dX7_claimGuess_62 iconst_cm1 (ev_icmp_eq (pc := 63) 78 dX7_claimGuess_63 (by decide) (kt := fun c => absurd c (nI_ne_m1 (by omega))) (kf := fun c63 => ev_aload_n (pc := 66) dX7_claimGuess_66 rfl (ev_getr (pc := 67) kF_7_10 dX7_claimGuess_67 rfl rfl rfl (ev_iload (pc := 70) dX7_claimGuess_70 rfl (ev_invV (pc := 72) kV_7_107 dX7_claimGuess_72 rfl rfl rfl (by omega) rfl ?_)))))))
        refine t_hasFile_n hn30 ?_
        rw [rp_f r2 hn30]
        by_cases cc : D (200 + n) = -1
        · rw [if_neg (fun q => q.elim (nI_ne_m1 (by omega)) (fun q => q cc))] at k
          refine ev_ifb_eq (pc := 75) 81 dX7_claimGuess_75 (by decide) (kf := fun c => absurd c (by simp [cc])) (kt := fun c75 => ev_aload_n (pc := 81) dX7_claimGuess_81 rfl (ev_getr (pc := 82) kF_7_10 dX7_claimGuess_82 rfl rfl rfl (ev_iload (pc := 85) dX7_claimGuess_85 rfl (ev_aload_n (pc := 87) dX7_claimGuess_87 rfl (ev_geti (pc := 88) kF_7_172 dX7_claimGuess_88 rfl rfl (?_))))))
          rw [q2]
          refine ev_aload_n (pc := 91) dX7_claimGuess_91 rfl (ev_getr (pc := 92) kF_7_165 dX7_claimGuess_92 rfl rfl rfl (ev_invV (pc := 95) kV_7_264 dX7_claimGuess_95 rfl rfl rfl (by omega) rfl ?_))
          refine t_tr_lay (by omega) hn30 g1.lt g1.inj (by omega) q1 fun I3 hl => ?_
          have lf := lay_fr hl
          refine ev_aload_n (pc := 98) dX7_claimGuess_98 rfl (ev_getr (pc := 99) kF_7_10 dX7_claimGuess_99 rfl rfl rfl (ev_dup (pc := 102) dX7_claimGuess_102 rfl (ev_geti (pc := 103) kF_7_229 dX7_claimGuess_103 rfl rfl (ev_iconst (pc := 106) (v := (1)) dX7_claimGuess_106 iconst_c1 (ev_iadd (pc := 107) dX7_claimGuess_107 (ev_puti (pc := 108) kF_7_229 dX7_claimGuess_108 rfl rfl rfl rfl rfl (ev_aload_n (pc := 111) dX7_claimGuess_111 rfl (ev_getr (pc := 112) kF_7_165 dX7_claimGuess_112 rfl rfl rfl (ev_geti (pc := 115) kF_7_168 dX7_claimGuess_115 rfl rfl (ev_iret (pc := 118) dX7_claimGuess_118 rfl ?_))))))))))
          have r3 := Rep_cnt (i := 9) (by omega) (Rep_lay hn30 r2 hl g1 (by omega)) (I3 2 9 + 1)
          have e9 : I3 2 9 = D 251 := by rw [lf 2 (by omega)]; exact (rp_w r2).2.2
          have e15 : ui I3 2 9 (I3 2 9 + 1) 15 1 = nI (pgD D (fD D) f).length := by
            have : ui I3 2 9 (I3 2 9 + 1) 15 1 = I3 15 1 := by simp [ui]
            rw [this, lf 15 (by omega), q1.1]
          rw [e15]
          rw [e9] at r3 ⊢
          exact k _ _ r3 (ofr_ui (fun a ha => by rw [lf a (by omega), of2 a ha]) (by omega))
        · rw [if_pos (Or.inr cc)] at k
          refine ev_ifb_eq (pc := 75) 81 dX7_claimGuess_75 (by decide) (kt := fun c => absurd c (by simp [cc])) (kf := fun c75 => ev_ldc (pc := 78) kC_7_242 dX7_claimGuess_78 (ev_iret (pc := 80) dX7_claimGuess_80 rfl ?_))
          exact k _ _ r2 of2
    by_cases cn : nm = -1
    · refine ev_astore_n (pc := 44) dX7_claimGuess_44 rfl (ev_iload_n (pc := 45) dX7_claimGuess_45 rfl (ev_iconst (pc := 46) (v := (-1)) dX7_claimGuess_46 iconst_cm1 (ev_icmp_ne (pc := 47) 57 dX7_claimGuess_47 (by decide) (kt := fun c => absurd (cn) c) (kf := fun c47 => ev_aload_n (pc := 50) dX7_claimGuess_50 rfl (ev_geti (pc := 51) kF_7_175 dX7_claimGuess_51 rfl rfl (ev_goto (pc := 54) 58 dX7_claimGuess_54 (by decide) (?_)))))))
      exact join _ (by rw [q7]; unfold itsD; rw [if_pos cn])
    · refine ev_astore_n (pc := 44) dX7_claimGuess_44 rfl (ev_iload_n (pc := 45) dX7_claimGuess_45 rfl (ev_iconst (pc := 46) (v := (-1)) dX7_claimGuess_46 iconst_cm1 (ev_icmp_ne (pc := 47) 57 dX7_claimGuess_47 (by decide) (kf := fun c => absurd c (cn)) (kt := fun c47 => ev_iload_n (pc := 57) dX7_claimGuess_57 rfl (?_)))))
      exact join _ (by unfold itsD; rw [if_neg cn])
  · rw [if_pos (by omega)] at k
    refine ev_ldc (pc := 29) kC_7_242 dX7_claimGuess_29 (ev_iret (pc := 31) dX7_claimGuess_31 rfl ?_)
    exact k _ _ r1 of1
end T33
