/-! ===== what is told of pages, the journal, guesses ===== -/
def hasV (D : Nat → Int32) (j : Nat) : Nat := cntB (fun k => (pgD D (fD D) ((glD D (fD D)).getD k 0)).any fun q => decide (q = j)) (glD D (fD D)).length
def pageV (D : Nat → Int32) (j w : Nat) : Int32 :=
  if w = 0 then bI (fD D j) else if w = 1 then D j
  else if w = 2 then (if D j = 0 then -1000004 else D (40 + j))
  else if w = 3 then (if D j = 1 then D (80 + j) else -1000004)
  else if w = 4 then fdD (D (120 + j))
  else if w = 5 then fdD (D (160 + j))
  else nI (hasV D j)
def oPage (s : Sta) (a b : Int32) : Int32 := if inR 0 39 a && inR 0 6 b then pageV s.1 a.toNatClampNeg b.toNatClampNeg else -1000001
def jourV (D : Nat → Int32) (k w : Nat) : Int32 := if k < zD D then D (230 + w + 3 * k) else -1000004
def oJour (s : Sta) (a b : Int32) : Int32 := if !decide (a < 0) && inR 0 2 b then jourV s.1 a.toNatClampNeg b.toNatClampNeg else -1000001
def shrV (D : Nat → Int32) (g : Nat) : Nat := cntB (fun k => (pgD D (fD D) ((glD D (fD D)).getD k 0)).any fun j => decide (j ∈ pgD D (fD D) ((glD D (fD D)).getD g 0))) (glD D (fD D)).length
def gueV (D : Nat → Int32) (g w : Nat) : Int32 :=
  if (glD D (fD D)).length ≤ g then -1000004
  else if w = 0 then scD D (fD D) ((glD D (fD D)).getD g 0) + 100
  else if w = 1 then nI (pgD D (fD D) ((glD D (fD D)).getD g 0)).length
  else if w = 2 then nI (lnD D ((glD D (fD D)).getD g 0)) - nI (pgD D (fD D) ((glD D (fD D)).getD g 0)).length
  else if w = 3 then D (40 + (glD D (fD D)).getD g 0)
  else if w = 4 then fdD ((nmD D ((glD D (fD D)).getD g 0)).elim (-1) (fun k => D (230 + 3 * k)))
  else if w = 5 then nI (gdD D (fD D) ((glD D (fD D)).getD g 0)).2.1
  else if w = 6 then nI (gdD D (fD D) ((glD D (fD D)).getD g 0)).2.2
  else if w = 7 then nI (shrV D g) - 1
  else fdD (if w - 10 < (pgD D (fD D) ((glD D (fD D)).getD g 0)).length then nI ((pgD D (fD D) ((glD D (fD D)).getD g 0)).getD (w - 10) 0) else -1)
def oGuess (s : Sta) (a b : Int32) : Int32 := if !decide (a < 0) && (inR 0 7 b || inR 10 21 b) then gueV s.1 a.toNatClampNeg b.toNatClampNeg else -1000001
theorem gl_40 {D : Nat → Int32} {fr : Nat → Bool} : (glD D fr).length ≤ 40 := by unfold glD; rw [gsL_len]; exact cntB_le _ _
theorem pg_64 {D : Nat → Int32} (hw : wfD D) {fr : Nat → Bool} : ∀ f ∈ glD D fr, ∀ q ∈ pgD D fr f, q < 64 := fun f hf q hq => by
  obtain ⟨m1, m2, m3⟩ := gl_mem hf
  have := ((pg_row hw m1 m3 m2).1.2 q hq).1
  omega
section T37
variable {d L : Nat} {I : Nat → Nat → Int32} {J : Nat → Nat → Int64} {p : Nat → Nat} {Q : Option Value → am_M → Prop} {s : Sta}
theorem Cls_gfr {I1 : Nat → Nat → Int32} (hw : Wst s) (hc : Cls I p s) (h : ∀ a, a < 13 ∨ (20 < a ∧ a ≠ 80 ∧ a ≠ 81) → I1 a = I a) : Cls I1 p s ∧ cfr I I1 := by
  obtain ⟨z1, z2, z3, z4, z5, z6⟩ := hc
  have w2 := hw.2.1
  refine ⟨⟨z1, Rep_frame z2 fun c h1 h2 => h c (by omega), by rw [h 21 (by omega)]; exact z3, fun i hi => ?_, by rw [h 78 (by omega)]; exact z5, fun i hi => by rw [h 79 (by omega)]; exact z6 i hi⟩, fun a ha => h a (by omega)⟩
  have := z1.rng (i := i) (by omega)
  exact Rep_frame (z4 i hi) fun c h1 h2 => h c (by omega)
theorem c_pageOf (hd : 7 ≤ d) (hc : Cls I p s) (hw : Wst s) (a b : Int32) (k : ∀ I' J', Cls I' p s → cfr I I' → Q (some (.int (oPage s a b))) (I', J', KR p)) : T d me_X7_pageOf [.ref 1, .int a, .int b] L I J p Q := by
  refine am_enter [some (.ref 1), some (.int a), some (.int b)] rfl rfl rfl rfl ?_
  unfold oPage at k
  have h := hc.2.1
  refine ev_iload_n (pc := 0) dX7_pageOf_0 rfl (ev_invS (pc := 1) kS_7_74 dX7_pageOf_1 rfl (by omega) rfl ?_)
  refine t_isPage (by omega) a ?_
  cases q1 : inR 0 39 a
  · rw [q1, Bool.false_and, if_neg (by decide)] at k
    refine ev_ifb_eq (pc := 4) 17 dX7_pageOf_4 (by decide) (kf := fun c => absurd c (by simp)) (kt := fun c4 => ev_ldc (pc := 17) kC_7_58 dX7_pageOf_17 (ev_iret (pc := 19) dX7_pageOf_19 rfl ?_))
    exact k _ _ hc (cfr_rf I)
  rw [q1, Bool.true_and] at k
  obtain ⟨j, n1, n2, rfl⟩ := inR_n (by omega) (by omega) q1
  rw [nI_clamp (by omega)] at k
  have hj : j < 40 := by omega
  refine ev_ifb_eq (pc := 4) 17 dX7_pageOf_4 (by decide) (kt := fun c => absurd c (by simp)) (kf := fun c4 => ev_iload_n (pc := 7) dX7_pageOf_7 rfl (ev_iconst (pc := 8) (v := (0)) dX7_pageOf_8 iconst_c0 (ev_bipush (pc := 9) (v := (6)) dX7_pageOf_9 bipush_c6 (ev_invS (pc := 11) kS_7_48 dX7_pageOf_11 rfl (by omega) rfl ?_))))
  refine t_within 0 6 b ?_
  cases q2 : inR 0 6 b
  · rw [q2, if_neg (by decide)] at k
    refine ev_ifb_ne (pc := 14) 20 dX7_pageOf_14 (by decide) (kt := fun c => absurd c (by simp)) (kf := fun c14 => ev_ldc (pc := 17) kC_7_58 dX7_pageOf_17 (ev_iret (pc := 19) dX7_pageOf_19 rfl ?_))
    exact k _ _ hc (cfr_rf I)
  rw [q2, if_pos rfl] at k
  obtain ⟨w, w1, w2, rfl⟩ := inR_n (by omega) (by omega) q2
  rw [nI_clamp (by omega)] at k
  unfold pageV at k
  obtain ⟨a1, a2, a3, a4, a5, a6⟩ := hw.1.1 j hj
  refine ev_ifb_ne (pc := 14) 20 dX7_pageOf_14 (by decide) (kf := fun c => absurd c (by simp)) (kt := fun c14 => ev_iload_n (pc := 20) dX7_pageOf_20 rfl (?_))
  obtain rfl | rfl | rfl | rfl | rfl | rfl | rfl : w = 0 ∨ w = 1 ∨ w = 2 ∨ w = 3 ∨ w = 4 ∨ w = 5 ∨ w = 6 := by omega
  · refine ev_tabIn (pc := 21) (off := 39) 60 dX7_pageOf_21 (by decide) (by decide) (by decide) (by decide) ?_
    refine ev_aload_n (pc := 60) dX7_pageOf_60 rfl (ev_getr (pc := 61) kF_7_10 dX7_pageOf_61 rfl rfl rfl (ev_iload_n (pc := 64) dX7_pageOf_64 rfl (ev_invV (pc := 65) kV_7_88 dX7_pageOf_65 rfl rfl rfl (by omega) rfl ?_)))
    refine t_isFree_n hj ?_
    rw [rp_fr h j hj]
    rw [if_pos rfl] at k
    cases q : fD s.1 j
    · rw [q] at k
      refine ev_ifb_eq (pc := 68) 75 dX7_pageOf_68 (by decide) (kf := fun c => absurd c (by simp)) (kt := fun c68 => ev_iconst (pc := 75) (v := (0)) dX7_pageOf_75 iconst_c0 (ev_iret (pc := 76) dX7_pageOf_76 rfl ?_))
      exact k _ _ hc (cfr_rf I)
    · rw [q] at k
      refine ev_ifb_eq (pc := 68) 75 dX7_pageOf_68 (by decide) (kt := fun c => absurd c (by simp)) (kf := fun c68 => ev_iconst (pc := 71) (v := (1)) dX7_pageOf_71 iconst_c1 (ev_goto (pc := 72) 76 dX7_pageOf_72 (by decide) (ev_iret (pc := 76) dX7_pageOf_76 rfl ?_)))
      exact k _ _ hc (cfr_rf I)
  · refine ev_tabIn (pc := 21) (off := 56) 77 dX7_pageOf_21 (by decide) (by decide) (by decide) (by decide) ?_
    refine ev_aload_n (pc := 77) dX7_pageOf_77 rfl (ev_getr (pc := 78) kF_7_10 dX7_pageOf_78 rfl rfl rfl (ev_iload_n (pc := 81) dX7_pageOf_81 rfl (ev_invV (pc := 82) kV_7_127 dX7_pageOf_82 rfl rfl rfl (by omega) rfl ?_)))
    refine t_X0_markOn _ ?_
    rw [ix_n hj (by decide)]
    simp only [Option.elim_some]
    rw [rp_m h hj]
    refine ev_iret (pc := 85) dX7_pageOf_85 rfl ?_
    exact k _ _ hc (cfr_rf I)
  · refine ev_tabIn (pc := 21) (off := 65) 86 dX7_pageOf_21 (by decide) (by decide) (by decide) (by decide) ?_
    refine ev_aload_n (pc := 86) dX7_pageOf_86 rfl (ev_getr (pc := 87) kF_7_10 dX7_pageOf_87 rfl rfl rfl (ev_iload_n (pc := 90) dX7_pageOf_90 rfl (ev_invV (pc := 91) kV_7_118 dX7_pageOf_91 rfl rfl rfl (by omega) rfl ?_)))
    refine t_X0_styleOn _ ?_
    rw [ix_n hj (by decide)]
    simp only [Option.elim_some]
    rw [rp_m h hj]
    simp only [show ¬ (2 : Nat) = 0 by omega, show ¬ (2 : Nat) = 1 by omega, if_false, if_true] at k
    refine ev_invS (pc := 94) kS_7_124 dX7_pageOf_94 rfl (by omega) rfl ?_
    refine t_found _ ?_
    refine ev_iret (pc := 97) dX7_pageOf_97 rfl ?_
    by_cases cc : s.1 j = 0
    · rw [if_pos cc] at k ⊢
      exact k _ _ hc (cfr_rf I)
    · obtain ⟨t, t1, t2⟩ := a2 cc
      rw [if_neg cc] at k ⊢
      rw [rp_s h hj cc, t2, if_neg (nI_ne_m1 (by omega))]
      rw [t2] at k
      exact k _ _ hc (cfr_rf I)
  · refine ev_tabIn (pc := 21) (off := 77) 98 dX7_pageOf_21 (by decide) (by decide) (by decide) (by decide) ?_
    refine ev_aload_n (pc := 98) dX7_pageOf_98 rfl (ev_getr (pc := 99) kF_7_10 dX7_pageOf_99 rfl rfl rfl (ev_iload_n (pc := 102) dX7_pageOf_102 rfl (ev_invV (pc := 103) kV_7_115 dX7_pageOf_103 rfl rfl rfl (by omega) rfl ?_)))
    refine t_X0_lengthOn _ ?_
    rw [ix_n hj (by decide)]
    simp only [Option.elim_some]
    rw [rp_m h hj]
    simp only [show ¬ (3 : Nat) = 0 by omega, show ¬ (3 : Nat) = 1 by omega, show ¬ (3 : Nat) = 2 by omega, if_false, if_true] at k
    refine ev_invS (pc := 106) kS_7_124 dX7_pageOf_106 rfl (by omega) rfl ?_
    refine t_found _ ?_
    refine ev_iret (pc := 109) dX7_pageOf_109 rfl ?_
    by_cases cc : s.1 j = 1
    · obtain ⟨t, t1, t2, t3⟩ := a3 cc
      rw [if_pos cc] at k ⊢
      rw [rp_l h hj cc, t3, if_neg (nI_ne_m1 (by omega))]
      rw [t3] at k
      exact k _ _ hc (cfr_rf I)
    · rw [if_neg cc] at k ⊢
      exact k _ _ hc (cfr_rf I)
  · refine ev_tabIn (pc := 21) (off := 89) 110 dX7_pageOf_21 (by decide) (by decide) (by decide) (by decide) ?_
    refine ev_aload_n (pc := 110) dX7_pageOf_110 rfl (ev_getr (pc := 111) kF_7_10 dX7_pageOf_111 rfl rfl rfl (ev_iload_n (pc := 114) dX7_pageOf_114 rfl (ev_invV (pc := 115) kV_7_130 dX7_pageOf_115 rfl rfl rfl (by omega) rfl ?_)))
    refine t_X0_nextOn _ ?_
    rw [ix_n hj (by decide)]
    simp only [Option.elim_some]
    rw [rp_n h hj]
    simp only [show ¬ (4 : Nat) = 0 by omega, show ¬ (4 : Nat) = 1 by omega, show ¬ (4 : Nat) = 2 by omega, show ¬ (4 : Nat) = 3 by omega, if_false, if_true] at k
    refine ev_invS (pc := 118) kS_7_124 dX7_pageOf_118 rfl (by omega) rfl ?_
    refine t_found _ ?_
    refine ev_iret (pc := 121) dX7_pageOf_121 rfl ?_
    exact k _ _ hc (cfr_rf I)
  · refine ev_tabIn (pc := 21) (off := 101) 122 dX7_pageOf_21 (by decide) (by decide) (by decide) (by decide) ?_
    refine ev_aload_n (pc := 122) dX7_pageOf_122 rfl (ev_getr (pc := 123) kF_7_10 dX7_pageOf_123 rfl rfl rfl (ev_iload_n (pc := 126) dX7_pageOf_126 rfl (ev_invV (pc := 127) kV_7_133 dX7_pageOf_127 rfl rfl rfl (by omega) rfl ?_)))
    refine t_X0_ownerOf _ ?_
    rw [ix_n hj (by decide)]
    simp only [Option.elim_some]
    rw [rp_o h hj]
    simp only [show ¬ (5 : Nat) = 0 by omega, show ¬ (5 : Nat) = 1 by omega, show ¬ (5 : Nat) = 2 by omega, show ¬ (5 : Nat) = 3 by omega, show ¬ (5 : Nat) = 4 by omega, if_false, if_true] at k
    refine ev_invS (pc := 130) kS_7_124 dX7_pageOf_130 rfl (by omega) rfl ?_
    refine t_found _ ?_
    refine ev_iret (pc := 133) dX7_pageOf_133 rfl ?_
    exact k _ _ hc (cfr_rf I)
  · refine ev_tabOut (pc := 21) 134 dX7_pageOf_21 (by decide) (by decide) ?_
    refine ev_aload_n (pc := 134) dX7_pageOf_134 rfl (ev_getr (pc := 135) kF_7_19 dX7_pageOf_135 rfl rfl rfl (ev_aload_n (pc := 138) dX7_pageOf_138 rfl (ev_getr (pc := 139) kF_7_10 dX7_pageOf_139 rfl rfl rfl (ev_aload_n (pc := 142) dX7_pageOf_142 rfl (ev_getr (pc := 143) kF_7_10 dX7_pageOf_143 rfl rfl rfl (ev_invV (pc := 146) kV_7_80 dX7_pageOf_146 rfl rfl rfl (by omega) rfl ?_))))))
    refine t_X0_freeSet ?_
    refine ev_invV (pc := 149) kV_7_136 dX7_pageOf_149 rfl rfl rfl (by omega) rfl ?_
    refine t_findD (by omega) h hw.1 (fs_bl h) fun I1 J1 hf hO hr => ?_
    refine ev_aload_n (pc := 152) dX7_pageOf_152 rfl (ev_getr (pc := 153) kF_7_19 dX7_pageOf_153 rfl rfl rfl (ev_iload_n (pc := 156) dX7_pageOf_156 rfl (ev_invV (pc := 157) kV_7_140 dX7_pageOf_157 rfl rfl rfl (by omega) rfl ?_)))
    refine t_withPage (by omega) hj gl_40 hO (pg_64 hw.1) ?_
    refine ev_iret (pc := 160) dX7_pageOf_160 rfl ?_
    obtain ⟨e1, e2⟩ := Cls_gfr hw hc (fun a ha => hr.1 a (by omega))
    exact k _ _ e1 e2
theorem c_journalOf (hd : 3 ≤ d) (hc : Cls I p s) (hw : Wst s) (a b : Int32) (k : Q (some (.int (oJour s a b))) (I, J, KR p)) : T d me_X7_journalOf [.ref 1, .int a, .int b] L I J p Q := by
  refine am_enter [some (.ref 1), some (.int a), some (.int b), none] rfl rfl rfl rfl ?_
  unfold oJour at k
  have h := hc.2.1
  obtain ⟨hz, hz6⟩ := wf_z hw.1
  have hz' : I 9 3 = nI (zD s.1) := by rw [rp_z h]; exact hz
  by_cases q0 : a < 0
  · rw [decide_eq_true q0, Bool.not_true, Bool.false_and, if_neg (by decide)] at k
    refine ev_iload_n (pc := 0) dX7_journalOf_0 rfl (ev_if_lt (pc := 1) 13 dX7_journalOf_1 (by decide) (kf := fun c => absurd (q0) c) (kt := fun c1 => ev_ldc (pc := 13) kC_7_58 dX7_journalOf_13 (ev_iret (pc := 15) dX7_journalOf_15 rfl ?_)))
    exact k
  rw [decide_eq_false q0, Bool.not_false, Bool.true_and] at k
  obtain ⟨g, g1, rfl⟩ := nI_of q0
  rw [nI_clamp g1] at k
  refine ev_iload_n (pc := 0) dX7_journalOf_0 rfl (ev_if_lt (pc := 1) 13 dX7_journalOf_1 (by decide) (kt := fun c => absurd c (q0)) (kf := fun c1 => ev_iload_n (pc := 4) dX7_journalOf_4 rfl (ev_iconst (pc := 5) (v := (0)) dX7_journalOf_5 iconst_c0 (ev_iconst (pc := 6) (v := (2)) dX7_journalOf_6 iconst_c2 (ev_invS (pc := 7) kS_7_48 dX7_journalOf_7 rfl (by omega) rfl ?_)))))
  refine t_within 0 2 b ?_
  cases q2 : inR 0 2 b
  · rw [q2, if_neg (by decide)] at k
    refine ev_ifb_ne (pc := 10) 16 dX7_journalOf_10 (by decide) (kt := fun c => absurd c (by simp)) (kf := fun c10 => ev_ldc (pc := 13) kC_7_58 dX7_journalOf_13 (ev_iret (pc := 15) dX7_journalOf_15 rfl ?_))
    exact k
  rw [q2, if_pos rfl] at k
  obtain ⟨w, w1, w2, rfl⟩ := inR_n (by omega) (by omega) q2
  rw [nI_clamp (by omega)] at k
  unfold jourV at k
  have jn : ∀ k, k < zD s.1 → (∃ n, n < 30 ∧ s.1 (230 + 3 * k) = nI n) ∧ (∃ q, q < 40 ∧ s.1 (231 + 3 * k) = nI q) ∧ ∃ t, t < 10 ∧ s.1 (232 + 3 * k) = nI t := fun k hk => hw.1.2.2.2.2 k hk
  have nix : ¬ g < zD s.1 → ix (zD s.1) (nI g) = none := fun c => ix_ge (nI_le (by omega) g1)
  refine ev_ifb_ne (pc := 10) 16 dX7_journalOf_10 (by decide) (kf := fun c => absurd c (by simp)) (kt := fun c10 => ev_aload_n (pc := 16) dX7_journalOf_16 rfl (ev_getr (pc := 17) kF_7_10 dX7_journalOf_17 rfl rfl rfl (ev_getr (pc := 20) kF_7_95 dX7_journalOf_20 rfl rfl rfl (ev_astore_n (pc := 23) dX7_journalOf_23 rfl (ev_iload_n (pc := 24) dX7_journalOf_24 rfl (?_))))))
  obtain rfl | rfl | rfl : w = 0 ∨ w = 1 ∨ w = 2 := by omega
  · refine ev_lookup (pc := 25) (off := 27) 52 dX7_journalOf_25 (by decide) (by decide) (by decide) ?_
    refine ev_aload_n (pc := 52) dX7_journalOf_52 rfl (ev_iload_n (pc := 53) dX7_journalOf_53 rfl (ev_invV (pc := 54) kV_7_143 dX7_journalOf_54 rfl rfl rfl (by omega) rfl ?_))
    refine t_X4_nameAt hz' hz6 _ ?_
    by_cases c : g < zD s.1
    · obtain ⟨⟨n, n1, n2⟩, _, _⟩ := jn g c
      rw [if_pos c] at k
      rw [ix_n c (by omega)]
      simp only [Option.elim_some]
      rw [(rp_j h (by omega) c).1, n2]
      refine ev_invS (pc := 57) kS_7_124 dX7_journalOf_57 rfl (by omega) rfl ?_
      refine t_found _ ?_
      refine ev_iret (pc := 60) dX7_journalOf_60 rfl ?_
      rw [if_neg (nI_ne_m1 (by omega))]
      rw [show 230 + 0 + 3 * g = 230 + 3 * g by omega, n2] at k
      exact k
    · rw [if_neg c] at k
      rw [nix c]
      simp only [Option.elim_none]
      refine ev_invS (pc := 57) kS_7_124 dX7_journalOf_57 rfl (by omega) rfl ?_
      refine t_found _ ?_
      refine ev_iret (pc := 60) dX7_journalOf_60 rfl ?_
      exact k
  · refine ev_lookup (pc := 25) (off := 36) 61 dX7_journalOf_25 (by decide) (by decide) (by decide) ?_
    refine ev_aload_n (pc := 61) dX7_journalOf_61 rfl (ev_iload_n (pc := 62) dX7_journalOf_62 rfl (ev_invV (pc := 63) kV_7_146 dX7_journalOf_63 rfl rfl rfl (by omega) rfl ?_))
    refine t_X4_firstAt hz' hz6 _ ?_
    by_cases c : g < zD s.1
    · obtain ⟨_, ⟨n, n1, n2⟩, _⟩ := jn g c
      rw [if_pos c] at k
      rw [ix_n c (by omega)]
      simp only [Option.elim_some]
      rw [(rp_j h (by omega) c).2.1, n2]
      refine ev_invS (pc := 66) kS_7_124 dX7_journalOf_66 rfl (by omega) rfl ?_
      refine t_found _ ?_
      refine ev_iret (pc := 69) dX7_journalOf_69 rfl ?_
      rw [if_neg (nI_ne_m1 (by omega))]
      rw [show 230 + 1 + 3 * g = 231 + 3 * g by omega, n2] at k
      exact k
    · rw [if_neg c] at k
      rw [nix c]
      simp only [Option.elim_none]
      refine ev_invS (pc := 66) kS_7_124 dX7_journalOf_66 rfl (by omega) rfl ?_
      refine t_found _ ?_
      refine ev_iret (pc := 69) dX7_journalOf_69 rfl ?_
      exact k
  · refine ev_lookup (pc := 25) (off := 45) 70 dX7_journalOf_25 (by decide) (by decide) (by decide) ?_
    refine ev_aload_n (pc := 70) dX7_journalOf_70 rfl (ev_iload_n (pc := 71) dX7_journalOf_71 rfl (ev_invV (pc := 72) kV_7_149 dX7_journalOf_72 rfl rfl rfl (by omega) rfl ?_))
    refine t_X4_styleAt hz' hz6 _ ?_
    by_cases c : g < zD s.1
    · obtain ⟨_, _, ⟨n, n1, n2⟩⟩ := jn g c
      rw [if_pos c] at k
      rw [ix_n c (by omega)]
      simp only [Option.elim_some]
      rw [(rp_j h (by omega) c).2.2, n2]
      refine ev_invS (pc := 75) kS_7_124 dX7_journalOf_75 rfl (by omega) rfl ?_
      refine t_found _ ?_
      refine ev_iret (pc := 78) dX7_journalOf_78 rfl ?_
      rw [if_neg (nI_ne_m1 (by omega))]
      rw [show 230 + 2 + 3 * g = 232 + 3 * g by omega, n2] at k
      exact k
    · rw [if_neg c] at k
      rw [nix c]
      simp only [Option.elim_none]
      refine ev_invS (pc := 75) kS_7_124 dX7_journalOf_75 rfl (by omega) rfl ?_
      refine t_found _ ?_
      refine ev_iret (pc := 78) dX7_journalOf_78 rfl ?_
      exact k
end T37
