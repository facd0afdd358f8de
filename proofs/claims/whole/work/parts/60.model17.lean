/-! ===== the reference: claim ===== -/
def oClaimM (rn : Bool) (s : Sta) (a b : Int32) : Int32 × Sta := if !decide (a < 0) && (decide (b = -1) || inR 0 29 b) then setM rn s (clS s.1 a.toNatClampNeg b) else (-1000001, s)
theorem wfr_ga {I I' : Nat → Nat → Int32} (h : gaF I I') : wfr I I' := ⟨fun a ha => h.1 a (by omega), fun i _ h9 => h.2 i h9⟩
theorem its_nm {D : Nat → Int32} {f : Nat} (hw : wfD D) : (nmD D f = none ∧ itsD D f (-1) = -1) ∨ ∃ m n, m < zD D ∧ n < 30 ∧ nmD D f = some m ∧ itsD D f (-1) = nI n ∧ D (230 + 3 * m) = nI n := by
  have jn : ∀ k, k < zD D → ∃ n, n < 30 ∧ D (230 + 3 * k) = nI n := fun k hk => (hw.2.2.2.2 k hk).1
  unfold itsD
  rw [if_pos rfl]
  cases hq : nmD D f with
  | none => exact Or.inl ⟨rfl, rfl⟩
  | some m =>
    have hm : m < zD D := by
      unfold nmD at hq
      cases h1 : jwD D (nI f) (D (40 + f)) with
      | some k =>
        rw [h1] at hq
        have := fstP_some h1
        cases hq
        omega
      | none =>
        rw [h1] at hq
        have := fstP_some hq
        omega
    obtain ⟨n, n1, n2⟩ := jn m hm
    exact Or.inr ⟨m, n, hm, n1, rfl, n2, n2⟩
section T60
variable {d L : Nat} {I : Nat → Nat → Int32} {J : Nat → Nat → Int64} {p : Nat → Nat} {Q : Option Value → am_M → Prop} {s : Sta} {rn : Bool}
theorem Mod_ga {I' : Nat → Nat → Int32} (hm : Mod rn I s) (h : gaF I I') : Mod rn I' s := Mod_row hm (rowM_of hm.1 (h.1 83 (by omega))) (h.1 84 (by omega)) (h.1 87 (by omega)) (fun i hi => h.2 i (by omega))
theorem lp_mclaim {g : Nat} {ps : List Nat} {l1 l2 : Option Value} {its : Int32} (hg : g < 40) (hgu : gu I g ps) (hl : ps.length ≤ 12) (k : ∀ I', rw88 I' ps → fr1 88 I I' → E me_X8_claim d L 121 [some (.ref 82), l1, l2, some (.int (nI g)), some (.int its), some (.int (nI ps.length))] [] I' J p Q) : ∀ (n i : Nat) (I1 : Nat → Nat → Int32), i + n = ps.length → (∀ j, j < i → I1 88 j = nI (ps.getD j 0)) → fr1 88 I I1 → E me_X8_claim d L 85 [some (.ref 82), l1, l2, some (.int (nI g)), some (.int its), some (.int (nI i))] [] I1 J p Q
  | 0, i, I1, hi, h1, h2 => by
    have e : i = ps.length := by omega
    have hgu1 : gu I1 g ps := gu_y hgu (h2 90 (by decide)) (h2 94 (by decide))
    subst e
    refine ev_iload (pc := 85) dX8_claim_85 rfl (ev_aload_n (pc := 87) dX8_claim_87 rfl (ev_getr (pc := 88) kF_8_31 dX8_claim_88 rfl rfl rfl (ev_iload_n (pc := 91) dX8_claim_91 rfl (ev_iald (pc := 92) (i := g) dX8_claim_92 rfl (rfl) (by omega) rfl (ev_ncmp_ge (pc := 93) 121 (ps.length) (ps.length) dX8_claim_93 (by decide) (rfl) (hgu1.1) (by omega) (by omega) (kf := fun c => absurd c (by omega)) (kt := fun c93 => ?_))))))
    exact k I1 h1 h2
  | n + 1, i, I1, hi, h1, h2 => by
    have hgu1 : gu I1 g ps := gu_y hgu (h2 90 (by decide)) (h2 94 (by decide))
    have hx : (12 : Int32) * nI g + nI i = nI (12 * g + i) := by rw [mul12 g hg]; exact nI_add _ _
    refine ev_iload (pc := 85) dX8_claim_85 rfl (ev_aload_n (pc := 87) dX8_claim_87 rfl (ev_getr (pc := 88) kF_8_31 dX8_claim_88 rfl rfl rfl (ev_iload_n (pc := 91) dX8_claim_91 rfl (ev_iald (pc := 92) (i := g) dX8_claim_92 rfl (rfl) (by omega) rfl (ev_ncmp_ge (pc := 93) 121 (i) (ps.length) dX8_claim_93 (by decide) (rfl) (hgu1.1) (by omega) (by omega) (kt := fun c => absurd c (by omega)) (kf := fun c93 => ?_))))))
    refine ev_aload_n (pc := 96) dX8_claim_96 rfl (ev_getr (pc := 97) kF_8_25 dX8_claim_97 rfl rfl rfl (ev_iload (pc := 100) dX8_claim_100 rfl (ev_aload_n (pc := 102) dX8_claim_102 rfl (ev_getr (pc := 103) kF_8_43 dX8_claim_103 rfl rfl rfl (ev_bipush (pc := 106) (v := (12)) dX8_claim_106 bipush_c12 (ev_iload_n (pc := 108) dX8_claim_108 rfl (ev_imul (pc := 109) dX8_claim_109 (ev_iload (pc := 110) dX8_claim_110 rfl (ev_iadd (pc := 112) dX8_claim_112 (ev_iald (pc := 113) (i := 12 * g + i) dX8_claim_113 rfl (hx) (by omega) rfl (?_)))))))))))
    rw [hgu1.2 i (by omega)]
    refine ev_iast (pc := 114) (i := i) dX8_claim_114 rfl rfl (rfl) (by omega) rfl (ev_iinc (pc := 115) dX8_claim_115 rfl (iinc_1 _) rfl (ev_goto (pc := 118) 85 dX8_claim_118 (by decide) (?_)))
    refine lp_mclaim hg hgu hl k n (i + 1) (ui I1 88 i (nI (ps.getD i 0))) (by omega) (fun j hj => ?_) (fr1_ui h2)
    simp only [ui, true_and]
    by_cases e : j = i
    · rw [if_pos e, e]
    · rw [if_neg e]
      exact h1 j (by omega)
theorem m_claim (hd : 7 ≤ d) (hm : Mod rn I s) (hw : wfD s.1) (hn : s.2.1 ≤ 4) (a b : Int32) (k : ∀ I', Mod rn I' (oClaimM rn s a b).2 → wfr I I' → Q (some (.int (oClaimM rn s a b).1)) (I', J, KR p)) : T d me_X8_claim [.ref 82, .int a, .int b] L I J p Q := by
  refine am_enter [some (.ref 82), some (.int a), some (.int b), none, none, none] rfl rfl rfl rfl ?_
  unfold oClaimM at k
  have hwG := wfG_of hw
  by_cases q0 : a < 0
  · rw [decide_eq_true q0, Bool.not_true, Bool.false_and, if_neg (by decide)] at k
    refine ev_iload_n (pc := 0) dX8_claim_0 rfl (ev_if_lt (pc := 1) 16 dX8_claim_1 (by decide) (kf := fun c => absurd (q0) c) (kt := fun c1 => ev_ldc (pc := 16) kC_8_79 dX8_claim_16 (ev_iret (pc := 18) dX8_claim_18 rfl ?_)))
    exact k I hm (wfr_rf I)
  rw [decide_eq_false q0, Bool.not_false, Bool.true_and] at k
  obtain ⟨g, g1, rfl⟩ := nI_of q0
  rw [nI_clamp g1] at k
  have join : (b = -1 ∨ ∃ n, n < 30 ∧ b = nI n) → (∀ I', Mod rn I' (setM rn s (clS s.1 g b)).2 → wfr I I' → Q (some (.int (setM rn s (clS s.1 g b)).1)) (I', J, KR p)) → E me_X8_claim d L 19 [some (.ref 82), some (.int (nI g)), some (.int b), none, none, none] [] I J p Q := by
    intro hb k
    unfold clS at k
    have hl : (flD s.1).length ≤ 40 := fl_len40 (Nat.le_refl _)
    have fgl := fg_len (D := s.1)
    refine ev_aload_n (pc := 19) dX8_claim_19 rfl (ev_invV (pc := 20) kV_8_126 dX8_claim_20 rfl rfl rfl (by omega) rfl ?_)
    refine m_guessAll (by omega) hm.1 hwG fun I1 hA hO hF => ?_
    have m1 := Mod_ga hm hF
    by_cases q : (glD s.1 (fD s.1)).length ≤ g
    · rw [if_pos q, setM_e (by decide)] at k
      refine ev_iload_n (pc := 23) dX8_claim_23 rfl (ev_aload_n (pc := 24) dX8_claim_24 rfl (ev_geti (pc := 25) kF_8_110 dX8_claim_25 rfl rfl (ev_ncmp_lt (pc := 28) 34 (g) ((flD s.1).length) dX8_claim_28 (by decide) (rfl) (hA.1) (by omega) (by omega) (kt := fun c => absurd c (by omega)) (kf := fun c28 => ev_ldc (pc := 31) kC_8_80 dX8_claim_31 (ev_iret (pc := 33) dX8_claim_33 rfl ?_)))))
      exact k I1 m1 (wfr_ga hF)
    rw [if_neg q] at k
    obtain ⟨gi, o1, o2, o3⟩ := hO g (by omega)
    obtain ⟨a1, a2, a3, a4, a5, a6, a7, a8⟩ := ga_at hwG hA o1
    rw [← o3] at k
    refine ev_iload_n (pc := 23) dX8_claim_23 rfl (ev_aload_n (pc := 24) dX8_claim_24 rfl (ev_geti (pc := 25) kF_8_110 dX8_claim_25 rfl rfl (ev_ncmp_lt (pc := 28) 34 (g) ((flD s.1).length) dX8_claim_28 (by decide) (rfl) (hA.1) (by omega) (by omega) (kf := fun c => absurd c (by omega)) (kt := fun c28 => ev_aload_n (pc := 34) dX8_claim_34 rfl (ev_getr (pc := 35) kF_8_46 dX8_claim_35 rfl rfl rfl (ev_iload_n (pc := 38) dX8_claim_38 rfl (ev_iald (pc := 39) (i := g) dX8_claim_39 rfl (rfl) (by omega) rfl (?_))))))))
    rw [o2]
    refine ev_istore_n (pc := 40) dX8_claim_40 rfl (?_)
    have err : ∀ (its : Int32) o5, (∀ I', Mod rn I' s → wfr I I' → Q (some (.int (-1000002))) (I', J, KR p)) → E me_X8_claim d L 75 [some (.ref 82), some (.int (nI g)), some (.int b), some (.int (nI gi)), some (.int its), o5] [] I1 J p Q := by
      intro its o5 kk
      refine ev_ldc (pc := 75) kC_8_80 dX8_claim_75 (ev_iret (pc := 77) dX8_claim_77 rfl ?_)
      exact kk I1 m1 (wfr_ga hF)
    have ok : ∀ n, n < 30 → itsD s.1 ((flD s.1).getD gi 0) b = nI n → E me_X8_claim d L 54 [some (.ref 82), some (.int (nI g)), some (.int b), some (.int (nI gi)), none, none] [.int (nI n)] I1 J p Q := by
      intro n hn30 e
      rw [e, nI_clamp (by omega)] at k
      by_cases cc : s.1 (200 + n) = -1
      · rw [if_neg (fun q => q.elim (nI_ne_m1 (by omega)) (fun q => q cc)), setM_p (nI_pos (by omega))] at k
        refine ev_istore (pc := 54) dX8_claim_54 rfl (ev_iload (pc := 56) dX8_claim_56 rfl (ev_if_lt (pc := 58) 75 dX8_claim_58 (by decide) (kt := fun c => absurd c (nI_pos (by omega))) (kf := fun c58 => ev_aload_n (pc := 61) dX8_claim_61 rfl (ev_getr (pc := 62) kF_8_7 dX8_claim_62 rfl rfl rfl (ev_sipush (pc := 65) (v := (200)) dX8_claim_65 sipush_c200 (ev_iload (pc := 68) dX8_claim_68 rfl (ev_iadd (pc := 70) dX8_claim_70 (ev_iald (pc := 71) (i := 200 + n) dX8_claim_71 rfl (nI_add 200 n) (by omega) rfl (?_)))))))))
        rw [m1.1 _ (by omega), cc]
        refine ev_if_lt (pc := 72) 78 dX8_claim_72 (by decide) (kf := fun c => absurd (by decide) c) (kt := fun c72 => ev_aload_n (pc := 78) dX8_claim_78 rfl (ev_invV (pc := 79) kV_8_86 dX8_claim_79 rfl rfl rfl (by omega) rfl ?_))
        refine m_changes m1 hn fun I2 m2 c2 => ?_
        have r2 := m2.1
        rw [chg_1] at r2
        have hgu2 : gu I2 gi (pgD s.1 (fD s.1) ((flD s.1).getD gi 0)) := gu_y a2.2.1 (c2.1 90 (by decide) (by decide)) (c2.1 94 (by decide) (by decide))
        have h89 : I2 89 gi = nI ((flD s.1).getD gi 0) := by rw [c2.1 89 (by decide) (by decide)]; exact a2.1
        generalize (flD s.1).getD gi 0 = f at *
        generalize hps : pgD s.1 (fD s.1) f = ps at *
        refine ev_iconst (pc := 82) (v := (0)) dX8_claim_82 iconst_c0 (ev_istore (pc := 83) dX8_claim_83 rfl (?_))
        refine lp_mclaim a1 hgu2 a6 (fun I3 g3 f3 => ?_) ps.length 0 I2 (by omega) (fun j hj => absurd hj (Nat.not_lt_zero _)) (fr1_rf _)
        have r3 : rowM I3 s.1 := rowM_of r2 (f3 83 (by decide))
        refine ev_aload_n (pc := 121) dX8_claim_121 rfl (ev_iload (pc := 122) dX8_claim_122 rfl (ev_aload_n (pc := 124) dX8_claim_124 rfl (ev_getr (pc := 125) kF_8_7 dX8_claim_125 rfl rfl rfl (ev_bipush (pc := 128) (v := (40)) dX8_claim_128 bipush_c40 (ev_aload_n (pc := 130) dX8_claim_130 rfl (ev_getr (pc := 131) kF_8_28 dX8_claim_131 rfl rfl rfl (ev_iload_n (pc := 134) dX8_claim_134 rfl (ev_iald (pc := 135) (i := gi) dX8_claim_135 rfl (rfl) (by omega) rfl (?_)))))))))
        rw [f3 89 (by decide), h89]
        refine ev_iadd (pc := 136) dX8_claim_136 (ev_iald (pc := 137) (i := 40 + f) dX8_claim_137 rfl (nI_add 40 f) (by omega) rfl (?_))
        rw [r3 _ (by omega)]
        refine ev_aload_n (pc := 138) dX8_claim_138 rfl (ev_getr (pc := 139) kF_8_31 dX8_claim_139 rfl rfl rfl (ev_iload_n (pc := 142) dX8_claim_142 rfl (ev_iald (pc := 143) (i := gi) dX8_claim_143 rfl (rfl) (by omega) rfl (?_))))
        rw [f3 90 (by decide), hgu2.1]
        refine ev_invV (pc := 144) kV_8_89 dX8_claim_144 rfl rfl rfl (by omega) rfl ?_
        refine m_lays a4 a5 a6 g3 (by omega) r3 fun I4 r4 f4 => ?_
        have e1 : I4 83 251 = s.1 251 := by rw [r4 251 (by omega), ly_hi (by omega), if_neg (by omega)]
        refine ev_aload_n (pc := 147) dX8_claim_147 rfl (ev_getr (pc := 148) kF_8_7 dX8_claim_148 rfl rfl rfl (ev_sipush (pc := 151) (v := (251)) dX8_claim_151 sipush_c251 (ev_dup2 (pc := 154) dX8_claim_154 rfl rfl (ev_iald (pc := 155) (i := 251) dX8_claim_155 rfl (rfl) (by omega) rfl (?_)))))
        rw [e1]
        refine ev_iconst (pc := 156) (v := (1)) dX8_claim_156 iconst_c1 (ev_iadd (pc := 157) dX8_claim_157 (ev_iast (pc := 158) (i := 251) dX8_claim_158 rfl rfl (rfl) (by omega) rfl (ev_aload_n (pc := 159) dX8_claim_159 rfl (ev_getr (pc := 160) kF_8_31 dX8_claim_160 rfl rfl rfl (ev_iload_n (pc := 163) dX8_claim_163 rfl (?_))))))
        have e2 : ui I4 83 251 (s.1 251 + 1) 90 gi = nI ps.length := by
          rw [show ui I4 83 251 (s.1 251 + 1) 90 gi = I4 90 gi by simp [ui], f4 90 (by decide), f3 90 (by decide)]
          exact hgu2.1
        refine ev_iald (pc := 164) (i := gi) dX8_claim_164 rfl (rfl) (by omega) rfl (?_)
        rw [e2]
        refine ev_iret (pc := 165) dX8_claim_165 rfl ?_
        have f5 : fr1 83 I3 (ui I4 83 251 (s.1 251 + 1)) := fr1_ui f4
        refine k _ (Mod_1 (Mod_w m2 f3 (by omega)) (rowM_ui r4 251 _) f5) (wfr_tr (wfr_ga hF) (wfr_tr (wfr_c c2) (wfr_tr (wfr_1 f3 (by omega)) (wfr_1 f5 (by omega)))))
      · rw [if_pos (Or.inr cc), setM_e (by decide)] at k
        obtain ⟨f', st, l, h1, h2, h3, h4, h5, h6⟩ := wf_file hw hn30 cc
        refine ev_istore (pc := 54) dX8_claim_54 rfl (ev_iload (pc := 56) dX8_claim_56 rfl (ev_if_lt (pc := 58) 75 dX8_claim_58 (by decide) (kt := fun c => absurd c (nI_pos (by omega))) (kf := fun c58 => ev_aload_n (pc := 61) dX8_claim_61 rfl (ev_getr (pc := 62) kF_8_7 dX8_claim_62 rfl rfl rfl (ev_sipush (pc := 65) (v := (200)) dX8_claim_65 sipush_c200 (ev_iload (pc := 68) dX8_claim_68 rfl (ev_iadd (pc := 70) dX8_claim_70 (ev_iald (pc := 71) (i := 200 + n) dX8_claim_71 rfl (nI_add 200 n) (by omega) rfl (?_)))))))))
        rw [m1.1 _ (by omega), h5]
        refine ev_if_lt (pc := 72) 78 dX8_claim_72 (by decide) (kt := fun c => absurd c (nI_pos (by omega))) (kf := fun c72 => ?_)
        exact err _ _ k
    rcases hb with rfl | ⟨n, n1, rfl⟩
    · refine ev_iload_n (pc := 41) dX8_claim_41 rfl (ev_if_ge (pc := 42) 53 dX8_claim_42 (by decide) (kt := fun c => absurd c (by decide)) (kf := fun c42 => ev_aload_n (pc := 45) dX8_claim_45 rfl (ev_iload_n (pc := 46) dX8_claim_46 rfl (ev_invV (pc := 47) kV_8_129 dX8_claim_47 rfl rfl rfl (by omega) rfl ?_))))
      refine m_nameOf (by omega) m1.1 hwG hA o1 ?_
      rcases its_nm (f := (flD s.1).getD gi 0) hw with ⟨e1, e2⟩ | ⟨m, n, e0, e1, e2, e3, e4⟩
      · rw [e1]
        rw [if_pos (Or.inl e2), setM_e (by decide)] at k
        simp only [Option.elim_none]
        refine ev_goto (pc := 50) 54 dX8_claim_50 (by decide) (ev_istore (pc := 54) dX8_claim_54 rfl (ev_iload (pc := 56) dX8_claim_56 rfl (ev_if_lt (pc := 58) 75 dX8_claim_58 (by decide) (kf := fun c => absurd (by decide) c) (kt := fun c58 => ?_))))
        exact err _ _ k
      · rw [e2]
        simp only [Option.elim_some]
        rw [e4]
        refine ev_goto (pc := 50) 54 dX8_claim_50 (by decide) (?_)
        exact ok n e1 e3
    · refine ev_iload_n (pc := 41) dX8_claim_41 rfl (ev_if_ge (pc := 42) 53 dX8_claim_42 (by decide) (kf := fun c => absurd (nI_pos' (by omega)) c) (kt := fun c42 => ev_iload_n (pc := 53) dX8_claim_53 rfl (?_)))
      exact ok n n1 (by unfold itsD; rw [if_neg (nI_ne_m1 (by omega))])
  by_cases qb : b = -1
  · rw [decide_eq_true qb, Bool.true_or, if_pos rfl] at k
    refine ev_iload_n (pc := 0) dX8_claim_0 rfl (ev_if_lt (pc := 1) 16 dX8_claim_1 (by decide) (kt := fun c => absurd c (q0)) (kf := fun c1 => ev_iload_n (pc := 4) dX8_claim_4 rfl (ev_iconst (pc := 5) (v := (-1)) dX8_claim_5 iconst_cm1 (ev_icmp_eq (pc := 6) 19 dX8_claim_6 (by decide) (kf := fun c => absurd (qb) c) (kt := fun c6 => ?_)))))
    exact join (Or.inl qb) k
  rw [decide_eq_false qb, Bool.false_or] at k
  refine ev_iload_n (pc := 0) dX8_claim_0 rfl (ev_if_lt (pc := 1) 16 dX8_claim_1 (by decide) (kt := fun c => absurd c (q0)) (kf := fun c1 => ev_iload_n (pc := 4) dX8_claim_4 rfl (ev_iconst (pc := 5) (v := (-1)) dX8_claim_5 iconst_cm1 (ev_icmp_eq (pc := 6) 19 dX8_claim_6 (by decide) (kt := fun c => absurd c (qb)) (kf := fun c6 => ev_iload_n (pc := 9) dX8_claim_9 rfl (ev_invS (pc := 10) kS_8_76 dX8_claim_10 rfl (by omega) rfl ?_))))))
  refine m_isName (by omega) b ?_
  cases q1 : inR 0 29 b
  · rw [q1, if_neg (by decide)] at k
    refine ev_ifb_ne (pc := 13) 19 dX8_claim_13 (by decide) (kt := fun c => absurd c (by simp)) (kf := fun c13 => ev_ldc (pc := 16) kC_8_79 dX8_claim_16 (ev_iret (pc := 18) dX8_claim_18 rfl ?_))
    exact k I hm (wfr_rf I)
  rw [q1, if_pos rfl] at k
  obtain ⟨n, n1, n2, n3⟩ := inR_n (by omega) (by omega) q1
  refine ev_ifb_ne (pc := 13) 19 dX8_claim_13 (by decide) (kf := fun c => absurd c (by simp)) (kt := fun c13 => ?_)
  exact join (Or.inr ⟨n, by omega, n3⟩) k
end T60
