/-! ===== the reference: guessOf, pageOf, count ===== -/
section T63
variable {d L : Nat} {I : Nat → Nat → Int32} {J : Nat → Nat → Int64} {p : Nat → Nat} {Q : Option Value → am_M → Prop} {s : Sta} {rn : Bool}
theorem mfr_ga {I I' : Nat → Nat → Int32} (h : gaF I I') : mfr I I' := fun c hc => h.1 c (by omega)
theorem m_guessOf (hd : 7 ≤ d) (hm : Mod rn I s) (hw : wfD s.1) (a b : Int32) (k : ∀ I', Mod rn I' s → mfr I I' → Q (some (.int (oGuess s a b))) (I', J, KR p)) : T d me_X8_guessOf [.ref 82, .int a, .int b] L I J p Q := by
  refine am_enter [some (.ref 82), some (.int a), some (.int b), none] rfl rfl rfl rfl ?_
  unfold oGuess at k
  have hwG := wfG_of hw
  by_cases q0 : a < 0
  · rw [decide_eq_true q0, Bool.not_true, Bool.false_and, if_neg (by decide)] at k
    refine ev_iload_n (pc := 0) dX8_guessOf_0 rfl (ev_if_lt (pc := 1) 25 dX8_guessOf_1 (by decide) (kf := fun c => absurd (q0) c) (kt := fun c1 => ev_ldc (pc := 25) kC_8_79 dX8_guessOf_25 (ev_iret (pc := 27) dX8_guessOf_27 rfl ?_)))
    exact k _ hm (fun _ _ => rfl)
  rw [decide_eq_false q0, Bool.not_false, Bool.true_and] at k
  obtain ⟨g, g1, rfl⟩ := nI_of q0
  rw [nI_clamp g1] at k
  have join : ∀ w, w < 22 → (w ≤ 7 ∨ 10 ≤ w) → b = nI w → (∀ I', Mod rn I' s → mfr I I' → Q (some (.int (gueV s.1 g w))) (I', J, KR p)) → E me_X8_guessOf d L 28 [some (.ref 82), some (.int (nI g)), some (.int b), none] [] I J p Q := by
    intro w hw1 hw2 eb kq
    subst eb
    clear k
    have hl : (flD s.1).length ≤ 40 := fl_len40 (Nat.le_refl _)
    have fgl := fg_len (D := s.1)
    unfold gueV at kq
    refine ev_aload_n (pc := 28) dX8_guessOf_28 rfl (ev_invV (pc := 29) kV_8_126 dX8_guessOf_29 rfl rfl rfl (by omega) rfl ?_)
    refine m_guessAll (by omega) hm.1 hwG fun I1 hA hO hF => ?_
    have m1 := Mod_ga hm hF
    have kk := kq I1 m1 (mfr_ga hF)
    clear kq
    by_cases q : (glD s.1 (fD s.1)).length ≤ g
    · rw [if_pos q] at kk
      refine ev_iload_n (pc := 32) dX8_guessOf_32 rfl (ev_aload_n (pc := 33) dX8_guessOf_33 rfl (ev_geti (pc := 34) kF_8_110 dX8_guessOf_34 rfl rfl (ev_ncmp_lt (pc := 37) 43 (g) ((flD s.1).length) dX8_guessOf_37 (by decide) (rfl) (hA.1) (by omega) (by omega) (kt := fun c => absurd c (by omega)) (kf := fun c37 => ev_ldc (pc := 40) kC_8_71 dX8_guessOf_40 (ev_iret (pc := 42) dX8_guessOf_42 rfl ?_)))))
      exact kk
    rw [if_neg q] at kk
    obtain ⟨gi, o1, o2, o3⟩ := hO g (by omega)
    obtain ⟨a1, a2, a3, a4, a5, a6, a7, a8⟩ := ga_at hwG hA o1
    obtain ⟨b1, b2, b3, b4, b5⟩ := id a2
    obtain ⟨l1, l2, l3⟩ := hwG.2.1 _ a3 a8
    refine ev_iload_n (pc := 32) dX8_guessOf_32 rfl (ev_aload_n (pc := 33) dX8_guessOf_33 rfl (ev_geti (pc := 34) kF_8_110 dX8_guessOf_34 rfl rfl (ev_ncmp_lt (pc := 37) 43 (g) ((flD s.1).length) dX8_guessOf_37 (by decide) (rfl) (hA.1) (by omega) (by omega) (kf := fun c => absurd c (by omega)) (kt := fun c37 => ev_aload_n (pc := 43) dX8_guessOf_43 rfl (ev_getr (pc := 44) kF_8_46 dX8_guessOf_44 rfl rfl rfl (ev_iload_n (pc := 47) dX8_guessOf_47 rfl (ev_iald (pc := 48) (i := g) dX8_guessOf_48 rfl (rfl) (by omega) rfl (?_))))))))
    rw [o2]
    refine ev_istore_n (pc := 49) dX8_guessOf_49 rfl (ev_iload_n (pc := 50) dX8_guessOf_50 rfl (?_))
    by_cases w8 : 8 ≤ w
    · rw [← o3] at kk
      rw [if_neg (by omega), if_neg (by omega), if_neg (by omega), if_neg (by omega), if_neg (by omega), if_neg (by omega), if_neg (by omega), if_neg (by omega)] at kk
      refine ev_tabOut (pc := 51) 176 dX8_guessOf_51 (Or.inr (by rw [nI_toInt (by omega)]; omega)) (by decide) ?_
      refine ev_iload_n (pc := 176) dX8_guessOf_176 rfl (ev_bipush (pc := 177) (v := (10)) dX8_guessOf_177 bipush_c10 (ev_isub (pc := 179) dX8_guessOf_179 (?_)))
      rw [show nI w - 10 = nI (w - 10) from nI_less (a := w) (b := 10) (by omega)]
      by_cases c : w - 10 < (pgD s.1 (fD s.1) ((flD s.1).getD gi 0)).length
      · have hx : (12 : Int32) * nI gi + nI w - 10 = nI (12 * gi + (w - 10)) := by
          rw [mul12 gi a1, show nI (12 * gi) + nI w = nI (12 * gi + w) from nI_add _ _, show 12 * gi + (w - 10) = 12 * gi + w - 10 by omega]
          exact nI_less (a := 12 * gi + w) (b := 10) (by omega)
        have hq := a7 _ (getD_mem c)
        rw [if_pos c] at kk
        unfold fdD at kk
        rw [if_neg (nI_ne_m1 (by omega))] at kk
        refine ev_aload_n (pc := 180) dX8_guessOf_180 rfl (ev_getr (pc := 181) kF_8_31 dX8_guessOf_181 rfl rfl rfl (ev_iload_n (pc := 184) dX8_guessOf_184 rfl (ev_iald (pc := 185) (i := gi) dX8_guessOf_185 rfl (rfl) (by omega) rfl (ev_ncmp_ge (pc := 186) 206 (w - 10) ((pgD s.1 (fD s.1) ((flD s.1).getD gi 0)).length) dX8_guessOf_186 (by decide) (rfl) (b2.1) (by omega) (by omega) (kt := fun c => absurd c (by omega)) (kf := fun c186 => ?_)))))
        refine ev_aload_n (pc := 189) dX8_guessOf_189 rfl (ev_getr (pc := 190) kF_8_43 dX8_guessOf_190 rfl rfl rfl (ev_bipush (pc := 193) (v := (12)) dX8_guessOf_193 bipush_c12 (ev_iload_n (pc := 195) dX8_guessOf_195 rfl (ev_imul (pc := 196) dX8_guessOf_196 (ev_iload_n (pc := 197) dX8_guessOf_197 rfl (ev_iadd (pc := 198) dX8_guessOf_198 (ev_bipush (pc := 199) (v := (10)) dX8_guessOf_199 bipush_c10 (ev_isub (pc := 201) dX8_guessOf_201 (ev_iald (pc := 202) (i := 12 * gi + (w - 10)) dX8_guessOf_202 rfl (hx) (by omega) rfl (?_))))))))))
        rw [b2.2 _ c]
        refine ev_goto (pc := 203) 208 dX8_guessOf_203 (by decide) (ev_iret (pc := 208) dX8_guessOf_208 rfl ?_)
        exact kk
      · rw [if_neg c] at kk
        refine ev_aload_n (pc := 180) dX8_guessOf_180 rfl (ev_getr (pc := 181) kF_8_31 dX8_guessOf_181 rfl rfl rfl (ev_iload_n (pc := 184) dX8_guessOf_184 rfl (ev_iald (pc := 185) (i := gi) dX8_guessOf_185 rfl (rfl) (by omega) rfl (ev_ncmp_ge (pc := 186) 206 (w - 10) ((pgD s.1 (fD s.1) ((flD s.1).getD gi 0)).length) dX8_guessOf_186 (by decide) (rfl) (b2.1) (by omega) (by omega) (kf := fun c => absurd c (by omega)) (kt := fun c186 => ev_ldc (pc := 206) kC_8_71 dX8_guessOf_206 (ev_iret (pc := 208) dX8_guessOf_208 rfl ?_))))))
        exact kk
    · obtain rfl | rfl | rfl | rfl | rfl | rfl | rfl | rfl : w = 0 ∨ w = 1 ∨ w = 2 ∨ w = 3 ∨ w = 4 ∨ w = 5 ∨ w = 6 ∨ w = 7 := by omega
      · rw [← o3] at kk
        refine ev_tabIn (pc := 51) (off := 45) 96 dX8_guessOf_51 (by decide) (by decide) (by decide) (by decide) ?_
        refine ev_aload_n (pc := 96) dX8_guessOf_96 rfl (ev_getr (pc := 97) kF_8_40 dX8_guessOf_97 rfl rfl rfl (ev_iload_n (pc := 100) dX8_guessOf_100 rfl (ev_iald (pc := 101) (i := gi) dX8_guessOf_101 rfl (rfl) (by omega) rfl (?_))))
        rw [b5]
        refine ev_bipush (pc := 102) (v := (100)) dX8_guessOf_102 bipush_c100 (ev_iadd (pc := 104) dX8_guessOf_104 (ev_iret (pc := 105) dX8_guessOf_105 rfl ?_))
        exact kk
      · rw [← o3] at kk
        refine ev_tabIn (pc := 51) (off := 55) 106 dX8_guessOf_51 (by decide) (by decide) (by decide) (by decide) ?_
        refine ev_aload_n (pc := 106) dX8_guessOf_106 rfl (ev_getr (pc := 107) kF_8_31 dX8_guessOf_107 rfl rfl rfl (ev_iload_n (pc := 110) dX8_guessOf_110 rfl (ev_iald (pc := 111) (i := gi) dX8_guessOf_111 rfl (rfl) (by omega) rfl (?_))))
        rw [b2.1]
        refine ev_iret (pc := 112) dX8_guessOf_112 rfl ?_
        exact kk
      · rw [← o3] at kk
        refine ev_tabIn (pc := 51) (off := 62) 113 dX8_guessOf_51 (by decide) (by decide) (by decide) (by decide) ?_
        refine ev_aload_n (pc := 113) dX8_guessOf_113 rfl (ev_getr (pc := 114) kF_8_7 dX8_guessOf_114 rfl rfl rfl (ev_bipush (pc := 117) (v := (80)) dX8_guessOf_117 bipush_c80 (ev_aload_n (pc := 119) dX8_guessOf_119 rfl (ev_getr (pc := 120) kF_8_28 dX8_guessOf_120 rfl rfl rfl (ev_iload_n (pc := 123) dX8_guessOf_123 rfl (ev_iald (pc := 124) (i := gi) dX8_guessOf_124 rfl (rfl) (by omega) rfl (?_)))))))
        rw [b1]
        refine ev_iadd (pc := 125) dX8_guessOf_125 (ev_iald (pc := 126) (i := 80 + (flD s.1).getD gi 0) dX8_guessOf_126 rfl (nI_add 80 _) (by omega) rfl (?_))
        rw [m1.1 _ (by omega), l1]
        refine ev_aload_n (pc := 127) dX8_guessOf_127 rfl (ev_getr (pc := 128) kF_8_31 dX8_guessOf_128 rfl rfl rfl (ev_iload_n (pc := 131) dX8_guessOf_131 rfl (ev_iald (pc := 132) (i := gi) dX8_guessOf_132 rfl (rfl) (by omega) rfl (?_))))
        rw [b2.1]
        refine ev_isub (pc := 133) dX8_guessOf_133 (ev_iret (pc := 134) dX8_guessOf_134 rfl ?_)
        exact kk
      · rw [← o3] at kk
        refine ev_tabIn (pc := 51) (off := 84) 135 dX8_guessOf_51 (by decide) (by decide) (by decide) (by decide) ?_
        refine ev_aload_n (pc := 135) dX8_guessOf_135 rfl (ev_getr (pc := 136) kF_8_7 dX8_guessOf_136 rfl rfl rfl (ev_bipush (pc := 139) (v := (40)) dX8_guessOf_139 bipush_c40 (ev_aload_n (pc := 141) dX8_guessOf_141 rfl (ev_getr (pc := 142) kF_8_28 dX8_guessOf_142 rfl rfl rfl (ev_iload_n (pc := 145) dX8_guessOf_145 rfl (ev_iald (pc := 146) (i := gi) dX8_guessOf_146 rfl (rfl) (by omega) rfl (?_)))))))
        rw [b1]
        refine ev_iadd (pc := 147) dX8_guessOf_147 (ev_iald (pc := 148) (i := 40 + (flD s.1).getD gi 0) dX8_guessOf_148 rfl (nI_add 40 _) (by omega) rfl (?_))
        rw [m1.1 _ (by omega)]
        refine ev_iret (pc := 149) dX8_guessOf_149 rfl ?_
        exact kk
      · rw [← o3] at kk
        refine ev_tabIn (pc := 51) (off := 99) 150 dX8_guessOf_51 (by decide) (by decide) (by decide) (by decide) ?_
        refine ev_aload_n (pc := 150) dX8_guessOf_150 rfl (ev_iload_n (pc := 151) dX8_guessOf_151 rfl (ev_invV (pc := 152) kV_8_129 dX8_guessOf_152 rfl rfl rfl (by omega) rfl ?_))
        refine m_nameOf (by omega) m1.1 hwG hA o1 ?_
        refine ev_iret (pc := 155) dX8_guessOf_155 rfl ?_
        rcases its_nm (f := (flD s.1).getD gi 0) hw with ⟨e1, e2⟩ | ⟨m, n, e0, e1, e2, e3, e4⟩
        · rw [e1] at kk ⊢
          exact kk
        · rw [e2] at kk ⊢
          simp only [Option.elim_some, e4] at kk ⊢
          unfold fdD at kk
          rw [if_neg (nI_ne_m1 (by omega))] at kk
          exact kk
      · rw [← o3] at kk
        refine ev_tabIn (pc := 51) (off := 105) 156 dX8_guessOf_51 (by decide) (by decide) (by decide) (by decide) ?_
        refine ev_aload_n (pc := 156) dX8_guessOf_156 rfl (ev_getr (pc := 157) kF_8_34 dX8_guessOf_157 rfl rfl rfl (ev_iload_n (pc := 160) dX8_guessOf_160 rfl (ev_iald (pc := 161) (i := gi) dX8_guessOf_161 rfl (rfl) (by omega) rfl (?_))))
        rw [b3]
        refine ev_iret (pc := 162) dX8_guessOf_162 rfl ?_
        exact kk
      · rw [← o3] at kk
        refine ev_tabIn (pc := 51) (off := 112) 163 dX8_guessOf_51 (by decide) (by decide) (by decide) (by decide) ?_
        refine ev_aload_n (pc := 163) dX8_guessOf_163 rfl (ev_getr (pc := 164) kF_8_37 dX8_guessOf_164 rfl rfl rfl (ev_iload_n (pc := 167) dX8_guessOf_167 rfl (ev_iald (pc := 168) (i := gi) dX8_guessOf_168 rfl (rfl) (by omega) rfl (?_))))
        rw [b4]
        refine ev_iret (pc := 169) dX8_guessOf_169 rfl ?_
        exact kk
      · refine ev_tabIn (pc := 51) (off := 119) 170 dX8_guessOf_51 (by decide) (by decide) (by decide) (by decide) ?_
        refine ev_aload_n (pc := 170) dX8_guessOf_170 rfl (ev_iload_n (pc := 171) dX8_guessOf_171 rfl (ev_invV (pc := 172) kV_8_132 dX8_guessOf_172 rfl rfl rfl (by omega) rfl ?_))
        refine m_sharing (by omega) hwG hA o1 o3 ?_
        refine ev_iret (pc := 175) dX8_guessOf_175 rfl ?_
        exact kk
  refine ev_iload_n (pc := 0) dX8_guessOf_0 rfl (ev_if_lt (pc := 1) 25 dX8_guessOf_1 (by decide) (kt := fun c => absurd c (q0)) (kf := fun c1 => ev_iload_n (pc := 4) dX8_guessOf_4 rfl (ev_iconst (pc := 5) (v := (0)) dX8_guessOf_5 iconst_c0 (ev_bipush (pc := 6) (v := (7)) dX8_guessOf_6 bipush_c7 (ev_invS (pc := 8) kS_8_52 dX8_guessOf_8 rfl (by omega) rfl ?_)))))
  refine m_in 0 7 b ?_
  cases q2 : inR 0 7 b
  · rw [q2, Bool.false_or] at k
    refine ev_ifb_ne (pc := 11) 28 dX8_guessOf_11 (by decide) (kt := fun c => absurd c (by simp)) (kf := fun c11 => ev_iload_n (pc := 14) dX8_guessOf_14 rfl (ev_bipush (pc := 15) (v := (10)) dX8_guessOf_15 bipush_c10 (ev_bipush (pc := 17) (v := (21)) dX8_guessOf_17 bipush_c21 (ev_invS (pc := 19) kS_8_52 dX8_guessOf_19 rfl (by omega) rfl ?_))))
    refine m_in 10 21 b ?_
    cases q3 : inR 10 21 b
    · rw [q3, if_neg (by decide)] at k
      refine ev_ifb_ne (pc := 22) 28 dX8_guessOf_22 (by decide) (kt := fun c => absurd c (by simp)) (kf := fun c22 => ev_ldc (pc := 25) kC_8_79 dX8_guessOf_25 (ev_iret (pc := 27) dX8_guessOf_27 rfl ?_))
      exact k _ hm (fun _ _ => rfl)
    · rw [q3, if_pos rfl] at k
      obtain ⟨w, w1, w2, e⟩ := inR_n (by omega) (by omega) q3
      rw [e, nI_clamp (by omega)] at k
      refine ev_ifb_ne (pc := 22) 28 dX8_guessOf_22 (by decide) (kf := fun c => absurd c (by simp)) (kt := fun c22 => ?_)
      exact join w (by omega) (by omega) e k
  · rw [q2, Bool.true_or, if_pos rfl] at k
    obtain ⟨w, w1, w2, e⟩ := inR_n (by omega) (by omega) q2
    rw [e, nI_clamp (by omega)] at k
    refine ev_ifb_ne (pc := 11) 28 dX8_guessOf_11 (by decide) (kf := fun c => absurd c (by simp)) (kt := fun c11 => ?_)
    exact join w (by omega) (by omega) e k
theorem m_pageOf (hd : 7 ≤ d) (hm : Mod rn I s) (hw : wfD s.1) (a b : Int32) (k : ∀ I', Mod rn I' s → mfr I I' → Q (some (.int (oPage s a b))) (I', J, KR p)) : T d me_X8_pageOf [.ref 82, .int a, .int b] L I J p Q := by
  refine am_enter [some (.ref 82), some (.int a), some (.int b), none] rfl rfl rfl rfl ?_
  unfold oPage at k
  have hr := hm.1
  refine ev_iload_n (pc := 0) dX8_pageOf_0 rfl (ev_invS (pc := 1) kS_8_64 dX8_pageOf_1 rfl (by omega) rfl ?_)
  refine m_isPage (by omega) a ?_
  cases q1 : inR 0 39 a
  · rw [q1, Bool.false_and, if_neg (by decide)] at k
    refine ev_ifb_eq (pc := 4) 17 dX8_pageOf_4 (by decide) (kf := fun c => absurd c (by simp)) (kt := fun c4 => ev_ldc (pc := 17) kC_8_79 dX8_pageOf_17 (ev_iret (pc := 19) dX8_pageOf_19 rfl ?_))
    exact k _ hm (fun _ _ => rfl)
  rw [q1, Bool.true_and] at k
  obtain ⟨j, n1, n2, rfl⟩ := inR_n (by omega) (by omega) q1
  rw [nI_clamp (by omega)] at k
  have hj : j < 40 := by omega
  refine ev_ifb_eq (pc := 4) 17 dX8_pageOf_4 (by decide) (kt := fun c => absurd c (by simp)) (kf := fun c4 => ev_iload_n (pc := 7) dX8_pageOf_7 rfl (ev_iconst (pc := 8) (v := (0)) dX8_pageOf_8 iconst_c0 (ev_bipush (pc := 9) (v := (6)) dX8_pageOf_9 bipush_c6 (ev_invS (pc := 11) kS_8_52 dX8_pageOf_11 rfl (by omega) rfl ?_))))
  refine m_in 0 6 b ?_
  cases q2 : inR 0 6 b
  · rw [q2, if_neg (by decide)] at k
    refine ev_ifb_ne (pc := 14) 20 dX8_pageOf_14 (by decide) (kt := fun c => absurd c (by simp)) (kf := fun c14 => ev_ldc (pc := 17) kC_8_79 dX8_pageOf_17 (ev_iret (pc := 19) dX8_pageOf_19 rfl ?_))
    exact k _ hm (fun _ _ => rfl)
  rw [q2, if_pos rfl] at k
  obtain ⟨w, w1, w2, rfl⟩ := inR_n (by omega) (by omega) q2
  rw [nI_clamp (by omega)] at k
  unfold pageV at k
  obtain ⟨a1, a2, a3, a4, a5, a6⟩ := hw.1 j hj
  refine ev_ifb_ne (pc := 14) 20 dX8_pageOf_14 (by decide) (kf := fun c => absurd c (by simp)) (kt := fun c14 => ev_aload_n (pc := 20) dX8_pageOf_20 rfl (ev_getr (pc := 21) kF_8_7 dX8_pageOf_21 rfl rfl rfl (ev_iconst (pc := 24) (v := (0)) dX8_pageOf_24 iconst_c0 (ev_iload_n (pc := 25) dX8_pageOf_25 rfl (ev_iadd (pc := 26) dX8_pageOf_26 (ev_iald (pc := 27) (i := j) dX8_pageOf_27 rfl (Int32.zero_add _) (by omega) rfl (?_)))))))
  rw [hr j (by omega)]
  refine ev_istore_n (pc := 28) dX8_pageOf_28 rfl (ev_iload_n (pc := 29) dX8_pageOf_29 rfl (?_))
  obtain rfl | rfl | rfl | rfl | rfl | rfl | rfl : w = 0 ∨ w = 1 ∨ w = 2 ∨ w = 3 ∨ w = 4 ∨ w = 5 ∨ w = 6 := by omega
  · rw [if_pos rfl] at k
    refine ev_tabIn (pc := 30) (off := 38) 68 dX8_pageOf_30 (by decide) (by decide) (by decide) (by decide) ?_
    refine ev_aload_n (pc := 68) dX8_pageOf_68 rfl (ev_iload_n (pc := 69) dX8_pageOf_69 rfl (ev_invV (pc := 70) kV_8_68 dX8_pageOf_70 rfl rfl rfl (by omega) rfl ?_))
    refine m_isFree (by omega) hr (own_wf hw) (by omega) ?_
    rw [decide_eq_true hj, Bool.true_and]
    cases q : fD s.1 j
    · rw [q] at k
      refine ev_ifb_eq (pc := 73) 80 dX8_pageOf_73 (by decide) (kf := fun c => absurd c (by simp)) (kt := fun c73 => ev_iconst (pc := 80) (v := (0)) dX8_pageOf_80 iconst_c0 (ev_iret (pc := 81) dX8_pageOf_81 rfl ?_))
      exact k _ hm (fun _ _ => rfl)
    · rw [q] at k
      refine ev_ifb_eq (pc := 73) 80 dX8_pageOf_73 (by decide) (kt := fun c => absurd c (by simp)) (kf := fun c73 => ev_iconst (pc := 76) (v := (1)) dX8_pageOf_76 iconst_c1 (ev_goto (pc := 77) 81 dX8_pageOf_77 (by decide) (ev_iret (pc := 81) dX8_pageOf_81 rfl ?_)))
      exact k _ hm (fun _ _ => rfl)
  · refine ev_tabIn (pc := 30) (off := 52) 82 dX8_pageOf_30 (by decide) (by decide) (by decide) (by decide) ?_
    refine ev_iload_n (pc := 82) dX8_pageOf_82 rfl (ev_iret (pc := 83) dX8_pageOf_83 rfl ?_)
    exact k _ hm (fun _ _ => rfl)
  · refine ev_tabIn (pc := 30) (off := 54) 84 dX8_pageOf_30 (by decide) (by decide) (by decide) (by decide) ?_
    simp only [show ¬ (2 : Nat) = 0 by omega, show ¬ (2 : Nat) = 1 by omega, if_false, if_true] at k
    by_cases cc : s.1 j = 0
    · rw [if_pos cc] at k
      refine ev_iload_n (pc := 84) dX8_pageOf_84 rfl (ev_if_ne (pc := 85) 93 dX8_pageOf_85 (by decide) (kt := fun c => absurd (cc) c) (kf := fun c85 => ev_ldc (pc := 88) kC_8_71 dX8_pageOf_88 (ev_goto (pc := 90) 102 dX8_pageOf_90 (by decide) (ev_iret (pc := 102) dX8_pageOf_102 rfl ?_))))
      exact k _ hm (fun _ _ => rfl)
    · rw [if_neg cc] at k
      refine ev_iload_n (pc := 84) dX8_pageOf_84 rfl (ev_if_ne (pc := 85) 93 dX8_pageOf_85 (by decide) (kf := fun c => absurd c (cc)) (kt := fun c85 => ev_aload_n (pc := 93) dX8_pageOf_93 rfl (ev_getr (pc := 94) kF_8_7 dX8_pageOf_94 rfl rfl rfl (ev_bipush (pc := 97) (v := (40)) dX8_pageOf_97 bipush_c40 (ev_iload_n (pc := 99) dX8_pageOf_99 rfl (ev_iadd (pc := 100) dX8_pageOf_100 (ev_iald (pc := 101) (i := 40 + j) dX8_pageOf_101 rfl (nI_add 40 j) (by omega) rfl (?_))))))))
      rw [hr _ (by omega)]
      refine ev_iret (pc := 102) dX8_pageOf_102 rfl ?_
      exact k _ hm (fun _ _ => rfl)
  · refine ev_tabIn (pc := 30) (off := 73) 103 dX8_pageOf_30 (by decide) (by decide) (by decide) (by decide) ?_
    simp only [show ¬ (3 : Nat) = 0 by omega, show ¬ (3 : Nat) = 1 by omega, show ¬ (3 : Nat) = 2 by omega, if_false, if_true] at k
    by_cases cc : s.1 j = 1
    · rw [if_pos cc] at k
      refine ev_iload_n (pc := 103) dX8_pageOf_103 rfl (ev_iconst (pc := 104) (v := (1)) dX8_pageOf_104 iconst_c1 (ev_icmp_ne (pc := 105) 120 dX8_pageOf_105 (by decide) (kt := fun c => absurd (cc) c) (kf := fun c105 => ev_aload_n (pc := 108) dX8_pageOf_108 rfl (ev_getr (pc := 109) kF_8_7 dX8_pageOf_109 rfl rfl rfl (ev_bipush (pc := 112) (v := (80)) dX8_pageOf_112 bipush_c80 (ev_iload_n (pc := 114) dX8_pageOf_114 rfl (ev_iadd (pc := 115) dX8_pageOf_115 (ev_iald (pc := 116) (i := 80 + j) dX8_pageOf_116 rfl (nI_add 80 j) (by omega) rfl (?_)))))))))
      rw [hr _ (by omega)]
      refine ev_goto (pc := 117) 122 dX8_pageOf_117 (by decide) (ev_iret (pc := 122) dX8_pageOf_122 rfl ?_)
      exact k _ hm (fun _ _ => rfl)
    · rw [if_neg cc] at k
      refine ev_iload_n (pc := 103) dX8_pageOf_103 rfl (ev_iconst (pc := 104) (v := (1)) dX8_pageOf_104 iconst_c1 (ev_icmp_ne (pc := 105) 120 dX8_pageOf_105 (by decide) (kf := fun c => absurd c (cc)) (kt := fun c105 => ev_ldc (pc := 120) kC_8_71 dX8_pageOf_120 (ev_iret (pc := 122) dX8_pageOf_122 rfl ?_))))
      exact k _ hm (fun _ _ => rfl)
  · refine ev_tabIn (pc := 30) (off := 93) 123 dX8_pageOf_30 (by decide) (by decide) (by decide) (by decide) ?_
    simp only [show ¬ (4 : Nat) = 0 by omega, show ¬ (4 : Nat) = 1 by omega, show ¬ (4 : Nat) = 2 by omega, show ¬ (4 : Nat) = 3 by omega, if_false, if_true] at k
    unfold fdD at k
    by_cases cc : s.1 j = 0
    · rw [if_pos (a6 cc)] at k
      refine ev_iload_n (pc := 123) dX8_pageOf_123 rfl (ev_if_eq (pc := 124) 139 dX8_pageOf_124 (by decide) (kf := fun c => absurd (cc) c) (kt := fun c124 => ev_ldc (pc := 139) kC_8_71 dX8_pageOf_139 (ev_goto (pc := 141) 153 dX8_pageOf_141 (by decide) (ev_iret (pc := 153) dX8_pageOf_153 rfl ?_))))
      exact k _ hm (fun _ _ => rfl)
    · rcases a4 with e | ⟨q, q1, e⟩
      · rw [if_pos e] at k
        refine ev_iload_n (pc := 123) dX8_pageOf_123 rfl (ev_if_eq (pc := 124) 139 dX8_pageOf_124 (by decide) (kt := fun c => absurd c (cc)) (kf := fun c124 => ev_aload_n (pc := 127) dX8_pageOf_127 rfl (ev_getr (pc := 128) kF_8_7 dX8_pageOf_128 rfl rfl rfl (ev_bipush (pc := 131) (v := (120)) dX8_pageOf_131 bipush_c120 (ev_iload_n (pc := 133) dX8_pageOf_133 rfl (ev_iadd (pc := 134) dX8_pageOf_134 (ev_iald (pc := 135) (i := 120 + j) dX8_pageOf_135 rfl (nI_add 120 j) (by omega) rfl (?_))))))))
        rw [hr _ (by omega), e]
        refine ev_if_ge (pc := 136) 144 dX8_pageOf_136 (by decide) (kt := fun c => absurd c (by decide)) (kf := fun c136 => ev_ldc (pc := 139) kC_8_71 dX8_pageOf_139 (ev_goto (pc := 141) 153 dX8_pageOf_141 (by decide) (ev_iret (pc := 153) dX8_pageOf_153 rfl ?_)))
        exact k _ hm (fun _ _ => rfl)
      · rw [e, if_neg (nI_ne_m1 (by omega))] at k
        refine ev_iload_n (pc := 123) dX8_pageOf_123 rfl (ev_if_eq (pc := 124) 139 dX8_pageOf_124 (by decide) (kt := fun c => absurd c (cc)) (kf := fun c124 => ev_aload_n (pc := 127) dX8_pageOf_127 rfl (ev_getr (pc := 128) kF_8_7 dX8_pageOf_128 rfl rfl rfl (ev_bipush (pc := 131) (v := (120)) dX8_pageOf_131 bipush_c120 (ev_iload_n (pc := 133) dX8_pageOf_133 rfl (ev_iadd (pc := 134) dX8_pageOf_134 (ev_iald (pc := 135) (i := 120 + j) dX8_pageOf_135 rfl (nI_add 120 j) (by omega) rfl (?_))))))))
        rw [hr _ (by omega), e]
        refine ev_if_ge (pc := 136) 144 dX8_pageOf_136 (by decide) (kf := fun c => absurd (nI_pos' (by omega)) c) (kt := fun c136 => ev_aload_n (pc := 144) dX8_pageOf_144 rfl (ev_getr (pc := 145) kF_8_7 dX8_pageOf_145 rfl rfl rfl (ev_bipush (pc := 148) (v := (120)) dX8_pageOf_148 bipush_c120 (ev_iload_n (pc := 150) dX8_pageOf_150 rfl (ev_iadd (pc := 151) dX8_pageOf_151 (ev_iald (pc := 152) (i := 120 + j) dX8_pageOf_152 rfl (nI_add 120 j) (by omega) rfl (?_)))))))
        rw [hr _ (by omega), e]
        refine ev_iret (pc := 153) dX8_pageOf_153 rfl ?_
        exact k _ hm (fun _ _ => rfl)
  · refine ev_tabIn (pc := 30) (off := 124) 154 dX8_pageOf_30 (by decide) (by decide) (by decide) (by decide) ?_
    simp only [show ¬ (5 : Nat) = 0 by omega, show ¬ (5 : Nat) = 1 by omega, show ¬ (5 : Nat) = 2 by omega, show ¬ (5 : Nat) = 3 by omega, show ¬ (5 : Nat) = 4 by omega, if_false, if_true] at k
    unfold fdD at k
    refine ev_aload_n (pc := 154) dX8_pageOf_154 rfl (ev_iload_n (pc := 155) dX8_pageOf_155 rfl (ev_invV (pc := 156) kV_8_68 dX8_pageOf_156 rfl rfl rfl (by omega) rfl ?_))
    refine m_isFree (by omega) hr (own_wf hw) (by omega) ?_
    rw [decide_eq_true hj, Bool.true_and]
    by_cases q : s.1 (160 + j) = -1
    · rw [if_pos q] at k
      rw [show fD s.1 j = true from decide_eq_true q]
      refine ev_ifb_eq (pc := 159) 167 dX8_pageOf_159 (by decide) (kt := fun c => absurd c (by simp)) (kf := fun c159 => ev_ldc (pc := 162) kC_8_71 dX8_pageOf_162 (ev_goto (pc := 164) 177 dX8_pageOf_164 (by decide) (ev_iret (pc := 177) dX8_pageOf_177 rfl ?_)))
      exact k _ hm (fun _ _ => rfl)
    · rw [if_neg q] at k
      rw [show fD s.1 j = false from decide_eq_false q]
      refine ev_ifb_eq (pc := 159) 167 dX8_pageOf_159 (by decide) (kf := fun c => absurd c (by simp)) (kt := fun c159 => ev_aload_n (pc := 167) dX8_pageOf_167 rfl (ev_getr (pc := 168) kF_8_7 dX8_pageOf_168 rfl rfl rfl (ev_sipush (pc := 171) (v := (160)) dX8_pageOf_171 sipush_c160 (ev_iload_n (pc := 174) dX8_pageOf_174 rfl (ev_iadd (pc := 175) dX8_pageOf_175 (ev_iald (pc := 176) (i := 160 + j) dX8_pageOf_176 rfl (nI_add 160 j) (by omega) rfl (?_)))))))
      rw [hr _ (by omega)]
      refine ev_iret (pc := 177) dX8_pageOf_177 rfl ?_
      exact k _ hm (fun _ _ => rfl)
  · refine ev_tabOut (pc := 30) 178 dX8_pageOf_30 (by decide) (by decide) ?_
    refine ev_aload_n (pc := 178) dX8_pageOf_178 rfl (ev_invV (pc := 179) kV_8_126 dX8_pageOf_179 rfl rfl rfl (by omega) rfl ?_)
    refine m_guessAll (by omega) hr (wfG_of hw) fun I1 hA hO hF => ?_
    refine ev_aload_n (pc := 182) dX8_pageOf_182 rfl (ev_iload_n (pc := 183) dX8_pageOf_183 rfl (ev_invV (pc := 184) kV_8_146 dX8_pageOf_184 rfl rfl rfl (by omega) rfl ?_))
    refine m_guessesOf (by omega) (wfG_of hw) hA hj ?_
    refine ev_iret (pc := 187) dX8_pageOf_187 rfl ?_
    exact k _ (Mod_ga hm hF) (mfr_ga hF)
theorem m_count (hd : 7 ≤ d) (hm : Mod rn I s) (hw : wfD s.1) (a : Int32) (k : ∀ I', Mod rn I' s → mfr I I' → Q (some (.int (oCount s a))) (I', J, KR p)) : T d me_X8_count [.ref 82, .int a] L I J p Q := by
  refine am_enter [some (.ref 82), some (.int a)] rfl rfl rfl rfl ?_
  unfold oCount at k
  refine ev_aload_n (pc := 0) dX8_count_0 rfl (ev_invV (pc := 1) kV_8_126 dX8_count_1 rfl rfl rfl (by omega) rfl ?_)
  refine m_guessAll (by omega) hm.1 (wfG_of hw) fun I1 hA hO hF => ?_
  have m1 := Mod_ga hm hF
  have hr := m1.1
  have kk := k I1 m1 (mfr_ga hF)
  clear k
  refine ev_iload_n (pc := 4) dX8_count_4 rfl (?_)
  cases q1 : inR 0 12 a
  · rw [q1, if_neg (by decide)] at kk
    refine ev_tabOut (pc := 5) 150 dX8_count_5 (inR_out (a := 0) (b := 12) (by decide) (by decide) q1) (by decide) ?_
    refine ev_ldc (pc := 150) kC_8_79 dX8_count_150 (ev_iret (pc := 152) dX8_count_152 rfl ?_)
    exact kk
  rw [q1, if_pos rfl] at kk
  obtain ⟨w, n1, n2, rfl⟩ := inR_n (by omega) (by omega) q1
  rw [nI_clamp (by omega)] at kk
  unfold cntV at kk
  obtain rfl | rfl | rfl | rfl | rfl | rfl | rfl | rfl | rfl | rfl | rfl | rfl | rfl : w = 0 ∨ w = 1 ∨ w = 2 ∨ w = 3 ∨ w = 4 ∨ w = 5 ∨ w = 6 ∨ w = 7 ∨ w = 8 ∨ w = 9 ∨ w = 10 ∨ w = 11 ∨ w = 12 := by omega
  · refine ev_tabIn (pc := 5) (off := 67) 72 dX8_count_5 (by decide) (by decide) (by decide) (by decide) ?_
    refine ev_aload_n (pc := 72) dX8_count_72 rfl (ev_invV (pc := 73) kV_8_93 dX8_count_73 rfl rfl rfl (by omega) rfl ?_)
    refine m_free (by omega) hr (own_wf hw) ?_
    refine ev_iret (pc := 76) dX8_count_76 rfl ?_
    exact kk
  · refine ev_tabIn (pc := 5) (off := 72) 77 dX8_count_5 (by decide) (by decide) (by decide) (by decide) ?_
    refine ev_aload_n (pc := 77) dX8_count_77 rfl (ev_invV (pc := 78) kV_8_149 dX8_count_78 rfl rfl rfl (by omega) rfl ?_)
    refine m_files hr hw ?_
    refine ev_iret (pc := 81) dX8_count_81 rfl ?_
    exact kk
  · refine ev_tabIn (pc := 5) (off := 77) 82 dX8_count_5 (by decide) (by decide) (by decide) (by decide) ?_
    refine ev_aload_n (pc := 82) dX8_count_82 rfl (ev_invV (pc := 83) kV_8_152 dX8_count_83 rfl rfl rfl (by omega) rfl ?_)
    refine m_left (by omega) hr hw ?_
    refine ev_iret (pc := 86) dX8_count_86 rfl ?_
    exact kk
  · refine ev_tabIn (pc := 5) (off := 82) 87 dX8_count_5 (by decide) (by decide) (by decide) (by decide) ?_
    refine ev_aload_n (pc := 87) dX8_count_87 rfl (ev_geti (pc := 88) kF_8_110 dX8_count_88 rfl rfl (?_))
    rw [hA.1, fg_len]
    refine ev_iret (pc := 91) dX8_count_91 rfl ?_
    exact kk
  · refine ev_tabIn (pc := 5) (off := 87) 92 dX8_count_5 (by decide) (by decide) (by decide) (by decide) ?_
    refine ev_aload_n (pc := 92) dX8_count_92 rfl (ev_getr (pc := 93) kF_8_7 dX8_count_93 rfl rfl rfl (ev_sipush (pc := 96) (v := (248)) dX8_count_96 sipush_c248 (ev_iald (pc := 99) (i := 248) dX8_count_99 rfl (rfl) (by omega) rfl (?_))))
    rw [hr 248 (by omega)]
    refine ev_iret (pc := 100) dX8_count_100 rfl ?_
    exact kk
  · refine ev_tabIn (pc := 5) (off := 96) 101 dX8_count_5 (by decide) (by decide) (by decide) (by decide) ?_
    refine ev_sipush (pc := 101) (v := (3000)) dX8_count_101 sipush_c3000 (ev_aload_n (pc := 104) dX8_count_104 rfl (ev_invV (pc := 105) kV_8_139 dX8_count_105 rfl rfl rfl (by omega) rfl ?_))
    refine m_sum hA ?_
    refine ev_iadd (pc := 108) dX8_count_108 (ev_iret (pc := 109) dX8_count_109 rfl ?_)
    rw [Int32.add_comm]
    exact kk
  · refine ev_tabIn (pc := 5) (off := 105) 110 dX8_count_5 (by decide) (by decide) (by decide) (by decide) ?_
    refine ev_aload_n (pc := 110) dX8_count_110 rfl (ev_getr (pc := 111) kF_8_7 dX8_count_111 rfl rfl rfl (ev_sipush (pc := 114) (v := (249)) dX8_count_114 sipush_c249 (ev_iload_n (pc := 117) dX8_count_117 rfl (ev_iadd (pc := 118) dX8_count_118 (ev_bipush (pc := 119) (v := (6)) dX8_count_119 bipush_c6 (ev_isub (pc := 121) dX8_count_121 (ev_iald (pc := 122) (i := 249) dX8_count_122 rfl (by decide) (by omega) rfl (?_))))))))
    rw [hr 249 (by omega)]
    refine ev_iret (pc := 123) dX8_count_123 rfl ?_
    exact kk
  · refine ev_tabIn (pc := 5) (off := 105) 110 dX8_count_5 (by decide) (by decide) (by decide) (by decide) ?_
    refine ev_aload_n (pc := 110) dX8_count_110 rfl (ev_getr (pc := 111) kF_8_7 dX8_count_111 rfl rfl rfl (ev_sipush (pc := 114) (v := (249)) dX8_count_114 sipush_c249 (ev_iload_n (pc := 117) dX8_count_117 rfl (ev_iadd (pc := 118) dX8_count_118 (ev_bipush (pc := 119) (v := (6)) dX8_count_119 bipush_c6 (ev_isub (pc := 121) dX8_count_121 (ev_iald (pc := 122) (i := 250) dX8_count_122 rfl (by decide) (by omega) rfl (?_))))))))
    rw [hr 250 (by omega)]
    refine ev_iret (pc := 123) dX8_count_123 rfl ?_
    exact kk
  · refine ev_tabIn (pc := 5) (off := 105) 110 dX8_count_5 (by decide) (by decide) (by decide) (by decide) ?_
    refine ev_aload_n (pc := 110) dX8_count_110 rfl (ev_getr (pc := 111) kF_8_7 dX8_count_111 rfl rfl rfl (ev_sipush (pc := 114) (v := (249)) dX8_count_114 sipush_c249 (ev_iload_n (pc := 117) dX8_count_117 rfl (ev_iadd (pc := 118) dX8_count_118 (ev_bipush (pc := 119) (v := (6)) dX8_count_119 bipush_c6 (ev_isub (pc := 121) dX8_count_121 (ev_iald (pc := 122) (i := 251) dX8_count_122 rfl (by decide) (by omega) rfl (?_))))))))
    rw [hr 251 (by omega)]
    refine ev_iret (pc := 123) dX8_count_123 rfl ?_
    exact kk
  · refine ev_tabIn (pc := 5) (off := 119) 124 dX8_count_5 (by decide) (by decide) (by decide) (by decide) ?_
    refine ev_aload_n (pc := 124) dX8_count_124 rfl (ev_iload_n (pc := 125) dX8_count_125 rfl (ev_bipush (pc := 126) (v := (10)) dX8_count_126 bipush_c10 (ev_ncmp_ne (pc := 128) 135 (9) (10) dX8_count_128 (by decide) (rfl) (rfl) (by omega) (by omega) (kf := fun c => absurd c (by omega)) (kt := fun c128 => ev_iconst (pc := 135) (v := (0)) dX8_count_135 iconst_c0 (?_)))))
    refine ev_invV (pc := 136) kV_8_155 dX8_count_136 rfl rfl rfl (by omega) rfl ?_
    refine m_runsOf (by omega) hr (own_wf hw) false ?_
    refine ev_iret (pc := 139) dX8_count_139 rfl ?_
    exact kk
  · refine ev_tabIn (pc := 5) (off := 119) 124 dX8_count_5 (by decide) (by decide) (by decide) (by decide) ?_
    refine ev_aload_n (pc := 124) dX8_count_124 rfl (ev_iload_n (pc := 125) dX8_count_125 rfl (ev_bipush (pc := 126) (v := (10)) dX8_count_126 bipush_c10 (ev_ncmp_ne (pc := 128) 135 (10) (10) dX8_count_128 (by decide) (rfl) (rfl) (by omega) (by omega) (kt := fun c => absurd c (by omega)) (kf := fun c128 => ev_iconst (pc := 131) (v := (1)) dX8_count_131 iconst_c1 (ev_goto (pc := 132) 136 dX8_count_132 (by decide) (?_))))))
    refine ev_invV (pc := 136) kV_8_155 dX8_count_136 rfl rfl rfl (by omega) rfl ?_
    refine m_runsOf (by omega) hr (own_wf hw) true ?_
    refine ev_iret (pc := 139) dX8_count_139 rfl ?_
    exact kk
  · refine ev_tabIn (pc := 5) (off := 135) 140 dX8_count_5 (by decide) (by decide) (by decide) (by decide) ?_
    refine ev_aload_n (pc := 140) dX8_count_140 rfl (ev_geti (pc := 141) kF_8_60 dX8_count_141 rfl rfl (?_))
    rw [m1.2.1]
    refine ev_iret (pc := 144) dX8_count_144 rfl ?_
    exact kk
  · refine ev_tabIn (pc := 5) (off := 140) 145 dX8_count_5 (by decide) (by decide) (by decide) (by decide) ?_
    refine ev_aload_n (pc := 145) dX8_count_145 rfl (ev_geti (pc := 146) kF_8_159 dX8_count_146 rfl rfl (?_))
    rw [m1.2.2.2.2.1]
    refine ev_iret (pc := 149) dX8_count_149 rfl ?_
    exact kk
end T63
