/-! ===== the reference: a guess, whole ===== -/
def GI (I I1 : Nat → Nat → Int32) (g f : Nat) (ps : List Nat) (c b : Nat) : Prop := I1 89 g = nI f ∧ gu I1 g ps ∧ I1 91 g = nI c ∧ I1 92 g = nI b ∧ gxF I I1 g
theorem GI_upd {I I2 : Nat → Nat → Int32} {g f c b : Nat} {ps : List Nat} (h1 : I2 89 g = nI f) (h2 : gu I2 g ps) (h3 : gxF I I2 g) : GI I (ui (ui I2 91 g (nI c)) 92 g (nI b)) g f ps c b := by
  refine ⟨?_, ?_, ?_, ?_, gxF_ui (gxF_ui h3 (by omega)) (by omega)⟩
  · simp [ui, h1]
  · refine gu_y h2 ?_ ?_
    · funext y
      simp [ui]
    · funext y
      simp [ui]
  · simp [ui]
  · simp [ui]
section T55
variable {d L : Nat} {I : Nat → Nat → Int32} {J : Nat → Nat → Int64} {p : Nat → Nat} {Q : Option Value → am_M → Prop} {D : Nat → Int32}
theorem sg_g0 {I2 : Nat → Nat → Int32} {g u v c b : Nat} {l1 l3 l4 : Option Value} (hg : g < 40) (hu : u = 0 ∨ u = 1) (hv : v = 0 ∨ v = 1) (h91 : I2 91 g = nI c) (h92 : I2 92 g = nI b) (k : E me_X8_guesses0 d L 187 [some (.ref 82), l1, some (.int (nI g)), l3, l4, some (.int (nI u)), some (.int (nI v))] [] (ui (ui I2 91 g (nI (c + u))) 92 g (nI (b + v))) J p Q) : E me_X8_guesses0 d L 149 [some (.ref 82), l1, some (.int (nI g)), l3, l4, some (.int (nI u)), some (.int (nI v))] [] I2 J p Q := by
  have m2 : ∀ I3, I3 92 g = nI b → E me_X8_guesses0 d L 187 [some (.ref 82), l1, some (.int (nI g)), l3, l4, some (.int (nI u)), some (.int (nI v))] [] (ui I3 92 g (nI (b + v))) J p Q → E me_X8_guesses0 d L 168 [some (.ref 82), l1, some (.int (nI g)), l3, l4, some (.int (nI u)), some (.int (nI v))] [] I3 J p Q := by
    intro I3 h3 k3
    refine ev_aload_n (pc := 168) dX8_guesses0_168 rfl (ev_getr (pc := 169) kF_8_37 dX8_guesses0_169 rfl rfl rfl (ev_iload_n (pc := 172) dX8_guesses0_172 rfl (ev_dup2 (pc := 173) dX8_guesses0_173 rfl rfl (ev_iald (pc := 174) (i := g) dX8_guesses0_174 rfl (rfl) (by omega) rfl (?_)))))
    rw [h3]
    rcases hv with rfl | rfl
    · refine ev_iload (pc := 175) dX8_guesses0_175 rfl (ev_if_eq (pc := 177) 184 dX8_guesses0_177 (by decide) (kf := fun c => absurd (rfl) c) (kt := fun c177 => ev_iconst (pc := 184) (v := (0)) dX8_guesses0_184 iconst_c0 (ev_iadd (pc := 185) dX8_guesses0_185 (?_))))
      rw [show nI b + 0 = nI (b + 0) from nI_add b 0]
      refine ev_iast (pc := 186) (i := g) dX8_guesses0_186 rfl rfl (rfl) (by omega) rfl (?_)
      exact k3
    · refine ev_iload (pc := 175) dX8_guesses0_175 rfl (ev_if_eq (pc := 177) 184 dX8_guesses0_177 (by decide) (kt := fun c => absurd c (by decide)) (kf := fun c177 => ev_iconst (pc := 180) (v := (1)) dX8_guesses0_180 iconst_c1 (ev_goto (pc := 181) 185 dX8_guesses0_181 (by decide) (ev_iadd (pc := 185) dX8_guesses0_185 (?_)))))
      rw [nI_1]
      refine ev_iast (pc := 186) (i := g) dX8_guesses0_186 rfl rfl (rfl) (by omega) rfl (?_)
      exact k3
  refine ev_aload_n (pc := 149) dX8_guesses0_149 rfl (ev_getr (pc := 150) kF_8_34 dX8_guesses0_150 rfl rfl rfl (ev_iload_n (pc := 153) dX8_guesses0_153 rfl (ev_dup2 (pc := 154) dX8_guesses0_154 rfl rfl (ev_iald (pc := 155) (i := g) dX8_guesses0_155 rfl (rfl) (by omega) rfl (?_)))))
  rw [h91]
  rcases hu with rfl | rfl
  · refine ev_iload (pc := 156) dX8_guesses0_156 rfl (ev_if_eq (pc := 158) 165 dX8_guesses0_158 (by decide) (kf := fun c => absurd (rfl) c) (kt := fun c158 => ev_iconst (pc := 165) (v := (0)) dX8_guesses0_165 iconst_c0 (ev_iadd (pc := 166) dX8_guesses0_166 (?_))))
    rw [show nI c + 0 = nI (c + 0) from nI_add c 0]
    refine ev_iast (pc := 167) (i := g) dX8_guesses0_167 rfl rfl (rfl) (by omega) rfl (?_)
    exact m2 _ (by simp [ui, h92]) k
  · refine ev_iload (pc := 156) dX8_guesses0_156 rfl (ev_if_eq (pc := 158) 165 dX8_guesses0_158 (by decide) (kt := fun c => absurd c (by decide)) (kf := fun c158 => ev_iconst (pc := 161) (v := (1)) dX8_guesses0_161 iconst_c1 (ev_goto (pc := 162) 166 dX8_guesses0_162 (by decide) (ev_iadd (pc := 166) dX8_guesses0_166 (?_)))))
    rw [nI_1]
    refine ev_iast (pc := 167) (i := g) dX8_guesses0_167 rfl rfl (rfl) (by omega) rfl (?_)
    exact m2 _ (by simp [ui, h92]) k
theorem lp_g0 (hd : 4 ≤ d) (hr : rowM I D) (hw : wfG D) {g f len : Nat} (hg : g < 40) (hf : f < 40) (hln : D (80 + f) = nI len) (hlen : len ≤ 12) (r : List Nat × Nat × Nat) (k : ∀ I' o3 o4 o5 o6, GI I I' g f r.1 r.2.1 r.2.2 → E me_X8_guesses0 d L 206 [some (.ref 82), some (.int (nI f)), some (.int (nI g)), o3, o4, o5, o6] [] I' J p Q) :
    ∀ (n : Nat) (ps : List Nat) (l c b : Nat) (I1 : Nat → Nat → Int32) (o4 o5 o6 : Option Value), ps.length + n = len → 1 ≤ ps.length → ps.getD (ps.length - 1) 0 = l → (∀ q ∈ ps, q < 40) → GI I I1 g f ps c b → gsT (fun j => D (120 + j)) (okD D (fD D) (D (40 + f))) n ps l c b = r →
    E me_X8_guesses0 d L 45 [some (.ref 82), some (.int (nI f)), some (.int (nI g)), some (.int 1), o4, o5, o6] [] I1 J p Q
  | 0, ps, l, c, b, I1, o4, o5, o6, hn, h1, hl, h40, hI, hr0 => by
    simp only [gsT] at hr0
    subst hr0
    have hy : I1 83 (80 + f) = nI len := by rw [hI.2.2.2.2.1 83 (by omega), hr _ (by omega)]; exact hln
    refine ev_iload_n (pc := 45) dX8_guesses0_45 rfl (ev_if_eq (pc := 46) 206 dX8_guesses0_46 (by decide) (kt := fun c => absurd c (by decide)) (kf := fun c46 => ev_aload_n (pc := 49) dX8_guesses0_49 rfl (ev_getr (pc := 50) kF_8_31 dX8_guesses0_50 rfl rfl rfl (ev_iload_n (pc := 53) dX8_guesses0_53 rfl (ev_iald (pc := 54) (i := g) dX8_guesses0_54 rfl (rfl) (by omega) rfl (ev_aload_n (pc := 55) dX8_guesses0_55 rfl (ev_getr (pc := 56) kF_8_7 dX8_guesses0_56 rfl rfl rfl (ev_bipush (pc := 59) (v := (80)) dX8_guesses0_59 bipush_c80 (ev_iload_n (pc := 61) dX8_guesses0_61 rfl (ev_iadd (pc := 62) dX8_guesses0_62 (ev_iald (pc := 63) (i := 80 + f) dX8_guesses0_63 rfl (nI_add 80 f) (by omega) rfl (ev_ncmp_ge (pc := 64) 206 (ps.length) (len) dX8_guesses0_64 (by decide) (hI.2.1.1) (hy) (by omega) (by omega) (kf := fun c => absurd c (by omega)) (kt := fun c64 => ?_)))))))))))))
    exact k I1 _ _ _ _ hI
  | n + 1, ps, l, c, b, I1, o4, o5, o6, hn, h1, hl, h40, hI, hr0 => by
    have ih := lp_g0 hd hr hw hg hf hln hlen r k n
    obtain ⟨a1, a2, a3, a4, a5⟩ := id hI
    have r1 : rowM I1 D := rowM_of hr (a5.1 83 (by omega))
    have hy : I1 83 (80 + f) = nI len := by rw [r1 _ (by omega)]; exact hln
    have hl40 : l < 40 := by rw [← hl]; exact h40 _ (getD_mem (by omega))
    have hj : (12 : Int32) * nI g + I1 90 g - 1 = nI (12 * g + (ps.length - 1)) := by
      rw [mul12 g hg, a2.1, show nI (12 * g) + nI ps.length = nI (12 * g + ps.length) from nI_add _ _, show 12 * g + (ps.length - 1) = 12 * g + ps.length - 1 by omega]
      exact nI_less (a := 12 * g + ps.length) (b := 1) (by omega)
    have hlast : I1 94 (12 * g + (ps.length - 1)) = nI l := by rw [a2.2 _ (by omega), hl]
    have hgl : ∀ j, (ps ++ [j]).getD ((ps ++ [j]).length - 1) 0 = j := fun j => by simp [List.getD_eq_getElem?_getD]
    have h40' : ∀ j, j < 40 → ∀ q ∈ ps ++ [j], q < 40 := fun j hj q hq => by
      rcases List.mem_append.mp hq with hq | hq
      · exact h40 q hq
      · rw [List.mem_singleton.mp hq]; exact hj
    simp only [gsT] at hr0
    have noch : gsP (okD D (fD D) (D (40 + f))) ps (D (120 + l)) = none → ∀ o5 o6, E me_X8_guesses0 d L 122 [some (.ref 82), some (.int (nI f)), some (.int (nI g)), some (.int 1), some (.int (nI l)), o5, o6] [] I1 J p Q := by
      intro e o5 o6
      rw [e] at hr0
      dsimp only at hr0
      rw [show nI l + 1 = nI (l + 1) from nI_1 l] at hr0
      refine ev_iconst (pc := 122) (v := (0)) dX8_guesses0_122 iconst_c0 (ev_istore (pc := 123) dX8_guesses0_123 rfl (ev_iload (pc := 125) dX8_guesses0_125 rfl (ev_if_ne (pc := 127) 146 dX8_guesses0_127 (by decide) (kt := fun c => absurd (rfl) c) (kf := fun c127 => ev_aload_n (pc := 130) dX8_guesses0_130 rfl (ev_iload_n (pc := 131) dX8_guesses0_131 rfl (ev_iload (pc := 132) dX8_guesses0_132 rfl (ev_iconst (pc := 134) (v := (1)) dX8_guesses0_134 iconst_c1 (ev_iadd (pc := 135) dX8_guesses0_135 (?_)))))))))
      rw [nI_1]
      refine ev_invV (pc := 136) kV_8_113 dX8_guesses0_136 rfl rfl rfl (by omega) rfl ?_
      refine m_goesOn (by omega) r1 hw.1 hg a2 (by omega) h40 a1 hf (by omega) (fun hq => ?_) (fun I2 hj2 hq g2 y2 => ?_)
      · rw [hq] at hr0
        dsimp only at hr0
        subst hr0
        refine ev_ifb_eq (pc := 139) 146 dX8_guesses0_139 (by decide) (kf := fun c => absurd c (by simp)) (kt := fun c139 => ev_iconst (pc := 146) (v := (0)) dX8_guesses0_146 iconst_c0 (ev_istore (pc := 147) dX8_guesses0_147 rfl (?_)))
        refine sg_g0 (u := 0) (v := 0) hg (Or.inl rfl) (Or.inl rfl) a3 a4 ?_
        refine ev_iload (pc := 187) dX8_guesses0_187 rfl (ev_if_ne (pc := 189) 197 dX8_guesses0_189 (by decide) (kt := fun c => absurd (rfl) c) (kf := fun c189 => ev_iload (pc := 192) dX8_guesses0_192 rfl (ev_if_eq (pc := 194) 201 dX8_guesses0_194 (by decide) (kf := fun c => absurd (rfl) c) (kt := fun c194 => ev_iconst (pc := 201) (v := (0)) dX8_guesses0_201 iconst_c0 (ev_istore_n (pc := 202) dX8_guesses0_202 rfl (ev_goto (pc := 203) 45 dX8_guesses0_203 (by decide) (ev_iload_n (pc := 45) dX8_guesses0_45 rfl (ev_if_eq (pc := 46) 206 dX8_guesses0_46 (by decide) (kf := fun c => absurd (rfl) c) (kt := fun c46 => ?_)))))))))
        exact k _ _ _ _ _ (GI_upd a1 a2 a5)
      · rw [hq] at hr0
        dsimp only at hr0
        refine ev_ifb_eq (pc := 139) 146 dX8_guesses0_139 (by decide) (kt := fun c => absurd c (by simp)) (kf := fun c139 => ev_iconst (pc := 142) (v := (1)) dX8_guesses0_142 iconst_c1 (ev_goto (pc := 143) 147 dX8_guesses0_143 (by decide) (ev_istore (pc := 147) dX8_guesses0_147 rfl (?_))))
        refine sg_g0 (u := 0) (v := 1) hg (Or.inl rfl) (Or.inr rfl) (by rw [y2.1 91 (by omega) (by omega)]; exact a3) (by rw [y2.1 92 (by omega) (by omega)]; exact a4) ?_
        refine ev_iload (pc := 187) dX8_guesses0_187 rfl (ev_if_ne (pc := 189) 197 dX8_guesses0_189 (by decide) (kt := fun c => absurd (rfl) c) (kf := fun c189 => ev_iload (pc := 192) dX8_guesses0_192 rfl (ev_if_eq (pc := 194) 201 dX8_guesses0_194 (by decide) (kt := fun c => absurd c (by decide)) (kf := fun c194 => ev_iconst (pc := 197) (v := (1)) dX8_guesses0_197 iconst_c1 (ev_goto (pc := 198) 202 dX8_guesses0_198 (by decide) (ev_istore_n (pc := 202) dX8_guesses0_202 rfl (ev_goto (pc := 203) 45 dX8_guesses0_203 (by decide) (?_))))))))
        exact ih (ps ++ [l + 1]) (l + 1) c (b + 1) _ _ _ _ (by simp; omega) (by simp) (hgl _) (h40' _ hj2) (GI_upd (by rw [y2.1 89 (by omega) (by omega)]; exact a1) g2 (gxF_y a5 y2)) hr0
    refine ev_iload_n (pc := 45) dX8_guesses0_45 rfl (ev_if_eq (pc := 46) 206 dX8_guesses0_46 (by decide) (kt := fun c => absurd c (by decide)) (kf := fun c46 => ev_aload_n (pc := 49) dX8_guesses0_49 rfl (ev_getr (pc := 50) kF_8_31 dX8_guesses0_50 rfl rfl rfl (ev_iload_n (pc := 53) dX8_guesses0_53 rfl (ev_iald (pc := 54) (i := g) dX8_guesses0_54 rfl (rfl) (by omega) rfl (ev_aload_n (pc := 55) dX8_guesses0_55 rfl (ev_getr (pc := 56) kF_8_7 dX8_guesses0_56 rfl rfl rfl (ev_bipush (pc := 59) (v := (80)) dX8_guesses0_59 bipush_c80 (ev_iload_n (pc := 61) dX8_guesses0_61 rfl (ev_iadd (pc := 62) dX8_guesses0_62 (ev_iald (pc := 63) (i := 80 + f) dX8_guesses0_63 rfl (nI_add 80 f) (by omega) rfl (ev_ncmp_ge (pc := 64) 206 (ps.length) (len) dX8_guesses0_64 (by decide) (a2.1) (hy) (by omega) (by omega) (kt := fun c => absurd c (by omega)) (kf := fun c64 => ?_)))))))))))))
    refine ev_aload_n (pc := 67) dX8_guesses0_67 rfl (ev_getr (pc := 68) kF_8_43 dX8_guesses0_68 rfl rfl rfl (ev_bipush (pc := 71) (v := (12)) dX8_guesses0_71 bipush_c12 (ev_iload_n (pc := 73) dX8_guesses0_73 rfl (ev_imul (pc := 74) dX8_guesses0_74 (ev_aload_n (pc := 75) dX8_guesses0_75 rfl (ev_getr (pc := 76) kF_8_31 dX8_guesses0_76 rfl rfl rfl (ev_iload_n (pc := 79) dX8_guesses0_79 rfl (ev_iald (pc := 80) (i := g) dX8_guesses0_80 rfl (rfl) (by omega) rfl (ev_iadd (pc := 81) dX8_guesses0_81 (ev_iconst (pc := 82) (v := (1)) dX8_guesses0_82 iconst_c1 (ev_isub (pc := 83) dX8_guesses0_83 (ev_iald (pc := 84) (i := 12 * g + (ps.length - 1)) dX8_guesses0_84 rfl (hj) (by omega) rfl (?_)))))))))))))
    rw [hlast]
    refine ev_istore (pc := 85) dX8_guesses0_85 rfl (ev_aload_n (pc := 87) dX8_guesses0_87 rfl (ev_getr (pc := 88) kF_8_7 dX8_guesses0_88 rfl rfl rfl (ev_bipush (pc := 91) (v := (120)) dX8_guesses0_91 bipush_c120 (ev_iload (pc := 93) dX8_guesses0_93 rfl (ev_iadd (pc := 95) dX8_guesses0_95 (ev_iald (pc := 96) (i := 120 + l) dX8_guesses0_96 rfl (nI_add 120 l) (by omega) rfl (?_)))))))
    rw [r1 _ (by omega)]
    rcases hw.2.2.1 l hl40 with e | ⟨q, q40, e⟩
    · rw [e]
      refine ev_if_lt (pc := 97) 122 dX8_guesses0_97 (by decide) (kf := fun c => absurd (by decide) c) (kt := fun c97 => ?_)
      exact noch (by rw [e]; unfold gsP; rw [ix_neg (by decide)]; rfl) _ _
    · rw [e]
      refine ev_if_lt (pc := 97) 122 dX8_guesses0_97 (by decide) (kt := fun c => absurd c (nI_pos (by omega))) (kf := fun c97 => ev_aload_n (pc := 100) dX8_guesses0_100 rfl (ev_iload_n (pc := 101) dX8_guesses0_101 rfl (ev_aload_n (pc := 102) dX8_guesses0_102 rfl (ev_getr (pc := 103) kF_8_7 dX8_guesses0_103 rfl rfl rfl (ev_bipush (pc := 106) (v := (120)) dX8_guesses0_106 bipush_c120 (ev_iload (pc := 108) dX8_guesses0_108 rfl (ev_iadd (pc := 110) dX8_guesses0_110 (ev_iald (pc := 111) (i := 120 + l) dX8_guesses0_111 rfl (nI_add 120 l) (by omega) rfl (?_)))))))))
      rw [r1 _ (by omega), e]
      refine ev_invV (pc := 112) kV_8_113 dX8_guesses0_112 rfl rfl rfl (by omega) rfl ?_
      refine m_goesOn (by omega) r1 hw.1 hg a2 (by omega) h40 a1 hf (by omega) (fun hq => ?_) (fun I2 hj2 hq g2 y2 => ?_)
      · refine ev_ifb_eq (pc := 115) 122 dX8_guesses0_115 (by decide) (kf := fun c => absurd c (by simp)) (kt := fun c115 => ?_)
        exact noch (by rw [e]; exact hq) _ _
      · rw [e, hq] at hr0
        dsimp only at hr0
        refine ev_ifb_eq (pc := 115) 122 dX8_guesses0_115 (by decide) (kt := fun c => absurd c (by simp)) (kf := fun c115 => ev_iconst (pc := 118) (v := (1)) dX8_guesses0_118 iconst_c1 (ev_goto (pc := 119) 123 dX8_guesses0_119 (by decide) (ev_istore (pc := 123) dX8_guesses0_123 rfl (ev_iload (pc := 125) dX8_guesses0_125 rfl (ev_if_ne (pc := 127) 146 dX8_guesses0_127 (by decide) (kf := fun c => absurd c (by decide)) (kt := fun c127 => ev_iconst (pc := 146) (v := (0)) dX8_guesses0_146 iconst_c0 (ev_istore (pc := 147) dX8_guesses0_147 rfl (?_))))))))
        refine sg_g0 (u := 1) (v := 0) hg (Or.inr rfl) (Or.inl rfl) (by rw [y2.1 91 (by omega) (by omega)]; exact a3) (by rw [y2.1 92 (by omega) (by omega)]; exact a4) ?_
        refine ev_iload (pc := 187) dX8_guesses0_187 rfl (ev_if_ne (pc := 189) 197 dX8_guesses0_189 (by decide) (kf := fun c => absurd c (by decide)) (kt := fun c189 => ev_iconst (pc := 197) (v := (1)) dX8_guesses0_197 iconst_c1 (ev_goto (pc := 198) 202 dX8_guesses0_198 (by decide) (ev_istore_n (pc := 202) dX8_guesses0_202 rfl (ev_goto (pc := 203) 45 dX8_guesses0_203 (by decide) (?_))))))
        exact ih (ps ++ [q]) q (c + 1) b _ _ _ _ (by simp; omega) (by simp) (hgl _) (h40' _ hj2) (GI_upd (by rw [y2.1 89 (by omega) (by omega)]; exact a1) g2 (gxF_y a5 y2)) hr0
end T55
