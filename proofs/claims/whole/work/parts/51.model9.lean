/-! ===== the reference: delete ===== -/
def shD (D : Nat → Int32) (m : Nat) : Nat → Int32 := fun x => if 232 + m < x ∧ x ≤ 247 then D (x - 3) else D x
def owD (D : Nat → Int32) (nm i : Nat) : Nat → Int32 := fun x => if 160 ≤ x ∧ x < 160 + i then (if D x = nI nm then -1 else D x) else D x
def jnD (D : Nat → Int32) (nm f : Nat) : Nat → Int32 := uD (uD (uD (shD D 0) 230 (nI nm)) 231 (nI f)) 232 (D (40 + f))
theorem owD_0 {D : Nat → Int32} {nm x : Nat} : owD D nm 0 x = D x := if_neg (by omega)
theorem uD_ne {D : Nat → Int32} {i x : Nat} {v : Int32} (h : x ≠ i) : uD D i v x = D x := if_neg h
theorem uD_at {D : Nat → Int32} {i : Nat} {v : Int32} : uD D i v i = v := if_pos rfl
theorem del_eq {D : Nat → Int32} {nm f : Nat} (hnm : nm < 30) (hf : f < 2 ^ 31) (e : D (200 + nm) = nI f) (x : Nat) :
    uD (uD (owD (uD (jnD D nm f) 248 (nI (if 6 < zD D + 1 then 6 else zD D + 1))) nm 40) (200 + nm) (-1)) 250 (D 250 + 1) x = uD (relD D nm) 250 (D 250 + 1) x := by
  have e2 : (D (200 + nm)).toNatClampNeg = f := by rw [e, nI_clamp hf]
  generalize hz : nI (if 6 < zD D + 1 then 6 else zD D + 1) = z
  have hB : ∀ x, x < 230 ∨ 248 < x → uD (jnD D nm f) 248 z x = D x := fun x hx => by
    rw [uD_ne (by omega)]
    unfold jnD
    rw [uD_ne (by omega), uD_ne (by omega), uD_ne (by omega)]
    unfold shD
    rw [if_neg (by omega)]
  have hC : ∀ x, x < 160 ∨ 200 ≤ x → owD (uD (jnD D nm f) 248 z) nm 40 x = uD (jnD D nm f) 248 z x := fun x hx => by
    unfold owD
    rw [if_neg (by omega)]
  obtain ⟨j0, j1, j2⟩ := rl_j0 (D := D) hnm
  by_cases a1 : x = 250
  · subst a1
    rw [uD_at, uD_at]
  rw [uD_ne a1, uD_ne a1]
  by_cases a2 : x < 160
  · rw [uD_ne (by omega), hC x (by omega), hB x (by omega), rl_lo a2]
  by_cases a3 : x < 200
  · obtain ⟨j, rfl⟩ : ∃ j, x = 160 + j := ⟨x - 160, by omega⟩
    rw [uD_ne (by omega), rl_ow (by omega)]
    unfold owD
    rw [if_pos (by omega), hB _ (by omega)]
  by_cases a4 : x < 230
  · obtain ⟨n, rfl⟩ : ∃ n, x = 200 + n := ⟨x - 200, by omega⟩
    rw [rl_fi (by omega)]
    by_cases c : n = nm
    · subst c
      rw [uD_at, if_pos rfl]
    · rw [uD_ne (by omega), hC _ (by omega), hB _ (by omega), if_neg c]
  rw [uD_ne (by omega), hC _ (by omega)]
  by_cases a5 : x = 248
  · subst a5
    rw [uD_at, rl_z hnm, hz]
  by_cases a6 : 248 < x
  · rw [hB _ (by omega), rl_hi hnm (by omega)]
  rw [uD_ne a5]
  unfold jnD
  by_cases b2 : x = 232
  · subst b2
    rw [uD_at, j2, e2]
  rw [uD_ne b2]
  by_cases b1 : x = 231
  · subst b1
    rw [uD_at, j1, e]
  rw [uD_ne b1]
  by_cases b0 : x = 230
  · subst b0
    rw [uD_at, j0]
  rw [uD_ne b0, rl_js hnm (by omega) (by omega)]
  unfold shD
  rw [if_pos (by omega)]
section T51
variable {d L : Nat} {I : Nat → Nat → Int32} {J : Nat → Nat → Int64} {p : Nat → Nat} {Q : Option Value → am_M → Prop} {s : Sta} {rn : Bool} {D : Nat → Int32}
theorem lp_dshift {nm f : Nat} (I : Nat → Nat → Int32) (k : ∀ I', rowM I' (shD D 0) → fr1 83 I I' → E me_X8_delete d L 63 [some (.ref 82), some (.int (nI nm)), some (.int (nI f)), some (.int (nI 232))] [] I' J p Q) : ∀ (m : Nat) (I1 : Nat → Nat → Int32), m ≤ 15 → rowM I1 (shD D m) → fr1 83 I I1 → E me_X8_delete d L 36 [some (.ref 82), some (.int (nI nm)), some (.int (nI f)), some (.int (nI (232 + m)))] [] I1 J p Q
  | 0, I1, hm, hr, hf => by
    refine ev_iload_n (pc := 36) dX8_delete_36 rfl (ev_sipush (pc := 37) (v := (233)) dX8_delete_37 sipush_c233 (ev_ncmp_lt (pc := 40) 63 (232) (233) dX8_delete_40 (by decide) (rfl) (rfl) (by omega) (by omega) (kf := fun c => absurd c (by omega)) (kt := fun c40 => ?_)))
    exact k I1 hr hf
  | m + 1, I1, hm, hr, hf => by
    have h3 : nI (232 + (m + 1)) - 3 = nI (230 + m) := by
      rw [show 230 + m = 232 + (m + 1) - 3 by omega]
      exact nI_less (a := 232 + (m + 1)) (b := 3) (by omega)
    refine ev_iload_n (pc := 36) dX8_delete_36 rfl (ev_sipush (pc := 37) (v := (233)) dX8_delete_37 sipush_c233 (ev_ncmp_lt (pc := 40) 63 (232 + (m + 1)) (233) dX8_delete_40 (by decide) (rfl) (rfl) (by omega) (by omega) (kt := fun c => absurd c (by omega)) (kf := fun c40 => ?_)))
    refine ev_aload_n (pc := 43) dX8_delete_43 rfl (ev_getr (pc := 44) kF_8_7 dX8_delete_44 rfl rfl rfl (ev_iload_n (pc := 47) dX8_delete_47 rfl (ev_aload_n (pc := 48) dX8_delete_48 rfl (ev_getr (pc := 49) kF_8_7 dX8_delete_49 rfl rfl rfl (ev_iload_n (pc := 52) dX8_delete_52 rfl (ev_iconst (pc := 53) (v := (3)) dX8_delete_53 iconst_c3 (ev_isub (pc := 54) dX8_delete_54 (ev_iald (pc := 55) (i := 230 + m) dX8_delete_55 rfl (h3) (by omega) rfl (?_)))))))))
    have e : I1 83 (230 + m) = D (230 + m) := by
      rw [hr (230 + m) (by omega)]
      unfold shD
      rw [if_neg (by omega)]
    rw [e]
    refine ev_iast (pc := 56) (i := 232 + (m + 1)) dX8_delete_56 rfl rfl (rfl) (by omega) rfl (ev_iinc (pc := 57) dX8_delete_57 rfl ( iinc_d (232 + m)) rfl (ev_goto (pc := 60) 36 dX8_delete_60 (by decide) (?_)))
    refine lp_dshift I k m _ (by omega) (rowM_eq (rowM_ui hr _ _) fun x hx => ?_) (fr1_ui hf)
    simp only [uD, shD]
    by_cases a : x = 232 + (m + 1)
    · rw [if_pos a, if_pos (by omega)]
      congr 1
      omega
    · rw [if_neg a]
      by_cases b : 232 + m < x ∧ x ≤ 247
      · rw [if_pos b, if_pos (by omega)]
      · rw [if_neg b, if_neg (by omega)]
theorem lp_downer {nm f : Nat} (I : Nat → Nat → Int32) (k : ∀ I', rowM I' (owD D nm 40) → fr1 83 I I' → E me_X8_delete d L 179 [some (.ref 82), some (.int (nI nm)), some (.int (nI f)), some (.int (nI 40))] [] I' J p Q) : ∀ (n i : Nat) (I1 : Nat → Nat → Int32), i + n = 40 → rowM I1 (owD D nm i) → fr1 83 I I1 → E me_X8_delete d L 129 [some (.ref 82), some (.int (nI nm)), some (.int (nI f)), some (.int (nI i))] [] I1 J p Q
  | 0, i, I1, hi, hr, hf => by
    have e : i = 40 := by omega
    subst e
    refine ev_iload_n (pc := 129) dX8_delete_129 rfl (ev_bipush (pc := 130) (v := (40)) dX8_delete_130 bipush_c40 (ev_ncmp_ge (pc := 132) 179 (40) (40) dX8_delete_132 (by decide) (rfl) (rfl) (by omega) (by omega) (kf := fun c => absurd c (by omega)) (kt := fun c132 => ?_)))
    exact k I1 hr hf
  | n + 1, i, I1, hi, hr, hf => by
    have e : I1 83 (160 + i) = D (160 + i) := by
      rw [hr (160 + i) (by omega)]
      unfold owD
      rw [if_neg (by omega)]
    have st : ∀ v, v = (if D (160 + i) = nI nm then -1 else D (160 + i)) → rowM (ui I1 83 (160 + i) v) (owD D nm (i + 1)) := fun v hv => rowM_eq (rowM_ui hr _ _) fun x hx => by
      simp only [uD, owD]
      by_cases a : x = 160 + i
      · rw [if_pos a, if_pos (by omega), a, hv]
      · rw [if_neg a]
        by_cases b : 160 ≤ x ∧ x < 160 + i
        · rw [if_pos b, if_pos (show 160 ≤ x ∧ x < 160 + (i + 1) by omega)]
        · rw [if_neg b, if_neg (show ¬ (160 ≤ x ∧ x < 160 + (i + 1)) by omega)]
    refine ev_iload_n (pc := 129) dX8_delete_129 rfl (ev_bipush (pc := 130) (v := (40)) dX8_delete_130 bipush_c40 (ev_ncmp_ge (pc := 132) 179 (i) (40) dX8_delete_132 (by decide) (rfl) (rfl) (by omega) (by omega) (kt := fun c => absurd c (by omega)) (kf := fun c132 => ?_)))
    refine ev_aload_n (pc := 135) dX8_delete_135 rfl (ev_getr (pc := 136) kF_8_7 dX8_delete_136 rfl rfl rfl (ev_sipush (pc := 139) (v := (160)) dX8_delete_139 sipush_c160 (ev_iload_n (pc := 142) dX8_delete_142 rfl (ev_iadd (pc := 143) dX8_delete_143 (ev_aload_n (pc := 144) dX8_delete_144 rfl (ev_getr (pc := 145) kF_8_7 dX8_delete_145 rfl rfl rfl (ev_sipush (pc := 148) (v := (160)) dX8_delete_148 sipush_c160 (ev_iload_n (pc := 151) dX8_delete_151 rfl (ev_iadd (pc := 152) dX8_delete_152 (ev_iald (pc := 153) (i := 160 + i) dX8_delete_153 rfl (nI_add 160 i) (by omega) rfl (?_)))))))))))
    rw [e]
    by_cases q : D (160 + i) = nI nm
    · rw [if_pos q] at st
      refine ev_iload_n (pc := 154) dX8_delete_154 rfl (ev_icmp_ne (pc := 155) 162 dX8_delete_155 (by decide) (kt := fun c => absurd (q) c) (kf := fun c155 => ev_iconst (pc := 158) (v := (-1)) dX8_delete_158 iconst_cm1 (ev_goto (pc := 159) 172 dX8_delete_159 (by decide) (ev_iast (pc := 172) (i := 160 + i) dX8_delete_172 rfl rfl (nI_add 160 i) (by omega) rfl (ev_iinc (pc := 173) dX8_delete_173 rfl (iinc_1 _) rfl (ev_goto (pc := 176) 129 dX8_delete_176 (by decide) (?_)))))))
      exact lp_downer I k n (i + 1) _ (by omega) (st _ rfl) (fr1_ui hf)
    · rw [if_neg q] at st
      refine ev_iload_n (pc := 154) dX8_delete_154 rfl (ev_icmp_ne (pc := 155) 162 dX8_delete_155 (by decide) (kf := fun c => absurd c (q)) (kt := fun c155 => ev_aload_n (pc := 162) dX8_delete_162 rfl (ev_getr (pc := 163) kF_8_7 dX8_delete_163 rfl rfl rfl (ev_sipush (pc := 166) (v := (160)) dX8_delete_166 sipush_c160 (ev_iload_n (pc := 169) dX8_delete_169 rfl (ev_iadd (pc := 170) dX8_delete_170 (ev_iald (pc := 171) (i := 160 + i) dX8_delete_171 rfl (nI_add 160 i) (by omega) rfl (ev_iast (pc := 172) (i := 160 + i) dX8_delete_172 rfl rfl (nI_add 160 i) (by omega) rfl (ev_iinc (pc := 173) dX8_delete_173 rfl (iinc_1 _) rfl (ev_goto (pc := 176) 129 dX8_delete_176 (by decide) (?_)))))))))))
      exact lp_downer I k n (i + 1) _ (by omega) (st _ e) (fr1_ui hf)
theorem m_delete (hd : 5 ≤ d) (hm : Mod rn I s) (hw : wfD s.1) (hn : s.2.1 ≤ 4) (a : Int32) (k : ∀ I', Mod rn I' (oDeleteM rn s a).2 → wfr I I' → Q (some (.int (oDeleteM rn s a).1)) (I', J, KR p)) : T d me_X8_delete [.ref 82, .int a] L I J p Q := by
  refine am_enter [some (.ref 82), some (.int a), none, none] rfl rfl rfl rfl ?_
  unfold oDeleteM at k
  refine ev_iload_n (pc := 0) dX8_delete_0 rfl (ev_invS (pc := 1) kS_8_76 dX8_delete_1 rfl (by omega) rfl ?_)
  refine m_isName (by omega) a ?_
  cases q1 : inR 0 29 a
  · rw [q1, if_neg (by decide)] at k
    refine ev_ifb_ne (pc := 4) 10 dX8_delete_4 (by decide) (kt := fun c => absurd c (by simp)) (kf := fun c4 => ev_ldc (pc := 7) kC_8_79 dX8_delete_7 (ev_iret (pc := 9) dX8_delete_9 rfl ?_))
    exact k I hm (wfr_rf I)
  rw [q1, if_pos rfl] at k
  obtain ⟨n, n1, n2, rfl⟩ := inR_n (by omega) (by omega) q1
  rw [nI_clamp (by omega)] at k
  have hwd := dl_wf hw (nm := n) (by omega)
  unfold dlS at k hwd
  refine ev_ifb_ne (pc := 4) 10 dX8_delete_4 (by decide) (kf := fun c => absurd c (by simp)) (kt := fun c4 => ev_aload_n (pc := 10) dX8_delete_10 rfl (ev_getr (pc := 11) kF_8_7 dX8_delete_11 rfl rfl rfl (ev_sipush (pc := 14) (v := (200)) dX8_delete_14 sipush_c200 (ev_iload_n (pc := 17) dX8_delete_17 rfl (ev_iadd (pc := 18) dX8_delete_18 (ev_iald (pc := 19) (i := 200 + n) dX8_delete_19 rfl (nI_add 200 n) (by omega) rfl (?_)))))))
  rw [hm.1 (200 + n) (by omega)]
  by_cases cc : s.1 (200 + n) = -1
  · rw [if_pos cc, setM_e (by decide : (-1000002 : Int32) < 0)] at k
    rw [cc]
    refine ev_istore_n (pc := 20) dX8_delete_20 rfl (ev_iload_n (pc := 21) dX8_delete_21 rfl (ev_if_ge (pc := 22) 28 dX8_delete_22 (by decide) (kt := fun c => absurd c (by decide)) (kf := fun c22 => ev_ldc (pc := 25) kC_8_80 dX8_delete_25 (ev_iret (pc := 27) dX8_delete_27 rfl ?_))))
    exact k I hm (wfr_rf I)
  · obtain ⟨f, st, l, g1, g2, g3, g4, g5, g6, g7, g8⟩ := wf_file hw (show n < 30 by omega) cc
    obtain ⟨z1, z2⟩ := wf_z hw
    have hle := cntB_le (fD (relD s.1 n)) 40
    rw [if_neg cc] at hwd
    rw [if_neg cc, setM_p (nI_pos (by omega))] at k
    rw [g5]
    refine ev_istore_n (pc := 20) dX8_delete_20 rfl (ev_iload_n (pc := 21) dX8_delete_21 rfl (ev_if_ge (pc := 22) 28 dX8_delete_22 (by decide) (kf := fun c => absurd (nI_pos' (by omega)) c) (kt := fun c22 => ev_aload_n (pc := 28) dX8_delete_28 rfl (ev_invV (pc := 29) kV_8_86 dX8_delete_29 rfl rfl rfl (by omega) rfl ?_))))
    refine m_changes hm hn fun I2 m2 c2 => ?_
    have r2 := m2.1
    rw [chg_1] at r2
    refine ev_sipush (pc := 32) (v := (247)) dX8_delete_32 sipush_c247 (ev_istore_n (pc := 35) dX8_delete_35 rfl (?_))
    refine lp_dshift (D := s.1) I2 (fun I3 r3 f3 => ?_) 15 I2 (Nat.le_refl _) (rowM_eq r2 fun x hx => by unfold shD; rw [if_neg (by omega)]) (fr1_rf _)
    refine ev_aload_n (pc := 63) dX8_delete_63 rfl (ev_getr (pc := 64) kF_8_7 dX8_delete_64 rfl rfl rfl (ev_sipush (pc := 67) (v := (230)) dX8_delete_67 sipush_c230 (ev_iload_n (pc := 70) dX8_delete_70 rfl (ev_iast (pc := 71) (i := 230) dX8_delete_71 rfl rfl (rfl) (by omega) rfl (ev_aload_n (pc := 72) dX8_delete_72 rfl (ev_getr (pc := 73) kF_8_7 dX8_delete_73 rfl rfl rfl (ev_sipush (pc := 76) (v := (231)) dX8_delete_76 sipush_c231 (ev_iload_n (pc := 79) dX8_delete_79 rfl (ev_iast (pc := 80) (i := 231) dX8_delete_80 rfl rfl (rfl) (by omega) rfl (ev_aload_n (pc := 81) dX8_delete_81 rfl (ev_getr (pc := 82) kF_8_7 dX8_delete_82 rfl rfl rfl (ev_sipush (pc := 85) (v := (232)) dX8_delete_85 sipush_c232 (ev_aload_n (pc := 88) dX8_delete_88 rfl (ev_getr (pc := 89) kF_8_7 dX8_delete_89 rfl rfl rfl (ev_bipush (pc := 92) (v := (40)) dX8_delete_92 bipush_c40 (ev_iload_n (pc := 94) dX8_delete_94 rfl (ev_iadd (pc := 95) dX8_delete_95 (ev_iald (pc := 96) (i := 40 + f) dX8_delete_96 rfl (nI_add 40 f) (by omega) rfl (?_)))))))))))))))))))
    have e1 : ui (ui I3 83 230 (nI n)) 83 231 (nI f) 83 (40 + f) = s.1 (40 + f) := by
      rw [rowM_ui (rowM_ui r3 230 (nI n)) 231 (nI f) (40 + f) (by omega)]
      simp only [uD, shD]
      rw [if_neg (by omega), if_neg (by omega), if_neg (by omega)]
    rw [e1]
    refine ev_iast (pc := 97) (i := 232) dX8_delete_97 rfl rfl (rfl) (by omega) rfl (?_)
    have r4 : rowM (ui (ui (ui I3 83 230 (nI n)) 83 231 (nI f)) 83 232 (s.1 (40 + f))) (jnD s.1 n f) := rowM_ui (rowM_ui (rowM_ui r3 230 (nI n)) 231 (nI f)) 232 (s.1 (40 + f))
    have f4 : fr1 83 I2 (ui (ui (ui I3 83 230 (nI n)) 83 231 (nI f)) 83 232 (s.1 (40 + f))) := fr1_ui (fr1_ui (fr1_ui f3))
    generalize ui (ui (ui I3 83 230 (nI n)) 83 231 (nI f)) 83 232 (s.1 (40 + f)) = I4 at r4 f4 ⊢
    have e2 : I4 83 248 = nI (zD s.1) := by
      rw [r4 248 (by omega), ← z1]
      simp only [jnD, uD, shD]
      rw [if_neg (by omega), if_neg (by omega), if_neg (by omega), if_neg (by omega)]
    have rest : ∀ v, v = nI (if 6 < zD s.1 + 1 then 6 else zD s.1 + 1) → E me_X8_delete d L 127 [some (.ref 82), some (.int (nI n)), some (.int (nI f)), some (.int (nI 232))] [] (ui I4 83 248 v) J p Q := by
      intro v hv
      subst hv
      refine ev_iconst (pc := 127) (v := (0)) dX8_delete_127 iconst_c0 (ev_istore_n (pc := 128) dX8_delete_128 rfl (?_))
      refine lp_downer _ (fun I5 r5 f5 => ?_) 40 0 _ rfl (rowM_eq (rowM_ui r4 248 _) fun x hx => owD_0.symm) (fr1_rf _)
      have f6 : fr1 83 I2 I5 := fun c hc => by rw [f5 c hc, fr1_ui f4 c hc]
      have e3 : I5 83 250 = s.1 250 := by
        rw [r5 250 (by omega)]
        simp only [owD, uD, jnD, shD]
        rw [if_neg (by omega), if_neg (by omega), if_neg (by omega), if_neg (by omega), if_neg (by omega), if_neg (by omega)]
      refine ev_aload_n (pc := 179) dX8_delete_179 rfl (ev_getr (pc := 180) kF_8_7 dX8_delete_180 rfl rfl rfl (ev_sipush (pc := 183) (v := (200)) dX8_delete_183 sipush_c200 (ev_iload_n (pc := 186) dX8_delete_186 rfl (ev_iadd (pc := 187) dX8_delete_187 (ev_iconst (pc := 188) (v := (-1)) dX8_delete_188 iconst_cm1 (ev_iast (pc := 189) (i := 200 + n) dX8_delete_189 rfl rfl (nI_add 200 n) (by omega) rfl (ev_aload_n (pc := 190) dX8_delete_190 rfl (ev_getr (pc := 191) kF_8_7 dX8_delete_191 rfl rfl rfl (ev_sipush (pc := 194) (v := (250)) dX8_delete_194 sipush_c250 (ev_dup2 (pc := 197) dX8_delete_197 rfl rfl (ev_iald (pc := 198) (i := 250) dX8_delete_198 rfl (rfl) (by omega) rfl (?_))))))))))))
      have e4 : ui I5 83 (200 + n) (-1) 83 250 = s.1 250 := by
        simp only [ui]
        rw [if_neg (by omega), e3]
      rw [e4]
      refine ev_iconst (pc := 199) (v := (1)) dX8_delete_199 iconst_c1 (ev_iadd (pc := 200) dX8_delete_200 (ev_iast (pc := 201) (i := 250) dX8_delete_201 rfl rfl (rfl) (by omega) rfl (ev_aload_n (pc := 202) dX8_delete_202 rfl (ev_invV (pc := 203) kV_8_93 dX8_delete_203 rfl rfl rfl (by omega) rfl ?_))))
      have r7 := rowM_eq (rowM_ui (rowM_ui r5 (200 + n) (-1)) 250 (s.1 250 + 1)) fun x hx => del_eq (show n < 30 by omega) (by omega) g5 x
      refine m_free (by omega) r7 (own_wf hwd) ?_
      have e5 : cntB (fD (uD (relD s.1 n) 250 (s.1 250 + 1))) 40 = cntB (fD (relD s.1 n)) 40 := cntB_congr 40 fun j hj => by
        unfold fD uD
        rw [if_neg (by omega)]
      rw [e5]
      refine ev_iret (pc := 206) dX8_delete_206 rfl ?_
      exact k _ (Mod_1 m2 r7 (fr1_ui (fr1_ui f6))) (wfr_tr (wfr_c c2) (wfr_1 (fr1_ui (fr1_ui f6)) (by omega)))
    refine ev_aload_n (pc := 98) dX8_delete_98 rfl (ev_getr (pc := 99) kF_8_7 dX8_delete_99 rfl rfl rfl (ev_sipush (pc := 102) (v := (248)) dX8_delete_102 sipush_c248 (ev_dup2 (pc := 105) dX8_delete_105 rfl rfl (ev_iald (pc := 106) (i := 248) dX8_delete_106 rfl (rfl) (by omega) rfl (?_)))))
    rw [e2]
    refine ev_aload_n (pc := 107) dX8_delete_107 rfl (ev_getr (pc := 108) kF_8_7 dX8_delete_108 rfl rfl rfl (ev_sipush (pc := 111) (v := (248)) dX8_delete_111 sipush_c248 (ev_iald (pc := 114) (i := 248) dX8_delete_114 rfl (rfl) (by omega) rfl (?_))))
    rw [e2]
    by_cases q : zD s.1 < 6
    · rw [if_neg (by omega)] at rest
      refine ev_bipush (pc := 115) (v := (6)) dX8_delete_115 bipush_c6 (ev_ncmp_ge (pc := 117) 124 (zD s.1) (6) dX8_delete_117 (by decide) (rfl) (rfl) (by omega) (by omega) (kt := fun c => absurd c (by omega)) (kf := fun c117 => ev_iconst (pc := 120) (v := (1)) dX8_delete_120 iconst_c1 (ev_goto (pc := 121) 125 dX8_delete_121 (by decide) (ev_iadd (pc := 125) dX8_delete_125 (?_)))))
      rw [nI_1]
      refine ev_iast (pc := 126) (i := 248) dX8_delete_126 rfl rfl (rfl) (by omega) rfl (?_)
      exact rest _ rfl
    · rw [if_pos (by omega)] at rest
      refine ev_bipush (pc := 115) (v := (6)) dX8_delete_115 bipush_c6 (ev_ncmp_ge (pc := 117) 124 (zD s.1) (6) dX8_delete_117 (by decide) (rfl) (rfl) (by omega) (by omega) (kf := fun c => absurd c (by omega)) (kt := fun c117 => ev_iconst (pc := 124) (v := (0)) dX8_delete_124 iconst_c0 (ev_iadd (pc := 125) dX8_delete_125 (?_))))
      rw [show zD s.1 = 6 by omega, show nI 6 + 0 = nI 6 from nI_add 6 0]
      refine ev_iast (pc := 126) (i := 248) dX8_delete_126 rfl rfl (rfl) (by omega) rfl (?_)
      exact rest _ rfl
end T51
