/-! ===== guessOf, bestGuesses, would, gentlest, count ===== -/
def sumD (D : Nat → Int32) (fr : Nat → Bool) : Int32 := ((glD D fr).map (scD D fr)).foldl (· + ·) 0
def frW (D : Nat → Int32) (ps : List Nat) (j : Nat) : Bool := fD D j && !decide (j ∈ ps)
def oBest (s : Sta) (a : Int32) : Int32 := if inR 0 1 a then (if a = 0 then (bestC (scD s.1 (fD s.1)) (pgD s.1 (fD s.1)) (glD s.1 (fD s.1))).1 else (bestC (scD s.1 (fD s.1)) (pgD s.1 (fD s.1)) (glD s.1 (fD s.1))).2) else -1000001
def wouV (D : Nat → Int32) (len lay w : Nat) : Int32 :=
  if cntB (fD D) 40 < len then -1000003
  else if w = 0 then nI ((chC (fD D) len lay).getD 0 0)
  else if w = 1 then nI (cntB (fun j => decide (j ∈ chC (fD D) len lay) && decide (D j ≠ 0)) 40)
  else if w = 2 then nI (glD D (frW D (chC (fD D) len lay))).length
  else sumD D (frW D (chC (fD D) len lay)) + 3000
def oWould (s : Sta) (a b c : Int32) : Int32 := if inR 1 12 a && (inR 0 2 b && inR 0 3 c) then wouV s.1 a.toNatClampNeg b.toNatClampNeg c.toNatClampNeg else -1000001
def gB (f : Nat → Int32) : Nat → Nat × Int32
  | 0 => (0, 0)
  | i + 1 => if i = 0 ∨ (gB f i).2 < f i then (i, f i) else gB f i
def genV (D : Nat → Int32) (len : Nat) : Int32 := if cntB (fD D) 40 < len then -1000003 else nI (gB (fun lay => sumD D (frW D (chC (fD D) len lay))) 3).1
def oGent (s : Sta) (a : Int32) : Int32 := if inR 1 12 a then genV s.1 a.toNatClampNeg else -1000001
def cntV (s : Sta) (w : Nat) : Int32 :=
  if w = 0 then nI (cntB (fD s.1) 40) else if w = 1 then nI (cntB (fun n => decide (s.1 (200 + n) ≠ -1)) 30) else if w = 2 then nI (cntB (mkF s.1) 40)
  else if w = 3 then nI (glD s.1 (fD s.1)).length else if w = 4 then s.1 248 else if w = 5 then sumD s.1 (fD s.1) + 3000
  else if w = 6 then s.1 249 else if w = 7 then s.1 250 else if w = 8 then s.1 251
  else if w = 9 then nI (cntB (frR (fD s.1)) 40) else if w = 10 then nI (mxP (fD s.1) 40) else if w = 11 then nI s.2.1 else nI s.2.2.2.1
def oCount (s : Sta) (a : Int32) : Int32 := if inR 0 12 a then cntV s a.toNatClampNeg else -1000001
theorem inR_out {a b : Nat} {v : Int32} (ha : a < 2 ^ 31) (hb : b < 2 ^ 31) (h : inR a b v = false) : v.toInt < a ∨ (b : Int) < v.toInt := by
  unfold inR at h
  rw [Bool.and_eq_false_iff] at h
  rcases h with h | h
  · have := of_decide_eq_false h
    rw [Int32.le_iff_toInt_le, nI_toInt ha] at this
    omega
  · have := of_decide_eq_false h
    rw [Int32.le_iff_toInt_le, nI_toInt hb] at this
    omega
theorem fw_bl {I : Nat → Nat → Int32} {D : Nat → Int32} (h : Rep I 2 D) {ps : List Nat} (hp : ∀ q ∈ ps, q < 40) : ∀ j, j < 64 → bl (mkS (frP I) 40 &&& (stS ps ps.length ^^^ (-1))) j = (decide (j < 40) && frW D ps j) := fun j hj => by
  rw [bl_and, bl_not _ hj, fs_bl h j hj, bl_stS hp j _ (Nat.le_refl _), List.take_length, Bool.and_assoc]
  rfl
section T38
variable {d L : Nat} {I : Nat → Nat → Int32} {J : Nat → Nat → Int64} {p : Nat → Nat} {Q : Option Value → am_M → Prop} {s : Sta}
theorem c_guessOf (hd : 7 ≤ d) (hc : Cls I p s) (hw : Wst s) (a b : Int32) (k : ∀ I' J', Cls I' p s → cfr I I' → Q (some (.int (oGuess s a b))) (I', J', KR p)) : T d me_X7_guessOf [.ref 1, .int a, .int b] L I J p Q := by
  refine am_enter [some (.ref 1), some (.int a), some (.int b), none] rfl rfl rfl rfl ?_
  unfold oGuess at k
  have h := hc.2.1
  by_cases q0 : a < 0
  · rw [decide_eq_true q0, Bool.not_true, Bool.false_and, if_neg (by decide)] at k
    refine ev_iload_n (pc := 0) dX7_guessOf_0 rfl (ev_if_lt (pc := 1) 21 dX7_guessOf_1 (by decide) (kf := fun c => absurd (q0) c) (kt := fun c1 => ev_ldc (pc := 21) kC_7_58 dX7_guessOf_21 (ev_iret (pc := 23) dX7_guessOf_23 rfl ?_)))
    exact k _ _ hc (cfr_rf I)
  rw [decide_eq_false q0, Bool.not_false, Bool.true_and] at k
  obtain ⟨g, g1, rfl⟩ := nI_of q0
  rw [nI_clamp g1] at k
  have join : ∀ w, w < 22 → (w ≤ 7 ∨ 10 ≤ w) → b = nI w → (∀ I' J', Cls I' p s → cfr I I' → Q (some (.int (gueV s.1 g w))) (I', J', KR p)) → E me_X7_guessOf d L 24 [some (.ref 1), some (.int (nI g)), some (.int b), none] [] I J p Q := by
    intro w hw1 hw2 eb kk
    subst eb
    clear k
    refine ev_aload_n (pc := 24) dX7_guessOf_24 rfl (ev_getr (pc := 25) kF_7_19 dX7_guessOf_25 rfl rfl rfl (ev_aload_n (pc := 28) dX7_guessOf_28 rfl (ev_getr (pc := 29) kF_7_10 dX7_guessOf_29 rfl rfl rfl (ev_aload_n (pc := 32) dX7_guessOf_32 rfl (ev_getr (pc := 33) kF_7_10 dX7_guessOf_33 rfl rfl rfl (ev_invV (pc := 36) kV_7_80 dX7_guessOf_36 rfl rfl rfl (by omega) rfl ?_))))))
    refine t_X0_freeSet ?_
    refine ev_invV (pc := 39) kV_7_136 dX7_guessOf_39 rfl rfl rfl (by omega) rfl ?_
    refine t_findD (by omega) h hw.1 (fs_bl h) fun I1 J1 hf hO hr => ?_
    have hl40 := gl_40 (D := s.1) (fr := fD s.1)
    unfold gueV at kk
    refine ev_iload_n (pc := 42) dX7_guessOf_42 rfl (ev_aload_n (pc := 43) dX7_guessOf_43 rfl (ev_getr (pc := 44) kF_7_19 dX7_guessOf_44 rfl rfl rfl (ev_geti (pc := 47) kF_7_152 dX7_guessOf_47 rfl rfl (?_))))
    rw [hO.1]
    refine ev_ncmp_lt (pc := 50) 56 (g) ((glD s.1 (fD s.1)).length) dX7_guessOf_50 (by decide) (rfl) (rfl) (by omega) (by omega) (fun c50 => ?_) (fun c50 => ?_)
    · rw [if_neg (by omega)] at kk
      refine ev_aload_n (pc := 56) dX7_guessOf_56 rfl (ev_getr (pc := 57) kF_7_19 dX7_guessOf_57 rfl rfl rfl (ev_aload_n (pc := 60) dX7_guessOf_60 rfl (ev_getr (pc := 61) kF_7_10 dX7_guessOf_61 rfl rfl rfl (ev_iload_n (pc := 64) dX7_guessOf_64 rfl (ev_invV (pc := 65) kV_7_156 dX7_guessOf_65 rfl rfl rfl (by omega) rfl ?_)))))
      refine t_pickD (by omega) h hw.1 (fs_bl h) hf c50 fun I2 J2 hp => ?_
      obtain ⟨m1, m2, m3⟩ := gl_mem (getD_mem c50)
      obtain ⟨g1, g2, g3, g4, g5, g6⟩ := pg_row hw.1 m1 m3 m2
      have hO2 : gOK I2 J2 (scD s.1 (fD s.1)) (pgD s.1 (fD s.1)) (glD s.1 (fD s.1)) := by
        obtain ⟨q1, q2, q3, q4, q5, q6, q7, q8, q9⟩ := hp
        unfold gOK at hO ⊢
        rw [q8 13 (by omega), q8 17 (by omega), q8 18 (by omega), q9 19 (by omega)]
        exact hO
      have ll := (wf_l hw.1 m1 m3).2.2
      obtain ⟨st, st1, st2⟩ := (hw.1.1 _ m1).2.1 (by rw [m3]; decide)
      unfold shrV at kk
      have hsh := fun Q h => t_sharingWith (d := d - 1) (L := L) (p := p) (Q := Q) (by omega) c50 gl_40 hO2 (pg_64 hw.1) h
      obtain ⟨q1, q2, q3, q4, q5, q6, q7, q8, q9⟩ := hp
      obtain ⟨e1, e2⟩ := Cls_gfr (I1 := I2) hw hc (fun a ha => by rw [q8 a (by omega), hr.1 a (by omega)])
      refine ev_astore_n (pc := 68) dX7_guessOf_68 rfl (ev_iload_n (pc := 69) dX7_guessOf_69 rfl (?_))
      by_cases w8 : 8 ≤ w
      · rw [if_neg (by omega), if_neg (by omega), if_neg (by omega), if_neg (by omega), if_neg (by omega), if_neg (by omega), if_neg (by omega), if_neg (by omega)] at kk
        refine ev_tabOut (pc := 70) 169 dX7_guessOf_70 (Or.inr (by rw [nI_toInt (by omega)]; omega)) (by decide) ?_
        refine ev_aload_n (pc := 169) dX7_guessOf_169 rfl (ev_getr (pc := 170) kF_7_165 dX7_guessOf_170 rfl rfl rfl (ev_iload_n (pc := 173) dX7_guessOf_173 rfl (ev_bipush (pc := 174) (v := (10)) dX7_guessOf_174 bipush_c10 (ev_isub (pc := 176) dX7_guessOf_176 (?_)))))
        rw [show nI w - 10 = nI (w - 10) from nI_less (a := w) (b := 10) (by omega)]
        refine ev_invV (pc := 177) kV_7_187 dX7_guessOf_177 rfl rfl rfl (by omega) rfl ?_
        refine t_tr_at q1 (by omega) ?_
        refine ev_invS (pc := 180) kS_7_124 dX7_guessOf_180 rfl (by omega) rfl ?_
        refine t_found _ ?_
        refine ev_iret (pc := 183) dX7_guessOf_183 rfl ?_
        exact kk _ _ e1 e2
      · obtain rfl | rfl | rfl | rfl | rfl | rfl | rfl | rfl : w = 0 ∨ w = 1 ∨ w = 2 ∨ w = 3 ∨ w = 4 ∨ w = 5 ∨ w = 6 ∨ w = 7 := by omega
        · refine ev_tabIn (pc := 70) (off := 46) 116 dX7_guessOf_70 (by decide) (by decide) (by decide) (by decide) ?_
          refine ev_aload_n (pc := 116) dX7_guessOf_116 rfl (ev_geti (pc := 117) kF_7_160 dX7_guessOf_117 rfl rfl (ev_bipush (pc := 120) (v := (100)) dX7_guessOf_120 bipush_c100 (ev_iadd (pc := 122) dX7_guessOf_122 (ev_iret (pc := 123) dX7_guessOf_123 rfl ?_))))
          rw [q6]
          exact kk _ _ e1 e2
        · refine ev_tabIn (pc := 70) (off := 54) 124 dX7_guessOf_70 (by decide) (by decide) (by decide) (by decide) ?_
          refine ev_aload_n (pc := 124) dX7_guessOf_124 rfl (ev_getr (pc := 125) kF_7_165 dX7_guessOf_125 rfl rfl rfl (ev_geti (pc := 128) kF_7_168 dX7_guessOf_128 rfl rfl (ev_iret (pc := 131) dX7_guessOf_131 rfl ?_)))
          rw [q1.1]
          exact kk _ _ e1 e2
        · refine ev_tabIn (pc := 70) (off := 62) 132 dX7_guessOf_70 (by decide) (by decide) (by decide) (by decide) ?_
          refine ev_aload_n (pc := 132) dX7_guessOf_132 rfl (ev_geti (pc := 133) kF_7_169 dX7_guessOf_133 rfl rfl (ev_iret (pc := 136) dX7_guessOf_136 rfl ?_))
          rw [q3]
          exact kk _ _ e1 e2
        · refine ev_tabIn (pc := 70) (off := 67) 137 dX7_guessOf_70 (by decide) (by decide) (by decide) (by decide) ?_
          refine ev_aload_n (pc := 137) dX7_guessOf_137 rfl (ev_geti (pc := 138) kF_7_172 dX7_guessOf_138 rfl rfl (ev_iret (pc := 141) dX7_guessOf_141 rfl ?_))
          rw [q2]
          exact kk _ _ e1 e2
        · refine ev_tabIn (pc := 70) (off := 72) 142 dX7_guessOf_70 (by decide) (by decide) (by decide) (by decide) ?_
          refine ev_aload_n (pc := 142) dX7_guessOf_142 rfl (ev_geti (pc := 143) kF_7_175 dX7_guessOf_143 rfl rfl (ev_invS (pc := 146) kS_7_124 dX7_guessOf_146 rfl (by omega) rfl ?_))
          refine t_found _ ?_
          rw [q7]
          refine ev_iret (pc := 149) dX7_guessOf_149 rfl ?_
          exact kk _ _ e1 e2
        · refine ev_tabIn (pc := 70) (off := 80) 150 dX7_guessOf_70 (by decide) (by decide) (by decide) (by decide) ?_
          refine ev_aload_n (pc := 150) dX7_guessOf_150 rfl (ev_geti (pc := 151) kF_7_178 dX7_guessOf_151 rfl rfl (ev_iret (pc := 154) dX7_guessOf_154 rfl ?_))
          rw [q4]
          exact kk _ _ e1 e2
        · refine ev_tabIn (pc := 70) (off := 85) 155 dX7_guessOf_70 (by decide) (by decide) (by decide) (by decide) ?_
          refine ev_aload_n (pc := 155) dX7_guessOf_155 rfl (ev_geti (pc := 156) kF_7_181 dX7_guessOf_156 rfl rfl (ev_iret (pc := 159) dX7_guessOf_159 rfl ?_))
          rw [q5]
          exact kk _ _ e1 e2
        · refine ev_tabIn (pc := 70) (off := 90) 160 dX7_guessOf_70 (by decide) (by decide) (by decide) (by decide) ?_
          refine ev_aload_n (pc := 160) dX7_guessOf_160 rfl (ev_getr (pc := 161) kF_7_19 dX7_guessOf_161 rfl rfl rfl (ev_iload_n (pc := 164) dX7_guessOf_164 rfl (ev_invV (pc := 165) kV_7_184 dX7_guessOf_165 rfl rfl rfl (by omega) rfl ?_)))
          refine hsh _ ?_
          refine ev_iret (pc := 168) dX7_guessOf_168 rfl ?_
          exact kk _ _ e1 e2
    · rw [if_pos (by omega)] at kk
      refine ev_ldc (pc := 53) kC_7_110 dX7_guessOf_53 (ev_iret (pc := 55) dX7_guessOf_55 rfl ?_)
      obtain ⟨e1, e2⟩ := Cls_gfr hw hc (fun a ha => hr.1 a (by omega))
      exact kk _ _ e1 e2
  refine ev_iload_n (pc := 0) dX7_guessOf_0 rfl (ev_if_lt (pc := 1) 21 dX7_guessOf_1 (by decide) (kt := fun c => absurd c (q0)) (kf := fun c1 => ev_iload_n (pc := 4) dX7_guessOf_4 rfl (ev_iconst (pc := 5) (v := (0)) dX7_guessOf_5 iconst_c0 (ev_bipush (pc := 6) (v := (7)) dX7_guessOf_6 bipush_c7 (ev_invS (pc := 8) kS_7_48 dX7_guessOf_8 rfl (by omega) rfl ?_)))))
  refine t_within 0 7 b ?_
  cases q2 : inR 0 7 b
  · rw [q2, Bool.false_or] at k
    refine ev_ifb_ne (pc := 11) 24 dX7_guessOf_11 (by decide) (kt := fun c => absurd c (by simp)) (kf := fun c11 => ev_iload_n (pc := 14) dX7_guessOf_14 rfl (ev_invS (pc := 15) kS_7_104 dX7_guessOf_15 rfl (by omega) rfl ?_))
    refine t_asksPage (by omega) b ?_
    cases q3 : inR 10 21 b
    · rw [q3, if_neg (by decide)] at k
      refine ev_ifb_ne (pc := 18) 24 dX7_guessOf_18 (by decide) (kt := fun c => absurd c (by simp)) (kf := fun c18 => ev_ldc (pc := 21) kC_7_58 dX7_guessOf_21 (ev_iret (pc := 23) dX7_guessOf_23 rfl ?_))
      exact k _ _ hc (cfr_rf I)
    · rw [q3, if_pos rfl] at k
      obtain ⟨w, w1, w2, e⟩ := inR_n (by omega) (by omega) q3
      rw [e, nI_clamp (by omega)] at k
      refine ev_ifb_ne (pc := 18) 24 dX7_guessOf_18 (by decide) (kf := fun c => absurd c (by simp)) (kt := fun c18 => ?_)
      exact join w (by omega) (by omega) e k
  · rw [q2, Bool.true_or, if_pos rfl] at k
    obtain ⟨w, w1, w2, e⟩ := inR_n (by omega) (by omega) q2
    rw [e, nI_clamp (by omega)] at k
    refine ev_ifb_ne (pc := 11) 24 dX7_guessOf_11 (by decide) (kf := fun c => absurd c (by simp)) (kt := fun c11 => ?_)
    exact join w (by omega) (by omega) e k
theorem c_bestGuesses (hd : 16 ≤ d) (hc : Cls I p s) (hw : Wst s) (a : Int32) (k : ∀ I' J', Cls I' p s → cfr I I' → Q (some (.int (oBest s a))) (I', J', KR p)) : T d me_X7_bestGuesses [.ref 1, .int a] L I J p Q := by
  refine am_enter [some (.ref 1), some (.int a)] rfl rfl rfl rfl ?_
  unfold oBest at k
  have h := hc.2.1
  refine ev_iload_n (pc := 0) dX7_bestGuesses_0 rfl (ev_iconst (pc := 1) (v := (0)) dX7_bestGuesses_1 iconst_c0 (ev_iconst (pc := 2) (v := (1)) dX7_bestGuesses_2 iconst_c1 (ev_invS (pc := 3) kS_7_48 dX7_bestGuesses_3 rfl (by omega) rfl ?_)))
  refine t_within 0 1 a ?_
  cases q1 : inR 0 1 a
  · rw [q1, if_neg (by decide)] at k
    refine ev_ifb_ne (pc := 6) 12 dX7_bestGuesses_6 (by decide) (kt := fun c => absurd c (by simp)) (kf := fun c6 => ev_ldc (pc := 9) kC_7_58 dX7_bestGuesses_9 (ev_iret (pc := 11) dX7_bestGuesses_11 rfl ?_))
    exact k _ _ hc (cfr_rf I)
  rw [q1, if_pos rfl] at k
  refine ev_ifb_ne (pc := 6) 12 dX7_bestGuesses_6 (by decide) (kf := fun c => absurd c (by simp)) (kt := fun c6 => ev_aload_n (pc := 12) dX7_bestGuesses_12 rfl (ev_getr (pc := 13) kF_7_19 dX7_bestGuesses_13 rfl rfl rfl (ev_aload_n (pc := 16) dX7_bestGuesses_16 rfl (ev_getr (pc := 17) kF_7_10 dX7_bestGuesses_17 rfl rfl rfl (ev_aload_n (pc := 20) dX7_bestGuesses_20 rfl (ev_getr (pc := 21) kF_7_10 dX7_bestGuesses_21 rfl rfl rfl (ev_invV (pc := 24) kV_7_80 dX7_bestGuesses_24 rfl rfl rfl (by omega) rfl ?_)))))))
  refine t_X0_freeSet ?_
  refine ev_invV (pc := 27) kV_7_136 dX7_bestGuesses_27 rfl rfl rfl (by omega) rfl ?_
  refine t_findD (by omega) h hw.1 (fs_bl h) fun I1 J1 hf hO hr => ?_
  refine ev_aload_n (pc := 30) dX7_bestGuesses_30 rfl (ev_getr (pc := 31) kF_7_19 dX7_bestGuesses_31 rfl rfl rfl (ev_invV (pc := 34) kV_7_193 dX7_bestGuesses_34 rfl rfl rfl (by omega) rfl ?_))
  refine t_findBest (by omega) gl_40 hO (pg_64 hw.1) fun I2 b1 b2 b3 b4 => ?_
  obtain ⟨e1, e2⟩ := Cls_gfr (I1 := I2) hw hc (fun a ha => by rw [b3 a (by omega) (by omega), hr.1 a (by omega)])
  by_cases q : a = 0
  · rw [if_pos q] at k
    refine ev_iload_n (pc := 37) dX7_bestGuesses_37 rfl (ev_if_ne (pc := 38) 51 dX7_bestGuesses_38 (by decide) (kt := fun c => absurd (q) c) (kf := fun c38 => ev_aload_n (pc := 41) dX7_bestGuesses_41 rfl (ev_getr (pc := 42) kF_7_19 dX7_bestGuesses_42 rfl rfl rfl (ev_geti (pc := 45) kF_7_196 dX7_bestGuesses_45 rfl rfl (ev_goto (pc := 48) 58 dX7_bestGuesses_48 (by decide) (ev_iret (pc := 58) dX7_bestGuesses_58 rfl ?_))))))
    rw [b1]
    exact k _ _ e1 e2
  · rw [if_neg q] at k
    refine ev_iload_n (pc := 37) dX7_bestGuesses_37 rfl (ev_if_ne (pc := 38) 51 dX7_bestGuesses_38 (by decide) (kf := fun c => absurd c (q)) (kt := fun c38 => ev_aload_n (pc := 51) dX7_bestGuesses_51 rfl (ev_getr (pc := 52) kF_7_19 dX7_bestGuesses_52 rfl rfl rfl (ev_geti (pc := 55) kF_7_199 dX7_bestGuesses_55 rfl rfl (ev_iret (pc := 58) dX7_bestGuesses_58 rfl ?_)))))
    rw [b2]
    exact k _ _ e1 e2
end T38
