/-! ===== trace and rate ===== -/
theorem rowIs_nil' (I : Nat → Nat → Int32) (h : I 15 1 = 0) : rowIs I 15 16 [] := ⟨by rw [h]; rfl, by simp, fun k hk => by simp at hk⟩
section T24
variable {d L : Nat} {I : Nat → Nat → Int32} {J : Nat → Nat → Int64} {p : Nat → Nat} {Q : Option Value → am_M → Prop}
/-- the open pages: those of the set that the guess has not -/
def opS (fr : Nat → Bool) (S : Int64) (ps : List Nat) : Prop := ∀ j, j < 64 → bl S j = (fr j && !(ps.contains j))
theorem opS_step {fr : Nat → Bool} {S : Int64} {ps : List Nat} (h : opS fr S ps) {q : Nat} (hq : q < 40) : opS fr (S &&& (((1 : Int64) <<< ((nI q).toInt64 &&& 63)) ^^^ (-1))) (ps ++ [q]) := by
  intro j hj
  rw [bl_and, bl_not _ hj, bl_one (by omega), h j hj]
  simp only [List.contains_eq_mem, List.mem_append, List.mem_singleton]
  by_cases e1 : j ∈ ps <;> by_cases e2 : j = q <;> simp [e1, e2]
theorem en_trace {I1 : Nat → Nat → Int32} {J1 : Nat → Nat → Int64} {fr : Nat → Bool} {F S : Int64} {st : Int32} {len f : Nat} {ps : List Nat} {c b : Nat} {l9 l10 : Option Value} {la : Int32} (hF : ∀ j, j < 64 → bl F j = fr j) (hS : opS fr S ps) (hps : ∀ q ∈ ps, fr q = true) (hr : rowIs I1 15 16 ps) (i2 : I1 14 2 = st) (i5 : I1 14 5 = nI c) (i6 : I1 14 6 = nI b) (hI : ∀ a, a < 14 ∨ 16 < a → I1 a = I a) (hJ : J1 = J)
    (h : ∀ I' J', trC I I' J J' st len (ps, c, b) → Q none (I', J', KR p)) : E me_X1_trace d L 172 [some (.ref 14), some (.ref 2), some (.long F), none, some (.int (nI f)), some (.int (nI len)), some (.long S), none, some (.int la), l9, l10] [] I1 J1 p Q := by
  refine ev_aload_n (pc := 172) dX1_trace_172 rfl (ev_lload_n (pc := 173) dX1_trace_173 rfl (ev_lload (pc := 174) dX1_trace_174 rfl (ev_ldc2 (pc := 176) kL_1_44 dX1_trace_176 (ev_lxor (pc := 179) dX1_trace_179 (ev_land (pc := 180) dX1_trace_180 (ev_putl (pc := 181) kF_1_53 dX1_trace_181 rfl rfl rfl rfl (?_)))))))
  refine ev_aload_n (pc := 184) dX1_trace_184 rfl (ev_iload (pc := 185) dX1_trace_185 rfl (ev_aload_n (pc := 187) dX1_trace_187 rfl (ev_getr (pc := 188) kF_1_12 dX1_trace_188 rfl rfl rfl (ev_geti (pc := 191) kF_1_57 dX1_trace_191 rfl rfl (ev_isub (pc := 194) dX1_trace_194 (ev_puti (pc := 195) kF_1_60 dX1_trace_195 rfl rfl rfl rfl rfl (ev_vret (pc := 198) dX1_trace_198 rfl ?_)))))))
  rw [hr.1]
  refine h _ _ ⟨rowIs_of hr (by funext z; simp [ui]) (by funext z; simp [ui]), by simpa [ui] using i2, by simp [ui], by simpa [ui] using i5, by simpa [ui] using i6, fun a ha => ?_, fun j hj => ?_, fun a ha => ?_⟩
  · rw [← hI a ha]
    funext z
    simp only [ui]
    rw [if_neg (by omega)]
  · have e : uj J1 14 1 (F &&& (S ^^^ (-1))) 14 1 = F &&& (S ^^^ (-1)) := by simp [uj]
    rw [e, bl_and, bl_not _ hj, hF j hj, hS j hj]
    by_cases e1 : j ∈ ps
    · simp [e1, hps j e1]
    · simp only [List.contains_eq_mem, e1, decide_false, Bool.not_false, Bool.and_true]
      cases fr j <;> rfl
  · rw [hJ]
    funext z
    simp [uj, ha]
theorem lp_trace (hd : 2 ≤ d) {fr : Nat → Bool} {F : Int64} {st : Int32} {len f : Nat} (hlen : len ≤ 12) (hF : ∀ j, j < 64 → bl F j = fr j)
    {r : List Nat × Nat × Nat} (h : ∀ I' J', trC I I' J J' st len r → Q none (I', J', KR p)) : ∀ (n k l c b : Nat) (ps : List Nat) (I1 : Nat → Nat → Int32) (S : Int64) (l10 : Option Value), k + n = len → ps.length = k → l < 40 → c ≤ k → b ≤ k → 1 ≤ k → opS fr S ps → (∀ q ∈ ps, fr q = true) → rowIs I1 15 16 ps → I1 14 2 = st → I1 14 5 = nI c → I1 14 6 = nI b → (∀ a, a < 14 ∨ 16 < a → I1 a = I a) → gsT (fun j => I 6 j) (fun j => fr j && decide (I 3 j = 2) && decide (I 4 j = st)) n ps l c b = r →
    E me_X1_trace d L 63 [some (.ref 14), some (.ref 2), some (.long F), none, some (.int (nI f)), some (.int (nI len)), some (.long S), none, some (.int (nI l)), some (.int (nI k)), l10] [] I1 J p Q
  | 0, k, l, c, b, ps, I1, S, l10, hk, hpl, hl, hck, hbk, hk1, hS, hps, hr, i2, i5, i6, hI, hg => by
    simp only [gsT] at hg
    subst hg
    refine ev_iload (pc := 63) dX1_trace_63 rfl (ev_bipush (pc := 65) (v := (12)) dX1_trace_65 bipush_c12 (ev_ncmp_ge (pc := 67) 172 (k) (12) dX1_trace_67 (by decide) (rfl) (rfl) (by omega) (by omega) (fun c67 => ?_) (fun c67 => ?_)))
    · exact en_trace hF hS hps hr i2 i5 i6 hI rfl h
    · refine ev_iload (pc := 70) dX1_trace_70 rfl (ev_iload (pc := 72) dX1_trace_72 rfl (ev_ncmp_ge (pc := 74) 172 (k) (len) dX1_trace_74 (by decide) (rfl) (rfl) (by omega) (by omega) (kf := fun c => absurd c (by omega)) (kt := fun c74 => ?_)))
      exact en_trace hF hS hps hr i2 i5 i6 hI rfl h
  | n + 1, k, l, c, b, ps, I1, S, l10, hk, hpl, hl, hck, hbk, hk1, hS, hps, hr, i2, i5, i6, hI, hg => by
    have e3 : I1 3 = I 3 := hI 3 (by omega)
    have e4 : I1 4 = I 4 := hI 4 (by omega)
    have e6 : I1 6 = I 6 := hI 6 (by omega)
    have hfit : ∀ j, j < 40 → (bl S j && decide (I1 3 j = 2) && decide (I1 4 j = I1 14 2)) = ((fr j && decide (I 3 j = 2) && decide (I 4 j = st)) && !(ps.contains j)) := by
      intro j hj
      rw [hS j (by omega), e3, e4, i2]
      cases fr j <;> cases ps.contains j <;> simp
    have tail : ∀ (q c2 b2 : Nat) (I2 : Nat → Nat → Int32) (l10 : Option Value), q < 40 → fr q = true → c2 ≤ k + 1 → b2 ≤ k + 1 → rowIs I2 15 16 ps → I2 14 2 = st → I2 14 5 = nI c2 → I2 14 6 = nI b2 → (∀ a, a < 14 ∨ 16 < a → I2 a = I a) → gsT (fun j => I 6 j) (fun j => fr j && decide (I 3 j = 2) && decide (I 4 j = st)) n (ps ++ [q]) q c2 b2 = r → E me_X1_trace d L 144 [some (.ref 14), some (.ref 2), some (.long F), none, some (.int (nI f)), some (.int (nI len)), some (.long S), none, some (.int (nI q)), some (.int (nI k)), l10] [] I2 J p Q := by
      intro q c2 b2 I2 l10 hq hfq hc2 hb2 hr2 j2 j5 j6 hI2 hg2
      refine ev_aload_n (pc := 144) dX1_trace_144 rfl (ev_getr (pc := 145) kF_1_12 dX1_trace_145 rfl rfl rfl (ev_iload (pc := 148) dX1_trace_148 rfl (ev_invV (pc := 150) kV_1_34 dX1_trace_150 rfl rfl rfl (by omega) rfl ?_)))
      refine t_tr_add hr2 (by omega) _ ?_
      refine ev_lload (pc := 153) dX1_trace_153 rfl (ev_lconst (pc := 155) (v := 1) dX1_trace_155 rfl (ev_iload (pc := 156) dX1_trace_156 rfl (ev_lshl (pc := 158) dX1_trace_158 (ev_ldc2 (pc := 159) kL_1_44 dX1_trace_159 (ev_lxor (pc := 162) dX1_trace_162 (ev_land (pc := 163) dX1_trace_163 (ev_lstore (pc := 164) dX1_trace_164 rfl (ev_iinc (pc := 166) dX1_trace_166 rfl (iinc_1 _) rfl (ev_goto (pc := 169) 63 dX1_trace_169 (by decide) (?_))))))))))
      refine lp_trace hd hlen hF h n (k + 1) q c2 b2 (ps ++ [q]) _ _ l10 (by omega) (by simp [hpl]) hq hc2 hb2 (by omega) (opS_step hS hq) (fun z hz => ?_) (rowIs_push (by decide) hr2 (by omega) q) ?_ ?_ ?_ (fun a ha => ?_) hg2
      · rcases List.mem_append.mp hz with hz | hz
        · exact hps z hz
        · rw [List.mem_singleton.mp hz]; exact hfq
      · simpa [ui] using j2
      · simpa [ui] using j5
      · simpa [ui] using j6
      · rw [← hI2 a ha]
        funext z
        simp only [ui]
        rw [if_neg (by omega), if_neg (by omega)]
    refine ev_iload (pc := 63) dX1_trace_63 rfl (ev_bipush (pc := 65) (v := (12)) dX1_trace_65 bipush_c12 (ev_ncmp_ge (pc := 67) 172 (k) (12) dX1_trace_67 (by decide) (rfl) (rfl) (by omega) (by omega) (kt := fun c => absurd c (by omega)) (kf := fun c67 => ev_iload (pc := 70) dX1_trace_70 rfl (ev_iload (pc := 72) dX1_trace_72 rfl (ev_ncmp_ge (pc := 74) 172 (k) (len) dX1_trace_74 (by decide) (rfl) (rfl) (by omega) (by omega) (kt := fun c => absurd c (by omega)) (kf := fun c74 => ev_aload_n (pc := 77) dX1_trace_77 rfl (ev_iload (pc := 78) dX1_trace_78 rfl (ev_invV (pc := 80) kV_1_46 dX1_trace_80 rfl rfl rfl (by omega) rfl ?_))))))))
    refine t_nxf _ ?_
    have en : nxf I1 (nI l) = I 6 l := by
      unfold nxf
      rw [ix_n hl (by decide), e6]
      rfl
    rw [en]
    refine ev_istore (pc := 83) dX1_trace_83 rfl (ev_aload_n (pc := 85) dX1_trace_85 rfl (ev_aload_n (pc := 86) dX1_trace_86 rfl (ev_lload (pc := 87) dX1_trace_87 rfl (ev_iload (pc := 89) dX1_trace_89 rfl (ev_invV (pc := 91) kV_1_49 dX1_trace_91 rfl rfl rfl (by omega) rfl ?_)))))
    refine t_fits (ps := ps) hfit _ ?_
    simp only [gsT] at hg
    cases hp1 : gsP (fun j => fr j && decide (I 3 j = 2) && decide (I 4 j = st)) ps (I 6 l) with
    | some q =>
      obtain ⟨q1, q2, q3, q4⟩ := gsP_some hp1
      rw [hp1] at hg
      rw [q2]
      have hfq : fr q = true := by
        cases hh : fr q
        · simp [hh] at q3
        · rfl
      refine ev_ifb_eq (pc := 94) 114 dX1_trace_94 (by decide) (kt := fun c => absurd c (by simp)) (kf := fun c94 => ev_aload_n (pc := 97) dX1_trace_97 rfl (ev_dup (pc := 98) dX1_trace_98 rfl (ev_geti (pc := 99) kF_1_38 dX1_trace_99 rfl rfl (ev_iconst (pc := 102) (v := (1)) dX1_trace_102 iconst_c1 (ev_iadd (pc := 103) dX1_trace_103 (ev_puti (pc := 104) kF_1_38 dX1_trace_104 rfl rfl rfl rfl rfl (ev_iload (pc := 107) dX1_trace_107 rfl (ev_istore (pc := 109) dX1_trace_109 rfl (ev_goto (pc := 111) 144 dX1_trace_111 (by decide) (?_))))))))))
      rw [i5, nI_1]
      exact tail q (c + 1) b _ _ q1 hfq (by omega) (by omega) (rowIs_of hr (by funext z; simp [ui]) (by funext z; simp [ui])) (by simpa [ui] using i2) (by simp [ui]) (by simpa [ui] using i6) (fun a ha => by rw [← hI a ha]; funext z; simp only [ui]; rw [if_neg (by omega)]) hg
    | none =>
      rw [hp1] at hg
      refine ev_ifb_eq (pc := 94) 114 dX1_trace_94 (by decide) (kf := fun c => absurd c (by simp)) (kt := fun c94 => ev_aload_n (pc := 114) dX1_trace_114 rfl (ev_aload_n (pc := 115) dX1_trace_115 rfl (ev_lload (pc := 116) dX1_trace_116 rfl (ev_iload (pc := 118) dX1_trace_118 rfl (ev_iconst (pc := 120) (v := (1)) dX1_trace_120 iconst_c1 (ev_iadd (pc := 121) dX1_trace_121 (ev_invV (pc := 122) kV_1_49 dX1_trace_122 rfl rfl rfl (by omega) rfl ?_)))))))
      refine t_fits (ps := ps) hfit _ ?_
      cases hp2 : gsP (fun j => fr j && decide (I 3 j = 2) && decide (I 4 j = st)) ps (nI l + 1) with
      | some q =>
        obtain ⟨q1, q2, q3, q4⟩ := gsP_some hp2
        rw [hp2] at hg
        have hfq : fr q = true := by
          cases hh : fr q
          · simp [hh] at q3
          · rfl
        refine ev_ifb_eq (pc := 125) 172 dX1_trace_125 (by decide) (kt := fun c => absurd c (by simp)) (kf := fun c125 => ev_aload_n (pc := 128) dX1_trace_128 rfl (ev_dup (pc := 129) dX1_trace_129 rfl (ev_geti (pc := 130) kF_1_41 dX1_trace_130 rfl rfl (ev_iconst (pc := 133) (v := (1)) dX1_trace_133 iconst_c1 (ev_iadd (pc := 134) dX1_trace_134 (ev_puti (pc := 135) kF_1_41 dX1_trace_135 rfl rfl rfl rfl rfl (ev_iload (pc := 138) dX1_trace_138 rfl (ev_iconst (pc := 140) (v := (1)) dX1_trace_140 iconst_c1 (ev_iadd (pc := 141) dX1_trace_141 (ev_istore (pc := 142) dX1_trace_142 rfl (?_)))))))))))
        rw [q2, i6, nI_1]
        exact tail q c (b + 1) _ _ q1 hfq (by omega) (by omega) (rowIs_of hr (by funext z; simp [ui]) (by funext z; simp [ui])) (by simpa [ui] using i2) (by simpa [ui] using i5) (by simp [ui]) (fun a ha => by rw [← hI a ha]; funext z; simp only [ui]; rw [if_neg (by omega)]) hg
      | none =>
        rw [hp2] at hg
        simp only at hg
        subst hg
        refine ev_ifb_eq (pc := 125) 172 dX1_trace_125 (by decide) (kf := fun c => absurd c (by simp)) (kt := fun c125 => ?_)
        exact en_trace hF hS hps hr i2 i5 i6 hI rfl h
theorem t_trace (hd : 3 ≤ d) {fr : Nat → Bool} {F : Int64} {len f : Nat} (hf : f < 40) (hm : I 3 f = 1) (hlen : I 5 f = nI len) (hl1 : 1 ≤ len) (hl2 : len ≤ 12) (hF : ∀ j, j < 64 → bl F j = fr j) (hff : fr f = true)
    (h : ∀ I' J', trC I I' J J' (I 4 f) len (gsT (fun j => I 6 j) (fun j => fr j && decide (I 3 j = 2) && decide (I 4 j = I 4 f)) (len - 1) [f] f 0 0) → Q none (I', J', KR p)) : T d me_X1_trace [.ref 14, .ref 2, .long F, .int (nI f)] L I J p Q := by
  refine am_enter [some (.ref 14), some (.ref 2), some (.long F), none, some (.int (nI f)), none, none, none, none, none, none] rfl rfl rfl rfl ?_
  have hne : ¬ I 3 f = 0 := by rw [hm]; decide
  refine ev_aload_n (pc := 0) dX1_trace_0 rfl (ev_aload_n (pc := 1) dX1_trace_1 rfl (ev_iload (pc := 2) dX1_trace_2 rfl (ev_invV (pc := 4) kV_1_18 dX1_trace_4 rfl rfl rfl (by omega) rfl ?_)))
  refine t_X0_styleOn _ ?_
  rw [ix_n hf (by decide)]
  simp only [Option.elim, if_neg hne]
  refine ev_puti (pc := 7) kF_1_24 dX1_trace_7 rfl rfl rfl rfl rfl (ev_aload_n (pc := 10) dX1_trace_10 rfl (ev_iload (pc := 11) dX1_trace_11 rfl (ev_invV (pc := 13) kV_1_28 dX1_trace_13 rfl rfl rfl (by omega) rfl ?_)))
  refine t_X0_lengthOn _ ?_
  rw [ix_n hf (by decide)]
  have e3 : ui I 14 2 (I 4 f) 3 f = 1 := by simpa [ui] using hm
  have e5 : ui I 14 2 (I 4 f) 5 f = nI len := by simpa [ui] using hlen
  simp only [Option.elim, e3, e5, if_true]
  refine ev_istore (pc := 16) dX1_trace_16 rfl (ev_aload_n (pc := 18) dX1_trace_18 rfl (ev_getr (pc := 19) kF_1_12 dX1_trace_19 rfl rfl rfl (ev_invV (pc := 22) kV_1_31 dX1_trace_22 rfl rfl rfl (by omega) rfl ?_)))
  refine t_tr_empty ?_
  refine ev_aload_n (pc := 25) dX1_trace_25 rfl (ev_getr (pc := 26) kF_1_12 dX1_trace_26 rfl rfl rfl (ev_iload (pc := 29) dX1_trace_29 rfl (ev_invV (pc := 31) kV_1_34 dX1_trace_31 rfl rfl rfl (by omega) rfl ?_)))
  refine t_tr_add (ps := []) rowIs_nil (by decide) _ ?_
  refine ev_aload_n (pc := 34) dX1_trace_34 rfl (ev_iconst (pc := 35) (v := (0)) dX1_trace_35 iconst_c0 (ev_puti (pc := 36) kF_1_38 dX1_trace_36 rfl rfl rfl rfl rfl (ev_aload_n (pc := 39) dX1_trace_39 rfl (ev_iconst (pc := 40) (v := (0)) dX1_trace_40 iconst_c0 (ev_puti (pc := 41) kF_1_41 dX1_trace_41 rfl rfl rfl rfl rfl (?_))))))
  refine ev_lload_n (pc := 44) dX1_trace_44 rfl (ev_lconst (pc := 45) (v := 1) dX1_trace_45 rfl (ev_iload (pc := 46) dX1_trace_46 rfl (ev_lshl (pc := 48) dX1_trace_48 (ev_ldc2 (pc := 49) kL_1_44 dX1_trace_49 (ev_lxor (pc := 52) dX1_trace_52 (ev_land (pc := 53) dX1_trace_53 (ev_lstore (pc := 54) dX1_trace_54 rfl (ev_iload (pc := 56) dX1_trace_56 rfl (ev_istore (pc := 58) dX1_trace_58 rfl (ev_iconst (pc := 60) (v := (1)) dX1_trace_60 iconst_c1 (ev_istore (pc := 61) dX1_trace_61 rfl (?_))))))))))))
  refine lp_trace (by omega) hl2 hF h (len - 1) 1 f 0 0 [f] _ _ none (by omega) rfl hf (by omega) (by omega) (by omega) ?_ (fun q hq => by rw [List.mem_singleton.mp hq]; exact hff) ?_ ?_ ?_ ?_ (fun a ha => ?_) rfl
  · have h0 : opS fr F [] := fun j hj => by simpa using hF j hj
    exact opS_step h0 hf
  · exact rowIs_of (rowIs_push (I := ui (ui I 14 2 (I 4 f)) 15 1 0) (a := 15) (b := 16) (ps := []) (by decide) rowIs_nil (by decide) f) (by funext z; simp [ui]) (by funext z; simp [ui])
  · simp [ui]
  · simp [ui]; rfl
  · simp [ui]; rfl
  · funext z
    simp only [ui]
    rw [if_neg (by omega), if_neg (by omega), if_neg (by omega), if_neg (by omega), if_neg (by omega), if_neg (by omega)]
end T24
