/-! ===== the law's loop ===== -/
def me_L_law : am_me := (9, yL_law, cL_law, 4, some .boolean, 1)
theorem le_law (L : Nat) : am_le [(9, L)] (SH L) (SH L) (SH L) := ⟨Nat.le_refl _, Nat.le_refl _, Nat.zero_le _, Nat.le_refl _, Nat.le_refl _⟩
abbrev EL (d L pc : Nat) (l : List (Option Value)) (st : List Value) (I : Nat → Nat → Int32) (J : Nat → Nat → Int64) (p : Nat → Nat) : Prop := am_Ev me_L_law d [(9, L)] (SH L) pc l st (SH L) (I, J, KR p) (fun v _ => v = some (.int 1))
theorem iinc_5 (n : Nat) : nI n + Int32.ofInt 5 = nI (n + 5) := by rw [show Int32.ofInt 5 = nI 5 by decide]; exact nI_add n 5
theorem and31 (x : Int32) : ∃ k, k < 32 ∧ x &&& 31 = nI k := by
  refine ⟨(x &&& 31).toBitVec.toNat, ?_, ?_⟩
  · rw [Int32.toBitVec_and, BitVec.toNat_and]
    have : (31 : Int32).toBitVec.toNat = 31 := by decide
    rw [this]
    have := Nat.and_le_right (n := x.toBitVec.toNat) (m := 31)
    omega
  · apply Int32.toBitVec_inj.1
    show _ = BitVec.ofNat 32 _
    apply BitVec.eq_of_toNat_eq
    rw [BitVec.toNat_ofNat]
    exact (Nat.mod_eq_of_lt (BitVec.isLt _)).symm
theorem law_gt {L i : Nat} (hL : L ≤ 2560) (hi : i ≤ 5000) : (nI L - 5 < nI i) ↔ L < i + 5 := by
  have e1 : nI L - 5 = Int32.ofInt ((L : Int) - 5) := by
    rw [Int32.ofInt_sub, Int32.ofInt_eq_ofNat]
    rfl
  have e2 : nI i = Int32.ofInt (i : Int) := Int32.ofInt_eq_ofNat.symm
  rw [e1, e2, oi_lt (by omega) (by omega)]
  omega
theorem Cls_mfr {I I' : Nat → Nat → Int32} {p : Nat → Nat} {s : Sta} (h : Cls I p s) (hn : s.2.1 ≤ 4) (f : mfr I I') : Cls I' p s := by
  obtain ⟨z1, z2, z3, z4, z5, z6⟩ := h
  refine ⟨z1, Rep_frame z2 fun c h1 h2 => f c (by omega), by rw [f 21 (by omega)]; exact z3, fun k hk => ?_, by rw [f 78 (by omega)]; exact z5, fun i hi => by rw [f 79 (by omega)]; exact z6 i hi⟩
  have := z1.rng (i := k) (by omega)
  exact Rep_frame (z4 k hk) fun c h1 h2 => f c (by omega)
theorem Mod_cfr {I I' : Nat → Nat → Int32} {rn : Bool} {s : Sta} (h : Mod rn I s) (f : cfr I I') : Mod rn I' s :=
  Mod_row h (rowM_of h.1 (f 83 (by omega))) (f 84 (by omega)) (f 87 (by omega)) (fun i _ => by rw [f 82 (by omega)])
theorem mfr_w {I I' : Nat → Nat → Int32} (h : wfr I I') : mfr I I' := fun a ha => h.1 a (by omega)
/-! the standing is kept -/
theorem Wst_write {s : Sta} (hw : Wst s) (a b c e : Int32) : Wst (oWrite s a b c e).2 := by
  unfold oWrite
  split
  · rename_i h
    simp only [Bool.and_eq_true] at h
    obtain ⟨h1, h2, h3, h4⟩ := h
    obtain ⟨n, n1, n2, rfl⟩ := inR_n (by omega) (by omega) h1
    obtain ⟨t, n3, n4, rfl⟩ := inR_n (by omega) (by omega) h2
    obtain ⟨len, n5, n6, rfl⟩ := inR_n (by omega) (by omega) h3
    rw [nI_clamp (by omega), nI_clamp (by omega)]
    exact Wst_set hw (wr_wf hw.1 (by omega) (by omega) n5 n6)
  · exact hw
theorem Wst_delete {s : Sta} (hw : Wst s) (a : Int32) : Wst (oDelete s a).2 := by
  unfold oDelete
  split
  · rename_i h
    obtain ⟨n, n1, n2, rfl⟩ := inR_n (by omega) (by omega) h
    rw [nI_clamp (by omega)]
    exact Wst_set hw (dl_wf hw.1 (by omega))
  · exact hw
theorem Wst_wipe {s : Sta} (hw : Wst s) (a : Int32) : Wst (oWipe s a).2 := by
  unfold oWipe
  split
  · rename_i h
    obtain ⟨n, n1, n2, rfl⟩ := inR_n (by omega) (by omega) h
    rw [nI_clamp (by omega)]
    exact Wst_set hw (wpS_wf hw.1 (by omega))
  · exact hw
theorem Wst_wipeAll {s : Sta} (hw : Wst s) : Wst (oWipeAll s).2 := Wst_set hw (wa_wf hw.1)
theorem Wst_claim {s : Sta} (hw : Wst s) (a b : Int32) : Wst (oClaim s a b).2 := by
  unfold oClaim
  split
  · rename_i h
    simp only [Bool.and_eq_true, Bool.or_eq_true, decide_eq_true_eq] at h
    refine Wst_set hw (cl_wf hw.1 ?_)
    rcases h.2 with h | h
    · exact Or.inl h
    · obtain ⟨n, n1, n2, e⟩ := inR_n (by omega) (by omega) h
      exact Or.inr ⟨n, by omega, e⟩
  · exact hw
theorem Wst_undo {s : Sta} (hw : Wst s) : Wst (oUndo s).2 := by
  obtain ⟨w1, w2, w3, w4, w5⟩ := hw
  unfold oUndo
  split
  · exact ⟨w1, w2, w3, w4, w5⟩
  · rename_i h
    exact ⟨w3 _ (by omega), by dsimp only; omega, fun k hk => w3 k (by dsimp only at hk; omega), w4, w5⟩
theorem Wst_type {s : Sta} (hw : Wst s) (a : Int32) : Wst (oType s a).2 := by
  obtain ⟨w1, w2, w3, w4, w5⟩ := hw
  unfold oType
  split
  · rename_i h
    obtain ⟨n, n1, n2, e⟩ := inR_n (by omega) (by omega) h
    split
    · rename_i h2
      refine ⟨w1, w2, w3, by dsimp only; omega, fun i hi => ?_⟩
      dsimp only at hi ⊢
      by_cases c : i = s.2.2.2.1
      · rw [if_pos c]
        exact ⟨n, n1, n2, e⟩
      · rw [if_neg c]
        exact w5 i (by omega)
    · exact ⟨w1, w2, w3, w4, w5⟩
  · exact ⟨w1, w2, w3, w4, w5⟩
theorem Wst_clearText {s : Sta} (hw : Wst s) : Wst (oClear s).2 := ⟨hw.1, hw.2.1, hw.2.2.1, by show (0 : Nat) ≤ 60; omega, fun i hi => absurd hi (Nat.not_lt_zero _)⟩
theorem Wst_play {s : Sta} (hw : Wst s) : Wst (oPlay s).2 := by
  unfold oPlay
  split
  · exact Wst_set hw (rn_wf _ _ _ _ _ hw.1)
  · exact hw
section T70
variable {d L : Nat} {I : Nat → Nat → Int32} {J : Nat → Nat → Int64} {p : Nat → Nat} {s : Sta}

theorem law_write (hd : 17 ≤ d) {i : Nat} (hi : i + 5 ≤ L) (hL : L ≤ 2560) (hc : Cls I p s) (hm : Mod false I s) (hw : Wst s) (next : ∀ I' J' p' s', Cls I' p' s' → Mod false I' s' → Wst s' → EL d L 594 [some (.ref 0), some (.ref 1), some (.ref 82), some (.int (nI i))] [] I' J' p') : EL d L 120 [some (.ref 0), some (.ref 1), some (.ref 82), some (.int (nI i))] [] I J p := by
  have hb : Nat.blt L 2147483648 = true := by rw [Nat.blt_eq]; omega
  refine ev_aload_n (pc := 120) dL_law_120 rfl (ev_aload_n (pc := 121) dL_law_121 rfl (ev_iload_n (pc := 122) dL_law_122 rfl (ev_iconst (pc := 123) (v := (1)) dL_law_123 iconst_c1 (ev_iadd (pc := 124) dL_law_124 (ev_iald (pc := 125) (i := i + 1) dL_law_125 rfl (nI_add i 1) (by omega) hb (ev_aload_n (pc := 126) dL_law_126 rfl (ev_iload_n (pc := 127) dL_law_127 rfl (ev_iconst (pc := 128) (v := (2)) dL_law_128 iconst_c2 (ev_iadd (pc := 129) dL_law_129 (ev_iald (pc := 130) (i := i + 2) dL_law_130 rfl (nI_add i 2) (by omega) hb (ev_aload_n (pc := 131) dL_law_131 rfl (ev_iload_n (pc := 132) dL_law_132 rfl (ev_iconst (pc := 133) (v := (3)) dL_law_133 iconst_c3 (ev_iadd (pc := 134) dL_law_134 (ev_iald (pc := 135) (i := i + 3) dL_law_135 rfl (nI_add i 3) (by omega) hb (ev_aload_n (pc := 136) dL_law_136 rfl (ev_iload_n (pc := 137) dL_law_137 rfl (ev_iconst (pc := 138) (v := (4)) dL_law_138 iconst_c4 (ev_iadd (pc := 139) dL_law_139 (ev_iald (pc := 140) (i := i + 4) dL_law_140 rfl (nI_add i 4) (by omega) hb (ev_invVg (pc := 141) kV_9_13 dL_law_141 rfl rfl rfl (by omega) rfl (le_law _) ?_)))))))))))))))))))))
  refine c_write (by omega) hc hw _ _ _ _ fun I1 J1 p1 h1 f1 => ?_
  have m1 := Mod_cfr hm f1
  refine ev_aload_n (pc := 144) dL_law_144 rfl (ev_aload_n (pc := 145) dL_law_145 rfl (ev_iload_n (pc := 146) dL_law_146 rfl (ev_iconst (pc := 147) (v := (1)) dL_law_147 iconst_c1 (ev_iadd (pc := 148) dL_law_148 (ev_iald (pc := 149) (i := i + 1) dL_law_149 rfl (nI_add i 1) (by omega) hb (?_))))))
  rw [f1 0 (Or.inl rfl)]
  refine ev_aload_n (pc := 150) dL_law_150 rfl (ev_iload_n (pc := 151) dL_law_151 rfl (ev_iconst (pc := 152) (v := (2)) dL_law_152 iconst_c2 (ev_iadd (pc := 153) dL_law_153 (ev_iald (pc := 154) (i := i + 2) dL_law_154 rfl (nI_add i 2) (by omega) hb (?_)))))
  rw [f1 0 (Or.inl rfl)]
  refine ev_aload_n (pc := 155) dL_law_155 rfl (ev_iload_n (pc := 156) dL_law_156 rfl (ev_iconst (pc := 157) (v := (3)) dL_law_157 iconst_c3 (ev_iadd (pc := 158) dL_law_158 (ev_iald (pc := 159) (i := i + 3) dL_law_159 rfl (nI_add i 3) (by omega) hb (?_)))))
  rw [f1 0 (Or.inl rfl)]
  refine ev_aload_n (pc := 160) dL_law_160 rfl (ev_iload_n (pc := 161) dL_law_161 rfl (ev_iconst (pc := 162) (v := (4)) dL_law_162 iconst_c4 (ev_iadd (pc := 163) dL_law_163 (ev_iald (pc := 164) (i := i + 4) dL_law_164 rfl (nI_add i 4) (by omega) hb (?_)))))
  rw [f1 0 (Or.inl rfl)]
  refine ev_invVg (pc := 165) kV_9_17 dL_law_165 rfl rfl rfl (by omega) rfl (le_law _) ?_
  refine m_write (rn := false) (by omega) m1 hw.1 hw.2.1 _ _ _ _ fun I2 m2 w2 => ?_
  have e2 : oWriteM false s (I 0 (i + 1)) (I 0 (i + 2)) (I 0 (i + 3)) (I 0 (i + 4)) = oWrite s (I 0 (i + 1)) (I 0 (i + 2)) (I 0 (i + 3)) (I 0 (i + 4)) := rfl
  rw [e2] at m2 ⊢
  refine ev_icmp_eq (pc := 168) 594 dL_law_168 (by decide) (kf := fun c => absurd (rfl) c) (kt := fun c168 => ?_)
  have wk := Wst_write hw (I 0 (i + 1)) (I 0 (i + 2)) (I 0 (i + 3)) (I 0 (i + 4))
  exact next I2 _ p1 _ (Cls_mfr h1 wk.2.1 (mfr_w w2)) m2 wk
theorem law_delete (hd : 17 ≤ d) {i : Nat} (hi : i + 5 ≤ L) (hL : L ≤ 2560) (hc : Cls I p s) (hm : Mod false I s) (hw : Wst s) (next : ∀ I' J' p' s', Cls I' p' s' → Mod false I' s' → Wst s' → EL d L 594 [some (.ref 0), some (.ref 1), some (.ref 82), some (.int (nI i))] [] I' J' p') : EL d L 173 [some (.ref 0), some (.ref 1), some (.ref 82), some (.int (nI i))] [] I J p := by
  have hb : Nat.blt L 2147483648 = true := by rw [Nat.blt_eq]; omega
  refine ev_aload_n (pc := 173) dL_law_173 rfl (ev_aload_n (pc := 174) dL_law_174 rfl (ev_iload_n (pc := 175) dL_law_175 rfl (ev_iconst (pc := 176) (v := (1)) dL_law_176 iconst_c1 (ev_iadd (pc := 177) dL_law_177 (ev_iald (pc := 178) (i := i + 1) dL_law_178 rfl (nI_add i 1) (by omega) hb (ev_invVg (pc := 179) kV_9_18 dL_law_179 rfl rfl rfl (by omega) rfl (le_law _) ?_))))))
  refine c_delete (by omega) hc hw _ fun I1 J1 p1 h1 f1 => ?_
  have m1 := Mod_cfr hm f1
  refine ev_aload_n (pc := 182) dL_law_182 rfl (ev_aload_n (pc := 183) dL_law_183 rfl (ev_iload_n (pc := 184) dL_law_184 rfl (ev_iconst (pc := 185) (v := (1)) dL_law_185 iconst_c1 (ev_iadd (pc := 186) dL_law_186 (ev_iald (pc := 187) (i := i + 1) dL_law_187 rfl (nI_add i 1) (by omega) hb (?_))))))
  rw [f1 0 (Or.inl rfl)]
  refine ev_invVg (pc := 188) kV_9_22 dL_law_188 rfl rfl rfl (by omega) rfl (le_law _) ?_
  refine m_delete (rn := false) (by omega) m1 hw.1 hw.2.1 _ fun I2 m2 w2 => ?_
  have e2 : oDeleteM false s (I 0 (i + 1)) = oDelete s (I 0 (i + 1)) := rfl
  rw [e2] at m2 ⊢
  refine ev_icmp_eq (pc := 191) 594 dL_law_191 (by decide) (kf := fun c => absurd (rfl) c) (kt := fun c191 => ?_)
  have wk := Wst_delete hw (I 0 (i + 1))
  exact next I2 _ p1 _ (Cls_mfr h1 wk.2.1 (mfr_w w2)) m2 wk
theorem law_wipe (hd : 17 ≤ d) {i : Nat} (hi : i + 5 ≤ L) (hL : L ≤ 2560) (hc : Cls I p s) (hm : Mod false I s) (hw : Wst s) (next : ∀ I' J' p' s', Cls I' p' s' → Mod false I' s' → Wst s' → EL d L 594 [some (.ref 0), some (.ref 1), some (.ref 82), some (.int (nI i))] [] I' J' p') : EL d L 196 [some (.ref 0), some (.ref 1), some (.ref 82), some (.int (nI i))] [] I J p := by
  have hb : Nat.blt L 2147483648 = true := by rw [Nat.blt_eq]; omega
  refine ev_aload_n (pc := 196) dL_law_196 rfl (ev_aload_n (pc := 197) dL_law_197 rfl (ev_iload_n (pc := 198) dL_law_198 rfl (ev_iconst (pc := 199) (v := (1)) dL_law_199 iconst_c1 (ev_iadd (pc := 200) dL_law_200 (ev_iald (pc := 201) (i := i + 1) dL_law_201 rfl (nI_add i 1) (by omega) hb (ev_invVg (pc := 202) kV_9_23 dL_law_202 rfl rfl rfl (by omega) rfl (le_law _) ?_))))))
  refine c_wipe (by omega) hc hw _ fun I1 J1 p1 h1 f1 => ?_
  have m1 := Mod_cfr hm f1
  refine ev_aload_n (pc := 205) dL_law_205 rfl (ev_aload_n (pc := 206) dL_law_206 rfl (ev_iload_n (pc := 207) dL_law_207 rfl (ev_iconst (pc := 208) (v := (1)) dL_law_208 iconst_c1 (ev_iadd (pc := 209) dL_law_209 (ev_iald (pc := 210) (i := i + 1) dL_law_210 rfl (nI_add i 1) (by omega) hb (?_))))))
  rw [f1 0 (Or.inl rfl)]
  refine ev_invVg (pc := 211) kV_9_26 dL_law_211 rfl rfl rfl (by omega) rfl (le_law _) ?_
  refine m_wipe (rn := false) (by omega) m1 hw.1 hw.2.1 _ fun I2 m2 w2 => ?_
  have e2 : oWipeM false s (I 0 (i + 1)) = oWipe s (I 0 (i + 1)) := rfl
  rw [e2] at m2 ⊢
  refine ev_icmp_eq (pc := 214) 594 dL_law_214 (by decide) (kf := fun c => absurd (rfl) c) (kt := fun c214 => ?_)
  have wk := Wst_wipe hw (I 0 (i + 1))
  exact next I2 _ p1 _ (Cls_mfr h1 wk.2.1 (mfr_w w2)) m2 wk
theorem law_wipeAll (hd : 17 ≤ d) {i : Nat} (hi : i + 5 ≤ L) (hL : L ≤ 2560) (hc : Cls I p s) (hm : Mod false I s) (hw : Wst s) (next : ∀ I' J' p' s', Cls I' p' s' → Mod false I' s' → Wst s' → EL d L 594 [some (.ref 0), some (.ref 1), some (.ref 82), some (.int (nI i))] [] I' J' p') : EL d L 219 [some (.ref 0), some (.ref 1), some (.ref 82), some (.int (nI i))] [] I J p := by
  have hb : Nat.blt L 2147483648 = true := by rw [Nat.blt_eq]; omega
  refine ev_aload_n (pc := 219) dL_law_219 rfl (ev_invVg (pc := 220) kV_9_27 dL_law_220 rfl rfl rfl (by omega) rfl (le_law _) ?_)
  refine c_wipeAll (by omega) hc hw fun I1 J1 p1 h1 f1 => ?_
  have m1 := Mod_cfr hm f1
  refine ev_aload_n (pc := 223) dL_law_223 rfl (ev_invVg (pc := 224) kV_9_31 dL_law_224 rfl rfl rfl (by omega) rfl (le_law _) ?_)
  refine m_wipeAll (rn := false) (by omega) m1 hw.1 hw.2.1 fun I2 m2 w2 => ?_
  have e2 : setM false s (waS s.1) = oWipeAll s := rfl
  rw [e2] at m2 ⊢
  refine ev_icmp_eq (pc := 227) 594 dL_law_227 (by decide) (kf := fun c => absurd (rfl) c) (kt := fun c227 => ?_)
  have wk := Wst_wipeAll hw 
  exact next I2 _ p1 _ (Cls_mfr h1 wk.2.1 (mfr_w w2)) m2 wk
theorem law_fileOf (hd : 17 ≤ d) {i : Nat} (hi : i + 5 ≤ L) (hL : L ≤ 2560) (hc : Cls I p s) (hm : Mod false I s) (hw : Wst s) (next : ∀ I' J' p' s', Cls I' p' s' → Mod false I' s' → Wst s' → EL d L 594 [some (.ref 0), some (.ref 1), some (.ref 82), some (.int (nI i))] [] I' J' p') : EL d L 232 [some (.ref 0), some (.ref 1), some (.ref 82), some (.int (nI i))] [] I J p := by
  have hb : Nat.blt L 2147483648 = true := by rw [Nat.blt_eq]; omega
  refine ev_aload_n (pc := 232) dL_law_232 rfl (ev_aload_n (pc := 233) dL_law_233 rfl (ev_iload_n (pc := 234) dL_law_234 rfl (ev_iconst (pc := 235) (v := (1)) dL_law_235 iconst_c1 (ev_iadd (pc := 236) dL_law_236 (ev_iald (pc := 237) (i := i + 1) dL_law_237 rfl (nI_add i 1) (by omega) hb (ev_aload_n (pc := 238) dL_law_238 rfl (ev_iload_n (pc := 239) dL_law_239 rfl (ev_iconst (pc := 240) (v := (2)) dL_law_240 iconst_c2 (ev_iadd (pc := 241) dL_law_241 (ev_iald (pc := 242) (i := i + 2) dL_law_242 rfl (nI_add i 2) (by omega) hb (ev_invVg (pc := 243) kV_9_32 dL_law_243 rfl rfl rfl (by omega) rfl (le_law _) ?_)))))))))))
  refine c_fileOf (by omega) hc hw _ _  ?_
  have m1 := hm
  refine ev_aload_n (pc := 246) dL_law_246 rfl (ev_aload_n (pc := 247) dL_law_247 rfl (ev_iload_n (pc := 248) dL_law_248 rfl (ev_iconst (pc := 249) (v := (1)) dL_law_249 iconst_c1 (ev_iadd (pc := 250) dL_law_250 (ev_iald (pc := 251) (i := i + 1) dL_law_251 rfl (nI_add i 1) (by omega) hb (?_))))))
  refine ev_aload_n (pc := 252) dL_law_252 rfl (ev_iload_n (pc := 253) dL_law_253 rfl (ev_iconst (pc := 254) (v := (2)) dL_law_254 iconst_c2 (ev_iadd (pc := 255) dL_law_255 (ev_iald (pc := 256) (i := i + 2) dL_law_256 rfl (nI_add i 2) (by omega) hb (?_)))))
  refine ev_invVg (pc := 257) kV_9_36 dL_law_257 rfl rfl rfl (by omega) rfl (le_law _) ?_
  refine m_fileOf (by omega) m1 hw.1 _ _ ?_
  refine ev_icmp_eq (pc := 260) 594 dL_law_260 (by decide) (kf := fun c => absurd (rfl) c) (kt := fun c260 => ?_)
  exact next I J p s hc hm hw
theorem law_pageOf (hd : 17 ≤ d) {i : Nat} (hi : i + 5 ≤ L) (hL : L ≤ 2560) (hc : Cls I p s) (hm : Mod false I s) (hw : Wst s) (next : ∀ I' J' p' s', Cls I' p' s' → Mod false I' s' → Wst s' → EL d L 594 [some (.ref 0), some (.ref 1), some (.ref 82), some (.int (nI i))] [] I' J' p') : EL d L 265 [some (.ref 0), some (.ref 1), some (.ref 82), some (.int (nI i))] [] I J p := by
  have hb : Nat.blt L 2147483648 = true := by rw [Nat.blt_eq]; omega
  refine ev_aload_n (pc := 265) dL_law_265 rfl (ev_aload_n (pc := 266) dL_law_266 rfl (ev_iload_n (pc := 267) dL_law_267 rfl (ev_iconst (pc := 268) (v := (1)) dL_law_268 iconst_c1 (ev_iadd (pc := 269) dL_law_269 (ev_iald (pc := 270) (i := i + 1) dL_law_270 rfl (nI_add i 1) (by omega) hb (ev_aload_n (pc := 271) dL_law_271 rfl (ev_iload_n (pc := 272) dL_law_272 rfl (ev_iconst (pc := 273) (v := (2)) dL_law_273 iconst_c2 (ev_iadd (pc := 274) dL_law_274 (ev_iald (pc := 275) (i := i + 2) dL_law_275 rfl (nI_add i 2) (by omega) hb (ev_invVg (pc := 276) kV_9_37 dL_law_276 rfl rfl rfl (by omega) rfl (le_law _) ?_)))))))))))
  refine c_pageOf (by omega) hc hw _ _ fun I1 J1 h1 f1 => ?_
  have m1 := Mod_cfr hm f1
  refine ev_aload_n (pc := 279) dL_law_279 rfl (ev_aload_n (pc := 280) dL_law_280 rfl (ev_iload_n (pc := 281) dL_law_281 rfl (ev_iconst (pc := 282) (v := (1)) dL_law_282 iconst_c1 (ev_iadd (pc := 283) dL_law_283 (ev_iald (pc := 284) (i := i + 1) dL_law_284 rfl (nI_add i 1) (by omega) hb (?_))))))
  rw [f1 0 (Or.inl rfl)]
  refine ev_aload_n (pc := 285) dL_law_285 rfl (ev_iload_n (pc := 286) dL_law_286 rfl (ev_iconst (pc := 287) (v := (2)) dL_law_287 iconst_c2 (ev_iadd (pc := 288) dL_law_288 (ev_iald (pc := 289) (i := i + 2) dL_law_289 rfl (nI_add i 2) (by omega) hb (?_)))))
  rw [f1 0 (Or.inl rfl)]
  refine ev_invVg (pc := 290) kV_9_40 dL_law_290 rfl rfl rfl (by omega) rfl (le_law _) ?_
  refine m_pageOf (by omega) m1 hw.1 _ _ fun I2 m2 w2 => ?_
  refine ev_icmp_eq (pc := 293) 594 dL_law_293 (by decide) (kf := fun c => absurd (rfl) c) (kt := fun c293 => ?_)
  exact next I2 _ p s (Cls_mfr h1 hw.2.1 (w2)) m2 hw
theorem law_journalOf (hd : 17 ≤ d) {i : Nat} (hi : i + 5 ≤ L) (hL : L ≤ 2560) (hc : Cls I p s) (hm : Mod false I s) (hw : Wst s) (next : ∀ I' J' p' s', Cls I' p' s' → Mod false I' s' → Wst s' → EL d L 594 [some (.ref 0), some (.ref 1), some (.ref 82), some (.int (nI i))] [] I' J' p') : EL d L 298 [some (.ref 0), some (.ref 1), some (.ref 82), some (.int (nI i))] [] I J p := by
  have hb : Nat.blt L 2147483648 = true := by rw [Nat.blt_eq]; omega
  refine ev_aload_n (pc := 298) dL_law_298 rfl (ev_aload_n (pc := 299) dL_law_299 rfl (ev_iload_n (pc := 300) dL_law_300 rfl (ev_iconst (pc := 301) (v := (1)) dL_law_301 iconst_c1 (ev_iadd (pc := 302) dL_law_302 (ev_iald (pc := 303) (i := i + 1) dL_law_303 rfl (nI_add i 1) (by omega) hb (ev_aload_n (pc := 304) dL_law_304 rfl (ev_iload_n (pc := 305) dL_law_305 rfl (ev_iconst (pc := 306) (v := (2)) dL_law_306 iconst_c2 (ev_iadd (pc := 307) dL_law_307 (ev_iald (pc := 308) (i := i + 2) dL_law_308 rfl (nI_add i 2) (by omega) hb (ev_invVg (pc := 309) kV_9_41 dL_law_309 rfl rfl rfl (by omega) rfl (le_law _) ?_)))))))))))
  refine c_journalOf (by omega) hc hw _ _  ?_
  have m1 := hm
  refine ev_aload_n (pc := 312) dL_law_312 rfl (ev_aload_n (pc := 313) dL_law_313 rfl (ev_iload_n (pc := 314) dL_law_314 rfl (ev_iconst (pc := 315) (v := (1)) dL_law_315 iconst_c1 (ev_iadd (pc := 316) dL_law_316 (ev_iald (pc := 317) (i := i + 1) dL_law_317 rfl (nI_add i 1) (by omega) hb (?_))))))
  refine ev_aload_n (pc := 318) dL_law_318 rfl (ev_iload_n (pc := 319) dL_law_319 rfl (ev_iconst (pc := 320) (v := (2)) dL_law_320 iconst_c2 (ev_iadd (pc := 321) dL_law_321 (ev_iald (pc := 322) (i := i + 2) dL_law_322 rfl (nI_add i 2) (by omega) hb (?_)))))
  refine ev_invVg (pc := 323) kV_9_44 dL_law_323 rfl rfl rfl (by omega) rfl (le_law _) ?_
  refine m_journalOf (by omega) m1 hw.1 _ _ ?_
  refine ev_icmp_eq (pc := 326) 594 dL_law_326 (by decide) (kf := fun c => absurd (rfl) c) (kt := fun c326 => ?_)
  exact next I J p s hc hm hw
theorem law_guessOf (hd : 17 ≤ d) {i : Nat} (hi : i + 5 ≤ L) (hL : L ≤ 2560) (hc : Cls I p s) (hm : Mod false I s) (hw : Wst s) (next : ∀ I' J' p' s', Cls I' p' s' → Mod false I' s' → Wst s' → EL d L 594 [some (.ref 0), some (.ref 1), some (.ref 82), some (.int (nI i))] [] I' J' p') : EL d L 331 [some (.ref 0), some (.ref 1), some (.ref 82), some (.int (nI i))] [] I J p := by
  have hb : Nat.blt L 2147483648 = true := by rw [Nat.blt_eq]; omega
  refine ev_aload_n (pc := 331) dL_law_331 rfl (ev_aload_n (pc := 332) dL_law_332 rfl (ev_iload_n (pc := 333) dL_law_333 rfl (ev_iconst (pc := 334) (v := (1)) dL_law_334 iconst_c1 (ev_iadd (pc := 335) dL_law_335 (ev_iald (pc := 336) (i := i + 1) dL_law_336 rfl (nI_add i 1) (by omega) hb (ev_aload_n (pc := 337) dL_law_337 rfl (ev_iload_n (pc := 338) dL_law_338 rfl (ev_iconst (pc := 339) (v := (2)) dL_law_339 iconst_c2 (ev_iadd (pc := 340) dL_law_340 (ev_iald (pc := 341) (i := i + 2) dL_law_341 rfl (nI_add i 2) (by omega) hb (ev_invVg (pc := 342) kV_9_45 dL_law_342 rfl rfl rfl (by omega) rfl (le_law _) ?_)))))))))))
  refine c_guessOf (by omega) hc hw _ _ fun I1 J1 h1 f1 => ?_
  have m1 := Mod_cfr hm f1
  refine ev_aload_n (pc := 345) dL_law_345 rfl (ev_aload_n (pc := 346) dL_law_346 rfl (ev_iload_n (pc := 347) dL_law_347 rfl (ev_iconst (pc := 348) (v := (1)) dL_law_348 iconst_c1 (ev_iadd (pc := 349) dL_law_349 (ev_iald (pc := 350) (i := i + 1) dL_law_350 rfl (nI_add i 1) (by omega) hb (?_))))))
  rw [f1 0 (Or.inl rfl)]
  refine ev_aload_n (pc := 351) dL_law_351 rfl (ev_iload_n (pc := 352) dL_law_352 rfl (ev_iconst (pc := 353) (v := (2)) dL_law_353 iconst_c2 (ev_iadd (pc := 354) dL_law_354 (ev_iald (pc := 355) (i := i + 2) dL_law_355 rfl (nI_add i 2) (by omega) hb (?_)))))
  rw [f1 0 (Or.inl rfl)]
  refine ev_invVg (pc := 356) kV_9_48 dL_law_356 rfl rfl rfl (by omega) rfl (le_law _) ?_
  refine m_guessOf (by omega) m1 hw.1 _ _ fun I2 m2 w2 => ?_
  refine ev_icmp_eq (pc := 359) 594 dL_law_359 (by decide) (kf := fun c => absurd (rfl) c) (kt := fun c359 => ?_)
  exact next I2 _ p s (Cls_mfr h1 hw.2.1 (w2)) m2 hw
theorem law_claim (hd : 17 ≤ d) {i : Nat} (hi : i + 5 ≤ L) (hL : L ≤ 2560) (hc : Cls I p s) (hm : Mod false I s) (hw : Wst s) (next : ∀ I' J' p' s', Cls I' p' s' → Mod false I' s' → Wst s' → EL d L 594 [some (.ref 0), some (.ref 1), some (.ref 82), some (.int (nI i))] [] I' J' p') : EL d L 364 [some (.ref 0), some (.ref 1), some (.ref 82), some (.int (nI i))] [] I J p := by
  have hb : Nat.blt L 2147483648 = true := by rw [Nat.blt_eq]; omega
  refine ev_aload_n (pc := 364) dL_law_364 rfl (ev_aload_n (pc := 365) dL_law_365 rfl (ev_iload_n (pc := 366) dL_law_366 rfl (ev_iconst (pc := 367) (v := (1)) dL_law_367 iconst_c1 (ev_iadd (pc := 368) dL_law_368 (ev_iald (pc := 369) (i := i + 1) dL_law_369 rfl (nI_add i 1) (by omega) hb (ev_aload_n (pc := 370) dL_law_370 rfl (ev_iload_n (pc := 371) dL_law_371 rfl (ev_iconst (pc := 372) (v := (2)) dL_law_372 iconst_c2 (ev_iadd (pc := 373) dL_law_373 (ev_iald (pc := 374) (i := i + 2) dL_law_374 rfl (nI_add i 2) (by omega) hb (ev_invVg (pc := 375) kV_9_49 dL_law_375 rfl rfl rfl (by omega) rfl (le_law _) ?_)))))))))))
  refine c_claim (by omega) hc hw _ _ fun I1 J1 p1 h1 f1 => ?_
  have m1 := Mod_cfr hm f1
  refine ev_aload_n (pc := 378) dL_law_378 rfl (ev_aload_n (pc := 379) dL_law_379 rfl (ev_iload_n (pc := 380) dL_law_380 rfl (ev_iconst (pc := 381) (v := (1)) dL_law_381 iconst_c1 (ev_iadd (pc := 382) dL_law_382 (ev_iald (pc := 383) (i := i + 1) dL_law_383 rfl (nI_add i 1) (by omega) hb (?_))))))
  rw [f1 0 (Or.inl rfl)]
  refine ev_aload_n (pc := 384) dL_law_384 rfl (ev_iload_n (pc := 385) dL_law_385 rfl (ev_iconst (pc := 386) (v := (2)) dL_law_386 iconst_c2 (ev_iadd (pc := 387) dL_law_387 (ev_iald (pc := 388) (i := i + 2) dL_law_388 rfl (nI_add i 2) (by omega) hb (?_)))))
  rw [f1 0 (Or.inl rfl)]
  refine ev_invVg (pc := 389) kV_9_52 dL_law_389 rfl rfl rfl (by omega) rfl (le_law _) ?_
  refine m_claim (rn := false) (by omega) m1 hw.1 hw.2.1 _ _ fun I2 m2 w2 => ?_
  have e2 : oClaimM false s (I 0 (i + 1)) (I 0 (i + 2)) = oClaim s (I 0 (i + 1)) (I 0 (i + 2)) := rfl
  rw [e2] at m2 ⊢
  refine ev_icmp_eq (pc := 392) 594 dL_law_392 (by decide) (kf := fun c => absurd (rfl) c) (kt := fun c392 => ?_)
  have wk := Wst_claim hw (I 0 (i + 1)) (I 0 (i + 2))
  exact next I2 _ p1 _ (Cls_mfr h1 wk.2.1 (mfr_w w2)) m2 wk
theorem law_bestGuesses (hd : 17 ≤ d) {i : Nat} (hi : i + 5 ≤ L) (hL : L ≤ 2560) (hc : Cls I p s) (hm : Mod false I s) (hw : Wst s) (next : ∀ I' J' p' s', Cls I' p' s' → Mod false I' s' → Wst s' → EL d L 594 [some (.ref 0), some (.ref 1), some (.ref 82), some (.int (nI i))] [] I' J' p') : EL d L 397 [some (.ref 0), some (.ref 1), some (.ref 82), some (.int (nI i))] [] I J p := by
  have hb : Nat.blt L 2147483648 = true := by rw [Nat.blt_eq]; omega
  refine ev_aload_n (pc := 397) dL_law_397 rfl (ev_aload_n (pc := 398) dL_law_398 rfl (ev_iload_n (pc := 399) dL_law_399 rfl (ev_iconst (pc := 400) (v := (1)) dL_law_400 iconst_c1 (ev_iadd (pc := 401) dL_law_401 (ev_iald (pc := 402) (i := i + 1) dL_law_402 rfl (nI_add i 1) (by omega) hb (ev_invVg (pc := 403) kV_9_53 dL_law_403 rfl rfl rfl (by omega) rfl (le_law _) ?_))))))
  refine c_bestGuesses (by omega) hc hw _ fun I1 J1 h1 f1 => ?_
  have m1 := Mod_cfr hm f1
  refine ev_aload_n (pc := 406) dL_law_406 rfl (ev_aload_n (pc := 407) dL_law_407 rfl (ev_iload_n (pc := 408) dL_law_408 rfl (ev_iconst (pc := 409) (v := (1)) dL_law_409 iconst_c1 (ev_iadd (pc := 410) dL_law_410 (ev_iald (pc := 411) (i := i + 1) dL_law_411 rfl (nI_add i 1) (by omega) hb (?_))))))
  rw [f1 0 (Or.inl rfl)]
  refine ev_invVg (pc := 412) kV_9_56 dL_law_412 rfl rfl rfl (by omega) rfl (le_law _) ?_
  refine m_bestGuesses (by omega) m1 hw.1 _ fun I2 m2 w2 => ?_
  refine ev_icmp_eq (pc := 415) 594 dL_law_415 (by decide) (kf := fun c => absurd (rfl) c) (kt := fun c415 => ?_)
  exact next I2 _ p s (Cls_mfr h1 hw.2.1 (w2)) m2 hw
theorem law_would (hd : 17 ≤ d) {i : Nat} (hi : i + 5 ≤ L) (hL : L ≤ 2560) (hc : Cls I p s) (hm : Mod false I s) (hw : Wst s) (next : ∀ I' J' p' s', Cls I' p' s' → Mod false I' s' → Wst s' → EL d L 594 [some (.ref 0), some (.ref 1), some (.ref 82), some (.int (nI i))] [] I' J' p') : EL d L 420 [some (.ref 0), some (.ref 1), some (.ref 82), some (.int (nI i))] [] I J p := by
  have hb : Nat.blt L 2147483648 = true := by rw [Nat.blt_eq]; omega
  refine ev_aload_n (pc := 420) dL_law_420 rfl (ev_aload_n (pc := 421) dL_law_421 rfl (ev_iload_n (pc := 422) dL_law_422 rfl (ev_iconst (pc := 423) (v := (1)) dL_law_423 iconst_c1 (ev_iadd (pc := 424) dL_law_424 (ev_iald (pc := 425) (i := i + 1) dL_law_425 rfl (nI_add i 1) (by omega) hb (ev_aload_n (pc := 426) dL_law_426 rfl (ev_iload_n (pc := 427) dL_law_427 rfl (ev_iconst (pc := 428) (v := (2)) dL_law_428 iconst_c2 (ev_iadd (pc := 429) dL_law_429 (ev_iald (pc := 430) (i := i + 2) dL_law_430 rfl (nI_add i 2) (by omega) hb (ev_aload_n (pc := 431) dL_law_431 rfl (ev_iload_n (pc := 432) dL_law_432 rfl (ev_iconst (pc := 433) (v := (3)) dL_law_433 iconst_c3 (ev_iadd (pc := 434) dL_law_434 (ev_iald (pc := 435) (i := i + 3) dL_law_435 rfl (nI_add i 3) (by omega) hb (ev_invVg (pc := 436) kV_9_57 dL_law_436 rfl rfl rfl (by omega) rfl (le_law _) ?_))))))))))))))))
  refine c_would (by omega) hc hw _ _ _ fun I1 J1 h1 f1 => ?_
  have m1 := Mod_cfr hm f1
  refine ev_aload_n (pc := 439) dL_law_439 rfl (ev_aload_n (pc := 440) dL_law_440 rfl (ev_iload_n (pc := 441) dL_law_441 rfl (ev_iconst (pc := 442) (v := (1)) dL_law_442 iconst_c1 (ev_iadd (pc := 443) dL_law_443 (ev_iald (pc := 444) (i := i + 1) dL_law_444 rfl (nI_add i 1) (by omega) hb (?_))))))
  rw [f1 0 (Or.inl rfl)]
  refine ev_aload_n (pc := 445) dL_law_445 rfl (ev_iload_n (pc := 446) dL_law_446 rfl (ev_iconst (pc := 447) (v := (2)) dL_law_447 iconst_c2 (ev_iadd (pc := 448) dL_law_448 (ev_iald (pc := 449) (i := i + 2) dL_law_449 rfl (nI_add i 2) (by omega) hb (?_)))))
  rw [f1 0 (Or.inl rfl)]
  refine ev_aload_n (pc := 450) dL_law_450 rfl (ev_iload_n (pc := 451) dL_law_451 rfl (ev_iconst (pc := 452) (v := (3)) dL_law_452 iconst_c3 (ev_iadd (pc := 453) dL_law_453 (ev_iald (pc := 454) (i := i + 3) dL_law_454 rfl (nI_add i 3) (by omega) hb (?_)))))
  rw [f1 0 (Or.inl rfl)]
  refine ev_invVg (pc := 455) kV_9_61 dL_law_455 rfl rfl rfl (by omega) rfl (le_law _) ?_
  refine m_would (by omega) m1 hw.1 _ _ _ fun I2 m2 w2 => ?_
  refine ev_icmp_eq (pc := 458) 594 dL_law_458 (by decide) (kf := fun c => absurd (rfl) c) (kt := fun c458 => ?_)
  exact next I2 _ p s (Cls_mfr h1 hw.2.1 (w2)) m2 hw
theorem law_gentlest (hd : 17 ≤ d) {i : Nat} (hi : i + 5 ≤ L) (hL : L ≤ 2560) (hc : Cls I p s) (hm : Mod false I s) (hw : Wst s) (next : ∀ I' J' p' s', Cls I' p' s' → Mod false I' s' → Wst s' → EL d L 594 [some (.ref 0), some (.ref 1), some (.ref 82), some (.int (nI i))] [] I' J' p') : EL d L 463 [some (.ref 0), some (.ref 1), some (.ref 82), some (.int (nI i))] [] I J p := by
  have hb : Nat.blt L 2147483648 = true := by rw [Nat.blt_eq]; omega
  refine ev_aload_n (pc := 463) dL_law_463 rfl (ev_aload_n (pc := 464) dL_law_464 rfl (ev_iload_n (pc := 465) dL_law_465 rfl (ev_iconst (pc := 466) (v := (1)) dL_law_466 iconst_c1 (ev_iadd (pc := 467) dL_law_467 (ev_iald (pc := 468) (i := i + 1) dL_law_468 rfl (nI_add i 1) (by omega) hb (ev_invVg (pc := 469) kV_9_62 dL_law_469 rfl rfl rfl (by omega) rfl (le_law _) ?_))))))
  refine c_gentlest (by omega) hc hw _ fun I1 J1 h1 f1 => ?_
  have m1 := Mod_cfr hm f1
  refine ev_aload_n (pc := 472) dL_law_472 rfl (ev_aload_n (pc := 473) dL_law_473 rfl (ev_iload_n (pc := 474) dL_law_474 rfl (ev_iconst (pc := 475) (v := (1)) dL_law_475 iconst_c1 (ev_iadd (pc := 476) dL_law_476 (ev_iald (pc := 477) (i := i + 1) dL_law_477 rfl (nI_add i 1) (by omega) hb (?_))))))
  rw [f1 0 (Or.inl rfl)]
  refine ev_invVg (pc := 478) kV_9_65 dL_law_478 rfl rfl rfl (by omega) rfl (le_law _) ?_
  refine m_gentlest (by omega) m1 hw.1 _ fun I2 m2 w2 => ?_
  refine ev_icmp_eq (pc := 481) 594 dL_law_481 (by decide) (kf := fun c => absurd (rfl) c) (kt := fun c481 => ?_)
  exact next I2 _ p s (Cls_mfr h1 hw.2.1 (w2)) m2 hw
theorem law_count (hd : 17 ≤ d) {i : Nat} (hi : i + 5 ≤ L) (hL : L ≤ 2560) (hc : Cls I p s) (hm : Mod false I s) (hw : Wst s) (next : ∀ I' J' p' s', Cls I' p' s' → Mod false I' s' → Wst s' → EL d L 594 [some (.ref 0), some (.ref 1), some (.ref 82), some (.int (nI i))] [] I' J' p') : EL d L 486 [some (.ref 0), some (.ref 1), some (.ref 82), some (.int (nI i))] [] I J p := by
  have hb : Nat.blt L 2147483648 = true := by rw [Nat.blt_eq]; omega
  refine ev_aload_n (pc := 486) dL_law_486 rfl (ev_aload_n (pc := 487) dL_law_487 rfl (ev_iload_n (pc := 488) dL_law_488 rfl (ev_iconst (pc := 489) (v := (1)) dL_law_489 iconst_c1 (ev_iadd (pc := 490) dL_law_490 (ev_iald (pc := 491) (i := i + 1) dL_law_491 rfl (nI_add i 1) (by omega) hb (ev_invVg (pc := 492) kV_9_66 dL_law_492 rfl rfl rfl (by omega) rfl (le_law _) ?_))))))
  refine c_count (by omega) hc hw _ fun I1 J1 h1 f1 => ?_
  have m1 := Mod_cfr hm f1
  refine ev_aload_n (pc := 495) dL_law_495 rfl (ev_aload_n (pc := 496) dL_law_496 rfl (ev_iload_n (pc := 497) dL_law_497 rfl (ev_iconst (pc := 498) (v := (1)) dL_law_498 iconst_c1 (ev_iadd (pc := 499) dL_law_499 (ev_iald (pc := 500) (i := i + 1) dL_law_500 rfl (nI_add i 1) (by omega) hb (?_))))))
  rw [f1 0 (Or.inl rfl)]
  refine ev_invVg (pc := 501) kV_9_69 dL_law_501 rfl rfl rfl (by omega) rfl (le_law _) ?_
  refine m_count (by omega) m1 hw.1 _ fun I2 m2 w2 => ?_
  refine ev_icmp_eq (pc := 504) 594 dL_law_504 (by decide) (kf := fun c => absurd (rfl) c) (kt := fun c504 => ?_)
  exact next I2 _ p s (Cls_mfr h1 hw.2.1 (w2)) m2 hw
theorem law_undo (hd : 17 ≤ d) {i : Nat} (hi : i + 5 ≤ L) (hL : L ≤ 2560) (hc : Cls I p s) (hm : Mod false I s) (hw : Wst s) (next : ∀ I' J' p' s', Cls I' p' s' → Mod false I' s' → Wst s' → EL d L 594 [some (.ref 0), some (.ref 1), some (.ref 82), some (.int (nI i))] [] I' J' p') : EL d L 509 [some (.ref 0), some (.ref 1), some (.ref 82), some (.int (nI i))] [] I J p := by
  have hb : Nat.blt L 2147483648 = true := by rw [Nat.blt_eq]; omega
  refine ev_aload_n (pc := 509) dL_law_509 rfl (ev_invVg (pc := 510) kV_9_70 dL_law_510 rfl rfl rfl (by omega) rfl (le_law _) ?_)
  refine c_undo (by omega) hc hw fun I1 J1 p1 h1 f1 => ?_
  have m1 := Mod_cfr hm f1
  refine ev_aload_n (pc := 513) dL_law_513 rfl (ev_invVg (pc := 514) kV_9_73 dL_law_514 rfl rfl rfl (by omega) rfl (le_law _) ?_)
  refine m_undo m1 hw.2.1 fun I2 m2 w2 => ?_
  refine ev_icmp_eq (pc := 517) 594 dL_law_517 (by decide) (kf := fun c => absurd (rfl) c) (kt := fun c517 => ?_)
  have wk := Wst_undo hw 
  exact next I2 _ p1 _ (Cls_mfr h1 wk.2.1 (w2)) m2 wk
theorem law_type (hd : 17 ≤ d) {i : Nat} (hi : i + 5 ≤ L) (hL : L ≤ 2560) (hc : Cls I p s) (hm : Mod false I s) (hw : Wst s) (next : ∀ I' J' p' s', Cls I' p' s' → Mod false I' s' → Wst s' → EL d L 594 [some (.ref 0), some (.ref 1), some (.ref 82), some (.int (nI i))] [] I' J' p') : EL d L 522 [some (.ref 0), some (.ref 1), some (.ref 82), some (.int (nI i))] [] I J p := by
  have hb : Nat.blt L 2147483648 = true := by rw [Nat.blt_eq]; omega
  refine ev_aload_n (pc := 522) dL_law_522 rfl (ev_aload_n (pc := 523) dL_law_523 rfl (ev_iload_n (pc := 524) dL_law_524 rfl (ev_iconst (pc := 525) (v := (1)) dL_law_525 iconst_c1 (ev_iadd (pc := 526) dL_law_526 (ev_iald (pc := 527) (i := i + 1) dL_law_527 rfl (nI_add i 1) (by omega) hb (ev_invVg (pc := 528) kV_9_74 dL_law_528 rfl rfl rfl (by omega) rfl (le_law _) ?_))))))
  refine c_type (by omega) hc hw _ fun I1 J1 p1 h1 f1 => ?_
  have m1 := Mod_cfr hm f1
  refine ev_aload_n (pc := 531) dL_law_531 rfl (ev_aload_n (pc := 532) dL_law_532 rfl (ev_iload_n (pc := 533) dL_law_533 rfl (ev_iconst (pc := 534) (v := (1)) dL_law_534 iconst_c1 (ev_iadd (pc := 535) dL_law_535 (ev_iald (pc := 536) (i := i + 1) dL_law_536 rfl (nI_add i 1) (by omega) hb (?_))))))
  rw [f1 0 (Or.inl rfl)]
  refine ev_invVg (pc := 537) kV_9_77 dL_law_537 rfl rfl rfl (by omega) rfl (le_law _) ?_
  refine m_type (by omega) m1 hw.2.2.2.1 _ fun I2 m2 w2 => ?_
  refine ev_icmp_eq (pc := 540) 594 dL_law_540 (by decide) (kf := fun c => absurd (rfl) c) (kt := fun c540 => ?_)
  have wk := Wst_type hw (I 0 (i + 1))
  exact next I2 _ p1 _ (Cls_mfr h1 wk.2.1 (w2)) m2 wk
theorem law_clearText (hd : 17 ≤ d) {i : Nat} (hi : i + 5 ≤ L) (hL : L ≤ 2560) (hc : Cls I p s) (hm : Mod false I s) (hw : Wst s) (next : ∀ I' J' p' s', Cls I' p' s' → Mod false I' s' → Wst s' → EL d L 594 [some (.ref 0), some (.ref 1), some (.ref 82), some (.int (nI i))] [] I' J' p') : EL d L 545 [some (.ref 0), some (.ref 1), some (.ref 82), some (.int (nI i))] [] I J p := by
  have hb : Nat.blt L 2147483648 = true := by rw [Nat.blt_eq]; omega
  refine ev_aload_n (pc := 545) dL_law_545 rfl (ev_invVg (pc := 546) kV_9_78 dL_law_546 rfl rfl rfl (by omega) rfl (le_law _) ?_)
  refine c_clearText hc hw fun I1 J1 p1 h1 f1 => ?_
  have m1 := Mod_cfr hm f1
  refine ev_aload_n (pc := 549) dL_law_549 rfl (ev_invVg (pc := 550) kV_9_81 dL_law_550 rfl rfl rfl (by omega) rfl (le_law _) ?_)
  refine m_clearText m1 fun I2 m2 w2 => ?_
  refine ev_icmp_eq (pc := 553) 594 dL_law_553 (by decide) (kf := fun c => absurd (rfl) c) (kt := fun c553 => ?_)
  have wk := Wst_clearText hw 
  exact next I2 _ p1 _ (Cls_mfr h1 wk.2.1 (w2)) m2 wk
theorem law_fault (hd : 17 ≤ d) {i : Nat} (hi : i + 5 ≤ L) (hL : L ≤ 2560) (hc : Cls I p s) (hm : Mod false I s) (hw : Wst s) (next : ∀ I' J' p' s', Cls I' p' s' → Mod false I' s' → Wst s' → EL d L 594 [some (.ref 0), some (.ref 1), some (.ref 82), some (.int (nI i))] [] I' J' p') : EL d L 558 [some (.ref 0), some (.ref 1), some (.ref 82), some (.int (nI i))] [] I J p := by
  have hb : Nat.blt L 2147483648 = true := by rw [Nat.blt_eq]; omega
  refine ev_aload_n (pc := 558) dL_law_558 rfl (ev_aload_n (pc := 559) dL_law_559 rfl (ev_iload_n (pc := 560) dL_law_560 rfl (ev_iconst (pc := 561) (v := (1)) dL_law_561 iconst_c1 (ev_iadd (pc := 562) dL_law_562 (ev_iald (pc := 563) (i := i + 1) dL_law_563 rfl (nI_add i 1) (by omega) hb (ev_invVg (pc := 564) kV_9_82 dL_law_564 rfl rfl rfl (by omega) rfl (le_law _) ?_))))))
  refine c_fault (by omega) hc hw _ fun I1 J1 h1 f1 => ?_
  have m1 := Mod_cfr hm f1
  refine ev_aload_n (pc := 567) dL_law_567 rfl (ev_aload_n (pc := 568) dL_law_568 rfl (ev_iload_n (pc := 569) dL_law_569 rfl (ev_iconst (pc := 570) (v := (1)) dL_law_570 iconst_c1 (ev_iadd (pc := 571) dL_law_571 (ev_iald (pc := 572) (i := i + 1) dL_law_572 rfl (nI_add i 1) (by omega) hb (?_))))))
  rw [f1 0 (Or.inl rfl)]
  refine ev_invVg (pc := 573) kV_9_85 dL_law_573 rfl rfl rfl (by omega) rfl (le_law _) ?_
  refine m_fault (by omega) m1 hw _ fun I2 m2 w2 => ?_
  refine ev_icmp_eq (pc := 576) 594 dL_law_576 (by decide) (kf := fun c => absurd (rfl) c) (kt := fun c576 => ?_)
  exact next I2 _ p s (Cls_mfr h1 hw.2.1 (w2)) m2 hw
theorem law_play (hd : 17 ≤ d) {i : Nat} (hi : i + 5 ≤ L) (hL : L ≤ 2560) (hc : Cls I p s) (hm : Mod false I s) (hw : Wst s) (next : ∀ I' J' p' s', Cls I' p' s' → Mod false I' s' → Wst s' → EL d L 594 [some (.ref 0), some (.ref 1), some (.ref 82), some (.int (nI i))] [] I' J' p') : EL d L 581 [some (.ref 0), some (.ref 1), some (.ref 82), some (.int (nI i))] [] I J p := by
  have hb : Nat.blt L 2147483648 = true := by rw [Nat.blt_eq]; omega
  refine ev_aload_n (pc := 581) dL_law_581 rfl (ev_invVg (pc := 582) kV_9_86 dL_law_582 rfl rfl rfl (by omega) rfl (le_law _) ?_)
  refine c_play (by omega) hc hw fun I1 J1 p1 h1 f1 => ?_
  have m1 := Mod_cfr hm f1
  refine ev_aload_n (pc := 585) dL_law_585 rfl (ev_invVg (pc := 586) kV_9_89 dL_law_586 rfl rfl rfl (by omega) rfl (le_law _) ?_)
  refine m_play (by omega) m1 hw fun I2 m2 w2 => ?_
  refine ev_icmp_eq (pc := 589) 594 dL_law_589 (by decide) (kf := fun c => absurd (rfl) c) (kt := fun c589 => ?_)
  have wk := Wst_play hw 
  exact next I2 _ p1 _ (Cls_mfr h1 wk.2.1 (w2)) m2 wk
theorem lp_law (hd : 17 ≤ d) (hL : L ≤ 2560) : ∀ (n i : Nat) (I : Nat → Nat → Int32) (J : Nat → Nat → Int64) (p : Nat → Nat) (s : Sta), L ≤ i + n → i ≤ L + 5 → Cls I p s → Mod false I s → Wst s → EL d L 18 [some (.ref 0), some (.ref 1), some (.ref 82), some (.int (nI i))] [] I J p
  | 0, i, I, J, p, s, hn, hi, hc, hm, hw => by
    refine ev_iload_n (pc := 18) dL_law_18 rfl (ev_aload_n (pc := 19) dL_law_19 rfl (ev_alen0 (pc := 20) dL_law_20 rfl (ev_iconst (pc := 21) (v := (5)) dL_law_21 iconst_c5 (ev_isub (pc := 22) dL_law_22 (ev_icmp_gt (pc := 23) 600 dL_law_23 (by decide) (kf := fun c => absurd ((law_gt hL (by omega)).mpr (by omega)) c) (kt := fun c23 => ?_))))))
    refine ev_iconst (pc := 600) (v := (1)) dL_law_600 iconst_c1 (ev_zret (pc := 601) dL_law_601 rfl (Or.inr rfl) ?_)
    rfl
  | n + 1, i, I, J, p, s, hn, hi, hc, hm, hw => by
    by_cases q : L < i + 5
    · refine ev_iload_n (pc := 18) dL_law_18 rfl (ev_aload_n (pc := 19) dL_law_19 rfl (ev_alen0 (pc := 20) dL_law_20 rfl (ev_iconst (pc := 21) (v := (5)) dL_law_21 iconst_c5 (ev_isub (pc := 22) dL_law_22 (ev_icmp_gt (pc := 23) 600 dL_law_23 (by decide) (kf := fun c => absurd ((law_gt hL (by omega)).mpr q) c) (kt := fun c23 => ?_))))))
      refine ev_iconst (pc := 600) (v := (1)) dL_law_600 iconst_c1 (ev_zret (pc := 601) dL_law_601 rfl (Or.inr rfl) ?_)
      rfl
    · have hb : Nat.blt L 2147483648 = true := by rw [Nat.blt_eq]; omega
      refine ev_iload_n (pc := 18) dL_law_18 rfl (ev_aload_n (pc := 19) dL_law_19 rfl (ev_alen0 (pc := 20) dL_law_20 rfl (ev_iconst (pc := 21) (v := (5)) dL_law_21 iconst_c5 (ev_isub (pc := 22) dL_law_22 (ev_icmp_gt (pc := 23) 600 dL_law_23 (by decide) (kt := fun c => absurd c ((fun h => q ((law_gt hL (by omega)).mp h)))) (kf := fun c23 => ev_aload_n (pc := 26) dL_law_26 rfl (ev_iload_n (pc := 27) dL_law_27 rfl (ev_iald (pc := 28) (i := i) dL_law_28 rfl (rfl) (by omega) hb (ev_bipush (pc := 29) (v := (31)) dL_law_29 bipush_c31 (ev_iand (pc := 31) dL_law_31 (?_)))))))))))
      obtain ⟨k, k1, e⟩ := and31 (I 0 i)
      rw [e]
      have next : ∀ I' J' p' s', Cls I' p' s' → Mod false I' s' → Wst s' → EL d L 594 [some (.ref 0), some (.ref 1), some (.ref 82), some (.int (nI i))] [] I' J' p' := by
        intro I' J' p' s' g1 g2 g3
        refine ev_iinc (pc := 594) dL_law_594 rfl ( iinc_5 i) rfl (ev_goto (pc := 597) 18 dL_law_597 (by decide) (?_))
        exact lp_law hd hL n (i + 5) I' J' p' s' (by omega) (by omega) g1 g2 g3
      by_cases k18 : 18 ≤ k
      · refine ev_tabOut (pc := 32) 594 dL_law_32 (Or.inr (by rw [nI_toInt (by omega)]; omega)) (by decide) ?_
        exact next I J p s hc hm hw
      · obtain rfl | rfl | rfl | rfl | rfl | rfl | rfl | rfl | rfl | rfl | rfl | rfl | rfl | rfl | rfl | rfl | rfl | rfl : k = 0 ∨ k = 1 ∨ k = 2 ∨ k = 3 ∨ k = 4 ∨ k = 5 ∨ k = 6 ∨ k = 7 ∨ k = 8 ∨ k = 9 ∨ k = 10 ∨ k = 11 ∨ k = 12 ∨ k = 13 ∨ k = 14 ∨ k = 15 ∨ k = 16 ∨ k = 17 := by omega
        · refine ev_tabIn (pc := 32) (off := 88) 120 dL_law_32 (by decide) (by decide) (by decide) (by decide) ?_
          exact law_write hd (by omega) hL hc hm hw next
        · refine ev_tabIn (pc := 32) (off := 141) 173 dL_law_32 (by decide) (by decide) (by decide) (by decide) ?_
          exact law_delete hd (by omega) hL hc hm hw next
        · refine ev_tabIn (pc := 32) (off := 164) 196 dL_law_32 (by decide) (by decide) (by decide) (by decide) ?_
          exact law_wipe hd (by omega) hL hc hm hw next
        · refine ev_tabIn (pc := 32) (off := 187) 219 dL_law_32 (by decide) (by decide) (by decide) (by decide) ?_
          exact law_wipeAll hd (by omega) hL hc hm hw next
        · refine ev_tabIn (pc := 32) (off := 200) 232 dL_law_32 (by decide) (by decide) (by decide) (by decide) ?_
          exact law_fileOf hd (by omega) hL hc hm hw next
        · refine ev_tabIn (pc := 32) (off := 233) 265 dL_law_32 (by decide) (by decide) (by decide) (by decide) ?_
          exact law_pageOf hd (by omega) hL hc hm hw next
        · refine ev_tabIn (pc := 32) (off := 266) 298 dL_law_32 (by decide) (by decide) (by decide) (by decide) ?_
          exact law_journalOf hd (by omega) hL hc hm hw next
        · refine ev_tabIn (pc := 32) (off := 299) 331 dL_law_32 (by decide) (by decide) (by decide) (by decide) ?_
          exact law_guessOf hd (by omega) hL hc hm hw next
        · refine ev_tabIn (pc := 32) (off := 332) 364 dL_law_32 (by decide) (by decide) (by decide) (by decide) ?_
          exact law_claim hd (by omega) hL hc hm hw next
        · refine ev_tabIn (pc := 32) (off := 365) 397 dL_law_32 (by decide) (by decide) (by decide) (by decide) ?_
          exact law_bestGuesses hd (by omega) hL hc hm hw next
        · refine ev_tabIn (pc := 32) (off := 388) 420 dL_law_32 (by decide) (by decide) (by decide) (by decide) ?_
          exact law_would hd (by omega) hL hc hm hw next
        · refine ev_tabIn (pc := 32) (off := 431) 463 dL_law_32 (by decide) (by decide) (by decide) (by decide) ?_
          exact law_gentlest hd (by omega) hL hc hm hw next
        · refine ev_tabIn (pc := 32) (off := 454) 486 dL_law_32 (by decide) (by decide) (by decide) (by decide) ?_
          exact law_count hd (by omega) hL hc hm hw next
        · refine ev_tabIn (pc := 32) (off := 477) 509 dL_law_32 (by decide) (by decide) (by decide) (by decide) ?_
          exact law_undo hd (by omega) hL hc hm hw next
        · refine ev_tabIn (pc := 32) (off := 490) 522 dL_law_32 (by decide) (by decide) (by decide) (by decide) ?_
          exact law_type hd (by omega) hL hc hm hw next
        · refine ev_tabIn (pc := 32) (off := 513) 545 dL_law_32 (by decide) (by decide) (by decide) (by decide) ?_
          exact law_clearText hd (by omega) hL hc hm hw next
        · refine ev_tabIn (pc := 32) (off := 526) 558 dL_law_32 (by decide) (by decide) (by decide) (by decide) ?_
          exact law_fault hd (by omega) hL hc hm hw next
        · refine ev_tabIn (pc := 32) (off := 549) 581 dL_law_32 (by decide) (by decide) (by decide) (by decide) ?_
          exact law_play hd (by omega) hL hc hm hw next
end T70
