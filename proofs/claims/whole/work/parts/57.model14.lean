/-! ===== the reference: all guesses, and their order ===== -/
def gaE (D : Nat → Int32) (I : Nat → Nat → Int32) (k f : Nat) : Prop := I 89 k = nI f ∧ gu I k (pgD D (fD D) f) ∧ I 91 k = nI (gdD D (fD D) f).2.1 ∧ I 92 k = nI (gdD D (fD D) f).2.2 ∧ I 93 k = scD D (fD D) f
def gaA (D : Nat → Int32) (I : Nat → Nat → Int32) (l : List Nat) : Prop := I 82 9 = nI l.length ∧ ∀ k, k < l.length → gaE D I k (l.getD k 0)
def flD (D : Nat → Int32) : List Nat := flP (fpD D (fD D)) 40
def gaO (D : Nat → Int32) (I : Nat → Nat → Int32) : Prop := ∀ k, k < (glD D (fD D)).length → ∃ g, g < (flD D).length ∧ I 95 k = nI g ∧ (flD D).getD g 0 = (glD D (fD D)).getD k 0
def gaF (I I' : Nat → Nat → Int32) : Prop := (∀ c, c < 82 ∨ (82 < c ∧ c < 89) ∨ 95 < c → I' c = I c) ∧ ∀ i, i ≠ 9 → I' 82 i = I 82 i
theorem gaF_rf (I : Nat → Nat → Int32) : gaF I I := ⟨fun _ _ => rfl, fun _ _ => rfl⟩
theorem gaF_tr {I I1 I2 : Nat → Nat → Int32} (h : gaF I I1) (h2 : gaF I1 I2) : gaF I I2 := ⟨fun c hc => (h2.1 c hc).trans (h.1 c hc), fun i hi => (h2.2 i hi).trans (h.2 i hi)⟩
theorem pgG {D : Nat → Int32} (hw : wfG D) {fr : Nat → Bool} {i : Nat} (hi : i < 40) (c : D i = 1) (hf : fr i = true) : rowOK fr (pgD D fr i) ∧ 1 ≤ (pgD D fr i).length ∧ (pgD D fr i).length ≤ lnD D i ∧ (pgD D fr i).getD 0 0 = i ∧ (gdD D fr i).2.1 ≤ 11 ∧ (gdD D fr i).2.2 ≤ 11 ∧ lnD D i ≤ 12 := by
  obtain ⟨l1, l2, l3⟩ := hw.2.1 i hi c
  obtain ⟨g1, g2, g3, g4, g5, g6⟩ := gsT_row (nx := fun j => D (120 + j)) (ok := okD D fr (D (40 + i))) (P := fr) (fun j hj => by
    unfold okD at hj
    simp only [Bool.and_eq_true] at hj
    exact hj.1.1) (lnD D i - 1) [i] i 0 0 ⟨by simp, fun q hq => by rw [List.mem_singleton.mp hq]; exact ⟨hi, hf⟩⟩
  simp only [List.length_cons, List.length_nil] at g2 g3 g4
  exact ⟨g1, by unfold pgD gdD; omega, by unfold pgD gdD; omega, g4 (by omega), by unfold gdD; omega, by unfold gdD; omega, l3⟩
theorem fp_mem {D : Nat → Int32} {n f : Nat} (h : f ∈ flP (fpD D (fD D)) n) : f < n ∧ fD D f = true ∧ D f = 1 := by
  obtain ⟨h1, h2⟩ := fl_mem.mp h
  unfold fpD at h2
  simp only [Bool.and_eq_true, decide_eq_true_eq] at h2
  exact ⟨h1, h2.1, h2.2⟩
theorem fl_len40 {D : Nat → Int32} {n : Nat} (hn : n ≤ 40) : (flP (fpD D (fD D)) n).length ≤ n := by
  rw [fl_len]; exact cntB_le _ _
section T57
variable {d L : Nat} {I : Nat → Nat → Int32} {J : Nat → Nat → Int64} {p : Nat → Nat} {Q : Option Value → am_M → Prop} {D : Nat → Int32}
theorem m_guesses0 (hd : 5 ≤ d) (hr : rowM I D) (hw : wfG D) {g f : Nat} (hg : g < 40) (hf : f < 40) (hff : fD D f = true) (c : D f = 1) (h9 : I 82 9 = nI g) (k : ∀ I', gaE D I' g f → I' 82 9 = nI (g + 1) → (∀ i, i ≠ 9 → I' 82 i = I 82 i) → (∀ c, c < 82 ∨ (82 < c ∧ c < 89) ∨ 94 < c → I' c = I c) → (∀ c k, 89 ≤ c → c ≤ 93 → k ≠ g → I' c k = I c k) → (∀ x, x < 12 * g ∨ 12 * g + 12 ≤ x → I' 94 x = I 94 x) → Q none (I', J, KR p)) : T d me_X8_guesses0 [.ref 82, .int (nI f)] L I J p Q := by
  refine am_enter [some (.ref 82), some (.int (nI f)), none, none, none, none, none] rfl rfl rfl rfl ?_
  obtain ⟨l1, l2, l3⟩ := hw.2.1 f hf c
  refine ev_aload_n (pc := 0) dX8_guesses0_0 rfl (ev_geti (pc := 1) kF_8_110 dX8_guesses0_1 rfl rfl (?_))
  rw [h9]
  refine ev_istore_n (pc := 4) dX8_guesses0_4 rfl (ev_aload_n (pc := 5) dX8_guesses0_5 rfl (ev_getr (pc := 6) kF_8_28 dX8_guesses0_6 rfl rfl rfl (ev_iload_n (pc := 9) dX8_guesses0_9 rfl (ev_iload_n (pc := 10) dX8_guesses0_10 rfl (ev_iast (pc := 11) (i := g) dX8_guesses0_11 rfl rfl (rfl) (by omega) rfl (ev_aload_n (pc := 12) dX8_guesses0_12 rfl (ev_getr (pc := 13) kF_8_31 dX8_guesses0_13 rfl rfl rfl (ev_iload_n (pc := 16) dX8_guesses0_16 rfl (ev_iconst (pc := 17) (v := (1)) dX8_guesses0_17 iconst_c1 (ev_iast (pc := 18) (i := g) dX8_guesses0_18 rfl rfl (rfl) (by omega) rfl (ev_aload_n (pc := 19) dX8_guesses0_19 rfl (ev_getr (pc := 20) kF_8_34 dX8_guesses0_20 rfl rfl rfl (ev_iload_n (pc := 23) dX8_guesses0_23 rfl (ev_iconst (pc := 24) (v := (0)) dX8_guesses0_24 iconst_c0 (ev_iast (pc := 25) (i := g) dX8_guesses0_25 rfl rfl (rfl) (by omega) rfl (ev_aload_n (pc := 26) dX8_guesses0_26 rfl (ev_getr (pc := 27) kF_8_37 dX8_guesses0_27 rfl rfl rfl (ev_iload_n (pc := 30) dX8_guesses0_30 rfl (ev_iconst (pc := 31) (v := (0)) dX8_guesses0_31 iconst_c0 (ev_iast (pc := 32) (i := g) dX8_guesses0_32 rfl rfl (rfl) (by omega) rfl (ev_aload_n (pc := 33) dX8_guesses0_33 rfl (ev_getr (pc := 34) kF_8_43 dX8_guesses0_34 rfl rfl rfl (ev_bipush (pc := 37) (v := (12)) dX8_guesses0_37 bipush_c12 (ev_iload_n (pc := 39) dX8_guesses0_39 rfl (ev_imul (pc := 40) dX8_guesses0_40 (ev_iload_n (pc := 41) dX8_guesses0_41 rfl (ev_iast (pc := 42) (i := 12 * g) dX8_guesses0_42 rfl rfl (mul12 g hg) (by omega) rfl (ev_iconst (pc := 43) (v := (1)) dX8_guesses0_43 iconst_c1 (ev_istore_n (pc := 44) dX8_guesses0_44 rfl (?_))))))))))))))))))))))))))))))
  have gx : gxF I (ui (ui (ui (ui (ui I 89 g (nI f)) 90 g 1) 91 g 0) 92 g 0) 94 (12 * g) (nI f)) g := by
    have g4 := gxF_ui (v := 0) (gxF_ui (v := 0) (gxF_ui (v := 1) (gxF_ui (v := nI f) (I := I) (I1 := I) (g := g) (c := 89) ⟨fun _ _ => rfl, fun _ _ _ _ _ => rfl, fun _ _ => rfl⟩ (by omega)) (c := 90) (by omega)) (c := 91) (by omega)) (c := 92) (by omega)
    refine ⟨fun a ha => ?_, fun a k h1 h2 h3 => ?_, fun x hx => ?_⟩
    · rw [← g4.1 a ha]
      funext y
      simp only [ui]
      rw [if_neg (by omega)]
    · rw [← g4.2.1 a k h1 h2 h3]
      simp only [ui]
      rw [if_neg (by omega)]
    · rw [← g4.2.2 x hx]
      simp only [ui]
      rw [if_neg (by omega)]
  refine lp_g0 (by omega) hr hw hg hf l1 l3 (gdD D (fD D) f) (fun I1 o3 o4 o5 o6 hI => ?_) (lnD D f - 1) [f] f 0 0 _ _ _ _ (by simp; omega) (by simp) (by simp) (fun q hq => by rw [List.mem_singleton.mp hq]; exact hf) ⟨by simp [ui], ⟨by simp [ui]; rfl, fun k hk => ?_⟩, by simp [ui]; rfl, by simp [ui]; rfl, gx⟩ rfl
  · obtain ⟨a1, a2, a3, a4, a5⟩ := hI
    have r1 : rowM I1 D := rowM_of hr (a5.1 83 (by omega))
    have fin : ∀ v, v = scD D (fD D) f → E me_X8_guesses0 d L 276 [some (.ref 82), some (.int (nI f)), some (.int (nI g)), o3, o4, o5, o6] [.int v, .int (nI g), .ref 93] I1 J p Q := by
      intro v hv
      have e9 : ui I1 93 g v 82 9 = nI g := by
        rw [show ui I1 93 g v 82 9 = I1 82 9 by simp [ui], a5.1 82 (by omega), h9]
      refine ev_iast (pc := 276) (i := g) dX8_guesses0_276 rfl rfl (rfl) (by omega) rfl (ev_aload_n (pc := 277) dX8_guesses0_277 rfl (ev_dup (pc := 278) dX8_guesses0_278 rfl (ev_geti (pc := 279) kF_8_110 dX8_guesses0_279 rfl rfl (?_))))
      rw [e9]
      refine ev_iconst (pc := 282) (v := (1)) dX8_guesses0_282 iconst_c1 (ev_iadd (pc := 283) dX8_guesses0_283 (?_))
      rw [nI_1]
      refine ev_puti (pc := 284) kF_8_110 dX8_guesses0_284 rfl rfl rfl rfl rfl (ev_vret (pc := 287) dX8_guesses0_287 rfl ?_)
      have gx2 : gxF I (ui I1 93 g v) g := gxF_ui a5 (by omega)
      refine k _ ⟨by simp [ui, a1], gu_y a2 (by funext y; simp [ui]) (by funext y; simp [ui]), by simp [ui, a3], by simp [ui, a4], by simp [ui, hv]⟩ (by simp [ui]) (fun i hi => ?_) (fun a ha => ?_) (fun a k h1 h2 h3 => ?_) (fun x hx => ?_)
      · rw [← gx2.1 82 (by omega)]
        simp [ui, hi]
      · rw [← gx2.1 a (by omega)]
        funext y
        simp only [ui]
        rw [if_neg (by omega)]
      · rw [← gx2.2.1 a k h1 h2 h3]
        simp only [ui]
        rw [if_neg (by omega)]
      · rw [← gx2.2.2 x hx]
        simp only [ui]
        rw [if_neg (by omega)]
    refine ev_aload_n (pc := 206) dX8_guesses0_206 rfl (ev_getr (pc := 207) kF_8_40 dX8_guesses0_207 rfl rfl rfl (ev_iload_n (pc := 210) dX8_guesses0_210 rfl (ev_bipush (pc := 211) (v := (10)) dX8_guesses0_211 bipush_c10 (ev_bipush (pc := 213) (v := (10)) dX8_guesses0_213 bipush_c10 (ev_aload_n (pc := 215) dX8_guesses0_215 rfl (ev_getr (pc := 216) kF_8_34 dX8_guesses0_216 rfl rfl rfl (ev_iload_n (pc := 219) dX8_guesses0_219 rfl (ev_iald (pc := 220) (i := g) dX8_guesses0_220 rfl (rfl) (by omega) rfl (?_)))))))))
    rw [a3]
    refine ev_imul (pc := 221) dX8_guesses0_221 (ev_iadd (pc := 222) dX8_guesses0_222 (ev_iconst (pc := 223) (v := (4)) dX8_guesses0_223 iconst_c4 (ev_aload_n (pc := 224) dX8_guesses0_224 rfl (ev_getr (pc := 225) kF_8_37 dX8_guesses0_225 rfl rfl rfl (ev_iload_n (pc := 228) dX8_guesses0_228 rfl (ev_iald (pc := 229) (i := g) dX8_guesses0_229 rfl (rfl) (by omega) rfl (?_)))))))
    rw [a4]
    refine ev_imul (pc := 230) dX8_guesses0_230 (ev_iadd (pc := 231) dX8_guesses0_231 (ev_bipush (pc := 232) (v := (6)) dX8_guesses0_232 bipush_c6 (ev_aload_n (pc := 234) dX8_guesses0_234 rfl (ev_getr (pc := 235) kF_8_7 dX8_guesses0_235 rfl rfl rfl (ev_bipush (pc := 238) (v := (80)) dX8_guesses0_238 bipush_c80 (ev_iload_n (pc := 240) dX8_guesses0_240 rfl (ev_iadd (pc := 241) dX8_guesses0_241 (ev_iald (pc := 242) (i := 80 + f) dX8_guesses0_242 rfl (nI_add 80 f) (by omega) rfl (?_)))))))))
    rw [r1 _ (by omega), l1]
    refine ev_aload_n (pc := 243) dX8_guesses0_243 rfl (ev_getr (pc := 244) kF_8_31 dX8_guesses0_244 rfl rfl rfl (ev_iload_n (pc := 247) dX8_guesses0_247 rfl (ev_iald (pc := 248) (i := g) dX8_guesses0_248 rfl (rfl) (by omega) rfl (?_))))
    rw [a2.1]
    refine ev_isub (pc := 249) dX8_guesses0_249 (ev_imul (pc := 250) dX8_guesses0_250 (ev_isub (pc := 251) dX8_guesses0_251 (ev_aload_n (pc := 252) dX8_guesses0_252 rfl (ev_aload_n (pc := 253) dX8_guesses0_253 rfl (ev_getr (pc := 254) kF_8_7 dX8_guesses0_254 rfl rfl rfl (ev_bipush (pc := 257) (v := (40)) dX8_guesses0_257 bipush_c40 (ev_iload_n (pc := 259) dX8_guesses0_259 rfl (ev_iadd (pc := 260) dX8_guesses0_260 (ev_iald (pc := 261) (i := 40 + f) dX8_guesses0_261 rfl (nI_add 40 f) (by omega) rfl (?_))))))))))
    rw [r1 _ (by omega)]
    refine ev_iload_n (pc := 262) dX8_guesses0_262 rfl (ev_invV (pc := 263) kV_8_116 dX8_guesses0_263 rfl rfl rfl (by omega) rfl ?_)
    refine m_entry r1 hw hf ?_
    unfold scD scI pgD at fin
    cases hq : jwD D (nI f) (D (40 + f)) with
    | none =>
      rw [hq] at fin
      simp only [Option.elim_none]
      refine ev_if_lt (pc := 266) 274 dX8_guesses0_266 (by decide) (kf := fun c => absurd (by decide) c) (kt := fun c266 => ev_iconst (pc := 274) (v := (0)) dX8_guesses0_274 iconst_c0 (ev_iadd (pc := 275) dX8_guesses0_275 (?_)))
      exact fin _ rfl
    | some m =>
      have := fstP_some hq
      have hz := hw.2.2.2.2
      rw [hq] at fin
      simp only [Option.elim_some]
      refine ev_if_lt (pc := 266) 274 dX8_guesses0_266 (by decide) (kt := fun c => absurd c (nI_pos (by omega))) (kf := fun c266 => ev_bipush (pc := 269) (v := (15)) dX8_guesses0_269 bipush_c15 (ev_goto (pc := 271) 275 dX8_guesses0_271 (by decide) (ev_iadd (pc := 275) dX8_guesses0_275 (?_))))
      exact fin _ rfl
  · have e : k = 0 := by simpa using hk
    subst e
    simp [ui]
theorem lp_ga1 (hd : 6 ≤ d) (hr : rowM I D) (hw : wfG D) (k : ∀ I', gaA D I' (flD D) → gaF I I' → E me_X8_guessAll d L 44 [some (.ref 82), some (.int (nI 40)), none, none] [] I' J p Q) : ∀ (n i : Nat) (I1 : Nat → Nat → Int32), i + n = 40 → gaA D I1 (flP (fpD D (fD D)) i) → gaF I I1 → E me_X8_guessAll d L 7 [some (.ref 82), some (.int (nI i)), none, none] [] I1 J p Q
  | 0, i, I1, hi, h1, h2 => by
    have e : i = 40 := by omega
    subst e
    refine ev_iload_n (pc := 7) dX8_guessAll_7 rfl (ev_bipush (pc := 8) (v := (40)) dX8_guessAll_8 bipush_c40 (ev_ncmp_ge (pc := 10) 44 (40) (40) dX8_guessAll_10 (by decide) (rfl) (rfl) (by omega) (by omega) (kf := fun c => absurd c (by omega)) (kt := fun c10 => ?_)))
    exact k I1 h1 h2
  | n + 1, i, I1, hi, h1, h2 => by
    have ih := lp_ga1 hd hr hw k n (i + 1)
    have hl := fl_len40 (D := D) (n := i) (by omega)
    have r1 : rowM I1 D := rowM_of hr (h2.1 83 (by omega))
    have ef : flP (fpD D (fD D)) (i + 1) = if fpD D (fD D) i then flP (fpD D (fD D)) i ++ [i] else flP (fpD D (fD D)) i := rfl
    have efp : fpD D (fD D) i = (fD D i && decide (D i = 1)) := rfl
    have no : fpD D (fD D) i = false → E me_X8_guessAll d L 38 [some (.ref 82), some (.int (nI i)), none, none] [] I1 J p Q := by
      intro e
      rw [if_neg (by rw [e]; decide)] at ef
      rw [ef] at ih
      refine ev_iinc (pc := 38) dX8_guessAll_38 rfl (iinc_1 _) rfl (ev_goto (pc := 41) 7 dX8_guessAll_41 (by decide) (?_))
      exact ih I1 (by omega) h1 h2
    refine ev_iload_n (pc := 7) dX8_guessAll_7 rfl (ev_bipush (pc := 8) (v := (40)) dX8_guessAll_8 bipush_c40 (ev_ncmp_ge (pc := 10) 44 (i) (40) dX8_guessAll_10 (by decide) (rfl) (rfl) (by omega) (by omega) (kt := fun c => absurd c (by omega)) (kf := fun c10 => ev_aload_n (pc := 13) dX8_guessAll_13 rfl (ev_iload_n (pc := 14) dX8_guessAll_14 rfl (ev_invV (pc := 15) kV_8_68 dX8_guessAll_15 rfl rfl rfl (by omega) rfl ?_)))))
    refine m_isFree (by omega) r1 hw.1 (by omega) ?_
    rw [decide_eq_true (show i < 40 by omega), Bool.true_and]
    cases q1 : fD D i
    · refine ev_ifb_eq (pc := 18) 38 dX8_guessAll_18 (by decide) (kf := fun c => absurd c (by simp)) (kt := fun c18 => ?_)
      exact no (by rw [efp, q1]; rfl)
    · refine ev_ifb_eq (pc := 18) 38 dX8_guessAll_18 (by decide) (kt := fun c => absurd c (by simp)) (kf := fun c18 => ev_aload_n (pc := 21) dX8_guessAll_21 rfl (ev_getr (pc := 22) kF_8_7 dX8_guessAll_22 rfl rfl rfl (ev_iconst (pc := 25) (v := (0)) dX8_guessAll_25 iconst_c0 (ev_iload_n (pc := 26) dX8_guessAll_26 rfl (ev_iadd (pc := 27) dX8_guessAll_27 (ev_iald (pc := 28) (i := i) dX8_guessAll_28 rfl (Int32.zero_add _) (by omega) rfl (?_)))))))
      rw [r1 _ (by omega)]
      by_cases q2 : D i = 1
      · have e : fpD D (fD D) i = true := by rw [efp, q1, decide_eq_true q2]; rfl
        rw [if_pos e] at ef
        rw [ef] at ih
        refine ev_iconst (pc := 29) (v := (1)) dX8_guessAll_29 iconst_c1 (ev_icmp_ne (pc := 30) 38 dX8_guessAll_30 (by decide) (kt := fun c => absurd (q2) c) (kf := fun c30 => ev_aload_n (pc := 33) dX8_guessAll_33 rfl (ev_iload_n (pc := 34) dX8_guessAll_34 rfl (ev_invV (pc := 35) kV_8_119 dX8_guessAll_35 rfl rfl rfl (by omega) rfl ?_))))
        refine m_guesses0 (by omega) r1 hw (by omega) (by omega) q1 q2 h1.1 fun I2 s1 s2 s3 s4 s5 s6 => ?_
        refine ev_iinc (pc := 38) dX8_guessAll_38 rfl (iinc_1 _) rfl (ev_goto (pc := 41) 7 dX8_guessAll_41 (by decide) (?_))
        refine ih I2 (by omega) ⟨by rw [s2]; simp, fun k hk => ?_⟩ (gaF_tr h2 ⟨fun c hc => s4 c (by omega), s3⟩)
        simp only [List.length_append, List.length_cons, List.length_nil] at hk
        by_cases ek : k = (flP (fpD D (fD D)) i).length
        · have : (flP (fpD D (fD D)) i ++ [i]).getD k 0 = i := by rw [ek]; simp [List.getD_eq_getElem?_getD]
          rw [this, ek]
          exact s1
        · have hk2 : k < (flP (fpD D (fD D)) i).length := by omega
          rw [fl_app hk2]
          obtain ⟨b1, b2, b3, b4, b5⟩ := h1.2 k hk2
          obtain ⟨m1, m2, m3⟩ := fp_mem (getD_mem hk2)
          have pl := pgG hw (by omega) m3 m2
          refine ⟨by rw [s5 89 k (by omega) (by omega) ek]; exact b1, ⟨by rw [s5 90 k (by omega) (by omega) ek]; exact b2.1, fun j hj => ?_⟩, by rw [s5 91 k (by omega) (by omega) ek]; exact b3, by rw [s5 92 k (by omega) (by omega) ek]; exact b4, by rw [s5 93 k (by omega) (by omega) ek]; exact b5⟩
          rw [s6 _ (by omega)]
          exact b2.2 j hj
      · refine ev_iconst (pc := 29) (v := (1)) dX8_guessAll_29 iconst_c1 (ev_icmp_ne (pc := 30) 38 dX8_guessAll_30 (by decide) (kf := fun c => absurd c (q2)) (kt := fun c30 => ?_))
        exact no (by rw [efp, q1, decide_eq_false q2]; rfl)
end T57
