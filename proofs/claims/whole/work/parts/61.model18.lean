/-! ===== the reference: then, would ===== -/
def tnD (D : Nat → Int32) (ps : List Nat) : Nat → Int32 := fun x => if 160 ≤ x ∧ x < 200 ∧ x - 160 ∈ ps then nI 30 else D x
theorem tn_lo {D : Nat → Int32} {ps : List Nat} {x : Nat} (h : x < 160 ∨ 200 ≤ x) : tnD D ps x = D x := if_neg (by omega)
theorem tn_fD {D : Nat → Int32} {ps : List Nat} {j : Nat} (hj : j < 40) : fD (tnD D ps) j = frW D ps j := by
  unfold fD frW tnD
  by_cases c : j ∈ ps
  · rw [if_pos ⟨by omega, by omega, by rw [show 160 + j - 160 = j by omega]; exact c⟩, decide_eq_false (nI_ne_m1 (by decide)), decide_eq_true c, Bool.not_true, Bool.and_false]
  · rw [if_neg (fun h => c (by have := h.2.2; rw [show 160 + j - 160 = j by omega] at this; exact this)), decide_eq_false c, Bool.not_false, Bool.and_true]
    rfl
theorem tn_zD {D : Nat → Int32} {ps : List Nat} : zD (tnD D ps) = zD D := by
  unfold zD
  rw [tn_lo (by omega)]
theorem tn_wf {D : Nat → Int32} {ps : List Nat} (h : wfG D) : wfG (tnD D ps) := by
  obtain ⟨h1, h2, h3, h4, h5⟩ := h
  refine ⟨fun j hj => ?_, fun i hi c => ?_, fun j hj => ?_, ?_, ?_⟩
  · unfold tnD
    by_cases c : 160 ≤ 160 + j ∧ 160 + j < 200 ∧ 160 + j - 160 ∈ ps
    · rw [if_pos c]
      exact Or.inr ⟨30, by omega, rfl⟩
    · rw [if_neg c]
      exact h1 j hj
  · rw [tn_lo (by omega)] at c
    unfold lnD
    rw [tn_lo (by omega)]
    exact h2 i hi c
  · rw [tn_lo (by omega)]
    exact h3 j hj
  · rw [tn_zD, tn_lo (by omega)]
    exact h4
  · rw [tn_zD]
    exact h5
theorem tn_gd {D : Nat → Int32} {ps : List Nat} {i : Nat} (hi : i < 40) : gdD (tnD D ps) (fD (tnD D ps)) i = gdD D (frW D ps) i := by
  unfold gdD lnD
  rw [tn_lo (by omega), tn_lo (by omega)]
  refine gsT_congr (fun j hj => tn_lo (by omega)) (fun j hj => ?_) _ _ _ _ _ hi
  unfold okD
  rw [tn_fD hj, tn_lo (by omega), tn_lo (by omega)]
theorem tn_sc {D : Nat → Int32} {ps : List Nat} {i : Nat} (hi : i < 40) : scD (tnD D ps) (fD (tnD D ps)) i = scD D (frW D ps) i := by
  unfold scD pgD jwD lnD
  rw [tn_gd hi, tn_zD, tn_lo (by omega), tn_lo (by omega)]
  congr 2
  exact fstP_congr _ _ fun k _ _ => by rw [tn_lo (by omega), tn_lo (by omega)]
theorem tn_gl {D : Nat → Int32} {ps : List Nat} : glD (tnD D ps) (fD (tnD D ps)) = glD D (frW D ps) :=
  gsL_congr 40 (fun i hi => by unfold fpD; rw [tn_fD hi, tn_lo (by omega)]) fun i hi _ => tn_sc hi
theorem tn_sum {D : Nat → Int32} {ps : List Nat} : sumD (tnD D ps) (fD (tnD D ps)) = sumD D (frW D ps) := by
  unfold sumD
  rw [tn_gl]
  congr 1
  exact List.map_congr_left fun f hf => tn_sc (gl_mem hf).1
theorem cntB_or {P R : Nat → Bool} : ∀ n, (∀ j, j < n → P j = true → R j = false) → cntB (fun j => P j || R j) n = cntB P n + cntB R n
  | 0, _ => rfl
  | n + 1, h => by
    have ih := cntB_or n fun j hj => h j (by omega)
    show cntB (fun j => P j || R j) n + (if (P n || R n) = true then 1 else 0) = cntB P n + (if P n = true then 1 else 0) + (cntB R n + (if R n = true then 1 else 0))
    rw [ih]
    by_cases c : P n = true
    · rw [h n (by omega) c, c, Bool.true_or, if_pos rfl, if_neg (by decide)]
      omega
    · rw [show P n = false by simpa using c, Bool.false_or, if_neg (show ¬ (false = true) by decide)]
      omega
theorem cntB_one {R : Nat → Bool} {a : Nat} : ∀ n, cntB (fun j => decide (j = a) && R j) n = if a < n ∧ R a = true then 1 else 0
  | 0 => by rw [if_neg (by omega)]; rfl
  | n + 1 => by
    have ih := cntB_one (R := R) (a := a) n
    show cntB (fun j => decide (j = a) && R j) n + (if (decide (n = a) && R n) = true then 1 else 0) = _
    rw [ih]
    by_cases e : n = a
    · subst e
      rw [if_neg (by omega), decide_eq_true rfl, Bool.true_and, Nat.zero_add]
      by_cases c : R n = true
      · rw [if_pos c, if_pos ⟨by omega, c⟩]
      · rw [if_neg c, if_neg (fun h => c h.2)]
    · rw [decide_eq_false e, Bool.false_and, if_neg (show ¬ (false = true) by decide), Nat.add_zero]
      by_cases c : a < n ∧ R a = true
      · rw [if_pos c, if_pos ⟨by omega, c.2⟩]
      · rw [if_neg c, if_neg (fun h => c ⟨by omega, h.2⟩)]
theorem cL_mem {R : Nat → Bool} : ∀ {ps : List Nat}, ps.Nodup → (∀ q ∈ ps, q < 40) → cL R ps = cntB (fun j => decide (j ∈ ps) && R j) 40
  | [], _, _ => by
    show 0 = _
    rw [cntB_congr (P := fun j => decide (j ∈ ([] : List Nat)) && R j) (R := fun _ => false) 40 (fun j _ => by simp)]
    decide
  | a :: l, h, h40 => by
    obtain ⟨h1, h2⟩ := List.nodup_cons.mp h
    have ih := cL_mem (R := R) h2 fun q hq => h40 q (List.mem_cons_of_mem _ hq)
    have e : cntB (fun j => decide (j ∈ a :: l) && R j) 40 = cntB (fun j => (decide (j = a) && R j) || (decide (j ∈ l) && R j)) 40 := cntB_congr 40 fun j _ => by
      rw [Bool.eq_iff_iff]
      simp only [Bool.and_eq_true, Bool.or_eq_true, decide_eq_true_eq, List.mem_cons]
      constructor
      · rintro ⟨h1 | h1, h2⟩
        · exact Or.inl ⟨h1, h2⟩
        · exact Or.inr ⟨h1, h2⟩
      · rintro (⟨h1, h2⟩ | ⟨h1, h2⟩)
        · exact ⟨Or.inl h1, h2⟩
        · exact ⟨Or.inr h1, h2⟩
    rw [e, cntB_or 40 (fun j _ c => by
      simp only [Bool.and_eq_true, decide_eq_true_eq] at c
      rw [c.1, decide_eq_false h1, Bool.false_and]), cntB_one, ← ih]
    show (if R a then 1 else 0) + cL R l = _
    have := h40 a List.mem_cons_self
    by_cases c : R a = true
    · rw [if_pos c, if_pos ⟨this, c⟩]
    · rw [if_neg c, if_neg (fun h => c h.2)]
def tF (I I' : Nat → Nat → Int32) : Prop := (∀ c, c < 82 ∨ c = 84 ∨ c = 85 ∨ c = 87 ∨ c = 88 ∨ 95 < c → I' c = I c) ∧ ∀ i, i ≠ 9 → I' 82 i = I 82 i
def thV (D : Nat → Int32) (ps : List Nat) (w : Nat) : Int32 :=
  if w = 0 then nI (ps.getD 0 0) else if w = 1 then nI (cL (fun q => decide (D q ≠ 0)) ps) else if w = 2 then nI (glD D (frW D ps)).length else 3000 + sumD D (frW D ps)
section T61
variable {d L : Nat} {I : Nat → Nat → Int32} {J : Nat → Nat → Int64} {p : Nat → Nat} {Q : Option Value → am_M → Prop} {s : Sta} {rn : Bool} {D : Nat → Int32}
theorem tn_snoc {ps : List Nat} {i : Nat} (hi : i < ps.length) (h40 : ps.getD i 0 < 40) (x : Nat) : uD (tnD D (ps.take i)) (160 + ps.getD i 0) (nI 30) x = tnD D (ps.take (i + 1)) x := by
  have e : ps.take (i + 1) = ps.take i ++ [ps.getD i 0] := by
    rw [List.take_succ_eq_append_getElem hi]
    simp [List.getD_eq_getElem?_getD, hi]
  unfold tnD
  rw [e]
  by_cases c : x = 160 + ps.getD i 0
  · subst c
    rw [uD_at, if_pos ⟨by omega, by omega, List.mem_append.mpr (Or.inr (List.mem_singleton.mpr (by omega)))⟩]
  · rw [uD_ne c]
    by_cases c2 : 160 ≤ x ∧ x < 200 ∧ x - 160 ∈ ps.take i
    · rw [if_pos c2, if_pos ⟨c2.1, c2.2.1, List.mem_append.mpr (Or.inl c2.2.2)⟩]
    · rw [if_neg c2, if_neg]
      rintro ⟨h1, h2, h3⟩
      rcases List.mem_append.mp h3 with h3 | h3
      · exact c2 ⟨h1, h2, h3⟩
      · rw [List.mem_singleton] at h3
        omega
theorem lp_then {ps : List Nat} {w : Nat} (hw : wfD D) (h40 : ∀ q ∈ ps, q < 40) (hl : ps.length ≤ 12) (h88 : rw88 I ps) (k : ∀ I', rowM I' (tnD D ps) → fr1 83 I I' → E me_X8_then d L 71 [some (.ref 82), some (.int (nI ps.length)), some (.int (nI w)), some (.int (nI (cL (fun q => decide (D q ≠ 0)) ps))), some (.int (nI ps.length))] [] I' J p Q) : ∀ (n i : Nat) (I1 : Nat → Nat → Int32), i + n = ps.length → rowM I1 (tnD D (ps.take i)) → fr1 83 I I1 → E me_X8_then d L 16 [some (.ref 82), some (.int (nI ps.length)), some (.int (nI w)), some (.int (nI (cL (fun q => decide (D q ≠ 0)) (ps.take i)))), some (.int (nI i))] [] I1 J p Q
  | 0, i, I1, hi, h1, h2 => by
    have e : i = ps.length := by omega
    subst e
    rw [List.take_length] at h1 ⊢
    refine ev_iload (pc := 16) dX8_then_16 rfl (ev_iload_n (pc := 18) dX8_then_18 rfl (ev_ncmp_ge (pc := 19) 71 (ps.length) (ps.length) dX8_then_19 (by decide) (rfl) (rfl) (by omega) (by omega) (kf := fun c => absurd c (by omega)) (kt := fun c19 => ?_)))
    exact k I1 h1 h2
  | n + 1, i, I1, hi, h1, h2 => by
    have ih := lp_then hw h40 hl h88 k n (i + 1)
    have hq : ps.getD i 0 < 40 := h40 _ (getD_mem (by omega))
    have e88 : I1 88 i = nI (ps.getD i 0) := by rw [h2 88 (by decide)]; exact h88 i (by omega)
    have eD : I1 83 (ps.getD i 0) = D (ps.getD i 0) := by rw [h1 _ (by omega), tn_lo (by omega)]
    have ec : cL (fun q => decide (D q ≠ 0)) (ps.take (i + 1)) = cL (fun q => decide (D q ≠ 0)) (ps.take i) + if decide (D (ps.getD i 0) ≠ 0) then 1 else 0 := by
      have e : ps.take (i + 1) = ps.take i ++ [ps.getD i 0] := by
        rw [List.take_succ_eq_append_getElem (by omega)]
        simp [List.getD_eq_getElem?_getD, show i < ps.length by omega]
      rw [e, cL_app]
      rfl
    have rest : ∀ v, v = nI (cL (fun q => decide (D q ≠ 0)) (ps.take (i + 1))) → E me_X8_then d L 46 [some (.ref 82), some (.int (nI ps.length)), some (.int (nI w)), some (.int (nI (cL (fun q => decide (D q ≠ 0)) (ps.take i)))), some (.int (nI i))] [.int v] I1 J p Q := by
      intro v hv
      subst hv
      refine ev_istore_n (pc := 46) dX8_then_46 rfl (ev_aload_n (pc := 47) dX8_then_47 rfl (ev_getr (pc := 48) kF_8_7 dX8_then_48 rfl rfl rfl (ev_sipush (pc := 51) (v := (160)) dX8_then_51 sipush_c160 (ev_aload_n (pc := 54) dX8_then_54 rfl (ev_getr (pc := 55) kF_8_25 dX8_then_55 rfl rfl rfl (ev_iload (pc := 58) dX8_then_58 rfl (ev_iald (pc := 60) (i := i) dX8_then_60 rfl (rfl) (by omega) rfl (?_))))))))
      rw [e88]
      refine ev_iadd (pc := 61) dX8_then_61 (ev_bipush (pc := 62) (v := (30)) dX8_then_62 bipush_c30 (ev_iast (pc := 64) (i := 160 + ps.getD i 0) dX8_then_64 rfl rfl (nI_add 160 _) (by omega) rfl (ev_iinc (pc := 65) dX8_then_65 rfl (iinc_1 _) rfl (ev_goto (pc := 68) 16 dX8_then_68 (by decide) (?_)))))
      exact ih _ (by omega) (rowM_eq (rowM_ui h1 _ _) fun x hx => tn_snoc (by omega) hq x) (fr1_ui h2)
    refine ev_iload (pc := 16) dX8_then_16 rfl (ev_iload_n (pc := 18) dX8_then_18 rfl (ev_ncmp_ge (pc := 19) 71 (i) (ps.length) dX8_then_19 (by decide) (rfl) (rfl) (by omega) (by omega) (kt := fun c => absurd c (by omega)) (kf := fun c19 => ev_iload_n (pc := 22) dX8_then_22 rfl (ev_aload_n (pc := 23) dX8_then_23 rfl (ev_getr (pc := 24) kF_8_7 dX8_then_24 rfl rfl rfl (ev_iconst (pc := 27) (v := (0)) dX8_then_27 iconst_c0 (ev_aload_n (pc := 28) dX8_then_28 rfl (ev_getr (pc := 29) kF_8_25 dX8_then_29 rfl rfl rfl (ev_iload (pc := 32) dX8_then_32 rfl (ev_iald (pc := 34) (i := i) dX8_then_34 rfl (rfl) (by omega) rfl (?_)))))))))))
    rw [e88]
    refine ev_iadd (pc := 35) dX8_then_35 (ev_iald (pc := 36) (i := ps.getD i 0) dX8_then_36 rfl (Int32.zero_add _) (by omega) rfl (?_))
    rw [eD]
    by_cases z : D (ps.getD i 0) = 0
    · rw [if_neg (by rw [decide_eq_false (fun q => q z)]; decide)] at ec
      rw [z]
      refine ev_if_le (pc := 37) 44 dX8_then_37 (by decide) (kf := fun c => absurd (by decide) c) (kt := fun c37 => ev_iconst (pc := 44) (v := (0)) dX8_then_44 iconst_c0 (ev_iadd (pc := 45) dX8_then_45 (?_)))
      exact rest _ (by rw [ec]; exact nI_add _ 0)
    · rw [if_pos (decide_eq_true z)] at ec
      have hp : ¬ D (ps.getD i 0) ≤ 0 := by
        rcases (hw.1 _ hq).1 with e | e | e
        · exact absurd e z
        · rw [e]; decide
        · rw [e]; decide
      refine ev_if_le (pc := 37) 44 dX8_then_37 (by decide) (kt := fun c => absurd c (hp)) (kf := fun c37 => ev_iconst (pc := 40) (v := (1)) dX8_then_40 iconst_c1 (ev_goto (pc := 41) 45 dX8_then_41 (by decide) (ev_iadd (pc := 45) dX8_then_45 (?_))))
      exact rest _ (by rw [ec]; exact nI_1 _)
theorem m_then (hd : 7 ≤ d) (hr : rowM I D) (hw : wfD D) {ps : List Nat} {w : Nat} (hw4 : w < 4) (h1 : 1 ≤ ps.length) (hl : ps.length ≤ 12) (h40 : ∀ q ∈ ps, q < 40) (h88 : rw88 I ps) (k : ∀ I', rowM I' D → tF I I' → Q (some (.int (thV D ps w))) (I', J, KR p)) : T d me_X8_then [.ref 82, .int (nI ps.length), .int (nI w)] L I J p Q := by
  refine am_enter [some (.ref 82), some (.int (nI ps.length)), some (.int (nI w)), none, none] rfl rfl rfl rfl ?_
  refine ev_aload_n (pc := 0) dX8_then_0 rfl (ev_getr (pc := 1) kF_8_7 dX8_then_1 rfl rfl rfl (ev_aload_n (pc := 4) dX8_then_4 rfl (ev_getr (pc := 5) kF_8_19 dX8_then_5 rfl rfl rfl (ev_invS (pc := 8) kS_8_135 dX8_then_8 rfl (by omega) rfl ?_))))
  refine m_copies_83_86 fun I1 c1 c2 => ?_
  have r1 : rowM I1 D := rowM_of hr (c2 83 (by decide))
  refine ev_iconst (pc := 11) (v := (0)) dX8_then_11 iconst_c0 (ev_istore_n (pc := 12) dX8_then_12 rfl (ev_iconst (pc := 13) (v := (0)) dX8_then_13 iconst_c0 (ev_istore (pc := 14) dX8_then_14 rfl (?_))))
  refine lp_then hw h40 hl (fun j hj => by rw [c2 88 (by decide)]; exact h88 j hj) (fun I2 r2 f2 => ?_) ps.length 0 I1 (by omega) (rowM_eq r1 fun x hx => (if_neg (fun h => by have := h.2.2; simp at this)).symm) (fr1_rf _)
  refine ev_aload_n (pc := 71) dX8_then_71 rfl (ev_invV (pc := 72) kV_8_126 dX8_then_72 rfl rfl rfl (by omega) rfl ?_)
  refine m_guessAll (by omega) r2 (tn_wf (wfG_of hw)) fun I3 hA hO hF => ?_
  refine ev_aload_n (pc := 75) dX8_then_75 rfl (ev_getr (pc := 76) kF_8_19 dX8_then_76 rfl rfl rfl (ev_aload_n (pc := 79) dX8_then_79 rfl (ev_getr (pc := 80) kF_8_7 dX8_then_80 rfl rfl rfl (ev_invS (pc := 83) kS_8_135 dX8_then_83 rfl (by omega) rfl ?_))))
  refine m_copies_86_83 fun I4 c3 c4 => ?_
  have r4 : rowM I4 D := fun i hi => by
    rw [c3 i hi, hF.1 86 (by omega), f2 86 (by decide), c1 i hi]
    exact hr i hi
  have t4 : tF I I4 := by
    refine ⟨fun c hc => ?_, fun i hi => ?_⟩
    · rw [c4 c (by omega), hF.1 c (by omega), f2 c (by omega), c2 c (by omega)]
    · rw [c4 82 (by omega), hF.2 i hi, f2 82 (by omega), c2 82 (by omega)]
  have hA4 : gaA (tnD D ps) I4 (flD (tnD D ps)) := by
    refine ⟨by rw [c4 82 (by decide)]; exact hA.1, fun k hk => ?_⟩
    obtain ⟨b1, b2, b3, b4, b5⟩ := hA.2 k hk
    exact ⟨by rw [c4 89 (by decide)]; exact b1, gu_y b2 (c4 90 (by decide)) (c4 94 (by decide)), by rw [c4 91 (by decide)]; exact b3, by rw [c4 92 (by decide)]; exact b4, by rw [c4 93 (by decide)]; exact b5⟩
  have kk := k I4 r4 t4
  unfold thV at kk
  obtain rfl | rfl | rfl | rfl : w = 0 ∨ w = 1 ∨ w = 2 ∨ w = 3 := by omega
  · refine ev_iload_n (pc := 86) dX8_then_86 rfl (ev_if_ne (pc := 87) 99 dX8_then_87 (by decide) (kt := fun c => absurd (rfl) c) (kf := fun c87 => ev_aload_n (pc := 90) dX8_then_90 rfl (ev_getr (pc := 91) kF_8_25 dX8_then_91 rfl rfl rfl (ev_iconst (pc := 94) (v := (0)) dX8_then_94 iconst_c0 (ev_iald (pc := 95) (i := 0) dX8_then_95 rfl (rfl) (by omega) rfl (?_))))))
    rw [show I4 88 0 = nI (ps.getD 0 0) by rw [t4.1 88 (by omega)]; exact h88 0 (by omega)]
    refine ev_goto (pc := 96) 128 dX8_then_96 (by decide) (ev_iret (pc := 128) dX8_then_128 rfl ?_)
    exact kk
  · refine ev_iload_n (pc := 86) dX8_then_86 rfl (ev_if_ne (pc := 87) 99 dX8_then_87 (by decide) (kf := fun c => absurd c (by decide)) (kt := fun c87 => ev_iload_n (pc := 99) dX8_then_99 rfl (ev_iconst (pc := 100) (v := (1)) dX8_then_100 iconst_c1 (ev_ncmp_ne (pc := 101) 108 (1) (1) dX8_then_101 (by decide) (rfl) (rfl) (by omega) (by omega) (kt := fun c => absurd c (by omega)) (kf := fun c101 => ev_iload_n (pc := 104) dX8_then_104 rfl (ev_goto (pc := 105) 128 dX8_then_105 (by decide) (ev_iret (pc := 128) dX8_then_128 rfl ?_)))))))
    exact kk
  · refine ev_iload_n (pc := 86) dX8_then_86 rfl (ev_if_ne (pc := 87) 99 dX8_then_87 (by decide) (kf := fun c => absurd c (by decide)) (kt := fun c87 => ev_iload_n (pc := 99) dX8_then_99 rfl (ev_iconst (pc := 100) (v := (1)) dX8_then_100 iconst_c1 (ev_ncmp_ne (pc := 101) 108 (2) (1) dX8_then_101 (by decide) (rfl) (rfl) (by omega) (by omega) (kf := fun c => absurd c (by omega)) (kt := fun c101 => ev_iload_n (pc := 108) dX8_then_108 rfl (ev_iconst (pc := 109) (v := (2)) dX8_then_109 iconst_c2 (ev_ncmp_ne (pc := 110) 120 (2) (2) dX8_then_110 (by decide) (rfl) (rfl) (by omega) (by omega) (kt := fun c => absurd c (by omega)) (kf := fun c110 => ev_aload_n (pc := 113) dX8_then_113 rfl (ev_geti (pc := 114) kF_8_110 dX8_then_114 rfl rfl (?_))))))))))
    rw [hA4.1, fg_len, tn_gl]
    refine ev_goto (pc := 117) 128 dX8_then_117 (by decide) (ev_iret (pc := 128) dX8_then_128 rfl ?_)
    exact kk
  · refine ev_iload_n (pc := 86) dX8_then_86 rfl (ev_if_ne (pc := 87) 99 dX8_then_87 (by decide) (kf := fun c => absurd c (by decide)) (kt := fun c87 => ev_iload_n (pc := 99) dX8_then_99 rfl (ev_iconst (pc := 100) (v := (1)) dX8_then_100 iconst_c1 (ev_ncmp_ne (pc := 101) 108 (3) (1) dX8_then_101 (by decide) (rfl) (rfl) (by omega) (by omega) (kf := fun c => absurd c (by omega)) (kt := fun c101 => ev_iload_n (pc := 108) dX8_then_108 rfl (ev_iconst (pc := 109) (v := (2)) dX8_then_109 iconst_c2 (ev_ncmp_ne (pc := 110) 120 (3) (2) dX8_then_110 (by decide) (rfl) (rfl) (by omega) (by omega) (kf := fun c => absurd c (by omega)) (kt := fun c110 => ev_sipush (pc := 120) (v := (3000)) dX8_then_120 sipush_c3000 (ev_aload_n (pc := 123) dX8_then_123 rfl (ev_invV (pc := 124) kV_8_139 dX8_then_124 rfl rfl rfl (by omega) rfl ?_))))))))))
    refine m_sum hA4 ?_
    rw [tn_sum]
    refine ev_iadd (pc := 127) dX8_then_127 (ev_iret (pc := 128) dX8_then_128 rfl ?_)
    exact kk
end T61
