/-! ===== wipeAll, undo, the text; what is told of files, pages, the journal ===== -/
theorem nI_less {a b : Nat} (h : b ≤ a) : nI a - nI b = nI (a - b) := by
  obtain ⟨k, rfl⟩ : ∃ k, a = k + b := ⟨a - b, by omega⟩
  rw [← nI_add, Int32.add_sub_cancel, show k + b - b = k by omega]
def nxD (D : Nat → Int32) (q : Int32) : Int32 := (ix 40 q).elim (-1) fun j => D (120 + j)
def fdD (v : Int32) : Int32 := if v = -1 then -1000004 else v
def fileV (D : Nat → Int32) (n w : Nat) : Int32 :=
  if w = 0 then D (40 + (D (200 + n)).toNatClampNeg)
  else if w = 1 then D (80 + (D (200 + n)).toNatClampNeg)
  else if w = 2 then D (200 + n)
  else if w = 3 then itr (nxD D) (lnD D (D (200 + n)).toNatClampNeg - 1) (D (200 + n))
  else if w = 4 then bI (strF (nxD D) 11 (D (200 + n)))
  else fdD (itr (nxD D) (w - 10) (D (200 + n)))
def oFile (s : Sta) (a b : Int32) : Int32 :=
  if inR 0 29 a && (inR 0 4 b || inR 10 21 b) then (if s.1 (200 + a.toNatClampNeg) = -1 then -1000004 else fileV s.1 a.toNatClampNeg b.toNatClampNeg) else -1000001
theorem nxf_eq {I : Nat → Nat → Int32} {D : Nat → Int32} (h : Rep I 2 D) : nxf I = nxD D := by
  funext q
  unfold nxf nxD
  by_cases c : 0 ≤ q ∧ q < nI 40
  · obtain ⟨j, hj, rfl⟩ := ix_in (n := 40) (by decide) (Int32.not_lt.mpr c.1) (Int32.not_le.mpr c.2)
    rw [ix_n hj (by decide)]
    exact rp_n h hj
  · rw [show ix 40 q = none from if_neg c]
    rfl
theorem mkF_eq {I : Nat → Nat → Int32} {D : Nat → Int32} (h : Rep I 2 D) : cntB (fun j => bl (mkS (frP I) 40) j && decide (I 3 j ≠ 0)) 40 = cntB (mkF D) 40 := cntB_congr 40 fun j hj => by
  rw [fs_bl h j (by omega), decide_eq_true hj, Bool.true_and]
  unfold mkF
  rw [rp_m h hj]
section T36
variable {d L : Nat} {I : Nat → Nat → Int32} {J : Nat → Nat → Int64} {p : Nat → Nat} {Q : Option Value → am_M → Prop} {s : Sta}
theorem lp_wipeAll (hd : 2 ≤ d) {D : Nat → Int32} {m : Int32} (I1 : Nat → Nat → Int32) (k : ∀ I2, Rep I2 2 (waD D 40) → ofr I1 I2 → E me_X7_wipeAll d L 59 [some (.ref 1), some (.int m), some (.int (nI 40))] [] I2 J p Q) : ∀ (n i : Nat) (I2 : Nat → Nat → Int32), i + n = 40 → Rep I2 2 (waD D i) → ofr I1 I2 → E me_X7_wipeAll d L 28 [some (.ref 1), some (.int m), some (.int (nI i))] [] I2 J p Q
  | 0, i, I2, hi, hr, ho => by
    have e : i = 40 := by omega
    subst e
    refine ev_iload_n (pc := 28) dX7_wipeAll_28 rfl (ev_bipush (pc := 29) (v := (40)) dX7_wipeAll_29 bipush_c40 (ev_ncmp_ge (pc := 31) 59 (40) (40) dX7_wipeAll_31 (by decide) (rfl) (rfl) (by omega) (by omega) (kf := fun c => absurd c (by omega)) (kt := fun c31 => ?_)))
    exact k I2 hr ho
  | n + 1, i, I2, hi, hr, ho => by
    refine ev_iload_n (pc := 28) dX7_wipeAll_28 rfl (ev_bipush (pc := 29) (v := (40)) dX7_wipeAll_29 bipush_c40 (ev_ncmp_ge (pc := 31) 59 (i) (40) dX7_wipeAll_31 (by decide) (rfl) (rfl) (by omega) (by omega) (kt := fun c => absurd c (by omega)) (kf := fun c31 => ev_aload_n (pc := 34) dX7_wipeAll_34 rfl (ev_getr (pc := 35) kF_7_10 dX7_wipeAll_35 rfl rfl rfl (ev_iload_n (pc := 38) dX7_wipeAll_38 rfl (ev_invV (pc := 39) kV_7_88 dX7_wipeAll_39 rfl rfl rfl (by omega) rfl ?_))))))
    refine t_isFree_n (by omega) ?_
    rw [rp_fr hr i (by omega), wa_fD (by omega)]
    cases q : fD D i
    · refine ev_ifb_eq (pc := 42) 53 dX7_wipeAll_42 (by decide) (kf := fun c => absurd c (by simp)) (kt := fun c42 => ev_iinc (pc := 53) dX7_wipeAll_53 rfl (iinc_1 _) rfl (ev_goto (pc := 56) 28 dX7_wipeAll_56 (by decide) (?_)))
      refine lp_wipeAll hd I1 k n (i + 1) _ (by omega) ?_ ho
      simp only [waD]
      rw [q, if_neg (by decide)]
      exact hr
    · refine ev_ifb_eq (pc := 42) 53 dX7_wipeAll_42 (by decide) (kt := fun c => absurd c (by simp)) (kf := fun c42 => ev_aload_n (pc := 45) dX7_wipeAll_45 rfl (ev_getr (pc := 46) kF_7_10 dX7_wipeAll_46 rfl rfl rfl (ev_iload_n (pc := 49) dX7_wipeAll_49 rfl (ev_invV (pc := 50) kV_7_91 dX7_wipeAll_50 rfl rfl rfl (by omega) rfl ?_))))
      refine t_blank (by omega) (by omega) ?_
      refine ev_iinc (pc := 53) dX7_wipeAll_53 rfl (iinc_1 _) rfl (ev_goto (pc := 56) 28 dX7_wipeAll_56 (by decide) (?_))
      refine lp_wipeAll hd I1 k n (i + 1) _ (by omega) ?_ (ofr_ui (ofr_ui (ofr_ui ho (by omega)) (by omega)) (by omega))
      simp only [waD]
      rw [q, if_pos rfl]
      exact Rep_blank (by omega) hr
theorem c_wipeAll (hd : 6 ≤ d) (hc : Cls I p s) (hw : Wst s) (k : ∀ I' J' p', Cls I' p' (oWipeAll s).2 → cfr I I' → Q (some (.int (oWipeAll s).1)) (I', J', KR p')) : T d me_X7_wipeAll [.ref 1] L I J p Q := by
  refine am_enter [some (.ref 1), none, none] rfl rfl rfl rfl ?_
  refine ev_aload_n (pc := 0) dX7_wipeAll_0 rfl (ev_getr (pc := 1) kF_7_10 dX7_wipeAll_1 rfl rfl rfl (ev_aload_n (pc := 4) dX7_wipeAll_4 rfl (ev_getr (pc := 5) kF_7_10 dX7_wipeAll_5 rfl rfl rfl (ev_invV (pc := 8) kV_7_80 dX7_wipeAll_8 rfl rfl rfl (by omega) rfl ?_))))
  refine t_X0_freeSet ?_
  refine ev_invV (pc := 11) kV_7_84 dX7_wipeAll_11 rfl rfl rfl (by omega) rfl ?_
  refine t_X0_markedPages _ ?_
  rw [mkF_eq hc.2.1]
  refine ev_istore_n (pc := 14) dX7_wipeAll_14 rfl (ev_aload_n (pc := 15) dX7_wipeAll_15 rfl (ev_getr (pc := 16) kF_7_26 dX7_wipeAll_16 rfl rfl rfl (ev_aload_n (pc := 19) dX7_wipeAll_19 rfl (ev_getr (pc := 20) kF_7_10 dX7_wipeAll_20 rfl rfl rfl (ev_invV (pc := 23) kV_7_59 dX7_wipeAll_23 rfl rfl rfl (by omega) rfl ?_)))))
  refine t_draft (by omega) hc.1 hc.2.2.1 hw.2.1 fun I1 h1 => ?_
  obtain ⟨m1, m2⟩ := Mid_of hc hw.2.1 h1
  refine ev_iconst (pc := 26) (v := (0)) dX7_wipeAll_26 iconst_c0 (ev_istore_n (pc := 27) dX7_wipeAll_27 rfl (?_))
  refine lp_wipeAll (D := s.1) (by omega) I1 (fun I2 r2 o2 => ?_) 40 0 _ (by omega) m1.1.2.1 (ofr_rf _)
  refine ev_aload_n (pc := 59) dX7_wipeAll_59 rfl (ev_getr (pc := 60) kF_7_10 dX7_wipeAll_60 rfl rfl rfl (ev_getr (pc := 63) kF_7_95 dX7_wipeAll_63 rfl rfl rfl (ev_invV (pc := 66) kV_7_99 dX7_wipeAll_66 rfl rfl rfl (by omega) rfl ?_)))
  refine t_jempty ?_
  refine ev_aload_n (pc := 69) dX7_wipeAll_69 rfl (ev_iload_n (pc := 70) dX7_wipeAll_70 rfl (ev_invV (pc := 71) kV_7_67 dX7_wipeAll_71 rfl rfl rfl (by omega) rfl ?_))
  refine settle (r := waS s.1) (by omega) hc hw.2.1 h1 (ofr_ui o2 (by omega)) (Rep_0 r2) (fun e => ?_) fun I' p' h2 h3 => ?_
  · have := cntB_le (mkF s.1) 40
    exact (nI_le40 (by omega) e).elim
  refine ev_iret (pc := 74) dX7_wipeAll_74 rfl ?_
  exact k I' J p' h2 h3
theorem c_undo (hd : 5 ≤ d) (hc : Cls I p s) (hw : Wst s) (k : ∀ I' J' p', Cls I' p' (oUndo s).2 → cfr I I' → Q (some (.int (oUndo s).1)) (I', J', KR p')) : T d me_X7_undo [.ref 1] L I J p Q := by
  refine am_enter [some (.ref 1)] rfl rfl rfl rfl ?_
  unfold oUndo at k
  obtain ⟨z1, z2, z3, z4, z5, z6⟩ := hc
  have w2 := hw.2.1
  refine ev_aload_n (pc := 0) dX7_undo_0 rfl (ev_getr (pc := 1) kF_7_26 dX7_undo_1 rfl rfl rfl (ev_geti (pc := 4) kF_7_238 dX7_undo_4 rfl rfl (?_)))
  rw [z3]
  by_cases q : s.2.1 = 0
  · rw [if_pos q] at k
    rw [q]
    refine ev_if_ne (pc := 7) 13 dX7_undo_7 (by decide) (kt := fun c => absurd (by decide) c) (kf := fun c7 => ev_ldc (pc := 10) kC_7_242 dX7_undo_10 (ev_iret (pc := 12) dX7_undo_12 rfl ?_))
    exact k I J p ⟨z1, z2, z3, z4, z5, z6⟩ (cfr_rf I)
  · rw [if_neg q] at k
    refine ev_if_ne (pc := 7) 13 dX7_undo_7 (by decide) (kf := fun c => absurd c (nI_ne0 (by omega) (by omega))) (kt := fun c7 => ev_aload_n (pc := 13) dX7_undo_13 rfl (ev_getr (pc := 14) kF_7_26 dX7_undo_14 rfl rfl rfl (ev_aload_n (pc := 17) dX7_undo_17 rfl (ev_getr (pc := 18) kF_7_10 dX7_undo_18 rfl rfl rfl (ev_invV (pc := 21) kV_7_243 dX7_undo_21 rfl rfl rfl (by omega) rfl ?_)))))
    have en : s.2.1 - 1 + 1 = s.2.1 := by omega
    refine t_takeBack (n := s.2.1 - 1) (by omega) z1 (by rw [z3, en]) (by omega) fun I' h1 => ?_
    refine ev_aload_n (pc := 24) dX7_undo_24 rfl (ev_getr (pc := 25) kF_7_26 dX7_undo_25 rfl rfl rfl (ev_geti (pc := 28) kF_7_238 dX7_undo_28 rfl rfl (ev_iret (pc := 31) dX7_undo_31 rfl ?_)))
    have g : ∀ c, c ≠ 21 → ui I 21 1 (nI (s.2.1 - 1)) c = I c := fun c h1 => by
      funext y
      simp only [ui]
      rw [if_neg (by omega)]
    have e21 : I' 21 1 = nI (s.2.1 - 1) := by rw [h1.2.2.2 21 (by omega)]; simp [ui]
    rw [e21]
    have rg : ∀ {i : Nat} {D : Nat → Int32}, i < 5 → Rep I (p i) D → Rep (ui I 21 1 (nI (s.2.1 - 1))) (p i) D := fun {i D} hi h => by
      have := z1.rng hi
      exact Rep_frame h fun c h1 h2 => g c (by omega)
    refine k I' J p ⟨z1, Rep_cop h1 (rg (by omega) (z4 (s.2.1 - 1) (by omega))), e21, fun i hi => ?_, by rw [h1.2.2.2 78 (by omega), g 78 (by omega)]; exact z5, fun i hi => by rw [h1.2.2.2 79 (by omega), g 79 (by omega)]; exact z6 i hi⟩ (fun a ha => by rw [h1.2.2.2 a (by omega), g a (by omega)])
    dsimp only at hi ⊢
    have := z1.rng (i := i) (by omega)
    exact Rep_away h1 (rg (by omega) (z4 i (by omega))) (by omega)
theorem c_type (hd : 3 ≤ d) (hc : Cls I p s) (hw : Wst s) (a : Int32) (k : ∀ I' J' p', Cls I' p' (oType s a).2 → cfr I I' → Q (some (.int (oType s a).1)) (I', J', KR p')) : T d me_X7_type [.ref 1, .int a] L I J p Q := by
  refine am_enter [some (.ref 1), some (.int a)] rfl rfl rfl rfl ?_
  unfold oType at k
  have w4 := hw.2.2.2.1
  refine ev_iload_n (pc := 0) dX7_type_0 rfl (ev_bipush (pc := 1) (v := (32)) dX7_type_1 bipush_c32 (ev_bipush (pc := 3) (v := (126)) dX7_type_3 bipush_c126 (ev_invS (pc := 5) kS_7_48 dX7_type_5 rfl (by omega) rfl ?_)))
  refine t_within 32 126 a ?_
  cases q1 : inR 32 126 a
  · rw [q1, if_neg (by decide)] at k
    refine ev_ifb_ne (pc := 8) 14 dX7_type_8 (by decide) (kt := fun c => absurd c (by simp)) (kf := fun c8 => ev_ldc (pc := 11) kC_7_58 dX7_type_11 (ev_iret (pc := 13) dX7_type_13 rfl ?_))
    exact k I J p hc (cfr_rf I)
  rw [q1, if_pos rfl] at k
  obtain ⟨z1, z2, z3, z4, z5, z6⟩ := hc
  refine ev_ifb_ne (pc := 8) 14 dX7_type_8 (by decide) (kf := fun c => absurd c (by simp)) (kt := fun c8 => ev_aload_n (pc := 14) dX7_type_14 rfl (ev_getr (pc := 15) kF_7_33 dX7_type_15 rfl rfl rfl (ev_geti (pc := 18) kF_7_239 dX7_type_18 rfl rfl (ev_bipush (pc := 21) (v := (60)) dX7_type_21 bipush_c60 (ev_ncmp_lt (pc := 23) 29 (s.2.2.2.1) (60) dX7_type_23 (by decide) (z5) (rfl) (by omega) (by omega) (fun c23 => ?_) (fun c23 => ?_))))))
  · rw [if_pos c23] at k
    refine ev_aload_n (pc := 29) dX7_type_29 rfl (ev_getr (pc := 30) kF_7_33 dX7_type_30 rfl rfl rfl (ev_iload_n (pc := 33) dX7_type_33 rfl (ev_invV (pc := 34) kV_7_246 dX7_type_34 rfl rfl rfl (by omega) rfl ?_)))
    refine t_append z5 c23 a ?_
    refine ev_aload_n (pc := 37) dX7_type_37 rfl (ev_getr (pc := 38) kF_7_33 dX7_type_38 rfl rfl rfl (ev_geti (pc := 41) kF_7_239 dX7_type_41 rfl rfl (ev_iret (pc := 44) dX7_type_44 rfl ?_)))
    have g : ∀ c, c ≠ 78 → c ≠ 79 → ui (ui I 79 s.2.2.2.1 a) 78 1 (nI (s.2.2.2.1 + 1)) c = I c := fun c h1 h2 => by
      funext y
      simp only [ui]
      rw [if_neg (by omega), if_neg (by omega)]
    have e1 : ui (ui I 79 s.2.2.2.1 a) 78 1 (nI (s.2.2.2.1 + 1)) 78 1 = nI (s.2.2.2.1 + 1) := by simp [ui]
    rw [e1]
    refine k _ J p ⟨z1, Rep_frame z2 fun c h1 h2 => g c (by omega) (by omega), by rw [g 21 (by omega) (by omega)]; exact z3, fun i hi => ?_, e1, fun i hi => ?_⟩ (fun b hb => g b (by omega) (by omega))
    · have w2 := hw.2.1
      dsimp only at hi ⊢
      have := z1.rng (i := i) (by omega)
      exact Rep_frame (z4 i hi) fun c h1 h2 => g c (by omega) (by omega)
    · dsimp only at hi ⊢
      by_cases c : i = s.2.2.2.1
      · rw [if_pos c, c]
        simp [ui]
      · rw [if_neg c, ← z6 i (by omega)]
        simp [ui, c]
  · rw [if_neg (by omega)] at k
    refine ev_ldc (pc := 26) kC_7_206 dX7_type_26 (ev_iret (pc := 28) dX7_type_28 rfl ?_)
    exact k I J p ⟨z1, z2, z3, z4, z5, z6⟩ (cfr_rf I)
theorem c_clearText (hc : Cls I p s) (hw : Wst s) (k : ∀ I' J' p', Cls I' p' (oClear s).2 → cfr I I' → Q (some (.int (oClear s).1)) (I', J', KR p')) : T d me_X7_clearText [.ref 1] L I J p Q := by
  refine am_enter [some (.ref 1), none] rfl rfl rfl rfl ?_
  unfold oClear at k
  obtain ⟨z1, z2, z3, z4, z5, z6⟩ := hc
  refine ev_aload_n (pc := 0) dX7_clearText_0 rfl (ev_getr (pc := 1) kF_7_33 dX7_clearText_1 rfl rfl rfl (ev_geti (pc := 4) kF_7_239 dX7_clearText_4 rfl rfl (ev_istore_n (pc := 7) dX7_clearText_7 rfl (ev_aload_n (pc := 8) dX7_clearText_8 rfl (ev_getr (pc := 9) kF_7_33 dX7_clearText_9 rfl rfl rfl (ev_iconst (pc := 12) (v := (0)) dX7_clearText_12 iconst_c0 (ev_puti (pc := 13) kF_7_239 dX7_clearText_13 rfl rfl rfl rfl rfl (ev_iload_n (pc := 16) dX7_clearText_16 rfl (ev_iret (pc := 17) dX7_clearText_17 rfl ?_)))))))))
  have g : ∀ c, c ≠ 78 → ui I 78 1 0 c = I c := fun c h1 => by
    funext y
    simp only [ui]
    rw [if_neg (by omega)]
  rw [z5]
  refine k _ J p ⟨z1, Rep_frame z2 fun c h1 h2 => g c (by omega), by rw [g 21 (by omega)]; exact z3, fun i hi => ?_, by simp [ui]; rfl, fun i hi => absurd hi (Nat.not_lt_zero _)⟩ (fun b hb => g b (by omega))
  have w2 := hw.2.1
  dsimp only at hi ⊢
  have := z1.rng (i := i) (by omega)
  exact Rep_frame (z4 i hi) fun c h1 h2 => g c (by omega)
theorem c_fileOf (hd : 3 ≤ d) (hc : Cls I p s) (hw : Wst s) (a b : Int32) (k : Q (some (.int (oFile s a b))) (I, J, KR p)) : T d me_X7_fileOf [.ref 1, .int a, .int b] L I J p Q := by
  refine am_enter [some (.ref 1), some (.int a), some (.int b), none, none] rfl rfl rfl rfl ?_
  unfold oFile at k
  have h := hc.2.1
  refine ev_iload_n (pc := 0) dX7_fileOf_0 rfl (ev_invS (pc := 1) kS_7_44 dX7_fileOf_1 rfl (by omega) rfl ?_)
  refine t_isName (by omega) a ?_
  cases q1 : inR 0 29 a
  · rw [q1, Bool.false_and, if_neg (by decide)] at k
    refine ev_ifb_eq (pc := 4) 23 dX7_fileOf_4 (by decide) (kf := fun c => absurd c (by simp)) (kt := fun c4 => ev_ldc (pc := 23) kC_7_58 dX7_fileOf_23 (ev_iret (pc := 25) dX7_fileOf_25 rfl ?_))
    exact k
  rw [q1, Bool.true_and] at k
  obtain ⟨n, n1, n2, rfl⟩ := inR_n (by omega) (by omega) q1
  rw [nI_clamp (by omega)] at k
  have join : ∀ w, w < 22 → (w ≤ 4 ∨ 10 ≤ w) → b = nI w → Q (some (.int (if s.1 (200 + n) = -1 then -1000004 else fileV s.1 n w))) (I, J, KR p) → E me_X7_fileOf d L 26 [some (.ref 1), some (.int (nI n)), some (.int b), none, none] [] I J p Q := by
    intro w hw1 hw2 eb kk
    subst eb
    refine ev_aload_n (pc := 26) dX7_fileOf_26 rfl (ev_getr (pc := 27) kF_7_10 dX7_fileOf_27 rfl rfl rfl (ev_iload_n (pc := 30) dX7_fileOf_30 rfl (ev_invV (pc := 31) kV_7_107 dX7_fileOf_31 rfl rfl rfl (by omega) rfl ?_)))
    refine t_hasFile_n (by omega) ?_
    rw [rp_f h (by omega)]
    by_cases cc : s.1 (200 + n) = -1
    · rw [if_pos cc] at kk
      refine ev_ifb_ne (pc := 34) 40 dX7_fileOf_34 (by decide) (kt := fun c => absurd c (by simp [cc])) (kf := fun c34 => ev_ldc (pc := 37) kC_7_110 dX7_fileOf_37 (ev_iret (pc := 39) dX7_fileOf_39 rfl ?_))
      exact kk
    rw [if_neg cc] at kk
    obtain ⟨f, st, l, f1, f2, f3, f4, f5, f6, f7, f8⟩ := wf_file hw.1 (show n < 30 by omega) cc
    refine ev_ifb_ne (pc := 34) 40 dX7_fileOf_34 (by decide) (kf := fun c => absurd c (by simp [cc])) (kt := fun c34 => ev_aload_n (pc := 40) dX7_fileOf_40 rfl (ev_getr (pc := 41) kF_7_10 dX7_fileOf_41 rfl rfl rfl (ev_iload_n (pc := 44) dX7_fileOf_44 rfl (ev_iconst (pc := 45) (v := (0)) dX7_fileOf_45 iconst_c0 (ev_invV (pc := 46) kV_7_111 dX7_fileOf_46 rfl rfl rfl (by omega) rfl ?_)))))
    refine t_X0_filePage (k := 0) (by omega) (by omega) (by omega) ?_
    simp only [itr]
    rw [rp_f h (by omega), f5]
    refine ev_istore_n (pc := 49) dX7_fileOf_49 rfl (ev_aload_n (pc := 50) dX7_fileOf_50 rfl (ev_getr (pc := 51) kF_7_10 dX7_fileOf_51 rfl rfl rfl (ev_iload_n (pc := 54) dX7_fileOf_54 rfl (ev_invV (pc := 55) kV_7_115 dX7_fileOf_55 rfl rfl rfl (by omega) rfl ?_))))
    refine t_X0_lengthOn _ ?_
    rw [ix_n f1 (by decide)]
    simp only [Option.elim_some]
    rw [rp_m h f1, f6, if_pos rfl, rp_l h f1 f6, f8]
    unfold fileV lnD at kk
    rw [f5, nI_clamp (by omega), f8, f7, nI_clamp (by omega)] at kk
    refine ev_istore (pc := 58) dX7_fileOf_58 rfl (ev_iload_n (pc := 60) dX7_fileOf_60 rfl (?_))
    by_cases w5 : 5 ≤ w
    · rw [if_neg (by omega), if_neg (by omega), if_neg (by omega), if_neg (by omega), if_neg (by omega)] at kk
      refine ev_tabOut (pc := 61) 140 dX7_fileOf_61 (Or.inr (by rw [nI_toInt (by omega)]; omega)) (by decide) ?_
      refine ev_aload_n (pc := 140) dX7_fileOf_140 rfl (ev_getr (pc := 141) kF_7_10 dX7_fileOf_141 rfl rfl rfl (ev_iload_n (pc := 144) dX7_fileOf_144 rfl (ev_iload_n (pc := 145) dX7_fileOf_145 rfl (ev_bipush (pc := 146) (v := (10)) dX7_fileOf_146 bipush_c10 (ev_isub (pc := 148) dX7_fileOf_148 (?_))))))
      rw [show nI w - 10 = nI (w - 10) from nI_less (a := w) (b := 10) (by omega)]
      refine ev_invV (pc := 149) kV_7_111 dX7_fileOf_149 rfl rfl rfl (by omega) rfl ?_
      refine t_X0_filePage (by omega) (by omega) (by omega) ?_
      rw [rp_f h (by omega), f5, nxf_eq h]
      refine ev_invS (pc := 152) kS_7_124 dX7_fileOf_152 rfl (by omega) rfl ?_
      refine t_found _ ?_
      refine ev_iret (pc := 155) dX7_fileOf_155 rfl ?_
      exact kk
    · obtain rfl | rfl | rfl | rfl | rfl : w = 0 ∨ w = 1 ∨ w = 2 ∨ w = 3 ∨ w = 4 := by omega
      · refine ev_tabIn (pc := 61) (off := 35) 96 dX7_fileOf_61 (by decide) (by decide) (by decide) (by decide) ?_
        refine ev_aload_n (pc := 96) dX7_fileOf_96 rfl (ev_getr (pc := 97) kF_7_10 dX7_fileOf_97 rfl rfl rfl (ev_iload_n (pc := 100) dX7_fileOf_100 rfl (ev_invV (pc := 101) kV_7_118 dX7_fileOf_101 rfl rfl rfl (by omega) rfl ?_)))
        refine t_X0_styleOn _ ?_
        rw [ix_n f1 (by decide)]
        simp only [Option.elim_some]
        rw [rp_m h f1, f6, if_neg (by decide), rp_s h f1 (by rw [f6]; decide), f7]
        refine ev_iret (pc := 104) dX7_fileOf_104 rfl ?_
        exact kk
      · refine ev_tabIn (pc := 61) (off := 44) 105 dX7_fileOf_61 (by decide) (by decide) (by decide) (by decide) ?_
        refine ev_iload (pc := 105) dX7_fileOf_105 rfl (ev_iret (pc := 107) dX7_fileOf_107 rfl ?_)
        exact kk
      · refine ev_tabIn (pc := 61) (off := 47) 108 dX7_fileOf_61 (by decide) (by decide) (by decide) (by decide) ?_
        refine ev_iload_n (pc := 108) dX7_fileOf_108 rfl (ev_iret (pc := 109) dX7_fileOf_109 rfl ?_)
        exact kk
      · refine ev_tabIn (pc := 61) (off := 49) 110 dX7_fileOf_61 (by decide) (by decide) (by decide) (by decide) ?_
        refine ev_aload_n (pc := 110) dX7_fileOf_110 rfl (ev_getr (pc := 111) kF_7_10 dX7_fileOf_111 rfl rfl rfl (ev_iload_n (pc := 114) dX7_fileOf_114 rfl (ev_iload (pc := 115) dX7_fileOf_115 rfl (ev_iconst (pc := 117) (v := (1)) dX7_fileOf_117 iconst_c1 (ev_isub (pc := 118) dX7_fileOf_118 (?_))))))
        rw [show nI l - 1 = nI (l - 1) from nI_less (a := l) (b := 1) (by omega)]
        refine ev_invV (pc := 119) kV_7_111 dX7_fileOf_119 rfl rfl rfl (by omega) rfl ?_
        refine t_X0_filePage (by omega) (by omega) (by omega) ?_
        rw [rp_f h (by omega), f5, nxf_eq h]
        refine ev_iret (pc := 122) dX7_fileOf_122 rfl ?_
        exact kk
      · refine ev_tabIn (pc := 61) (off := 62) 123 dX7_fileOf_61 (by decide) (by decide) (by decide) (by decide) ?_
        refine ev_aload_n (pc := 123) dX7_fileOf_123 rfl (ev_getr (pc := 124) kF_7_10 dX7_fileOf_124 rfl rfl rfl (ev_iload_n (pc := 127) dX7_fileOf_127 rfl (ev_invV (pc := 128) kV_7_121 dX7_fileOf_128 rfl rfl rfl (by omega) rfl ?_)))
        refine t_X0_isStraight (by omega) _ ?_
        rw [nxf_eq h]
        simp only [show ¬ (4 : Nat) = 0 by omega, show ¬ (4 : Nat) = 1 by omega, show ¬ (4 : Nat) = 2 by omega, show ¬ (4 : Nat) = 3 by omega, if_false, if_true] at kk
        cases q : strF (nxD s.1) 11 (nI f)
        · rw [q] at kk
          refine ev_ifb_eq (pc := 131) 138 dX7_fileOf_131 (by decide) (kf := fun c => absurd c (by simp)) (kt := fun c131 => ev_iconst (pc := 138) (v := (0)) dX7_fileOf_138 iconst_c0 (ev_iret (pc := 139) dX7_fileOf_139 rfl ?_))
          exact kk
        · rw [q] at kk
          refine ev_ifb_eq (pc := 131) 138 dX7_fileOf_131 (by decide) (kt := fun c => absurd c (by simp)) (kf := fun c131 => ev_iconst (pc := 134) (v := (1)) dX7_fileOf_134 iconst_c1 (ev_goto (pc := 135) 139 dX7_fileOf_135 (by decide) (ev_iret (pc := 139) dX7_fileOf_139 rfl ?_)))
          exact kk
  refine ev_ifb_eq (pc := 4) 23 dX7_fileOf_4 (by decide) (kt := fun c => absurd c (by simp)) (kf := fun c4 => ev_iload_n (pc := 7) dX7_fileOf_7 rfl (ev_iconst (pc := 8) (v := (0)) dX7_fileOf_8 iconst_c0 (ev_iconst (pc := 9) (v := (4)) dX7_fileOf_9 iconst_c4 (ev_invS (pc := 10) kS_7_48 dX7_fileOf_10 rfl (by omega) rfl ?_))))
  refine t_within 0 4 b ?_
  cases q2 : inR 0 4 b
  · rw [q2, Bool.false_or] at k
    refine ev_ifb_ne (pc := 13) 26 dX7_fileOf_13 (by decide) (kt := fun c => absurd c (by simp)) (kf := fun c13 => ev_iload_n (pc := 16) dX7_fileOf_16 rfl (ev_invS (pc := 17) kS_7_104 dX7_fileOf_17 rfl (by omega) rfl ?_))
    refine t_asksPage (by omega) b ?_
    cases q3 : inR 10 21 b
    · rw [q3, if_neg (by decide)] at k
      refine ev_ifb_ne (pc := 20) 26 dX7_fileOf_20 (by decide) (kt := fun c => absurd c (by simp)) (kf := fun c20 => ev_ldc (pc := 23) kC_7_58 dX7_fileOf_23 (ev_iret (pc := 25) dX7_fileOf_25 rfl ?_))
      exact k
    · rw [q3, if_pos rfl] at k
      obtain ⟨w, w1, w2, e⟩ := inR_n (by omega) (by omega) q3
      rw [e, nI_clamp (by omega)] at k
      refine ev_ifb_ne (pc := 20) 26 dX7_fileOf_20 (by decide) (kf := fun c => absurd c (by simp)) (kt := fun c20 => ?_)
      exact join w (by omega) (by omega) e k
  · rw [q2, Bool.true_or, if_pos rfl] at k
    obtain ⟨w, w1, w2, e⟩ := inR_n (by omega) (by omega) q2
    rw [e, nI_clamp (by omega)] at k
    refine ev_ifb_ne (pc := 13) 26 dX7_fileOf_13 (by decide) (kf := fun c => absurd c (by simp)) (kt := fun c13 => ?_)
    exact join w (by omega) (by omega) e k
end T36
