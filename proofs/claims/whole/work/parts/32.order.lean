/-! ===== the orders, as the class does them ===== -/
def inR (a b : Nat) (v : Int32) : Bool := decide (nI a ≤ v) && decide (v ≤ nI b)
theorem inR_n {a b : Nat} {v : Int32} (hb : b < 2 ^ 31) (ha : a < 2 ^ 31) (h : inR a b v = true) : ∃ j, a ≤ j ∧ j ≤ b ∧ v = nI j := by
  unfold inR at h
  simp only [Bool.and_eq_true, decide_eq_true_eq] at h
  obtain ⟨h1, h2⟩ := h
  have h0 : ¬ v < 0 := fun c => Int32.not_le.mpr (Int32.lt_of_lt_of_le c (nI_pos' ha)) h1
  obtain ⟨j, j1, rfl⟩ := nI_of h0
  exact ⟨j, (nI_leI ha j1).mp h1, (nI_leI j1 hb).mp h2, rfl⟩
theorem inR_nI {a b j : Nat} (ha : a < 2 ^ 31) (hb : b < 2 ^ 31) (hj : j < 2 ^ 31) : inR a b (nI j) = (decide (a ≤ j) && decide (j ≤ b)) := by
  unfold inR
  congr 1
  · exact decide_eq_decide.mpr (nI_leI ha hj)
  · exact decide_eq_decide.mpr (nI_leI hj hb)
/-- the cells that an order leaves -/
def ofr (I I' : Nat → Nat → Int32) : Prop := ∀ a, (a < 2 ∨ (20 < a ∧ a ≠ 80 ∧ a ≠ 81)) → I' a = I a
theorem ofr_rf (I : Nat → Nat → Int32) : ofr I I := fun _ _ => rfl
theorem ofr_tr {I I1 I2 : Nat → Nat → Int32} (h : ofr I I1) (h2 : ofr I1 I2) : ofr I I2 := fun a ha => (h2 a ha).trans (h a ha)
theorem ofr_ui {I I1 : Nat → Nat → Int32} (h : ofr I I1) {a i : Nat} {v : Int32} (ha : 2 ≤ a ∧ a ≤ 20) : ofr I (ui I1 a i v) := fun b hb => by
  rw [← h b hb]
  funext y
  simp only [ui]
  rw [if_neg (by omega)]
theorem lay_fr {I I' : Nat → Nat → Int32} {nm : Nat} {sty : Int32} {ps : List Nat} (h : layD I I' nm sty ps) : ∀ a, (a < 3 ∨ 8 < a) → I' a = I a := by
  obtain ⟨I1, ⟨c1, c2, c3, c4, c5⟩, rfl⟩ := h
  intro a ha
  rw [← c5 a ha]
  funext y
  simp only [ui]
  rw [if_neg (by omega)]
theorem rel_fr {I I' : Nat → Nat → Int32} {nm z : Nat} {s : Int32} (h : relC I I' nm s z) : ∀ a, (a < 7 ∨ 12 < a) → I' a = I a := by
  obtain ⟨I1, ⟨c1, c2, c3⟩, c4, c5, c6⟩ := h
  intro a ha
  rw [c6 a (by omega) (by omega), c3 a (by omega)]
section T32
variable {d L : Nat} {I : Nat → Nat → Int32} {J : Nat → Nat → Int64} {p : Nat → Nat} {Q : Option Value → am_M → Prop}
theorem t_within (a b : Nat) (v : Int32) (h : Q (some (.int (bI (inR a b v)))) (I, J, KR p)) : T d me_X7_within [.int v, .int (nI a), .int (nI b)] L I J p Q := by
  refine am_enter [some (.int v), some (.int (nI a)), some (.int (nI b))] rfl rfl rfl rfl ?_
  unfold inR at h
  refine ev_iload_n (pc := 0) dX7_within_0 rfl (ev_iload_n (pc := 1) dX7_within_1 rfl (ev_icmp_lt (pc := 2) 14 dX7_within_2 (by decide) (fun c2 => ?_) (fun c2 => ?_)))
  · rw [decide_eq_false (Int32.not_le.mpr c2)] at h
    refine ev_iconst (pc := 14) (v := (0)) dX7_within_14 iconst_c0 (ev_zret (pc := 15) dX7_within_15 rfl (bI_01 false) ?_)
    exact h
  · refine ev_iload_n (pc := 5) dX7_within_5 rfl (ev_iload_n (pc := 6) dX7_within_6 rfl (ev_icmp_gt (pc := 7) 14 dX7_within_7 (by decide) (fun c7 => ?_) (fun c7 => ?_)))
    · rw [decide_eq_false (p := v ≤ nI b) (Int32.not_le.mpr c7), Bool.and_false] at h
      refine ev_iconst (pc := 14) (v := (0)) dX7_within_14 iconst_c0 (ev_zret (pc := 15) dX7_within_15 rfl (bI_01 false) ?_)
      exact h
    · rw [decide_eq_true (Int32.not_lt.mp c2), decide_eq_true (Int32.not_lt.mp c7)] at h
      refine ev_iconst (pc := 10) (v := (1)) dX7_within_10 iconst_c1 (ev_goto (pc := 11) 15 dX7_within_11 (by decide) (ev_zret (pc := 15) dX7_within_15 rfl (bI_01 true) ?_))
      exact h
theorem t_isName (hd : 1 ≤ d) (v : Int32) (h : Q (some (.int (bI (inR 0 29 v)))) (I, J, KR p)) : T d me_X7_isName [.int v] L I J p Q := by
  refine am_enter [some (.int v)] rfl rfl rfl rfl ?_
  refine ev_iload_n (pc := 0) dX7_isName_0 rfl (ev_iconst (pc := 1) (v := (0)) dX7_isName_1 iconst_c0 (ev_bipush (pc := 2) (v := (29)) dX7_isName_2 bipush_c29 (ev_invS (pc := 4) kS_7_48 dX7_isName_4 rfl (by omega) rfl ?_)))
  refine t_within 0 29 v ?_
  refine ev_zret (pc := 7) dX7_isName_7 rfl (bI_01 _) ?_
  exact h
theorem t_isPage (hd : 1 ≤ d) (v : Int32) (h : Q (some (.int (bI (inR 0 39 v)))) (I, J, KR p)) : T d me_X7_isPage [.int v] L I J p Q := by
  refine am_enter [some (.int v)] rfl rfl rfl rfl ?_
  refine ev_iload_n (pc := 0) dX7_isPage_0 rfl (ev_iconst (pc := 1) (v := (0)) dX7_isPage_1 iconst_c0 (ev_bipush (pc := 2) (v := (39)) dX7_isPage_2 bipush_c39 (ev_invS (pc := 4) kS_7_48 dX7_isPage_4 rfl (by omega) rfl ?_)))
  refine t_within 0 39 v ?_
  refine ev_zret (pc := 7) dX7_isPage_7 rfl (bI_01 _) ?_
  exact h
theorem t_isLength (hd : 1 ≤ d) (v : Int32) (h : Q (some (.int (bI (inR 1 12 v)))) (I, J, KR p)) : T d me_X7_isLength [.int v] L I J p Q := by
  refine am_enter [some (.int v)] rfl rfl rfl rfl ?_
  refine ev_iload_n (pc := 0) dX7_isLength_0 rfl (ev_iconst (pc := 1) (v := (1)) dX7_isLength_1 iconst_c1 (ev_bipush (pc := 2) (v := (12)) dX7_isLength_2 bipush_c12 (ev_invS (pc := 4) kS_7_48 dX7_isLength_4 rfl (by omega) rfl ?_)))
  refine t_within 1 12 v ?_
  refine ev_zret (pc := 7) dX7_isLength_7 rfl (bI_01 _) ?_
  exact h
theorem t_isLayout (hd : 1 ≤ d) (v : Int32) (h : Q (some (.int (bI (inR 0 2 v)))) (I, J, KR p)) : T d me_X7_isLayout [.int v] L I J p Q := by
  refine am_enter [some (.int v)] rfl rfl rfl rfl ?_
  refine ev_iload_n (pc := 0) dX7_isLayout_0 rfl (ev_iconst (pc := 1) (v := (0)) dX7_isLayout_1 iconst_c0 (ev_iconst (pc := 2) (v := (2)) dX7_isLayout_2 iconst_c2 (ev_invS (pc := 3) kS_7_48 dX7_isLayout_3 rfl (by omega) rfl ?_)))
  refine t_within 0 2 v ?_
  refine ev_zret (pc := 6) dX7_isLayout_6 rfl (bI_01 _) ?_
  exact h
theorem t_asksPage (hd : 1 ≤ d) (v : Int32) (h : Q (some (.int (bI (inR 10 21 v)))) (I, J, KR p)) : T d me_X7_asksPage [.int v] L I J p Q := by
  refine am_enter [some (.int v)] rfl rfl rfl rfl ?_
  refine ev_iload_n (pc := 0) dX7_asksPage_0 rfl (ev_bipush (pc := 1) (v := (10)) dX7_asksPage_1 bipush_c10 (ev_bipush (pc := 3) (v := (21)) dX7_asksPage_3 bipush_c21 (ev_invS (pc := 5) kS_7_48 dX7_asksPage_5 rfl (by omega) rfl ?_)))
  refine t_within 10 21 v ?_
  refine ev_zret (pc := 8) dX7_asksPage_8 rfl (bI_01 _) ?_
  exact h
theorem t_found (v : Int32) (h : Q (some (.int (if v = -1 then -1000004 else v))) (I, J, KR p)) : T d me_X7_found [.int v] L I J p Q := by
  refine am_enter [some (.int v)] rfl rfl rfl rfl ?_
  refine ev_iload_n (pc := 0) dX7_found_0 rfl (ev_iconst (pc := 1) (v := (-1)) dX7_found_1 iconst_cm1 (ev_icmp_ne (pc := 2) 10 dX7_found_2 (by decide) (fun c2 => ?_) (fun c2 => ?_)))
  · rw [if_neg c2] at h
    refine ev_iload_n (pc := 10) dX7_found_10 rfl (ev_iret (pc := 11) dX7_found_11 rfl ?_)
    exact h
  · rw [if_pos c2] at h
    refine ev_ldc (pc := 5) kC_7_110 dX7_found_5 (ev_goto (pc := 7) 11 dX7_found_7 (by decide) (ev_iret (pc := 11) dX7_found_11 rfl ?_))
    exact h
theorem t_writeFile (hd : 5 ≤ d) {D : Nat → Int32} {nm s len lay : Nat} (h : Rep I 2 D) (hw : wfD D) (hnm : nm < 30) (h1 : 1 ≤ len) (h12 : len ≤ 12) (hlay : lay < 3)
    (k : ∀ I', Rep I' 2 (wrS D nm (nI s) len lay).2 → ofr I I' → Q (some (.int (wrS D nm (nI s) len lay).1)) (I', J, KR p)) : T d me_X7_writeFile [.ref 1, .int (nI nm), .int (nI s), .int (nI len), .int (nI lay)] L I J p Q := by
  refine am_enter [some (.ref 1), some (.int (nI nm)), some (.int (nI s)), some (.int (nI len)), some (.int (nI lay))] rfl rfl rfl rfl ?_
  refine ev_aload_n (pc := 0) dX7_writeFile_0 rfl (ev_getr (pc := 1) kF_7_10 dX7_writeFile_1 rfl rfl rfl (ev_iload_n (pc := 4) dX7_writeFile_4 rfl (ev_invV (pc := 5) kV_7_107 dX7_writeFile_5 rfl rfl rfl (by omega) rfl ?_)))
  refine t_hasFile_n hnm ?_
  rw [rp_f h hnm]
  unfold wrS at k
  by_cases cc : D (200 + nm) = -1
  · rw [if_neg (fun q => q cc)] at k
    refine ev_ifb_eq (pc := 8) 14 dX7_writeFile_8 (by decide) (kf := fun c => absurd c (by simp [cc])) (kt := fun c8 => ev_aload_n (pc := 14) dX7_writeFile_14 rfl (ev_getr (pc := 15) kF_7_10 dX7_writeFile_15 rfl rfl rfl (ev_invV (pc := 18) kV_7_202 dX7_writeFile_18 rfl rfl rfl (by omega) rfl ?_)))
    refine t_X0_freePages (by omega) ?_
    have ec : cntB (frP I) 40 = cntB (fD D) 40 := cntB_congr 40 (rp_fr h)
    have hle := cntB_le (fD D) 40
    rw [ec]
    refine ev_iload_n (pc := 21) dX7_writeFile_21 rfl (ev_ncmp_ge (pc := 22) 28 (cntB (fD D) 40) (len) dX7_writeFile_22 (by decide) (rfl) (rfl) (by omega) (by omega) (fun c22 => ?_) (fun c22 => ?_))
    · rw [if_neg (by omega)] at k
      refine ev_aload_n (pc := 28) dX7_writeFile_28 rfl (ev_getr (pc := 29) kF_7_40 dX7_writeFile_29 rfl rfl rfl (ev_aload_n (pc := 32) dX7_writeFile_32 rfl (ev_getr (pc := 33) kF_7_10 dX7_writeFile_33 rfl rfl rfl (ev_iload_n (pc := 36) dX7_writeFile_36 rfl (ev_iload (pc := 37) dX7_writeFile_37 rfl (ev_invV (pc := 39) kV_7_207 dX7_writeFile_39 rfl rfl rfl (by omega) rfl ?_))))))
      refine t_allot (by omega) h12 hlay fun I1 hr hf => ?_
      have ep : chC (frP I) len lay = chC (fD D) len lay := chC_congr (rp_fr h)
      rw [ep] at hr
      obtain ⟨o1, o2⟩ := chC_ok (lay := lay) (show len ≤ cntB (fD D) 40 by omega)
      generalize chC (fD D) len lay = ps at hr o1 o2 k
      refine ev_aload_n (pc := 42) dX7_writeFile_42 rfl (ev_getr (pc := 43) kF_7_10 dX7_writeFile_43 rfl rfl rfl (ev_iload_n (pc := 46) dX7_writeFile_46 rfl (ev_iload_n (pc := 47) dX7_writeFile_47 rfl (ev_aload_n (pc := 48) dX7_writeFile_48 rfl (ev_getr (pc := 49) kF_7_40 dX7_writeFile_49 rfl rfl rfl (ev_invV (pc := 52) kV_7_264 dX7_writeFile_52 rfl rfl rfl (by omega) rfl ?_))))))
      refine t_rm_lay (by omega) hnm (o1.lt) (o1.inj) (by omega) hr fun I2 hl => ?_
      have lf := lay_fr hl
      refine ev_aload_n (pc := 55) dX7_writeFile_55 rfl (ev_getr (pc := 56) kF_7_10 dX7_writeFile_56 rfl rfl rfl (ev_dup (pc := 59) dX7_writeFile_59 rfl (ev_geti (pc := 60) kF_7_223 dX7_writeFile_60 rfl rfl (ev_iconst (pc := 63) (v := (1)) dX7_writeFile_63 iconst_c1 (ev_iadd (pc := 64) dX7_writeFile_64 (ev_puti (pc := 65) kF_7_223 dX7_writeFile_65 rfl rfl rfl rfl rfl (ev_aload_n (pc := 68) dX7_writeFile_68 rfl (ev_getr (pc := 69) kF_7_40 dX7_writeFile_69 rfl rfl rfl (ev_iconst (pc := 72) (v := (0)) dX7_writeFile_72 iconst_c0 (ev_invV (pc := 73) kV_7_187 dX7_writeFile_73 rfl rfl rfl (by omega) rfl ?_))))))))))
      have hr2 : rowIs (ui I2 2 7 (I2 2 7 + 1)) 80 81 ps := rowIs_of hr (by rw [← lf 80 (by omega)]; funext y; simp [ui]) (by rw [← lf 81 (by omega)]; funext y; simp [ui])
      refine t_rm_at (k := 0) hr2 (by omega) ?_
      rw [if_pos (by omega)]
      refine ev_iret (pc := 76) dX7_writeFile_76 rfl ?_
      have r2 := Rep_lay hnm (Rep_frame h fun c h1 h2 => hf c (by omega) (by omega)) hl o1 (by omega)
      have r3 := Rep_cnt (i := 7) (by omega) r2 (I2 2 7 + 1)
      have e9 : I2 2 7 = D 249 := by rw [lf 2 (by omega), hf 2 (by omega) (by omega)]; exact (rp_w h).1
      rw [e9] at r3 ⊢
      refine k _ r3 (ofr_ui (fun a ha => ?_) (by omega))
      rw [lf a (by omega), hf a (by omega) (by omega)]
    · rw [if_pos (by omega)] at k
      refine ev_ldc (pc := 25) kC_7_206 dX7_writeFile_25 (ev_iret (pc := 27) dX7_writeFile_27 rfl ?_)
      exact k _ h (ofr_rf _)
  · rw [if_pos cc] at k
    refine ev_ifb_eq (pc := 8) 14 dX7_writeFile_8 (by decide) (kt := fun c => absurd c (by simp [cc])) (kf := fun c8 => ev_ldc (pc := 11) kC_7_242 dX7_writeFile_11 (ev_iret (pc := 13) dX7_writeFile_13 rfl ?_))
    exact k _ h (ofr_rf _)
theorem t_deleteFile (hd : 4 ≤ d) {D : Nat → Int32} {nm : Nat} (h : Rep I 2 D) (hw : wfD D) (hnm : nm < 30)
    (k : ∀ I', Rep I' 2 (dlS D nm).2 → ofr I I' → Q (some (.int (dlS D nm).1)) (I', J, KR p)) : T d me_X7_deleteFile [.ref 1, .int (nI nm)] L I J p Q := by
  refine am_enter [some (.ref 1), some (.int (nI nm))] rfl rfl rfl rfl ?_
  refine ev_aload_n (pc := 0) dX7_deleteFile_0 rfl (ev_getr (pc := 1) kF_7_10 dX7_deleteFile_1 rfl rfl rfl (ev_iload_n (pc := 4) dX7_deleteFile_4 rfl (ev_invV (pc := 5) kV_7_107 dX7_deleteFile_5 rfl rfl rfl (by omega) rfl ?_)))
  refine t_hasFile_n hnm ?_
  rw [rp_f h hnm]
  unfold dlS at k
  by_cases cc : D (200 + nm) = -1
  · rw [if_pos cc] at k
    refine ev_ifb_ne (pc := 8) 14 dX7_deleteFile_8 (by decide) (kt := fun c => absurd c (by simp [cc])) (kf := fun c8 => ev_ldc (pc := 11) kC_7_242 dX7_deleteFile_11 (ev_iret (pc := 13) dX7_deleteFile_13 rfl ?_))
    exact k _ h (ofr_rf _)
  · rw [if_neg cc] at k
    obtain ⟨f, s, l, f1, f2, f3, f4, f5, f6, f7, f8⟩ := wf_file hw hnm cc
    refine ev_ifb_ne (pc := 8) 14 dX7_deleteFile_8 (by decide) (kf := fun c => absurd c (by simp [cc])) (kt := fun c8 => ev_aload_n (pc := 14) dX7_deleteFile_14 rfl (ev_getr (pc := 15) kF_7_10 dX7_deleteFile_15 rfl rfl rfl (ev_iload_n (pc := 18) dX7_deleteFile_18 rfl (ev_invV (pc := 19) kV_7_268 dX7_deleteFile_19 rfl rfl rfl (by omega) rfl ?_))))
    refine t_release (z := zD D) (by omega) hnm (by rw [rp_z h]; exact (wf_z hw).1) (wf_z hw).2 fun I1 hl => ?_
    have lf := rel_fr hl
    have r1 := Rep_rel hnm h hw f1 f5 f6 hl
    refine ev_aload_n (pc := 22) dX7_deleteFile_22 rfl (ev_getr (pc := 23) kF_7_10 dX7_deleteFile_23 rfl rfl rfl (ev_dup (pc := 26) dX7_deleteFile_26 rfl (ev_geti (pc := 27) kF_7_226 dX7_deleteFile_27 rfl rfl (ev_iconst (pc := 30) (v := (1)) dX7_deleteFile_30 iconst_c1 (ev_iadd (pc := 31) dX7_deleteFile_31 (ev_puti (pc := 32) kF_7_226 dX7_deleteFile_32 rfl rfl rfl rfl rfl (ev_aload_n (pc := 35) dX7_deleteFile_35 rfl (ev_getr (pc := 36) kF_7_10 dX7_deleteFile_36 rfl rfl rfl (ev_invV (pc := 39) kV_7_202 dX7_deleteFile_39 rfl rfl rfl (by omega) rfl ?_)))))))))
    have r3 := Rep_cnt (i := 8) (by omega) r1 (I1 2 8 + 1)
    have e9 : I1 2 8 = D 250 := by rw [lf 2 (by omega)]; exact (rp_w h).2.1
    rw [e9] at r3 ⊢
    refine t_X0_freePages (by omega) ?_
    have ec := cntB_congr 40 (rp_fr r3)
    have e2 : cntB (fD (uD (relD D nm) (242 + 8) (D 250 + 1))) 40 = cntB (fD (relD D nm)) 40 := cntB_congr 40 fun j hj => by
      unfold fD uD
      rw [if_neg (by omega)]
    rw [ec, e2]
    refine ev_iret (pc := 42) dX7_deleteFile_42 rfl ?_
    exact k _ r3 (ofr_ui (fun a ha => lf a (by omega)) (by omega))
theorem t_wipePage (hd : 2 ≤ d) {D : Nat → Int32} {j : Nat} (h : Rep I 2 D) (hj : j < 40)
    (k : ∀ I', Rep I' 2 (wpS D j).2 → ofr I I' → Q (some (.int (wpS D j).1)) (I', J, KR p)) : T d me_X7_wipePage [.ref 1, .int (nI j)] L I J p Q := by
  refine am_enter [some (.ref 1), some (.int (nI j)), none] rfl rfl rfl rfl ?_
  refine ev_aload_n (pc := 0) dX7_wipePage_0 rfl (ev_getr (pc := 1) kF_7_10 dX7_wipePage_1 rfl rfl rfl (ev_iload_n (pc := 4) dX7_wipePage_4 rfl (ev_invV (pc := 5) kV_7_88 dX7_wipePage_5 rfl rfl rfl (by omega) rfl ?_)))
  refine t_isFree_n hj ?_
  rw [rp_fr h j hj]
  unfold wpS at k
  by_cases cc : D (160 + j) = -1
  · rw [if_neg (fun q => q cc)] at k
    refine ev_ifb_ne (pc := 8) 14 dX7_wipePage_8 (by decide) (kf := fun c => absurd c (by simp [fD, cc])) (kt := fun c8 => ev_aload_n (pc := 14) dX7_wipePage_14 rfl (ev_getr (pc := 15) kF_7_10 dX7_wipePage_15 rfl rfl rfl (ev_iload_n (pc := 18) dX7_wipePage_18 rfl (ev_invV (pc := 19) kV_7_127 dX7_wipePage_19 rfl rfl rfl (by omega) rfl ?_))))
    refine t_X0_markOn _ ?_
    rw [ix_n hj (by decide)]
    simp only [Option.elim_some]
    rw [rp_m h hj]
    refine ev_istore_n (pc := 22) dX7_wipePage_22 rfl (ev_aload_n (pc := 23) dX7_wipePage_23 rfl (ev_getr (pc := 24) kF_7_10 dX7_wipePage_24 rfl rfl rfl (ev_iload_n (pc := 27) dX7_wipePage_27 rfl (ev_invV (pc := 28) kV_7_91 dX7_wipePage_28 rfl rfl rfl (by omega) rfl ?_))))
    refine t_blank (by omega) hj ?_
    refine ev_iload_n (pc := 31) dX7_wipePage_31 rfl (ev_iret (pc := 32) dX7_wipePage_32 rfl ?_)
    exact k _ (Rep_blank hj h) (ofr_ui (ofr_ui (ofr_ui (ofr_rf _) (by omega)) (by omega)) (by omega))
  · rw [if_pos cc] at k
    refine ev_ifb_ne (pc := 8) 14 dX7_wipePage_8 (by decide) (kt := fun c => absurd c (by simp [fD, cc])) (kf := fun c8 => ev_ldc (pc := 11) kC_7_242 dX7_wipePage_11 (ev_iret (pc := 13) dX7_wipePage_13 rfl ?_))
    exact k _ h (ofr_rf _)
end T32
