/-! ===== the reference: pages are chosen ===== -/
def rw88 (I : Nat → Nat → Int32) (ps : List Nat) : Prop := ∀ j, j < ps.length → I 88 j = nI (ps.getD j 0)
def fr1 (c0 : Nat) (I I' : Nat → Nat → Int32) : Prop := ∀ c, c ≠ c0 → I' c = I c
theorem rw88_push {I : Nat → Nat → Int32} {ps : List Nat} (h : rw88 I ps) (q : Nat) : rw88 (ui I 88 ps.length (nI q)) (ps ++ [q]) := by
  intro j hj
  simp only [List.length_append, List.length_cons, List.length_nil] at hj
  simp only [ui]
  by_cases e : j = ps.length
  · rw [if_pos ⟨trivial, e⟩, e]
    simp [List.getD_eq_getElem?_getD]
  · rw [if_neg (fun q => e q.2), h j (by omega)]
    simp [List.getD_eq_getElem?_getD, List.getElem?_append_left (show j < ps.length by omega)]
theorem fr1_ui {c0 i : Nat} {v : Int32} {I I' : Nat → Nat → Int32} (h : fr1 c0 I I') : fr1 c0 I (ui I' c0 i v) := fun c hc => by
  rw [← h c hc]
  funext y
  simp only [ui]
  rw [if_neg (fun q => hc q.1)]
theorem fr1_rf {c0 : Nat} (I : Nat → Nat → Int32) : fr1 c0 I I := fun _ _ => rfl
theorem rowM_of {I I' : Nat → Nat → Int32} {D : Nat → Int32} (h : rowM I D) (e : I' 83 = I 83) : rowM I' D := fun i hi => by rw [e]; exact h i hi
section T48
variable {d L : Nat} {I : Nat → Nat → Int32} {J : Nat → Nat → Int64} {p : Nat → Nat} {Q : Option Value → am_M → Prop} {D : Nat → Int32}
theorem lp_rise (hd : 3 ≤ d) (hr : rowM I D) (ho : ownOK D) {len lay fr : Nat} (hlay : lay ≠ 2) (hl3 : lay < 3) (hfr : fr ≤ 40) (hl : len ≤ 12) (at_ : Int32) (ps0 : List Nat) (k : ∀ I' o1 o2, rw88 I' ps0 → fr1 88 I I' → E me_X8_chooses d L 96 [some (.ref 82), some (.int (nI len)), some (.int (nI lay)), some (.int at_), some (.int (nI ps0.length)), some (.int (nI fr)), o1, o2] [] I' J p Q) : ∀ (n i : Nat) (ps : List Nat) (I1 : Nat → Nat → Int32) (o : Option Value), i + n = 40 - fr → ps.length ≤ len → rw88 I1 ps → fr1 88 I I1 → tkR (fD D) len n (fr + i) ps = ps0 → E me_X8_chooses d L 33 [some (.ref 82), some (.int (nI len)), some (.int (nI lay)), some (.int at_), some (.int (nI ps.length)), some (.int (nI fr)), some (.int (nI i)), o] [] I1 J p Q
  | 0, i, ps, I1, o, hi, h1, h2, h3, h4 => by
    simp only [tkR] at h4
    subst h4
    have hz : (40 : Int32) - nI fr = nI (40 - fr) := nI_less (a := 40) (b := fr) hfr
    refine ev_iload (pc := 33) dX8_chooses_33 rfl (ev_bipush (pc := 35) (v := (40)) dX8_chooses_35 bipush_c40 (ev_iload (pc := 37) dX8_chooses_37 rfl (ev_isub (pc := 39) dX8_chooses_39 (ev_ncmp_ge (pc := 40) 96 (i) (40 - fr) dX8_chooses_40 (by decide) (rfl) (hz) (by omega) (by omega) (kf := fun c => absurd c (by omega)) (kt := fun c40 => ?_)))))
    exact k I1 _ _ h2 h3
  | n + 1, i, ps, I1, o, hi, h1, h2, h3, h4 => by
    simp only [tkR] at h4
    have hz : (40 : Int32) - nI fr = nI (40 - fr) := nI_less (a := 40) (b := fr) hfr
    by_cases q : len ≤ ps.length
    · rw [if_pos q] at h4
      subst h4
      refine ev_iload (pc := 33) dX8_chooses_33 rfl (ev_bipush (pc := 35) (v := (40)) dX8_chooses_35 bipush_c40 (ev_iload (pc := 37) dX8_chooses_37 rfl (ev_isub (pc := 39) dX8_chooses_39 (ev_ncmp_ge (pc := 40) 96 (i) (40 - fr) dX8_chooses_40 (by decide) (rfl) (hz) (by omega) (by omega) (kt := fun c => absurd c (by omega)) (kf := fun c40 => ev_iload (pc := 43) dX8_chooses_43 rfl (ev_iload_n (pc := 45) dX8_chooses_45 rfl (ev_ncmp_ge (pc := 46) 96 (ps.length) (len) dX8_chooses_46 (by decide) (rfl) (rfl) (by omega) (by omega) (kf := fun c => absurd c (by omega)) (kt := fun c46 => ?_))))))))
      exact k I1 _ _ h2 h3
    · rw [if_neg q] at h4
      have ih := lp_rise hd hr ho hlay hl3 hfr hl at_ ps0 k n (i + 1)
      rw [show fr + (i + 1) = fr + i + 1 by omega] at ih
      refine ev_iload (pc := 33) dX8_chooses_33 rfl (ev_bipush (pc := 35) (v := (40)) dX8_chooses_35 bipush_c40 (ev_iload (pc := 37) dX8_chooses_37 rfl (ev_isub (pc := 39) dX8_chooses_39 (ev_ncmp_ge (pc := 40) 96 (i) (40 - fr) dX8_chooses_40 (by decide) (rfl) (hz) (by omega) (by omega) (kt := fun c => absurd c (by omega)) (kf := fun c40 => ev_iload (pc := 43) dX8_chooses_43 rfl (ev_iload_n (pc := 45) dX8_chooses_45 rfl (ev_ncmp_ge (pc := 46) 96 (ps.length) (len) dX8_chooses_46 (by decide) (rfl) (rfl) (by omega) (by omega) (kt := fun c => absurd c (by omega)) (kf := fun c46 => ev_iload_n (pc := 49) dX8_chooses_49 rfl (ev_iconst (pc := 50) (v := (2)) dX8_chooses_50 iconst_c2 (ev_ncmp_ne (pc := 51) 62 (lay) (2) dX8_chooses_51 (by decide) (rfl) (rfl) (by omega) (by omega) (kf := fun c => absurd c (by omega)) (kt := fun c51 => ev_iload (pc := 62) dX8_chooses_62 rfl (ev_iload (pc := 64) dX8_chooses_64 rfl (ev_iadd (pc := 66) dX8_chooses_66 (?_))))))))))))))
      rw [show nI fr + nI i = nI (fr + i) from nI_add fr i]
      refine ev_istore (pc := 67) dX8_chooses_67 rfl (ev_aload_n (pc := 69) dX8_chooses_69 rfl (ev_iload (pc := 70) dX8_chooses_70 rfl (ev_invV (pc := 72) kV_8_68 dX8_chooses_72 rfl rfl rfl (by omega) rfl ?_)))
      refine m_isFree (by omega) (rowM_of hr (h3 83 (by decide))) ho (by omega) ?_
      rw [decide_eq_true (show fr + i < 40 by omega), Bool.true_and]
      cases f : fD D (fr + i)
      · rw [f, if_neg (by decide)] at h4
        refine ev_ifb_eq (pc := 75) 90 dX8_chooses_75 (by decide) (kf := fun c => absurd c (by simp)) (kt := fun c75 => ev_iinc (pc := 90) dX8_chooses_90 rfl (iinc_1 _) rfl (ev_goto (pc := 93) 33 dX8_chooses_93 (by decide) (?_)))
        exact ih ps I1 _ (by omega) h1 h2 h3 h4
      · rw [f, if_pos rfl] at h4
        refine ev_ifb_eq (pc := 75) 90 dX8_chooses_75 (by decide) (kt := fun c => absurd c (by simp)) (kf := fun c75 => ev_aload_n (pc := 78) dX8_chooses_78 rfl (ev_getr (pc := 79) kF_8_25 dX8_chooses_79 rfl rfl rfl (ev_iload (pc := 82) dX8_chooses_82 rfl (ev_iload (pc := 84) dX8_chooses_84 rfl (ev_iast (pc := 86) (i := ps.length) dX8_chooses_86 rfl rfl (rfl) (by omega) rfl (ev_iinc (pc := 87) dX8_chooses_87 rfl (iinc_1 _) rfl (?_)))))))
        have e : nI (ps.length + 1) = nI (ps ++ [fr + i]).length := by simp
        rw [e]
        refine ev_iinc (pc := 90) dX8_chooses_90 rfl (iinc_1 _) rfl (ev_goto (pc := 93) 33 dX8_chooses_93 (by decide) (?_))
        exact ih (ps ++ [fr + i]) _ _ (by omega) (by simp; omega) (rw88_push h2 _) (fr1_ui h3) h4
theorem lp_fall (hd : 3 ≤ d) (hr : rowM I D) (ho : ownOK D) {len : Nat} (hl : len ≤ 12) (at_ : Int32) (ps0 : List Nat) (k : ∀ I' o1 o2, rw88 I' ps0 → fr1 88 I I' → E me_X8_chooses d L 96 [some (.ref 82), some (.int (nI len)), some (.int (nI 2)), some (.int at_), some (.int (nI ps0.length)), some (.int (nI 0)), o1, o2] [] I' J p Q) : ∀ (n i : Nat) (ps : List Nat) (I1 : Nat → Nat → Int32) (o : Option Value), i + n = 40 → ps.length ≤ len → rw88 I1 ps → fr1 88 I I1 → tkF (fD D) len n ps = ps0 → E me_X8_chooses d L 33 [some (.ref 82), some (.int (nI len)), some (.int (nI 2)), some (.int at_), some (.int (nI ps.length)), some (.int (nI 0)), some (.int (nI i)), o] [] I1 J p Q
  | 0, i, ps, I1, o, hi, h1, h2, h3, h4 => by
    simp only [tkF] at h4
    subst h4
    refine ev_iload (pc := 33) dX8_chooses_33 rfl (ev_bipush (pc := 35) (v := (40)) dX8_chooses_35 bipush_c40 (ev_iload (pc := 37) dX8_chooses_37 rfl (ev_isub (pc := 39) dX8_chooses_39 (ev_ncmp_ge (pc := 40) 96 (i) (40) dX8_chooses_40 (by decide) (rfl) (rfl) (by omega) (by omega) (kf := fun c => absurd c (by omega)) (kt := fun c40 => ?_)))))
    exact k I1 _ _ h2 h3
  | n + 1, i, ps, I1, o, hi, h1, h2, h3, h4 => by
    simp only [tkF] at h4
    by_cases q : len ≤ ps.length
    · rw [if_pos q] at h4
      subst h4
      refine ev_iload (pc := 33) dX8_chooses_33 rfl (ev_bipush (pc := 35) (v := (40)) dX8_chooses_35 bipush_c40 (ev_iload (pc := 37) dX8_chooses_37 rfl (ev_isub (pc := 39) dX8_chooses_39 (ev_ncmp_ge (pc := 40) 96 (i) (40) dX8_chooses_40 (by decide) (rfl) (rfl) (by omega) (by omega) (kt := fun c => absurd c (by omega)) (kf := fun c40 => ev_iload (pc := 43) dX8_chooses_43 rfl (ev_iload_n (pc := 45) dX8_chooses_45 rfl (ev_ncmp_ge (pc := 46) 96 (ps.length) (len) dX8_chooses_46 (by decide) (rfl) (rfl) (by omega) (by omega) (kf := fun c => absurd c (by omega)) (kt := fun c46 => ?_))))))))
      exact k I1 _ _ h2 h3
    · rw [if_neg q] at h4
      have ih := lp_fall hd hr ho hl at_ ps0 k n (i + 1)
      refine ev_iload (pc := 33) dX8_chooses_33 rfl (ev_bipush (pc := 35) (v := (40)) dX8_chooses_35 bipush_c40 (ev_iload (pc := 37) dX8_chooses_37 rfl (ev_isub (pc := 39) dX8_chooses_39 (ev_ncmp_ge (pc := 40) 96 (i) (40) dX8_chooses_40 (by decide) (rfl) (rfl) (by omega) (by omega) (kt := fun c => absurd c (by omega)) (kf := fun c40 => ev_iload (pc := 43) dX8_chooses_43 rfl (ev_iload_n (pc := 45) dX8_chooses_45 rfl (ev_ncmp_ge (pc := 46) 96 (ps.length) (len) dX8_chooses_46 (by decide) (rfl) (rfl) (by omega) (by omega) (kt := fun c => absurd c (by omega)) (kf := fun c46 => ev_iload_n (pc := 49) dX8_chooses_49 rfl (ev_iconst (pc := 50) (v := (2)) dX8_chooses_50 iconst_c2 (ev_ncmp_ne (pc := 51) 62 (2) (2) dX8_chooses_51 (by decide) (rfl) (rfl) (by omega) (by omega) (kt := fun c => absurd c (by omega)) (kf := fun c51 => ev_bipush (pc := 54) (v := (39)) dX8_chooses_54 bipush_c39 (ev_iload (pc := 56) dX8_chooses_56 rfl (ev_isub (pc := 58) dX8_chooses_58 (?_))))))))))))))
      rw [show (39 : Int32) - nI i = nI n by rw [show n = 39 - i by omega]; exact nI_less (a := 39) (b := i) (by omega)]
      refine ev_goto (pc := 59) 67 dX8_chooses_59 (by decide) (ev_istore (pc := 67) dX8_chooses_67 rfl (ev_aload_n (pc := 69) dX8_chooses_69 rfl (ev_iload (pc := 70) dX8_chooses_70 rfl (ev_invV (pc := 72) kV_8_68 dX8_chooses_72 rfl rfl rfl (by omega) rfl ?_))))
      refine m_isFree (by omega) (rowM_of hr (h3 83 (by decide))) ho (by omega) ?_
      rw [decide_eq_true (show n < 40 by omega), Bool.true_and]
      cases f : fD D n
      · rw [f, if_neg (by decide)] at h4
        refine ev_ifb_eq (pc := 75) 90 dX8_chooses_75 (by decide) (kf := fun c => absurd c (by simp)) (kt := fun c75 => ev_iinc (pc := 90) dX8_chooses_90 rfl (iinc_1 _) rfl (ev_goto (pc := 93) 33 dX8_chooses_93 (by decide) (?_)))
        exact ih ps I1 _ (by omega) h1 h2 h3 h4
      · rw [f, if_pos rfl] at h4
        refine ev_ifb_eq (pc := 75) 90 dX8_chooses_75 (by decide) (kt := fun c => absurd c (by simp)) (kf := fun c75 => ev_aload_n (pc := 78) dX8_chooses_78 rfl (ev_getr (pc := 79) kF_8_25 dX8_chooses_79 rfl rfl rfl (ev_iload (pc := 82) dX8_chooses_82 rfl (ev_iload (pc := 84) dX8_chooses_84 rfl (ev_iast (pc := 86) (i := ps.length) dX8_chooses_86 rfl rfl (rfl) (by omega) rfl (ev_iinc (pc := 87) dX8_chooses_87 rfl (iinc_1 _) rfl (?_)))))))
        have e : nI (ps.length + 1) = nI (ps ++ [n]).length := by simp
        rw [e]
        refine ev_iinc (pc := 90) dX8_chooses_90 rfl (iinc_1 _) rfl (ev_goto (pc := 93) 33 dX8_chooses_93 (by decide) (?_))
        exact ih (ps ++ [n]) _ _ (by omega) (by simp; omega) (rw88_push h2 _) (fr1_ui h3) h4
theorem m_chooses (hd : 5 ≤ d) (hr : rowM I D) (ho : ownOK D) {len lay : Nat} (h1 : 1 ≤ len) (hl : len ≤ 12) (hlay : lay < 3) (k : ∀ I', rw88 I' (chC (fD D) len lay) → fr1 88 I I' → Q (some (.int (bI (decide (len ≤ cntB (fD D) 40))))) (I', J, KR p)) : T d me_X8_chooses [.ref 82, .int (nI len), .int (nI lay)] L I J p Q := by
  refine am_enter [some (.ref 82), some (.int (nI len)), some (.int (nI lay)), none, none, none, none, none] rfl rfl rfl rfl ?_
  have nil : rw88 I [] := fun j hj => by simp at hj
  have fin : ∀ (at_ : Int32) (fr : Nat) I' o1 o2, rw88 I' (chC (fD D) len lay) → fr1 88 I I' → E me_X8_chooses d L 96 [some (.ref 82), some (.int (nI len)), some (.int (nI lay)), some (.int at_), some (.int (nI (chC (fD D) len lay).length)), some (.int (nI fr)), o1, o2] [] I' J p Q := by
    intro at_ fr I' o1 o2 g1 g2
    have kk := k I' g1 g2
    by_cases q : len ≤ cntB (fD D) 40
    · rw [decide_eq_true q] at kk
      have := (chC_ok (lay := lay) q).2
      rw [this]
      refine ev_iload (pc := 96) dX8_chooses_96 rfl (ev_iload_n (pc := 98) dX8_chooses_98 rfl (ev_ncmp_ne (pc := 99) 106 (len) (len) dX8_chooses_99 (by decide) (rfl) (rfl) (by omega) (by omega) (kt := fun c => absurd c (by omega)) (kf := fun c99 => ev_iconst (pc := 102) (v := (1)) dX8_chooses_102 iconst_c1 (ev_goto (pc := 103) 107 dX8_chooses_103 (by decide) (ev_zret (pc := 107) dX8_chooses_107 rfl (bI_01 true) ?_)))))
      exact kk
    · rw [decide_eq_false q] at kk
      have := chC_no (lay := lay) (show cntB (fD D) 40 < len by omega)
      refine ev_iload (pc := 96) dX8_chooses_96 rfl (ev_iload_n (pc := 98) dX8_chooses_98 rfl (ev_ncmp_ne (pc := 99) 106 ((chC (fD D) len lay).length) (len) dX8_chooses_99 (by decide) (rfl) (rfl) (by omega) (by omega) (kf := fun c => absurd c (by omega)) (kt := fun c99 => ev_iconst (pc := 106) (v := (0)) dX8_chooses_106 iconst_c0 (ev_zret (pc := 107) dX8_chooses_107 rfl (bI_01 false) ?_))))
      exact kk
  by_cases l1 : lay = 1
  · subst l1
    refine ev_iload_n (pc := 0) dX8_chooses_0 rfl (ev_iconst (pc := 1) (v := (1)) dX8_chooses_1 iconst_c1 (ev_ncmp_ne (pc := 2) 13 (1) (1) dX8_chooses_2 (by decide) (rfl) (rfl) (by omega) (by omega) (kt := fun c => absurd c (by omega)) (kf := fun c2 => ev_aload_n (pc := 5) dX8_chooses_5 rfl (ev_iload_n (pc := 6) dX8_chooses_6 rfl (ev_invV (pc := 7) kV_8_72 dX8_chooses_7 rfl rfl rfl (by omega) rfl ?_)))))
    refine m_run (by omega) hr ho h1 hl ?_
    cases hq : lrF (fD D) len 40 0 with
    | none =>
      simp only [Option.elim_none]
      refine ev_goto (pc := 10) 15 dX8_chooses_10 (by decide) (ev_istore_n (pc := 15) dX8_chooses_15 rfl (ev_iconst (pc := 16) (v := (0)) dX8_chooses_16 iconst_c0 (ev_istore (pc := 17) dX8_chooses_17 rfl (ev_iload_n (pc := 19) dX8_chooses_19 rfl (ev_if_lt (pc := 20) 27 dX8_chooses_20 (by decide) (kf := fun c => absurd (by decide) c) (kt := fun c20 => ev_iconst (pc := 27) (v := (0)) dX8_chooses_27 iconst_c0 (ev_istore (pc := 28) dX8_chooses_28 rfl (ev_iconst (pc := 30) (v := (0)) dX8_chooses_30 iconst_c0 (ev_istore (pc := 31) dX8_chooses_31 rfl (?_))))))))))
      refine lp_rise (fr := 0) (by omega) hr ho (by decide) hlay (by omega) hl _ _ (fin _ 0) 40 0 [] I none (by omega) (by simp) nil (fr1_rf I) ?_
      simp [chC, hq]
    | some m =>
      have hm := lrF_le hq
      simp only [Option.elim_some]
      refine ev_goto (pc := 10) 15 dX8_chooses_10 (by decide) (ev_istore_n (pc := 15) dX8_chooses_15 rfl (ev_iconst (pc := 16) (v := (0)) dX8_chooses_16 iconst_c0 (ev_istore (pc := 17) dX8_chooses_17 rfl (ev_iload_n (pc := 19) dX8_chooses_19 rfl (ev_if_lt (pc := 20) 27 dX8_chooses_20 (by decide) (kt := fun c => absurd c (nI_pos (by omega))) (kf := fun c20 => ev_iload_n (pc := 23) dX8_chooses_23 rfl (ev_goto (pc := 24) 28 dX8_chooses_24 (by decide) (ev_istore (pc := 28) dX8_chooses_28 rfl (ev_iconst (pc := 30) (v := (0)) dX8_chooses_30 iconst_c0 (ev_istore (pc := 31) dX8_chooses_31 rfl (?_)))))))))))
      refine lp_rise (fr := m) (by omega) hr ho (by decide) hlay (by omega) hl _ _ (fin _ m) (40 - m) 0 [] I none (by omega) (by simp) nil (fr1_rf I) ?_
      simp [chC, hq]
  · by_cases l2 : lay = 2
    · subst l2
      refine ev_iload_n (pc := 0) dX8_chooses_0 rfl (ev_iconst (pc := 1) (v := (1)) dX8_chooses_1 iconst_c1 (ev_ncmp_ne (pc := 2) 13 (2) (1) dX8_chooses_2 (by decide) (rfl) (rfl) (by omega) (by omega) (kf := fun c => absurd c (by omega)) (kt := fun c2 => ev_ldc (pc := 13) kC_8_71 dX8_chooses_13 (ev_istore_n (pc := 15) dX8_chooses_15 rfl (ev_iconst (pc := 16) (v := (0)) dX8_chooses_16 iconst_c0 (ev_istore (pc := 17) dX8_chooses_17 rfl (ev_iload_n (pc := 19) dX8_chooses_19 rfl (ev_if_lt (pc := 20) 27 dX8_chooses_20 (by decide) (kf := fun c => absurd (by decide) c) (kt := fun c20 => ev_iconst (pc := 27) (v := (0)) dX8_chooses_27 iconst_c0 (ev_istore (pc := 28) dX8_chooses_28 rfl (ev_iconst (pc := 30) (v := (0)) dX8_chooses_30 iconst_c0 (ev_istore (pc := 31) dX8_chooses_31 rfl (?_)))))))))))))
      refine lp_fall (by omega) hr ho hl _ _ (fin _ 0) 40 0 [] I none (by omega) (by simp) nil (fr1_rf I) ?_
      simp [chC]
    · refine ev_iload_n (pc := 0) dX8_chooses_0 rfl (ev_iconst (pc := 1) (v := (1)) dX8_chooses_1 iconst_c1 (ev_ncmp_ne (pc := 2) 13 (lay) (1) dX8_chooses_2 (by decide) (rfl) (rfl) (by omega) (by omega) (kf := fun c => absurd c (by omega)) (kt := fun c2 => ev_ldc (pc := 13) kC_8_71 dX8_chooses_13 (ev_istore_n (pc := 15) dX8_chooses_15 rfl (ev_iconst (pc := 16) (v := (0)) dX8_chooses_16 iconst_c0 (ev_istore (pc := 17) dX8_chooses_17 rfl (ev_iload_n (pc := 19) dX8_chooses_19 rfl (ev_if_lt (pc := 20) 27 dX8_chooses_20 (by decide) (kf := fun c => absurd (by decide) c) (kt := fun c20 => ev_iconst (pc := 27) (v := (0)) dX8_chooses_27 iconst_c0 (ev_istore (pc := 28) dX8_chooses_28 rfl (ev_iconst (pc := 30) (v := (0)) dX8_chooses_30 iconst_c0 (ev_istore (pc := 31) dX8_chooses_31 rfl (?_)))))))))))))
      refine lp_rise (fr := 0) (by omega) hr ho l2 hlay (by omega) hl _ _ (fin _ 0) 40 0 [] I none (by omega) (by simp) nil (fr1_rf I) ?_
      simp [chC, l1, l2]
end T48
