/-! ===== a guess, traced by the class (cell 14, its row 15, 16) ===== -/
/-- the page that goes on, if it can -/
def gsP (ok : Nat → Bool) (ps : List Nat) (q : Int32) : Option Nat := (ix 40 q).bind fun j => if ok j && !(ps.contains j) then some j else none
def gsT (nx : Nat → Int32) (ok : Nat → Bool) : Nat → List Nat → Nat → Nat → Nat → List Nat × Nat × Nat
  | 0, ps, _, c, b => (ps, c, b)
  | n + 1, ps, l, c, b => match gsP ok ps (nx l) with
    | some j => gsT nx ok n (ps ++ [j]) j (c + 1) b
    | none => match gsP ok ps (nI l + 1) with
      | some j => gsT nx ok n (ps ++ [j]) j c (b + 1)
      | none => (ps, c, b)
theorem gsP_some {ok : Nat → Bool} {ps : List Nat} {q : Int32} {j : Nat} (h : gsP ok ps q = some j) : j < 40 ∧ q = nI j ∧ ok j = true ∧ j ∉ ps := by
  unfold gsP ix at h
  by_cases c : 0 ≤ q ∧ q < nI 40
  · rw [if_pos c] at h
    have h0 : ¬ q < 0 := Int32.not_lt.mpr c.1
    obtain ⟨i, hi, rfl⟩ := ix_in (n := 40) (by decide) h0 (Int32.not_le.mpr c.2)
    rw [nI_clamp (by omega)] at h
    simp only [Option.bind_some] at h
    split at h
    · rename_i c2
      cases h
      simp only [Bool.and_eq_true, Bool.not_eq_true', List.contains_eq_mem, decide_eq_false_iff_not] at c2
      exact ⟨hi, rfl, c2.1, c2.2⟩
    · cases h
  · rw [if_neg c] at h
    cases h
/-- what the first of n places from i on that has it is -/
def fstP (P : Nat → Bool) : Nat → Nat → Option Nat
  | 0, _ => none
  | n + 1, i => if P i then some i else fstP P n (i + 1)
theorem fstP_some {P : Nat → Bool} : ∀ {n i k : Nat}, fstP P n i = some k → i ≤ k ∧ k < i + n ∧ P k = true
  | 0, i, k, h => by cases h
  | n + 1, i, k, h => by
    simp only [fstP] at h
    split at h
    · rename_i c
      cases h
      exact ⟨by omega, by omega, c⟩
    · obtain ⟨h1, h2, h3⟩ := fstP_some h
      exact ⟨by omega, by omega, h3⟩
/-- what a traced guess is -/
def trC (I I' : Nat → Nat → Int32) (J J' : Nat → Nat → Int64) (st : Int32) (len : Nat) (r : List Nat × Nat × Nat) : Prop :=
  rowIs I' 15 16 r.1 ∧ I' 14 2 = st ∧ I' 14 4 = nI len - nI r.1.length ∧ I' 14 5 = nI r.2.1 ∧ I' 14 6 = nI r.2.2 ∧ (∀ a, a < 14 ∨ 16 < a → I' a = I a) ∧ (∀ j, j < 64 → bl (J' 14 1) j = decide (j ∈ r.1)) ∧ ∀ a, a ≠ 14 → J' a = J a
section T23
variable {d L : Nat} {I : Nat → Nat → Int32} {J : Nat → Nat → Int64} {p : Nat → Nat} {Q : Option Value → am_M → Prop}
theorem t_fits {S : Int64} {ok : Nat → Bool} {ps : List Nat} (hS : ∀ j, j < 40 → (bl S j && decide (I 3 j = 2) && decide (I 4 j = I 14 2)) = (ok j && !(ps.contains j))) (q : Int32) (h : Q (some (.int (bI (gsP ok ps q).isSome))) (I, J, KR p)) : T d me_X1_fits [.ref 14, .ref 2, .long S, .int q] L I J p Q := by
  unfold gsP at h
  refine am_enter [some (.ref 14), some (.ref 2), some (.long S), none, some (.int q)] rfl rfl rfl rfl ?_
  refine ev_iload (pc := 0) dX1_fits_0 rfl (ev_if_lt (pc := 2) 52 dX1_fits_2 (by decide) (fun c2 => ?_) (fun c2 => ?_))
  · rw [ix_neg c2] at h
    refine ev_iconst (pc := 52) (v := (0)) dX1_fits_52 iconst_c0 (ev_zret (pc := 53) dX1_fits_53 rfl (bI_01 false) ?_)
    exact h
  refine ev_iload (pc := 5) dX1_fits_5 rfl (ev_bipush (pc := 7) (v := (40)) dX1_fits_7 bipush_c40 (ev_icmp_ge (pc := 9) 52 dX1_fits_9 (by decide) (fun c9 => ?_) (fun c9 => ?_)))
  · rw [ix_ge c9] at h
    refine ev_iconst (pc := 52) (v := (0)) dX1_fits_52 iconst_c0 (ev_zret (pc := 53) dX1_fits_53 rfl (bI_01 false) ?_)
    exact h
  obtain ⟨j, hj, rfl⟩ := ix_in (n := 40) (by decide) c2 c9
  rw [ix_n hj (by decide)] at h
  simp only [Option.bind_some] at h
  rw [← hS j hj] at h
  refine ev_lload_n (pc := 12) dX1_fits_12 rfl (ev_iload (pc := 13) dX1_fits_13 rfl (ev_lshr (pc := 15) dX1_fits_15 (ev_lconst (pc := 16) (v := 1) dX1_fits_16 rfl (ev_land (pc := 17) dX1_fits_17 (ev_lconst (pc := 18) (v := 0) dX1_fits_18 rfl (ev_lcmp (pc := 19) dX1_fits_19 (ev_if_eq (pc := 20) 52 dX1_fits_20 (by decide) (fun c20 => ?_) (fun c20 => ?_))))))))
  · have c := (bl_test (p := j) (by omega)).mp c20
    rw [c] at h
    refine ev_iconst (pc := 52) (v := (0)) dX1_fits_52 iconst_c0 (ev_zret (pc := 53) dX1_fits_53 rfl (bI_01 false) ?_)
    exact h
  · have c : bl S j = true := by
      cases hb : bl S j
      · exact absurd ((bl_test (p := j) (by omega)).mpr hb) c20
      · rfl
    rw [c] at h
    refine ev_aload_n (pc := 23) dX1_fits_23 rfl (ev_getr (pc := 24) kF_1_63 dX1_fits_24 rfl rfl rfl (ev_iload (pc := 27) dX1_fits_27 rfl (ev_iald (pc := 29) (i := j) dX1_fits_29 rfl (rfl) (by omega) rfl (ev_iconst (pc := 30) (v := (2)) dX1_fits_30 iconst_c2 (ev_icmp_ne (pc := 31) 52 dX1_fits_31 (by decide) (fun c31 => ?_) (fun c31 => ?_))))))
    · rw [decide_eq_false c31] at h
      refine ev_iconst (pc := 52) (v := (0)) dX1_fits_52 iconst_c0 (ev_zret (pc := 53) dX1_fits_53 rfl (bI_01 false) ?_)
      exact h
    · rw [decide_eq_true c31] at h
      refine ev_aload_n (pc := 34) dX1_fits_34 rfl (ev_getr (pc := 35) kF_1_67 dX1_fits_35 rfl rfl rfl (ev_iload (pc := 38) dX1_fits_38 rfl (ev_iald (pc := 40) (i := j) dX1_fits_40 rfl (rfl) (by omega) rfl (ev_aload_n (pc := 41) dX1_fits_41 rfl (ev_geti (pc := 42) kF_1_24 dX1_fits_42 rfl rfl (ev_icmp_ne (pc := 45) 52 dX1_fits_45 (by decide) (fun c45 => ?_) (fun c45 => ?_)))))))
      · rw [decide_eq_false c45] at h
        refine ev_iconst (pc := 52) (v := (0)) dX1_fits_52 iconst_c0 (ev_zret (pc := 53) dX1_fits_53 rfl (bI_01 false) ?_)
        exact h
      · rw [decide_eq_true c45] at h
        refine ev_iconst (pc := 48) (v := (1)) dX1_fits_48 iconst_c1 (ev_goto (pc := 49) 53 dX1_fits_49 (by decide) (ev_zret (pc := 53) dX1_fits_53 rfl (bI_01 true) ?_))
        exact h
theorem t_latestWith {z : Nat} (hz : I 9 3 = nI z) (hz6 : z ≤ 6) (f s : Int32) (h : Q (some (.int ((fstP (fun k => decide (I 11 k = f) && decide (I 12 k = s)) z 0).elim (-1) nI))) (I, J, KR p)) : T d me_X4_latestWith [.ref 9, .int f, .int s] L I J p Q := by
  refine am_enter [some (.ref 9), some (.int f), some (.int s), none] rfl rfl rfl rfl ?_
  refine ev_iconst (pc := 0) (v := (0)) dX4_latestWith_0 iconst_c0 (ev_istore_n (pc := 1) dX4_latestWith_1 rfl (?_))
  have lp : ∀ (n i : Nat), i + n = z → Q (some (.int ((fstP (fun k => decide (I 11 k = f) && decide (I 12 k = s)) n i).elim (-1) nI))) (I, J, KR p) → E me_X4_latestWith d L 2 [some (.ref 9), some (.int f), some (.int s), some (.int (nI i))] [] I J p Q := by
    intro n
    induction n with
    | zero =>
      intro i hi h
      refine ev_iload_n (pc := 2) dX4_latestWith_2 rfl (ev_aload_n (pc := 3) dX4_latestWith_3 rfl (ev_geti (pc := 4) kF_4_21 dX4_latestWith_4 rfl rfl (ev_ncmp_ge (pc := 7) 44 (i) (z) dX4_latestWith_7 (by decide) (rfl) (hz) (by omega) (by omega) (kf := fun c => absurd c (by omega)) (kt := fun c7 => ev_iconst (pc := 44) (v := (-1)) dX4_latestWith_44 iconst_cm1 (ev_iret (pc := 45) dX4_latestWith_45 rfl ?_)))))
      exact h
    | succ n ih =>
      intro i hi h
      simp only [fstP] at h
      refine ev_iload_n (pc := 2) dX4_latestWith_2 rfl (ev_aload_n (pc := 3) dX4_latestWith_3 rfl (ev_geti (pc := 4) kF_4_21 dX4_latestWith_4 rfl rfl (ev_ncmp_ge (pc := 7) 44 (i) (z) dX4_latestWith_7 (by decide) (rfl) (hz) (by omega) (by omega) (kt := fun c => absurd c (by omega)) (kf := fun c7 => ev_iload_n (pc := 10) dX4_latestWith_10 rfl (ev_bipush (pc := 11) (v := (6)) dX4_latestWith_11 bipush_c6 (ev_ncmp_ge (pc := 13) 44 (i) (6) dX4_latestWith_13 (by decide) (rfl) (rfl) (by omega) (by omega) (kt := fun c => absurd c (by omega)) (kf := fun c13 => ev_aload_n (pc := 16) dX4_latestWith_16 rfl (ev_getr (pc := 17) kF_4_15 dX4_latestWith_17 rfl rfl rfl (ev_iload_n (pc := 20) dX4_latestWith_20 rfl (ev_iald (pc := 21) (i := i) dX4_latestWith_21 rfl (rfl) (by omega) rfl (ev_iload_n (pc := 22) dX4_latestWith_22 rfl (ev_icmp_ne (pc := 23) 38 dX4_latestWith_23 (by decide) (fun c23 => ?_) (fun c23 => ?_)))))))))))))
      · simp only [c23, decide_false, Bool.false_and, Bool.false_eq_true, if_false] at h
        refine ev_iinc (pc := 38) dX4_latestWith_38 rfl (iinc_1 _) rfl (ev_goto (pc := 41) 2 dX4_latestWith_41 (by decide) (?_))
        exact ih (i + 1) (by omega) h
      · simp only [c23, decide_true, Bool.true_and, if_true] at h
        refine ev_aload_n (pc := 26) dX4_latestWith_26 rfl (ev_getr (pc := 27) kF_4_18 dX4_latestWith_27 rfl rfl rfl (ev_iload_n (pc := 30) dX4_latestWith_30 rfl (ev_iald (pc := 31) (i := i) dX4_latestWith_31 rfl (rfl) (by omega) rfl (ev_iload_n (pc := 32) dX4_latestWith_32 rfl (ev_icmp_ne (pc := 33) 38 dX4_latestWith_33 (by decide) (fun c33 => ?_) (fun c33 => ?_))))))
        · simp only [c33, decide_false, Bool.false_eq_true, if_false] at h
          refine ev_iinc (pc := 38) dX4_latestWith_38 rfl (iinc_1 _) rfl (ev_goto (pc := 41) 2 dX4_latestWith_41 (by decide) (?_))
          exact ih (i + 1) (by omega) h
        · simp only [c33, decide_true, if_true] at h
          refine ev_iload_n (pc := 36) dX4_latestWith_36 rfl (ev_iret (pc := 37) dX4_latestWith_37 rfl ?_)
          exact h
  exact lp z 0 (by omega) h
theorem t_latestOfStyle {z : Nat} (hz : I 9 3 = nI z) (hz6 : z ≤ 6) (s : Int32) (h : Q (some (.int ((fstP (fun k => decide (I 12 k = s)) z 0).elim (-1) nI))) (I, J, KR p)) : T d me_X4_latestOfStyle [.ref 9, .int s] L I J p Q := by
  refine am_enter [some (.ref 9), some (.int s), none] rfl rfl rfl rfl ?_
  refine ev_iconst (pc := 0) (v := (0)) dX4_latestOfStyle_0 iconst_c0 (ev_istore_n (pc := 1) dX4_latestOfStyle_1 rfl (?_))
  have lp : ∀ (n i : Nat), i + n = z → Q (some (.int ((fstP (fun k => decide (I 12 k = s)) n i).elim (-1) nI))) (I, J, KR p) → E me_X4_latestOfStyle d L 2 [some (.ref 9), some (.int s), some (.int (nI i))] [] I J p Q := by
    intro n
    induction n with
    | zero =>
      intro i hi h
      refine ev_iload_n (pc := 2) dX4_latestOfStyle_2 rfl (ev_aload_n (pc := 3) dX4_latestOfStyle_3 rfl (ev_geti (pc := 4) kF_4_21 dX4_latestOfStyle_4 rfl rfl (ev_ncmp_ge (pc := 7) 34 (i) (z) dX4_latestOfStyle_7 (by decide) (rfl) (hz) (by omega) (by omega) (kf := fun c => absurd c (by omega)) (kt := fun c7 => ev_iconst (pc := 34) (v := (-1)) dX4_latestOfStyle_34 iconst_cm1 (ev_iret (pc := 35) dX4_latestOfStyle_35 rfl ?_)))))
      exact h
    | succ n ih =>
      intro i hi h
      simp only [fstP] at h
      refine ev_iload_n (pc := 2) dX4_latestOfStyle_2 rfl (ev_aload_n (pc := 3) dX4_latestOfStyle_3 rfl (ev_geti (pc := 4) kF_4_21 dX4_latestOfStyle_4 rfl rfl (ev_ncmp_ge (pc := 7) 34 (i) (z) dX4_latestOfStyle_7 (by decide) (rfl) (hz) (by omega) (by omega) (kt := fun c => absurd c (by omega)) (kf := fun c7 => ev_iload_n (pc := 10) dX4_latestOfStyle_10 rfl (ev_bipush (pc := 11) (v := (6)) dX4_latestOfStyle_11 bipush_c6 (ev_ncmp_ge (pc := 13) 34 (i) (6) dX4_latestOfStyle_13 (by decide) (rfl) (rfl) (by omega) (by omega) (kt := fun c => absurd c (by omega)) (kf := fun c13 => ev_aload_n (pc := 16) dX4_latestOfStyle_16 rfl (ev_getr (pc := 17) kF_4_18 dX4_latestOfStyle_17 rfl rfl rfl (ev_iload_n (pc := 20) dX4_latestOfStyle_20 rfl (ev_iald (pc := 21) (i := i) dX4_latestOfStyle_21 rfl (rfl) (by omega) rfl (ev_iload_n (pc := 22) dX4_latestOfStyle_22 rfl (ev_icmp_ne (pc := 23) 28 dX4_latestOfStyle_23 (by decide) (fun c23 => ?_) (fun c23 => ?_)))))))))))))
      · simp only [c23, decide_false, Bool.false_and, Bool.false_eq_true, if_false] at h
        refine ev_iinc (pc := 28) dX4_latestOfStyle_28 rfl (iinc_1 _) rfl (ev_goto (pc := 31) 2 dX4_latestOfStyle_31 (by decide) (?_))
        exact ih (i + 1) (by omega) h
      · simp only [c23, decide_true, Bool.true_and, if_true] at h
        refine ev_iload_n (pc := 26) dX4_latestOfStyle_26 rfl (ev_iret (pc := 27) dX4_latestOfStyle_27 rfl ?_)
        exact h
  exact lp z 0 (by omega) h
theorem t_X4_nameAt {z : Nat} (hz : I 9 3 = nI z) (hz6 : z ≤ 6) (q : Int32) (h : Q (some (.int ((ix z q).elim (-1) fun k => I 10 k))) (I, J, KR p)) : T d me_X4_nameAt [.ref 9, .int q] L I J p Q := by
  refine am_enter [some (.ref 9), some (.int q)] rfl rfl rfl rfl ?_
  refine ev_iload_n (pc := 0) dX4_nameAt_0 rfl (ev_if_lt (pc := 1) 27 dX4_nameAt_1 (by decide) (fun c1 => ?_) (fun c1 => ?_))
  · rw [ix_neg c1] at h
    refine ev_iconst (pc := 27) (v := (-1)) dX4_nameAt_27 iconst_cm1 (ev_iret (pc := 28) dX4_nameAt_28 rfl ?_)
    exact h
  refine ev_iload_n (pc := 4) dX4_nameAt_4 rfl (ev_aload_n (pc := 5) dX4_nameAt_5 rfl (ev_geti (pc := 6) kF_4_21 dX4_nameAt_6 rfl rfl (ev_icmp_ge (pc := 9) 27 dX4_nameAt_9 (by decide) (fun c9 => ?_) (fun c9 => ?_))))
  · rw [hz] at c9
    rw [ix_ge c9] at h
    refine ev_iconst (pc := 27) (v := (-1)) dX4_nameAt_27 iconst_cm1 (ev_iret (pc := 28) dX4_nameAt_28 rfl ?_)
    exact h
  rw [hz] at c9
  obtain ⟨j, hj, rfl⟩ := ix_in (by omega) c1 c9
  rw [ix_n hj (by omega)] at h
  refine ev_iload_n (pc := 12) dX4_nameAt_12 rfl (ev_bipush (pc := 13) (v := (6)) dX4_nameAt_13 bipush_c6 (ev_ncmp_ge (pc := 15) 27 (j) (6) dX4_nameAt_15 (by decide) (rfl) (rfl) (by omega) (by omega) (kt := fun c => absurd c (by omega)) (kf := fun c15 => ev_aload_n (pc := 18) dX4_nameAt_18 rfl (ev_getr (pc := 19) kF_4_9 dX4_nameAt_19 rfl rfl rfl (ev_iload_n (pc := 22) dX4_nameAt_22 rfl (ev_iald (pc := 23) (i := j) dX4_nameAt_23 rfl (rfl) (by omega) rfl (ev_goto (pc := 24) 28 dX4_nameAt_24 (by decide) (ev_iret (pc := 28) dX4_nameAt_28 rfl ?_))))))))
  exact h
theorem t_X4_firstAt {z : Nat} (hz : I 9 3 = nI z) (hz6 : z ≤ 6) (q : Int32) (h : Q (some (.int ((ix z q).elim (-1) fun k => I 11 k))) (I, J, KR p)) : T d me_X4_firstAt [.ref 9, .int q] L I J p Q := by
  refine am_enter [some (.ref 9), some (.int q)] rfl rfl rfl rfl ?_
  refine ev_iload_n (pc := 0) dX4_firstAt_0 rfl (ev_if_lt (pc := 1) 27 dX4_firstAt_1 (by decide) (fun c1 => ?_) (fun c1 => ?_))
  · rw [ix_neg c1] at h
    refine ev_iconst (pc := 27) (v := (-1)) dX4_firstAt_27 iconst_cm1 (ev_iret (pc := 28) dX4_firstAt_28 rfl ?_)
    exact h
  refine ev_iload_n (pc := 4) dX4_firstAt_4 rfl (ev_aload_n (pc := 5) dX4_firstAt_5 rfl (ev_geti (pc := 6) kF_4_21 dX4_firstAt_6 rfl rfl (ev_icmp_ge (pc := 9) 27 dX4_firstAt_9 (by decide) (fun c9 => ?_) (fun c9 => ?_))))
  · rw [hz] at c9
    rw [ix_ge c9] at h
    refine ev_iconst (pc := 27) (v := (-1)) dX4_firstAt_27 iconst_cm1 (ev_iret (pc := 28) dX4_firstAt_28 rfl ?_)
    exact h
  rw [hz] at c9
  obtain ⟨j, hj, rfl⟩ := ix_in (by omega) c1 c9
  rw [ix_n hj (by omega)] at h
  refine ev_iload_n (pc := 12) dX4_firstAt_12 rfl (ev_bipush (pc := 13) (v := (6)) dX4_firstAt_13 bipush_c6 (ev_ncmp_ge (pc := 15) 27 (j) (6) dX4_firstAt_15 (by decide) (rfl) (rfl) (by omega) (by omega) (kt := fun c => absurd c (by omega)) (kf := fun c15 => ev_aload_n (pc := 18) dX4_firstAt_18 rfl (ev_getr (pc := 19) kF_4_15 dX4_firstAt_19 rfl rfl rfl (ev_iload_n (pc := 22) dX4_firstAt_22 rfl (ev_iald (pc := 23) (i := j) dX4_firstAt_23 rfl (rfl) (by omega) rfl (ev_goto (pc := 24) 28 dX4_firstAt_24 (by decide) (ev_iret (pc := 28) dX4_firstAt_28 rfl ?_))))))))
  exact h
theorem t_X4_styleAt {z : Nat} (hz : I 9 3 = nI z) (hz6 : z ≤ 6) (q : Int32) (h : Q (some (.int ((ix z q).elim (-1) fun k => I 12 k))) (I, J, KR p)) : T d me_X4_styleAt [.ref 9, .int q] L I J p Q := by
  refine am_enter [some (.ref 9), some (.int q)] rfl rfl rfl rfl ?_
  refine ev_iload_n (pc := 0) dX4_styleAt_0 rfl (ev_if_lt (pc := 1) 27 dX4_styleAt_1 (by decide) (fun c1 => ?_) (fun c1 => ?_))
  · rw [ix_neg c1] at h
    refine ev_iconst (pc := 27) (v := (-1)) dX4_styleAt_27 iconst_cm1 (ev_iret (pc := 28) dX4_styleAt_28 rfl ?_)
    exact h
  refine ev_iload_n (pc := 4) dX4_styleAt_4 rfl (ev_aload_n (pc := 5) dX4_styleAt_5 rfl (ev_geti (pc := 6) kF_4_21 dX4_styleAt_6 rfl rfl (ev_icmp_ge (pc := 9) 27 dX4_styleAt_9 (by decide) (fun c9 => ?_) (fun c9 => ?_))))
  · rw [hz] at c9
    rw [ix_ge c9] at h
    refine ev_iconst (pc := 27) (v := (-1)) dX4_styleAt_27 iconst_cm1 (ev_iret (pc := 28) dX4_styleAt_28 rfl ?_)
    exact h
  rw [hz] at c9
  obtain ⟨j, hj, rfl⟩ := ix_in (by omega) c1 c9
  rw [ix_n hj (by omega)] at h
  refine ev_iload_n (pc := 12) dX4_styleAt_12 rfl (ev_bipush (pc := 13) (v := (6)) dX4_styleAt_13 bipush_c6 (ev_ncmp_ge (pc := 15) 27 (j) (6) dX4_styleAt_15 (by decide) (rfl) (rfl) (by omega) (by omega) (kt := fun c => absurd c (by omega)) (kf := fun c15 => ev_aload_n (pc := 18) dX4_styleAt_18 rfl (ev_getr (pc := 19) kF_4_18 dX4_styleAt_19 rfl rfl rfl (ev_iload_n (pc := 22) dX4_styleAt_22 rfl (ev_iald (pc := 23) (i := j) dX4_styleAt_23 rfl (rfl) (by omega) rfl (ev_goto (pc := 24) 28 dX4_styleAt_24 (by decide) (ev_iret (pc := 28) dX4_styleAt_28 rfl ?_))))))))
  exact h
end T23
