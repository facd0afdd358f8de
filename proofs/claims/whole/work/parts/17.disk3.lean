/-! ===== what writes on the disk ===== -/
/-- the first k pages of a row laid for a file -/
def layC (I I' : Nat → Nat → Int32) (nm : Nat) (sty : Int32) (ps : List Nat) (k : Nat) : Prop :=
  (∀ i, i < k → I' 3 (ps.getD i 0) = (if i = 0 then 1 else 2) ∧ I' 4 (ps.getD i 0) = sty ∧ I' 6 (ps.getD i 0) = (if i + 1 < ps.length then nI (ps.getD (i + 1) 0) else -1) ∧ I' 7 (ps.getD i 0) = nI nm) ∧
  (∀ j, (∀ i, i < k → j ≠ ps.getD i 0) → I' 3 j = I 3 j ∧ I' 4 j = I 4 j ∧ I' 6 j = I 6 j ∧ I' 7 j = I 7 j) ∧
  (∀ n, I' 8 n = if n = nm then nI (ps.getD 0 0) else I 8 n) ∧ I' 5 = I 5 ∧ ∀ a, (a < 3 ∨ 8 < a) → I' a = I a
theorem layC_0 (I : Nat → Nat → Int32) (nm : Nat) (sty : Int32) (ps : List Nat) : layC I (ui I 8 nm (nI (ps.getD 0 0))) nm sty ps 0 := by
  refine ⟨fun i hi => by omega, fun j _ => by simp [ui], fun n => by simp [ui], by funext j; simp [ui], fun a ha => ?_⟩
  funext j
  simp only [ui]
  rw [if_neg (by omega)]
theorem layC_step {I I1 : Nat → Nat → Int32} {nm : Nat} {sty : Int32} {ps : List Nat} {k : Nat} (h : layC I I1 nm sty ps k) (hk : k < ps.length) (hinj : ∀ i j, i < ps.length → j < ps.length → ps.getD i 0 = ps.getD j 0 → i = j) :
    layC I (ui (ui (ui (ui I1 3 (ps.getD k 0) (if k = 0 then 1 else 2)) 4 (ps.getD k 0) sty) 6 (ps.getD k 0) (if k + 1 < ps.length then nI (ps.getD (k + 1) 0) else -1)) 7 (ps.getD k 0) (nI nm)) nm sty ps (k + 1) := by
  obtain ⟨h1, h2, h3, h4, h5⟩ := h
  refine ⟨fun i hi => ?_, fun j hj => ?_, fun n => ?_, ?_, fun a ha => ?_⟩
  · by_cases e : i = k
    · subst e
      simp [ui]
    · have hne : ps.getD i 0 ≠ ps.getD k 0 := fun q => e (hinj i k (by omega) hk q)
      obtain ⟨g1, g2, g3, g4⟩ := h1 i (by omega)
      simp [ui, hne, g1, g2, g3, g4, -List.getD_eq_getElem?_getD]
  · have hne := hj k (by omega)
    obtain ⟨g1, g2, g3, g4⟩ := h2 j (fun i hi => hj i (by omega))
    simp [ui, hne, g1, g2, g3, g4, -List.getD_eq_getElem?_getD]
  · rw [← h3 n]
    simp [ui]
  · rw [← h4]
    funext j
    simp [ui]
  · rw [← h5 a ha]
    funext j
    simp only [ui]
    rw [if_neg (by omega), if_neg (by omega), if_neg (by omega), if_neg (by omega)]
/-- a file is laid -/
def layD (I I' : Nat → Nat → Int32) (nm : Nat) (sty : Int32) (ps : List Nat) : Prop := ∃ I1, layC I I1 nm sty ps ps.length ∧ I' = ui I1 5 (ps.getD 0 0) (nI ps.length)
/-- an entry comes into the journal -/
def entC (I I' : Nat → Nat → Int32) (n f s : Int32) (z : Nat) : Prop :=
  (∀ j, j < 6 → I' 10 j = (if j = 0 then n else I 10 (j - 1)) ∧ I' 11 j = (if j = 0 then f else I 11 (j - 1)) ∧ I' 12 j = (if j = 0 then s else I 12 (j - 1))) ∧
  I' 9 3 = nI (if 6 < z + 1 then 6 else z + 1) ∧ ∀ a, (a < 9 ∨ 12 < a) → I' a = I a
section T17
variable {d L : Nat} {I : Nat → Nat → Int32} {J : Nat → Nat → Int64} {p : Nat → Nat} {Q : Option Value → am_M → Prop}
theorem t_putPage {j : Nat} (hj : j < 40) (m s n : Int32) (h : Q none (ui (ui (ui I 3 j m) 4 j s) 6 j n, J, KR p)) : T d me_X0_putPage [.ref 2, .int (nI j), .int m, .int s, .int n] L I J p Q := by
  refine am_enter [some (.ref 2), some (.int (nI j)), some (.int m), some (.int s), some (.int n)] rfl rfl rfl rfl ?_
  refine ev_iload_n (pc := 0) dX0_putPage_0 rfl (ev_if_lt (pc := 1) 32 dX0_putPage_1 (by decide) (kt := fun c => absurd c (nI_pos (by omega))) (kf := fun c1 => ev_iload_n (pc := 4) dX0_putPage_4 rfl (ev_bipush (pc := 5) (v := (40)) dX0_putPage_5 bipush_c40 (ev_ncmp_ge (pc := 7) 32 (j) (40) dX0_putPage_7 (by decide) (rfl) (rfl) (by omega) (by omega) (kt := fun c => absurd c (by omega)) (kf := fun c7 => ev_aload_n (pc := 10) dX0_putPage_10 rfl (ev_getr (pc := 11) kF_0_9 dX0_putPage_11 rfl rfl rfl (ev_iload_n (pc := 14) dX0_putPage_14 rfl (ev_iload_n (pc := 15) dX0_putPage_15 rfl (ev_iast (pc := 16) (i := j) dX0_putPage_16 rfl rfl (rfl) (by omega) rfl (ev_aload_n (pc := 17) dX0_putPage_17 rfl (ev_getr (pc := 18) kF_0_15 dX0_putPage_18 rfl rfl rfl (ev_iload_n (pc := 21) dX0_putPage_21 rfl (ev_iload_n (pc := 22) dX0_putPage_22 rfl (ev_iast (pc := 23) (i := j) dX0_putPage_23 rfl rfl (rfl) (by omega) rfl (ev_aload_n (pc := 24) dX0_putPage_24 rfl (ev_getr (pc := 25) kF_0_21 dX0_putPage_25 rfl rfl rfl (ev_iload_n (pc := 28) dX0_putPage_28 rfl (ev_iload (pc := 29) dX0_putPage_29 rfl (ev_iast (pc := 31) (i := j) dX0_putPage_31 rfl rfl (rfl) (by omega) rfl (ev_vret (pc := 32) dX0_putPage_32 rfl ?_))))))))))))))))))))
  exact h
theorem t_own {j : Nat} (hj : j < 40) (m : Int32) (h : Q none (ui I 7 j m, J, KR p)) : T d me_X0_own [.ref 2, .int (nI j), .int m] L I J p Q := by
  refine am_enter [some (.ref 2), some (.int (nI j)), some (.int m)] rfl rfl rfl rfl ?_
  refine ev_iload_n (pc := 0) dX0_own_0 rfl (ev_if_lt (pc := 1) 17 dX0_own_1 (by decide) (kt := fun c => absurd c (nI_pos (by omega))) (kf := fun c1 => ev_iload_n (pc := 4) dX0_own_4 rfl (ev_bipush (pc := 5) (v := (40)) dX0_own_5 bipush_c40 (ev_ncmp_ge (pc := 7) 17 (j) (40) dX0_own_7 (by decide) (rfl) (rfl) (by omega) (by omega) (kt := fun c => absurd c (by omega)) (kf := fun c7 => ev_aload_n (pc := 10) dX0_own_10 rfl (ev_getr (pc := 11) kF_0_24 dX0_own_11 rfl rfl rfl (ev_iload_n (pc := 14) dX0_own_14 rfl (ev_iload_n (pc := 15) dX0_own_15 rfl (ev_iast (pc := 16) (i := j) dX0_own_16 rfl rfl (rfl) (by omega) rfl (ev_vret (pc := 17) dX0_own_17 rfl ?_))))))))))
  exact h
theorem t_tellLength {j : Nat} (hj : j < 40) (m : Int32) (h : Q none (ui I 5 j m, J, KR p)) : T d me_X0_tellLength [.ref 2, .int (nI j), .int m] L I J p Q := by
  refine am_enter [some (.ref 2), some (.int (nI j)), some (.int m)] rfl rfl rfl rfl ?_
  refine ev_iload_n (pc := 0) dX0_tellLength_0 rfl (ev_if_lt (pc := 1) 17 dX0_tellLength_1 (by decide) (kt := fun c => absurd c (nI_pos (by omega))) (kf := fun c1 => ev_iload_n (pc := 4) dX0_tellLength_4 rfl (ev_bipush (pc := 5) (v := (40)) dX0_tellLength_5 bipush_c40 (ev_ncmp_ge (pc := 7) 17 (j) (40) dX0_tellLength_7 (by decide) (rfl) (rfl) (by omega) (by omega) (kt := fun c => absurd c (by omega)) (kf := fun c7 => ev_aload_n (pc := 10) dX0_tellLength_10 rfl (ev_getr (pc := 11) kF_0_18 dX0_tellLength_11 rfl rfl rfl (ev_iload_n (pc := 14) dX0_tellLength_14 rfl (ev_iload_n (pc := 15) dX0_tellLength_15 rfl (ev_iast (pc := 16) (i := j) dX0_tellLength_16 rfl rfl (rfl) (by omega) rfl (ev_vret (pc := 17) dX0_tellLength_17 rfl ?_))))))))))
  exact h
theorem t_blank (hd : 1 ≤ d) {j : Nat} (hj : j < 40) (h : Q none (ui (ui (ui I 3 j 0) 4 j 0) 6 j (-1), J, KR p)) : T d me_X0_blank [.ref 2, .int (nI j)] L I J p Q := by
  refine am_enter [some (.ref 2), some (.int (nI j))] rfl rfl rfl rfl ?_
  refine ev_aload_n (pc := 0) dX0_blank_0 rfl (ev_iload_n (pc := 1) dX0_blank_1 rfl (ev_iconst (pc := 2) (v := (0)) dX0_blank_2 iconst_c0 (ev_iconst (pc := 3) (v := (0)) dX0_blank_3 iconst_c0 (ev_iconst (pc := 4) (v := (-1)) dX0_blank_4 iconst_cm1 (ev_invV (pc := 5) kV_0_89 dX0_blank_5 rfl rfl rfl (by omega) rfl ?_)))))
  refine t_putPage hj _ _ _ ?_
  refine ev_vret (pc := 8) dX0_blank_8 rfl ?_
  exact h
theorem en_rm_lay (hd : 1 ≤ d) {nm : Nat} {sty : Int32} {ps : List Nat} (hp : ∀ i, i < ps.length → ps.getD i 0 < 40) (hl : 0 < ps.length) {k : Nat} {I1 : Nat → Nat → Int32} (hr : rowIs I1 80 81 ps) (hI : layC I I1 nm sty ps ps.length) (h : ∀ I', layD I I' nm sty ps → Q none (I', J, KR p)) : E me_X0_lay d L 88 [some (.ref 2), some (.int (nI nm)), some (.int sty), some (.ref 80), some (.int (nI k))] [] I1 J p Q := by
  have r2 := hr.2.1
  refine ev_aload_n (pc := 88) dX0_lay_88 rfl (ev_aload_n (pc := 89) dX0_lay_89 rfl (ev_iconst (pc := 90) (v := (0)) dX0_lay_90 iconst_c0 (ev_invV (pc := 91) kV_0_84 dX0_lay_91 rfl rfl rfl (by omega) rfl ?_)))
  refine t_rm_at (k := 0) hr (by omega) ?_
  rw [if_pos hl]
  refine ev_aload_n (pc := 94) dX0_lay_94 rfl (ev_geti (pc := 95) kF_0_97 dX0_lay_95 rfl rfl (ev_invV (pc := 98) kV_0_100 dX0_lay_98 rfl rfl rfl (by omega) rfl ?_))
  rw [hr.1]
  refine t_tellLength (hp 0 hl) _ ?_
  refine ev_vret (pc := 101) dX0_lay_101 rfl ?_
  exact h _ ⟨I1, hI, rfl⟩
theorem lp_rm_lay (hd : 1 ≤ d) {nm : Nat} {sty : Int32} {ps : List Nat} (hp : ∀ i, i < ps.length → ps.getD i 0 < 40) (hinj : ∀ i j, i < ps.length → j < ps.length → ps.getD i 0 = ps.getD j 0 → i = j) (hl : 0 < ps.length) (h : ∀ I', layD I I' nm sty ps → Q none (I', J, KR p)) : ∀ (n k : Nat) (I1 : Nat → Nat → Int32), k + n = ps.length → rowIs I1 80 81 ps → layC I I1 nm sty ps k → E me_X0_lay d L 25 [some (.ref 2), some (.int (nI nm)), some (.int sty), some (.ref 80), some (.int (nI k))] [] I1 J p Q
  | 0, k, I1, hk, hr, hI => by
    have r2 := hr.2.1
    have hk' : k = ps.length := by omega
    subst hk'
    refine ev_iload (pc := 25) dX0_lay_25 rfl (ev_bipush (pc := 27) (v := (12)) dX0_lay_27 bipush_c12 (ev_ncmp_ge (pc := 29) 88 (ps.length) (12) dX0_lay_29 (by decide) (rfl) (rfl) (by omega) (by omega) (fun c29 => ?_) (fun c29 => ?_)))
    · exact en_rm_lay hd hp hl hr hI h
    · refine ev_aload_n (pc := 32) dX0_lay_32 rfl (ev_iload (pc := 33) dX0_lay_33 rfl (ev_invV (pc := 35) kV_0_84 dX0_lay_35 rfl rfl rfl (by omega) rfl ?_))
      refine t_rm_at hr (by omega) ?_
      rw [if_neg (by omega)]
      refine ev_iconst (pc := 38) (v := (-1)) dX0_lay_38 iconst_cm1 (ev_icmp_eq (pc := 39) 88 dX0_lay_39 (by decide) (kf := fun c => absurd (rfl) c) (kt := fun c39 => ?_))
      exact en_rm_lay hd hp hl hr hI h
  | n + 1, k, I1, hk, hr, hI => by
    have r2 := hr.2.1
    have hq := hp k (by omega)
    have tail : E me_X0_lay d L 59 [some (.ref 2), some (.int (nI nm)), some (.int sty), some (.ref 80), some (.int (nI k))] [.int (if k = 0 then 1 else 2), .int (nI (ps.getD k 0)), .ref 2] I1 J p Q := by
      refine ev_iload_n (pc := 59) dX0_lay_59 rfl (ev_aload_n (pc := 60) dX0_lay_60 rfl (ev_iload (pc := 61) dX0_lay_61 rfl (ev_iconst (pc := 63) (v := (1)) dX0_lay_63 iconst_c1 (ev_iadd (pc := 64) dX0_lay_64 (ev_invV (pc := 65) kV_0_84 dX0_lay_65 rfl rfl rfl (by omega) rfl ?_)))))
      rw [show nI k + 1 = nI (k + 1) from nI_1 k]
      refine t_rm_at hr (by omega) ?_
      refine ev_invV (pc := 68) kV_0_89 dX0_lay_68 rfl rfl rfl (by omega) rfl ?_
      refine t_putPage hq _ _ _ ?_
      refine ev_aload_n (pc := 71) dX0_lay_71 rfl (ev_aload_n (pc := 72) dX0_lay_72 rfl (ev_iload (pc := 73) dX0_lay_73 rfl (ev_invV (pc := 75) kV_0_84 dX0_lay_75 rfl rfl rfl (by omega) rfl ?_)))
      have hr2 : rowIs (ui (ui (ui I1 3 (ps.getD k 0) (if k = 0 then 1 else 2)) 4 (ps.getD k 0) sty) 6 (ps.getD k 0) (if k + 1 < ps.length then nI (ps.getD (k + 1) 0) else -1)) 80 81 ps := rowIs_of hr (by funext z; simp [ui]) (by funext z; simp [ui])
      refine t_rm_at hr2 (by omega) ?_
      rw [if_pos (show k < ps.length by omega)]
      refine ev_iload_n (pc := 78) dX0_lay_78 rfl (ev_invV (pc := 79) kV_0_93 dX0_lay_79 rfl rfl rfl (by omega) rfl ?_)
      refine t_own hq _ ?_
      refine ev_iinc (pc := 82) dX0_lay_82 rfl (iinc_1 _) rfl (ev_goto (pc := 85) 25 dX0_lay_85 (by decide) (?_))
      exact lp_rm_lay hd hp hinj hl h n (k + 1) _ (by omega) (rowIs_of hr2 (by funext z; simp [ui]) (by funext z; simp [ui])) (layC_step hI (by omega) hinj)
    refine ev_iload (pc := 25) dX0_lay_25 rfl (ev_bipush (pc := 27) (v := (12)) dX0_lay_27 bipush_c12 (ev_ncmp_ge (pc := 29) 88 (k) (12) dX0_lay_29 (by decide) (rfl) (rfl) (by omega) (by omega) (kt := fun c => absurd c (by omega)) (kf := fun c29 => ev_aload_n (pc := 32) dX0_lay_32 rfl (ev_iload (pc := 33) dX0_lay_33 rfl (ev_invV (pc := 35) kV_0_84 dX0_lay_35 rfl rfl rfl (by omega) rfl ?_)))))
    refine t_rm_at hr (by omega) ?_
    rw [if_pos (show k < ps.length by omega)]
    have hne : ¬ nI (ps.getD k 0) = -1 := fun e => absurd (e ▸ nI_pos (n := ps.getD k 0) (by omega)) (by decide)
    refine ev_iconst (pc := 38) (v := (-1)) dX0_lay_38 iconst_cm1 (ev_icmp_eq (pc := 39) 88 dX0_lay_39 (by decide) (kt := fun c => absurd c (hne)) (kf := fun c39 => ev_aload_n (pc := 42) dX0_lay_42 rfl (ev_aload_n (pc := 43) dX0_lay_43 rfl (ev_iload (pc := 44) dX0_lay_44 rfl (ev_invV (pc := 46) kV_0_84 dX0_lay_46 rfl rfl rfl (by omega) rfl ?_)))))
    refine t_rm_at hr (by omega) ?_
    rw [if_pos (show k < ps.length by omega)]
    by_cases hk0 : k = 0
    · refine ev_iload (pc := 49) dX0_lay_49 rfl (ev_if_ne (pc := 51) 58 dX0_lay_51 (by decide) (kt := fun c => absurd (by rw [hk0]; rfl) c) (kf := fun c51 => ev_iconst (pc := 54) (v := (1)) dX0_lay_54 iconst_c1 (ev_goto (pc := 55) 59 dX0_lay_55 (by decide) (?_))))
      rw [if_pos hk0] at tail
      exact tail
    · refine ev_iload (pc := 49) dX0_lay_49 rfl (ev_if_ne (pc := 51) 58 dX0_lay_51 (by decide) (kf := fun c => absurd c (nI_ne0 (by omega) (by omega))) (kt := fun c51 => ev_iconst (pc := 58) (v := (2)) dX0_lay_58 iconst_c2 (?_)))
      rw [if_neg hk0] at tail
      exact tail
theorem t_rm_lay (hd : 1 ≤ d) {nm : Nat} (hnm : nm < 30) {sty : Int32} {ps : List Nat} (hp : ∀ i, i < ps.length → ps.getD i 0 < 40) (hinj : ∀ i j, i < ps.length → j < ps.length → ps.getD i 0 = ps.getD j 0 → i = j) (hl : 0 < ps.length) (hr : rowIs I 80 81 ps) (h : ∀ I', layD I I' nm sty ps → Q none (I', J, KR p)) : T d me_X0_lay [.ref 2, .int (nI nm), .int sty, .ref 80] L I J p Q := by
  have r2 := hr.2.1
  refine am_enter [some (.ref 2), some (.int (nI nm)), some (.int sty), some (.ref 80), none] rfl rfl rfl rfl ?_
  refine ev_iload_n (pc := 0) dX0_lay_0 rfl (ev_if_lt (pc := 1) 10 dX0_lay_1 (by decide) (kt := fun c => absurd c (nI_pos (by omega))) (kf := fun c1 => ev_iload_n (pc := 4) dX0_lay_4 rfl (ev_bipush (pc := 5) (v := (30)) dX0_lay_5 bipush_c30 (ev_ncmp_lt (pc := 7) 11 (nm) (30) dX0_lay_7 (by decide) (rfl) (rfl) (by omega) (by omega) (kf := fun c => absurd c (by omega)) (kt := fun c7 => ev_aload_n (pc := 11) dX0_lay_11 rfl (ev_getr (pc := 12) kF_0_27 dX0_lay_12 rfl rfl rfl (ev_iload_n (pc := 15) dX0_lay_15 rfl (ev_aload_n (pc := 16) dX0_lay_16 rfl (ev_iconst (pc := 17) (v := (0)) dX0_lay_17 iconst_c0 (ev_invV (pc := 18) kV_0_84 dX0_lay_18 rfl rfl rfl (by omega) rfl ?_))))))))))
  refine t_rm_at (k := 0) hr (by omega) ?_
  rw [if_pos hl]
  refine ev_iast (pc := 21) (i := nm) dX0_lay_21 rfl rfl (rfl) (by omega) rfl (ev_iconst (pc := 22) (v := (0)) dX0_lay_22 iconst_c0 (ev_istore (pc := 23) dX0_lay_23 rfl (?_)))
  exact lp_rm_lay hd hp hinj hl h ps.length 0 _ (by omega) (rowIs_of hr (by funext z; simp [ui]) (by funext z; simp [ui])) (layC_0 I nm sty ps)
theorem en_tr_lay (hd : 1 ≤ d) {nm : Nat} {sty : Int32} {ps : List Nat} (hp : ∀ i, i < ps.length → ps.getD i 0 < 40) (hl : 0 < ps.length) {k : Nat} {I1 : Nat → Nat → Int32} (hr : rowIs I1 15 16 ps) (hI : layC I I1 nm sty ps ps.length) (h : ∀ I', layD I I' nm sty ps → Q none (I', J, KR p)) : E me_X0_lay d L 88 [some (.ref 2), some (.int (nI nm)), some (.int sty), some (.ref 15), some (.int (nI k))] [] I1 J p Q := by
  have r2 := hr.2.1
  refine ev_aload_n (pc := 88) dX0_lay_88 rfl (ev_aload_n (pc := 89) dX0_lay_89 rfl (ev_iconst (pc := 90) (v := (0)) dX0_lay_90 iconst_c0 (ev_invV (pc := 91) kV_0_84 dX0_lay_91 rfl rfl rfl (by omega) rfl ?_)))
  refine t_tr_at (k := 0) hr (by omega) ?_
  rw [if_pos hl]
  refine ev_aload_n (pc := 94) dX0_lay_94 rfl (ev_geti (pc := 95) kF_0_97 dX0_lay_95 rfl rfl (ev_invV (pc := 98) kV_0_100 dX0_lay_98 rfl rfl rfl (by omega) rfl ?_))
  rw [hr.1]
  refine t_tellLength (hp 0 hl) _ ?_
  refine ev_vret (pc := 101) dX0_lay_101 rfl ?_
  exact h _ ⟨I1, hI, rfl⟩
theorem lp_tr_lay (hd : 1 ≤ d) {nm : Nat} {sty : Int32} {ps : List Nat} (hp : ∀ i, i < ps.length → ps.getD i 0 < 40) (hinj : ∀ i j, i < ps.length → j < ps.length → ps.getD i 0 = ps.getD j 0 → i = j) (hl : 0 < ps.length) (h : ∀ I', layD I I' nm sty ps → Q none (I', J, KR p)) : ∀ (n k : Nat) (I1 : Nat → Nat → Int32), k + n = ps.length → rowIs I1 15 16 ps → layC I I1 nm sty ps k → E me_X0_lay d L 25 [some (.ref 2), some (.int (nI nm)), some (.int sty), some (.ref 15), some (.int (nI k))] [] I1 J p Q
  | 0, k, I1, hk, hr, hI => by
    have r2 := hr.2.1
    have hk' : k = ps.length := by omega
    subst hk'
    refine ev_iload (pc := 25) dX0_lay_25 rfl (ev_bipush (pc := 27) (v := (12)) dX0_lay_27 bipush_c12 (ev_ncmp_ge (pc := 29) 88 (ps.length) (12) dX0_lay_29 (by decide) (rfl) (rfl) (by omega) (by omega) (fun c29 => ?_) (fun c29 => ?_)))
    · exact en_tr_lay hd hp hl hr hI h
    · refine ev_aload_n (pc := 32) dX0_lay_32 rfl (ev_iload (pc := 33) dX0_lay_33 rfl (ev_invV (pc := 35) kV_0_84 dX0_lay_35 rfl rfl rfl (by omega) rfl ?_))
      refine t_tr_at hr (by omega) ?_
      rw [if_neg (by omega)]
      refine ev_iconst (pc := 38) (v := (-1)) dX0_lay_38 iconst_cm1 (ev_icmp_eq (pc := 39) 88 dX0_lay_39 (by decide) (kf := fun c => absurd (rfl) c) (kt := fun c39 => ?_))
      exact en_tr_lay hd hp hl hr hI h
  | n + 1, k, I1, hk, hr, hI => by
    have r2 := hr.2.1
    have hq := hp k (by omega)
    have tail : E me_X0_lay d L 59 [some (.ref 2), some (.int (nI nm)), some (.int sty), some (.ref 15), some (.int (nI k))] [.int (if k = 0 then 1 else 2), .int (nI (ps.getD k 0)), .ref 2] I1 J p Q := by
      refine ev_iload_n (pc := 59) dX0_lay_59 rfl (ev_aload_n (pc := 60) dX0_lay_60 rfl (ev_iload (pc := 61) dX0_lay_61 rfl (ev_iconst (pc := 63) (v := (1)) dX0_lay_63 iconst_c1 (ev_iadd (pc := 64) dX0_lay_64 (ev_invV (pc := 65) kV_0_84 dX0_lay_65 rfl rfl rfl (by omega) rfl ?_)))))
      rw [show nI k + 1 = nI (k + 1) from nI_1 k]
      refine t_tr_at hr (by omega) ?_
      refine ev_invV (pc := 68) kV_0_89 dX0_lay_68 rfl rfl rfl (by omega) rfl ?_
      refine t_putPage hq _ _ _ ?_
      refine ev_aload_n (pc := 71) dX0_lay_71 rfl (ev_aload_n (pc := 72) dX0_lay_72 rfl (ev_iload (pc := 73) dX0_lay_73 rfl (ev_invV (pc := 75) kV_0_84 dX0_lay_75 rfl rfl rfl (by omega) rfl ?_)))
      have hr2 : rowIs (ui (ui (ui I1 3 (ps.getD k 0) (if k = 0 then 1 else 2)) 4 (ps.getD k 0) sty) 6 (ps.getD k 0) (if k + 1 < ps.length then nI (ps.getD (k + 1) 0) else -1)) 15 16 ps := rowIs_of hr (by funext z; simp [ui]) (by funext z; simp [ui])
      refine t_tr_at hr2 (by omega) ?_
      rw [if_pos (show k < ps.length by omega)]
      refine ev_iload_n (pc := 78) dX0_lay_78 rfl (ev_invV (pc := 79) kV_0_93 dX0_lay_79 rfl rfl rfl (by omega) rfl ?_)
      refine t_own hq _ ?_
      refine ev_iinc (pc := 82) dX0_lay_82 rfl (iinc_1 _) rfl (ev_goto (pc := 85) 25 dX0_lay_85 (by decide) (?_))
      exact lp_tr_lay hd hp hinj hl h n (k + 1) _ (by omega) (rowIs_of hr2 (by funext z; simp [ui]) (by funext z; simp [ui])) (layC_step hI (by omega) hinj)
    refine ev_iload (pc := 25) dX0_lay_25 rfl (ev_bipush (pc := 27) (v := (12)) dX0_lay_27 bipush_c12 (ev_ncmp_ge (pc := 29) 88 (k) (12) dX0_lay_29 (by decide) (rfl) (rfl) (by omega) (by omega) (kt := fun c => absurd c (by omega)) (kf := fun c29 => ev_aload_n (pc := 32) dX0_lay_32 rfl (ev_iload (pc := 33) dX0_lay_33 rfl (ev_invV (pc := 35) kV_0_84 dX0_lay_35 rfl rfl rfl (by omega) rfl ?_)))))
    refine t_tr_at hr (by omega) ?_
    rw [if_pos (show k < ps.length by omega)]
    have hne : ¬ nI (ps.getD k 0) = -1 := fun e => absurd (e ▸ nI_pos (n := ps.getD k 0) (by omega)) (by decide)
    refine ev_iconst (pc := 38) (v := (-1)) dX0_lay_38 iconst_cm1 (ev_icmp_eq (pc := 39) 88 dX0_lay_39 (by decide) (kt := fun c => absurd c (hne)) (kf := fun c39 => ev_aload_n (pc := 42) dX0_lay_42 rfl (ev_aload_n (pc := 43) dX0_lay_43 rfl (ev_iload (pc := 44) dX0_lay_44 rfl (ev_invV (pc := 46) kV_0_84 dX0_lay_46 rfl rfl rfl (by omega) rfl ?_)))))
    refine t_tr_at hr (by omega) ?_
    rw [if_pos (show k < ps.length by omega)]
    by_cases hk0 : k = 0
    · refine ev_iload (pc := 49) dX0_lay_49 rfl (ev_if_ne (pc := 51) 58 dX0_lay_51 (by decide) (kt := fun c => absurd (by rw [hk0]; rfl) c) (kf := fun c51 => ev_iconst (pc := 54) (v := (1)) dX0_lay_54 iconst_c1 (ev_goto (pc := 55) 59 dX0_lay_55 (by decide) (?_))))
      rw [if_pos hk0] at tail
      exact tail
    · refine ev_iload (pc := 49) dX0_lay_49 rfl (ev_if_ne (pc := 51) 58 dX0_lay_51 (by decide) (kf := fun c => absurd c (nI_ne0 (by omega) (by omega))) (kt := fun c51 => ev_iconst (pc := 58) (v := (2)) dX0_lay_58 iconst_c2 (?_)))
      rw [if_neg hk0] at tail
      exact tail
theorem t_tr_lay (hd : 1 ≤ d) {nm : Nat} (hnm : nm < 30) {sty : Int32} {ps : List Nat} (hp : ∀ i, i < ps.length → ps.getD i 0 < 40) (hinj : ∀ i j, i < ps.length → j < ps.length → ps.getD i 0 = ps.getD j 0 → i = j) (hl : 0 < ps.length) (hr : rowIs I 15 16 ps) (h : ∀ I', layD I I' nm sty ps → Q none (I', J, KR p)) : T d me_X0_lay [.ref 2, .int (nI nm), .int sty, .ref 15] L I J p Q := by
  have r2 := hr.2.1
  refine am_enter [some (.ref 2), some (.int (nI nm)), some (.int sty), some (.ref 15), none] rfl rfl rfl rfl ?_
  refine ev_iload_n (pc := 0) dX0_lay_0 rfl (ev_if_lt (pc := 1) 10 dX0_lay_1 (by decide) (kt := fun c => absurd c (nI_pos (by omega))) (kf := fun c1 => ev_iload_n (pc := 4) dX0_lay_4 rfl (ev_bipush (pc := 5) (v := (30)) dX0_lay_5 bipush_c30 (ev_ncmp_lt (pc := 7) 11 (nm) (30) dX0_lay_7 (by decide) (rfl) (rfl) (by omega) (by omega) (kf := fun c => absurd c (by omega)) (kt := fun c7 => ev_aload_n (pc := 11) dX0_lay_11 rfl (ev_getr (pc := 12) kF_0_27 dX0_lay_12 rfl rfl rfl (ev_iload_n (pc := 15) dX0_lay_15 rfl (ev_aload_n (pc := 16) dX0_lay_16 rfl (ev_iconst (pc := 17) (v := (0)) dX0_lay_17 iconst_c0 (ev_invV (pc := 18) kV_0_84 dX0_lay_18 rfl rfl rfl (by omega) rfl ?_))))))))))
  refine t_tr_at (k := 0) hr (by omega) ?_
  rw [if_pos hl]
  refine ev_iast (pc := 21) (i := nm) dX0_lay_21 rfl rfl (rfl) (by omega) rfl (ev_iconst (pc := 22) (v := (0)) dX0_lay_22 iconst_c0 (ev_istore (pc := 23) dX0_lay_23 rfl (?_)))
  exact lp_tr_lay hd hp hinj hl h ps.length 0 _ (by omega) (rowIs_of hr (by funext z; simp [ui]) (by funext z; simp [ui])) (layC_0 I nm sty ps)
theorem t_jempty (h : Q none (ui I 9 3 0, J, KR p)) : T d me_X4_empty [.ref 9] L I J p Q := by
  refine am_enter [some (.ref 9)] rfl rfl rfl rfl ?_
  refine ev_aload_n (pc := 0) dX4_empty_0 rfl (ev_iconst (pc := 1) (v := (0)) dX4_empty_1 iconst_c0 (ev_puti (pc := 2) kF_4_21 dX4_empty_2 rfl rfl rfl rfl rfl (ev_vret (pc := 5) dX4_empty_5 rfl ?_)))
  exact h
theorem lp_enter (hd : 1 ≤ d) {n f s : Int32} {z : Nat} (hz : I 9 3 = nI z) (hz6 : z ≤ 6) (h : ∀ I', entC I I' n f s z → Q none (I', J, KR p)) : ∀ (k : Nat) (I1 : Nat → Nat → Int32), k ≤ 5 → (∀ a, (a < 10 ∨ 12 < a) → I1 a = I a) → (∀ j, j < 6 → (k < j → I1 10 j = I 10 (j - 1) ∧ I1 11 j = I 11 (j - 1) ∧ I1 12 j = I 12 (j - 1)) ∧ (j ≤ k → I1 10 j = I 10 j ∧ I1 11 j = I 11 j ∧ I1 12 j = I 12 j)) → E me_X4_enter d L 3 [some (.ref 9), some (.int n), some (.int f), some (.int s), some (.int (nI k))] [] I1 J p Q
  | 0, I1, hk, hI, hj => by
    refine ev_iload (pc := 3) dX4_enter_3 rfl (ev_if_le (pc := 5) 62 dX4_enter_5 (by decide) (kf := fun c => absurd (by decide) c) (kt := fun c5 => ev_aload_n (pc := 62) dX4_enter_62 rfl (ev_getr (pc := 63) kF_4_9 dX4_enter_63 rfl rfl rfl (ev_iconst (pc := 66) (v := (0)) dX4_enter_66 iconst_c0 (ev_iload_n (pc := 67) dX4_enter_67 rfl (ev_iast (pc := 68) (i := 0) dX4_enter_68 rfl rfl (rfl) (by omega) rfl (ev_aload_n (pc := 69) dX4_enter_69 rfl (ev_getr (pc := 70) kF_4_15 dX4_enter_70 rfl rfl rfl (ev_iconst (pc := 73) (v := (0)) dX4_enter_73 iconst_c0 (ev_iload_n (pc := 74) dX4_enter_74 rfl (ev_iast (pc := 75) (i := 0) dX4_enter_75 rfl rfl (rfl) (by omega) rfl (ev_aload_n (pc := 76) dX4_enter_76 rfl (ev_getr (pc := 77) kF_4_18 dX4_enter_77 rfl rfl rfl (ev_iconst (pc := 80) (v := (0)) dX4_enter_80 iconst_c0 (ev_iload_n (pc := 81) dX4_enter_81 rfl (ev_iast (pc := 82) (i := 0) dX4_enter_82 rfl rfl (rfl) (by omega) rfl (ev_aload_n (pc := 83) dX4_enter_83 rfl (ev_aload_n (pc := 84) dX4_enter_84 rfl (ev_geti (pc := 85) kF_4_21 dX4_enter_85 rfl rfl (ev_iconst (pc := 88) (v := (1)) dX4_enter_88 iconst_c1 (ev_iadd (pc := 89) dX4_enter_89 (ev_bipush (pc := 90) (v := (6)) dX4_enter_90 bipush_c6 (ev_min (pc := 92) kM_4_31 dX4_enter_92 (by omega) rfl ⟨Nat.le_refl _, Nat.le_refl _⟩ (ev_puti (pc := 95) kF_4_21 dX4_enter_95 rfl rfl rfl rfl rfl (ev_vret (pc := 98) dX4_enter_98 rfl ?_)))))))))))))))))))))))))
    have e9 : ui (ui (ui I1 10 0 n) 11 0 f) 12 0 s 9 3 = nI z := by
      simp only [ui]
      rw [if_neg (by omega), if_neg (by omega), if_neg (by omega), hI 9 (by omega), hz]
    rw [e9, nI_1]
    have e6 : (if (6 : Int32) < nI (z + 1) then (6 : Int32) else nI (z + 1)) = nI (if 6 < z + 1 then 6 else z + 1) := by
      show (if nI 6 < nI (z + 1) then nI 6 else nI (z + 1)) = _
      by_cases hc : 6 < z + 1
      · rw [if_pos hc, if_pos ((nI_ltI (a := 6) (by decide) (by omega)).mpr hc)]
      · rw [if_neg hc, if_neg (mt (nI_ltI (a := 6) (by decide) (by omega)).mp hc)]
    rw [e6]
    refine h _ ⟨fun j hj6 => ?_, by simp [ui], fun a ha => ?_⟩
    · by_cases e : j = 0
      · subst e
        simp [ui]
      · obtain ⟨g1, g2, g3⟩ := (hj j hj6).1 (by omega)
        simp [ui, e, g1, g2, g3]
    · rw [← hI a (by omega)]
      funext j
      simp only [ui]
      rw [if_neg (by omega), if_neg (by omega), if_neg (by omega), if_neg (by omega)]
  | k + 1, I1, hk, hI, hj => by
    refine ev_iload (pc := 3) dX4_enter_3 rfl (ev_if_le (pc := 5) 62 dX4_enter_5 (by decide) (kt := fun c => absurd c (nI_nle (by omega) (by omega))) (kf := fun c5 => ev_aload_n (pc := 8) dX4_enter_8 rfl (ev_getr (pc := 9) kF_4_9 dX4_enter_9 rfl rfl rfl (ev_iload (pc := 12) dX4_enter_12 rfl (ev_aload_n (pc := 14) dX4_enter_14 rfl (ev_getr (pc := 15) kF_4_9 dX4_enter_15 rfl rfl rfl (ev_iload (pc := 18) dX4_enter_18 rfl (ev_iconst (pc := 20) (v := (1)) dX4_enter_20 iconst_c1 (ev_isub (pc := 21) dX4_enter_21 (?_))))))))))
    rw [nI_pred]
    refine ev_iald (pc := 22) (i := k) dX4_enter_22 rfl (rfl) (by omega) rfl (ev_iast (pc := 23) (i := k + 1) dX4_enter_23 rfl rfl (rfl) (by omega) rfl (ev_aload_n (pc := 24) dX4_enter_24 rfl (ev_getr (pc := 25) kF_4_15 dX4_enter_25 rfl rfl rfl (ev_iload (pc := 28) dX4_enter_28 rfl (ev_aload_n (pc := 30) dX4_enter_30 rfl (ev_getr (pc := 31) kF_4_15 dX4_enter_31 rfl rfl rfl (ev_iload (pc := 34) dX4_enter_34 rfl (ev_iconst (pc := 36) (v := (1)) dX4_enter_36 iconst_c1 (ev_isub (pc := 37) dX4_enter_37 (?_))))))))))
    rw [nI_pred]
    refine ev_iald (pc := 38) (i := k) dX4_enter_38 rfl (rfl) (by omega) rfl (ev_iast (pc := 39) (i := k + 1) dX4_enter_39 rfl rfl (rfl) (by omega) rfl (ev_aload_n (pc := 40) dX4_enter_40 rfl (ev_getr (pc := 41) kF_4_18 dX4_enter_41 rfl rfl rfl (ev_iload (pc := 44) dX4_enter_44 rfl (ev_aload_n (pc := 46) dX4_enter_46 rfl (ev_getr (pc := 47) kF_4_18 dX4_enter_47 rfl rfl rfl (ev_iload (pc := 50) dX4_enter_50 rfl (ev_iconst (pc := 52) (v := (1)) dX4_enter_52 iconst_c1 (ev_isub (pc := 53) dX4_enter_53 (?_))))))))))
    rw [nI_pred]
    refine ev_iald (pc := 54) (i := k) dX4_enter_54 rfl (rfl) (by omega) rfl (ev_iast (pc := 55) (i := k + 1) dX4_enter_55 rfl rfl (rfl) (by omega) rfl (ev_iinc (pc := 56) dX4_enter_56 rfl ( iinc_d _) rfl (ev_goto (pc := 59) 3 dX4_enter_59 (by decide) (?_))))
    refine lp_enter hd hz hz6 h k _ (by omega) (fun a ha => ?_) fun j hj6 => ⟨fun hkj => ?_, fun hjk => ?_⟩
    · rw [← hI a ha]
      funext j
      simp only [ui]
      rw [if_neg (by omega), if_neg (by omega), if_neg (by omega)]
    · by_cases e : j = k + 1
      · subst e
        obtain ⟨g1, g2, g3⟩ := (hj k (by omega)).2 (by omega)
        simp [ui, g1, g2, g3]
      · obtain ⟨g1, g2, g3⟩ := (hj j hj6).1 (by omega)
        simp [ui, e, g1, g2, g3]
    · obtain ⟨g1, g2, g3⟩ := (hj j hj6).2 (by omega)
      have e : j ≠ k + 1 := by omega
      simp [ui, e, g1, g2, g3]
theorem t_enter (hd : 1 ≤ d) {n f s : Int32} {z : Nat} (hz : I 9 3 = nI z) (hz6 : z ≤ 6) (h : ∀ I', entC I I' n f s z → Q none (I', J, KR p)) : T d me_X4_enter [.ref 9, .int n, .int f, .int s] L I J p Q := by
  refine am_enter [some (.ref 9), some (.int n), some (.int f), some (.int s), none] rfl rfl rfl rfl ?_
  refine ev_iconst (pc := 0) (v := (5)) dX4_enter_0 iconst_c5 (ev_istore (pc := 1) dX4_enter_1 rfl (?_))
  exact lp_enter hd hz hz6 h 5 I (by omega) (fun _ _ => rfl) fun j hj => ⟨fun _ => by omega, fun _ => ⟨rfl, rfl, rfl⟩⟩
end T17
