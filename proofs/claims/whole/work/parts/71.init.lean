/-! ===== the constructors ===== -/
def PS (L n : Nat) : am_S := (SH L).take n
def fl (I : Nat → Nat → Int32) (c lo hi : Nat) (v : Int32) : Nat → Nat → Int32 := fun b j => if b = c ∧ lo ≤ j ∧ j < hi then v else I b j
def iX4 (I : Nat → Nat → Int32) (a : Nat) : Nat → Nat → Int32 := ci (ci (ci I (a + 1)) (a + 2)) (a + 3)
def kX4 (K : Nat → Nat → Option Nat) (a : Nat) : Nat → Nat → Option Nat := uk (ck (uk (ck (uk (ck K (a + 1)) a 0 (some (a + 1))) (a + 2)) a 1 (some (a + 2))) (a + 3)) a 2 (some (a + 3))
def iX5 (I : Nat → Nat → Int32) (a : Nat) : Nat → Nat → Int32 := ci I (a + 1)
def kX5 (K : Nat → Nat → Option Nat) (a : Nat) : Nat → Nat → Option Nat := uk (ck K (a + 1)) a 0 (some (a + 1))
def iX0a (I : Nat → Nat → Int32) (a : Nat) : Nat → Nat → Int32 := iX4 (ci (ci (ci (ci (ci (ci (ci I (a + 1)) (a + 2)) (a + 3)) (a + 4)) (a + 5)) (a + 6)) (a + 7)) (a + 7)
def iX0 (I : Nat → Nat → Int32) (a : Nat) : Nat → Nat → Int32 := fl (fl (fl (iX0a I a) (a + 4) 0 40 (-1)) (a + 5) 0 40 (-1)) (a + 6) 0 30 (-1)
def kX0 (K : Nat → Nat → Option Nat) (a : Nat) : Nat → Nat → Option Nat := uk (kX4 (ck (uk (ck (uk (ck (uk (ck (uk (ck (uk (ck (uk (ck K (a + 1)) a 0 (some (a + 1))) (a + 2)) a 1 (some (a + 2))) (a + 3)) a 2 (some (a + 3))) (a + 4)) a 3 (some (a + 4))) (a + 5)) a 4 (some (a + 5))) (a + 6)) a 5 (some (a + 6))) (a + 7)) (a + 7)) a 6 (some (a + 7))
theorem fl_step {I : Nat → Nat → Int32} {c lo i : Nat} {v : Int32} (h : lo ≤ i) : ui (fl I c lo i v) c i v = fl I c lo (i + 1) v := by
  funext b j
  simp only [ui, fl]
  by_cases e : b = c ∧ j = i
  · rw [if_pos e, if_pos (by omega)]
  · rw [if_neg e]
    by_cases e2 : b = c ∧ lo ≤ j ∧ j < i
    · rw [if_pos e2, if_pos (by omega)]
    · rw [if_neg e2, if_neg (by omega)]
theorem fl_0 {I : Nat → Nat → Int32} {c lo : Nat} {v : Int32} : fl I c lo lo v = I := by
  funext b j
  simp only [fl]
  rw [if_neg (by omega)]
theorem fl_ui {I : Nat → Nat → Int32} {c c2 lo hi i : Nat} {v w : Int32} (h : c ≠ c2) : ui (fl I c lo hi v) c2 i w = fl (ui I c2 i w) c lo hi v := by
  funext b j
  simp only [ui, fl]
  by_cases e : b = c2 ∧ j = i
  · rw [if_pos e, if_neg (by omega), if_pos e]
  · rw [if_neg e, if_neg e]
section T71
variable {d L : Nat} {I : Nat → Nat → Int32} {J : Nat → Nat → Int64} {K : Nat → Nat → Option Nat} {Q : Option Value → am_M → Prop}
theorem i_X4_9 (hd : 1 ≤ d) (h : ∀ J', Q none (iX4 I 9, J', kX4 K 9)) : am_Mt d me_X4_init [.ref 9] (PS L 10) (PS L 13) (I, J, K) Q := by
  refine am_enter [some (.ref 9)] rfl rfl rfl rfl ?_
  refine ev_aload_n (pc := 0) dX4_init_0 rfl (ev_obj (pc := 1) kO_4_3 dX4_init_1 (by omega) rfl (ev_aload_n (pc := 4) dX4_init_4 rfl (ev_bipush (pc := 5) (v := (6)) dX4_init_5 bipush_c6 (ev_newa (pc := 7) (N := 6) 9 (Or.inl ⟨rfl, rfl⟩) dX4_init_7 rfl rfl rfl (ev_putr (pc := 9) kD_4_9 dX4_init_9 rfl rfl rfl rfl rfl (Or.inr ⟨_, rfl⟩) (ev_aload_n (pc := 12) dX4_init_12 rfl (ev_bipush (pc := 13) (v := (6)) dX4_init_13 bipush_c6 (ev_newa (pc := 15) (N := 6) 9 (Or.inl ⟨rfl, rfl⟩) dX4_init_15 rfl rfl rfl (ev_putr (pc := 17) kD_4_15 dX4_init_17 rfl rfl rfl rfl rfl (Or.inr ⟨_, rfl⟩) (ev_aload_n (pc := 20) dX4_init_20 rfl (ev_bipush (pc := 21) (v := (6)) dX4_init_21 bipush_c6 (ev_newa (pc := 23) (N := 6) 9 (Or.inl ⟨rfl, rfl⟩) dX4_init_23 rfl rfl rfl (ev_putr (pc := 25) kD_4_18 dX4_init_25 rfl rfl rfl rfl rfl (Or.inr ⟨_, rfl⟩) (ev_vret (pc := 28) dX4_init_28 rfl ?_))))))))))))))
  exact h _
theorem i_X4_30 (hd : 1 ≤ d) (h : ∀ J', Q none (iX4 I 30, J', kX4 K 30)) : am_Mt d me_X4_init [.ref 30] (PS L 31) (PS L 34) (I, J, K) Q := by
  refine am_enter [some (.ref 30)] rfl rfl rfl rfl ?_
  refine ev_aload_n (pc := 0) dX4_init_0 rfl (ev_obj (pc := 1) kO_4_3 dX4_init_1 (by omega) rfl (ev_aload_n (pc := 4) dX4_init_4 rfl (ev_bipush (pc := 5) (v := (6)) dX4_init_5 bipush_c6 (ev_newa (pc := 7) (N := 6) 9 (Or.inl ⟨rfl, rfl⟩) dX4_init_7 rfl rfl rfl (ev_putr (pc := 9) kD_4_9 dX4_init_9 rfl rfl rfl rfl rfl (Or.inr ⟨_, rfl⟩) (ev_aload_n (pc := 12) dX4_init_12 rfl (ev_bipush (pc := 13) (v := (6)) dX4_init_13 bipush_c6 (ev_newa (pc := 15) (N := 6) 9 (Or.inl ⟨rfl, rfl⟩) dX4_init_15 rfl rfl rfl (ev_putr (pc := 17) kD_4_15 dX4_init_17 rfl rfl rfl rfl rfl (Or.inr ⟨_, rfl⟩) (ev_aload_n (pc := 20) dX4_init_20 rfl (ev_bipush (pc := 21) (v := (6)) dX4_init_21 bipush_c6 (ev_newa (pc := 23) (N := 6) 9 (Or.inl ⟨rfl, rfl⟩) dX4_init_23 rfl rfl rfl (ev_putr (pc := 25) kD_4_18 dX4_init_25 rfl rfl rfl rfl rfl (Or.inr ⟨_, rfl⟩) (ev_vret (pc := 28) dX4_init_28 rfl ?_))))))))))))))
  exact h _
theorem i_X4_41 (hd : 1 ≤ d) (h : ∀ J', Q none (iX4 I 41, J', kX4 K 41)) : am_Mt d me_X4_init [.ref 41] (PS L 42) (PS L 45) (I, J, K) Q := by
  refine am_enter [some (.ref 41)] rfl rfl rfl rfl ?_
  refine ev_aload_n (pc := 0) dX4_init_0 rfl (ev_obj (pc := 1) kO_4_3 dX4_init_1 (by omega) rfl (ev_aload_n (pc := 4) dX4_init_4 rfl (ev_bipush (pc := 5) (v := (6)) dX4_init_5 bipush_c6 (ev_newa (pc := 7) (N := 6) 9 (Or.inl ⟨rfl, rfl⟩) dX4_init_7 rfl rfl rfl (ev_putr (pc := 9) kD_4_9 dX4_init_9 rfl rfl rfl rfl rfl (Or.inr ⟨_, rfl⟩) (ev_aload_n (pc := 12) dX4_init_12 rfl (ev_bipush (pc := 13) (v := (6)) dX4_init_13 bipush_c6 (ev_newa (pc := 15) (N := 6) 9 (Or.inl ⟨rfl, rfl⟩) dX4_init_15 rfl rfl rfl (ev_putr (pc := 17) kD_4_15 dX4_init_17 rfl rfl rfl rfl rfl (Or.inr ⟨_, rfl⟩) (ev_aload_n (pc := 20) dX4_init_20 rfl (ev_bipush (pc := 21) (v := (6)) dX4_init_21 bipush_c6 (ev_newa (pc := 23) (N := 6) 9 (Or.inl ⟨rfl, rfl⟩) dX4_init_23 rfl rfl rfl (ev_putr (pc := 25) kD_4_18 dX4_init_25 rfl rfl rfl rfl rfl (Or.inr ⟨_, rfl⟩) (ev_vret (pc := 28) dX4_init_28 rfl ?_))))))))))))))
  exact h _
theorem i_X4_52 (hd : 1 ≤ d) (h : ∀ J', Q none (iX4 I 52, J', kX4 K 52)) : am_Mt d me_X4_init [.ref 52] (PS L 53) (PS L 56) (I, J, K) Q := by
  refine am_enter [some (.ref 52)] rfl rfl rfl rfl ?_
  refine ev_aload_n (pc := 0) dX4_init_0 rfl (ev_obj (pc := 1) kO_4_3 dX4_init_1 (by omega) rfl (ev_aload_n (pc := 4) dX4_init_4 rfl (ev_bipush (pc := 5) (v := (6)) dX4_init_5 bipush_c6 (ev_newa (pc := 7) (N := 6) 9 (Or.inl ⟨rfl, rfl⟩) dX4_init_7 rfl rfl rfl (ev_putr (pc := 9) kD_4_9 dX4_init_9 rfl rfl rfl rfl rfl (Or.inr ⟨_, rfl⟩) (ev_aload_n (pc := 12) dX4_init_12 rfl (ev_bipush (pc := 13) (v := (6)) dX4_init_13 bipush_c6 (ev_newa (pc := 15) (N := 6) 9 (Or.inl ⟨rfl, rfl⟩) dX4_init_15 rfl rfl rfl (ev_putr (pc := 17) kD_4_15 dX4_init_17 rfl rfl rfl rfl rfl (Or.inr ⟨_, rfl⟩) (ev_aload_n (pc := 20) dX4_init_20 rfl (ev_bipush (pc := 21) (v := (6)) dX4_init_21 bipush_c6 (ev_newa (pc := 23) (N := 6) 9 (Or.inl ⟨rfl, rfl⟩) dX4_init_23 rfl rfl rfl (ev_putr (pc := 25) kD_4_18 dX4_init_25 rfl rfl rfl rfl rfl (Or.inr ⟨_, rfl⟩) (ev_vret (pc := 28) dX4_init_28 rfl ?_))))))))))))))
  exact h _
theorem i_X4_63 (hd : 1 ≤ d) (h : ∀ J', Q none (iX4 I 63, J', kX4 K 63)) : am_Mt d me_X4_init [.ref 63] (PS L 64) (PS L 67) (I, J, K) Q := by
  refine am_enter [some (.ref 63)] rfl rfl rfl rfl ?_
  refine ev_aload_n (pc := 0) dX4_init_0 rfl (ev_obj (pc := 1) kO_4_3 dX4_init_1 (by omega) rfl (ev_aload_n (pc := 4) dX4_init_4 rfl (ev_bipush (pc := 5) (v := (6)) dX4_init_5 bipush_c6 (ev_newa (pc := 7) (N := 6) 9 (Or.inl ⟨rfl, rfl⟩) dX4_init_7 rfl rfl rfl (ev_putr (pc := 9) kD_4_9 dX4_init_9 rfl rfl rfl rfl rfl (Or.inr ⟨_, rfl⟩) (ev_aload_n (pc := 12) dX4_init_12 rfl (ev_bipush (pc := 13) (v := (6)) dX4_init_13 bipush_c6 (ev_newa (pc := 15) (N := 6) 9 (Or.inl ⟨rfl, rfl⟩) dX4_init_15 rfl rfl rfl (ev_putr (pc := 17) kD_4_15 dX4_init_17 rfl rfl rfl rfl rfl (Or.inr ⟨_, rfl⟩) (ev_aload_n (pc := 20) dX4_init_20 rfl (ev_bipush (pc := 21) (v := (6)) dX4_init_21 bipush_c6 (ev_newa (pc := 23) (N := 6) 9 (Or.inl ⟨rfl, rfl⟩) dX4_init_23 rfl rfl rfl (ev_putr (pc := 25) kD_4_18 dX4_init_25 rfl rfl rfl rfl rfl (Or.inr ⟨_, rfl⟩) (ev_vret (pc := 28) dX4_init_28 rfl ?_))))))))))))))
  exact h _
theorem i_X4_74 (hd : 1 ≤ d) (h : ∀ J', Q none (iX4 I 74, J', kX4 K 74)) : am_Mt d me_X4_init [.ref 74] (PS L 75) (PS L 78) (I, J, K) Q := by
  refine am_enter [some (.ref 74)] rfl rfl rfl rfl ?_
  refine ev_aload_n (pc := 0) dX4_init_0 rfl (ev_obj (pc := 1) kO_4_3 dX4_init_1 (by omega) rfl (ev_aload_n (pc := 4) dX4_init_4 rfl (ev_bipush (pc := 5) (v := (6)) dX4_init_5 bipush_c6 (ev_newa (pc := 7) (N := 6) 9 (Or.inl ⟨rfl, rfl⟩) dX4_init_7 rfl rfl rfl (ev_putr (pc := 9) kD_4_9 dX4_init_9 rfl rfl rfl rfl rfl (Or.inr ⟨_, rfl⟩) (ev_aload_n (pc := 12) dX4_init_12 rfl (ev_bipush (pc := 13) (v := (6)) dX4_init_13 bipush_c6 (ev_newa (pc := 15) (N := 6) 9 (Or.inl ⟨rfl, rfl⟩) dX4_init_15 rfl rfl rfl (ev_putr (pc := 17) kD_4_15 dX4_init_17 rfl rfl rfl rfl rfl (Or.inr ⟨_, rfl⟩) (ev_aload_n (pc := 20) dX4_init_20 rfl (ev_bipush (pc := 21) (v := (6)) dX4_init_21 bipush_c6 (ev_newa (pc := 23) (N := 6) 9 (Or.inl ⟨rfl, rfl⟩) dX4_init_23 rfl rfl rfl (ev_putr (pc := 25) kD_4_18 dX4_init_25 rfl rfl rfl rfl rfl (Or.inr ⟨_, rfl⟩) (ev_vret (pc := 28) dX4_init_28 rfl ?_))))))))))))))
  exact h _
theorem lp_X0b_2 (M : Nat → Nat → Int32) (h : Q none (fl M 8 0 30 (-1), J, kX0 K 2)) : ∀ n i : Nat, i + n = 30 → am_Ev me_X0_init d (PS L 3) (PS L 13) 93 [some (.ref 2), some (.int (nI i))] [] (PS L 13) (fl M 8 0 i (-1), J, kX0 K 2) Q
  | 0, i, hi => by
    have e : i = 30 := by omega
    subst e
    refine ev_iload_n (pc := 93) dX0_init_93 rfl (ev_bipush (pc := 94) (v := (30)) dX0_init_94 bipush_c30 (ev_ncmp_ge (pc := 96) 112 (30) (30) dX0_init_96 (by decide) (rfl) (rfl) (by omega) (by omega) (kf := fun c => absurd c (by omega)) (kt := fun c96 => ev_vret (pc := 112) dX0_init_112 rfl ?_)))
    exact h
  | n + 1, i, hi => by
    refine ev_iload_n (pc := 93) dX0_init_93 rfl (ev_bipush (pc := 94) (v := (30)) dX0_init_94 bipush_c30 (ev_ncmp_ge (pc := 96) 112 (i) (30) dX0_init_96 (by decide) (rfl) (rfl) (by omega) (by omega) (kt := fun c => absurd c (by omega)) (kf := fun c96 => ?_)))
    refine ev_aload_n (pc := 99) dX0_init_99 rfl (ev_getr (pc := 100) kF_0_27 dX0_init_100 rfl rfl rfl (ev_iload_n (pc := 103) dX0_init_103 rfl (ev_iconst (pc := 104) (v := (-1)) dX0_init_104 iconst_cm1 (ev_iast (pc := 105) (i := i) dX0_init_105 rfl rfl (rfl) (by omega) rfl (ev_iinc (pc := 106) dX0_init_106 rfl (iinc_1 _) rfl (ev_goto (pc := 109) 93 dX0_init_109 (by decide) (?_)))))))
    rw [fl_step (Nat.zero_le i)]
    exact lp_X0b_2 M h n (i + 1) (by omega)
theorem lp_X0a_2 (M : Nat → Nat → Int32) (h : am_Ev me_X0_init d (PS L 3) (PS L 13) 91 [some (.ref 2), some (.int (nI 40))] [] (PS L 13) (fl (fl M 6 0 40 (-1)) 7 0 40 (-1), J, kX0 K 2) Q) : ∀ n i : Nat, i + n = 40 → am_Ev me_X0_init d (PS L 3) (PS L 13) 65 [some (.ref 2), some (.int (nI i))] [] (PS L 13) (fl (fl M 6 0 i (-1)) 7 0 i (-1), J, kX0 K 2) Q
  | 0, i, hi => by
    have e : i = 40 := by omega
    subst e
    refine ev_iload_n (pc := 65) dX0_init_65 rfl (ev_bipush (pc := 66) (v := (40)) dX0_init_66 bipush_c40 (ev_ncmp_ge (pc := 68) 91 (40) (40) dX0_init_68 (by decide) (rfl) (rfl) (by omega) (by omega) (kf := fun c => absurd c (by omega)) (kt := fun c68 => ?_)))
    exact h
  | n + 1, i, hi => by
    refine ev_iload_n (pc := 65) dX0_init_65 rfl (ev_bipush (pc := 66) (v := (40)) dX0_init_66 bipush_c40 (ev_ncmp_ge (pc := 68) 91 (i) (40) dX0_init_68 (by decide) (rfl) (rfl) (by omega) (by omega) (kt := fun c => absurd c (by omega)) (kf := fun c68 => ?_)))
    refine ev_aload_n (pc := 71) dX0_init_71 rfl (ev_getr (pc := 72) kF_0_21 dX0_init_72 rfl rfl rfl (ev_iload_n (pc := 75) dX0_init_75 rfl (ev_iconst (pc := 76) (v := (-1)) dX0_init_76 iconst_cm1 (ev_iast (pc := 77) (i := i) dX0_init_77 rfl rfl (rfl) (by omega) rfl (ev_aload_n (pc := 78) dX0_init_78 rfl (ev_getr (pc := 79) kF_0_24 dX0_init_79 rfl rfl rfl (ev_iload_n (pc := 82) dX0_init_82 rfl (ev_iconst (pc := 83) (v := (-1)) dX0_init_83 iconst_cm1 (ev_iast (pc := 84) (i := i) dX0_init_84 rfl rfl (rfl) (by omega) rfl (?_))))))))))
    rw [fl_ui (by decide), fl_step (Nat.zero_le i), fl_step (Nat.zero_le i)]
    refine ev_iinc (pc := 85) dX0_init_85 rfl (iinc_1 _) rfl (ev_goto (pc := 88) 65 dX0_init_88 (by decide) (?_))
    exact lp_X0a_2 M h n (i + 1) (by omega)
theorem i_X0_2 (hd : 2 ≤ d) (h : ∀ J', Q none (iX0 I 2, J', kX0 K 2)) : am_Mt d me_X0_init [.ref 2] (PS L 3) (PS L 13) (I, J, K) Q := by
  refine am_enter [some (.ref 2), none] rfl rfl rfl rfl ?_
  refine ev_aload_n (pc := 0) dX0_init_0 rfl (ev_obj (pc := 1) kO_0_3 dX0_init_1 (by omega) rfl (ev_aload_n (pc := 4) dX0_init_4 rfl (ev_bipush (pc := 5) (v := (40)) dX0_init_5 bipush_c40 (ev_newa (pc := 7) (N := 40) 9 (Or.inl ⟨rfl, rfl⟩) dX0_init_7 rfl rfl rfl (ev_putr (pc := 9) kD_0_9 dX0_init_9 rfl rfl rfl rfl rfl (Or.inr ⟨_, rfl⟩) (ev_aload_n (pc := 12) dX0_init_12 rfl (ev_bipush (pc := 13) (v := (40)) dX0_init_13 bipush_c40 (ev_newa (pc := 15) (N := 40) 9 (Or.inl ⟨rfl, rfl⟩) dX0_init_15 rfl rfl rfl (ev_putr (pc := 17) kD_0_15 dX0_init_17 rfl rfl rfl rfl rfl (Or.inr ⟨_, rfl⟩) (ev_aload_n (pc := 20) dX0_init_20 rfl (ev_bipush (pc := 21) (v := (40)) dX0_init_21 bipush_c40 (ev_newa (pc := 23) (N := 40) 9 (Or.inl ⟨rfl, rfl⟩) dX0_init_23 rfl rfl rfl (ev_putr (pc := 25) kD_0_18 dX0_init_25 rfl rfl rfl rfl rfl (Or.inr ⟨_, rfl⟩) (ev_aload_n (pc := 28) dX0_init_28 rfl (ev_bipush (pc := 29) (v := (40)) dX0_init_29 bipush_c40 (ev_newa (pc := 31) (N := 40) 9 (Or.inl ⟨rfl, rfl⟩) dX0_init_31 rfl rfl rfl (ev_putr (pc := 33) kD_0_21 dX0_init_33 rfl rfl rfl rfl rfl (Or.inr ⟨_, rfl⟩) (ev_aload_n (pc := 36) dX0_init_36 rfl (ev_bipush (pc := 37) (v := (40)) dX0_init_37 bipush_c40 (ev_newa (pc := 39) (N := 40) 9 (Or.inl ⟨rfl, rfl⟩) dX0_init_39 rfl rfl rfl (ev_putr (pc := 41) kD_0_24 dX0_init_41 rfl rfl rfl rfl rfl (Or.inr ⟨_, rfl⟩) (ev_aload_n (pc := 44) dX0_init_44 rfl (ev_bipush (pc := 45) (v := (30)) dX0_init_45 bipush_c30 (ev_newa (pc := 47) (N := 30) 9 (Or.inl ⟨rfl, rfl⟩) dX0_init_47 rfl rfl rfl (ev_putr (pc := 49) kD_0_27 dX0_init_49 rfl rfl rfl rfl rfl (Or.inr ⟨_, rfl⟩) (ev_aload_n (pc := 52) dX0_init_52 rfl (ev_new (pc := 53) kN_0_30 dX0_init_53 rfl rfl (ev_dup (pc := 56) dX0_init_56 rfl (ev_invIg (sh1 := PS L 13) (pc := 57) kI_0_32 dX0_init_57 rfl (by omega) rfl ⟨Nat.le_of_ble_eq_true rfl, Nat.le_of_ble_eq_true rfl, Nat.le_of_ble_eq_true rfl, Nat.le_of_ble_eq_true rfl, Nat.le_of_ble_eq_true rfl⟩ ?_)))))))))))))))))))))))))))))
  refine i_X4_9 (by omega) fun J' => ?_
  refine ev_putr (pc := 60) kD_0_33 dX0_init_60 rfl rfl rfl rfl rfl (Or.inl ⟨_, rfl⟩) (ev_iconst (pc := 63) (v := (0)) dX0_init_63 iconst_c0 (ev_istore_n (pc := 64) dX0_init_64 rfl (?_)))
  have := lp_X0a_2 (d := d) (L := L) (K := K) (J := J') (Q := Q) (iX0a I 2) (by
    refine ev_iconst (pc := 91) (v := (0)) dX0_init_91 iconst_c0 (ev_istore_n (pc := 92) dX0_init_92 rfl (?_))
    have := lp_X0b_2 (d := d) (L := L) (K := K) (J := J') (Q := Q) (fl (fl (iX0a I 2) 6 0 40 (-1)) 7 0 40 (-1)) (h J') 30 0 rfl
    rw [fl_0] at this
    exact this) 40 0 rfl
  rw [fl_0, fl_0] at this
  exact this
theorem lp_X0b_23 (M : Nat → Nat → Int32) (h : Q none (fl M 29 0 30 (-1), J, kX0 K 23)) : ∀ n i : Nat, i + n = 30 → am_Ev me_X0_init d (PS L 24) (PS L 34) 93 [some (.ref 23), some (.int (nI i))] [] (PS L 34) (fl M 29 0 i (-1), J, kX0 K 23) Q
  | 0, i, hi => by
    have e : i = 30 := by omega
    subst e
    refine ev_iload_n (pc := 93) dX0_init_93 rfl (ev_bipush (pc := 94) (v := (30)) dX0_init_94 bipush_c30 (ev_ncmp_ge (pc := 96) 112 (30) (30) dX0_init_96 (by decide) (rfl) (rfl) (by omega) (by omega) (kf := fun c => absurd c (by omega)) (kt := fun c96 => ev_vret (pc := 112) dX0_init_112 rfl ?_)))
    exact h
  | n + 1, i, hi => by
    refine ev_iload_n (pc := 93) dX0_init_93 rfl (ev_bipush (pc := 94) (v := (30)) dX0_init_94 bipush_c30 (ev_ncmp_ge (pc := 96) 112 (i) (30) dX0_init_96 (by decide) (rfl) (rfl) (by omega) (by omega) (kt := fun c => absurd c (by omega)) (kf := fun c96 => ?_)))
    refine ev_aload_n (pc := 99) dX0_init_99 rfl (ev_getr (pc := 100) kF_0_27 dX0_init_100 rfl rfl rfl (ev_iload_n (pc := 103) dX0_init_103 rfl (ev_iconst (pc := 104) (v := (-1)) dX0_init_104 iconst_cm1 (ev_iast (pc := 105) (i := i) dX0_init_105 rfl rfl (rfl) (by omega) rfl (ev_iinc (pc := 106) dX0_init_106 rfl (iinc_1 _) rfl (ev_goto (pc := 109) 93 dX0_init_109 (by decide) (?_)))))))
    rw [fl_step (Nat.zero_le i)]
    exact lp_X0b_23 M h n (i + 1) (by omega)
theorem lp_X0a_23 (M : Nat → Nat → Int32) (h : am_Ev me_X0_init d (PS L 24) (PS L 34) 91 [some (.ref 23), some (.int (nI 40))] [] (PS L 34) (fl (fl M 27 0 40 (-1)) 28 0 40 (-1), J, kX0 K 23) Q) : ∀ n i : Nat, i + n = 40 → am_Ev me_X0_init d (PS L 24) (PS L 34) 65 [some (.ref 23), some (.int (nI i))] [] (PS L 34) (fl (fl M 27 0 i (-1)) 28 0 i (-1), J, kX0 K 23) Q
  | 0, i, hi => by
    have e : i = 40 := by omega
    subst e
    refine ev_iload_n (pc := 65) dX0_init_65 rfl (ev_bipush (pc := 66) (v := (40)) dX0_init_66 bipush_c40 (ev_ncmp_ge (pc := 68) 91 (40) (40) dX0_init_68 (by decide) (rfl) (rfl) (by omega) (by omega) (kf := fun c => absurd c (by omega)) (kt := fun c68 => ?_)))
    exact h
  | n + 1, i, hi => by
    refine ev_iload_n (pc := 65) dX0_init_65 rfl (ev_bipush (pc := 66) (v := (40)) dX0_init_66 bipush_c40 (ev_ncmp_ge (pc := 68) 91 (i) (40) dX0_init_68 (by decide) (rfl) (rfl) (by omega) (by omega) (kt := fun c => absurd c (by omega)) (kf := fun c68 => ?_)))
    refine ev_aload_n (pc := 71) dX0_init_71 rfl (ev_getr (pc := 72) kF_0_21 dX0_init_72 rfl rfl rfl (ev_iload_n (pc := 75) dX0_init_75 rfl (ev_iconst (pc := 76) (v := (-1)) dX0_init_76 iconst_cm1 (ev_iast (pc := 77) (i := i) dX0_init_77 rfl rfl (rfl) (by omega) rfl (ev_aload_n (pc := 78) dX0_init_78 rfl (ev_getr (pc := 79) kF_0_24 dX0_init_79 rfl rfl rfl (ev_iload_n (pc := 82) dX0_init_82 rfl (ev_iconst (pc := 83) (v := (-1)) dX0_init_83 iconst_cm1 (ev_iast (pc := 84) (i := i) dX0_init_84 rfl rfl (rfl) (by omega) rfl (?_))))))))))
    rw [fl_ui (by decide), fl_step (Nat.zero_le i), fl_step (Nat.zero_le i)]
    refine ev_iinc (pc := 85) dX0_init_85 rfl (iinc_1 _) rfl (ev_goto (pc := 88) 65 dX0_init_88 (by decide) (?_))
    exact lp_X0a_23 M h n (i + 1) (by omega)
theorem i_X0_23 (hd : 2 ≤ d) (h : ∀ J', Q none (iX0 I 23, J', kX0 K 23)) : am_Mt d me_X0_init [.ref 23] (PS L 24) (PS L 34) (I, J, K) Q := by
  refine am_enter [some (.ref 23), none] rfl rfl rfl rfl ?_
  refine ev_aload_n (pc := 0) dX0_init_0 rfl (ev_obj (pc := 1) kO_0_3 dX0_init_1 (by omega) rfl (ev_aload_n (pc := 4) dX0_init_4 rfl (ev_bipush (pc := 5) (v := (40)) dX0_init_5 bipush_c40 (ev_newa (pc := 7) (N := 40) 9 (Or.inl ⟨rfl, rfl⟩) dX0_init_7 rfl rfl rfl (ev_putr (pc := 9) kD_0_9 dX0_init_9 rfl rfl rfl rfl rfl (Or.inr ⟨_, rfl⟩) (ev_aload_n (pc := 12) dX0_init_12 rfl (ev_bipush (pc := 13) (v := (40)) dX0_init_13 bipush_c40 (ev_newa (pc := 15) (N := 40) 9 (Or.inl ⟨rfl, rfl⟩) dX0_init_15 rfl rfl rfl (ev_putr (pc := 17) kD_0_15 dX0_init_17 rfl rfl rfl rfl rfl (Or.inr ⟨_, rfl⟩) (ev_aload_n (pc := 20) dX0_init_20 rfl (ev_bipush (pc := 21) (v := (40)) dX0_init_21 bipush_c40 (ev_newa (pc := 23) (N := 40) 9 (Or.inl ⟨rfl, rfl⟩) dX0_init_23 rfl rfl rfl (ev_putr (pc := 25) kD_0_18 dX0_init_25 rfl rfl rfl rfl rfl (Or.inr ⟨_, rfl⟩) (ev_aload_n (pc := 28) dX0_init_28 rfl (ev_bipush (pc := 29) (v := (40)) dX0_init_29 bipush_c40 (ev_newa (pc := 31) (N := 40) 9 (Or.inl ⟨rfl, rfl⟩) dX0_init_31 rfl rfl rfl (ev_putr (pc := 33) kD_0_21 dX0_init_33 rfl rfl rfl rfl rfl (Or.inr ⟨_, rfl⟩) (ev_aload_n (pc := 36) dX0_init_36 rfl (ev_bipush (pc := 37) (v := (40)) dX0_init_37 bipush_c40 (ev_newa (pc := 39) (N := 40) 9 (Or.inl ⟨rfl, rfl⟩) dX0_init_39 rfl rfl rfl (ev_putr (pc := 41) kD_0_24 dX0_init_41 rfl rfl rfl rfl rfl (Or.inr ⟨_, rfl⟩) (ev_aload_n (pc := 44) dX0_init_44 rfl (ev_bipush (pc := 45) (v := (30)) dX0_init_45 bipush_c30 (ev_newa (pc := 47) (N := 30) 9 (Or.inl ⟨rfl, rfl⟩) dX0_init_47 rfl rfl rfl (ev_putr (pc := 49) kD_0_27 dX0_init_49 rfl rfl rfl rfl rfl (Or.inr ⟨_, rfl⟩) (ev_aload_n (pc := 52) dX0_init_52 rfl (ev_new (pc := 53) kN_0_30 dX0_init_53 rfl rfl (ev_dup (pc := 56) dX0_init_56 rfl (ev_invIg (sh1 := PS L 34) (pc := 57) kI_0_32 dX0_init_57 rfl (by omega) rfl ⟨Nat.le_of_ble_eq_true rfl, Nat.le_of_ble_eq_true rfl, Nat.le_of_ble_eq_true rfl, Nat.le_of_ble_eq_true rfl, Nat.le_of_ble_eq_true rfl⟩ ?_)))))))))))))))))))))))))))))
  refine i_X4_30 (by omega) fun J' => ?_
  refine ev_putr (pc := 60) kD_0_33 dX0_init_60 rfl rfl rfl rfl rfl (Or.inl ⟨_, rfl⟩) (ev_iconst (pc := 63) (v := (0)) dX0_init_63 iconst_c0 (ev_istore_n (pc := 64) dX0_init_64 rfl (?_)))
  have := lp_X0a_23 (d := d) (L := L) (K := K) (J := J') (Q := Q) (iX0a I 23) (by
    refine ev_iconst (pc := 91) (v := (0)) dX0_init_91 iconst_c0 (ev_istore_n (pc := 92) dX0_init_92 rfl (?_))
    have := lp_X0b_23 (d := d) (L := L) (K := K) (J := J') (Q := Q) (fl (fl (iX0a I 23) 27 0 40 (-1)) 28 0 40 (-1)) (h J') 30 0 rfl
    rw [fl_0] at this
    exact this) 40 0 rfl
  rw [fl_0, fl_0] at this
  exact this
theorem lp_X0b_34 (M : Nat → Nat → Int32) (h : Q none (fl M 40 0 30 (-1), J, kX0 K 34)) : ∀ n i : Nat, i + n = 30 → am_Ev me_X0_init d (PS L 35) (PS L 45) 93 [some (.ref 34), some (.int (nI i))] [] (PS L 45) (fl M 40 0 i (-1), J, kX0 K 34) Q
  | 0, i, hi => by
    have e : i = 30 := by omega
    subst e
    refine ev_iload_n (pc := 93) dX0_init_93 rfl (ev_bipush (pc := 94) (v := (30)) dX0_init_94 bipush_c30 (ev_ncmp_ge (pc := 96) 112 (30) (30) dX0_init_96 (by decide) (rfl) (rfl) (by omega) (by omega) (kf := fun c => absurd c (by omega)) (kt := fun c96 => ev_vret (pc := 112) dX0_init_112 rfl ?_)))
    exact h
  | n + 1, i, hi => by
    refine ev_iload_n (pc := 93) dX0_init_93 rfl (ev_bipush (pc := 94) (v := (30)) dX0_init_94 bipush_c30 (ev_ncmp_ge (pc := 96) 112 (i) (30) dX0_init_96 (by decide) (rfl) (rfl) (by omega) (by omega) (kt := fun c => absurd c (by omega)) (kf := fun c96 => ?_)))
    refine ev_aload_n (pc := 99) dX0_init_99 rfl (ev_getr (pc := 100) kF_0_27 dX0_init_100 rfl rfl rfl (ev_iload_n (pc := 103) dX0_init_103 rfl (ev_iconst (pc := 104) (v := (-1)) dX0_init_104 iconst_cm1 (ev_iast (pc := 105) (i := i) dX0_init_105 rfl rfl (rfl) (by omega) rfl (ev_iinc (pc := 106) dX0_init_106 rfl (iinc_1 _) rfl (ev_goto (pc := 109) 93 dX0_init_109 (by decide) (?_)))))))
    rw [fl_step (Nat.zero_le i)]
    exact lp_X0b_34 M h n (i + 1) (by omega)
theorem lp_X0a_34 (M : Nat → Nat → Int32) (h : am_Ev me_X0_init d (PS L 35) (PS L 45) 91 [some (.ref 34), some (.int (nI 40))] [] (PS L 45) (fl (fl M 38 0 40 (-1)) 39 0 40 (-1), J, kX0 K 34) Q) : ∀ n i : Nat, i + n = 40 → am_Ev me_X0_init d (PS L 35) (PS L 45) 65 [some (.ref 34), some (.int (nI i))] [] (PS L 45) (fl (fl M 38 0 i (-1)) 39 0 i (-1), J, kX0 K 34) Q
  | 0, i, hi => by
    have e : i = 40 := by omega
    subst e
    refine ev_iload_n (pc := 65) dX0_init_65 rfl (ev_bipush (pc := 66) (v := (40)) dX0_init_66 bipush_c40 (ev_ncmp_ge (pc := 68) 91 (40) (40) dX0_init_68 (by decide) (rfl) (rfl) (by omega) (by omega) (kf := fun c => absurd c (by omega)) (kt := fun c68 => ?_)))
    exact h
  | n + 1, i, hi => by
    refine ev_iload_n (pc := 65) dX0_init_65 rfl (ev_bipush (pc := 66) (v := (40)) dX0_init_66 bipush_c40 (ev_ncmp_ge (pc := 68) 91 (i) (40) dX0_init_68 (by decide) (rfl) (rfl) (by omega) (by omega) (kt := fun c => absurd c (by omega)) (kf := fun c68 => ?_)))
    refine ev_aload_n (pc := 71) dX0_init_71 rfl (ev_getr (pc := 72) kF_0_21 dX0_init_72 rfl rfl rfl (ev_iload_n (pc := 75) dX0_init_75 rfl (ev_iconst (pc := 76) (v := (-1)) dX0_init_76 iconst_cm1 (ev_iast (pc := 77) (i := i) dX0_init_77 rfl rfl (rfl) (by omega) rfl (ev_aload_n (pc := 78) dX0_init_78 rfl (ev_getr (pc := 79) kF_0_24 dX0_init_79 rfl rfl rfl (ev_iload_n (pc := 82) dX0_init_82 rfl (ev_iconst (pc := 83) (v := (-1)) dX0_init_83 iconst_cm1 (ev_iast (pc := 84) (i := i) dX0_init_84 rfl rfl (rfl) (by omega) rfl (?_))))))))))
    rw [fl_ui (by decide), fl_step (Nat.zero_le i), fl_step (Nat.zero_le i)]
    refine ev_iinc (pc := 85) dX0_init_85 rfl (iinc_1 _) rfl (ev_goto (pc := 88) 65 dX0_init_88 (by decide) (?_))
    exact lp_X0a_34 M h n (i + 1) (by omega)
theorem i_X0_34 (hd : 2 ≤ d) (h : ∀ J', Q none (iX0 I 34, J', kX0 K 34)) : am_Mt d me_X0_init [.ref 34] (PS L 35) (PS L 45) (I, J, K) Q := by
  refine am_enter [some (.ref 34), none] rfl rfl rfl rfl ?_
  refine ev_aload_n (pc := 0) dX0_init_0 rfl (ev_obj (pc := 1) kO_0_3 dX0_init_1 (by omega) rfl (ev_aload_n (pc := 4) dX0_init_4 rfl (ev_bipush (pc := 5) (v := (40)) dX0_init_5 bipush_c40 (ev_newa (pc := 7) (N := 40) 9 (Or.inl ⟨rfl, rfl⟩) dX0_init_7 rfl rfl rfl (ev_putr (pc := 9) kD_0_9 dX0_init_9 rfl rfl rfl rfl rfl (Or.inr ⟨_, rfl⟩) (ev_aload_n (pc := 12) dX0_init_12 rfl (ev_bipush (pc := 13) (v := (40)) dX0_init_13 bipush_c40 (ev_newa (pc := 15) (N := 40) 9 (Or.inl ⟨rfl, rfl⟩) dX0_init_15 rfl rfl rfl (ev_putr (pc := 17) kD_0_15 dX0_init_17 rfl rfl rfl rfl rfl (Or.inr ⟨_, rfl⟩) (ev_aload_n (pc := 20) dX0_init_20 rfl (ev_bipush (pc := 21) (v := (40)) dX0_init_21 bipush_c40 (ev_newa (pc := 23) (N := 40) 9 (Or.inl ⟨rfl, rfl⟩) dX0_init_23 rfl rfl rfl (ev_putr (pc := 25) kD_0_18 dX0_init_25 rfl rfl rfl rfl rfl (Or.inr ⟨_, rfl⟩) (ev_aload_n (pc := 28) dX0_init_28 rfl (ev_bipush (pc := 29) (v := (40)) dX0_init_29 bipush_c40 (ev_newa (pc := 31) (N := 40) 9 (Or.inl ⟨rfl, rfl⟩) dX0_init_31 rfl rfl rfl (ev_putr (pc := 33) kD_0_21 dX0_init_33 rfl rfl rfl rfl rfl (Or.inr ⟨_, rfl⟩) (ev_aload_n (pc := 36) dX0_init_36 rfl (ev_bipush (pc := 37) (v := (40)) dX0_init_37 bipush_c40 (ev_newa (pc := 39) (N := 40) 9 (Or.inl ⟨rfl, rfl⟩) dX0_init_39 rfl rfl rfl (ev_putr (pc := 41) kD_0_24 dX0_init_41 rfl rfl rfl rfl rfl (Or.inr ⟨_, rfl⟩) (ev_aload_n (pc := 44) dX0_init_44 rfl (ev_bipush (pc := 45) (v := (30)) dX0_init_45 bipush_c30 (ev_newa (pc := 47) (N := 30) 9 (Or.inl ⟨rfl, rfl⟩) dX0_init_47 rfl rfl rfl (ev_putr (pc := 49) kD_0_27 dX0_init_49 rfl rfl rfl rfl rfl (Or.inr ⟨_, rfl⟩) (ev_aload_n (pc := 52) dX0_init_52 rfl (ev_new (pc := 53) kN_0_30 dX0_init_53 rfl rfl (ev_dup (pc := 56) dX0_init_56 rfl (ev_invIg (sh1 := PS L 45) (pc := 57) kI_0_32 dX0_init_57 rfl (by omega) rfl ⟨Nat.le_of_ble_eq_true rfl, Nat.le_of_ble_eq_true rfl, Nat.le_of_ble_eq_true rfl, Nat.le_of_ble_eq_true rfl, Nat.le_of_ble_eq_true rfl⟩ ?_)))))))))))))))))))))))))))))
  refine i_X4_41 (by omega) fun J' => ?_
  refine ev_putr (pc := 60) kD_0_33 dX0_init_60 rfl rfl rfl rfl rfl (Or.inl ⟨_, rfl⟩) (ev_iconst (pc := 63) (v := (0)) dX0_init_63 iconst_c0 (ev_istore_n (pc := 64) dX0_init_64 rfl (?_)))
  have := lp_X0a_34 (d := d) (L := L) (K := K) (J := J') (Q := Q) (iX0a I 34) (by
    refine ev_iconst (pc := 91) (v := (0)) dX0_init_91 iconst_c0 (ev_istore_n (pc := 92) dX0_init_92 rfl (?_))
    have := lp_X0b_34 (d := d) (L := L) (K := K) (J := J') (Q := Q) (fl (fl (iX0a I 34) 38 0 40 (-1)) 39 0 40 (-1)) (h J') 30 0 rfl
    rw [fl_0] at this
    exact this) 40 0 rfl
  rw [fl_0, fl_0] at this
  exact this
theorem lp_X0b_45 (M : Nat → Nat → Int32) (h : Q none (fl M 51 0 30 (-1), J, kX0 K 45)) : ∀ n i : Nat, i + n = 30 → am_Ev me_X0_init d (PS L 46) (PS L 56) 93 [some (.ref 45), some (.int (nI i))] [] (PS L 56) (fl M 51 0 i (-1), J, kX0 K 45) Q
  | 0, i, hi => by
    have e : i = 30 := by omega
    subst e
    refine ev_iload_n (pc := 93) dX0_init_93 rfl (ev_bipush (pc := 94) (v := (30)) dX0_init_94 bipush_c30 (ev_ncmp_ge (pc := 96) 112 (30) (30) dX0_init_96 (by decide) (rfl) (rfl) (by omega) (by omega) (kf := fun c => absurd c (by omega)) (kt := fun c96 => ev_vret (pc := 112) dX0_init_112 rfl ?_)))
    exact h
  | n + 1, i, hi => by
    refine ev_iload_n (pc := 93) dX0_init_93 rfl (ev_bipush (pc := 94) (v := (30)) dX0_init_94 bipush_c30 (ev_ncmp_ge (pc := 96) 112 (i) (30) dX0_init_96 (by decide) (rfl) (rfl) (by omega) (by omega) (kt := fun c => absurd c (by omega)) (kf := fun c96 => ?_)))
    refine ev_aload_n (pc := 99) dX0_init_99 rfl (ev_getr (pc := 100) kF_0_27 dX0_init_100 rfl rfl rfl (ev_iload_n (pc := 103) dX0_init_103 rfl (ev_iconst (pc := 104) (v := (-1)) dX0_init_104 iconst_cm1 (ev_iast (pc := 105) (i := i) dX0_init_105 rfl rfl (rfl) (by omega) rfl (ev_iinc (pc := 106) dX0_init_106 rfl (iinc_1 _) rfl (ev_goto (pc := 109) 93 dX0_init_109 (by decide) (?_)))))))
    rw [fl_step (Nat.zero_le i)]
    exact lp_X0b_45 M h n (i + 1) (by omega)
theorem lp_X0a_45 (M : Nat → Nat → Int32) (h : am_Ev me_X0_init d (PS L 46) (PS L 56) 91 [some (.ref 45), some (.int (nI 40))] [] (PS L 56) (fl (fl M 49 0 40 (-1)) 50 0 40 (-1), J, kX0 K 45) Q) : ∀ n i : Nat, i + n = 40 → am_Ev me_X0_init d (PS L 46) (PS L 56) 65 [some (.ref 45), some (.int (nI i))] [] (PS L 56) (fl (fl M 49 0 i (-1)) 50 0 i (-1), J, kX0 K 45) Q
  | 0, i, hi => by
    have e : i = 40 := by omega
    subst e
    refine ev_iload_n (pc := 65) dX0_init_65 rfl (ev_bipush (pc := 66) (v := (40)) dX0_init_66 bipush_c40 (ev_ncmp_ge (pc := 68) 91 (40) (40) dX0_init_68 (by decide) (rfl) (rfl) (by omega) (by omega) (kf := fun c => absurd c (by omega)) (kt := fun c68 => ?_)))
    exact h
  | n + 1, i, hi => by
    refine ev_iload_n (pc := 65) dX0_init_65 rfl (ev_bipush (pc := 66) (v := (40)) dX0_init_66 bipush_c40 (ev_ncmp_ge (pc := 68) 91 (i) (40) dX0_init_68 (by decide) (rfl) (rfl) (by omega) (by omega) (kt := fun c => absurd c (by omega)) (kf := fun c68 => ?_)))
    refine ev_aload_n (pc := 71) dX0_init_71 rfl (ev_getr (pc := 72) kF_0_21 dX0_init_72 rfl rfl rfl (ev_iload_n (pc := 75) dX0_init_75 rfl (ev_iconst (pc := 76) (v := (-1)) dX0_init_76 iconst_cm1 (ev_iast (pc := 77) (i := i) dX0_init_77 rfl rfl (rfl) (by omega) rfl (ev_aload_n (pc := 78) dX0_init_78 rfl (ev_getr (pc := 79) kF_0_24 dX0_init_79 rfl rfl rfl (ev_iload_n (pc := 82) dX0_init_82 rfl (ev_iconst (pc := 83) (v := (-1)) dX0_init_83 iconst_cm1 (ev_iast (pc := 84) (i := i) dX0_init_84 rfl rfl (rfl) (by omega) rfl (?_))))))))))
    rw [fl_ui (by decide), fl_step (Nat.zero_le i), fl_step (Nat.zero_le i)]
    refine ev_iinc (pc := 85) dX0_init_85 rfl (iinc_1 _) rfl (ev_goto (pc := 88) 65 dX0_init_88 (by decide) (?_))
    exact lp_X0a_45 M h n (i + 1) (by omega)
theorem i_X0_45 (hd : 2 ≤ d) (h : ∀ J', Q none (iX0 I 45, J', kX0 K 45)) : am_Mt d me_X0_init [.ref 45] (PS L 46) (PS L 56) (I, J, K) Q := by
  refine am_enter [some (.ref 45), none] rfl rfl rfl rfl ?_
  refine ev_aload_n (pc := 0) dX0_init_0 rfl (ev_obj (pc := 1) kO_0_3 dX0_init_1 (by omega) rfl (ev_aload_n (pc := 4) dX0_init_4 rfl (ev_bipush (pc := 5) (v := (40)) dX0_init_5 bipush_c40 (ev_newa (pc := 7) (N := 40) 9 (Or.inl ⟨rfl, rfl⟩) dX0_init_7 rfl rfl rfl (ev_putr (pc := 9) kD_0_9 dX0_init_9 rfl rfl rfl rfl rfl (Or.inr ⟨_, rfl⟩) (ev_aload_n (pc := 12) dX0_init_12 rfl (ev_bipush (pc := 13) (v := (40)) dX0_init_13 bipush_c40 (ev_newa (pc := 15) (N := 40) 9 (Or.inl ⟨rfl, rfl⟩) dX0_init_15 rfl rfl rfl (ev_putr (pc := 17) kD_0_15 dX0_init_17 rfl rfl rfl rfl rfl (Or.inr ⟨_, rfl⟩) (ev_aload_n (pc := 20) dX0_init_20 rfl (ev_bipush (pc := 21) (v := (40)) dX0_init_21 bipush_c40 (ev_newa (pc := 23) (N := 40) 9 (Or.inl ⟨rfl, rfl⟩) dX0_init_23 rfl rfl rfl (ev_putr (pc := 25) kD_0_18 dX0_init_25 rfl rfl rfl rfl rfl (Or.inr ⟨_, rfl⟩) (ev_aload_n (pc := 28) dX0_init_28 rfl (ev_bipush (pc := 29) (v := (40)) dX0_init_29 bipush_c40 (ev_newa (pc := 31) (N := 40) 9 (Or.inl ⟨rfl, rfl⟩) dX0_init_31 rfl rfl rfl (ev_putr (pc := 33) kD_0_21 dX0_init_33 rfl rfl rfl rfl rfl (Or.inr ⟨_, rfl⟩) (ev_aload_n (pc := 36) dX0_init_36 rfl (ev_bipush (pc := 37) (v := (40)) dX0_init_37 bipush_c40 (ev_newa (pc := 39) (N := 40) 9 (Or.inl ⟨rfl, rfl⟩) dX0_init_39 rfl rfl rfl (ev_putr (pc := 41) kD_0_24 dX0_init_41 rfl rfl rfl rfl rfl (Or.inr ⟨_, rfl⟩) (ev_aload_n (pc := 44) dX0_init_44 rfl (ev_bipush (pc := 45) (v := (30)) dX0_init_45 bipush_c30 (ev_newa (pc := 47) (N := 30) 9 (Or.inl ⟨rfl, rfl⟩) dX0_init_47 rfl rfl rfl (ev_putr (pc := 49) kD_0_27 dX0_init_49 rfl rfl rfl rfl rfl (Or.inr ⟨_, rfl⟩) (ev_aload_n (pc := 52) dX0_init_52 rfl (ev_new (pc := 53) kN_0_30 dX0_init_53 rfl rfl (ev_dup (pc := 56) dX0_init_56 rfl (ev_invIg (sh1 := PS L 56) (pc := 57) kI_0_32 dX0_init_57 rfl (by omega) rfl ⟨Nat.le_of_ble_eq_true rfl, Nat.le_of_ble_eq_true rfl, Nat.le_of_ble_eq_true rfl, Nat.le_of_ble_eq_true rfl, Nat.le_of_ble_eq_true rfl⟩ ?_)))))))))))))))))))))))))))))
  refine i_X4_52 (by omega) fun J' => ?_
  refine ev_putr (pc := 60) kD_0_33 dX0_init_60 rfl rfl rfl rfl rfl (Or.inl ⟨_, rfl⟩) (ev_iconst (pc := 63) (v := (0)) dX0_init_63 iconst_c0 (ev_istore_n (pc := 64) dX0_init_64 rfl (?_)))
  have := lp_X0a_45 (d := d) (L := L) (K := K) (J := J') (Q := Q) (iX0a I 45) (by
    refine ev_iconst (pc := 91) (v := (0)) dX0_init_91 iconst_c0 (ev_istore_n (pc := 92) dX0_init_92 rfl (?_))
    have := lp_X0b_45 (d := d) (L := L) (K := K) (J := J') (Q := Q) (fl (fl (iX0a I 45) 49 0 40 (-1)) 50 0 40 (-1)) (h J') 30 0 rfl
    rw [fl_0] at this
    exact this) 40 0 rfl
  rw [fl_0, fl_0] at this
  exact this
theorem lp_X0b_56 (M : Nat → Nat → Int32) (h : Q none (fl M 62 0 30 (-1), J, kX0 K 56)) : ∀ n i : Nat, i + n = 30 → am_Ev me_X0_init d (PS L 57) (PS L 67) 93 [some (.ref 56), some (.int (nI i))] [] (PS L 67) (fl M 62 0 i (-1), J, kX0 K 56) Q
  | 0, i, hi => by
    have e : i = 30 := by omega
    subst e
    refine ev_iload_n (pc := 93) dX0_init_93 rfl (ev_bipush (pc := 94) (v := (30)) dX0_init_94 bipush_c30 (ev_ncmp_ge (pc := 96) 112 (30) (30) dX0_init_96 (by decide) (rfl) (rfl) (by omega) (by omega) (kf := fun c => absurd c (by omega)) (kt := fun c96 => ev_vret (pc := 112) dX0_init_112 rfl ?_)))
    exact h
  | n + 1, i, hi => by
    refine ev_iload_n (pc := 93) dX0_init_93 rfl (ev_bipush (pc := 94) (v := (30)) dX0_init_94 bipush_c30 (ev_ncmp_ge (pc := 96) 112 (i) (30) dX0_init_96 (by decide) (rfl) (rfl) (by omega) (by omega) (kt := fun c => absurd c (by omega)) (kf := fun c96 => ?_)))
    refine ev_aload_n (pc := 99) dX0_init_99 rfl (ev_getr (pc := 100) kF_0_27 dX0_init_100 rfl rfl rfl (ev_iload_n (pc := 103) dX0_init_103 rfl (ev_iconst (pc := 104) (v := (-1)) dX0_init_104 iconst_cm1 (ev_iast (pc := 105) (i := i) dX0_init_105 rfl rfl (rfl) (by omega) rfl (ev_iinc (pc := 106) dX0_init_106 rfl (iinc_1 _) rfl (ev_goto (pc := 109) 93 dX0_init_109 (by decide) (?_)))))))
    rw [fl_step (Nat.zero_le i)]
    exact lp_X0b_56 M h n (i + 1) (by omega)
theorem lp_X0a_56 (M : Nat → Nat → Int32) (h : am_Ev me_X0_init d (PS L 57) (PS L 67) 91 [some (.ref 56), some (.int (nI 40))] [] (PS L 67) (fl (fl M 60 0 40 (-1)) 61 0 40 (-1), J, kX0 K 56) Q) : ∀ n i : Nat, i + n = 40 → am_Ev me_X0_init d (PS L 57) (PS L 67) 65 [some (.ref 56), some (.int (nI i))] [] (PS L 67) (fl (fl M 60 0 i (-1)) 61 0 i (-1), J, kX0 K 56) Q
  | 0, i, hi => by
    have e : i = 40 := by omega
    subst e
    refine ev_iload_n (pc := 65) dX0_init_65 rfl (ev_bipush (pc := 66) (v := (40)) dX0_init_66 bipush_c40 (ev_ncmp_ge (pc := 68) 91 (40) (40) dX0_init_68 (by decide) (rfl) (rfl) (by omega) (by omega) (kf := fun c => absurd c (by omega)) (kt := fun c68 => ?_)))
    exact h
  | n + 1, i, hi => by
    refine ev_iload_n (pc := 65) dX0_init_65 rfl (ev_bipush (pc := 66) (v := (40)) dX0_init_66 bipush_c40 (ev_ncmp_ge (pc := 68) 91 (i) (40) dX0_init_68 (by decide) (rfl) (rfl) (by omega) (by omega) (kt := fun c => absurd c (by omega)) (kf := fun c68 => ?_)))
    refine ev_aload_n (pc := 71) dX0_init_71 rfl (ev_getr (pc := 72) kF_0_21 dX0_init_72 rfl rfl rfl (ev_iload_n (pc := 75) dX0_init_75 rfl (ev_iconst (pc := 76) (v := (-1)) dX0_init_76 iconst_cm1 (ev_iast (pc := 77) (i := i) dX0_init_77 rfl rfl (rfl) (by omega) rfl (ev_aload_n (pc := 78) dX0_init_78 rfl (ev_getr (pc := 79) kF_0_24 dX0_init_79 rfl rfl rfl (ev_iload_n (pc := 82) dX0_init_82 rfl (ev_iconst (pc := 83) (v := (-1)) dX0_init_83 iconst_cm1 (ev_iast (pc := 84) (i := i) dX0_init_84 rfl rfl (rfl) (by omega) rfl (?_))))))))))
    rw [fl_ui (by decide), fl_step (Nat.zero_le i), fl_step (Nat.zero_le i)]
    refine ev_iinc (pc := 85) dX0_init_85 rfl (iinc_1 _) rfl (ev_goto (pc := 88) 65 dX0_init_88 (by decide) (?_))
    exact lp_X0a_56 M h n (i + 1) (by omega)
theorem i_X0_56 (hd : 2 ≤ d) (h : ∀ J', Q none (iX0 I 56, J', kX0 K 56)) : am_Mt d me_X0_init [.ref 56] (PS L 57) (PS L 67) (I, J, K) Q := by
  refine am_enter [some (.ref 56), none] rfl rfl rfl rfl ?_
  refine ev_aload_n (pc := 0) dX0_init_0 rfl (ev_obj (pc := 1) kO_0_3 dX0_init_1 (by omega) rfl (ev_aload_n (pc := 4) dX0_init_4 rfl (ev_bipush (pc := 5) (v := (40)) dX0_init_5 bipush_c40 (ev_newa (pc := 7) (N := 40) 9 (Or.inl ⟨rfl, rfl⟩) dX0_init_7 rfl rfl rfl (ev_putr (pc := 9) kD_0_9 dX0_init_9 rfl rfl rfl rfl rfl (Or.inr ⟨_, rfl⟩) (ev_aload_n (pc := 12) dX0_init_12 rfl (ev_bipush (pc := 13) (v := (40)) dX0_init_13 bipush_c40 (ev_newa (pc := 15) (N := 40) 9 (Or.inl ⟨rfl, rfl⟩) dX0_init_15 rfl rfl rfl (ev_putr (pc := 17) kD_0_15 dX0_init_17 rfl rfl rfl rfl rfl (Or.inr ⟨_, rfl⟩) (ev_aload_n (pc := 20) dX0_init_20 rfl (ev_bipush (pc := 21) (v := (40)) dX0_init_21 bipush_c40 (ev_newa (pc := 23) (N := 40) 9 (Or.inl ⟨rfl, rfl⟩) dX0_init_23 rfl rfl rfl (ev_putr (pc := 25) kD_0_18 dX0_init_25 rfl rfl rfl rfl rfl (Or.inr ⟨_, rfl⟩) (ev_aload_n (pc := 28) dX0_init_28 rfl (ev_bipush (pc := 29) (v := (40)) dX0_init_29 bipush_c40 (ev_newa (pc := 31) (N := 40) 9 (Or.inl ⟨rfl, rfl⟩) dX0_init_31 rfl rfl rfl (ev_putr (pc := 33) kD_0_21 dX0_init_33 rfl rfl rfl rfl rfl (Or.inr ⟨_, rfl⟩) (ev_aload_n (pc := 36) dX0_init_36 rfl (ev_bipush (pc := 37) (v := (40)) dX0_init_37 bipush_c40 (ev_newa (pc := 39) (N := 40) 9 (Or.inl ⟨rfl, rfl⟩) dX0_init_39 rfl rfl rfl (ev_putr (pc := 41) kD_0_24 dX0_init_41 rfl rfl rfl rfl rfl (Or.inr ⟨_, rfl⟩) (ev_aload_n (pc := 44) dX0_init_44 rfl (ev_bipush (pc := 45) (v := (30)) dX0_init_45 bipush_c30 (ev_newa (pc := 47) (N := 30) 9 (Or.inl ⟨rfl, rfl⟩) dX0_init_47 rfl rfl rfl (ev_putr (pc := 49) kD_0_27 dX0_init_49 rfl rfl rfl rfl rfl (Or.inr ⟨_, rfl⟩) (ev_aload_n (pc := 52) dX0_init_52 rfl (ev_new (pc := 53) kN_0_30 dX0_init_53 rfl rfl (ev_dup (pc := 56) dX0_init_56 rfl (ev_invIg (sh1 := PS L 67) (pc := 57) kI_0_32 dX0_init_57 rfl (by omega) rfl ⟨Nat.le_of_ble_eq_true rfl, Nat.le_of_ble_eq_true rfl, Nat.le_of_ble_eq_true rfl, Nat.le_of_ble_eq_true rfl, Nat.le_of_ble_eq_true rfl⟩ ?_)))))))))))))))))))))))))))))
  refine i_X4_63 (by omega) fun J' => ?_
  refine ev_putr (pc := 60) kD_0_33 dX0_init_60 rfl rfl rfl rfl rfl (Or.inl ⟨_, rfl⟩) (ev_iconst (pc := 63) (v := (0)) dX0_init_63 iconst_c0 (ev_istore_n (pc := 64) dX0_init_64 rfl (?_)))
  have := lp_X0a_56 (d := d) (L := L) (K := K) (J := J') (Q := Q) (iX0a I 56) (by
    refine ev_iconst (pc := 91) (v := (0)) dX0_init_91 iconst_c0 (ev_istore_n (pc := 92) dX0_init_92 rfl (?_))
    have := lp_X0b_56 (d := d) (L := L) (K := K) (J := J') (Q := Q) (fl (fl (iX0a I 56) 60 0 40 (-1)) 61 0 40 (-1)) (h J') 30 0 rfl
    rw [fl_0] at this
    exact this) 40 0 rfl
  rw [fl_0, fl_0] at this
  exact this
theorem lp_X0b_67 (M : Nat → Nat → Int32) (h : Q none (fl M 73 0 30 (-1), J, kX0 K 67)) : ∀ n i : Nat, i + n = 30 → am_Ev me_X0_init d (PS L 68) (PS L 78) 93 [some (.ref 67), some (.int (nI i))] [] (PS L 78) (fl M 73 0 i (-1), J, kX0 K 67) Q
  | 0, i, hi => by
    have e : i = 30 := by omega
    subst e
    refine ev_iload_n (pc := 93) dX0_init_93 rfl (ev_bipush (pc := 94) (v := (30)) dX0_init_94 bipush_c30 (ev_ncmp_ge (pc := 96) 112 (30) (30) dX0_init_96 (by decide) (rfl) (rfl) (by omega) (by omega) (kf := fun c => absurd c (by omega)) (kt := fun c96 => ev_vret (pc := 112) dX0_init_112 rfl ?_)))
    exact h
  | n + 1, i, hi => by
    refine ev_iload_n (pc := 93) dX0_init_93 rfl (ev_bipush (pc := 94) (v := (30)) dX0_init_94 bipush_c30 (ev_ncmp_ge (pc := 96) 112 (i) (30) dX0_init_96 (by decide) (rfl) (rfl) (by omega) (by omega) (kt := fun c => absurd c (by omega)) (kf := fun c96 => ?_)))
    refine ev_aload_n (pc := 99) dX0_init_99 rfl (ev_getr (pc := 100) kF_0_27 dX0_init_100 rfl rfl rfl (ev_iload_n (pc := 103) dX0_init_103 rfl (ev_iconst (pc := 104) (v := (-1)) dX0_init_104 iconst_cm1 (ev_iast (pc := 105) (i := i) dX0_init_105 rfl rfl (rfl) (by omega) rfl (ev_iinc (pc := 106) dX0_init_106 rfl (iinc_1 _) rfl (ev_goto (pc := 109) 93 dX0_init_109 (by decide) (?_)))))))
    rw [fl_step (Nat.zero_le i)]
    exact lp_X0b_67 M h n (i + 1) (by omega)
theorem lp_X0a_67 (M : Nat → Nat → Int32) (h : am_Ev me_X0_init d (PS L 68) (PS L 78) 91 [some (.ref 67), some (.int (nI 40))] [] (PS L 78) (fl (fl M 71 0 40 (-1)) 72 0 40 (-1), J, kX0 K 67) Q) : ∀ n i : Nat, i + n = 40 → am_Ev me_X0_init d (PS L 68) (PS L 78) 65 [some (.ref 67), some (.int (nI i))] [] (PS L 78) (fl (fl M 71 0 i (-1)) 72 0 i (-1), J, kX0 K 67) Q
  | 0, i, hi => by
    have e : i = 40 := by omega
    subst e
    refine ev_iload_n (pc := 65) dX0_init_65 rfl (ev_bipush (pc := 66) (v := (40)) dX0_init_66 bipush_c40 (ev_ncmp_ge (pc := 68) 91 (40) (40) dX0_init_68 (by decide) (rfl) (rfl) (by omega) (by omega) (kf := fun c => absurd c (by omega)) (kt := fun c68 => ?_)))
    exact h
  | n + 1, i, hi => by
    refine ev_iload_n (pc := 65) dX0_init_65 rfl (ev_bipush (pc := 66) (v := (40)) dX0_init_66 bipush_c40 (ev_ncmp_ge (pc := 68) 91 (i) (40) dX0_init_68 (by decide) (rfl) (rfl) (by omega) (by omega) (kt := fun c => absurd c (by omega)) (kf := fun c68 => ?_)))
    refine ev_aload_n (pc := 71) dX0_init_71 rfl (ev_getr (pc := 72) kF_0_21 dX0_init_72 rfl rfl rfl (ev_iload_n (pc := 75) dX0_init_75 rfl (ev_iconst (pc := 76) (v := (-1)) dX0_init_76 iconst_cm1 (ev_iast (pc := 77) (i := i) dX0_init_77 rfl rfl (rfl) (by omega) rfl (ev_aload_n (pc := 78) dX0_init_78 rfl (ev_getr (pc := 79) kF_0_24 dX0_init_79 rfl rfl rfl (ev_iload_n (pc := 82) dX0_init_82 rfl (ev_iconst (pc := 83) (v := (-1)) dX0_init_83 iconst_cm1 (ev_iast (pc := 84) (i := i) dX0_init_84 rfl rfl (rfl) (by omega) rfl (?_))))))))))
    rw [fl_ui (by decide), fl_step (Nat.zero_le i), fl_step (Nat.zero_le i)]
    refine ev_iinc (pc := 85) dX0_init_85 rfl (iinc_1 _) rfl (ev_goto (pc := 88) 65 dX0_init_88 (by decide) (?_))
    exact lp_X0a_67 M h n (i + 1) (by omega)
theorem i_X0_67 (hd : 2 ≤ d) (h : ∀ J', Q none (iX0 I 67, J', kX0 K 67)) : am_Mt d me_X0_init [.ref 67] (PS L 68) (PS L 78) (I, J, K) Q := by
  refine am_enter [some (.ref 67), none] rfl rfl rfl rfl ?_
  refine ev_aload_n (pc := 0) dX0_init_0 rfl (ev_obj (pc := 1) kO_0_3 dX0_init_1 (by omega) rfl (ev_aload_n (pc := 4) dX0_init_4 rfl (ev_bipush (pc := 5) (v := (40)) dX0_init_5 bipush_c40 (ev_newa (pc := 7) (N := 40) 9 (Or.inl ⟨rfl, rfl⟩) dX0_init_7 rfl rfl rfl (ev_putr (pc := 9) kD_0_9 dX0_init_9 rfl rfl rfl rfl rfl (Or.inr ⟨_, rfl⟩) (ev_aload_n (pc := 12) dX0_init_12 rfl (ev_bipush (pc := 13) (v := (40)) dX0_init_13 bipush_c40 (ev_newa (pc := 15) (N := 40) 9 (Or.inl ⟨rfl, rfl⟩) dX0_init_15 rfl rfl rfl (ev_putr (pc := 17) kD_0_15 dX0_init_17 rfl rfl rfl rfl rfl (Or.inr ⟨_, rfl⟩) (ev_aload_n (pc := 20) dX0_init_20 rfl (ev_bipush (pc := 21) (v := (40)) dX0_init_21 bipush_c40 (ev_newa (pc := 23) (N := 40) 9 (Or.inl ⟨rfl, rfl⟩) dX0_init_23 rfl rfl rfl (ev_putr (pc := 25) kD_0_18 dX0_init_25 rfl rfl rfl rfl rfl (Or.inr ⟨_, rfl⟩) (ev_aload_n (pc := 28) dX0_init_28 rfl (ev_bipush (pc := 29) (v := (40)) dX0_init_29 bipush_c40 (ev_newa (pc := 31) (N := 40) 9 (Or.inl ⟨rfl, rfl⟩) dX0_init_31 rfl rfl rfl (ev_putr (pc := 33) kD_0_21 dX0_init_33 rfl rfl rfl rfl rfl (Or.inr ⟨_, rfl⟩) (ev_aload_n (pc := 36) dX0_init_36 rfl (ev_bipush (pc := 37) (v := (40)) dX0_init_37 bipush_c40 (ev_newa (pc := 39) (N := 40) 9 (Or.inl ⟨rfl, rfl⟩) dX0_init_39 rfl rfl rfl (ev_putr (pc := 41) kD_0_24 dX0_init_41 rfl rfl rfl rfl rfl (Or.inr ⟨_, rfl⟩) (ev_aload_n (pc := 44) dX0_init_44 rfl (ev_bipush (pc := 45) (v := (30)) dX0_init_45 bipush_c30 (ev_newa (pc := 47) (N := 30) 9 (Or.inl ⟨rfl, rfl⟩) dX0_init_47 rfl rfl rfl (ev_putr (pc := 49) kD_0_27 dX0_init_49 rfl rfl rfl rfl rfl (Or.inr ⟨_, rfl⟩) (ev_aload_n (pc := 52) dX0_init_52 rfl (ev_new (pc := 53) kN_0_30 dX0_init_53 rfl rfl (ev_dup (pc := 56) dX0_init_56 rfl (ev_invIg (sh1 := PS L 78) (pc := 57) kI_0_32 dX0_init_57 rfl (by omega) rfl ⟨Nat.le_of_ble_eq_true rfl, Nat.le_of_ble_eq_true rfl, Nat.le_of_ble_eq_true rfl, Nat.le_of_ble_eq_true rfl, Nat.le_of_ble_eq_true rfl⟩ ?_)))))))))))))))))))))))))))))
  refine i_X4_74 (by omega) fun J' => ?_
  refine ev_putr (pc := 60) kD_0_33 dX0_init_60 rfl rfl rfl rfl rfl (Or.inl ⟨_, rfl⟩) (ev_iconst (pc := 63) (v := (0)) dX0_init_63 iconst_c0 (ev_istore_n (pc := 64) dX0_init_64 rfl (?_)))
  have := lp_X0a_67 (d := d) (L := L) (K := K) (J := J') (Q := Q) (iX0a I 67) (by
    refine ev_iconst (pc := 91) (v := (0)) dX0_init_91 iconst_c0 (ev_istore_n (pc := 92) dX0_init_92 rfl (?_))
    have := lp_X0b_67 (d := d) (L := L) (K := K) (J := J') (Q := Q) (fl (fl (iX0a I 67) 71 0 40 (-1)) 72 0 40 (-1)) (h J') 30 0 rfl
    rw [fl_0] at this
    exact this) 40 0 rfl
  rw [fl_0, fl_0] at this
  exact this
end T71
