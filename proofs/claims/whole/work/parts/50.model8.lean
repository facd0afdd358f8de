/-! ===== the reference: write, delete, wipe, wipeAll ===== -/
def wfr (I I' : Nat → Nat → Int32) : Prop := (∀ a, a < 82 ∨ a = 85 ∨ a = 87 ∨ 95 < a → I' a = I a) ∧ ∀ i, i ≠ 4 → i ≠ 9 → I' 82 i = I 82 i
theorem wfr_rf (I : Nat → Nat → Int32) : wfr I I := ⟨fun _ _ => rfl, fun _ _ _ => rfl⟩
theorem wfr_tr {I I1 I2 : Nat → Nat → Int32} (h : wfr I I1) (h2 : wfr I1 I2) : wfr I I2 := ⟨fun a ha => (h2.1 a ha).trans (h.1 a ha), fun i a b => (h2.2 i a b).trans (h.2 i a b)⟩
theorem wfr_1 {c : Nat} {I I' : Nat → Nat → Int32} (h : fr1 c I I') (hc : 82 < c ∧ c ≠ 85 ∧ c ≠ 87 ∧ c ≤ 95) : wfr I I' := ⟨fun a ha => h a (by omega), fun i _ _ => by rw [h 82 (by omega)]⟩
theorem wfr_c {I I' : Nat → Nat → Int32} (h : chF I I') : wfr I I' := ⟨fun a ha => h.1 a (by omega) (by omega), fun i h1 _ => h.2 i h1⟩
theorem chg_1 {rn : Bool} {s : Sta} {D' : Nat → Int32} : (chgS rn s D').1 = D' := by
  unfold chgS pushS
  split
  · rfl
  · split <;> rfl
theorem chg_2 {rn : Bool} {s : Sta} {D' : Nat → Int32} : (chgS rn s D').2 = (chgS rn s s.1).2 := by
  unfold chgS pushS
  split
  · rfl
  · split <;> rfl
theorem chg_eq {rn : Bool} {s : Sta} {D' : Nat → Int32} : chgS rn s D' = (D', (chgS rn s s.1).2) := Prod.ext chg_1 chg_2
theorem setM_e {rn : Bool} {s : Sta} {v : Int32} {D' : Nat → Int32} (h : v < 0) : setM rn s (v, D') = (v, s) := if_pos h
theorem setM_p {rn : Bool} {s : Sta} {v : Int32} {D' : Nat → Int32} (h : ¬ v < 0) : setM rn s (v, D') = (v, (D', (chgS rn s s.1).2)) := (if_neg h).trans (by rw [chg_eq])
theorem setM_f {s : Sta} {r : Int32 × (Nat → Int32)} : setM false s r = setS s r := rfl
def oWriteM (rn : Bool) (s : Sta) (a b c e : Int32) : Int32 × Sta := if inR 0 29 a && (inR 0 9 b && (inR 1 12 c && inR 0 2 e)) then setM rn s (wrS s.1 a.toNatClampNeg b c.toNatClampNeg e.toNatClampNeg) else (-1000001, s)
def oDeleteM (rn : Bool) (s : Sta) (a : Int32) : Int32 × Sta := if inR 0 29 a then setM rn s (dlS s.1 a.toNatClampNeg) else (-1000001, s)
def oWipeM (rn : Bool) (s : Sta) (a : Int32) : Int32 × Sta := if inR 0 39 a then setM rn s (wpS s.1 a.toNatClampNeg) else (-1000001, s)
theorem rowM_ui {I : Nat → Nat → Int32} {D : Nat → Int32} (h : rowM I D) (i : Nat) (v : Int32) : rowM (ui I 83 i v) (uD D i v) := fun x hx => by
  simp only [ui, uD, true_and]
  by_cases e : x = i
  · rw [if_pos e, if_pos e]
  · rw [if_neg e, if_neg e]
    exact h x hx
theorem rowM_ne {I : Nat → Nat → Int32} {D : Nat → Int32} (h : rowM I D) {c : Nat} (hc : c ≠ 83) (i : Nat) (v : Int32) : rowM (ui I c i v) D := fun x hx => by
  simp only [ui]
  rw [if_neg (fun q => hc q.1.symm)]
  exact h x hx
theorem rowM_eq {I : Nat → Nat → Int32} {D D' : Nat → Int32} (h : rowM I D) (e : ∀ x, x < 252 → D x = D' x) : rowM I D' := fun x hx => (h x hx).trans (e x hx)
section T50
variable {d L : Nat} {I : Nat → Nat → Int32} {J : Nat → Nat → Int64} {p : Nat → Nat} {Q : Option Value → am_M → Prop} {s : Sta} {rn : Bool}
theorem Mod_row {I' : Nat → Nat → Int32} {D' : Nat → Int32} (hm : Mod rn I s) (hr : rowM I' D') (h84 : I' 84 = I 84) (h87 : I' 87 = I 87) (h82 : ∀ i, i = 4 ∨ i = 5 ∨ i = 7 → I' 82 i = I 82 i) : Mod rn I' (D', s.2) := by
  obtain ⟨z1, z2, z3, z4, z5, z6⟩ := hm
  refine ⟨hr, by rw [h82 4 (by omega)]; exact z2, fun k hk i hi => by rw [h84]; exact z3 k hk i hi, by rw [h82 5 (by omega)]; exact z4, by rw [h82 7 (by omega)]; exact z5, fun i hi => by rw [h87]; exact z6 i hi⟩
theorem Mod_1 {I' : Nat → Nat → Int32} {D' : Nat → Int32} (hm : Mod rn I s) (hr : rowM I' D') (h : fr1 83 I I') : Mod rn I' (D', s.2) := Mod_row hm hr (h 84 (by decide)) (h 87 (by decide)) (fun i _ => by rw [h 82 (by decide)])
theorem Mod_w {I' : Nat → Nat → Int32} {c : Nat} (hm : Mod rn I s) (h : fr1 c I I') (hc : 84 < c ∧ c ≠ 87) : Mod rn I' s := Mod_row hm (rowM_of hm.1 (h 83 (by omega))) (h 84 (by omega)) (h 87 (by omega)) (fun i _ => by rw [h 82 (by omega)])
theorem m_write (hd : 6 ≤ d) (hm : Mod rn I s) (hw : wfD s.1) (hn : s.2.1 ≤ 4) (a b c e : Int32) (k : ∀ I', Mod rn I' (oWriteM rn s a b c e).2 → wfr I I' → Q (some (.int (oWriteM rn s a b c e).1)) (I', J, KR p)) : T d me_X8_write [.ref 82, .int a, .int b, .int c, .int e] L I J p Q := by
  refine am_enter [some (.ref 82), some (.int a), some (.int b), some (.int c), some (.int e)] rfl rfl rfl rfl ?_
  unfold oWriteM at k
  refine ev_iload_n (pc := 0) dX8_write_0 rfl (ev_invS (pc := 1) kS_8_76 dX8_write_1 rfl (by omega) rfl ?_)
  refine m_isName (by omega) a ?_
  cases q1 : inR 0 29 a
  · rw [q1, Bool.false_and, if_neg (by decide)] at k
    refine ev_ifb_eq (pc := 4) 37 dX8_write_4 (by decide) (kf := fun c => absurd c (by simp)) (kt := fun c4 => ev_ldc (pc := 37) kC_8_79 dX8_write_37 (ev_iret (pc := 39) dX8_write_39 rfl ?_))
    exact k I hm (wfr_rf I)
  refine ev_ifb_eq (pc := 4) 37 dX8_write_4 (by decide) (kt := fun c => absurd c (by simp)) (kf := fun c4 => ev_iload_n (pc := 7) dX8_write_7 rfl (ev_iconst (pc := 8) (v := (0)) dX8_write_8 iconst_c0 (ev_bipush (pc := 9) (v := (9)) dX8_write_9 bipush_c9 (ev_invS (pc := 11) kS_8_52 dX8_write_11 rfl (by omega) rfl ?_))))
  refine m_in 0 9 b ?_
  cases q2 : inR 0 9 b
  · rw [q2, Bool.false_and, Bool.and_false, if_neg (by decide)] at k
    refine ev_ifb_eq (pc := 14) 37 dX8_write_14 (by decide) (kf := fun c => absurd c (by simp)) (kt := fun c14 => ev_ldc (pc := 37) kC_8_79 dX8_write_37 (ev_iret (pc := 39) dX8_write_39 rfl ?_))
    exact k I hm (wfr_rf I)
  refine ev_ifb_eq (pc := 14) 37 dX8_write_14 (by decide) (kt := fun c => absurd c (by simp)) (kf := fun c14 => ev_iload_n (pc := 17) dX8_write_17 rfl (ev_iconst (pc := 18) (v := (1)) dX8_write_18 iconst_c1 (ev_bipush (pc := 19) (v := (12)) dX8_write_19 bipush_c12 (ev_invS (pc := 21) kS_8_52 dX8_write_21 rfl (by omega) rfl ?_))))
  refine m_in 1 12 c ?_
  cases q3 : inR 1 12 c
  · rw [q3, Bool.false_and, Bool.and_false, Bool.and_false, if_neg (by decide)] at k
    refine ev_ifb_eq (pc := 24) 37 dX8_write_24 (by decide) (kf := fun c => absurd c (by simp)) (kt := fun c24 => ev_ldc (pc := 37) kC_8_79 dX8_write_37 (ev_iret (pc := 39) dX8_write_39 rfl ?_))
    exact k I hm (wfr_rf I)
  refine ev_ifb_eq (pc := 24) 37 dX8_write_24 (by decide) (kt := fun c => absurd c (by simp)) (kf := fun c24 => ev_iload (pc := 27) dX8_write_27 rfl (ev_iconst (pc := 29) (v := (0)) dX8_write_29 iconst_c0 (ev_iconst (pc := 30) (v := (2)) dX8_write_30 iconst_c2 (ev_invS (pc := 31) kS_8_52 dX8_write_31 rfl (by omega) rfl ?_))))
  refine m_in 0 2 e ?_
  cases q4 : inR 0 2 e
  · rw [q4, Bool.and_false, Bool.and_false, Bool.and_false, if_neg (by decide)] at k
    refine ev_ifb_ne (pc := 34) 40 dX8_write_34 (by decide) (kt := fun c => absurd c (by simp)) (kf := fun c34 => ev_ldc (pc := 37) kC_8_79 dX8_write_37 (ev_iret (pc := 39) dX8_write_39 rfl ?_))
    exact k I hm (wfr_rf I)
  rw [q1, q2, q3, q4, if_pos (by decide)] at k
  obtain ⟨n, n1, n2, rfl⟩ := inR_n (by omega) (by omega) q1
  obtain ⟨sty, n3, n4, rfl⟩ := inR_n (by omega) (by omega) q2
  obtain ⟨len, n5, n6, rfl⟩ := inR_n (by omega) (by omega) q3
  obtain ⟨lay, n7, n8, rfl⟩ := inR_n (by omega) (by omega) q4
  rw [nI_clamp (by omega), nI_clamp (by omega), nI_clamp (by omega)] at k
  unfold wrS at k
  have ho := own_wf hw
  refine ev_ifb_ne (pc := 34) 40 dX8_write_34 (by decide) (kf := fun c => absurd c (by simp)) (kt := fun c34 => ev_aload_n (pc := 40) dX8_write_40 rfl (ev_getr (pc := 41) kF_8_7 dX8_write_41 rfl rfl rfl (ev_sipush (pc := 44) (v := (200)) dX8_write_44 sipush_c200 (ev_iload_n (pc := 47) dX8_write_47 rfl (ev_iadd (pc := 48) dX8_write_48 (ev_iald (pc := 49) (i := 200 + n) dX8_write_49 rfl (nI_add 200 n) (by omega) rfl (?_)))))))
  rw [hm.1 (200 + n) (by omega)]
  by_cases cc : s.1 (200 + n) = -1
  · rw [if_neg (fun q => q cc)] at k
    rw [cc]
    refine ev_if_lt (pc := 50) 56 dX8_write_50 (by decide) (kf := fun c => absurd (by decide) c) (kt := fun c50 => ev_aload_n (pc := 56) dX8_write_56 rfl (ev_iload_n (pc := 57) dX8_write_57 rfl (ev_iload (pc := 58) dX8_write_58 rfl (ev_invV (pc := 60) kV_8_81 dX8_write_60 rfl rfl rfl (by omega) rfl ?_))))
    refine m_chooses (by omega) hm.1 ho n5 n6 (by omega) fun I1 h88 f1 => ?_
    have m1 := Mod_w hm f1 (by omega)
    by_cases q : len ≤ cntB (fD s.1) 40
    · rw [if_neg (by omega)] at k
      rw [decide_eq_true q]
      obtain ⟨o1, o2⟩ := chC_ok (lay := lay) q
      generalize chC (fD s.1) len lay = ps at h88 o1 o2 k
      subst o2
      refine ev_ifb_ne (pc := 63) 69 dX8_write_63 (by decide) (kf := fun c => absurd c (by simp)) (kt := fun c63 => ev_aload_n (pc := 69) dX8_write_69 rfl (ev_invV (pc := 70) kV_8_86 dX8_write_70 rfl rfl rfl (by omega) rfl ?_))
      refine m_changes m1 hn fun I2 m2 c2 => ?_
      refine ev_aload_n (pc := 73) dX8_write_73 rfl (ev_iload_n (pc := 74) dX8_write_74 rfl (ev_iload_n (pc := 75) dX8_write_75 rfl (ev_iload_n (pc := 76) dX8_write_76 rfl (ev_invV (pc := 77) kV_8_89 dX8_write_77 rfl rfl rfl (by omega) rfl ?_))))
      have r2 := m2.1
      rw [chg_1] at r2
      refine m_lays o1 n5 n6 (fun j hj => by rw [c2.1 88 (by decide) (by decide)]; exact h88 j hj) (by omega) r2 fun I3 r3 f3 => ?_
      refine ev_aload_n (pc := 80) dX8_write_80 rfl (ev_getr (pc := 81) kF_8_7 dX8_write_81 rfl rfl rfl (ev_sipush (pc := 84) (v := (249)) dX8_write_84 sipush_c249 (ev_dup2 (pc := 87) dX8_write_87 rfl rfl (ev_iald (pc := 88) (i := 249) dX8_write_88 rfl (rfl) (by omega) rfl (ev_iconst (pc := 89) (v := (1)) dX8_write_89 iconst_c1 (ev_iadd (pc := 90) dX8_write_90 (ev_iast (pc := 91) (i := 249) dX8_write_91 rfl rfl (rfl) (by omega) rfl (ev_aload_n (pc := 92) dX8_write_92 rfl (ev_getr (pc := 93) kF_8_25 dX8_write_93 rfl rfl rfl (ev_iconst (pc := 96) (v := (0)) dX8_write_96 iconst_c0 (?_)))))))))))
      have e0 : ui I3 83 249 (I3 83 249 + 1) 88 0 = nI (ps.getD 0 0) := by
        rw [show ui I3 83 249 (I3 83 249 + 1) 88 0 = I3 88 0 by simp [ui], f3 88 (by decide), c2.1 88 (by decide) (by decide)]
        exact h88 0 (by omega)
      refine ev_iald (pc := 97) (i := 0) dX8_write_97 rfl (rfl) (by omega) rfl (?_)
      rw [e0]
      refine ev_iret (pc := 98) dX8_write_98 rfl ?_
      have r4 := rowM_ui r3 249 (I3 83 249 + 1)
      have e9 : I3 83 249 = s.1 249 := by
        rw [r3 249 (by omega), ly_hi (by omega), if_neg (by omega)]
      have m4 := Mod_1 m2 r4 (fr1_ui f3)
      have w4 := wfr_tr (wfr_1 f1 (by omega)) (wfr_tr (wfr_c c2) (wfr_1 (fr1_ui (i := 249) (v := I3 83 249 + 1) f3) (by omega)))
      rw [e9] at m4 w4 ⊢
      have hne : ¬ (nI (ps.getD 0 0) < 0) := nI_pos (by have := o1.lt 0 (by omega); omega)
      rw [setM_p hne] at k
      exact k _ m4 w4
    · rw [if_pos (by omega), setM_e (by decide : (-1000003 : Int32) < 0)] at k
      rw [decide_eq_false q]
      refine ev_ifb_ne (pc := 63) 69 dX8_write_63 (by decide) (kt := fun c => absurd c (by simp)) (kf := fun c63 => ev_ldc (pc := 66) kC_8_85 dX8_write_66 (ev_iret (pc := 68) dX8_write_68 rfl ?_))
      exact k I1 m1 (wfr_1 f1 (by omega))
  · rw [if_pos cc, setM_e (by decide : (-1000002 : Int32) < 0)] at k
    obtain ⟨f, st, l, g1, g2, g3, g4, g5, g6⟩ := wf_file hw (show n < 30 by omega) cc
    rw [g5]
    refine ev_if_lt (pc := 50) 56 dX8_write_50 (by decide) (kt := fun c => absurd c (nI_pos (by omega))) (kf := fun c50 => ev_ldc (pc := 53) kC_8_80 dX8_write_53 (ev_iret (pc := 55) dX8_write_55 rfl ?_))
    exact k I hm (wfr_rf I)
theorem m_wipes {D : Nat → Int32} (hr : rowM I D) {j : Nat} (hj : j < 40) (k : Q (some (.int (D j))) (ui (ui I 83 j 0) 83 (120 + j) (-1), J, KR p)) : T d me_X8_wipes [.ref 82, .int (nI j)] L I J p Q := by
  refine am_enter [some (.ref 82), some (.int (nI j)), none] rfl rfl rfl rfl ?_
  refine ev_aload_n (pc := 0) dX8_wipes_0 rfl (ev_getr (pc := 1) kF_8_7 dX8_wipes_1 rfl rfl rfl (ev_iconst (pc := 4) (v := (0)) dX8_wipes_4 iconst_c0 (ev_iload_n (pc := 5) dX8_wipes_5 rfl (ev_iadd (pc := 6) dX8_wipes_6 (ev_iald (pc := 7) (i := j) dX8_wipes_7 rfl (Int32.zero_add _) (by omega) rfl (?_))))))
  rw [hr j (by omega)]
  refine ev_istore_n (pc := 8) dX8_wipes_8 rfl (ev_aload_n (pc := 9) dX8_wipes_9 rfl (ev_getr (pc := 10) kF_8_7 dX8_wipes_10 rfl rfl rfl (ev_iconst (pc := 13) (v := (0)) dX8_wipes_13 iconst_c0 (ev_iload_n (pc := 14) dX8_wipes_14 rfl (ev_iadd (pc := 15) dX8_wipes_15 (ev_iconst (pc := 16) (v := (0)) dX8_wipes_16 iconst_c0 (ev_iast (pc := 17) (i := j) dX8_wipes_17 rfl rfl (Int32.zero_add _) (by omega) rfl (ev_aload_n (pc := 18) dX8_wipes_18 rfl (ev_getr (pc := 19) kF_8_7 dX8_wipes_19 rfl rfl rfl (ev_bipush (pc := 22) (v := (120)) dX8_wipes_22 bipush_c120 (ev_iload_n (pc := 24) dX8_wipes_24 rfl (ev_iadd (pc := 25) dX8_wipes_25 (ev_iconst (pc := 26) (v := (-1)) dX8_wipes_26 iconst_cm1 (ev_iast (pc := 27) (i := 120 + j) dX8_wipes_27 rfl rfl (nI_add 120 _) (by omega) rfl (ev_iload_n (pc := 28) dX8_wipes_28 rfl (ev_iret (pc := 29) dX8_wipes_29 rfl ?_))))))))))))))))
  exact k
theorem rowM_wp {D : Nat → Int32} (hr : rowM I D) (j : Nat) : rowM (ui (ui I 83 j 0) 83 (120 + j) (-1)) (wpD D j) := rowM_ui (rowM_ui hr j 0) (120 + j) (-1)
theorem m_wipe (hd : 5 ≤ d) (hm : Mod rn I s) (hw : wfD s.1) (hn : s.2.1 ≤ 4) (a : Int32) (k : ∀ I', Mod rn I' (oWipeM rn s a).2 → wfr I I' → Q (some (.int (oWipeM rn s a).1)) (I', J, KR p)) : T d me_X8_wipe [.ref 82, .int a] L I J p Q := by
  refine am_enter [some (.ref 82), some (.int a)] rfl rfl rfl rfl ?_
  unfold oWipeM at k
  refine ev_iload_n (pc := 0) dX8_wipe_0 rfl (ev_invS (pc := 1) kS_8_64 dX8_wipe_1 rfl (by omega) rfl ?_)
  refine m_isPage (by omega) a ?_
  cases q1 : inR 0 39 a
  · rw [q1, if_neg (by decide)] at k
    refine ev_ifb_ne (pc := 4) 10 dX8_wipe_4 (by decide) (kt := fun c => absurd c (by simp)) (kf := fun c4 => ev_ldc (pc := 7) kC_8_79 dX8_wipe_7 (ev_iret (pc := 9) dX8_wipe_9 rfl ?_))
    exact k I hm (wfr_rf I)
  rw [q1, if_pos rfl] at k
  obtain ⟨j, n1, n2, rfl⟩ := inR_n (by omega) (by omega) q1
  rw [nI_clamp (by omega)] at k
  have ho := own_wf hw
  refine ev_ifb_ne (pc := 4) 10 dX8_wipe_4 (by decide) (kf := fun c => absurd c (by simp)) (kt := fun c4 => ev_aload_n (pc := 10) dX8_wipe_10 rfl (ev_iload_n (pc := 11) dX8_wipe_11 rfl (ev_invV (pc := 12) kV_8_68 dX8_wipe_12 rfl rfl rfl (by omega) rfl ?_)))
  refine m_isFree (by omega) hm.1 ho (by omega) ?_
  rw [decide_eq_true (show j < 40 by omega), Bool.true_and]
  unfold wpS at k
  cases q : fD s.1 j
  · have cc : s.1 (160 + j) ≠ -1 := of_decide_eq_false q
    rw [if_pos cc, setM_e (by decide : (-1000002 : Int32) < 0)] at k
    refine ev_ifb_ne (pc := 15) 21 dX8_wipe_15 (by decide) (kt := fun c => absurd c (by simp)) (kf := fun c15 => ev_ldc (pc := 18) kC_8_80 dX8_wipe_18 (ev_iret (pc := 20) dX8_wipe_20 rfl ?_))
    exact k I hm (wfr_rf I)
  · have cc : s.1 (160 + j) = -1 := of_decide_eq_true q
    have hne : ¬ s.1 j < 0 := by
      rcases (hw.1 j (by omega)).1 with e | e | e <;> rw [e] <;> decide
    rw [if_neg (fun q => q cc), setM_p hne] at k
    refine ev_ifb_ne (pc := 15) 21 dX8_wipe_15 (by decide) (kf := fun c => absurd c (by simp)) (kt := fun c15 => ev_aload_n (pc := 21) dX8_wipe_21 rfl (ev_invV (pc := 22) kV_8_86 dX8_wipe_22 rfl rfl rfl (by omega) rfl ?_))
    refine m_changes hm hn fun I2 m2 c2 => ?_
    refine ev_aload_n (pc := 25) dX8_wipe_25 rfl (ev_iload_n (pc := 26) dX8_wipe_26 rfl (ev_invV (pc := 27) kV_8_97 dX8_wipe_27 rfl rfl rfl (by omega) rfl ?_))
    have r2 := m2.1
    rw [chg_1] at r2
    refine m_wipes r2 (by omega) ?_
    refine ev_iret (pc := 30) dX8_wipe_30 rfl ?_
    exact k _ (Mod_1 m2 (rowM_wp r2 j) (fr1_ui (fr1_ui (fr1_rf _)))) (wfr_tr (wfr_c c2) (wfr_1 (fr1_ui (fr1_ui (fr1_rf _))) (by omega)))
theorem lp_mwipeAll (hd : 3 ≤ d) {D : Nat → Int32} (hw : wfD D) (I1 : Nat → Nat → Int32) (k : ∀ I2, rowM I2 (waD D 40) → fr1 83 I1 I2 → E me_X8_wipeAll d L 44 [some (.ref 82), some (.int (nI (cntB (mkF D) 40))), some (.int (nI 40))] [] I2 J p Q) : ∀ (n i : Nat) (I2 : Nat → Nat → Int32), i + n = 40 → rowM I2 (waD D i) → fr1 83 I1 I2 → E me_X8_wipeAll d L 8 [some (.ref 82), some (.int (nI (cntB (mkF D) i))), some (.int (nI i))] [] I2 J p Q
  | 0, i, I2, hi, hr, hf => by
    have e : i = 40 := by omega
    subst e
    refine ev_iload_n (pc := 8) dX8_wipeAll_8 rfl (ev_bipush (pc := 9) (v := (40)) dX8_wipeAll_9 bipush_c40 (ev_ncmp_ge (pc := 11) 44 (40) (40) dX8_wipeAll_11 (by decide) (rfl) (rfl) (by omega) (by omega) (kf := fun c => absurd c (by omega)) (kt := fun c11 => ?_)))
    exact k I2 hr hf
  | n + 1, i, I2, hi, hr, hf => by
    have hwi := wf_wa hw i (by omega)
    have ih := lp_mwipeAll hd hw I1 k n (i + 1)
    have hmi : waD D i i = D i := wa_hi i (by omega) i (by omega)
    simp only [waD, cntB] at ih
    refine ev_iload_n (pc := 8) dX8_wipeAll_8 rfl (ev_bipush (pc := 9) (v := (40)) dX8_wipeAll_9 bipush_c40 (ev_ncmp_ge (pc := 11) 44 (i) (40) dX8_wipeAll_11 (by decide) (rfl) (rfl) (by omega) (by omega) (kt := fun c => absurd c (by omega)) (kf := fun c11 => ev_iload_n (pc := 14) dX8_wipeAll_14 rfl (ev_aload_n (pc := 15) dX8_wipeAll_15 rfl (ev_iload_n (pc := 16) dX8_wipeAll_16 rfl (ev_invV (pc := 17) kV_8_68 dX8_wipeAll_17 rfl rfl rfl (by omega) rfl ?_))))))
    refine m_isFree (by omega) hr (own_wf hwi) (by omega) ?_
    rw [decide_eq_true (show i < 40 by omega), Bool.true_and, wa_fD (by omega)]
    unfold mkF at ih ⊢
    cases q : fD D i
    · rw [q, Bool.false_and, if_neg (by decide), if_neg (by decide)] at ih
      refine ev_ifb_eq (pc := 20) 35 dX8_wipeAll_20 (by decide) (kf := fun c => absurd c (by simp)) (kt := fun c20 => ev_iconst (pc := 35) (v := (0)) dX8_wipeAll_35 iconst_c0 (ev_iadd (pc := 36) dX8_wipeAll_36 (?_)))
      rw [show nI (cntB (fun j => fD D j && decide (D j ≠ 0)) i) + 0 = nI (cntB (fun j => fD D j && decide (D j ≠ 0)) i + 0) from nI_add _ 0]
      refine ev_istore_n (pc := 37) dX8_wipeAll_37 rfl (ev_iinc (pc := 38) dX8_wipeAll_38 rfl (iinc_1 _) rfl (ev_goto (pc := 41) 8 dX8_wipeAll_41 (by decide) (?_)))
      exact ih I2 (by omega) hr hf
    · rw [q, if_pos rfl, Bool.true_and] at ih
      refine ev_ifb_eq (pc := 20) 35 dX8_wipeAll_20 (by decide) (kt := fun c => absurd c (by simp)) (kf := fun c20 => ev_aload_n (pc := 23) dX8_wipeAll_23 rfl (ev_iload_n (pc := 24) dX8_wipeAll_24 rfl (ev_invV (pc := 25) kV_8_97 dX8_wipeAll_25 rfl rfl rfl (by omega) rfl ?_)))
      refine m_wipes hr (by omega) ?_
      rw [hmi]
      have r3 := rowM_wp hr i
      have f3 : fr1 83 I1 (ui (ui I2 83 i 0) 83 (120 + i) (-1)) := fr1_ui (fr1_ui hf)
      by_cases z : D i = 0
      · rw [decide_eq_false (fun q => q z), if_neg (by decide)] at ih
        rw [z]
        refine ev_if_le (pc := 28) 35 dX8_wipeAll_28 (by decide) (kf := fun c => absurd (by decide) c) (kt := fun c28 => ev_iconst (pc := 35) (v := (0)) dX8_wipeAll_35 iconst_c0 (ev_iadd (pc := 36) dX8_wipeAll_36 (?_)))
        rw [show nI (cntB (fun j => fD D j && decide (D j ≠ 0)) i) + 0 = nI (cntB (fun j => fD D j && decide (D j ≠ 0)) i + 0) from nI_add _ 0]
        refine ev_istore_n (pc := 37) dX8_wipeAll_37 rfl (ev_iinc (pc := 38) dX8_wipeAll_38 rfl (iinc_1 _) rfl (ev_goto (pc := 41) 8 dX8_wipeAll_41 (by decide) (?_)))
        exact ih _ (by omega) r3 f3
      · rw [decide_eq_true z, if_pos rfl] at ih
        have hp : ¬ D i ≤ 0 := by
          rcases (hw.1 i (by omega)).1 with e | e | e
          · exact absurd e z
          · rw [e]; decide
          · rw [e]; decide
        refine ev_if_le (pc := 28) 35 dX8_wipeAll_28 (by decide) (kt := fun c => absurd c (hp)) (kf := fun c28 => ev_iconst (pc := 31) (v := (1)) dX8_wipeAll_31 iconst_c1 (ev_goto (pc := 32) 36 dX8_wipeAll_32 (by decide) (ev_iadd (pc := 36) dX8_wipeAll_36 (?_))))
        rw [nI_1]
        refine ev_istore_n (pc := 37) dX8_wipeAll_37 rfl (ev_iinc (pc := 38) dX8_wipeAll_38 rfl (iinc_1 _) rfl (ev_goto (pc := 41) 8 dX8_wipeAll_41 (by decide) (?_)))
        exact ih _ (by omega) r3 f3
theorem m_wipeAll (hd : 5 ≤ d) (hm : Mod rn I s) (hw : wfD s.1) (hn : s.2.1 ≤ 4) (k : ∀ I', Mod rn I' (setM rn s (waS s.1)).2 → wfr I I' → Q (some (.int (setM rn s (waS s.1)).1)) (I', J, KR p)) : T d me_X8_wipeAll [.ref 82] L I J p Q := by
  refine am_enter [some (.ref 82), none, none] rfl rfl rfl rfl ?_
  unfold waS at k
  rw [setM_p (nI_pos (by have := cntB_le (mkF s.1) 40; omega))] at k
  refine ev_aload_n (pc := 0) dX8_wipeAll_0 rfl (ev_invV (pc := 1) kV_8_86 dX8_wipeAll_1 rfl rfl rfl (by omega) rfl ?_)
  refine m_changes hm hn fun I2 m2 c2 => ?_
  have r2 := m2.1
  rw [chg_1] at r2
  refine ev_iconst (pc := 4) (v := (0)) dX8_wipeAll_4 iconst_c0 (ev_istore_n (pc := 5) dX8_wipeAll_5 rfl (ev_iconst (pc := 6) (v := (0)) dX8_wipeAll_6 iconst_c0 (ev_istore_n (pc := 7) dX8_wipeAll_7 rfl (?_))))
  refine lp_mwipeAll (by omega) hw I2 (fun I3 r3 f3 => ?_) 40 0 I2 rfl r2 (fr1_rf _)
  refine ev_aload_n (pc := 44) dX8_wipeAll_44 rfl (ev_getr (pc := 45) kF_8_7 dX8_wipeAll_45 rfl rfl rfl (ev_sipush (pc := 48) (v := (248)) dX8_wipeAll_48 sipush_c248 (ev_iconst (pc := 51) (v := (0)) dX8_wipeAll_51 iconst_c0 (ev_iast (pc := 52) (i := 248) dX8_wipeAll_52 rfl rfl (rfl) (by omega) rfl (ev_iload_n (pc := 53) dX8_wipeAll_53 rfl (ev_iret (pc := 54) dX8_wipeAll_54 rfl ?_))))))
  exact k _ (Mod_1 m2 (rowM_ui r3 248 0) (fr1_ui f3)) (wfr_tr (wfr_c c2) (wfr_1 (fr1_ui f3) (by omega)))
end T50
