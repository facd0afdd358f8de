/-! ===== the changes, whole calls ===== -/
def oWrite (s : Sta) (a b c e : Int32) : Int32 × Sta := if inR 0 29 a && (inR 0 9 b && (inR 1 12 c && inR 0 2 e)) then setS s (wrS s.1 a.toNatClampNeg b c.toNatClampNeg e.toNatClampNeg) else (-1000001, s)
def oDelete (s : Sta) (a : Int32) : Int32 × Sta := if inR 0 29 a then setS s (dlS s.1 a.toNatClampNeg) else (-1000001, s)
def oWipe (s : Sta) (a : Int32) : Int32 × Sta := if inR 0 39 a then setS s (wpS s.1 a.toNatClampNeg) else (-1000001, s)
def oWipeAll (s : Sta) : Int32 × Sta := setS s (waS s.1)
def oClaim (s : Sta) (a b : Int32) : Int32 × Sta := if !decide (a < 0) && (decide (b = -1) || inR 0 29 b) then setS s (clS s.1 a.toNatClampNeg b) else (-1000001, s)
def oUndo (s : Sta) : Int32 × Sta := if s.2.1 = 0 then (-1000002, s) else (nI (s.2.1 - 1), (s.2.2.1 (s.2.1 - 1), s.2.1 - 1, s.2.2))
def oType (s : Sta) (a : Int32) : Int32 × Sta := if inR 32 126 a then (if s.2.2.2.1 < 60 then (nI (s.2.2.2.1 + 1), (s.1, s.2.1, s.2.2.1, s.2.2.2.1 + 1, fun i => if i = s.2.2.2.1 then a else s.2.2.2.2 i)) else (-1000003, s)) else (-1000001, s)
def oClear (s : Sta) : Int32 × Sta := (nI s.2.2.2.1, (s.1, s.2.1, s.2.2.1, 0, s.2.2.2.2))
section W35
variable {D : Nat → Int32}
theorem nI_le40 {m : Nat} (h : m < 2 ^ 31) (e : nI m < 0) : False := absurd e (nI_pos h)
theorem wr_err {nm s len lay : Nat} (h1 : 1 ≤ len) (h12 : len ≤ 12) (e : (wrS D nm (nI s) len lay).1 < 0) : (wrS D nm (nI s) len lay).2 = D := by
  unfold wrS at e ⊢
  by_cases c : D (200 + nm) ≠ -1
  · rw [if_pos c]
  · rw [if_neg c] at e ⊢
    by_cases c2 : cntB (fD D) 40 < len
    · rw [if_pos c2]
    · rw [if_neg c2] at e
      obtain ⟨o1, o2⟩ := chC_ok (lay := lay) (show len ≤ cntB (fD D) 40 by omega)
      have := o1.lt 0 (by omega)
      exact (nI_le40 (by omega) e).elim
theorem wr_wf (hw : wfD D) {nm s len lay : Nat} (hnm : nm < 30) (hs : s < 10) (h1 : 1 ≤ len) (h12 : len ≤ 12) : wfD (wrS D nm (nI s) len lay).2 := by
  unfold wrS
  by_cases c : D (200 + nm) ≠ -1
  · rw [if_pos c]; exact hw
  · rw [if_neg c]
    by_cases c2 : cntB (fD D) 40 < len
    · rw [if_pos c2]; exact hw
    · rw [if_neg c2]
      obtain ⟨o1, o2⟩ := chC_ok (lay := lay) (show len ≤ cntB (fD D) 40 by omega)
      exact wf_top (wf_lay hw hnm hs o1 (by omega) (by omega)) fun i hi => by
        simp only [uD]
        rw [if_neg (by omega)]
theorem dl_err {nm : Nat} (e : (dlS D nm).1 < 0) : (dlS D nm).2 = D := by
  unfold dlS at e ⊢
  by_cases c : D (200 + nm) = -1
  · rw [if_pos c]
  · rw [if_neg c] at e
    have := cntB_le (fD (relD D nm)) 40
    exact (nI_le40 (by omega) e).elim
theorem dl_wf (hw : wfD D) {nm : Nat} (hnm : nm < 30) : wfD (dlS D nm).2 := by
  unfold dlS
  by_cases c : D (200 + nm) = -1
  · rw [if_pos c]; exact hw
  · rw [if_neg c]
    exact wf_top (wf_rel hw hnm c) fun i hi => by
      simp only [uD]
      rw [if_neg (by omega)]
theorem wp_err (hw : wfD D) {j : Nat} (hj : j < 40) (e : (wpS D j).1 < 0) : (wpS D j).2 = D := by
  unfold wpS at e ⊢
  by_cases c : D (160 + j) ≠ -1
  · rw [if_pos c]
  · rw [if_neg c] at e
    rcases (hw.1 j hj).1 with a | a | a <;> dsimp only at e <;> rw [a] at e <;> exact absurd e (by decide)
theorem wpS_wf (hw : wfD D) {j : Nat} (hj : j < 40) : wfD (wpS D j).2 := by
  unfold wpS
  by_cases c : D (160 + j) ≠ -1
  · rw [if_pos c]; exact hw
  · rw [if_neg c]
    exact wf_wp hw hj (by unfold fD; simpa using c)
theorem cl_err (hw : wfD D) {g : Nat} {nm : Int32} (e : (clS D g nm).1 < 0) : (clS D g nm).2 = D := by
  unfold clS at e ⊢
  by_cases c : (glD D (fD D)).length ≤ g
  · rw [if_pos c]
  · rw [if_neg c] at e ⊢
    split at e
    · rename_i c2; rw [if_pos c2]
    · obtain ⟨m1, m2, m3⟩ := gl_mem (getD_mem (show g < (glD D (fD D)).length by omega))
      obtain ⟨g1, g2, g3, g4, g5, g6⟩ := pg_row hw m1 m3 m2
      have := (wf_l hw m1 m3).2.2
      exact (nI_le40 (by omega) e).elim
theorem cl_wf (hw : wfD D) {g : Nat} {nm : Int32} (hn : nm = -1 ∨ ∃ n, n < 30 ∧ nm = nI n) : wfD (clS D g nm).2 := by
  unfold clS
  by_cases c : (glD D (fD D)).length ≤ g
  · rw [if_pos c]; exact hw
  · rw [if_neg c]
    obtain ⟨m1, m2, m3⟩ := gl_mem (getD_mem (show g < (glD D (fD D)).length by omega))
    obtain ⟨g1, g2, g3, g4, g5, g6⟩ := pg_row hw m1 m3 m2
    have l3 := (wf_l hw m1 m3).2.2
    generalize (glD D (fD D)).getD g 0 = f at m1 m2 m3 g1 g2 g3 g4 g5 g6 l3 ⊢
    obtain ⟨s, s1, s2⟩ := (hw.1 f m1).2.1 (by rw [m3]; decide)
    have hi := its_ok hw (f := f) hn
    split
    · exact hw
    · rename_i c2
      rcases hi with e | ⟨n, n1, e⟩
      · exact absurd (Or.inl e) c2
      · rw [e, nI_clamp (by omega), s2]
        exact wf_top (wf_lay hw n1 s1 g1 g2 (by omega)) fun i hi => by
          simp only [uD]
          rw [if_neg (by omega)]
theorem wa_wf (hw : wfD D) : wfD (waS D).2 := wf_0 (wf_wa hw 40 (by omega))
end W35
section T35
variable {d L : Nat} {I : Nat → Nat → Int32} {J : Nat → Nat → Int64} {p : Nat → Nat} {Q : Option Value → am_M → Prop} {s : Sta}
theorem settle (hd : 1 ≤ d) (hc : Cls I p s) (hn : s.2.1 ≤ 4) {r : Int32 × (Nat → Int32)} {I1 I2 : Nat → Nat → Int32} (h1 : copC I I1 (p s.2.1) 2) (ho : ofr I1 I2) (hr : Rep I2 2 r.2) (he : r.1 < 0 → r.2 = s.1)
    (k : ∀ I' p', Cls I' p' (setS s r).2 → cfr I I' → Q (some (.int (setS s r).1)) (I', J, KR p')) : T d me_X7_settled [.ref 1, .int r.1] L I2 J p Q := by
  obtain ⟨m1, m2⟩ := Mid_of hc hn h1
  refine t_settled hd m1 hn (fun a ha => ho a (by omega)) (by rw [ho 78 (by omega)]) hr he fun I' p' h2 h3 h4 => k I' p' h2 fun a ha => ?_
  rcases ha with e | e
  · subst e; rw [h4, ho 0 (by omega), m2 0 (by omega)]
  · rw [h3 a e, ho a (by omega), m2 a (by omega)]
theorem c_write (hd : 6 ≤ d) (hc : Cls I p s) (hw : Wst s) (a b c e : Int32) (k : ∀ I' J' p', Cls I' p' (oWrite s a b c e).2 → cfr I I' → Q (some (.int (oWrite s a b c e).1)) (I', J', KR p')) : T d me_X7_write [.ref 1, .int a, .int b, .int c, .int e] L I J p Q := by
  refine am_enter [some (.ref 1), some (.int a), some (.int b), some (.int c), some (.int e)] rfl rfl rfl rfl ?_
  unfold oWrite at k
  refine ev_iload_n (pc := 0) dX7_write_0 rfl (ev_invS (pc := 1) kS_7_44 dX7_write_1 rfl (by omega) rfl ?_)
  refine t_isName (by omega) a ?_
  cases q1 : inR 0 29 a
  · rw [q1, Bool.false_and, if_neg (by decide)] at k
    refine ev_ifb_eq (pc := 4) 32 dX7_write_4 (by decide) (kf := fun c => absurd c (by simp)) (kt := fun c4 => ev_ldc (pc := 32) kC_7_58 dX7_write_32 (ev_iret (pc := 34) dX7_write_34 rfl ?_))
    exact k I J p hc (cfr_rf I)
  refine ev_ifb_eq (pc := 4) 32 dX7_write_4 (by decide) (kt := fun c => absurd c (by simp)) (kf := fun c4 => ev_iload_n (pc := 7) dX7_write_7 rfl (ev_iconst (pc := 8) (v := (0)) dX7_write_8 iconst_c0 (ev_bipush (pc := 9) (v := (9)) dX7_write_9 bipush_c9 (ev_invS (pc := 11) kS_7_48 dX7_write_11 rfl (by omega) rfl ?_))))
  refine t_within 0 9 b ?_
  cases q2 : inR 0 9 b
  · rw [q2, Bool.false_and, Bool.and_false, if_neg (by decide)] at k
    refine ev_ifb_eq (pc := 14) 32 dX7_write_14 (by decide) (kf := fun c => absurd c (by simp)) (kt := fun c14 => ev_ldc (pc := 32) kC_7_58 dX7_write_32 (ev_iret (pc := 34) dX7_write_34 rfl ?_))
    exact k I J p hc (cfr_rf I)
  refine ev_ifb_eq (pc := 14) 32 dX7_write_14 (by decide) (kt := fun c => absurd c (by simp)) (kf := fun c14 => ev_iload_n (pc := 17) dX7_write_17 rfl (ev_invS (pc := 18) kS_7_52 dX7_write_18 rfl (by omega) rfl ?_))
  refine t_isLength (by omega) c ?_
  cases q3 : inR 1 12 c
  · rw [q3, Bool.false_and, Bool.and_false, Bool.and_false, if_neg (by decide)] at k
    refine ev_ifb_eq (pc := 21) 32 dX7_write_21 (by decide) (kf := fun c => absurd c (by simp)) (kt := fun c21 => ev_ldc (pc := 32) kC_7_58 dX7_write_32 (ev_iret (pc := 34) dX7_write_34 rfl ?_))
    exact k I J p hc (cfr_rf I)
  refine ev_ifb_eq (pc := 21) 32 dX7_write_21 (by decide) (kt := fun c => absurd c (by simp)) (kf := fun c21 => ev_iload (pc := 24) dX7_write_24 rfl (ev_invS (pc := 26) kS_7_55 dX7_write_26 rfl (by omega) rfl ?_))
  refine t_isLayout (by omega) e ?_
  cases q4 : inR 0 2 e
  · rw [q4, Bool.and_false, Bool.and_false, Bool.and_false, if_neg (by decide)] at k
    refine ev_ifb_ne (pc := 29) 35 dX7_write_29 (by decide) (kt := fun c => absurd c (by simp)) (kf := fun c29 => ev_ldc (pc := 32) kC_7_58 dX7_write_32 (ev_iret (pc := 34) dX7_write_34 rfl ?_))
    exact k I J p hc (cfr_rf I)
  rw [q1, q2, q3, q4, if_pos (by decide)] at k
  obtain ⟨a, a1, a2, rfl⟩ := inR_n (by omega) (by omega) q1
  obtain ⟨b, b1, b2, rfl⟩ := inR_n (by omega) (by omega) q2
  obtain ⟨c, g1, g2, rfl⟩ := inR_n (by omega) (by omega) q3
  obtain ⟨e, e1, e2, rfl⟩ := inR_n (by omega) (by omega) q4
  rw [nI_clamp (by omega), nI_clamp (by omega), nI_clamp (by omega)] at k
  refine ev_ifb_ne (pc := 29) 35 dX7_write_29 (by decide) (kf := fun c => absurd c (by simp)) (kt := fun c29 => ev_aload_n (pc := 35) dX7_write_35 rfl (ev_getr (pc := 36) kF_7_26 dX7_write_36 rfl rfl rfl (ev_aload_n (pc := 39) dX7_write_39 rfl (ev_getr (pc := 40) kF_7_10 dX7_write_40 rfl rfl rfl (ev_invV (pc := 43) kV_7_59 dX7_write_43 rfl rfl rfl (by omega) rfl ?_)))))
  refine t_draft (by omega) hc.1 hc.2.2.1 hw.2.1 fun I1 h1 => ?_
  obtain ⟨m1, m2⟩ := Mid_of hc hw.2.1 h1
  refine ev_aload_n (pc := 46) dX7_write_46 rfl (ev_aload_n (pc := 47) dX7_write_47 rfl (ev_iload_n (pc := 48) dX7_write_48 rfl (ev_iload_n (pc := 49) dX7_write_49 rfl (ev_iload_n (pc := 50) dX7_write_50 rfl (ev_iload (pc := 51) dX7_write_51 rfl (ev_invV (pc := 53) kV_7_63 dX7_write_53 rfl rfl rfl (by omega) rfl ?_))))))
  refine t_writeFile (by omega) m1.1.2.1 hw.1 (by omega) g1 g2 (by omega) fun I2 r2 o2 => ?_
  refine ev_invV (pc := 56) kV_7_67 dX7_write_56 rfl rfl rfl (by omega) rfl ?_
  refine settle (by omega) hc hw.2.1 h1 o2 r2 (wr_err g1 g2) fun I' p' h2 h3 => ?_
  refine ev_iret (pc := 59) dX7_write_59 rfl ?_
  exact k I' J p' h2 h3
theorem c_delete (hd : 6 ≤ d) (hc : Cls I p s) (hw : Wst s) (a : Int32) (k : ∀ I' J' p', Cls I' p' (oDelete s a).2 → cfr I I' → Q (some (.int (oDelete s a).1)) (I', J', KR p')) : T d me_X7_delete [.ref 1, .int a] L I J p Q := by
  refine am_enter [some (.ref 1), some (.int a)] rfl rfl rfl rfl ?_
  unfold oDelete at k
  refine ev_iload_n (pc := 0) dX7_delete_0 rfl (ev_invS (pc := 1) kS_7_44 dX7_delete_1 rfl (by omega) rfl ?_)
  refine t_isName (by omega) a ?_
  cases q1 : inR 0 29 a
  · rw [q1, if_neg (by decide)] at k
    refine ev_ifb_ne (pc := 4) 10 dX7_delete_4 (by decide) (kt := fun c => absurd c (by simp)) (kf := fun c4 => ev_ldc (pc := 7) kC_7_58 dX7_delete_7 (ev_iret (pc := 9) dX7_delete_9 rfl ?_))
    exact k I J p hc (cfr_rf I)
  rw [q1, if_pos rfl] at k
  obtain ⟨a, a1, a2, rfl⟩ := inR_n (by omega) (by omega) q1
  rw [nI_clamp (by omega)] at k
  refine ev_ifb_ne (pc := 4) 10 dX7_delete_4 (by decide) (kf := fun c => absurd c (by simp)) (kt := fun c4 => ev_aload_n (pc := 10) dX7_delete_10 rfl (ev_getr (pc := 11) kF_7_26 dX7_delete_11 rfl rfl rfl (ev_aload_n (pc := 14) dX7_delete_14 rfl (ev_getr (pc := 15) kF_7_10 dX7_delete_15 rfl rfl rfl (ev_invV (pc := 18) kV_7_59 dX7_delete_18 rfl rfl rfl (by omega) rfl ?_)))))
  refine t_draft (by omega) hc.1 hc.2.2.1 hw.2.1 fun I1 h1 => ?_
  obtain ⟨m1, m2⟩ := Mid_of hc hw.2.1 h1
  refine ev_aload_n (pc := 21) dX7_delete_21 rfl (ev_aload_n (pc := 22) dX7_delete_22 rfl (ev_iload_n (pc := 23) dX7_delete_23 rfl (ev_invV (pc := 24) kV_7_71 dX7_delete_24 rfl rfl rfl (by omega) rfl ?_)))
  refine t_deleteFile (by omega) m1.1.2.1 hw.1 (by omega) fun I2 r2 o2 => ?_
  refine ev_invV (pc := 27) kV_7_67 dX7_delete_27 rfl rfl rfl (by omega) rfl ?_
  refine settle (by omega) hc hw.2.1 h1 o2 r2 dl_err fun I' p' h2 h3 => ?_
  refine ev_iret (pc := 30) dX7_delete_30 rfl ?_
  exact k I' J p' h2 h3
theorem c_wipe (hd : 6 ≤ d) (hc : Cls I p s) (hw : Wst s) (a : Int32) (k : ∀ I' J' p', Cls I' p' (oWipe s a).2 → cfr I I' → Q (some (.int (oWipe s a).1)) (I', J', KR p')) : T d me_X7_wipe [.ref 1, .int a] L I J p Q := by
  refine am_enter [some (.ref 1), some (.int a)] rfl rfl rfl rfl ?_
  unfold oWipe at k
  refine ev_iload_n (pc := 0) dX7_wipe_0 rfl (ev_invS (pc := 1) kS_7_74 dX7_wipe_1 rfl (by omega) rfl ?_)
  refine t_isPage (by omega) a ?_
  cases q1 : inR 0 39 a
  · rw [q1, if_neg (by decide)] at k
    refine ev_ifb_ne (pc := 4) 10 dX7_wipe_4 (by decide) (kt := fun c => absurd c (by simp)) (kf := fun c4 => ev_ldc (pc := 7) kC_7_58 dX7_wipe_7 (ev_iret (pc := 9) dX7_wipe_9 rfl ?_))
    exact k I J p hc (cfr_rf I)
  rw [q1, if_pos rfl] at k
  obtain ⟨a, a1, a2, rfl⟩ := inR_n (by omega) (by omega) q1
  rw [nI_clamp (by omega)] at k
  refine ev_ifb_ne (pc := 4) 10 dX7_wipe_4 (by decide) (kf := fun c => absurd c (by simp)) (kt := fun c4 => ev_aload_n (pc := 10) dX7_wipe_10 rfl (ev_getr (pc := 11) kF_7_26 dX7_wipe_11 rfl rfl rfl (ev_aload_n (pc := 14) dX7_wipe_14 rfl (ev_getr (pc := 15) kF_7_10 dX7_wipe_15 rfl rfl rfl (ev_invV (pc := 18) kV_7_59 dX7_wipe_18 rfl rfl rfl (by omega) rfl ?_)))))
  refine t_draft (by omega) hc.1 hc.2.2.1 hw.2.1 fun I1 h1 => ?_
  obtain ⟨m1, m2⟩ := Mid_of hc hw.2.1 h1
  refine ev_aload_n (pc := 21) dX7_wipe_21 rfl (ev_aload_n (pc := 22) dX7_wipe_22 rfl (ev_iload_n (pc := 23) dX7_wipe_23 rfl (ev_invV (pc := 24) kV_7_77 dX7_wipe_24 rfl rfl rfl (by omega) rfl ?_)))
  refine t_wipePage (by omega) m1.1.2.1 (by omega) fun I2 r2 o2 => ?_
  refine ev_invV (pc := 27) kV_7_67 dX7_wipe_27 rfl rfl rfl (by omega) rfl ?_
  refine settle (by omega) hc hw.2.1 h1 o2 r2 (wp_err hw.1 (by omega)) fun I' p' h2 h3 => ?_
  refine ev_iret (pc := 30) dX7_wipe_30 rfl ?_
  exact k I' J p' h2 h3
theorem c_claim (hd : 7 ≤ d) (hc : Cls I p s) (hw : Wst s) (a b : Int32) (k : ∀ I' J' p', Cls I' p' (oClaim s a b).2 → cfr I I' → Q (some (.int (oClaim s a b).1)) (I', J', KR p')) : T d me_X7_claim [.ref 1, .int a, .int b] L I J p Q := by
  refine am_enter [some (.ref 1), some (.int a), some (.int b)] rfl rfl rfl rfl ?_
  unfold oClaim at k
  by_cases q0 : a < 0
  · rw [decide_eq_true q0, Bool.not_true, Bool.false_and, if_neg (by decide)] at k
    refine ev_iload_n (pc := 0) dX7_claim_0 rfl (ev_if_lt (pc := 1) 16 dX7_claim_1 (by decide) (kf := fun c => absurd (q0) c) (kt := fun c1 => ev_ldc (pc := 16) kC_7_58 dX7_claim_16 (ev_iret (pc := 18) dX7_claim_18 rfl ?_)))
    exact k I J p hc (cfr_rf I)
  rw [decide_eq_false q0, Bool.not_false, Bool.true_and] at k
  obtain ⟨g, g1, rfl⟩ := nI_of q0
  rw [nI_clamp g1] at k
  have join : (b = -1 ∨ ∃ n, n < 30 ∧ b = nI n) → (∀ I' J' p', Cls I' p' (setS s (clS s.1 g b)).2 → cfr I I' → Q (some (.int (setS s (clS s.1 g b)).1)) (I', J', KR p')) → E me_X7_claim d L 19 [some (.ref 1), some (.int (nI g)), some (.int b)] [] I J p Q := by
    intro hb k
    refine ev_aload_n (pc := 19) dX7_claim_19 rfl (ev_getr (pc := 20) kF_7_26 dX7_claim_20 rfl rfl rfl (ev_aload_n (pc := 23) dX7_claim_23 rfl (ev_getr (pc := 24) kF_7_10 dX7_claim_24 rfl rfl rfl (ev_invV (pc := 27) kV_7_59 dX7_claim_27 rfl rfl rfl (by omega) rfl ?_))))
    refine t_draft (by omega) hc.1 hc.2.2.1 hw.2.1 fun I1 h1 => ?_
    obtain ⟨m1, m2⟩ := Mid_of hc hw.2.1 h1
    refine ev_aload_n (pc := 30) dX7_claim_30 rfl (ev_aload_n (pc := 31) dX7_claim_31 rfl (ev_iload_n (pc := 32) dX7_claim_32 rfl (ev_iload_n (pc := 33) dX7_claim_33 rfl (ev_invV (pc := 34) kV_7_190 dX7_claim_34 rfl rfl rfl (by omega) rfl ?_))))
    refine t_claimGuess (by omega) m1.1.2.1 hw.1 g1 hb fun I2 J2 r2 o2 => ?_
    refine ev_invV (pc := 37) kV_7_67 dX7_claim_37 rfl rfl rfl (by omega) rfl ?_
    refine settle (by omega) hc hw.2.1 h1 o2 r2 (cl_err hw.1) fun I' p' h2 h3 => ?_
    refine ev_iret (pc := 40) dX7_claim_40 rfl ?_
    exact k I' J2 p' h2 h3
  by_cases qb : b = -1
  · rw [decide_eq_true qb, Bool.true_or, if_pos rfl] at k
    refine ev_iload_n (pc := 0) dX7_claim_0 rfl (ev_if_lt (pc := 1) 16 dX7_claim_1 (by decide) (kt := fun c => absurd c (q0)) (kf := fun c1 => ev_iload_n (pc := 4) dX7_claim_4 rfl (ev_iconst (pc := 5) (v := (-1)) dX7_claim_5 iconst_cm1 (ev_icmp_eq (pc := 6) 19 dX7_claim_6 (by decide) (kf := fun c => absurd (qb) c) (kt := fun c6 => ?_)))))
    exact join (Or.inl qb) k
  rw [decide_eq_false qb, Bool.false_or] at k
  refine ev_iload_n (pc := 0) dX7_claim_0 rfl (ev_if_lt (pc := 1) 16 dX7_claim_1 (by decide) (kt := fun c => absurd c (q0)) (kf := fun c1 => ev_iload_n (pc := 4) dX7_claim_4 rfl (ev_iconst (pc := 5) (v := (-1)) dX7_claim_5 iconst_cm1 (ev_icmp_eq (pc := 6) 19 dX7_claim_6 (by decide) (kt := fun c => absurd c (qb)) (kf := fun c6 => ev_iload_n (pc := 9) dX7_claim_9 rfl (ev_invS (pc := 10) kS_7_44 dX7_claim_10 rfl (by omega) rfl ?_))))))
  refine t_isName (by omega) b ?_
  cases q1 : inR 0 29 b
  · rw [q1, if_neg (by decide)] at k
    refine ev_ifb_ne (pc := 13) 19 dX7_claim_13 (by decide) (kt := fun c => absurd c (by simp)) (kf := fun c13 => ev_ldc (pc := 16) kC_7_58 dX7_claim_16 (ev_iret (pc := 18) dX7_claim_18 rfl ?_))
    exact k I J p hc (cfr_rf I)
  rw [q1, if_pos rfl] at k
  obtain ⟨n, n1, n2, n3⟩ := inR_n (by omega) (by omega) q1
  refine ev_ifb_ne (pc := 13) 19 dX7_claim_13 (by decide) (kf := fun c => absurd c (by simp)) (kt := fun c13 => ?_)
  exact join (Or.inr ⟨n, by omega, n3⟩) k
end T35
