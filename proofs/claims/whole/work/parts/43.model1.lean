/-! ===== the reference: its row (cell 83), how it stands; its small readers ===== -/
def ownOK (D : Nat → Int32) : Prop := ∀ j, j < 40 → D (160 + j) = -1 ∨ ∃ n, n < 31 ∧ D (160 + j) = nI n
def rowM (I : Nat → Nat → Int32) (D : Nat → Int32) : Prop := ∀ i, i < 252 → I 83 i = D i
def Mod (rn : Bool) (I : Nat → Nat → Int32) (s : Sta) : Prop :=
  rowM I s.1 ∧ I 82 4 = nI s.2.1 ∧ (∀ k, k < s.2.1 → ∀ i, i < 252 → I 84 (252 * k + i) = s.2.2.1 k i) ∧ I 82 5 = bI rn ∧ I 82 7 = nI s.2.2.2.1 ∧ ∀ i, i < s.2.2.2.1 → I 87 i = s.2.2.2.2 i
def mfr (I I' : Nat → Nat → Int32) : Prop := ∀ a, a < 82 → I' a = I a
theorem own_wf {D : Nat → Int32} (h : wfD D) : ownOK D := fun j hj => (h.1 j hj).2.2.2.2.1.imp id fun ⟨n, n1, n2⟩ => ⟨n, by omega, n2⟩
theorem own_lt {D : Nat → Int32} (h : ownOK D) {j : Nat} (hj : j < 40) : (D (160 + j) < 0) ↔ fD D j = true := by
  unfold fD
  rw [decide_eq_true_eq]
  rcases h j hj with e | ⟨n, n1, e⟩
  · rw [e]; decide
  · rw [e]
    exact ⟨fun c => absurd c (nI_pos (by omega)), fun c => absurd c (nI_ne_m1 (by omega))⟩
section T43
variable {d L : Nat} {I : Nat → Nat → Int32} {J : Nat → Nat → Int64} {p : Nat → Nat} {Q : Option Value → am_M → Prop} {D : Nat → Int32}
theorem m_in (a b : Nat) (v : Int32) (h : Q (some (.int (bI (inR a b v)))) (I, J, KR p)) : T d me_X8_in [.int v, .int (nI a), .int (nI b)] L I J p Q := by
  refine am_enter [some (.int v), some (.int (nI a)), some (.int (nI b))] rfl rfl rfl rfl ?_
  unfold inR at h
  refine ev_iload_n (pc := 0) dX8_in_0 rfl (ev_iload_n (pc := 1) dX8_in_1 rfl (ev_icmp_lt (pc := 2) 14 dX8_in_2 (by decide) (fun c2 => ?_) (fun c2 => ?_)))
  · rw [decide_eq_false (Int32.not_le.mpr c2)] at h
    refine ev_iconst (pc := 14) (v := (0)) dX8_in_14 iconst_c0 (ev_zret (pc := 15) dX8_in_15 rfl (bI_01 false) ?_)
    exact h
  · refine ev_iload_n (pc := 5) dX8_in_5 rfl (ev_iload_n (pc := 6) dX8_in_6 rfl (ev_icmp_gt (pc := 7) 14 dX8_in_7 (by decide) (fun c7 => ?_) (fun c7 => ?_)))
    · rw [decide_eq_false (p := v ≤ nI b) (Int32.not_le.mpr c7), Bool.and_false] at h
      refine ev_iconst (pc := 14) (v := (0)) dX8_in_14 iconst_c0 (ev_zret (pc := 15) dX8_in_15 rfl (bI_01 false) ?_)
      exact h
    · rw [decide_eq_true (Int32.not_lt.mp c2), decide_eq_true (Int32.not_lt.mp c7)] at h
      refine ev_iconst (pc := 10) (v := (1)) dX8_in_10 iconst_c1 (ev_goto (pc := 11) 15 dX8_in_11 (by decide) (ev_zret (pc := 15) dX8_in_15 rfl (bI_01 true) ?_))
      exact h
theorem m_isName (hd : 1 ≤ d) (v : Int32) (h : Q (some (.int (bI (inR 0 29 v)))) (I, J, KR p)) : T d me_X8_isName [.int v] L I J p Q := by
  refine am_enter [some (.int v)] rfl rfl rfl rfl ?_
  refine ev_iload_n (pc := 0) dX8_isName_0 rfl (ev_iconst (pc := 1) (v := (0)) dX8_isName_1 iconst_c0 (ev_bipush (pc := 2) (v := (29)) dX8_isName_2 bipush_c29 (ev_invS (pc := 4) kS_8_52 dX8_isName_4 rfl (by omega) rfl ?_)))
  refine m_in 0 29 v ?_
  refine ev_zret (pc := 7) dX8_isName_7 rfl (bI_01 _) ?_
  exact h
theorem m_isPage (hd : 1 ≤ d) (v : Int32) (h : Q (some (.int (bI (inR 0 39 v)))) (I, J, KR p)) : T d me_X8_isPage [.int v] L I J p Q := by
  refine am_enter [some (.int v)] rfl rfl rfl rfl ?_
  refine ev_iload_n (pc := 0) dX8_isPage_0 rfl (ev_iconst (pc := 1) (v := (0)) dX8_isPage_1 iconst_c0 (ev_bipush (pc := 2) (v := (39)) dX8_isPage_2 bipush_c39 (ev_invS (pc := 4) kS_8_52 dX8_isPage_4 rfl (by omega) rfl ?_)))
  refine m_in 0 39 v ?_
  refine ev_zret (pc := 7) dX8_isPage_7 rfl (bI_01 _) ?_
  exact h
theorem m_isFree (hd : 2 ≤ d) (hr : rowM I D) (ho : ownOK D) {j : Nat} (hj : j < 2 ^ 31) (h : Q (some (.int (bI (decide (j < 40) && fD D j)))) (I, J, KR p)) : T d me_X8_isFree [.ref 82, .int (nI j)] L I J p Q := by
  refine am_enter [some (.ref 82), some (.int (nI j))] rfl rfl rfl rfl ?_
  refine ev_iload_n (pc := 0) dX8_isFree_0 rfl (ev_invS (pc := 1) kS_8_64 dX8_isFree_1 rfl (by omega) rfl ?_)
  refine m_isPage (by omega) _ ?_
  rw [inR_nI (by omega) (by omega) hj]
  by_cases q : j < 40
  · rw [decide_eq_true q, Bool.true_and] at h
    rw [decide_eq_true (Nat.zero_le j), decide_eq_true (show j ≤ 39 by omega)]
    refine ev_ifb_eq (pc := 4) 24 dX8_isFree_4 (by decide) (kt := fun c => absurd c (by simp)) (kf := fun c4 => ev_aload_n (pc := 7) dX8_isFree_7 rfl (ev_getr (pc := 8) kF_8_7 dX8_isFree_8 rfl rfl rfl (ev_sipush (pc := 11) (v := (160)) dX8_isFree_11 sipush_c160 (ev_iload_n (pc := 14) dX8_isFree_14 rfl (ev_iadd (pc := 15) dX8_isFree_15 (ev_iald (pc := 16) (i := 160 + j) dX8_isFree_16 rfl (nI_add 160 j) (by omega) rfl (?_)))))))
    rw [hr (160 + j) (by omega)]
    cases f : fD D j
    · rw [f] at h
      refine ev_if_ge (pc := 17) 24 dX8_isFree_17 (by decide) (kf := fun c => absurd (Int32.not_lt.mp (fun c => by have := (own_lt ho q).mp c; rw [f] at this; cases this)) c) (kt := fun c17 => ev_iconst (pc := 24) (v := (0)) dX8_isFree_24 iconst_c0 (ev_zret (pc := 25) dX8_isFree_25 rfl (bI_01 false) ?_))
      exact h
    · rw [f] at h
      refine ev_if_ge (pc := 17) 24 dX8_isFree_17 (by decide) (kt := fun c => absurd c (Int32.not_le.mpr ((own_lt ho q).mpr f))) (kf := fun c17 => ev_iconst (pc := 20) (v := (1)) dX8_isFree_20 iconst_c1 (ev_goto (pc := 21) 25 dX8_isFree_21 (by decide) (ev_zret (pc := 25) dX8_isFree_25 rfl (bI_01 true) ?_)))
      exact h
  · rw [decide_eq_false q, Bool.false_and] at h
    rw [decide_eq_false (show ¬ j ≤ 39 by omega), Bool.and_false]
    refine ev_ifb_eq (pc := 4) 24 dX8_isFree_4 (by decide) (kf := fun c => absurd c (by simp)) (kt := fun c4 => ev_iconst (pc := 24) (v := (0)) dX8_isFree_24 iconst_c0 (ev_zret (pc := 25) dX8_isFree_25 rfl (bI_01 false) ?_))
    exact h
end T43
