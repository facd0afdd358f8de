/-! ===== the history ===== -/
def pOK (p : Nat → Nat) : Prop := (∀ k, k < 5 → p k = 23 ∨ p k = 34 ∨ p k = 45 ∨ p k = 56 ∨ p k = 67) ∧ ∀ i j, i < 5 → j < 5 → p i = p j → i = j
theorem pOK.sh {p : Nat → Nat} (h : pOK p) {k : Nat} (hk : k < 5) (L : Nat) : am_nt (SH L) (p k) = some (0, 10) ∧ (Nat.blt 0 22 && Nat.blt 0 (p k)) = true := by
  rcases h.1 k hk with e | e | e | e | e <;> rw [e] <;> exact ⟨rfl, rfl⟩
theorem uk_KR (p : Nat → Nat) (i b : Nat) : uk (KR p) 22 i (some b) = KR (fun j => if j = i then b else p j) := by
  funext a j
  simp only [uk, KR]
  by_cases ha : a = 22
  · subst ha
    by_cases hj : j = i
    · simp [hj]
    · simp [hj]
  · have : Nat.beq a 22 = false := by
      cases hq : Nat.beq a 22 with
      | false => rfl
      | true => exact absurd (Nat.eq_of_beq_eq_true hq) ha
    rw [if_neg (fun q => ha q.1), this]
    rfl
/-- the oldest state's disk goes behind the others -/
def rotP (p : Nat → Nat) : Nat → Nat := fun k => if k < 4 then p (k + 1) else if k = 4 then p 0 else p k
theorem rotP_OK {p : Nat → Nat} (h : pOK p) : pOK (rotP p) := by
  obtain ⟨h1, h2⟩ := h
  refine ⟨fun k hk => ?_, fun i j hi hj e => ?_⟩
  · unfold rotP
    by_cases c : k < 4
    · rw [if_pos c]
      exact h1 _ (by omega)
    · rw [if_neg c, if_pos (by omega)]
      exact h1 _ (by omega)
  · unfold rotP at e
    by_cases c : i < 4 <;> by_cases c2 : j < 4
    · rw [if_pos c, if_pos c2] at e
      have := h2 _ _ (by omega) (by omega) e
      omega
    · rw [if_pos c, if_neg c2, if_pos (by omega)] at e
      have := h2 _ _ (by omega) (by omega) e
      omega
    · rw [if_neg c, if_pos (by omega), if_pos c2] at e
      have := h2 _ _ (by omega) (by omega) e
      omega
    · omega
section T19
variable {d L : Nat} {I : Nat → Nat → Int32} {J : Nat → Nat → Int64} {p : Nat → Nat} {Q : Option Value → am_M → Prop}
theorem t_stateAt {k : Nat} (hk : k ≤ 4) (h : Q (some (.ref (p k))) (I, J, KR p)) : T d me_X3_stateAt [.ref 21, .int (nI k)] L I J p Q := by
  refine am_enter [some (.ref 21), some (.int (nI k))] rfl rfl rfl rfl ?_
  refine ev_iload_n (pc := 0) dX3_stateAt_0 rfl (ev_if_lt (pc := 1) 18 dX3_stateAt_1 (by decide) (kt := fun c => absurd c (nI_pos (by omega))) (kf := fun c1 => ev_iload_n (pc := 4) dX3_stateAt_4 rfl (ev_iconst (pc := 5) (v := (4)) dX3_stateAt_5 iconst_c4 (ev_ncmp_gt (pc := 6) 18 (k) (4) dX3_stateAt_6 (by decide) (rfl) (rfl) (by omega) (by omega) (kt := fun c => absurd c (by omega)) (kf := fun c6 => ev_aload_n (pc := 9) dX3_stateAt_9 rfl (ev_getr (pc := 10) kF_3_11 dX3_stateAt_10 rfl rfl rfl (ev_iload_n (pc := 13) dX3_stateAt_13 rfl (ev_aald (pc := 14) (i := k) dX3_stateAt_14 rfl rfl (rfl) (by omega) rfl (rfl) (ev_goto (pc := 15) 19 dX3_stateAt_15 (by decide) (ev_aret (pc := 19) dX3_stateAt_19 rfl ?_))))))))))
  exact h
theorem t_draft (hd : 3 ≤ d) (hp : pOK p) {n : Nat} (hn : I 21 1 = nI n) (hn4 : n ≤ 4) (h : ∀ I', copC I I' (p n) 2 → Q none (I', J, KR p)) : T d me_X3_draft [.ref 21, .ref 2] L I J p Q := by
  refine am_enter [some (.ref 21), some (.ref 2), none] rfl rfl rfl rfl ?_
  refine ev_aload_n (pc := 0) dX3_draft_0 rfl (ev_aload_n (pc := 1) dX3_draft_1 rfl (ev_geti (pc := 2) kF_3_18 dX3_draft_2 rfl rfl (?_)))
  rw [hn]
  refine ev_invV (pc := 5) kV_3_22 dX3_draft_5 rfl rfl rfl (by omega) rfl ?_
  refine t_stateAt hn4 ?_
  rcases hp.1 n (by omega) with e | e | e | e | e <;> rw [e] at h ⊢
  · refine ev_astore_n (pc := 8) dX3_draft_8 rfl (ev_aload_n (pc := 9) dX3_draft_9 rfl (ev_ifnull (pc := 10) dX3_draft_10 (ev_aload_n (pc := 13) dX3_draft_13 rfl (ev_aload_n (pc := 14) dX3_draft_14 rfl (ev_invV (pc := 15) kV_3_26 dX3_draft_15 rfl rfl rfl (by omega) rfl ?_)))))
    refine t_copy_23_2 (by omega) fun I' h1 => ?_
    refine ev_vret (pc := 18) dX3_draft_18 rfl ?_
    exact h I' h1
  · refine ev_astore_n (pc := 8) dX3_draft_8 rfl (ev_aload_n (pc := 9) dX3_draft_9 rfl (ev_ifnull (pc := 10) dX3_draft_10 (ev_aload_n (pc := 13) dX3_draft_13 rfl (ev_aload_n (pc := 14) dX3_draft_14 rfl (ev_invV (pc := 15) kV_3_26 dX3_draft_15 rfl rfl rfl (by omega) rfl ?_)))))
    refine t_copy_34_2 (by omega) fun I' h1 => ?_
    refine ev_vret (pc := 18) dX3_draft_18 rfl ?_
    exact h I' h1
  · refine ev_astore_n (pc := 8) dX3_draft_8 rfl (ev_aload_n (pc := 9) dX3_draft_9 rfl (ev_ifnull (pc := 10) dX3_draft_10 (ev_aload_n (pc := 13) dX3_draft_13 rfl (ev_aload_n (pc := 14) dX3_draft_14 rfl (ev_invV (pc := 15) kV_3_26 dX3_draft_15 rfl rfl rfl (by omega) rfl ?_)))))
    refine t_copy_45_2 (by omega) fun I' h1 => ?_
    refine ev_vret (pc := 18) dX3_draft_18 rfl ?_
    exact h I' h1
  · refine ev_astore_n (pc := 8) dX3_draft_8 rfl (ev_aload_n (pc := 9) dX3_draft_9 rfl (ev_ifnull (pc := 10) dX3_draft_10 (ev_aload_n (pc := 13) dX3_draft_13 rfl (ev_aload_n (pc := 14) dX3_draft_14 rfl (ev_invV (pc := 15) kV_3_26 dX3_draft_15 rfl rfl rfl (by omega) rfl ?_)))))
    refine t_copy_56_2 (by omega) fun I' h1 => ?_
    refine ev_vret (pc := 18) dX3_draft_18 rfl ?_
    exact h I' h1
  · refine ev_astore_n (pc := 8) dX3_draft_8 rfl (ev_aload_n (pc := 9) dX3_draft_9 rfl (ev_ifnull (pc := 10) dX3_draft_10 (ev_aload_n (pc := 13) dX3_draft_13 rfl (ev_aload_n (pc := 14) dX3_draft_14 rfl (ev_invV (pc := 15) kV_3_26 dX3_draft_15 rfl rfl rfl (by omega) rfl ?_)))))
    refine t_copy_67_2 (by omega) fun I' h1 => ?_
    refine ev_vret (pc := 18) dX3_draft_18 rfl ?_
    exact h I' h1
theorem t_restore (hd : 3 ≤ d) (hp : pOK p) {n : Nat} (hn : I 21 1 = nI n) (hn4 : n ≤ 4) (h : ∀ I', copC I I' 2 (p n) → Q none (I', J, KR p)) : T d me_X3_restoreDraft [.ref 21, .ref 2] L I J p Q := by
  refine am_enter [some (.ref 21), some (.ref 2), none] rfl rfl rfl rfl ?_
  refine ev_aload_n (pc := 0) dX3_restoreDraft_0 rfl (ev_aload_n (pc := 1) dX3_restoreDraft_1 rfl (ev_geti (pc := 2) kF_3_18 dX3_restoreDraft_2 rfl rfl (?_)))
  rw [hn]
  refine ev_invV (pc := 5) kV_3_22 dX3_restoreDraft_5 rfl rfl rfl (by omega) rfl ?_
  refine t_stateAt hn4 ?_
  rcases hp.1 n (by omega) with e | e | e | e | e <;> rw [e] at h ⊢
  · refine ev_astore_n (pc := 8) dX3_restoreDraft_8 rfl (ev_aload_n (pc := 9) dX3_restoreDraft_9 rfl (ev_ifnull (pc := 10) dX3_restoreDraft_10 (ev_aload_n (pc := 13) dX3_restoreDraft_13 rfl (ev_aload_n (pc := 14) dX3_restoreDraft_14 rfl (ev_invV (pc := 15) kV_3_26 dX3_restoreDraft_15 rfl rfl rfl (by omega) rfl ?_)))))
    refine t_copy_2_23 (by omega) fun I' h1 => ?_
    refine ev_vret (pc := 18) dX3_restoreDraft_18 rfl ?_
    exact h I' h1
  · refine ev_astore_n (pc := 8) dX3_restoreDraft_8 rfl (ev_aload_n (pc := 9) dX3_restoreDraft_9 rfl (ev_ifnull (pc := 10) dX3_restoreDraft_10 (ev_aload_n (pc := 13) dX3_restoreDraft_13 rfl (ev_aload_n (pc := 14) dX3_restoreDraft_14 rfl (ev_invV (pc := 15) kV_3_26 dX3_restoreDraft_15 rfl rfl rfl (by omega) rfl ?_)))))
    refine t_copy_2_34 (by omega) fun I' h1 => ?_
    refine ev_vret (pc := 18) dX3_restoreDraft_18 rfl ?_
    exact h I' h1
  · refine ev_astore_n (pc := 8) dX3_restoreDraft_8 rfl (ev_aload_n (pc := 9) dX3_restoreDraft_9 rfl (ev_ifnull (pc := 10) dX3_restoreDraft_10 (ev_aload_n (pc := 13) dX3_restoreDraft_13 rfl (ev_aload_n (pc := 14) dX3_restoreDraft_14 rfl (ev_invV (pc := 15) kV_3_26 dX3_restoreDraft_15 rfl rfl rfl (by omega) rfl ?_)))))
    refine t_copy_2_45 (by omega) fun I' h1 => ?_
    refine ev_vret (pc := 18) dX3_restoreDraft_18 rfl ?_
    exact h I' h1
  · refine ev_astore_n (pc := 8) dX3_restoreDraft_8 rfl (ev_aload_n (pc := 9) dX3_restoreDraft_9 rfl (ev_ifnull (pc := 10) dX3_restoreDraft_10 (ev_aload_n (pc := 13) dX3_restoreDraft_13 rfl (ev_aload_n (pc := 14) dX3_restoreDraft_14 rfl (ev_invV (pc := 15) kV_3_26 dX3_restoreDraft_15 rfl rfl rfl (by omega) rfl ?_)))))
    refine t_copy_2_56 (by omega) fun I' h1 => ?_
    refine ev_vret (pc := 18) dX3_restoreDraft_18 rfl ?_
    exact h I' h1
  · refine ev_astore_n (pc := 8) dX3_restoreDraft_8 rfl (ev_aload_n (pc := 9) dX3_restoreDraft_9 rfl (ev_ifnull (pc := 10) dX3_restoreDraft_10 (ev_aload_n (pc := 13) dX3_restoreDraft_13 rfl (ev_aload_n (pc := 14) dX3_restoreDraft_14 rfl (ev_invV (pc := 15) kV_3_26 dX3_restoreDraft_15 rfl rfl rfl (by omega) rfl ?_)))))
    refine t_copy_2_67 (by omega) fun I' h1 => ?_
    refine ev_vret (pc := 18) dX3_restoreDraft_18 rfl ?_
    exact h I' h1
theorem lp_keep (p0 : Nat) (hp : pOK p) (h : Q none (I, J, KR (fun k => if k = 4 then p0 else if k < 4 then p (k + 1) else p k))) (h0 : p0 = p 0) : ∀ (n i : Nat) (p1 : Nat → Nat), i + n = 4 → (∀ k, p1 k = if k < i then p (k + 1) else p k) → E me_X3_keepDraft d L 28 [some (.ref 21), some (.ref p0), some (.int (nI i))] [] I J p1 Q
  | 0, i, p1, hi, hp1 => by
    have hs := hp.sh (k := 0) (by omega) L
    rw [← h0] at hs
    refine ev_iload_n (pc := 28) dX3_keepDraft_28 rfl (ev_iconst (pc := 29) (v := (4)) dX3_keepDraft_29 iconst_c4 (ev_ncmp_ge (pc := 30) 53 (i) (4) dX3_keepDraft_30 (by decide) (rfl) (rfl) (by omega) (by omega) (kf := fun c => absurd c (by omega)) (kt := fun c30 => ev_aload_n (pc := 53) dX3_keepDraft_53 rfl (ev_getr (pc := 54) kF_3_11 dX3_keepDraft_54 rfl rfl rfl (ev_iconst (pc := 57) (v := (4)) dX3_keepDraft_57 iconst_c4 (ev_aload_n (pc := 58) dX3_keepDraft_58 rfl (ev_aast (pc := 59) (f := 0) (i := 4) dX3_keepDraft_59 rfl (hs.1) (hs.2) (rfl) (by omega) rfl (?_))))))))
    rw [uk_KR]
    refine ev_vret (pc := 60) dX3_keepDraft_60 rfl ?_
    have e : (fun j => if j = 4 then p0 else p1 j) = (fun k => if k = 4 then p0 else if k < 4 then p (k + 1) else p k) := by
      funext k
      rw [hp1 k, show i = 4 by omega]
    rw [e]
    exact h
  | n + 1, i, p1, hi, hp1 => by
    have hs := hp.sh (k := i + 1) (by omega) L
    have e1 : p1 (i + 1) = p (i + 1) := by rw [hp1, if_neg (by omega)]
    rw [← e1] at hs
    refine ev_iload_n (pc := 28) dX3_keepDraft_28 rfl (ev_iconst (pc := 29) (v := (4)) dX3_keepDraft_29 iconst_c4 (ev_ncmp_ge (pc := 30) 53 (i) (4) dX3_keepDraft_30 (by decide) (rfl) (rfl) (by omega) (by omega) (kt := fun c => absurd c (by omega)) (kf := fun c30 => ev_aload_n (pc := 33) dX3_keepDraft_33 rfl (ev_getr (pc := 34) kF_3_11 dX3_keepDraft_34 rfl rfl rfl (ev_iload_n (pc := 37) dX3_keepDraft_37 rfl (ev_aload_n (pc := 38) dX3_keepDraft_38 rfl (ev_getr (pc := 39) kF_3_11 dX3_keepDraft_39 rfl rfl rfl (ev_iload_n (pc := 42) dX3_keepDraft_42 rfl (ev_iconst (pc := 43) (v := (1)) dX3_keepDraft_43 iconst_c1 (ev_iadd (pc := 44) dX3_keepDraft_44 (ev_aald (pc := 45) (i := i + 1) dX3_keepDraft_45 rfl rfl (nI_1 i) (by omega) rfl (rfl) (ev_aast (pc := 46) (f := 0) (i := i) dX3_keepDraft_46 rfl (hs.1) (hs.2) (rfl) (by omega) rfl (?_)))))))))))))
    rw [uk_KR]
    refine ev_iinc (pc := 47) dX3_keepDraft_47 rfl (iinc_1 _) rfl (ev_goto (pc := 50) 28 dX3_keepDraft_50 (by decide) (?_))
    refine lp_keep p0 hp h h0 n (i + 1) _ (by omega) fun k => ?_
    by_cases c : k = i
    · subst c
      rw [if_pos rfl, if_pos (by omega), e1]
    · rw [if_neg c, hp1 k]
      by_cases c2 : k < i
      · rw [if_pos c2, if_pos (by omega)]
      · rw [if_neg c2, if_neg (by omega)]
theorem t_keep (hp : pOK p) {n : Nat} (hn : I 21 1 = nI n) (hn4 : n ≤ 4) (h1 : n < 4 → Q none (ui I 21 1 (nI (n + 1)), J, KR p)) (h2 : n = 4 → Q none (I, J, KR (rotP p))) : T d me_X3_keepDraft [.ref 21] L I J p Q := by
  refine am_enter [some (.ref 21), none, none] rfl rfl rfl rfl ?_
  refine ev_aload_n (pc := 0) dX3_keepDraft_0 rfl (ev_geti (pc := 1) kF_3_18 dX3_keepDraft_1 rfl rfl (ev_iconst (pc := 4) (v := (4)) dX3_keepDraft_4 iconst_c4 (ev_ncmp_ge (pc := 5) 19 (n) (4) dX3_keepDraft_5 (by decide) (hn) (rfl) (by omega) (by omega) (fun c5 => ?_) (fun c5 => ?_))))
  · refine ev_aload_n (pc := 19) dX3_keepDraft_19 rfl (ev_getr (pc := 20) kF_3_11 dX3_keepDraft_20 rfl rfl rfl (ev_iconst (pc := 23) (v := (0)) dX3_keepDraft_23 iconst_c0 (ev_aald (pc := 24) (i := 0) dX3_keepDraft_24 rfl rfl (rfl) (by omega) rfl (rfl) (ev_astore_n (pc := 25) dX3_keepDraft_25 rfl (ev_iconst (pc := 26) (v := (0)) dX3_keepDraft_26 iconst_c0 (ev_istore_n (pc := 27) dX3_keepDraft_27 rfl (?_)))))))
    refine lp_keep (p 0) hp ?_ rfl 4 0 p rfl (fun k => by rw [if_neg (by omega)])
    have e : (fun k => if k = 4 then p 0 else if k < 4 then p (k + 1) else p k) = rotP p := by
      funext k
      unfold rotP
      by_cases c : k < 4
      · rw [if_neg (by omega), if_pos c, if_pos c]
      · rw [if_neg c, if_neg c]
    rw [e]
    exact h2 (by omega)
  · refine ev_aload_n (pc := 8) dX3_keepDraft_8 rfl (ev_dup (pc := 9) dX3_keepDraft_9 rfl (ev_geti (pc := 10) kF_3_18 dX3_keepDraft_10 rfl rfl (ev_iconst (pc := 13) (v := (1)) dX3_keepDraft_13 iconst_c1 (ev_iadd (pc := 14) dX3_keepDraft_14 (ev_puti (pc := 15) kF_3_18 dX3_keepDraft_15 rfl rfl rfl rfl rfl (ev_vret (pc := 18) dX3_keepDraft_18 rfl ?_))))))
    rw [hn, nI_1]
    exact h1 c5
theorem t_takeBack (hd : 4 ≤ d) (hp : pOK p) {n : Nat} (hn : I 21 1 = nI (n + 1)) (hn4 : n < 4) (h : ∀ I', copC (ui I 21 1 (nI n)) I' 2 (p n) → Q none (I', J, KR p)) : T d me_X3_takeBack [.ref 21, .ref 2] L I J p Q := by
  refine am_enter [some (.ref 21), some (.ref 2)] rfl rfl rfl rfl ?_
  refine ev_aload_n (pc := 0) dX3_takeBack_0 rfl (ev_geti (pc := 1) kF_3_18 dX3_takeBack_1 rfl rfl (ev_if_le (pc := 4) 22 dX3_takeBack_4 (by decide) (kt := fun c => absurd c (by rw [hn]; exact nI_nle (by omega) (by omega))) (kf := fun c4 => ev_aload_n (pc := 7) dX3_takeBack_7 rfl (ev_dup (pc := 8) dX3_takeBack_8 rfl (ev_geti (pc := 9) kF_3_18 dX3_takeBack_9 rfl rfl (ev_iconst (pc := 12) (v := (1)) dX3_takeBack_12 iconst_c1 (ev_isub (pc := 13) dX3_takeBack_13 (?_))))))))
  rw [hn, nI_pred]
  refine ev_puti (pc := 14) kF_3_18 dX3_takeBack_14 rfl rfl rfl rfl rfl (ev_aload_n (pc := 17) dX3_takeBack_17 rfl (ev_aload_n (pc := 18) dX3_takeBack_18 rfl (ev_invV (pc := 19) kV_3_30 dX3_takeBack_19 rfl rfl rfl (by omega) rfl ?_)))
  refine t_restore (by omega) hp (n := n) (by simp [ui]) (by omega) fun I' h1 => ?_
  refine ev_vret (pc := 22) dX3_takeBack_22 rfl ?_
  exact h I' h1
end T19
