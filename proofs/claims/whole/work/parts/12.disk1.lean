/-! ===== reads of the disk (cell 2), of the journal (9), of rows of pages ===== -/
def ix (n : Nat) (q : Int32) : Option Nat := if 0 ≤ q ∧ q < nI n then some q.toNatClampNeg else none
theorem ix_n {i n : Nat} (h : i < n) (hn : n < 2 ^ 31) : ix n (nI i) = some i := by
  unfold ix
  rw [if_pos ⟨nI_pos' (by omega), nI_lt h hn⟩, nI_clamp (by omega)]
theorem ix_neg {n : Nat} {q : Int32} (h : q < 0) : ix n q = none := if_neg fun c => Int32.not_le.mpr h c.1
theorem ix_ge {n : Nat} {q : Int32} (h : nI n ≤ q) : ix n q = none := if_neg fun c => Int32.not_le.mpr c.2 h
theorem ix_m1 (n : Nat) : ix n (-1) = none := ix_neg (by decide)
theorem ix_in {n : Nat} {q : Int32} (hn : n < 2 ^ 31) (h0 : ¬ q < 0) (h : ¬ nI n ≤ q) : ∃ j, j < n ∧ q = nI j := by
  rcases pk_ix q hn with h1 | h1 | h1
  · exact absurd h1 h0
  · exact absurd h1 h
  · exact h1
/-- how many of the first n have it -/
def cntB (P : Nat → Bool) : Nat → Nat
  | 0 => 0
  | n + 1 => cntB P n + (if P n then 1 else 0)
theorem cntB_le (P : Nat → Bool) : ∀ n, cntB P n ≤ n
  | 0 => Nat.le_refl _
  | n + 1 => by
    have := cntB_le P n
    simp only [cntB]
    split <;> omega
section T12
variable {d L : Nat} {I : Nat → Nat → Int32} {J : Nat → Nat → Int64} {p : Nat → Nat} {Q : Option Value → am_M → Prop}
theorem t_X0_isFree (q : Int32) (h : Q (some (.int (bI ((ix 40 q).elim false fun j => decide (I 7 j = -1))))) (I, J, KR p)) : T d me_X0_isFree [.ref 2, .int q] L I J p Q := by
  refine am_enter [some (.ref 2), some (.int q)] rfl rfl rfl rfl ?_
  refine ev_iload_n (pc := 0) dX0_isFree_0 rfl (ev_if_lt (pc := 1) 24 dX0_isFree_1 (by decide) (fun c1 => ?_) (fun c1 => ?_))
  · rw [ix_neg c1] at h
    refine ev_iconst (pc := 24) (v := (0)) dX0_isFree_24 iconst_c0 (ev_zret (pc := 25) dX0_isFree_25 rfl (bI_01 false) ?_)
    exact h
  refine ev_iload_n (pc := 4) dX0_isFree_4 rfl (ev_bipush (pc := 5) (v := (40)) dX0_isFree_5 bipush_c40 (ev_icmp_ge (pc := 7) 24 dX0_isFree_7 (by decide) (fun c7 => ?_) (fun c7 => ?_)))
  · rw [ix_ge c7] at h
    refine ev_iconst (pc := 24) (v := (0)) dX0_isFree_24 iconst_c0 (ev_zret (pc := 25) dX0_isFree_25 rfl (bI_01 false) ?_)
    exact h
  obtain ⟨j, hj, rfl⟩ := ix_in (by decide) c1 c7
  rw [ix_n hj (by decide)] at h
  refine ev_aload_n (pc := 10) dX0_isFree_10 rfl (ev_getr (pc := 11) kF_0_24 dX0_isFree_11 rfl rfl rfl (ev_iload_n (pc := 14) dX0_isFree_14 rfl (ev_iald (pc := 15) (i := j) dX0_isFree_15 rfl (rfl) (by omega) rfl (ev_iconst (pc := 16) (v := (-1)) dX0_isFree_16 iconst_cm1 (ev_icmp_ne (pc := 17) 24 dX0_isFree_17 (by decide) (fun c17 => ?_) (fun c17 => ?_))))))
  · refine ev_iconst (pc := 24) (v := (0)) dX0_isFree_24 iconst_c0 (ev_zret (pc := 25) dX0_isFree_25 rfl (bI_01 false) ?_)
    simpa [c17, bI] using h
  · refine ev_iconst (pc := 20) (v := (1)) dX0_isFree_20 iconst_c1 (ev_goto (pc := 21) 25 dX0_isFree_21 (by decide) (ev_zret (pc := 25) dX0_isFree_25 rfl (bI_01 true) ?_))
    simpa [c17, bI] using h
theorem t_X0_markOn (q : Int32) (h : Q (some (.int ((ix 40 q).elim (0) fun j => I 3 j))) (I, J, KR p)) : T d me_X0_markOn [.ref 2, .int q] L I J p Q := by
  refine am_enter [some (.ref 2), some (.int q)] rfl rfl rfl rfl ?_
  refine ev_iload_n (pc := 0) dX0_markOn_0 rfl (ev_if_lt (pc := 1) 19 dX0_markOn_1 (by decide) (fun c1 => ?_) (fun c1 => ?_))
  · rw [ix_neg c1] at h
    refine ev_iconst (pc := 19) (v := (0)) dX0_markOn_19 iconst_c0 (ev_iret (pc := 20) dX0_markOn_20 rfl ?_)
    exact h
  refine ev_iload_n (pc := 4) dX0_markOn_4 rfl (ev_bipush (pc := 5) (v := (40)) dX0_markOn_5 bipush_c40 (ev_icmp_ge (pc := 7) 19 dX0_markOn_7 (by decide) (fun c7 => ?_) (fun c7 => ?_)))
  · rw [ix_ge c7] at h
    refine ev_iconst (pc := 19) (v := (0)) dX0_markOn_19 iconst_c0 (ev_iret (pc := 20) dX0_markOn_20 rfl ?_)
    exact h
  obtain ⟨j, hj, rfl⟩ := ix_in (by decide) c1 c7
  rw [ix_n hj (by decide)] at h
  refine ev_aload_n (pc := 10) dX0_markOn_10 rfl (ev_getr (pc := 11) kF_0_9 dX0_markOn_11 rfl rfl rfl (ev_iload_n (pc := 14) dX0_markOn_14 rfl (ev_iald (pc := 15) (i := j) dX0_markOn_15 rfl (rfl) (by omega) rfl (ev_goto (pc := 16) 20 dX0_markOn_16 (by decide) (ev_iret (pc := 20) dX0_markOn_20 rfl ?_)))))
  exact h
theorem t_X0_nextOn (q : Int32) (h : Q (some (.int ((ix 40 q).elim (-1) fun j => I 6 j))) (I, J, KR p)) : T d me_X0_nextOn [.ref 2, .int q] L I J p Q := by
  refine am_enter [some (.ref 2), some (.int q)] rfl rfl rfl rfl ?_
  refine ev_iload_n (pc := 0) dX0_nextOn_0 rfl (ev_if_lt (pc := 1) 19 dX0_nextOn_1 (by decide) (fun c1 => ?_) (fun c1 => ?_))
  · rw [ix_neg c1] at h
    refine ev_iconst (pc := 19) (v := (-1)) dX0_nextOn_19 iconst_cm1 (ev_iret (pc := 20) dX0_nextOn_20 rfl ?_)
    exact h
  refine ev_iload_n (pc := 4) dX0_nextOn_4 rfl (ev_bipush (pc := 5) (v := (40)) dX0_nextOn_5 bipush_c40 (ev_icmp_ge (pc := 7) 19 dX0_nextOn_7 (by decide) (fun c7 => ?_) (fun c7 => ?_)))
  · rw [ix_ge c7] at h
    refine ev_iconst (pc := 19) (v := (-1)) dX0_nextOn_19 iconst_cm1 (ev_iret (pc := 20) dX0_nextOn_20 rfl ?_)
    exact h
  obtain ⟨j, hj, rfl⟩ := ix_in (by decide) c1 c7
  rw [ix_n hj (by decide)] at h
  refine ev_aload_n (pc := 10) dX0_nextOn_10 rfl (ev_getr (pc := 11) kF_0_21 dX0_nextOn_11 rfl rfl rfl (ev_iload_n (pc := 14) dX0_nextOn_14 rfl (ev_iald (pc := 15) (i := j) dX0_nextOn_15 rfl (rfl) (by omega) rfl (ev_goto (pc := 16) 20 dX0_nextOn_16 (by decide) (ev_iret (pc := 20) dX0_nextOn_20 rfl ?_)))))
  exact h
theorem t_X0_ownerOf (q : Int32) (h : Q (some (.int ((ix 40 q).elim (-1) fun j => I 7 j))) (I, J, KR p)) : T d me_X0_ownerOf [.ref 2, .int q] L I J p Q := by
  refine am_enter [some (.ref 2), some (.int q)] rfl rfl rfl rfl ?_
  refine ev_iload_n (pc := 0) dX0_ownerOf_0 rfl (ev_if_lt (pc := 1) 19 dX0_ownerOf_1 (by decide) (fun c1 => ?_) (fun c1 => ?_))
  · rw [ix_neg c1] at h
    refine ev_iconst (pc := 19) (v := (-1)) dX0_ownerOf_19 iconst_cm1 (ev_iret (pc := 20) dX0_ownerOf_20 rfl ?_)
    exact h
  refine ev_iload_n (pc := 4) dX0_ownerOf_4 rfl (ev_bipush (pc := 5) (v := (40)) dX0_ownerOf_5 bipush_c40 (ev_icmp_ge (pc := 7) 19 dX0_ownerOf_7 (by decide) (fun c7 => ?_) (fun c7 => ?_)))
  · rw [ix_ge c7] at h
    refine ev_iconst (pc := 19) (v := (-1)) dX0_ownerOf_19 iconst_cm1 (ev_iret (pc := 20) dX0_ownerOf_20 rfl ?_)
    exact h
  obtain ⟨j, hj, rfl⟩ := ix_in (by decide) c1 c7
  rw [ix_n hj (by decide)] at h
  refine ev_aload_n (pc := 10) dX0_ownerOf_10 rfl (ev_getr (pc := 11) kF_0_24 dX0_ownerOf_11 rfl rfl rfl (ev_iload_n (pc := 14) dX0_ownerOf_14 rfl (ev_iald (pc := 15) (i := j) dX0_ownerOf_15 rfl (rfl) (by omega) rfl (ev_goto (pc := 16) 20 dX0_ownerOf_16 (by decide) (ev_iret (pc := 20) dX0_ownerOf_20 rfl ?_)))))
  exact h
theorem t_X0_styleOn (q : Int32) (h : Q (some (.int ((ix 40 q).elim (-1) fun j => if I 3 j = 0 then -1 else I 4 j))) (I, J, KR p)) : T d me_X0_styleOn [.ref 2, .int q] L I J p Q := by
  refine am_enter [some (.ref 2), some (.int q)] rfl rfl rfl rfl ?_
  refine ev_iload_n (pc := 0) dX0_styleOn_0 rfl (ev_if_lt (pc := 1) 28 dX0_styleOn_1 (by decide) (fun c1 => ?_) (fun c1 => ?_))
  · rw [ix_neg c1] at h
    refine ev_iconst (pc := 28) (v := (-1)) dX0_styleOn_28 iconst_cm1 (ev_iret (pc := 29) dX0_styleOn_29 rfl ?_)
    exact h
  refine ev_iload_n (pc := 4) dX0_styleOn_4 rfl (ev_bipush (pc := 5) (v := (40)) dX0_styleOn_5 bipush_c40 (ev_icmp_ge (pc := 7) 28 dX0_styleOn_7 (by decide) (fun c7 => ?_) (fun c7 => ?_)))
  · rw [ix_ge c7] at h
    refine ev_iconst (pc := 28) (v := (-1)) dX0_styleOn_28 iconst_cm1 (ev_iret (pc := 29) dX0_styleOn_29 rfl ?_)
    exact h
  obtain ⟨j, hj, rfl⟩ := ix_in (by decide) c1 c7
  rw [ix_n hj (by decide)] at h
  refine ev_aload_n (pc := 10) dX0_styleOn_10 rfl (ev_getr (pc := 11) kF_0_9 dX0_styleOn_11 rfl rfl rfl (ev_iload_n (pc := 14) dX0_styleOn_14 rfl (ev_iald (pc := 15) (i := j) dX0_styleOn_15 rfl (rfl) (by omega) rfl (ev_if_eq (pc := 16) 28 dX0_styleOn_16 (by decide) (fun c16 => ?_) (fun c16 => ?_)))))
  · refine ev_iconst (pc := 28) (v := (-1)) dX0_styleOn_28 iconst_cm1 (ev_iret (pc := 29) dX0_styleOn_29 rfl ?_)
    simpa [c16] using h
  · refine ev_aload_n (pc := 19) dX0_styleOn_19 rfl (ev_getr (pc := 20) kF_0_15 dX0_styleOn_20 rfl rfl rfl (ev_iload_n (pc := 23) dX0_styleOn_23 rfl (ev_iald (pc := 24) (i := j) dX0_styleOn_24 rfl (rfl) (by omega) rfl (ev_goto (pc := 25) 29 dX0_styleOn_25 (by decide) (ev_iret (pc := 29) dX0_styleOn_29 rfl ?_)))))
    simpa [c16] using h
theorem t_X0_lengthOn (q : Int32) (h : Q (some (.int ((ix 40 q).elim (-1) fun j => if I 3 j = 1 then I 5 j else -1))) (I, J, KR p)) : T d me_X0_lengthOn [.ref 2, .int q] L I J p Q := by
  refine am_enter [some (.ref 2), some (.int q)] rfl rfl rfl rfl ?_
  refine ev_iload_n (pc := 0) dX0_lengthOn_0 rfl (ev_if_lt (pc := 1) 29 dX0_lengthOn_1 (by decide) (fun c1 => ?_) (fun c1 => ?_))
  · rw [ix_neg c1] at h
    refine ev_iconst (pc := 29) (v := (-1)) dX0_lengthOn_29 iconst_cm1 (ev_iret (pc := 30) dX0_lengthOn_30 rfl ?_)
    exact h
  refine ev_iload_n (pc := 4) dX0_lengthOn_4 rfl (ev_bipush (pc := 5) (v := (40)) dX0_lengthOn_5 bipush_c40 (ev_icmp_ge (pc := 7) 29 dX0_lengthOn_7 (by decide) (fun c7 => ?_) (fun c7 => ?_)))
  · rw [ix_ge c7] at h
    refine ev_iconst (pc := 29) (v := (-1)) dX0_lengthOn_29 iconst_cm1 (ev_iret (pc := 30) dX0_lengthOn_30 rfl ?_)
    exact h
  obtain ⟨j, hj, rfl⟩ := ix_in (by decide) c1 c7
  rw [ix_n hj (by decide)] at h
  refine ev_aload_n (pc := 10) dX0_lengthOn_10 rfl (ev_getr (pc := 11) kF_0_9 dX0_lengthOn_11 rfl rfl rfl (ev_iload_n (pc := 14) dX0_lengthOn_14 rfl (ev_iald (pc := 15) (i := j) dX0_lengthOn_15 rfl (rfl) (by omega) rfl (ev_iconst (pc := 16) (v := (1)) dX0_lengthOn_16 iconst_c1 (ev_icmp_ne (pc := 17) 29 dX0_lengthOn_17 (by decide) (fun c17 => ?_) (fun c17 => ?_))))))
  · refine ev_iconst (pc := 29) (v := (-1)) dX0_lengthOn_29 iconst_cm1 (ev_iret (pc := 30) dX0_lengthOn_30 rfl ?_)
    simpa [c17] using h
  · refine ev_aload_n (pc := 20) dX0_lengthOn_20 rfl (ev_getr (pc := 21) kF_0_18 dX0_lengthOn_21 rfl rfl rfl (ev_iload_n (pc := 24) dX0_lengthOn_24 rfl (ev_iald (pc := 25) (i := j) dX0_lengthOn_25 rfl (rfl) (by omega) rfl (ev_goto (pc := 26) 30 dX0_lengthOn_26 (by decide) (ev_iret (pc := 30) dX0_lengthOn_30 rfl ?_)))))
    simpa [c17] using h
theorem t_X0_hasFile (q : Int32) (h : Q (some (.int (bI ((ix 30 q).elim false fun j => decide (I 8 j ≠ -1))))) (I, J, KR p)) : T d me_X0_hasFile [.ref 2, .int q] L I J p Q := by
  refine am_enter [some (.ref 2), some (.int q)] rfl rfl rfl rfl ?_
  refine ev_iload_n (pc := 0) dX0_hasFile_0 rfl (ev_if_lt (pc := 1) 24 dX0_hasFile_1 (by decide) (fun c1 => ?_) (fun c1 => ?_))
  · rw [ix_neg c1] at h
    refine ev_iconst (pc := 24) (v := (0)) dX0_hasFile_24 iconst_c0 (ev_zret (pc := 25) dX0_hasFile_25 rfl (bI_01 false) ?_)
    exact h
  refine ev_iload_n (pc := 4) dX0_hasFile_4 rfl (ev_bipush (pc := 5) (v := (30)) dX0_hasFile_5 bipush_c30 (ev_icmp_ge (pc := 7) 24 dX0_hasFile_7 (by decide) (fun c7 => ?_) (fun c7 => ?_)))
  · rw [ix_ge c7] at h
    refine ev_iconst (pc := 24) (v := (0)) dX0_hasFile_24 iconst_c0 (ev_zret (pc := 25) dX0_hasFile_25 rfl (bI_01 false) ?_)
    exact h
  obtain ⟨j, hj, rfl⟩ := ix_in (by decide) c1 c7
  rw [ix_n hj (by decide)] at h
  refine ev_aload_n (pc := 10) dX0_hasFile_10 rfl (ev_getr (pc := 11) kF_0_27 dX0_hasFile_11 rfl rfl rfl (ev_iload_n (pc := 14) dX0_hasFile_14 rfl (ev_iald (pc := 15) (i := j) dX0_hasFile_15 rfl (rfl) (by omega) rfl (ev_iconst (pc := 16) (v := (-1)) dX0_hasFile_16 iconst_cm1 (ev_icmp_eq (pc := 17) 24 dX0_hasFile_17 (by decide) (fun c17 => ?_) (fun c17 => ?_))))))
  · refine ev_iconst (pc := 24) (v := (0)) dX0_hasFile_24 iconst_c0 (ev_zret (pc := 25) dX0_hasFile_25 rfl (bI_01 false) ?_)
    simpa [c17, bI] using h
  · refine ev_iconst (pc := 20) (v := (1)) dX0_hasFile_20 iconst_c1 (ev_goto (pc := 21) 25 dX0_hasFile_21 (by decide) (ev_zret (pc := 25) dX0_hasFile_25 rfl (bI_01 true) ?_))
    simpa [c17, bI] using h
theorem lp_files : ∀ (n i k : Nat), i + n = 30 → k = cntB (fun j => decide (I 8 j ≠ -1)) i → Q (some (.int (nI (cntB (fun j => decide (I 8 j ≠ -1)) 30)))) (I, J, KR p) → E me_X0_files d L 4 [some (.ref 2), some (.int (nI k)), some (.int (nI i))] [] I J p Q
  | 0, i, k, hi, hk, h => by
    refine ev_iload_n (pc := 4) dX0_files_4 rfl (ev_bipush (pc := 5) (v := (30)) dX0_files_5 bipush_c30 (ev_ncmp_ge (pc := 7) 29 (i) (30) dX0_files_7 (by decide) (rfl) (rfl) (by omega) (by omega) (kf := fun c => absurd c (by omega)) (kt := fun c7 => ev_iload_n (pc := 29) dX0_files_29 rfl (ev_iret (pc := 30) dX0_files_30 rfl ?_))))
    have e : i = 30 := by omega
    subst e
    rw [hk]
    exact h
  | n + 1, i, k, hi, hk, h => by
    refine ev_iload_n (pc := 4) dX0_files_4 rfl (ev_bipush (pc := 5) (v := (30)) dX0_files_5 bipush_c30 (ev_ncmp_ge (pc := 7) 29 (i) (30) dX0_files_7 (by decide) (rfl) (rfl) (by omega) (by omega) (kt := fun c => absurd c (by omega)) (kf := fun c7 => ev_aload_n (pc := 10) dX0_files_10 rfl (ev_getr (pc := 11) kF_0_27 dX0_files_11 rfl rfl rfl (ev_iload_n (pc := 14) dX0_files_14 rfl (ev_iald (pc := 15) (i := i) dX0_files_15 rfl (rfl) (by omega) rfl (ev_iconst (pc := 16) (v := (-1)) dX0_files_16 iconst_cm1 (ev_icmp_eq (pc := 17) 23 dX0_files_17 (by decide) (fun c17 => ?_) (fun c17 => ?_)))))))))
    · refine ev_iinc (pc := 23) dX0_files_23 rfl (iinc_1 _) rfl (ev_goto (pc := 26) 4 dX0_files_26 (by decide) (?_))
      exact lp_files n (i + 1) k (by omega) (by simp [cntB, hk, c17]) h
    · refine ev_iinc (pc := 20) dX0_files_20 rfl (iinc_1 _) rfl (ev_iinc (pc := 23) dX0_files_23 rfl (iinc_1 _) rfl (ev_goto (pc := 26) 4 dX0_files_26 (by decide) (?_)))
      exact lp_files n (i + 1) (k + 1) (by omega) (by simp [cntB, hk, c17]) h
theorem t_X0_files (h : Q (some (.int (nI (cntB (fun j => decide (I 8 j ≠ -1)) 30)))) (I, J, KR p)) : T d me_X0_files [.ref 2] L I J p Q := by
  refine am_enter [some (.ref 2), none, none] rfl rfl rfl rfl ?_
  refine ev_iconst (pc := 0) (v := (0)) dX0_files_0 iconst_c0 (ev_istore_n (pc := 1) dX0_files_1 rfl (ev_iconst (pc := 2) (v := (0)) dX0_files_2 iconst_c0 (ev_istore_n (pc := 3) dX0_files_3 rfl (?_))))
  exact lp_files 30 0 0 rfl rfl h
end T12
